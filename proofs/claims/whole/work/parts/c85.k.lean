/-! THE LAW'S LOOP: its cases, 4 -/
section LW3
variable {κ : KC} {P S : Nat} {w : Mm} {b L : Nat} {xs : Nat → Int32} {μ : MU} {f o n i : Int}
theorem la_45 (hO : Ok κ RL cL_law) (hD : Dp κ 60) (hs : SCR κ b L xs) (hw : LAW μ f o n w) (hn : 0 ≤ n ∧ n ≤ 511) (hi : 0 ≤ i ∧ i + 5 ≤ L) (kk : ∀ w', LAW μ f o (n + 1) w' → X κ P S w' 3096 (lsL b f μ o i) []) : X κ (P + 175) (S + 13300) w 2382 (lsL b f μ o i) [] := by
  obtain ⟨hX, hbl, hbA, hL⟩ := hs
  obtain ⟨A, hI, hR, hT⟩ := hw
  refine X_wi (fun hW => ?_)
  show X κ _ _ w 2382 [some (.ref b), some (rv f), some (rv μ.1), some (rv o), some (.int (I i)), none, none] []
  refine X_aload_n 2383 hO dL_law_2382 rfl rfl ?_
  refine X_aload_nR 2384 hO dL_law_2383 rfl rfl ?_
  refine X_iload 2386 hO dL_law_2384 rfl rfl ?_
  refine X_iconst 2387 hO dL_law_2386 rfl ?_
  refine X_iadd 2388 hO dL_law_2387 rfl ?_
  refine X_sld (i := i + 1) 2389 hO hX hbl hbA (by omega) hL dL_law_2388 rfl (fun v1 hv1 hrv1 => ?_)
  refine X_aload_n 2390 hO dL_law_2389 rfl rfl ?_
  refine X_callSX 2393 hO hD sL_stepsOf [_, _, _] (rest := []) rfl dL_law_2390 rfl (L_stepsOf hI hR hT hn hrv1) (by decide) (by decide) (by omega) (by omega) (fun v_ w1 hp => ?_)
  obtain ⟨k, r, w', x, rfl, hk, ⟨B, hm, hb, dd, hd, hM⟩, rfl, hxr⟩ := hp
  have hkr : IR k := by omega
  show X κ _ _ _ 2393 _ [.int (I k)]
  refine X_istore 2395 hO dL_law_2393 rfl rfl ?_
  refine X_aload_n 2396 hO dL_law_2395 rfl rfl ?_
  refine X_aload_nR 2397 hO dL_law_2396 rfl rfl ?_
  refine X_iload 2399 hO dL_law_2397 rfl rfl ?_
  refine X_iconst 2400 hO dL_law_2399 rfl ?_
  refine X_iadd 2401 hO dL_law_2400 rfl ?_
  refine X_sld (i := i + 1) 2402 hO hX hbl hbA (by omega) hL dL_law_2401 rfl (fun u1 hu1 hru1 => ?_)
  rw [show u1 = v1 from hu1.trans hv1.symm]
  refine XM_callVi 2405 hO hD hm.2.1.up4 lL_330 [_] (rest := []) rfl dL_law_2402 rfl (fun _ => hM x) (by omega) (by decide) (fun r2 w2 hr2 hp2 hR2 => ?_)
  obtain ⟨e1, e2⟩ := hp2
  subst r2
  subst w2
  have hlw := hm.up4.lw hR2
  refine X_istore 2407 hO dL_law_2405 rfl rfl ?_
  refine X_aload_n 2408 hO dL_law_2407 rfl rfl ?_
  refine XM_callVi 2411 hO hD hR2 lL_180 [] (rest := []) rfl dL_law_2408 rfl (c_thrown _ _ _) (by decide) (by decide) (fun t3 w3 ht3 hp3 hR3 => ?_)
  obtain ⟨e1, e2⟩ := hp3
  subst t3
  subst w3
  rw [show pc (KLw μ) (up w' 4 o 0 x) B 139 μ.1 0 = k from (pcm (by decide)).trans hb]
  refine X_iload 2413 hO dL_law_2411 rfl rfl ?_
  refine X_icmp_eq 2416 2418 hO dL_law_2413 rfl rfl hkr hkr (fun _ => ?_) (fun h => absurd rfl h)
  refine X_iload 2420 hO dL_law_2418 rfl rfl ?_
  refine X_if_ne 2423 2435 hO dL_law_2420 rfl rfl hkr (fun hk0 => ?_) (fun hk0 => ?_)
  · exact X_goto (tgt := 3096) hO dL_law_2435 rfl (X_wk (by simp only [lwk, lset, true_or, or_true, and_self]) (X_mono (by omega) (by omega) (kk _ hlw)))
  · have hx0 := hxr hk0
    refine X_aload_n 2424 hO dL_law_2423 rfl rfl ?_
    refine X_iconst 2425 hO dL_law_2424 rfl ?_
    refine X_lald (z := o) (i := 0) 2426 hO dL_law_2425 rfl hm.out2.1 (by rw [hm.out2.2]; decide) ?_
    rw [show pc (KLw μ) (up w' 4 o 0 x) B 4 o 0 = r from MID.at4.trans hx0]
    refine X_iload 2428 hO dL_law_2426 rfl rfl ?_
    refine X_i2l 2429 hO dL_law_2428 rfl hr2 ?_
    refine X_lcmpE 2430 hO dL_law_2429 rfl ?_
    exact X_if_eq 2433 2435 hO dL_law_2430 rfl rfl (by decide) (fun _ => X_goto (tgt := 3096) hO dL_law_2435 rfl (X_wk (by simp only [lwk, lset, true_or, or_true, and_self]) (X_mono (by omega) (by omega) (kk _ hlw)))) (fun h => absurd rfl h)
theorem la_46 (hO : Ok κ RL cL_law) (hD : Dp κ 60) (hs : SCR κ b L xs) (hw : LAW μ f o n w) (hn : 0 ≤ n ∧ n ≤ 511) (hi : 0 ≤ i ∧ i + 5 ≤ L) (kk : ∀ w', LAW μ f o (n + 1) w' → X κ P S w' 3096 (lsL b f μ o i) []) : X κ (P + 175) (S + 13300) w 2438 (lsL b f μ o i) [] := by
  obtain ⟨hX, hbl, hbA, hL⟩ := hs
  obtain ⟨A, hI, hR, hT⟩ := hw
  refine X_wi (fun hW => ?_)
  show X κ _ _ w 2438 [some (.ref b), some (rv f), some (rv μ.1), some (rv o), some (.int (I i)), none, none] []
  refine X_aload_n 2439 hO dL_law_2438 rfl rfl ?_
  refine X_aload_nR 2440 hO dL_law_2439 rfl rfl ?_
  refine X_iload 2442 hO dL_law_2440 rfl rfl ?_
  refine X_iconst 2443 hO dL_law_2442 rfl ?_
  refine X_iadd 2444 hO dL_law_2443 rfl ?_
  refine X_sld (i := i + 1) 2445 hO hX hbl hbA (by omega) hL dL_law_2444 rfl (fun v1 hv1 hrv1 => ?_)
  refine X_aload_n 2446 hO dL_law_2445 rfl rfl ?_
  refine X_callSX 2449 hO hD sL_bookmarkAt [_, _, _] (rest := []) rfl dL_law_2446 rfl (L_bookmarkAt hI hR hT hn hrv1) (by decide) (by decide) (by omega) (by omega) (fun v_ w1 hp => ?_)
  obtain ⟨k, r, w', x, rfl, hk, ⟨B, hm, hb, dd, hd, hM⟩, rfl, hxr⟩ := hp
  have hkr : IR k := by omega
  show X κ _ _ _ 2449 _ [.int (I k)]
  refine X_istore 2451 hO dL_law_2449 rfl rfl ?_
  refine X_aload_n 2452 hO dL_law_2451 rfl rfl ?_
  refine X_aload_nR 2453 hO dL_law_2452 rfl rfl ?_
  refine X_iload 2455 hO dL_law_2453 rfl rfl ?_
  refine X_iconst 2456 hO dL_law_2455 rfl ?_
  refine X_iadd 2457 hO dL_law_2456 rfl ?_
  refine X_sld (i := i + 1) 2458 hO hX hbl hbA (by omega) hL dL_law_2457 rfl (fun u1 hu1 hru1 => ?_)
  rw [show u1 = v1 from hu1.trans hv1.symm]
  refine XM_callVi 2461 hO hD hm.2.1.up4 lL_333 [_] (rest := []) rfl dL_law_2458 rfl (fun _ => hM x) (by omega) (by decide) (fun r2 w2 hr2 hp2 hR2 => ?_)
  obtain ⟨e1, e2⟩ := hp2
  subst r2
  subst w2
  have hlw := hm.up4.lw hR2
  refine X_istore 2463 hO dL_law_2461 rfl rfl ?_
  refine X_aload_n 2464 hO dL_law_2463 rfl rfl ?_
  refine XM_callVi 2467 hO hD hR2 lL_180 [] (rest := []) rfl dL_law_2464 rfl (c_thrown _ _ _) (by decide) (by decide) (fun t3 w3 ht3 hp3 hR3 => ?_)
  obtain ⟨e1, e2⟩ := hp3
  subst t3
  subst w3
  rw [show pc (KLw μ) (up w' 4 o 0 x) B 139 μ.1 0 = k from (pcm (by decide)).trans hb]
  refine X_iload 2469 hO dL_law_2467 rfl rfl ?_
  refine X_icmp_eq 2472 2474 hO dL_law_2469 rfl rfl hkr hkr (fun _ => ?_) (fun h => absurd rfl h)
  refine X_iload 2476 hO dL_law_2474 rfl rfl ?_
  refine X_if_ne 2479 2491 hO dL_law_2476 rfl rfl hkr (fun hk0 => ?_) (fun hk0 => ?_)
  · exact X_goto (tgt := 3096) hO dL_law_2491 rfl (X_wk (by simp only [lwk, lset, true_or, or_true, and_self]) (X_mono (by omega) (by omega) (kk _ hlw)))
  · have hx0 := hxr hk0
    refine X_aload_n 2480 hO dL_law_2479 rfl rfl ?_
    refine X_iconst 2481 hO dL_law_2480 rfl ?_
    refine X_lald (z := o) (i := 0) 2482 hO dL_law_2481 rfl hm.out2.1 (by rw [hm.out2.2]; decide) ?_
    rw [show pc (KLw μ) (up w' 4 o 0 x) B 4 o 0 = r from MID.at4.trans hx0]
    refine X_iload 2484 hO dL_law_2482 rfl rfl ?_
    refine X_i2l 2485 hO dL_law_2484 rfl hr2 ?_
    refine X_lcmpE 2486 hO dL_law_2485 rfl ?_
    exact X_if_eq 2489 2491 hO dL_law_2486 rfl rfl (by decide) (fun _ => X_goto (tgt := 3096) hO dL_law_2491 rfl (X_wk (by simp only [lwk, lset, true_or, or_true, and_self]) (X_mono (by omega) (by omega) (kk _ hlw)))) (fun h => absurd rfl h)
theorem la_47 (hO : Ok κ RL cL_law) (hD : Dp κ 60) (hs : SCR κ b L xs) (hw : LAW μ f o n w) (hn : 0 ≤ n ∧ n ≤ 511) (hi : 0 ≤ i ∧ i + 5 ≤ L) (kk : ∀ w', LAW μ f o (n + 1) w' → X κ P S w' 3096 (lsL b f μ o i) []) : X κ (P + 175) (S + 13300) w 2494 (lsL b f μ o i) [] := by
  obtain ⟨hX, hbl, hbA, hL⟩ := hs
  obtain ⟨A, hI, hR, hT⟩ := hw
  refine X_wi (fun hW => ?_)
  show X κ _ _ w 2494 [some (.ref b), some (rv f), some (rv μ.1), some (rv o), some (.int (I i)), none, none] []
  refine X_aload_n 2495 hO dL_law_2494 rfl rfl ?_
  refine X_aload_nR 2496 hO dL_law_2495 rfl rfl ?_
  refine X_iload 2498 hO dL_law_2496 rfl rfl ?_
  refine X_iconst 2499 hO dL_law_2498 rfl ?_
  refine X_iadd 2500 hO dL_law_2499 rfl ?_
  refine X_sld (i := i + 1) 2501 hO hX hbl hbA (by omega) hL dL_law_2500 rfl (fun v1 hv1 hrv1 => ?_)
  refine X_aload_n 2502 hO dL_law_2501 rfl rfl ?_
  refine X_callSX 2505 hO hD sL_lengthByReplay [_, _, _] (rest := []) rfl dL_law_2502 rfl (L_lengthByReplay hI hR hT hn hrv1) (by decide) (by decide) (by omega) (by omega) (fun v_ w1 hp => ?_)
  obtain ⟨k, r, w', x, rfl, hk, ⟨B, hm, hb, dd, hd, hM⟩, rfl, hxr⟩ := hp
  have hkr : IR k := by omega
  show X κ _ _ _ 2505 _ [.int (I k)]
  refine X_istore 2507 hO dL_law_2505 rfl rfl ?_
  refine X_aload_n 2508 hO dL_law_2507 rfl rfl ?_
  refine X_aload_nR 2509 hO dL_law_2508 rfl rfl ?_
  refine X_iload 2511 hO dL_law_2509 rfl rfl ?_
  refine X_iconst 2512 hO dL_law_2511 rfl ?_
  refine X_iadd 2513 hO dL_law_2512 rfl ?_
  refine X_sld (i := i + 1) 2514 hO hX hbl hbA (by omega) hL dL_law_2513 rfl (fun u1 hu1 hru1 => ?_)
  rw [show u1 = v1 from hu1.trans hv1.symm]
  refine XM_callVi 2517 hO hD hm.2.1.up4 lL_336 [_] (rest := []) rfl dL_law_2514 rfl (fun _ => hM x) (by omega) (by decide) (fun r2 w2 hr2 hp2 hR2 => ?_)
  obtain ⟨e1, e2⟩ := hp2
  subst r2
  subst w2
  have hlw := hm.up4.lw hR2
  refine X_istore 2519 hO dL_law_2517 rfl rfl ?_
  refine X_aload_n 2520 hO dL_law_2519 rfl rfl ?_
  refine XM_callVi 2523 hO hD hR2 lL_180 [] (rest := []) rfl dL_law_2520 rfl (c_thrown _ _ _) (by decide) (by decide) (fun t3 w3 ht3 hp3 hR3 => ?_)
  obtain ⟨e1, e2⟩ := hp3
  subst t3
  subst w3
  rw [show pc (KLw μ) (up w' 4 o 0 x) B 139 μ.1 0 = k from (pcm (by decide)).trans hb]
  refine X_iload 2525 hO dL_law_2523 rfl rfl ?_
  refine X_icmp_eq 2528 2530 hO dL_law_2525 rfl rfl hkr hkr (fun _ => ?_) (fun h => absurd rfl h)
  refine X_iload 2532 hO dL_law_2530 rfl rfl ?_
  refine X_if_ne 2535 2547 hO dL_law_2532 rfl rfl hkr (fun hk0 => ?_) (fun hk0 => ?_)
  · exact X_goto (tgt := 3096) hO dL_law_2547 rfl (X_wk (by simp only [lwk, lset, true_or, or_true, and_self]) (X_mono (by omega) (by omega) (kk _ hlw)))
  · have hx0 := hxr hk0
    refine X_aload_n 2536 hO dL_law_2535 rfl rfl ?_
    refine X_iconst 2537 hO dL_law_2536 rfl ?_
    refine X_lald (z := o) (i := 0) 2538 hO dL_law_2537 rfl hm.out2.1 (by rw [hm.out2.2]; decide) ?_
    rw [show pc (KLw μ) (up w' 4 o 0 x) B 4 o 0 = r from MID.at4.trans hx0]
    refine X_iload 2540 hO dL_law_2538 rfl rfl ?_
    refine X_i2l 2541 hO dL_law_2540 rfl hr2 ?_
    refine X_lcmpE 2542 hO dL_law_2541 rfl ?_
    exact X_if_eq 2545 2547 hO dL_law_2542 rfl rfl (by decide) (fun _ => X_goto (tgt := 3096) hO dL_law_2547 rfl (X_wk (by simp only [lwk, lset, true_or, or_true, and_self]) (X_mono (by omega) (by omega) (kk _ hlw)))) (fun h => absurd rfl h)
theorem la_48 (hO : Ok κ RL cL_law) (hD : Dp κ 60) (hs : SCR κ b L xs) (hw : LAW μ f o n w) (hn : 0 ≤ n ∧ n ≤ 511) (hi : 0 ≤ i ∧ i + 5 ≤ L) (kk : ∀ w', LAW μ f o (n + 1) w' → X κ P S w' 3096 (lsL b f μ o i) []) : X κ (P + 175) (S + 13300) w 2550 (lsL b f μ o i) [] := by
  obtain ⟨hX, hbl, hbA, hL⟩ := hs
  obtain ⟨A, hI, hR, hT⟩ := hw
  refine X_wi (fun hW => ?_)
  show X κ _ _ w 2550 [some (.ref b), some (rv f), some (rv μ.1), some (rv o), some (.int (I i)), none, none] []
  refine X_aload_n 2551 hO dL_law_2550 rfl rfl ?_
  refine X_aload_nR 2552 hO dL_law_2551 rfl rfl ?_
  refine X_iload 2554 hO dL_law_2552 rfl rfl ?_
  refine X_iconst 2555 hO dL_law_2554 rfl ?_
  refine X_iadd 2556 hO dL_law_2555 rfl ?_
  refine X_sld (i := i + 1) 2557 hO hX hbl hbA (by omega) hL dL_law_2556 rfl (fun v1 hv1 hrv1 => ?_)
  refine X_aload_nR 2558 hO dL_law_2557 rfl rfl ?_
  refine X_iload 2560 hO dL_law_2558 rfl rfl ?_
  refine X_iconst 2561 hO dL_law_2560 rfl ?_
  refine X_iadd 2562 hO dL_law_2561 rfl ?_
  refine X_sld (i := i + 2) 2563 hO hX hbl hbA (by omega) hL dL_law_2562 rfl (fun v2 hv2 hrv2 => ?_)
  refine X_aload_n 2564 hO dL_law_2563 rfl rfl ?_
  refine X_callSX 2567 hO hD sL_charByReplay [_, _, _, _] (rest := []) rfl dL_law_2564 rfl (L_charByReplay hI hR hT hn hrv1 hrv2) (by decide) (by decide) (by omega) (by omega) (fun v_ w1 hp => ?_)
  obtain ⟨k, r, w', x, rfl, hk, ⟨B, hm, hb, dd, hd, hM⟩, rfl, hxr⟩ := hp
  have hkr : IR k := by omega
  show X κ _ _ _ 2567 _ [.int (I k)]
  refine X_istore 2569 hO dL_law_2567 rfl rfl ?_
  refine X_aload_n 2570 hO dL_law_2569 rfl rfl ?_
  refine X_aload_nR 2571 hO dL_law_2570 rfl rfl ?_
  refine X_iload 2573 hO dL_law_2571 rfl rfl ?_
  refine X_iconst 2574 hO dL_law_2573 rfl ?_
  refine X_iadd 2575 hO dL_law_2574 rfl ?_
  refine X_sld (i := i + 1) 2576 hO hX hbl hbA (by omega) hL dL_law_2575 rfl (fun u1 hu1 hru1 => ?_)
  rw [show u1 = v1 from hu1.trans hv1.symm]
  refine X_aload_nR 2577 hO dL_law_2576 rfl rfl ?_
  refine X_iload 2579 hO dL_law_2577 rfl rfl ?_
  refine X_iconst 2580 hO dL_law_2579 rfl ?_
  refine X_iadd 2581 hO dL_law_2580 rfl ?_
  refine X_sld (i := i + 2) 2582 hO hX hbl hbA (by omega) hL dL_law_2581 rfl (fun u2 hu2 hru2 => ?_)
  rw [show u2 = v2 from hu2.trans hv2.symm]
  refine XM_callVi 2585 hO hD hm.2.1.up4 lL_339 [_, _] (rest := []) rfl dL_law_2582 rfl (fun _ => hM x) (by omega) (by decide) (fun r2 w2 hr2 hp2 hR2 => ?_)
  obtain ⟨e1, e2⟩ := hp2
  subst r2
  subst w2
  have hlw := hm.up4.lw hR2
  refine X_istore 2587 hO dL_law_2585 rfl rfl ?_
  refine X_aload_n 2588 hO dL_law_2587 rfl rfl ?_
  refine XM_callVi 2591 hO hD hR2 lL_180 [] (rest := []) rfl dL_law_2588 rfl (c_thrown _ _ _) (by decide) (by decide) (fun t3 w3 ht3 hp3 hR3 => ?_)
  obtain ⟨e1, e2⟩ := hp3
  subst t3
  subst w3
  rw [show pc (KLw μ) (up w' 4 o 0 x) B 139 μ.1 0 = k from (pcm (by decide)).trans hb]
  refine X_iload 2593 hO dL_law_2591 rfl rfl ?_
  refine X_icmp_eq 2596 2598 hO dL_law_2593 rfl rfl hkr hkr (fun _ => ?_) (fun h => absurd rfl h)
  refine X_iload 2600 hO dL_law_2598 rfl rfl ?_
  refine X_if_ne 2603 2615 hO dL_law_2600 rfl rfl hkr (fun hk0 => ?_) (fun hk0 => ?_)
  · exact X_goto (tgt := 3096) hO dL_law_2615 rfl (X_wk (by simp only [lwk, lset, true_or, or_true, and_self]) (X_mono (by omega) (by omega) (kk _ hlw)))
  · have hx0 := hxr hk0
    refine X_aload_n 2604 hO dL_law_2603 rfl rfl ?_
    refine X_iconst 2605 hO dL_law_2604 rfl ?_
    refine X_lald (z := o) (i := 0) 2606 hO dL_law_2605 rfl hm.out2.1 (by rw [hm.out2.2]; decide) ?_
    rw [show pc (KLw μ) (up w' 4 o 0 x) B 4 o 0 = r from MID.at4.trans hx0]
    refine X_iload 2608 hO dL_law_2606 rfl rfl ?_
    refine X_i2l 2609 hO dL_law_2608 rfl hr2 ?_
    refine X_lcmpE 2610 hO dL_law_2609 rfl ?_
    exact X_if_eq 2613 2615 hO dL_law_2610 rfl rfl (by decide) (fun _ => X_goto (tgt := 3096) hO dL_law_2615 rfl (X_wk (by simp only [lwk, lset, true_or, or_true, and_self]) (X_mono (by omega) (by omega) (kk _ hlw)))) (fun h => absurd rfl h)
theorem la_49 (hO : Ok κ RL cL_law) (hD : Dp κ 60) (hs : SCR κ b L xs) (hw : LAW μ f o n w) (hn : 0 ≤ n ∧ n ≤ 511) (hi : 0 ≤ i ∧ i + 5 ≤ L) (kk : ∀ w', LAW μ f o (n + 1) w' → X κ P S w' 3096 (lsL b f μ o i) []) : X κ (P + 175) (S + 13300) w 2618 (lsL b f μ o i) [] := by
  obtain ⟨hX, hbl, hbA, hL⟩ := hs
  obtain ⟨A, hI, hR, hT⟩ := hw
  refine X_wi (fun hW => ?_)
  show X κ _ _ w 2618 [some (.ref b), some (rv f), some (rv μ.1), some (rv o), some (.int (I i)), none, none] []
  refine X_aload_n 2619 hO dL_law_2618 rfl rfl ?_
  refine X_aload_nR 2620 hO dL_law_2619 rfl rfl ?_
  refine X_iload 2622 hO dL_law_2620 rfl rfl ?_
  refine X_iconst 2623 hO dL_law_2622 rfl ?_
  refine X_iadd 2624 hO dL_law_2623 rfl ?_
  refine X_sld (i := i + 1) 2625 hO hX hbl hbA (by omega) hL dL_law_2624 rfl (fun v1 hv1 hrv1 => ?_)
  refine X_aload_nR 2626 hO dL_law_2625 rfl rfl ?_
  refine X_iload 2628 hO dL_law_2626 rfl rfl ?_
  refine X_iconst 2629 hO dL_law_2628 rfl ?_
  refine X_iadd 2630 hO dL_law_2629 rfl ?_
  refine X_sld (i := i + 2) 2631 hO hX hbl hbA (by omega) hL dL_law_2630 rfl (fun v2 hv2 hrv2 => ?_)
  refine X_aload_n 2632 hO dL_law_2631 rfl rfl ?_
  refine X_callSX 2635 hO hD sL_markByReplay [_, _, _, _] (rest := []) rfl dL_law_2632 rfl (L_markByReplay hI hR hT hn hrv1 hrv2) (by decide) (by decide) (by omega) (by omega) (fun v_ w1 hp => ?_)
  obtain ⟨k, r, w', x, rfl, hk, ⟨B, hm, hb, dd, hd, hM⟩, rfl, hxr⟩ := hp
  have hkr : IR k := by omega
  show X κ _ _ _ 2635 _ [.int (I k)]
  refine X_istore 2637 hO dL_law_2635 rfl rfl ?_
  refine X_aload_n 2638 hO dL_law_2637 rfl rfl ?_
  refine X_aload_nR 2639 hO dL_law_2638 rfl rfl ?_
  refine X_iload 2641 hO dL_law_2639 rfl rfl ?_
  refine X_iconst 2642 hO dL_law_2641 rfl ?_
  refine X_iadd 2643 hO dL_law_2642 rfl ?_
  refine X_sld (i := i + 1) 2644 hO hX hbl hbA (by omega) hL dL_law_2643 rfl (fun u1 hu1 hru1 => ?_)
  rw [show u1 = v1 from hu1.trans hv1.symm]
  refine X_aload_nR 2645 hO dL_law_2644 rfl rfl ?_
  refine X_iload 2647 hO dL_law_2645 rfl rfl ?_
  refine X_iconst 2648 hO dL_law_2647 rfl ?_
  refine X_iadd 2649 hO dL_law_2648 rfl ?_
  refine X_sld (i := i + 2) 2650 hO hX hbl hbA (by omega) hL dL_law_2649 rfl (fun u2 hu2 hru2 => ?_)
  rw [show u2 = v2 from hu2.trans hv2.symm]
  refine XM_callVi 2653 hO hD hm.2.1.up4 lL_342 [_, _] (rest := []) rfl dL_law_2650 rfl (fun _ => hM x) (by omega) (by decide) (fun r2 w2 hr2 hp2 hR2 => ?_)
  obtain ⟨e1, e2⟩ := hp2
  subst r2
  subst w2
  have hlw := hm.up4.lw hR2
  refine X_istore 2655 hO dL_law_2653 rfl rfl ?_
  refine X_aload_n 2656 hO dL_law_2655 rfl rfl ?_
  refine XM_callVi 2659 hO hD hR2 lL_180 [] (rest := []) rfl dL_law_2656 rfl (c_thrown _ _ _) (by decide) (by decide) (fun t3 w3 ht3 hp3 hR3 => ?_)
  obtain ⟨e1, e2⟩ := hp3
  subst t3
  subst w3
  rw [show pc (KLw μ) (up w' 4 o 0 x) B 139 μ.1 0 = k from (pcm (by decide)).trans hb]
  refine X_iload 2661 hO dL_law_2659 rfl rfl ?_
  refine X_icmp_eq 2664 2666 hO dL_law_2661 rfl rfl hkr hkr (fun _ => ?_) (fun h => absurd rfl h)
  refine X_iload 2668 hO dL_law_2666 rfl rfl ?_
  refine X_if_ne 2671 2683 hO dL_law_2668 rfl rfl hkr (fun hk0 => ?_) (fun hk0 => ?_)
  · exact X_goto (tgt := 3096) hO dL_law_2683 rfl (X_wk (by simp only [lwk, lset, true_or, or_true, and_self]) (X_mono (by omega) (by omega) (kk _ hlw)))
  · have hx0 := hxr hk0
    refine X_aload_n 2672 hO dL_law_2671 rfl rfl ?_
    refine X_iconst 2673 hO dL_law_2672 rfl ?_
    refine X_lald (z := o) (i := 0) 2674 hO dL_law_2673 rfl hm.out2.1 (by rw [hm.out2.2]; decide) ?_
    rw [show pc (KLw μ) (up w' 4 o 0 x) B 4 o 0 = r from MID.at4.trans hx0]
    refine X_iload 2676 hO dL_law_2674 rfl rfl ?_
    refine X_i2l 2677 hO dL_law_2676 rfl hr2 ?_
    refine X_lcmpE 2678 hO dL_law_2677 rfl ?_
    exact X_if_eq 2681 2683 hO dL_law_2678 rfl rfl (by decide) (fun _ => X_goto (tgt := 3096) hO dL_law_2683 rfl (X_wk (by simp only [lwk, lset, true_or, or_true, and_self]) (X_mono (by omega) (by omega) (kk _ hlw)))) (fun h => absurd rfl h)
theorem la_50 (hO : Ok κ RL cL_law) (hD : Dp κ 60) (hs : SCR κ b L xs) (hw : LAW μ f o n w) (hn : 0 ≤ n ∧ n ≤ 511) (hi : 0 ≤ i ∧ i + 5 ≤ L) (kk : ∀ w', LAW μ f o (n + 1) w' → X κ P S w' 3096 (lsL b f μ o i) []) : X κ (P + 175) (S + 13300) w 2686 (lsL b f μ o i) [] := by
  obtain ⟨hX, hbl, hbA, hL⟩ := hs
  obtain ⟨A, hI, hR, hT⟩ := hw
  refine X_wi (fun hW => ?_)
  show X κ _ _ w 2686 [some (.ref b), some (rv f), some (rv μ.1), some (rv o), some (.int (I i)), none, none] []
  refine X_aload_n 2687 hO dL_law_2686 rfl rfl ?_
  refine X_aload_nR 2688 hO dL_law_2687 rfl rfl ?_
  refine X_iload 2690 hO dL_law_2688 rfl rfl ?_
  refine X_iconst 2691 hO dL_law_2690 rfl ?_
  refine X_iadd 2692 hO dL_law_2691 rfl ?_
  refine X_sld (i := i + 1) 2693 hO hX hbl hbA (by omega) hL dL_law_2692 rfl (fun v1 hv1 hrv1 => ?_)
  refine X_aload_nR 2694 hO dL_law_2693 rfl rfl ?_
  refine X_iload 2696 hO dL_law_2694 rfl rfl ?_
  refine X_iconst 2697 hO dL_law_2696 rfl ?_
  refine X_iadd 2698 hO dL_law_2697 rfl ?_
  refine X_sld (i := i + 2) 2699 hO hX hbl hbA (by omega) hL dL_law_2698 rfl (fun v2 hv2 hrv2 => ?_)
  refine X_aload_n 2700 hO dL_law_2699 rfl rfl ?_
  refine X_callSX 2703 hO hD sL_storedByReplay [_, _, _, _] (rest := []) rfl dL_law_2700 rfl (L_storedByReplay hI hR hT hn hrv1 hrv2) (by decide) (by decide) (by omega) (by omega) (fun v_ w1 hp => ?_)
  obtain ⟨k, r, w', x, rfl, hk, ⟨B, hm, hb, dd, hd, hM⟩, rfl, hxr⟩ := hp
  have hkr : IR k := by omega
  show X κ _ _ _ 2703 _ [.int (I k)]
  refine X_istore 2705 hO dL_law_2703 rfl rfl ?_
  refine X_aload_n 2706 hO dL_law_2705 rfl rfl ?_
  refine X_aload_nR 2707 hO dL_law_2706 rfl rfl ?_
  refine X_iload 2709 hO dL_law_2707 rfl rfl ?_
  refine X_iconst 2710 hO dL_law_2709 rfl ?_
  refine X_iadd 2711 hO dL_law_2710 rfl ?_
  refine X_sld (i := i + 1) 2712 hO hX hbl hbA (by omega) hL dL_law_2711 rfl (fun u1 hu1 hru1 => ?_)
  rw [show u1 = v1 from hu1.trans hv1.symm]
  refine X_aload_nR 2713 hO dL_law_2712 rfl rfl ?_
  refine X_iload 2715 hO dL_law_2713 rfl rfl ?_
  refine X_iconst 2716 hO dL_law_2715 rfl ?_
  refine X_iadd 2717 hO dL_law_2716 rfl ?_
  refine X_sld (i := i + 2) 2718 hO hX hbl hbA (by omega) hL dL_law_2717 rfl (fun u2 hu2 hru2 => ?_)
  rw [show u2 = v2 from hu2.trans hv2.symm]
  refine XM_callVi 2721 hO hD hm.2.1.up4 lL_345 [_, _] (rest := []) rfl dL_law_2718 rfl (fun _ => hM x) (by omega) (by decide) (fun r2 w2 hr2 hp2 hR2 => ?_)
  obtain ⟨e1, e2⟩ := hp2
  subst r2
  subst w2
  have hlw := hm.up4.lw hR2
  refine X_istore 2723 hO dL_law_2721 rfl rfl ?_
  refine X_aload_n 2724 hO dL_law_2723 rfl rfl ?_
  refine XM_callVi 2727 hO hD hR2 lL_180 [] (rest := []) rfl dL_law_2724 rfl (c_thrown _ _ _) (by decide) (by decide) (fun t3 w3 ht3 hp3 hR3 => ?_)
  obtain ⟨e1, e2⟩ := hp3
  subst t3
  subst w3
  rw [show pc (KLw μ) (up w' 4 o 0 x) B 139 μ.1 0 = k from (pcm (by decide)).trans hb]
  refine X_iload 2729 hO dL_law_2727 rfl rfl ?_
  refine X_icmp_eq 2732 2734 hO dL_law_2729 rfl rfl hkr hkr (fun _ => ?_) (fun h => absurd rfl h)
  refine X_iload 2736 hO dL_law_2734 rfl rfl ?_
  refine X_if_ne 2739 2751 hO dL_law_2736 rfl rfl hkr (fun hk0 => ?_) (fun hk0 => ?_)
  · exact X_goto (tgt := 3096) hO dL_law_2751 rfl (X_wk (by simp only [lwk, lset, true_or, or_true, and_self]) (X_mono (by omega) (by omega) (kk _ hlw)))
  · have hx0 := hxr hk0
    refine X_aload_n 2740 hO dL_law_2739 rfl rfl ?_
    refine X_iconst 2741 hO dL_law_2740 rfl ?_
    refine X_lald (z := o) (i := 0) 2742 hO dL_law_2741 rfl hm.out2.1 (by rw [hm.out2.2]; decide) ?_
    rw [show pc (KLw μ) (up w' 4 o 0 x) B 4 o 0 = r from MID.at4.trans hx0]
    refine X_iload 2744 hO dL_law_2742 rfl rfl ?_
    refine X_i2l 2745 hO dL_law_2744 rfl hr2 ?_
    refine X_lcmpE 2746 hO dL_law_2745 rfl ?_
    exact X_if_eq 2749 2751 hO dL_law_2746 rfl rfl (by decide) (fun _ => X_goto (tgt := 3096) hO dL_law_2751 rfl (X_wk (by simp only [lwk, lset, true_or, or_true, and_self]) (X_mono (by omega) (by omega) (kk _ hlw)))) (fun h => absurd rfl h)
theorem la_51 (hO : Ok κ RL cL_law) (hD : Dp κ 60) (hs : SCR κ b L xs) (hw : LAW μ f o n w) (hn : 0 ≤ n ∧ n ≤ 511) (hi : 0 ≤ i ∧ i + 5 ≤ L) (kk : ∀ w', LAW μ f o (n + 1) w' → X κ P S w' 3096 (lsL b f μ o i) []) : X κ (P + 175) (S + 13300) w 2754 (lsL b f μ o i) [] := by
  obtain ⟨hX, hbl, hbA, hL⟩ := hs
  obtain ⟨A, hI, hR, hT⟩ := hw
  refine X_wi (fun hW => ?_)
  show X κ _ _ w 2754 [some (.ref b), some (rv f), some (rv μ.1), some (rv o), some (.int (I i)), none, none] []
  refine X_aload_n 2755 hO dL_law_2754 rfl rfl ?_
  refine X_aload_nR 2756 hO dL_law_2755 rfl rfl ?_
  refine X_iload 2758 hO dL_law_2756 rfl rfl ?_
  refine X_iconst 2759 hO dL_law_2758 rfl ?_
  refine X_iadd 2760 hO dL_law_2759 rfl ?_
  refine X_sld (i := i + 1) 2761 hO hX hbl hbA (by omega) hL dL_law_2760 rfl (fun v1 hv1 hrv1 => ?_)
  refine X_aload_n 2762 hO dL_law_2761 rfl rfl ?_
  refine X_callSX 2765 hO hD sL_entries [_, _, _] (rest := []) rfl dL_law_2762 rfl (L_entries hI hR hT hn hrv1) (by decide) (by decide) (by omega) (by omega) (fun v_ w1 hp => ?_)
  obtain ⟨k, r, w', x, rfl, hk, ⟨B, hm, hb, dd, hd, hM⟩, rfl, hxr⟩ := hp
  have hkr : IR k := by omega
  show X κ _ _ _ 2765 _ [.int (I k)]
  refine X_istore 2767 hO dL_law_2765 rfl rfl ?_
  refine X_aload_n 2768 hO dL_law_2767 rfl rfl ?_
  refine X_aload_nR 2769 hO dL_law_2768 rfl rfl ?_
  refine X_iload 2771 hO dL_law_2769 rfl rfl ?_
  refine X_iconst 2772 hO dL_law_2771 rfl ?_
  refine X_iadd 2773 hO dL_law_2772 rfl ?_
  refine X_sld (i := i + 1) 2774 hO hX hbl hbA (by omega) hL dL_law_2773 rfl (fun u1 hu1 hru1 => ?_)
  rw [show u1 = v1 from hu1.trans hv1.symm]
  refine XM_callVi 2777 hO hD hm.2.1.up4 lL_348 [_] (rest := []) rfl dL_law_2774 rfl (fun _ => hM x) (by omega) (by decide) (fun r2 w2 hr2 hp2 hR2 => ?_)
  obtain ⟨e1, e2⟩ := hp2
  subst r2
  subst w2
  have hlw := hm.up4.lw hR2
  refine X_istore 2779 hO dL_law_2777 rfl rfl ?_
  refine X_aload_n 2780 hO dL_law_2779 rfl rfl ?_
  refine XM_callVi 2783 hO hD hR2 lL_180 [] (rest := []) rfl dL_law_2780 rfl (c_thrown _ _ _) (by decide) (by decide) (fun t3 w3 ht3 hp3 hR3 => ?_)
  obtain ⟨e1, e2⟩ := hp3
  subst t3
  subst w3
  rw [show pc (KLw μ) (up w' 4 o 0 x) B 139 μ.1 0 = k from (pcm (by decide)).trans hb]
  refine X_iload 2785 hO dL_law_2783 rfl rfl ?_
  refine X_icmp_eq 2788 2790 hO dL_law_2785 rfl rfl hkr hkr (fun _ => ?_) (fun h => absurd rfl h)
  refine X_iload 2792 hO dL_law_2790 rfl rfl ?_
  refine X_if_ne 2795 2807 hO dL_law_2792 rfl rfl hkr (fun hk0 => ?_) (fun hk0 => ?_)
  · exact X_goto (tgt := 3096) hO dL_law_2807 rfl (X_wk (by simp only [lwk, lset, true_or, or_true, and_self]) (X_mono (by omega) (by omega) (kk _ hlw)))
  · have hx0 := hxr hk0
    refine X_aload_n 2796 hO dL_law_2795 rfl rfl ?_
    refine X_iconst 2797 hO dL_law_2796 rfl ?_
    refine X_lald (z := o) (i := 0) 2798 hO dL_law_2797 rfl hm.out2.1 (by rw [hm.out2.2]; decide) ?_
    rw [show pc (KLw μ) (up w' 4 o 0 x) B 4 o 0 = r from MID.at4.trans hx0]
    refine X_iload 2800 hO dL_law_2798 rfl rfl ?_
    refine X_i2l 2801 hO dL_law_2800 rfl hr2 ?_
    refine X_lcmpE 2802 hO dL_law_2801 rfl ?_
    exact X_if_eq 2805 2807 hO dL_law_2802 rfl rfl (by decide) (fun _ => X_goto (tgt := 3096) hO dL_law_2807 rfl (X_wk (by simp only [lwk, lset, true_or, or_true, and_self]) (X_mono (by omega) (by omega) (kk _ hlw)))) (fun h => absurd rfl h)
theorem la_52 (hO : Ok κ RL cL_law) (hD : Dp κ 60) (hs : SCR κ b L xs) (hw : LAW μ f o n w) (hn : 0 ≤ n ∧ n ≤ 511) (hi : 0 ≤ i ∧ i + 5 ≤ L) (kk : ∀ w', LAW μ f o (n + 1) w' → X κ P S w' 3096 (lsL b f μ o i) []) : X κ (P + 175) (S + 13300) w 2810 (lsL b f μ o i) [] := by
  obtain ⟨hX, hbl, hbA, hL⟩ := hs
  obtain ⟨A, hI, hR, hT⟩ := hw
  refine X_wi (fun hW => ?_)
  show X κ _ _ w 2810 [some (.ref b), some (rv f), some (rv μ.1), some (rv o), some (.int (I i)), none, none] []
  refine X_aload_n 2811 hO dL_law_2810 rfl rfl ?_
  refine X_aload_nR 2812 hO dL_law_2811 rfl rfl ?_
  refine X_iload 2814 hO dL_law_2812 rfl rfl ?_
  refine X_iconst 2815 hO dL_law_2814 rfl ?_
  refine X_iadd 2816 hO dL_law_2815 rfl ?_
  refine X_sld (i := i + 1) 2817 hO hX hbl hbA (by omega) hL dL_law_2816 rfl (fun v1 hv1 hrv1 => ?_)
  refine X_aload_nR 2818 hO dL_law_2817 rfl rfl ?_
  refine X_iload 2820 hO dL_law_2818 rfl rfl ?_
  refine X_iconst 2821 hO dL_law_2820 rfl ?_
  refine X_iadd 2822 hO dL_law_2821 rfl ?_
  refine X_sld (i := i + 2) 2823 hO hX hbl hbA (by omega) hL dL_law_2822 rfl (fun v2 hv2 hrv2 => ?_)
  refine X_aload_n 2824 hO dL_law_2823 rfl rfl ?_
  refine X_callSX 2827 hO hD sL_entryLength [_, _, _, _] (rest := []) rfl dL_law_2824 rfl (L_entryLength hI hR hT hn hrv1 hrv2) (by decide) (by decide) (by omega) (by omega) (fun v_ w1 hp => ?_)
  obtain ⟨k, r, w', x, rfl, hk, ⟨B, hm, hb, dd, hd, hM⟩, rfl, hxr⟩ := hp
  have hkr : IR k := by omega
  show X κ _ _ _ 2827 _ [.int (I k)]
  refine X_istore 2829 hO dL_law_2827 rfl rfl ?_
  refine X_aload_n 2830 hO dL_law_2829 rfl rfl ?_
  refine X_aload_nR 2831 hO dL_law_2830 rfl rfl ?_
  refine X_iload 2833 hO dL_law_2831 rfl rfl ?_
  refine X_iconst 2834 hO dL_law_2833 rfl ?_
  refine X_iadd 2835 hO dL_law_2834 rfl ?_
  refine X_sld (i := i + 1) 2836 hO hX hbl hbA (by omega) hL dL_law_2835 rfl (fun u1 hu1 hru1 => ?_)
  rw [show u1 = v1 from hu1.trans hv1.symm]
  refine X_aload_nR 2837 hO dL_law_2836 rfl rfl ?_
  refine X_iload 2839 hO dL_law_2837 rfl rfl ?_
  refine X_iconst 2840 hO dL_law_2839 rfl ?_
  refine X_iadd 2841 hO dL_law_2840 rfl ?_
  refine X_sld (i := i + 2) 2842 hO hX hbl hbA (by omega) hL dL_law_2841 rfl (fun u2 hu2 hru2 => ?_)
  rw [show u2 = v2 from hu2.trans hv2.symm]
  refine XM_callVi 2845 hO hD hm.2.1.up4 lL_351 [_, _] (rest := []) rfl dL_law_2842 rfl (fun _ => hM x) (by omega) (by decide) (fun r2 w2 hr2 hp2 hR2 => ?_)
  obtain ⟨e1, e2⟩ := hp2
  subst r2
  subst w2
  have hlw := hm.up4.lw hR2
  refine X_istore 2847 hO dL_law_2845 rfl rfl ?_
  refine X_aload_n 2848 hO dL_law_2847 rfl rfl ?_
  refine XM_callVi 2851 hO hD hR2 lL_180 [] (rest := []) rfl dL_law_2848 rfl (c_thrown _ _ _) (by decide) (by decide) (fun t3 w3 ht3 hp3 hR3 => ?_)
  obtain ⟨e1, e2⟩ := hp3
  subst t3
  subst w3
  rw [show pc (KLw μ) (up w' 4 o 0 x) B 139 μ.1 0 = k from (pcm (by decide)).trans hb]
  refine X_iload 2853 hO dL_law_2851 rfl rfl ?_
  refine X_icmp_eq 2856 2858 hO dL_law_2853 rfl rfl hkr hkr (fun _ => ?_) (fun h => absurd rfl h)
  refine X_iload 2860 hO dL_law_2858 rfl rfl ?_
  refine X_if_ne 2863 2875 hO dL_law_2860 rfl rfl hkr (fun hk0 => ?_) (fun hk0 => ?_)
  · exact X_goto (tgt := 3096) hO dL_law_2875 rfl (X_wk (by simp only [lwk, lset, true_or, or_true, and_self]) (X_mono (by omega) (by omega) (kk _ hlw)))
  · have hx0 := hxr hk0
    refine X_aload_n 2864 hO dL_law_2863 rfl rfl ?_
    refine X_iconst 2865 hO dL_law_2864 rfl ?_
    refine X_lald (z := o) (i := 0) 2866 hO dL_law_2865 rfl hm.out2.1 (by rw [hm.out2.2]; decide) ?_
    rw [show pc (KLw μ) (up w' 4 o 0 x) B 4 o 0 = r from MID.at4.trans hx0]
    refine X_iload 2868 hO dL_law_2866 rfl rfl ?_
    refine X_i2l 2869 hO dL_law_2868 rfl hr2 ?_
    refine X_lcmpE 2870 hO dL_law_2869 rfl ?_
    exact X_if_eq 2873 2875 hO dL_law_2870 rfl rfl (by decide) (fun _ => X_goto (tgt := 3096) hO dL_law_2875 rfl (X_wk (by simp only [lwk, lset, true_or, or_true, and_self]) (X_mono (by omega) (by omega) (kk _ hlw)))) (fun h => absurd rfl h)
theorem la_53 (hO : Ok κ RL cL_law) (hD : Dp κ 60) (hs : SCR κ b L xs) (hw : LAW μ f o n w) (hn : 0 ≤ n ∧ n ≤ 511) (hi : 0 ≤ i ∧ i + 5 ≤ L) (kk : ∀ w', LAW μ f o (n + 1) w' → X κ P S w' 3096 (lsL b f μ o i) []) : X κ (P + 175) (S + 13300) w 2878 (lsL b f μ o i) [] := by
  obtain ⟨hX, hbl, hbA, hL⟩ := hs
  obtain ⟨A, hI, hR, hT⟩ := hw
  refine X_wi (fun hW => ?_)
  show X κ _ _ w 2878 [some (.ref b), some (rv f), some (rv μ.1), some (rv o), some (.int (I i)), none, none] []
  refine X_aload_n 2879 hO dL_law_2878 rfl rfl ?_
  refine X_aload_nR 2880 hO dL_law_2879 rfl rfl ?_
  refine X_iload 2882 hO dL_law_2880 rfl rfl ?_
  refine X_iconst 2883 hO dL_law_2882 rfl ?_
  refine X_iadd 2884 hO dL_law_2883 rfl ?_
  refine X_sld (i := i + 1) 2885 hO hX hbl hbA (by omega) hL dL_law_2884 rfl (fun v1 hv1 hrv1 => ?_)
  refine X_aload_nR 2886 hO dL_law_2885 rfl rfl ?_
  refine X_iload 2888 hO dL_law_2886 rfl rfl ?_
  refine X_iconst 2889 hO dL_law_2888 rfl ?_
  refine X_iadd 2890 hO dL_law_2889 rfl ?_
  refine X_sld (i := i + 2) 2891 hO hX hbl hbA (by omega) hL dL_law_2890 rfl (fun v2 hv2 hrv2 => ?_)
  refine X_aload_nR 2892 hO dL_law_2891 rfl rfl ?_
  refine X_iload 2894 hO dL_law_2892 rfl rfl ?_
  refine X_iconst 2895 hO dL_law_2894 rfl ?_
  refine X_iadd 2896 hO dL_law_2895 rfl ?_
  refine X_sld (i := i + 3) 2897 hO hX hbl hbA (by omega) hL dL_law_2896 rfl (fun v3 hv3 hrv3 => ?_)
  refine X_aload_n 2898 hO dL_law_2897 rfl rfl ?_
  refine X_callSX 2901 hO hD sL_entryChar [_, _, _, _, _] (rest := []) rfl dL_law_2898 rfl (L_entryChar hI hR hT hn hrv1 hrv2 hrv3) (by decide) (by decide) (by omega) (by omega) (fun v_ w1 hp => ?_)
  obtain ⟨k, r, w', x, rfl, hk, ⟨B, hm, hb, dd, hd, hM⟩, rfl, hxr⟩ := hp
  have hkr : IR k := by omega
  show X κ _ _ _ 2901 _ [.int (I k)]
  refine X_istore 2903 hO dL_law_2901 rfl rfl ?_
  refine X_aload_n 2904 hO dL_law_2903 rfl rfl ?_
  refine X_aload_nR 2905 hO dL_law_2904 rfl rfl ?_
  refine X_iload 2907 hO dL_law_2905 rfl rfl ?_
  refine X_iconst 2908 hO dL_law_2907 rfl ?_
  refine X_iadd 2909 hO dL_law_2908 rfl ?_
  refine X_sld (i := i + 1) 2910 hO hX hbl hbA (by omega) hL dL_law_2909 rfl (fun u1 hu1 hru1 => ?_)
  rw [show u1 = v1 from hu1.trans hv1.symm]
  refine X_aload_nR 2911 hO dL_law_2910 rfl rfl ?_
  refine X_iload 2913 hO dL_law_2911 rfl rfl ?_
  refine X_iconst 2914 hO dL_law_2913 rfl ?_
  refine X_iadd 2915 hO dL_law_2914 rfl ?_
  refine X_sld (i := i + 2) 2916 hO hX hbl hbA (by omega) hL dL_law_2915 rfl (fun u2 hu2 hru2 => ?_)
  rw [show u2 = v2 from hu2.trans hv2.symm]
  refine X_aload_nR 2917 hO dL_law_2916 rfl rfl ?_
  refine X_iload 2919 hO dL_law_2917 rfl rfl ?_
  refine X_iconst 2920 hO dL_law_2919 rfl ?_
  refine X_iadd 2921 hO dL_law_2920 rfl ?_
  refine X_sld (i := i + 3) 2922 hO hX hbl hbA (by omega) hL dL_law_2921 rfl (fun u3 hu3 hru3 => ?_)
  rw [show u3 = v3 from hu3.trans hv3.symm]
  refine XM_callVi 2925 hO hD hm.2.1.up4 lL_355 [_, _, _] (rest := []) rfl dL_law_2922 rfl (fun _ => hM x) (by omega) (by decide) (fun r2 w2 hr2 hp2 hR2 => ?_)
  obtain ⟨e1, e2⟩ := hp2
  subst r2
  subst w2
  have hlw := hm.up4.lw hR2
  refine X_istore 2927 hO dL_law_2925 rfl rfl ?_
  refine X_aload_n 2928 hO dL_law_2927 rfl rfl ?_
  refine XM_callVi 2931 hO hD hR2 lL_180 [] (rest := []) rfl dL_law_2928 rfl (c_thrown _ _ _) (by decide) (by decide) (fun t3 w3 ht3 hp3 hR3 => ?_)
  obtain ⟨e1, e2⟩ := hp3
  subst t3
  subst w3
  rw [show pc (KLw μ) (up w' 4 o 0 x) B 139 μ.1 0 = k from (pcm (by decide)).trans hb]
  refine X_iload 2933 hO dL_law_2931 rfl rfl ?_
  refine X_icmp_eq 2936 2938 hO dL_law_2933 rfl rfl hkr hkr (fun _ => ?_) (fun h => absurd rfl h)
  refine X_iload 2940 hO dL_law_2938 rfl rfl ?_
  refine X_if_ne 2943 2955 hO dL_law_2940 rfl rfl hkr (fun hk0 => ?_) (fun hk0 => ?_)
  · exact X_goto (tgt := 3096) hO dL_law_2955 rfl (X_wk (by simp only [lwk, lset, true_or, or_true, and_self]) (X_mono (by omega) (by omega) (kk _ hlw)))
  · have hx0 := hxr hk0
    refine X_aload_n 2944 hO dL_law_2943 rfl rfl ?_
    refine X_iconst 2945 hO dL_law_2944 rfl ?_
    refine X_lald (z := o) (i := 0) 2946 hO dL_law_2945 rfl hm.out2.1 (by rw [hm.out2.2]; decide) ?_
    rw [show pc (KLw μ) (up w' 4 o 0 x) B 4 o 0 = r from MID.at4.trans hx0]
    refine X_iload 2948 hO dL_law_2946 rfl rfl ?_
    refine X_i2l 2949 hO dL_law_2948 rfl hr2 ?_
    refine X_lcmpE 2950 hO dL_law_2949 rfl ?_
    exact X_if_eq 2953 2955 hO dL_law_2950 rfl rfl (by decide) (fun _ => X_goto (tgt := 3096) hO dL_law_2955 rfl (X_wk (by simp only [lwk, lset, true_or, or_true, and_self]) (X_mono (by omega) (by omega) (kk _ hlw)))) (fun h => absurd rfl h)
theorem la_54 (hO : Ok κ RL cL_law) (hD : Dp κ 60) (hs : SCR κ b L xs) (hw : LAW μ f o n w) (hn : 0 ≤ n ∧ n ≤ 511) (hi : 0 ≤ i ∧ i + 5 ≤ L) (kk : ∀ w', LAW μ f o (n + 1) w' → X κ P S w' 3096 (lsL b f μ o i) []) : X κ (P + 175) (S + 13300) w 2958 (lsL b f μ o i) [] := by
  obtain ⟨hX, hbl, hbA, hL⟩ := hs
  obtain ⟨A, hI, hR, hT⟩ := hw
  refine X_wi (fun hW => ?_)
  show X κ _ _ w 2958 [some (.ref b), some (rv f), some (rv μ.1), some (rv o), some (.int (I i)), none, none] []
  refine X_aload_n 2959 hO dL_law_2958 rfl rfl ?_
  refine X_aload_nR 2960 hO dL_law_2959 rfl rfl ?_
  refine X_iload 2962 hO dL_law_2960 rfl rfl ?_
  refine X_iconst 2963 hO dL_law_2962 rfl ?_
  refine X_iadd 2964 hO dL_law_2963 rfl ?_
  refine X_sld (i := i + 1) 2965 hO hX hbl hbA (by omega) hL dL_law_2964 rfl (fun v1 hv1 hrv1 => ?_)
  refine X_aload_n 2966 hO dL_law_2965 rfl rfl ?_
  refine X_callSX 2969 hO hD sL_commands [_, _, _] (rest := []) rfl dL_law_2966 rfl (L_commands hI hR hT hn hrv1) (by decide) (by decide) (by omega) (by omega) (fun v_ w1 hp => ?_)
  obtain ⟨k, r, w', x, rfl, hk, ⟨B, hm, hb, dd, hd, hM⟩, rfl, hxr⟩ := hp
  have hkr : IR k := by omega
  show X κ _ _ _ 2969 _ [.int (I k)]
  refine X_istore 2971 hO dL_law_2969 rfl rfl ?_
  refine X_aload_n 2972 hO dL_law_2971 rfl rfl ?_
  refine X_aload_nR 2973 hO dL_law_2972 rfl rfl ?_
  refine X_iload 2975 hO dL_law_2973 rfl rfl ?_
  refine X_iconst 2976 hO dL_law_2975 rfl ?_
  refine X_iadd 2977 hO dL_law_2976 rfl ?_
  refine X_sld (i := i + 1) 2978 hO hX hbl hbA (by omega) hL dL_law_2977 rfl (fun u1 hu1 hru1 => ?_)
  rw [show u1 = v1 from hu1.trans hv1.symm]
  refine XM_callVi 2981 hO hD hm.2.1.up4 lL_358 [_] (rest := []) rfl dL_law_2978 rfl (fun _ => hM x) (by omega) (by decide) (fun r2 w2 hr2 hp2 hR2 => ?_)
  obtain ⟨e1, e2⟩ := hp2
  subst r2
  subst w2
  have hlw := hm.up4.lw hR2
  refine X_istore 2983 hO dL_law_2981 rfl rfl ?_
  refine X_aload_n 2984 hO dL_law_2983 rfl rfl ?_
  refine XM_callVi 2987 hO hD hR2 lL_180 [] (rest := []) rfl dL_law_2984 rfl (c_thrown _ _ _) (by decide) (by decide) (fun t3 w3 ht3 hp3 hR3 => ?_)
  obtain ⟨e1, e2⟩ := hp3
  subst t3
  subst w3
  rw [show pc (KLw μ) (up w' 4 o 0 x) B 139 μ.1 0 = k from (pcm (by decide)).trans hb]
  refine X_iload 2989 hO dL_law_2987 rfl rfl ?_
  refine X_icmp_eq 2992 2994 hO dL_law_2989 rfl rfl hkr hkr (fun _ => ?_) (fun h => absurd rfl h)
  refine X_iload 2996 hO dL_law_2994 rfl rfl ?_
  refine X_if_ne 2999 3011 hO dL_law_2996 rfl rfl hkr (fun hk0 => ?_) (fun hk0 => ?_)
  · exact X_goto (tgt := 3096) hO dL_law_3011 rfl (X_wk (by simp only [lwk, lset, true_or, or_true, and_self]) (X_mono (by omega) (by omega) (kk _ hlw)))
  · have hx0 := hxr hk0
    refine X_aload_n 3000 hO dL_law_2999 rfl rfl ?_
    refine X_iconst 3001 hO dL_law_3000 rfl ?_
    refine X_lald (z := o) (i := 0) 3002 hO dL_law_3001 rfl hm.out2.1 (by rw [hm.out2.2]; decide) ?_
    rw [show pc (KLw μ) (up w' 4 o 0 x) B 4 o 0 = r from MID.at4.trans hx0]
    refine X_iload 3004 hO dL_law_3002 rfl rfl ?_
    refine X_i2l 3005 hO dL_law_3004 rfl hr2 ?_
    refine X_lcmpE 3006 hO dL_law_3005 rfl ?_
    exact X_if_eq 3009 3011 hO dL_law_3006 rfl rfl (by decide) (fun _ => X_goto (tgt := 3096) hO dL_law_3011 rfl (X_wk (by simp only [lwk, lset, true_or, or_true, and_self]) (X_mono (by omega) (by omega) (kk _ hlw)))) (fun h => absurd rfl h)
theorem la_55 (hO : Ok κ RL cL_law) (hD : Dp κ 60) (hs : SCR κ b L xs) (hw : LAW μ f o n w) (hn : 0 ≤ n ∧ n ≤ 511) (hi : 0 ≤ i ∧ i + 5 ≤ L) (kk : ∀ w', LAW μ f o (n + 1) w' → X κ P S w' 3096 (lsL b f μ o i) []) : X κ (P + 175) (S + 13300) w 3014 (lsL b f μ o i) [] := by
  obtain ⟨hX, hbl, hbA, hL⟩ := hs
  obtain ⟨A, hI, hR, hT⟩ := hw
  refine X_wi (fun hW => ?_)
  show X κ _ _ w 3014 [some (.ref b), some (rv f), some (rv μ.1), some (rv o), some (.int (I i)), none, none] []
  refine X_aload_n 3015 hO dL_law_3014 rfl rfl ?_
  refine X_kVi (t := 13) 3018 hO hD lL_359 rfl (by decide) [] rfl dL_law_3015 rfl hI.t0 (lo_failureReason hI hR hT hn hW) (by decide) (by decide) (by omega) (by omega) (fun r w' hr hp => ?_) (fun _ _ h => h.elim)
  obtain ⟨B, hm, hb, dd, hd, hM⟩ := hp
  have hM := hM (w' 4 o 0)
  rw [up_self] at hM
  refine X_aload_n 3019 hO dL_law_3018 rfl rfl ?_
  refine XM_callVi 3022 hO hD hm.2.1 lL_362 [] (rest := [_]) rfl dL_law_3019 rfl (fun _ => hM) (by omega) (by simp [rv_cat, int_cat]) (fun r2 w2 hr2 hp2 hR2 => ?_)
  obtain ⟨e1, e2⟩ := hp2
  subst r2
  subst w2
  have hlw := hm.lw hR2
  refine X_icmp_eq 3025 3096 hO dL_law_3022 rfl rfl hr hr (fun _ => ?_) (fun h => absurd rfl h)
  exact X_wk (by simp only [lwk, lset, true_or, or_true, and_self]) (X_mono (by omega) (by omega) (kk _ hlw))
theorem la_56 (hO : Ok κ RL cL_law) (hD : Dp κ 60) (hs : SCR κ b L xs) (hw : LAW μ f o n w) (hn : 0 ≤ n ∧ n ≤ 511) (hi : 0 ≤ i ∧ i + 5 ≤ L) (kk : ∀ w', LAW μ f o (n + 1) w' → X κ P S w' 3096 (lsL b f μ o i) []) : X κ (P + 175) (S + 13300) w 3027 (lsL b f μ o i) [] := by
  obtain ⟨hX, hbl, hbA, hL⟩ := hs
  obtain ⟨A, hI, hR, hT⟩ := hw
  refine X_wi (fun hW => ?_)
  show X κ _ _ w 3027 [some (.ref b), some (rv f), some (rv μ.1), some (rv o), some (.int (I i)), none, none] []
  refine X_aload_n 3028 hO dL_law_3027 rfl rfl ?_
  refine X_kVi (t := 13) 3031 hO hD lL_363 rfl (by decide) [] rfl dL_law_3028 rfl hI.t0 (lo_failureCommand hI hR hT hn hW) (by decide) (by decide) (by omega) (by omega) (fun r w' hr hp => ?_) (fun _ _ h => h.elim)
  obtain ⟨B, hm, hb, dd, hd, hM⟩ := hp
  have hM := hM (w' 4 o 0)
  rw [up_self] at hM
  refine X_aload_n 3032 hO dL_law_3031 rfl rfl ?_
  refine XM_callVi 3035 hO hD hm.2.1 lL_366 [] (rest := [_]) rfl dL_law_3032 rfl (fun _ => hM) (by omega) (by simp [rv_cat, int_cat]) (fun r2 w2 hr2 hp2 hR2 => ?_)
  obtain ⟨e1, e2⟩ := hp2
  subst r2
  subst w2
  have hlw := hm.lw hR2
  refine X_icmp_eq 3038 3096 hO dL_law_3035 rfl rfl hr hr (fun _ => ?_) (fun h => absurd rfl h)
  exact X_wk (by simp only [lwk, lset, true_or, or_true, and_self]) (X_mono (by omega) (by omega) (kk _ hlw))
theorem la_57 (hO : Ok κ RL cL_law) (hD : Dp κ 60) (hs : SCR κ b L xs) (hw : LAW μ f o n w) (hn : 0 ≤ n ∧ n ≤ 511) (hi : 0 ≤ i ∧ i + 5 ≤ L) (kk : ∀ w', LAW μ f o (n + 1) w' → X κ P S w' 3096 (lsL b f μ o i) []) : X κ (P + 175) (S + 13300) w 3040 (lsL b f μ o i) [] := by
  obtain ⟨hX, hbl, hbA, hL⟩ := hs
  obtain ⟨A, hI, hR, hT⟩ := hw
  refine X_wi (fun hW => ?_)
  show X κ _ _ w 3040 [some (.ref b), some (rv f), some (rv μ.1), some (rv o), some (.int (I i)), none, none] []
  refine X_aload_n 3041 hO dL_law_3040 rfl rfl ?_
  refine X_aload_nR 3042 hO dL_law_3041 rfl rfl ?_
  refine X_iload 3044 hO dL_law_3042 rfl rfl ?_
  refine X_iconst 3045 hO dL_law_3044 rfl ?_
  refine X_iadd 3046 hO dL_law_3045 rfl ?_
  refine X_sld (i := i + 1) 3047 hO hX hbl hbA (by omega) hL dL_law_3046 rfl (fun v1 hv1 hrv1 => ?_)
  refine X_aload_n 3048 hO dL_law_3047 rfl rfl ?_
  refine X_callSX 3051 hO hD sL_listenerChain [_, _, _] (rest := []) rfl dL_law_3048 rfl (L_listenerChain hI hR hT hn hrv1) (by decide) (by decide) (by omega) (by omega) (fun v_ w1 hp => ?_)
  obtain ⟨k, r, w', x, rfl, hk, ⟨B, hm, hb, dd, hd, hM⟩, rfl, hxr⟩ := hp
  have hkr : IR k := by omega
  show X κ _ _ _ 3051 _ [.int (I k)]
  refine X_istore 3053 hO dL_law_3051 rfl rfl ?_
  refine X_aload_n 3054 hO dL_law_3053 rfl rfl ?_
  refine X_aload_nR 3055 hO dL_law_3054 rfl rfl ?_
  refine X_iload 3057 hO dL_law_3055 rfl rfl ?_
  refine X_iconst 3058 hO dL_law_3057 rfl ?_
  refine X_iadd 3059 hO dL_law_3058 rfl ?_
  refine X_sld (i := i + 1) 3060 hO hX hbl hbA (by omega) hL dL_law_3059 rfl (fun u1 hu1 hru1 => ?_)
  rw [show u1 = v1 from hu1.trans hv1.symm]
  refine XM_callVi 3063 hO hD hm.2.1.up4 lL_369 [_] (rest := []) rfl dL_law_3060 rfl (fun _ => hM x) (by omega) (by decide) (fun r2 w2 hr2 hp2 hR2 => ?_)
  obtain ⟨e1, e2⟩ := hp2
  subst r2
  subst w2
  have hlw := hm.up4.lw hR2
  refine X_istore 3065 hO dL_law_3063 rfl rfl ?_
  refine X_aload_n 3066 hO dL_law_3065 rfl rfl ?_
  refine XM_callVi 3069 hO hD hR2 lL_180 [] (rest := []) rfl dL_law_3066 rfl (c_thrown _ _ _) (by decide) (by decide) (fun t3 w3 ht3 hp3 hR3 => ?_)
  obtain ⟨e1, e2⟩ := hp3
  subst t3
  subst w3
  rw [show pc (KLw μ) (up w' 4 o 0 x) B 139 μ.1 0 = k from (pcm (by decide)).trans hb]
  refine X_iload 3071 hO dL_law_3069 rfl rfl ?_
  refine X_icmp_eq 3074 3076 hO dL_law_3071 rfl rfl hkr hkr (fun _ => ?_) (fun h => absurd rfl h)
  refine X_iload 3078 hO dL_law_3076 rfl rfl ?_
  refine X_if_ne 3081 3093 hO dL_law_3078 rfl rfl hkr (fun hk0 => ?_) (fun hk0 => ?_)
  · exact X_goto (tgt := 3096) hO dL_law_3093 rfl (X_wk (by simp only [lwk, lset, true_or, or_true, and_self]) (X_mono (by omega) (by omega) (kk _ hlw)))
  · have hx0 := hxr hk0
    refine X_aload_n 3082 hO dL_law_3081 rfl rfl ?_
    refine X_iconst 3083 hO dL_law_3082 rfl ?_
    refine X_lald (z := o) (i := 0) 3084 hO dL_law_3083 rfl hm.out2.1 (by rw [hm.out2.2]; decide) ?_
    rw [show pc (KLw μ) (up w' 4 o 0 x) B 4 o 0 = r from MID.at4.trans hx0]
    refine X_iload 3086 hO dL_law_3084 rfl rfl ?_
    refine X_i2l 3087 hO dL_law_3086 rfl hr2 ?_
    refine X_lcmpE 3088 hO dL_law_3087 rfl ?_
    exact X_if_eq 3091 3093 hO dL_law_3088 rfl rfl (by decide) (fun _ => X_goto (tgt := 3096) hO dL_law_3093 rfl (X_wk (by simp only [lwk, lset, true_or, or_true, and_self]) (X_mono (by omega) (by omega) (kk _ hlw)))) (fun h => absurd rfl h)
end LW3
