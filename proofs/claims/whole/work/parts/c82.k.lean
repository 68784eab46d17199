/-! THE LAW'S LOOP: its cases, 1 -/
section LW0
variable {κ : KC} {P S : Nat} {w : Mm} {b L : Nat} {xs : Nat → Int32} {μ : MU} {f o n i : Int}
theorem la_0 (hO : Ok κ RL cL_law) (hD : Dp κ 60) (hs : SCR κ b L xs) (hw : LAW μ f o n w) (hn : 0 ≤ n ∧ n ≤ 511) (hi : 0 ≤ i ∧ i + 5 ≤ L) (kk : ∀ w', LAW μ f o (n + 1) w' → X κ P S w' 3096 (lsL b f μ o i) []) : X κ (P + 175) (S + 13300) w 284 (lsL b f μ o i) [] := by
  obtain ⟨hX, hbl, hbA, hL⟩ := hs
  obtain ⟨A, hI, hR, hT⟩ := hw
  refine X_wi (fun hW => ?_)
  show X κ _ _ w 284 [some (.ref b), some (rv f), some (rv μ.1), some (rv o), some (.int (I i)), none, none] []
  refine X_aload_n 285 hO dL_law_284 rfl rfl ?_
  refine X_aload_nR 286 hO dL_law_285 rfl rfl ?_
  refine X_iload 288 hO dL_law_286 rfl rfl ?_
  refine X_iconst 289 hO dL_law_288 rfl ?_
  refine X_iadd 290 hO dL_law_289 rfl ?_
  refine X_sld (i := i + 1) 291 hO hX hbl hbA (by omega) hL dL_law_290 rfl (fun v1 hv1 hrv1 => ?_)
  refine X_aload_n 292 hO dL_law_291 rfl rfl ?_
  refine X_callSX 295 hO hD sL_insert [_, _, _] (rest := []) rfl dL_law_292 rfl (L_insert hI hR hT hn hrv1) (by decide) (by decide) (by omega) (by omega) (fun v_ w1 hp => ?_)
  obtain ⟨k, r, w', x, rfl, hk, ⟨B, hm, hb, dd, hd, hM⟩, rfl, hxr⟩ := hp
  have hkr : IR k := by omega
  show X κ _ _ _ 295 _ [.int (I k)]
  refine X_istore 297 hO dL_law_295 rfl rfl ?_
  refine X_aload_n 298 hO dL_law_297 rfl rfl ?_
  refine X_aload_nR 299 hO dL_law_298 rfl rfl ?_
  refine X_iload 301 hO dL_law_299 rfl rfl ?_
  refine X_iconst 302 hO dL_law_301 rfl ?_
  refine X_iadd 303 hO dL_law_302 rfl ?_
  refine X_sld (i := i + 1) 304 hO hX hbl hbA (by omega) hL dL_law_303 rfl (fun u1 hu1 hru1 => ?_)
  rw [show u1 = v1 from hu1.trans hv1.symm]
  refine XM_callVi 307 hO hD hm.2.1.up4 lL_179 [_] (rest := []) rfl dL_law_304 rfl (fun _ => hM x) (by omega) (by decide) (fun r2 w2 hr2 hp2 hR2 => ?_)
  obtain ⟨e1, e2⟩ := hp2
  subst r2
  subst w2
  have hlw := hm.up4.lw hR2
  refine X_istore 309 hO dL_law_307 rfl rfl ?_
  refine X_aload_n 310 hO dL_law_309 rfl rfl ?_
  refine XM_callVi 313 hO hD hR2 lL_180 [] (rest := []) rfl dL_law_310 rfl (c_thrown _ _ _) (by decide) (by decide) (fun t3 w3 ht3 hp3 hR3 => ?_)
  obtain ⟨e1, e2⟩ := hp3
  subst t3
  subst w3
  rw [show pc (KLw μ) (up w' 4 o 0 x) B 139 μ.1 0 = k from (pcm (by decide)).trans hb]
  refine X_iload 315 hO dL_law_313 rfl rfl ?_
  refine X_icmp_eq 318 320 hO dL_law_315 rfl rfl hkr hkr (fun _ => ?_) (fun h => absurd rfl h)
  refine X_iload 322 hO dL_law_320 rfl rfl ?_
  refine X_if_ne 325 337 hO dL_law_322 rfl rfl hkr (fun hk0 => ?_) (fun hk0 => ?_)
  · exact X_goto (tgt := 3096) hO dL_law_337 rfl (X_wk (by simp only [lwk, lset, true_or, or_true, and_self]) (X_mono (by omega) (by omega) (kk _ hlw)))
  · have hx0 := hxr hk0
    refine X_aload_n 326 hO dL_law_325 rfl rfl ?_
    refine X_iconst 327 hO dL_law_326 rfl ?_
    refine X_lald (z := o) (i := 0) 328 hO dL_law_327 rfl hm.out2.1 (by rw [hm.out2.2]; decide) ?_
    rw [show pc (KLw μ) (up w' 4 o 0 x) B 4 o 0 = r from MID.at4.trans hx0]
    refine X_iload 330 hO dL_law_328 rfl rfl ?_
    refine X_i2l 331 hO dL_law_330 rfl hr2 ?_
    refine X_lcmpE 332 hO dL_law_331 rfl ?_
    exact X_if_eq 335 337 hO dL_law_332 rfl rfl (by decide) (fun _ => X_goto (tgt := 3096) hO dL_law_337 rfl (X_wk (by simp only [lwk, lset, true_or, or_true, and_self]) (X_mono (by omega) (by omega) (kk _ hlw)))) (fun h => absurd rfl h)
theorem la_1 (hO : Ok κ RL cL_law) (hD : Dp κ 60) (hs : SCR κ b L xs) (hw : LAW μ f o n w) (hn : 0 ≤ n ∧ n ≤ 511) (hi : 0 ≤ i ∧ i + 5 ≤ L) (kk : ∀ w', LAW μ f o (n + 1) w' → X κ P S w' 3096 (lsL b f μ o i) []) : X κ (P + 175) (S + 13300) w 340 (lsL b f μ o i) [] := by
  obtain ⟨hX, hbl, hbA, hL⟩ := hs
  obtain ⟨A, hI, hR, hT⟩ := hw
  refine X_wi (fun hW => ?_)
  show X κ _ _ w 340 [some (.ref b), some (rv f), some (rv μ.1), some (rv o), some (.int (I i)), none, none] []
  refine X_aload_n 341 hO dL_law_340 rfl rfl ?_
  refine X_aload_nR 342 hO dL_law_341 rfl rfl ?_
  refine X_iload 344 hO dL_law_342 rfl rfl ?_
  refine X_iconst 345 hO dL_law_344 rfl ?_
  refine X_iadd 346 hO dL_law_345 rfl ?_
  refine X_sld (i := i + 1) 347 hO hX hbl hbA (by omega) hL dL_law_346 rfl (fun v1 hv1 hrv1 => ?_)
  refine X_aload_n 348 hO dL_law_347 rfl rfl ?_
  refine X_callSX 351 hO hD sL_overwrite [_, _, _] (rest := []) rfl dL_law_348 rfl (L_overwrite hI hR hT hn hrv1) (by decide) (by decide) (by omega) (by omega) (fun v_ w1 hp => ?_)
  obtain ⟨k, r, w', x, rfl, hk, ⟨B, hm, hb, dd, hd, hM⟩, rfl, hxr⟩ := hp
  have hkr : IR k := by omega
  show X κ _ _ _ 351 _ [.int (I k)]
  refine X_istore 353 hO dL_law_351 rfl rfl ?_
  refine X_aload_n 354 hO dL_law_353 rfl rfl ?_
  refine X_aload_nR 355 hO dL_law_354 rfl rfl ?_
  refine X_iload 357 hO dL_law_355 rfl rfl ?_
  refine X_iconst 358 hO dL_law_357 rfl ?_
  refine X_iadd 359 hO dL_law_358 rfl ?_
  refine X_sld (i := i + 1) 360 hO hX hbl hbA (by omega) hL dL_law_359 rfl (fun u1 hu1 hru1 => ?_)
  rw [show u1 = v1 from hu1.trans hv1.symm]
  refine XM_callVi 363 hO hD hm.2.1.up4 lL_185 [_] (rest := []) rfl dL_law_360 rfl (fun _ => hM x) (by omega) (by decide) (fun r2 w2 hr2 hp2 hR2 => ?_)
  obtain ⟨e1, e2⟩ := hp2
  subst r2
  subst w2
  have hlw := hm.up4.lw hR2
  refine X_istore 365 hO dL_law_363 rfl rfl ?_
  refine X_aload_n 366 hO dL_law_365 rfl rfl ?_
  refine XM_callVi 369 hO hD hR2 lL_180 [] (rest := []) rfl dL_law_366 rfl (c_thrown _ _ _) (by decide) (by decide) (fun t3 w3 ht3 hp3 hR3 => ?_)
  obtain ⟨e1, e2⟩ := hp3
  subst t3
  subst w3
  rw [show pc (KLw μ) (up w' 4 o 0 x) B 139 μ.1 0 = k from (pcm (by decide)).trans hb]
  refine X_iload 371 hO dL_law_369 rfl rfl ?_
  refine X_icmp_eq 374 376 hO dL_law_371 rfl rfl hkr hkr (fun _ => ?_) (fun h => absurd rfl h)
  refine X_iload 378 hO dL_law_376 rfl rfl ?_
  refine X_if_ne 381 393 hO dL_law_378 rfl rfl hkr (fun hk0 => ?_) (fun hk0 => ?_)
  · exact X_goto (tgt := 3096) hO dL_law_393 rfl (X_wk (by simp only [lwk, lset, true_or, or_true, and_self]) (X_mono (by omega) (by omega) (kk _ hlw)))
  · have hx0 := hxr hk0
    refine X_aload_n 382 hO dL_law_381 rfl rfl ?_
    refine X_iconst 383 hO dL_law_382 rfl ?_
    refine X_lald (z := o) (i := 0) 384 hO dL_law_383 rfl hm.out2.1 (by rw [hm.out2.2]; decide) ?_
    rw [show pc (KLw μ) (up w' 4 o 0 x) B 4 o 0 = r from MID.at4.trans hx0]
    refine X_iload 386 hO dL_law_384 rfl rfl ?_
    refine X_i2l 387 hO dL_law_386 rfl hr2 ?_
    refine X_lcmpE 388 hO dL_law_387 rfl ?_
    exact X_if_eq 391 393 hO dL_law_388 rfl rfl (by decide) (fun _ => X_goto (tgt := 3096) hO dL_law_393 rfl (X_wk (by simp only [lwk, lset, true_or, or_true, and_self]) (X_mono (by omega) (by omega) (kk _ hlw)))) (fun h => absurd rfl h)
theorem la_2 (hO : Ok κ RL cL_law) (hD : Dp κ 60) (hs : SCR κ b L xs) (hw : LAW μ f o n w) (hn : 0 ≤ n ∧ n ≤ 511) (hi : 0 ≤ i ∧ i + 5 ≤ L) (kk : ∀ w', LAW μ f o (n + 1) w' → X κ P S w' 3096 (lsL b f μ o i) []) : X κ (P + 175) (S + 13300) w 396 (lsL b f μ o i) [] := by
  obtain ⟨hX, hbl, hbA, hL⟩ := hs
  obtain ⟨A, hI, hR, hT⟩ := hw
  refine X_wi (fun hW => ?_)
  show X κ _ _ w 396 [some (.ref b), some (rv f), some (rv μ.1), some (rv o), some (.int (I i)), none, none] []
  refine X_aload_n 397 hO dL_law_396 rfl rfl ?_
  refine X_aload_nR 398 hO dL_law_397 rfl rfl ?_
  refine X_iload 400 hO dL_law_398 rfl rfl ?_
  refine X_iconst 401 hO dL_law_400 rfl ?_
  refine X_iadd 402 hO dL_law_401 rfl ?_
  refine X_sld (i := i + 1) 403 hO hX hbl hbA (by omega) hL dL_law_402 rfl (fun v1 hv1 hrv1 => ?_)
  refine X_aload_n 404 hO dL_law_403 rfl rfl ?_
  refine X_callSX 407 hO hD sL_delete [_, _, _] (rest := []) rfl dL_law_404 rfl (L_delete hI hR hT hn hrv1) (by decide) (by decide) (by omega) (by omega) (fun v_ w1 hp => ?_)
  obtain ⟨k, r, w', x, rfl, hk, ⟨B, hm, hb, dd, hd, hM⟩, rfl, hxr⟩ := hp
  have hkr : IR k := by omega
  show X κ _ _ _ 407 _ [.int (I k)]
  refine X_istore 409 hO dL_law_407 rfl rfl ?_
  refine X_aload_n 410 hO dL_law_409 rfl rfl ?_
  refine X_aload_nR 411 hO dL_law_410 rfl rfl ?_
  refine X_iload 413 hO dL_law_411 rfl rfl ?_
  refine X_iconst 414 hO dL_law_413 rfl ?_
  refine X_iadd 415 hO dL_law_414 rfl ?_
  refine X_sld (i := i + 1) 416 hO hX hbl hbA (by omega) hL dL_law_415 rfl (fun u1 hu1 hru1 => ?_)
  rw [show u1 = v1 from hu1.trans hv1.symm]
  refine XM_callVi 419 hO hD hm.2.1.up4 lL_188 [_] (rest := []) rfl dL_law_416 rfl (fun _ => hM x) (by omega) (by decide) (fun r2 w2 hr2 hp2 hR2 => ?_)
  obtain ⟨e1, e2⟩ := hp2
  subst r2
  subst w2
  have hlw := hm.up4.lw hR2
  refine X_istore 421 hO dL_law_419 rfl rfl ?_
  refine X_aload_n 422 hO dL_law_421 rfl rfl ?_
  refine XM_callVi 425 hO hD hR2 lL_180 [] (rest := []) rfl dL_law_422 rfl (c_thrown _ _ _) (by decide) (by decide) (fun t3 w3 ht3 hp3 hR3 => ?_)
  obtain ⟨e1, e2⟩ := hp3
  subst t3
  subst w3
  rw [show pc (KLw μ) (up w' 4 o 0 x) B 139 μ.1 0 = k from (pcm (by decide)).trans hb]
  refine X_iload 427 hO dL_law_425 rfl rfl ?_
  refine X_icmp_eq 430 432 hO dL_law_427 rfl rfl hkr hkr (fun _ => ?_) (fun h => absurd rfl h)
  refine X_iload 434 hO dL_law_432 rfl rfl ?_
  refine X_if_ne 437 449 hO dL_law_434 rfl rfl hkr (fun hk0 => ?_) (fun hk0 => ?_)
  · exact X_goto (tgt := 3096) hO dL_law_449 rfl (X_wk (by simp only [lwk, lset, true_or, or_true, and_self]) (X_mono (by omega) (by omega) (kk _ hlw)))
  · have hx0 := hxr hk0
    refine X_aload_n 438 hO dL_law_437 rfl rfl ?_
    refine X_iconst 439 hO dL_law_438 rfl ?_
    refine X_lald (z := o) (i := 0) 440 hO dL_law_439 rfl hm.out2.1 (by rw [hm.out2.2]; decide) ?_
    rw [show pc (KLw μ) (up w' 4 o 0 x) B 4 o 0 = r from MID.at4.trans hx0]
    refine X_iload 442 hO dL_law_440 rfl rfl ?_
    refine X_i2l 443 hO dL_law_442 rfl hr2 ?_
    refine X_lcmpE 444 hO dL_law_443 rfl ?_
    exact X_if_eq 447 449 hO dL_law_444 rfl rfl (by decide) (fun _ => X_goto (tgt := 3096) hO dL_law_449 rfl (X_wk (by simp only [lwk, lset, true_or, or_true, and_self]) (X_mono (by omega) (by omega) (kk _ hlw)))) (fun h => absurd rfl h)
theorem la_3 (hO : Ok κ RL cL_law) (hD : Dp κ 60) (hs : SCR κ b L xs) (hw : LAW μ f o n w) (hn : 0 ≤ n ∧ n ≤ 511) (hi : 0 ≤ i ∧ i + 5 ≤ L) (kk : ∀ w', LAW μ f o (n + 1) w' → X κ P S w' 3096 (lsL b f μ o i) []) : X κ (P + 175) (S + 13300) w 452 (lsL b f μ o i) [] := by
  obtain ⟨hX, hbl, hbA, hL⟩ := hs
  obtain ⟨A, hI, hR, hT⟩ := hw
  refine X_wi (fun hW => ?_)
  show X κ _ _ w 452 [some (.ref b), some (rv f), some (rv μ.1), some (rv o), some (.int (I i)), none, none] []
  refine X_aload_n 453 hO dL_law_452 rfl rfl ?_
  refine X_aload_nR 454 hO dL_law_453 rfl rfl ?_
  refine X_iload 456 hO dL_law_454 rfl rfl ?_
  refine X_iconst 457 hO dL_law_456 rfl ?_
  refine X_iadd 458 hO dL_law_457 rfl ?_
  refine X_sld (i := i + 1) 459 hO hX hbl hbA (by omega) hL dL_law_458 rfl (fun v1 hv1 hrv1 => ?_)
  refine X_aload_n 460 hO dL_law_459 rfl rfl ?_
  refine X_callSX 463 hO hD sL_move [_, _, _] (rest := []) rfl dL_law_460 rfl (L_move hI hR hT hn hrv1) (by decide) (by decide) (by omega) (by omega) (fun v_ w1 hp => ?_)
  obtain ⟨k, r, w', x, rfl, hk, ⟨B, hm, hb, dd, hd, hM⟩, rfl, hxr⟩ := hp
  have hkr : IR k := by omega
  show X κ _ _ _ 463 _ [.int (I k)]
  refine X_istore 465 hO dL_law_463 rfl rfl ?_
  refine X_aload_n 466 hO dL_law_465 rfl rfl ?_
  refine X_aload_nR 467 hO dL_law_466 rfl rfl ?_
  refine X_iload 469 hO dL_law_467 rfl rfl ?_
  refine X_iconst 470 hO dL_law_469 rfl ?_
  refine X_iadd 471 hO dL_law_470 rfl ?_
  refine X_sld (i := i + 1) 472 hO hX hbl hbA (by omega) hL dL_law_471 rfl (fun u1 hu1 hru1 => ?_)
  rw [show u1 = v1 from hu1.trans hv1.symm]
  refine XM_callVi 475 hO hD hm.2.1.up4 lL_191 [_] (rest := []) rfl dL_law_472 rfl (fun _ => hM x) (by omega) (by decide) (fun r2 w2 hr2 hp2 hR2 => ?_)
  obtain ⟨e1, e2⟩ := hp2
  subst r2
  subst w2
  have hlw := hm.up4.lw hR2
  refine X_istore 477 hO dL_law_475 rfl rfl ?_
  refine X_aload_n 478 hO dL_law_477 rfl rfl ?_
  refine XM_callVi 481 hO hD hR2 lL_180 [] (rest := []) rfl dL_law_478 rfl (c_thrown _ _ _) (by decide) (by decide) (fun t3 w3 ht3 hp3 hR3 => ?_)
  obtain ⟨e1, e2⟩ := hp3
  subst t3
  subst w3
  rw [show pc (KLw μ) (up w' 4 o 0 x) B 139 μ.1 0 = k from (pcm (by decide)).trans hb]
  refine X_iload 483 hO dL_law_481 rfl rfl ?_
  refine X_icmp_eq 486 488 hO dL_law_483 rfl rfl hkr hkr (fun _ => ?_) (fun h => absurd rfl h)
  refine X_iload 490 hO dL_law_488 rfl rfl ?_
  refine X_if_ne 493 505 hO dL_law_490 rfl rfl hkr (fun hk0 => ?_) (fun hk0 => ?_)
  · exact X_goto (tgt := 3096) hO dL_law_505 rfl (X_wk (by simp only [lwk, lset, true_or, or_true, and_self]) (X_mono (by omega) (by omega) (kk _ hlw)))
  · have hx0 := hxr hk0
    refine X_aload_n 494 hO dL_law_493 rfl rfl ?_
    refine X_iconst 495 hO dL_law_494 rfl ?_
    refine X_lald (z := o) (i := 0) 496 hO dL_law_495 rfl hm.out2.1 (by rw [hm.out2.2]; decide) ?_
    rw [show pc (KLw μ) (up w' 4 o 0 x) B 4 o 0 = r from MID.at4.trans hx0]
    refine X_iload 498 hO dL_law_496 rfl rfl ?_
    refine X_i2l 499 hO dL_law_498 rfl hr2 ?_
    refine X_lcmpE 500 hO dL_law_499 rfl ?_
    exact X_if_eq 503 505 hO dL_law_500 rfl rfl (by decide) (fun _ => X_goto (tgt := 3096) hO dL_law_505 rfl (X_wk (by simp only [lwk, lset, true_or, or_true, and_self]) (X_mono (by omega) (by omega) (kk _ hlw)))) (fun h => absurd rfl h)
theorem la_4 (hO : Ok κ RL cL_law) (hD : Dp κ 60) (hs : SCR κ b L xs) (hw : LAW μ f o n w) (hn : 0 ≤ n ∧ n ≤ 511) (hi : 0 ≤ i ∧ i + 5 ≤ L) (kk : ∀ w', LAW μ f o (n + 1) w' → X κ P S w' 3096 (lsL b f μ o i) []) : X κ (P + 175) (S + 13300) w 508 (lsL b f μ o i) [] := by
  obtain ⟨hX, hbl, hbA, hL⟩ := hs
  obtain ⟨A, hI, hR, hT⟩ := hw
  refine X_wi (fun hW => ?_)
  show X κ _ _ w 508 [some (.ref b), some (rv f), some (rv μ.1), some (rv o), some (.int (I i)), none, none] []
  refine X_aload_n 509 hO dL_law_508 rfl rfl ?_
  refine X_aload_nR 510 hO dL_law_509 rfl rfl ?_
  refine X_iload 512 hO dL_law_510 rfl rfl ?_
  refine X_iconst 513 hO dL_law_512 rfl ?_
  refine X_iadd 514 hO dL_law_513 rfl ?_
  refine X_sld (i := i + 1) 515 hO hX hbl hbA (by omega) hL dL_law_514 rfl (fun v1 hv1 hrv1 => ?_)
  refine X_aload_n 516 hO dL_law_515 rfl rfl ?_
  refine X_callSX 519 hO hD sL_search [_, _, _] (rest := []) rfl dL_law_516 rfl (L_search hI hR hT hn hrv1) (by decide) (by decide) (by omega) (by omega) (fun v_ w1 hp => ?_)
  obtain ⟨k, r, w', x, rfl, hk, ⟨B, hm, hb, dd, hd, hM⟩, rfl, hxr⟩ := hp
  have hkr : IR k := by omega
  show X κ _ _ _ 519 _ [.int (I k)]
  refine X_istore 521 hO dL_law_519 rfl rfl ?_
  refine X_aload_n 522 hO dL_law_521 rfl rfl ?_
  refine X_aload_nR 523 hO dL_law_522 rfl rfl ?_
  refine X_iload 525 hO dL_law_523 rfl rfl ?_
  refine X_iconst 526 hO dL_law_525 rfl ?_
  refine X_iadd 527 hO dL_law_526 rfl ?_
  refine X_sld (i := i + 1) 528 hO hX hbl hbA (by omega) hL dL_law_527 rfl (fun u1 hu1 hru1 => ?_)
  rw [show u1 = v1 from hu1.trans hv1.symm]
  refine XM_callVi 531 hO hD hm.2.1.up4 lL_194 [_] (rest := []) rfl dL_law_528 rfl (fun _ => hM x) (by omega) (by decide) (fun r2 w2 hr2 hp2 hR2 => ?_)
  obtain ⟨e1, e2⟩ := hp2
  subst r2
  subst w2
  have hlw := hm.up4.lw hR2
  refine X_istore 533 hO dL_law_531 rfl rfl ?_
  refine X_aload_n 534 hO dL_law_533 rfl rfl ?_
  refine XM_callVi 537 hO hD hR2 lL_180 [] (rest := []) rfl dL_law_534 rfl (c_thrown _ _ _) (by decide) (by decide) (fun t3 w3 ht3 hp3 hR3 => ?_)
  obtain ⟨e1, e2⟩ := hp3
  subst t3
  subst w3
  rw [show pc (KLw μ) (up w' 4 o 0 x) B 139 μ.1 0 = k from (pcm (by decide)).trans hb]
  refine X_iload 539 hO dL_law_537 rfl rfl ?_
  refine X_icmp_eq 542 544 hO dL_law_539 rfl rfl hkr hkr (fun _ => ?_) (fun h => absurd rfl h)
  refine X_iload 546 hO dL_law_544 rfl rfl ?_
  refine X_if_ne 549 561 hO dL_law_546 rfl rfl hkr (fun hk0 => ?_) (fun hk0 => ?_)
  · exact X_goto (tgt := 3096) hO dL_law_561 rfl (X_wk (by simp only [lwk, lset, true_or, or_true, and_self]) (X_mono (by omega) (by omega) (kk _ hlw)))
  · have hx0 := hxr hk0
    refine X_aload_n 550 hO dL_law_549 rfl rfl ?_
    refine X_iconst 551 hO dL_law_550 rfl ?_
    refine X_lald (z := o) (i := 0) 552 hO dL_law_551 rfl hm.out2.1 (by rw [hm.out2.2]; decide) ?_
    rw [show pc (KLw μ) (up w' 4 o 0 x) B 4 o 0 = r from MID.at4.trans hx0]
    refine X_iload 554 hO dL_law_552 rfl rfl ?_
    refine X_i2l 555 hO dL_law_554 rfl hr2 ?_
    refine X_lcmpE 556 hO dL_law_555 rfl ?_
    exact X_if_eq 559 561 hO dL_law_556 rfl rfl (by decide) (fun _ => X_goto (tgt := 3096) hO dL_law_561 rfl (X_wk (by simp only [lwk, lset, true_or, or_true, and_self]) (X_mono (by omega) (by omega) (kk _ hlw)))) (fun h => absurd rfl h)
theorem la_5 (hO : Ok κ RL cL_law) (hD : Dp κ 60) (hs : SCR κ b L xs) (hw : LAW μ f o n w) (hn : 0 ≤ n ∧ n ≤ 511) (hi : 0 ≤ i ∧ i + 5 ≤ L) (kk : ∀ w', LAW μ f o (n + 1) w' → X κ P S w' 3096 (lsL b f μ o i) []) : X κ (P + 175) (S + 13300) w 564 (lsL b f μ o i) [] := by
  obtain ⟨hX, hbl, hbA, hL⟩ := hs
  obtain ⟨A, hI, hR, hT⟩ := hw
  refine X_wi (fun hW => ?_)
  show X κ _ _ w 564 [some (.ref b), some (rv f), some (rv μ.1), some (rv o), some (.int (I i)), none, none] []
  refine X_aload_n 565 hO dL_law_564 rfl rfl ?_
  refine X_aload_nR 566 hO dL_law_565 rfl rfl ?_
  refine X_iload 568 hO dL_law_566 rfl rfl ?_
  refine X_iconst 569 hO dL_law_568 rfl ?_
  refine X_iadd 570 hO dL_law_569 rfl ?_
  refine X_sld (i := i + 1) 571 hO hX hbl hbA (by omega) hL dL_law_570 rfl (fun v1 hv1 hrv1 => ?_)
  refine X_aload_n 572 hO dL_law_571 rfl rfl ?_
  refine X_callSX 575 hO hD sL_kill [_, _, _] (rest := []) rfl dL_law_572 rfl (L_kill hI hR hT hn hrv1) (by decide) (by decide) (by omega) (by omega) (fun v_ w1 hp => ?_)
  obtain ⟨k, r, w', x, rfl, hk, ⟨B, hm, hb, dd, hd, hM⟩, rfl, hxr⟩ := hp
  have hkr : IR k := by omega
  show X κ _ _ _ 575 _ [.int (I k)]
  refine X_istore 577 hO dL_law_575 rfl rfl ?_
  refine X_aload_n 578 hO dL_law_577 rfl rfl ?_
  refine X_aload_nR 579 hO dL_law_578 rfl rfl ?_
  refine X_iload 581 hO dL_law_579 rfl rfl ?_
  refine X_iconst 582 hO dL_law_581 rfl ?_
  refine X_iadd 583 hO dL_law_582 rfl ?_
  refine X_sld (i := i + 1) 584 hO hX hbl hbA (by omega) hL dL_law_583 rfl (fun u1 hu1 hru1 => ?_)
  rw [show u1 = v1 from hu1.trans hv1.symm]
  refine XM_callVi 587 hO hD hm.2.1.up4 lL_197 [_] (rest := []) rfl dL_law_584 rfl (fun _ => hM x) (by omega) (by decide) (fun r2 w2 hr2 hp2 hR2 => ?_)
  obtain ⟨e1, e2⟩ := hp2
  subst r2
  subst w2
  have hlw := hm.up4.lw hR2
  refine X_istore 589 hO dL_law_587 rfl rfl ?_
  refine X_aload_n 590 hO dL_law_589 rfl rfl ?_
  refine XM_callVi 593 hO hD hR2 lL_180 [] (rest := []) rfl dL_law_590 rfl (c_thrown _ _ _) (by decide) (by decide) (fun t3 w3 ht3 hp3 hR3 => ?_)
  obtain ⟨e1, e2⟩ := hp3
  subst t3
  subst w3
  rw [show pc (KLw μ) (up w' 4 o 0 x) B 139 μ.1 0 = k from (pcm (by decide)).trans hb]
  refine X_iload 595 hO dL_law_593 rfl rfl ?_
  refine X_icmp_eq 598 600 hO dL_law_595 rfl rfl hkr hkr (fun _ => ?_) (fun h => absurd rfl h)
  refine X_iload 602 hO dL_law_600 rfl rfl ?_
  refine X_if_ne 605 617 hO dL_law_602 rfl rfl hkr (fun hk0 => ?_) (fun hk0 => ?_)
  · exact X_goto (tgt := 3096) hO dL_law_617 rfl (X_wk (by simp only [lwk, lset, true_or, or_true, and_self]) (X_mono (by omega) (by omega) (kk _ hlw)))
  · have hx0 := hxr hk0
    refine X_aload_n 606 hO dL_law_605 rfl rfl ?_
    refine X_iconst 607 hO dL_law_606 rfl ?_
    refine X_lald (z := o) (i := 0) 608 hO dL_law_607 rfl hm.out2.1 (by rw [hm.out2.2]; decide) ?_
    rw [show pc (KLw μ) (up w' 4 o 0 x) B 4 o 0 = r from MID.at4.trans hx0]
    refine X_iload 610 hO dL_law_608 rfl rfl ?_
    refine X_i2l 611 hO dL_law_610 rfl hr2 ?_
    refine X_lcmpE 612 hO dL_law_611 rfl ?_
    exact X_if_eq 615 617 hO dL_law_612 rfl rfl (by decide) (fun _ => X_goto (tgt := 3096) hO dL_law_617 rfl (X_wk (by simp only [lwk, lset, true_or, or_true, and_self]) (X_mono (by omega) (by omega) (kk _ hlw)))) (fun h => absurd rfl h)
theorem la_6 (hO : Ok κ RL cL_law) (hD : Dp κ 60) (hs : SCR κ b L xs) (hw : LAW μ f o n w) (hn : 0 ≤ n ∧ n ≤ 511) (hi : 0 ≤ i ∧ i + 5 ≤ L) (kk : ∀ w', LAW μ f o (n + 1) w' → X κ P S w' 3096 (lsL b f μ o i) []) : X κ (P + 175) (S + 13300) w 620 (lsL b f μ o i) [] := by
  obtain ⟨hX, hbl, hbA, hL⟩ := hs
  obtain ⟨A, hI, hR, hT⟩ := hw
  refine X_wi (fun hW => ?_)
  show X κ _ _ w 620 [some (.ref b), some (rv f), some (rv μ.1), some (rv o), some (.int (I i)), none, none] []
  refine X_aload_n 621 hO dL_law_620 rfl rfl ?_
  refine X_aload_n 622 hO dL_law_621 rfl rfl ?_
  refine X_callSX 625 hO hD sL_yank [_, _] (rest := []) rfl dL_law_622 rfl (L_yank hI hR hT hn) (by decide) (by decide) (by omega) (by omega) (fun v_ w1 hp => ?_)
  obtain ⟨k, r, w', x, rfl, hk, ⟨B, hm, hb, dd, hd, hM⟩, rfl, hxr⟩ := hp
  have hkr : IR k := by omega
  show X κ _ _ _ 625 _ [.int (I k)]
  refine X_istore 627 hO dL_law_625 rfl rfl ?_
  refine X_aload_n 628 hO dL_law_627 rfl rfl ?_
  refine XM_callVi 631 hO hD hm.2.1.up4 lL_201 [] (rest := []) rfl dL_law_628 rfl (fun _ => hM x) (by omega) (by decide) (fun r2 w2 hr2 hp2 hR2 => ?_)
  obtain ⟨e1, e2⟩ := hp2
  subst r2
  subst w2
  have hlw := hm.up4.lw hR2
  refine X_istore 633 hO dL_law_631 rfl rfl ?_
  refine X_aload_n 634 hO dL_law_633 rfl rfl ?_
  refine XM_callVi 637 hO hD hR2 lL_180 [] (rest := []) rfl dL_law_634 rfl (c_thrown _ _ _) (by decide) (by decide) (fun t3 w3 ht3 hp3 hR3 => ?_)
  obtain ⟨e1, e2⟩ := hp3
  subst t3
  subst w3
  rw [show pc (KLw μ) (up w' 4 o 0 x) B 139 μ.1 0 = k from (pcm (by decide)).trans hb]
  refine X_iload 639 hO dL_law_637 rfl rfl ?_
  refine X_icmp_eq 642 644 hO dL_law_639 rfl rfl hkr hkr (fun _ => ?_) (fun h => absurd rfl h)
  refine X_iload 646 hO dL_law_644 rfl rfl ?_
  refine X_if_ne 649 661 hO dL_law_646 rfl rfl hkr (fun hk0 => ?_) (fun hk0 => ?_)
  · exact X_goto (tgt := 3096) hO dL_law_661 rfl (X_wk (by simp only [lwk, lset, true_or, or_true, and_self]) (X_mono (by omega) (by omega) (kk _ hlw)))
  · have hx0 := hxr hk0
    refine X_aload_n 650 hO dL_law_649 rfl rfl ?_
    refine X_iconst 651 hO dL_law_650 rfl ?_
    refine X_lald (z := o) (i := 0) 652 hO dL_law_651 rfl hm.out2.1 (by rw [hm.out2.2]; decide) ?_
    rw [show pc (KLw μ) (up w' 4 o 0 x) B 4 o 0 = r from MID.at4.trans hx0]
    refine X_iload 654 hO dL_law_652 rfl rfl ?_
    refine X_i2l 655 hO dL_law_654 rfl hr2 ?_
    refine X_lcmpE 656 hO dL_law_655 rfl ?_
    exact X_if_eq 659 661 hO dL_law_656 rfl rfl (by decide) (fun _ => X_goto (tgt := 3096) hO dL_law_661 rfl (X_wk (by simp only [lwk, lset, true_or, or_true, and_self]) (X_mono (by omega) (by omega) (kk _ hlw)))) (fun h => absurd rfl h)
theorem la_7 (hO : Ok κ RL cL_law) (hD : Dp κ 60) (hs : SCR κ b L xs) (hw : LAW μ f o n w) (hn : 0 ≤ n ∧ n ≤ 511) (hi : 0 ≤ i ∧ i + 5 ≤ L) (kk : ∀ w', LAW μ f o (n + 1) w' → X κ P S w' 3096 (lsL b f μ o i) []) : X κ (P + 175) (S + 13300) w 664 (lsL b f μ o i) [] := by
  obtain ⟨hX, hbl, hbA, hL⟩ := hs
  obtain ⟨A, hI, hR, hT⟩ := hw
  refine X_wi (fun hW => ?_)
  show X κ _ _ w 664 [some (.ref b), some (rv f), some (rv μ.1), some (rv o), some (.int (I i)), none, none] []
  refine X_aload_n 665 hO dL_law_664 rfl rfl ?_
  refine X_aload_n 666 hO dL_law_665 rfl rfl ?_
  refine X_callSX 669 hO hD sL_rotate [_, _] (rest := []) rfl dL_law_666 rfl (L_rotate hI hR hT hn) (by decide) (by decide) (by omega) (by omega) (fun v_ w1 hp => ?_)
  obtain ⟨k, r, w', x, rfl, hk, ⟨B, hm, hb, dd, hd, hM⟩, rfl, hxr⟩ := hp
  have hkr : IR k := by omega
  show X κ _ _ _ 669 _ [.int (I k)]
  refine X_istore 671 hO dL_law_669 rfl rfl ?_
  refine X_aload_n 672 hO dL_law_671 rfl rfl ?_
  refine XM_callVi 675 hO hD hm.2.1.up4 lL_204 [] (rest := []) rfl dL_law_672 rfl (fun _ => hM x) (by omega) (by decide) (fun r2 w2 hr2 hp2 hR2 => ?_)
  obtain ⟨e1, e2⟩ := hp2
  subst r2
  subst w2
  have hlw := hm.up4.lw hR2
  refine X_istore 677 hO dL_law_675 rfl rfl ?_
  refine X_aload_n 678 hO dL_law_677 rfl rfl ?_
  refine XM_callVi 681 hO hD hR2 lL_180 [] (rest := []) rfl dL_law_678 rfl (c_thrown _ _ _) (by decide) (by decide) (fun t3 w3 ht3 hp3 hR3 => ?_)
  obtain ⟨e1, e2⟩ := hp3
  subst t3
  subst w3
  rw [show pc (KLw μ) (up w' 4 o 0 x) B 139 μ.1 0 = k from (pcm (by decide)).trans hb]
  refine X_iload 683 hO dL_law_681 rfl rfl ?_
  refine X_icmp_eq 686 688 hO dL_law_683 rfl rfl hkr hkr (fun _ => ?_) (fun h => absurd rfl h)
  refine X_iload 690 hO dL_law_688 rfl rfl ?_
  refine X_if_ne 693 705 hO dL_law_690 rfl rfl hkr (fun hk0 => ?_) (fun hk0 => ?_)
  · exact X_goto (tgt := 3096) hO dL_law_705 rfl (X_wk (by simp only [lwk, lset, true_or, or_true, and_self]) (X_mono (by omega) (by omega) (kk _ hlw)))
  · have hx0 := hxr hk0
    refine X_aload_n 694 hO dL_law_693 rfl rfl ?_
    refine X_iconst 695 hO dL_law_694 rfl ?_
    refine X_lald (z := o) (i := 0) 696 hO dL_law_695 rfl hm.out2.1 (by rw [hm.out2.2]; decide) ?_
    rw [show pc (KLw μ) (up w' 4 o 0 x) B 4 o 0 = r from MID.at4.trans hx0]
    refine X_iload 698 hO dL_law_696 rfl rfl ?_
    refine X_i2l 699 hO dL_law_698 rfl hr2 ?_
    refine X_lcmpE 700 hO dL_law_699 rfl ?_
    exact X_if_eq 703 705 hO dL_law_700 rfl rfl (by decide) (fun _ => X_goto (tgt := 3096) hO dL_law_705 rfl (X_wk (by simp only [lwk, lset, true_or, or_true, and_self]) (X_mono (by omega) (by omega) (kk _ hlw)))) (fun h => absurd rfl h)
theorem la_8 (hO : Ok κ RL cL_law) (hD : Dp κ 60) (hs : SCR κ b L xs) (hw : LAW μ f o n w) (hn : 0 ≤ n ∧ n ≤ 511) (hi : 0 ≤ i ∧ i + 5 ≤ L) (kk : ∀ w', LAW μ f o (n + 1) w' → X κ P S w' 3096 (lsL b f μ o i) []) : X κ (P + 175) (S + 13300) w 708 (lsL b f μ o i) [] := by
  obtain ⟨hX, hbl, hbA, hL⟩ := hs
  obtain ⟨A, hI, hR, hT⟩ := hw
  refine X_wi (fun hW => ?_)
  show X κ _ _ w 708 [some (.ref b), some (rv f), some (rv μ.1), some (rv o), some (.int (I i)), none, none] []
  refine X_aload_n 709 hO dL_law_708 rfl rfl ?_
  refine X_aload_nR 710 hO dL_law_709 rfl rfl ?_
  refine X_iload 712 hO dL_law_710 rfl rfl ?_
  refine X_iconst 713 hO dL_law_712 rfl ?_
  refine X_iadd 714 hO dL_law_713 rfl ?_
  refine X_sld (i := i + 1) 715 hO hX hbl hbA (by omega) hL dL_law_714 rfl (fun v1 hv1 hrv1 => ?_)
  refine X_aload_nR 716 hO dL_law_715 rfl rfl ?_
  refine X_iload 718 hO dL_law_716 rfl rfl ?_
  refine X_iconst 719 hO dL_law_718 rfl ?_
  refine X_iadd 720 hO dL_law_719 rfl ?_
  refine X_sld (i := i + 2) 721 hO hX hbl hbA (by omega) hL dL_law_720 rfl (fun v2 hv2 hrv2 => ?_)
  refine X_aload_n 722 hO dL_law_721 rfl rfl ?_
  refine X_callSX 725 hO hD sL_copy [_, _, _, _] (rest := []) rfl dL_law_722 rfl (L_copy hI hR hT hn hrv1 hrv2) (by decide) (by decide) (by omega) (by omega) (fun v_ w1 hp => ?_)
  obtain ⟨k, r, w', x, rfl, hk, ⟨B, hm, hb, dd, hd, hM⟩, rfl, hxr⟩ := hp
  have hkr : IR k := by omega
  show X κ _ _ _ 725 _ [.int (I k)]
  refine X_istore 727 hO dL_law_725 rfl rfl ?_
  refine X_aload_n 728 hO dL_law_727 rfl rfl ?_
  refine X_aload_nR 729 hO dL_law_728 rfl rfl ?_
  refine X_iload 731 hO dL_law_729 rfl rfl ?_
  refine X_iconst 732 hO dL_law_731 rfl ?_
  refine X_iadd 733 hO dL_law_732 rfl ?_
  refine X_sld (i := i + 1) 734 hO hX hbl hbA (by omega) hL dL_law_733 rfl (fun u1 hu1 hru1 => ?_)
  rw [show u1 = v1 from hu1.trans hv1.symm]
  refine X_aload_nR 735 hO dL_law_734 rfl rfl ?_
  refine X_iload 737 hO dL_law_735 rfl rfl ?_
  refine X_iconst 738 hO dL_law_737 rfl ?_
  refine X_iadd 739 hO dL_law_738 rfl ?_
  refine X_sld (i := i + 2) 740 hO hX hbl hbA (by omega) hL dL_law_739 rfl (fun u2 hu2 hru2 => ?_)
  rw [show u2 = v2 from hu2.trans hv2.symm]
  refine XM_callVi 743 hO hD hm.2.1.up4 lL_208 [_, _] (rest := []) rfl dL_law_740 rfl (fun _ => hM x) (by omega) (by decide) (fun r2 w2 hr2 hp2 hR2 => ?_)
  obtain ⟨e1, e2⟩ := hp2
  subst r2
  subst w2
  have hlw := hm.up4.lw hR2
  refine X_istore 745 hO dL_law_743 rfl rfl ?_
  refine X_aload_n 746 hO dL_law_745 rfl rfl ?_
  refine XM_callVi 749 hO hD hR2 lL_180 [] (rest := []) rfl dL_law_746 rfl (c_thrown _ _ _) (by decide) (by decide) (fun t3 w3 ht3 hp3 hR3 => ?_)
  obtain ⟨e1, e2⟩ := hp3
  subst t3
  subst w3
  rw [show pc (KLw μ) (up w' 4 o 0 x) B 139 μ.1 0 = k from (pcm (by decide)).trans hb]
  refine X_iload 751 hO dL_law_749 rfl rfl ?_
  refine X_icmp_eq 754 756 hO dL_law_751 rfl rfl hkr hkr (fun _ => ?_) (fun h => absurd rfl h)
  refine X_iload 758 hO dL_law_756 rfl rfl ?_
  refine X_if_ne 761 773 hO dL_law_758 rfl rfl hkr (fun hk0 => ?_) (fun hk0 => ?_)
  · exact X_goto (tgt := 3096) hO dL_law_773 rfl (X_wk (by simp only [lwk, lset, true_or, or_true, and_self]) (X_mono (by omega) (by omega) (kk _ hlw)))
  · have hx0 := hxr hk0
    refine X_aload_n 762 hO dL_law_761 rfl rfl ?_
    refine X_iconst 763 hO dL_law_762 rfl ?_
    refine X_lald (z := o) (i := 0) 764 hO dL_law_763 rfl hm.out2.1 (by rw [hm.out2.2]; decide) ?_
    rw [show pc (KLw μ) (up w' 4 o 0 x) B 4 o 0 = r from MID.at4.trans hx0]
    refine X_iload 766 hO dL_law_764 rfl rfl ?_
    refine X_i2l 767 hO dL_law_766 rfl hr2 ?_
    refine X_lcmpE 768 hO dL_law_767 rfl ?_
    exact X_if_eq 771 773 hO dL_law_768 rfl rfl (by decide) (fun _ => X_goto (tgt := 3096) hO dL_law_773 rfl (X_wk (by simp only [lwk, lset, true_or, or_true, and_self]) (X_mono (by omega) (by omega) (kk _ hlw)))) (fun h => absurd rfl h)
theorem la_9 (hO : Ok κ RL cL_law) (hD : Dp κ 60) (hs : SCR κ b L xs) (hw : LAW μ f o n w) (hn : 0 ≤ n ∧ n ≤ 511) (hi : 0 ≤ i ∧ i + 5 ≤ L) (kk : ∀ w', LAW μ f o (n + 1) w' → X κ P S w' 3096 (lsL b f μ o i) []) : X κ (P + 175) (S + 13300) w 776 (lsL b f μ o i) [] := by
  obtain ⟨hX, hbl, hbA, hL⟩ := hs
  obtain ⟨A, hI, hR, hT⟩ := hw
  refine X_wi (fun hW => ?_)
  show X κ _ _ w 776 [some (.ref b), some (rv f), some (rv μ.1), some (rv o), some (.int (I i)), none, none] []
  refine X_aload_n 777 hO dL_law_776 rfl rfl ?_
  refine X_aload_nR 778 hO dL_law_777 rfl rfl ?_
  refine X_iload 780 hO dL_law_778 rfl rfl ?_
  refine X_iconst 781 hO dL_law_780 rfl ?_
  refine X_iadd 782 hO dL_law_781 rfl ?_
  refine X_sld (i := i + 1) 783 hO hX hbl hbA (by omega) hL dL_law_782 rfl (fun v1 hv1 hrv1 => ?_)
  refine X_aload_n 784 hO dL_law_783 rfl rfl ?_
  refine X_callSX 787 hO hD sL_paste [_, _, _] (rest := []) rfl dL_law_784 rfl (L_paste hI hR hT hn hrv1) (by decide) (by decide) (by omega) (by omega) (fun v_ w1 hp => ?_)
  obtain ⟨k, r, w', x, rfl, hk, ⟨B, hm, hb, dd, hd, hM⟩, rfl, hxr⟩ := hp
  have hkr : IR k := by omega
  show X κ _ _ _ 787 _ [.int (I k)]
  refine X_istore 789 hO dL_law_787 rfl rfl ?_
  refine X_aload_n 790 hO dL_law_789 rfl rfl ?_
  refine X_aload_nR 791 hO dL_law_790 rfl rfl ?_
  refine X_iload 793 hO dL_law_791 rfl rfl ?_
  refine X_iconst 794 hO dL_law_793 rfl ?_
  refine X_iadd 795 hO dL_law_794 rfl ?_
  refine X_sld (i := i + 1) 796 hO hX hbl hbA (by omega) hL dL_law_795 rfl (fun u1 hu1 hru1 => ?_)
  rw [show u1 = v1 from hu1.trans hv1.symm]
  refine XM_callVi 799 hO hD hm.2.1.up4 lL_211 [_] (rest := []) rfl dL_law_796 rfl (fun _ => hM x) (by omega) (by decide) (fun r2 w2 hr2 hp2 hR2 => ?_)
  obtain ⟨e1, e2⟩ := hp2
  subst r2
  subst w2
  have hlw := hm.up4.lw hR2
  refine X_istore 801 hO dL_law_799 rfl rfl ?_
  refine X_aload_n 802 hO dL_law_801 rfl rfl ?_
  refine XM_callVi 805 hO hD hR2 lL_180 [] (rest := []) rfl dL_law_802 rfl (c_thrown _ _ _) (by decide) (by decide) (fun t3 w3 ht3 hp3 hR3 => ?_)
  obtain ⟨e1, e2⟩ := hp3
  subst t3
  subst w3
  rw [show pc (KLw μ) (up w' 4 o 0 x) B 139 μ.1 0 = k from (pcm (by decide)).trans hb]
  refine X_iload 807 hO dL_law_805 rfl rfl ?_
  refine X_icmp_eq 810 812 hO dL_law_807 rfl rfl hkr hkr (fun _ => ?_) (fun h => absurd rfl h)
  refine X_iload 814 hO dL_law_812 rfl rfl ?_
  refine X_if_ne 817 829 hO dL_law_814 rfl rfl hkr (fun hk0 => ?_) (fun hk0 => ?_)
  · exact X_goto (tgt := 3096) hO dL_law_829 rfl (X_wk (by simp only [lwk, lset, true_or, or_true, and_self]) (X_mono (by omega) (by omega) (kk _ hlw)))
  · have hx0 := hxr hk0
    refine X_aload_n 818 hO dL_law_817 rfl rfl ?_
    refine X_iconst 819 hO dL_law_818 rfl ?_
    refine X_lald (z := o) (i := 0) 820 hO dL_law_819 rfl hm.out2.1 (by rw [hm.out2.2]; decide) ?_
    rw [show pc (KLw μ) (up w' 4 o 0 x) B 4 o 0 = r from MID.at4.trans hx0]
    refine X_iload 822 hO dL_law_820 rfl rfl ?_
    refine X_i2l 823 hO dL_law_822 rfl hr2 ?_
    refine X_lcmpE 824 hO dL_law_823 rfl ?_
    exact X_if_eq 827 829 hO dL_law_824 rfl rfl (by decide) (fun _ => X_goto (tgt := 3096) hO dL_law_829 rfl (X_wk (by simp only [lwk, lset, true_or, or_true, and_self]) (X_mono (by omega) (by omega) (kk _ hlw)))) (fun h => absurd rfl h)
theorem la_10 (hO : Ok κ RL cL_law) (hD : Dp κ 60) (hs : SCR κ b L xs) (hw : LAW μ f o n w) (hn : 0 ≤ n ∧ n ≤ 511) (hi : 0 ≤ i ∧ i + 5 ≤ L) (kk : ∀ w', LAW μ f o (n + 1) w' → X κ P S w' 3096 (lsL b f μ o i) []) : X κ (P + 175) (S + 13300) w 832 (lsL b f μ o i) [] := by
  obtain ⟨hX, hbl, hbA, hL⟩ := hs
  obtain ⟨A, hI, hR, hT⟩ := hw
  refine X_wi (fun hW => ?_)
  show X κ _ _ w 832 [some (.ref b), some (rv f), some (rv μ.1), some (rv o), some (.int (I i)), none, none] []
  refine X_aload_n 833 hO dL_law_832 rfl rfl ?_
  refine X_aload_nR 834 hO dL_law_833 rfl rfl ?_
  refine X_iload 836 hO dL_law_834 rfl rfl ?_
  refine X_iconst 837 hO dL_law_836 rfl ?_
  refine X_iadd 838 hO dL_law_837 rfl ?_
  refine X_sld (i := i + 1) 839 hO hX hbl hbA (by omega) hL dL_law_838 rfl (fun v1 hv1 hrv1 => ?_)
  refine X_aload_nR 840 hO dL_law_839 rfl rfl ?_
  refine X_iload 842 hO dL_law_840 rfl rfl ?_
  refine X_iconst 843 hO dL_law_842 rfl ?_
  refine X_iadd 844 hO dL_law_843 rfl ?_
  refine X_sld (i := i + 2) 845 hO hX hbl hbA (by omega) hL dL_law_844 rfl (fun v2 hv2 hrv2 => ?_)
  obtain ⟨q, hq, hq2⟩ : ∃ q : Int, q = (if v2 = 0 then 0 else 1) ∧ (q = 0 ∨ q = 1) := ⟨_, rfl, by split; exact Or.inl rfl; exact Or.inr rfl⟩
  have hrq : IR q := by omega
  refine X_b01 848 852 853 hO dL_law_845 rfl rfl dL_law_848 rfl dL_law_849 rfl dL_law_852 rfl hrv2 hq ?_
  refine X_aload_n 854 hO dL_law_853 rfl rfl ?_
  refine X_callSX 857 hO hD sL_setMark [_, _, _, _] (rest := []) rfl dL_law_854 rfl (L_setMark hI hR hT hn hrv1 hrq hq2) (by decide) (by decide) (by omega) (by omega) (fun v_ w1 hp => ?_)
  obtain ⟨k, r, w', x, rfl, hk, ⟨B, hm, hb, dd, hd, hM⟩, rfl, hxr⟩ := hp
  have hkr : IR k := by omega
  show X κ _ _ _ 857 _ [.int (I k)]
  refine X_istore 859 hO dL_law_857 rfl rfl ?_
  refine X_aload_n 860 hO dL_law_859 rfl rfl ?_
  refine X_aload_nR 861 hO dL_law_860 rfl rfl ?_
  refine X_iload 863 hO dL_law_861 rfl rfl ?_
  refine X_iconst 864 hO dL_law_863 rfl ?_
  refine X_iadd 865 hO dL_law_864 rfl ?_
  refine X_sld (i := i + 1) 866 hO hX hbl hbA (by omega) hL dL_law_865 rfl (fun u1 hu1 hru1 => ?_)
  rw [show u1 = v1 from hu1.trans hv1.symm]
  refine X_aload_nR 867 hO dL_law_866 rfl rfl ?_
  refine X_iload 869 hO dL_law_867 rfl rfl ?_
  refine X_iconst 870 hO dL_law_869 rfl ?_
  refine X_iadd 871 hO dL_law_870 rfl ?_
  refine X_sld (i := i + 2) 872 hO hX hbl hbA (by omega) hL dL_law_871 rfl (fun u2 hu2 hru2 => ?_)
  rw [show u2 = v2 from hu2.trans hv2.symm]
  refine X_b01 875 879 880 hO dL_law_872 rfl rfl dL_law_875 rfl dL_law_876 rfl dL_law_879 rfl hrv2 hq ?_
  refine XM_callVi 883 hO hD hm.2.1.up4 lL_215 [_, _] (rest := []) rfl dL_law_880 rfl (fun _ => hM x) (by omega) (by decide) (fun r2 w2 hr2 hp2 hR2 => ?_)
  obtain ⟨e1, e2⟩ := hp2
  subst r2
  subst w2
  have hlw := hm.up4.lw hR2
  refine X_istore 885 hO dL_law_883 rfl rfl ?_
  refine X_aload_n 886 hO dL_law_885 rfl rfl ?_
  refine XM_callVi 889 hO hD hR2 lL_180 [] (rest := []) rfl dL_law_886 rfl (c_thrown _ _ _) (by decide) (by decide) (fun t3 w3 ht3 hp3 hR3 => ?_)
  obtain ⟨e1, e2⟩ := hp3
  subst t3
  subst w3
  rw [show pc (KLw μ) (up w' 4 o 0 x) B 139 μ.1 0 = k from (pcm (by decide)).trans hb]
  refine X_iload 891 hO dL_law_889 rfl rfl ?_
  refine X_icmp_eq 894 896 hO dL_law_891 rfl rfl hkr hkr (fun _ => ?_) (fun h => absurd rfl h)
  refine X_iload 898 hO dL_law_896 rfl rfl ?_
  refine X_if_ne 901 913 hO dL_law_898 rfl rfl hkr (fun hk0 => ?_) (fun hk0 => ?_)
  · exact X_goto (tgt := 3096) hO dL_law_913 rfl (X_wk (by simp only [lwk, lset, true_or, or_true, and_self]) (X_mono (by omega) (by omega) (kk _ hlw)))
  · have hx0 := hxr hk0
    refine X_aload_n 902 hO dL_law_901 rfl rfl ?_
    refine X_iconst 903 hO dL_law_902 rfl ?_
    refine X_lald (z := o) (i := 0) 904 hO dL_law_903 rfl hm.out2.1 (by rw [hm.out2.2]; decide) ?_
    rw [show pc (KLw μ) (up w' 4 o 0 x) B 4 o 0 = r from MID.at4.trans hx0]
    refine X_iload 906 hO dL_law_904 rfl rfl ?_
    refine X_i2l 907 hO dL_law_906 rfl hr2 ?_
    refine X_lcmpE 908 hO dL_law_907 rfl ?_
    exact X_if_eq 911 913 hO dL_law_908 rfl rfl (by decide) (fun _ => X_goto (tgt := 3096) hO dL_law_913 rfl (X_wk (by simp only [lwk, lset, true_or, or_true, and_self]) (X_mono (by omega) (by omega) (kk _ hlw)))) (fun h => absurd rfl h)
theorem la_11 (hO : Ok κ RL cL_law) (hD : Dp κ 60) (hs : SCR κ b L xs) (hw : LAW μ f o n w) (hn : 0 ≤ n ∧ n ≤ 511) (hi : 0 ≤ i ∧ i + 5 ≤ L) (kk : ∀ w', LAW μ f o (n + 1) w' → X κ P S w' 3096 (lsL b f μ o i) []) : X κ (P + 175) (S + 13300) w 916 (lsL b f μ o i) [] := by
  obtain ⟨hX, hbl, hbA, hL⟩ := hs
  obtain ⟨A, hI, hR, hT⟩ := hw
  refine X_wi (fun hW => ?_)
  show X κ _ _ w 916 [some (.ref b), some (rv f), some (rv μ.1), some (rv o), some (.int (I i)), none, none] []
  refine X_aload_n 917 hO dL_law_916 rfl rfl ?_
  refine X_aload_nR 918 hO dL_law_917 rfl rfl ?_
  refine X_iload 920 hO dL_law_918 rfl rfl ?_
  refine X_iconst 921 hO dL_law_920 rfl ?_
  refine X_iadd 922 hO dL_law_921 rfl ?_
  refine X_sld (i := i + 1) 923 hO hX hbl hbA (by omega) hL dL_law_922 rfl (fun v1 hv1 hrv1 => ?_)
  refine X_aload_n 924 hO dL_law_923 rfl rfl ?_
  refine X_callSX 927 hO hD sL_clearMark [_, _, _] (rest := []) rfl dL_law_924 rfl (L_clearMark hI hR hT hn hrv1) (by decide) (by decide) (by omega) (by omega) (fun v_ w1 hp => ?_)
  obtain ⟨k, r, w', x, rfl, hk, ⟨B, hm, hb, dd, hd, hM⟩, rfl, hxr⟩ := hp
  have hkr : IR k := by omega
  show X κ _ _ _ 927 _ [.int (I k)]
  refine X_istore 929 hO dL_law_927 rfl rfl ?_
  refine X_aload_n 930 hO dL_law_929 rfl rfl ?_
  refine X_aload_nR 931 hO dL_law_930 rfl rfl ?_
  refine X_iload 933 hO dL_law_931 rfl rfl ?_
  refine X_iconst 934 hO dL_law_933 rfl ?_
  refine X_iadd 935 hO dL_law_934 rfl ?_
  refine X_sld (i := i + 1) 936 hO hX hbl hbA (by omega) hL dL_law_935 rfl (fun u1 hu1 hru1 => ?_)
  rw [show u1 = v1 from hu1.trans hv1.symm]
  refine XM_callVi 939 hO hD hm.2.1.up4 lL_218 [_] (rest := []) rfl dL_law_936 rfl (fun _ => hM x) (by omega) (by decide) (fun r2 w2 hr2 hp2 hR2 => ?_)
  obtain ⟨e1, e2⟩ := hp2
  subst r2
  subst w2
  have hlw := hm.up4.lw hR2
  refine X_istore 941 hO dL_law_939 rfl rfl ?_
  refine X_aload_n 942 hO dL_law_941 rfl rfl ?_
  refine XM_callVi 945 hO hD hR2 lL_180 [] (rest := []) rfl dL_law_942 rfl (c_thrown _ _ _) (by decide) (by decide) (fun t3 w3 ht3 hp3 hR3 => ?_)
  obtain ⟨e1, e2⟩ := hp3
  subst t3
  subst w3
  rw [show pc (KLw μ) (up w' 4 o 0 x) B 139 μ.1 0 = k from (pcm (by decide)).trans hb]
  refine X_iload 947 hO dL_law_945 rfl rfl ?_
  refine X_icmp_eq 950 952 hO dL_law_947 rfl rfl hkr hkr (fun _ => ?_) (fun h => absurd rfl h)
  refine X_iload 954 hO dL_law_952 rfl rfl ?_
  refine X_if_ne 957 969 hO dL_law_954 rfl rfl hkr (fun hk0 => ?_) (fun hk0 => ?_)
  · exact X_goto (tgt := 3096) hO dL_law_969 rfl (X_wk (by simp only [lwk, lset, true_or, or_true, and_self]) (X_mono (by omega) (by omega) (kk _ hlw)))
  · have hx0 := hxr hk0
    refine X_aload_n 958 hO dL_law_957 rfl rfl ?_
    refine X_iconst 959 hO dL_law_958 rfl ?_
    refine X_lald (z := o) (i := 0) 960 hO dL_law_959 rfl hm.out2.1 (by rw [hm.out2.2]; decide) ?_
    rw [show pc (KLw μ) (up w' 4 o 0 x) B 4 o 0 = r from MID.at4.trans hx0]
    refine X_iload 962 hO dL_law_960 rfl rfl ?_
    refine X_i2l 963 hO dL_law_962 rfl hr2 ?_
    refine X_lcmpE 964 hO dL_law_963 rfl ?_
    exact X_if_eq 967 969 hO dL_law_964 rfl rfl (by decide) (fun _ => X_goto (tgt := 3096) hO dL_law_969 rfl (X_wk (by simp only [lwk, lset, true_or, or_true, and_self]) (X_mono (by omega) (by omega) (kk _ hlw)))) (fun h => absurd rfl h)
theorem la_12 (hO : Ok κ RL cL_law) (hD : Dp κ 60) (hs : SCR κ b L xs) (hw : LAW μ f o n w) (hn : 0 ≤ n ∧ n ≤ 511) (hi : 0 ≤ i ∧ i + 5 ≤ L) (kk : ∀ w', LAW μ f o (n + 1) w' → X κ P S w' 3096 (lsL b f μ o i) []) : X κ (P + 175) (S + 13300) w 972 (lsL b f μ o i) [] := by
  obtain ⟨hX, hbl, hbA, hL⟩ := hs
  obtain ⟨A, hI, hR, hT⟩ := hw
  refine X_wi (fun hW => ?_)
  show X κ _ _ w 972 [some (.ref b), some (rv f), some (rv μ.1), some (rv o), some (.int (I i)), none, none] []
  refine X_aload_n 973 hO dL_law_972 rfl rfl ?_
  refine X_aload_nR 974 hO dL_law_973 rfl rfl ?_
  refine X_iload 976 hO dL_law_974 rfl rfl ?_
  refine X_iconst 977 hO dL_law_976 rfl ?_
  refine X_iadd 978 hO dL_law_977 rfl ?_
  refine X_sld (i := i + 1) 979 hO hX hbl hbA (by omega) hL dL_law_978 rfl (fun v1 hv1 hrv1 => ?_)
  refine X_aload_n 980 hO dL_law_979 rfl rfl ?_
  refine X_callSX 983 hO hD sL_jump [_, _, _] (rest := []) rfl dL_law_980 rfl (L_jump hI hR hT hn hrv1) (by decide) (by decide) (by omega) (by omega) (fun v_ w1 hp => ?_)
  obtain ⟨k, r, w', x, rfl, hk, ⟨B, hm, hb, dd, hd, hM⟩, rfl, hxr⟩ := hp
  have hkr : IR k := by omega
  show X κ _ _ _ 983 _ [.int (I k)]
  refine X_istore 985 hO dL_law_983 rfl rfl ?_
  refine X_aload_n 986 hO dL_law_985 rfl rfl ?_
  refine X_aload_nR 987 hO dL_law_986 rfl rfl ?_
  refine X_iload 989 hO dL_law_987 rfl rfl ?_
  refine X_iconst 990 hO dL_law_989 rfl ?_
  refine X_iadd 991 hO dL_law_990 rfl ?_
  refine X_sld (i := i + 1) 992 hO hX hbl hbA (by omega) hL dL_law_991 rfl (fun u1 hu1 hru1 => ?_)
  rw [show u1 = v1 from hu1.trans hv1.symm]
  refine XM_callVi 995 hO hD hm.2.1.up4 lL_221 [_] (rest := []) rfl dL_law_992 rfl (fun _ => hM x) (by omega) (by decide) (fun r2 w2 hr2 hp2 hR2 => ?_)
  obtain ⟨e1, e2⟩ := hp2
  subst r2
  subst w2
  have hlw := hm.up4.lw hR2
  refine X_istore 997 hO dL_law_995 rfl rfl ?_
  refine X_aload_n 998 hO dL_law_997 rfl rfl ?_
  refine XM_callVi 1001 hO hD hR2 lL_180 [] (rest := []) rfl dL_law_998 rfl (c_thrown _ _ _) (by decide) (by decide) (fun t3 w3 ht3 hp3 hR3 => ?_)
  obtain ⟨e1, e2⟩ := hp3
  subst t3
  subst w3
  rw [show pc (KLw μ) (up w' 4 o 0 x) B 139 μ.1 0 = k from (pcm (by decide)).trans hb]
  refine X_iload 1003 hO dL_law_1001 rfl rfl ?_
  refine X_icmp_eq 1006 1008 hO dL_law_1003 rfl rfl hkr hkr (fun _ => ?_) (fun h => absurd rfl h)
  refine X_iload 1010 hO dL_law_1008 rfl rfl ?_
  refine X_if_ne 1013 1025 hO dL_law_1010 rfl rfl hkr (fun hk0 => ?_) (fun hk0 => ?_)
  · exact X_goto (tgt := 3096) hO dL_law_1025 rfl (X_wk (by simp only [lwk, lset, true_or, or_true, and_self]) (X_mono (by omega) (by omega) (kk _ hlw)))
  · have hx0 := hxr hk0
    refine X_aload_n 1014 hO dL_law_1013 rfl rfl ?_
    refine X_iconst 1015 hO dL_law_1014 rfl ?_
    refine X_lald (z := o) (i := 0) 1016 hO dL_law_1015 rfl hm.out2.1 (by rw [hm.out2.2]; decide) ?_
    rw [show pc (KLw μ) (up w' 4 o 0 x) B 4 o 0 = r from MID.at4.trans hx0]
    refine X_iload 1018 hO dL_law_1016 rfl rfl ?_
    refine X_i2l 1019 hO dL_law_1018 rfl hr2 ?_
    refine X_lcmpE 1020 hO dL_law_1019 rfl ?_
    exact X_if_eq 1023 1025 hO dL_law_1020 rfl rfl (by decide) (fun _ => X_goto (tgt := 3096) hO dL_law_1025 rfl (X_wk (by simp only [lwk, lset, true_or, or_true, and_self]) (X_mono (by omega) (by omega) (kk _ hlw)))) (fun h => absurd rfl h)
theorem la_13 (hO : Ok κ RL cL_law) (hD : Dp κ 60) (hs : SCR κ b L xs) (hw : LAW μ f o n w) (hn : 0 ≤ n ∧ n ≤ 511) (hi : 0 ≤ i ∧ i + 5 ≤ L) (kk : ∀ w', LAW μ f o (n + 1) w' → X κ P S w' 3096 (lsL b f μ o i) []) : X κ (P + 175) (S + 13300) w 1028 (lsL b f μ o i) [] := by
  obtain ⟨hX, hbl, hbA, hL⟩ := hs
  obtain ⟨A, hI, hR, hT⟩ := hw
  refine X_wi (fun hW => ?_)
  show X κ _ _ w 1028 [some (.ref b), some (rv f), some (rv μ.1), some (rv o), some (.int (I i)), none, none] []
  refine X_aload_n 1029 hO dL_law_1028 rfl rfl ?_
  refine X_aload_nR 1030 hO dL_law_1029 rfl rfl ?_
  refine X_iload 1032 hO dL_law_1030 rfl rfl ?_
  refine X_iconst 1033 hO dL_law_1032 rfl ?_
  refine X_iadd 1034 hO dL_law_1033 rfl ?_
  refine X_sld (i := i + 1) 1035 hO hX hbl hbA (by omega) hL dL_law_1034 rfl (fun v1 hv1 hrv1 => ?_)
  refine X_aload_n 1036 hO dL_law_1035 rfl rfl ?_
  refine X_callSX 1039 hO hD sL_narrow [_, _, _] (rest := []) rfl dL_law_1036 rfl (L_narrow hI hR hT hn hrv1) (by decide) (by decide) (by omega) (by omega) (fun v_ w1 hp => ?_)
  obtain ⟨k, r, w', x, rfl, hk, ⟨B, hm, hb, dd, hd, hM⟩, rfl, hxr⟩ := hp
  have hkr : IR k := by omega
  show X κ _ _ _ 1039 _ [.int (I k)]
  refine X_istore 1041 hO dL_law_1039 rfl rfl ?_
  refine X_aload_n 1042 hO dL_law_1041 rfl rfl ?_
  refine X_aload_nR 1043 hO dL_law_1042 rfl rfl ?_
  refine X_iload 1045 hO dL_law_1043 rfl rfl ?_
  refine X_iconst 1046 hO dL_law_1045 rfl ?_
  refine X_iadd 1047 hO dL_law_1046 rfl ?_
  refine X_sld (i := i + 1) 1048 hO hX hbl hbA (by omega) hL dL_law_1047 rfl (fun u1 hu1 hru1 => ?_)
  rw [show u1 = v1 from hu1.trans hv1.symm]
  refine XM_callVi 1051 hO hD hm.2.1.up4 lL_224 [_] (rest := []) rfl dL_law_1048 rfl (fun _ => hM x) (by omega) (by decide) (fun r2 w2 hr2 hp2 hR2 => ?_)
  obtain ⟨e1, e2⟩ := hp2
  subst r2
  subst w2
  have hlw := hm.up4.lw hR2
  refine X_istore 1053 hO dL_law_1051 rfl rfl ?_
  refine X_aload_n 1054 hO dL_law_1053 rfl rfl ?_
  refine XM_callVi 1057 hO hD hR2 lL_180 [] (rest := []) rfl dL_law_1054 rfl (c_thrown _ _ _) (by decide) (by decide) (fun t3 w3 ht3 hp3 hR3 => ?_)
  obtain ⟨e1, e2⟩ := hp3
  subst t3
  subst w3
  rw [show pc (KLw μ) (up w' 4 o 0 x) B 139 μ.1 0 = k from (pcm (by decide)).trans hb]
  refine X_iload 1059 hO dL_law_1057 rfl rfl ?_
  refine X_icmp_eq 1062 1064 hO dL_law_1059 rfl rfl hkr hkr (fun _ => ?_) (fun h => absurd rfl h)
  refine X_iload 1066 hO dL_law_1064 rfl rfl ?_
  refine X_if_ne 1069 1081 hO dL_law_1066 rfl rfl hkr (fun hk0 => ?_) (fun hk0 => ?_)
  · exact X_goto (tgt := 3096) hO dL_law_1081 rfl (X_wk (by simp only [lwk, lset, true_or, or_true, and_self]) (X_mono (by omega) (by omega) (kk _ hlw)))
  · have hx0 := hxr hk0
    refine X_aload_n 1070 hO dL_law_1069 rfl rfl ?_
    refine X_iconst 1071 hO dL_law_1070 rfl ?_
    refine X_lald (z := o) (i := 0) 1072 hO dL_law_1071 rfl hm.out2.1 (by rw [hm.out2.2]; decide) ?_
    rw [show pc (KLw μ) (up w' 4 o 0 x) B 4 o 0 = r from MID.at4.trans hx0]
    refine X_iload 1074 hO dL_law_1072 rfl rfl ?_
    refine X_i2l 1075 hO dL_law_1074 rfl hr2 ?_
    refine X_lcmpE 1076 hO dL_law_1075 rfl ?_
    exact X_if_eq 1079 1081 hO dL_law_1076 rfl rfl (by decide) (fun _ => X_goto (tgt := 3096) hO dL_law_1081 rfl (X_wk (by simp only [lwk, lset, true_or, or_true, and_self]) (X_mono (by omega) (by omega) (kk _ hlw)))) (fun h => absurd rfl h)
theorem la_14 (hO : Ok κ RL cL_law) (hD : Dp κ 60) (hs : SCR κ b L xs) (hw : LAW μ f o n w) (hn : 0 ≤ n ∧ n ≤ 511) (hi : 0 ≤ i ∧ i + 5 ≤ L) (kk : ∀ w', LAW μ f o (n + 1) w' → X κ P S w' 3096 (lsL b f μ o i) []) : X κ (P + 175) (S + 13300) w 1084 (lsL b f μ o i) [] := by
  obtain ⟨hX, hbl, hbA, hL⟩ := hs
  obtain ⟨A, hI, hR, hT⟩ := hw
  refine X_wi (fun hW => ?_)
  show X κ _ _ w 1084 [some (.ref b), some (rv f), some (rv μ.1), some (rv o), some (.int (I i)), none, none] []
  refine X_aload_n 1085 hO dL_law_1084 rfl rfl ?_
  refine X_aload_n 1086 hO dL_law_1085 rfl rfl ?_
  refine X_callSX 1089 hO hD sL_widen [_, _] (rest := []) rfl dL_law_1086 rfl (L_widen hI hR hT hn) (by decide) (by decide) (by omega) (by omega) (fun v_ w1 hp => ?_)
  obtain ⟨k, r, w', x, rfl, hk, ⟨B, hm, hb, dd, hd, hM⟩, rfl, hxr⟩ := hp
  have hkr : IR k := by omega
  show X κ _ _ _ 1089 _ [.int (I k)]
  refine X_istore 1091 hO dL_law_1089 rfl rfl ?_
  refine X_aload_n 1092 hO dL_law_1091 rfl rfl ?_
  refine XM_callVi 1095 hO hD hm.2.1.up4 lL_227 [] (rest := []) rfl dL_law_1092 rfl (fun _ => hM x) (by omega) (by decide) (fun r2 w2 hr2 hp2 hR2 => ?_)
  obtain ⟨e1, e2⟩ := hp2
  subst r2
  subst w2
  have hlw := hm.up4.lw hR2
  refine X_istore 1097 hO dL_law_1095 rfl rfl ?_
  refine X_aload_n 1098 hO dL_law_1097 rfl rfl ?_
  refine XM_callVi 1101 hO hD hR2 lL_180 [] (rest := []) rfl dL_law_1098 rfl (c_thrown _ _ _) (by decide) (by decide) (fun t3 w3 ht3 hp3 hR3 => ?_)
  obtain ⟨e1, e2⟩ := hp3
  subst t3
  subst w3
  rw [show pc (KLw μ) (up w' 4 o 0 x) B 139 μ.1 0 = k from (pcm (by decide)).trans hb]
  refine X_iload 1103 hO dL_law_1101 rfl rfl ?_
  refine X_icmp_eq 1106 1108 hO dL_law_1103 rfl rfl hkr hkr (fun _ => ?_) (fun h => absurd rfl h)
  refine X_iload 1110 hO dL_law_1108 rfl rfl ?_
  refine X_if_ne 1113 1125 hO dL_law_1110 rfl rfl hkr (fun hk0 => ?_) (fun hk0 => ?_)
  · exact X_goto (tgt := 3096) hO dL_law_1125 rfl (X_wk (by simp only [lwk, lset, true_or, or_true, and_self]) (X_mono (by omega) (by omega) (kk _ hlw)))
  · have hx0 := hxr hk0
    refine X_aload_n 1114 hO dL_law_1113 rfl rfl ?_
    refine X_iconst 1115 hO dL_law_1114 rfl ?_
    refine X_lald (z := o) (i := 0) 1116 hO dL_law_1115 rfl hm.out2.1 (by rw [hm.out2.2]; decide) ?_
    rw [show pc (KLw μ) (up w' 4 o 0 x) B 4 o 0 = r from MID.at4.trans hx0]
    refine X_iload 1118 hO dL_law_1116 rfl rfl ?_
    refine X_i2l 1119 hO dL_law_1118 rfl hr2 ?_
    refine X_lcmpE 1120 hO dL_law_1119 rfl ?_
    exact X_if_eq 1123 1125 hO dL_law_1120 rfl rfl (by decide) (fun _ => X_goto (tgt := 3096) hO dL_law_1125 rfl (X_wk (by simp only [lwk, lset, true_or, or_true, and_self]) (X_mono (by omega) (by omega) (kk _ hlw)))) (fun h => absurd rfl h)
end LW0
