section LSg
variable {w A : Mm} {μ : MU} {f n g rc : Int}
theorem g0 (hc : g = 0) (h : LG μ f n g rc w A) : LG μ f n 0 rc w A := by rw [← hc]; exact h
theorem r0 (hc : rc = 0) (h : LG μ f n g rc w A) : LG μ f n g 0 w A := by rw [← hc]; exact h
theorem r1 (h1 : rc = 0 ∨ rc = 1) (hc : ¬ rc = 0) (h : LG μ f n g rc w A) : LG μ f n g 1 w A := by rw [← h1.resolve_left hc]; exact h
theorem gg (hc : g = 0) (h : LG μ f n 0 rc w A) : LG μ f n g rc w A := by rw [hc]; exact h
end LSg
/-! THE LAW'S LOOP: its cases -/
section LSB
variable {κ : KC} {P S : Nat} {w A : Mm} {b L : Nat} {xs : Nat → Int32} {μ : MU} {f n g rc l T nn v q hd : Int}
set_option maxRecDepth 4000 in
theorem la_E (hO : Ok κ RL cL_law) (hD : Dp κ 60) (h : LG μ f n g rc w A) (hn : 0 ≤ n ∧ n ≤ 490) (hg : g = 0 ∨ g = 1) (hrc : rc = 0 ∨ rc = 1) (hv : IR v)  (kk : ∀ w' B g' rc', LG μ f (n + 2) g' rc' w' B → (g' = 0 ∨ g' = 1) → (rc' = 0 ∨ rc' = 1) → X κ P S w' 731 (lsT b f g' l rc' T nn v q hd) []) : X κ (P + 200) (S + 15000) w 408 (lsT b f g l rc T nn v q hd) [] := by
  show X κ (P + 200) (S + 15000) w 408 [some (.ref b), some (rv f), some (.int (I g)), some (.int (I l)), some (.int (I rc)), some (.int (I 1)), some (.int (I T)), some (.int (I nn)), some (.int (I v)), some (.int (I q)), some (.int (I hd)), none, none, none] []
  refine X_wi (fun hW => ?_)
  have hE := h
  have t0 : w 0 f 0 = 13 := h.t0
  have hlen := h.len
  refine X_iload_n 409 hO dL_law_408 rfl rfl ?_
  refine X_if_ne 412 416 hO dL_law_409 rfl rfl (by omega) (fun hc_409 => ?_) (fun hc_409 => ?_)
  ·
    have hg1 : g = 1 := by omega
    subst hg1
    refine X_iconst 417 hO dL_law_416 rfl ?_
    refine X_istore_n 418 hO dL_law_417 rfl rfl ?_
    refine X_goto hO dL_law_418 (tgt := 731) rfl ?_
    exact X_wk (by simp only [lwk, lset, true_or, or_true, and_self]) (X_mono (by omega) (by omega) (kk _ _ _ _ (hE.mono (by omega)) (by omega) (by omega)))
  ·
    refine X_aload_n 413 hO dL_law_412 rfl rfl ?_
    refine X_kVv (t := 13) 416 hO hD lL_171 rfl (by decide) [] rfl dL_law_413 rfl (by first | assumption | omega | (simp (disch := first | decide | assumption | omega) only [up_k, up_s, up_a, up_i, flA_k, flA_a, newO_o, newA_o]; first | assumption | omega)) (lg_open (g0 hc_409 hE) (by omega)) (by decide) (by simp [rv_cat, int_cat]) (by first | decide | exact Nat.zero_le _ | omega) (by first | decide | exact Nat.zero_le _ | omega) (fun w_413 hp_413 => ?_) (fun E w_ hx_ => hx_.elim)
    obtain ⟨B_413, hE⟩ := hp_413
    have t0_413 : w_413 0 f 0 = 13 := hE.t0
    refine X_wi (fun hW_413 => ?_)
    refine X_iconst 417 hO dL_law_416 rfl ?_
    refine X_istore_n 418 hO dL_law_417 rfl rfl ?_
    refine X_goto hO dL_law_418 (tgt := 731) rfl ?_
    exact X_wk (by simp only [lwk, lset, true_or, or_true, and_self]) (X_mono (by omega) (by omega) (kk _ _ _ _ (hE.mono (by omega)) (by omega) (by omega)))
set_option maxRecDepth 4000 in
theorem la_F (hO : Ok κ RL cL_law) (hD : Dp κ 60) (h : LG μ f n g rc w A) (hn : 0 ≤ n ∧ n ≤ 490) (hg : g = 0 ∨ g = 1) (hrc : rc = 0 ∨ rc = 1) (hv : IR v)  (kk : ∀ w' B g' rc', LG μ f (n + 2) g' rc' w' B → (g' = 0 ∨ g' = 1) → (rc' = 0 ∨ rc' = 1) → X κ P S w' 731 (lsT b f g' l rc' T nn v q hd) []) : X κ (P + 200) (S + 15000) w 428 (lsT b f g l rc T nn v q hd) [] := by
  show X κ (P + 200) (S + 15000) w 428 [some (.ref b), some (rv f), some (.int (I g)), some (.int (I l)), some (.int (I rc)), some (.int (I 1)), some (.int (I T)), some (.int (I nn)), some (.int (I v)), some (.int (I q)), some (.int (I hd)), none, none, none] []
  refine X_wi (fun hW => ?_)
  have hE := h
  have t0 : w 0 f 0 = 13 := h.t0
  have hlen := h.len
  refine X_aload_n 429 hO dL_law_428 rfl rfl ?_
  refine X_iconst 430 hO dL_law_429 rfl ?_
  refine X_iconst 431 hO dL_law_430 rfl ?_
  refine X_kWi 434 hO hD sL_walks [_, _, _] (rest := []) rfl dL_law_431 rfl (L_walksC _ hE (by omega) hg (by decide)) (by decide) (by simp [rv_cat, int_cat]) (by omega) (by omega) (fun r_431 w_431 hr_431 hp_431 => ?_)
  have t0_431 : w_431 0 f 0 = 13 := by rcases hp_431 with y | y; obtain ⟨-, B, z⟩ := y; exact z.t0; obtain ⟨-, B, -, z⟩ := y; exact z.t0
  refine X_istore 436 hO dL_law_434 rfl rfl ?_
  refine X_iload 438 hO dL_law_436 rfl rfl ?_
  refine X_bipush 440 hO dL_law_438 rfl (by decide) ?_
  refine X_icmp_eq 443 456 hO dL_law_440 rfl rfl (by omega) (by omega) (fun hc_440 => ?_) (fun hc_440 => ?_)
  ·
    obtain ⟨B0, hE⟩ : ∃ B, LG μ f (n + 1) g rc w_431 B := by rcases hp_431 with y | y; exact y.2; obtain ⟨-, B, e, z⟩ := y; have := z.cur0; omega
    refine X_iconst 457 hO dL_law_456 rfl ?_
    refine X_goto hO dL_law_457 (tgt := 461) rfl ?_
    refine X_istore 463 hO dL_law_461 rfl rfl ?_
    refine X_iload_n 464 hO dL_law_463 rfl rfl ?_
    refine X_if_eq 467 478 hO dL_law_464 rfl rfl (by omega) (fun hc_464 => ?_) (fun hc_464 => ?_)
    ·
      subst hc_464
      refine X_iconst 479 hO dL_law_478 rfl ?_
      refine X_istore_n 480 hO dL_law_479 rfl rfl ?_
      refine X_goto hO dL_law_480 (tgt := 731) rfl ?_
      exact X_wk (by simp only [lwk, lset, true_or, or_true, and_self]) (X_mono (by omega) (by omega) (kk _ _ _ _ (hE.mono (by omega)) (by omega) (by omega)))
    ·
      have hg1 : g = 1 := by omega
      subst hg1
      refine X_iload 469 hO dL_law_467 rfl rfl ?_
      refine X_bipush 471 hO dL_law_469 rfl (by decide) ?_
      refine X_icmp_ne 474 478 hO dL_law_471 rfl rfl (by omega) (by omega) (fun hc_471 => ?_) (fun hc_471 => ?_)
      ·
        exact absurd hc_471 (by omega)
      ·
        refine X_iconst 475 hO dL_law_474 rfl ?_
        refine X_goto hO dL_law_475 (tgt := 479) rfl ?_
        refine X_istore_n 480 hO dL_law_479 rfl rfl ?_
        refine X_goto hO dL_law_480 (tgt := 731) rfl ?_
        exact X_wk (by simp only [lwk, lset, true_or, or_true, and_self]) (X_mono (by omega) (by omega) (kk _ _ _ _ (hE.mono (by omega)) (by omega) (by omega)))
  ·
    obtain ⟨hg1, B0, hrB, hE⟩ := hp_431.resolve_left (fun y => hc_440 y.1)
    refine X_iload_n 444 hO dL_law_443 rfl rfl ?_
    refine X_if_eq 447 460 hO dL_law_444 rfl rfl (by omega) (fun hc_444 => ?_) (fun hc_444 => ?_)
    ·
      exact absurd hc_444 (by omega)
    ·
      refine X_iload 449 hO dL_law_447 rfl rfl ?_
      refine X_aload_n 450 hO dL_law_449 rfl rfl ?_
      refine X_kVi (t := 13) 453 hO hD lL_111 rfl (by decide) [] rfl dL_law_450 rfl (by first | assumption | omega | (simp (disch := first | decide | assumption | omega) only [up_k, up_s, up_a, up_i, flA_k, flA_a, newO_o, newA_o]; first | assumption | omega)) (z_now hE) (by decide) (by simp [rv_cat, int_cat]) (by first | decide | exact Nat.zero_le _ | omega) (by first | decide | exact Nat.zero_le _ | omega) (fun r_450 w_450 hr_450 hp_450 => ?_) (fun E w_ hx_ => hx_.elim)
      obtain ⟨he_450, e_450⟩ := hp_450
      subst w_450
      refine X_icmp_ne 456 460 hO dL_law_453 rfl rfl (by omega) (by omega) (fun hc_453 => ?_) (fun hc_453 => ?_)
      ·
        exact absurd hc_453 (by omega)
      ·
        refine X_iconst 457 hO dL_law_456 rfl ?_
        refine X_goto hO dL_law_457 (tgt := 461) rfl ?_
        refine X_istore 463 hO dL_law_461 rfl rfl ?_
        refine X_iload_n 464 hO dL_law_463 rfl rfl ?_
        refine X_if_eq 467 478 hO dL_law_464 rfl rfl (by omega) (fun hc_464 => ?_) (fun hc_464 => ?_)
        ·
          exact absurd hc_464 (by omega)
        ·
          refine X_iload 469 hO dL_law_467 rfl rfl ?_
          refine X_bipush 471 hO dL_law_469 rfl (by decide) ?_
          refine X_icmp_ne 474 478 hO dL_law_471 rfl rfl (by omega) (by omega) (fun hc_471 => ?_) (fun hc_471 => ?_)
          ·
            refine X_iconst 479 hO dL_law_478 rfl ?_
            refine X_istore_n 480 hO dL_law_479 rfl rfl ?_
            refine X_goto hO dL_law_480 (tgt := 731) rfl ?_
            exact X_wk (by simp only [lwk, lset, true_or, or_true, and_self]) (X_mono (by omega) (by omega) (kk _ _ _ _ (hE.mono (by omega)) (by omega) (by omega)))
          ·
            exact absurd hc_471 (by omega)
set_option maxRecDepth 4000 in
theorem la_G (hO : Ok κ RL cL_law) (hD : Dp κ 60) (h : LG μ f n g rc w A) (hn : 0 ≤ n ∧ n ≤ 490) (hg : g = 0 ∨ g = 1) (hrc : rc = 0 ∨ rc = 1) (hv : IR v)  (kk : ∀ w' B g' rc', LG μ f (n + 2) g' rc' w' B → (g' = 0 ∨ g' = 1) → (rc' = 0 ∨ rc' = 1) → X κ P S w' 731 (lsT b f g' l rc' T nn v q hd) []) : X κ (P + 200) (S + 15000) w 490 (lsT b f g l rc T nn v q hd) [] := by
  show X κ (P + 200) (S + 15000) w 490 [some (.ref b), some (rv f), some (.int (I g)), some (.int (I l)), some (.int (I rc)), some (.int (I 1)), some (.int (I T)), some (.int (I nn)), some (.int (I v)), some (.int (I q)), some (.int (I hd)), none, none, none] []
  refine X_wi (fun hW => ?_)
  have hE := h
  have t0 : w 0 f 0 = 13 := h.t0
  have hlen := h.len
  refine X_iload 492 hO dL_law_490 rfl rfl ?_
  refine X_if_ne 495 505 hO dL_law_492 rfl rfl (by omega) (fun hc_492 => ?_) (fun hc_492 => ?_)
  ·
    have hr1 : rc = 1 := by omega
    subst hr1
    refine X_iconst 506 hO dL_law_505 rfl ?_
    refine X_istore 508 hO dL_law_506 rfl rfl ?_
    refine X_goto hO dL_law_508 (tgt := 731) rfl ?_
    exact X_wk (by simp only [lwk, lset, true_or, or_true, and_self]) (X_mono (by omega) (by omega) (kk _ _ _ _ (hE.mono (by omega)) (by omega) (by omega)))
  ·
    refine X_aload_n 496 hO dL_law_495 rfl rfl ?_
    refine X_iload 498 hO dL_law_496 rfl rfl ?_
    refine X_iconst 499 hO dL_law_498 rfl ?_
    refine X_kSi 502 hO hD lL_9 [_, _] rfl dL_law_499 rfl (L_low _ _ _ _ (by omega) (by omega)) (by decide) (by simp [rv_cat, int_cat]) (by first | decide | exact Nat.zero_le _ | omega) (by first | decide | exact Nat.zero_le _ | omega) (fun r_499 w_499 hr_499 hp_499 => ?_) (fun E w_ hx_ => hx_.elim)
    obtain ⟨hl_499, e_499⟩ := hp_499
    subst w_499
    refine X_kVv (t := 13) 505 hO hD lL_174 rfl (by decide) [_] rfl dL_law_502 rfl (by first | assumption | omega | (simp (disch := first | decide | assumption | omega) only [up_k, up_s, up_a, up_i, flA_k, flA_a, newO_o, newA_o]; first | assumption | omega)) (lg_record (r0 hc_492 hE) (by omega) (by omega)) (by decide) (by simp [rv_cat, int_cat]) (by first | decide | exact Nat.zero_le _ | omega) (by first | decide | exact Nat.zero_le _ | omega) (fun w_502 hp_502 => ?_) (fun E w_ hx_ => hx_.elim)
    obtain ⟨B_502, hE⟩ := hp_502
    have t0_502 : w_502 0 f 0 = 13 := hE.t0
    refine X_wi (fun hW_502 => ?_)
    refine X_iconst 506 hO dL_law_505 rfl ?_
    refine X_istore 508 hO dL_law_506 rfl rfl ?_
    refine X_goto hO dL_law_508 (tgt := 731) rfl ?_
    exact X_wk (by simp only [lwk, lset, true_or, or_true, and_self]) (X_mono (by omega) (by omega) (kk _ _ _ _ (hE.mono (by omega)) (by omega) (by omega)))
set_option maxRecDepth 4000 in
theorem la_H (hO : Ok κ RL cL_law) (hD : Dp κ 60) (h : LG μ f n g rc w A) (hn : 0 ≤ n ∧ n ≤ 490) (hg : g = 0 ∨ g = 1) (hrc : rc = 0 ∨ rc = 1) (hv : IR v)  (kk : ∀ w' B g' rc', LG μ f (n + 2) g' rc' w' B → (g' = 0 ∨ g' = 1) → (rc' = 0 ∨ rc' = 1) → X κ P S w' 731 (lsT b f g' l rc' T nn v q hd) []) : X κ (P + 200) (S + 15000) w 518 (lsT b f g l rc T nn v q hd) [] := by
  show X κ (P + 200) (S + 15000) w 518 [some (.ref b), some (rv f), some (.int (I g)), some (.int (I l)), some (.int (I rc)), some (.int (I 1)), some (.int (I T)), some (.int (I nn)), some (.int (I v)), some (.int (I q)), some (.int (I hd)), none, none, none] []
  refine X_wi (fun hW => ?_)
  have hE := h
  have t0 : w 0 f 0 = 13 := h.t0
  have hlen := h.len
  refine X_iload 520 hO dL_law_518 rfl rfl ?_
  refine X_if_eq 523 532 hO dL_law_520 rfl rfl (by omega) (fun hc_520 => ?_) (fun hc_520 => ?_)
  ·
    subst hc_520
    refine X_iconst 533 hO dL_law_532 rfl ?_
    refine X_goto hO dL_law_533 (tgt := 537) rfl ?_
    refine X_istore 539 hO dL_law_537 rfl rfl ?_
    refine X_iconst 540 hO dL_law_539 rfl ?_
    refine X_istore 542 hO dL_law_540 rfl rfl ?_
    refine X_goto hO dL_law_542 (tgt := 731) rfl ?_
    exact X_wk (by simp only [lwk, lset, true_or, or_true, and_self]) (X_mono (by omega) (by omega) (kk _ _ _ _ (hE.mono (by omega)) (by omega) (by omega)))
  ·
    refine X_aload_n 524 hO dL_law_523 rfl rfl ?_
    refine X_kVi (t := 13) 527 hO hD lL_177 rfl (by decide) [] rfl dL_law_524 rfl (by first | assumption | omega | (simp (disch := first | decide | assumption | omega) only [up_k, up_s, up_a, up_i, flA_k, flA_a, newO_o, newA_o]; first | assumption | omega)) (lg_stop (r1 hrc hc_520 hE) (by omega)) (by decide) (by simp [rv_cat, int_cat]) (by first | decide | exact Nat.zero_le _ | omega) (by first | decide | exact Nat.zero_le _ | omega) (fun r_524 w_524 hr_524 hp_524 => ?_) (fun E w_ hx_ => hx_.elim)
    obtain ⟨hA_524, B_524, hE⟩ := hp_524
    have t0_524 : w_524 0 f 0 = 13 := hE.t0
    refine X_wi (fun hW_524 => ?_)
    refine X_bipush 529 hO dL_law_527 rfl (by decide) ?_
    refine X_icmp_gt 532 536 hO dL_law_529 rfl rfl (by omega) (by omega) (fun hc_529 => ?_) (fun hc_529 => ?_)
    ·
      exact absurd hc_529 (by omega)
    ·
      refine X_iconst 533 hO dL_law_532 rfl ?_
      refine X_goto hO dL_law_533 (tgt := 537) rfl ?_
      refine X_istore 539 hO dL_law_537 rfl rfl ?_
      refine X_iconst 540 hO dL_law_539 rfl ?_
      refine X_istore 542 hO dL_law_540 rfl rfl ?_
      refine X_goto hO dL_law_542 (tgt := 731) rfl ?_
      exact X_wk (by simp only [lwk, lset, true_or, or_true, and_self]) (X_mono (by omega) (by omega) (kk _ _ _ _ (hE.mono (by omega)) (by omega) (by omega)))
set_option maxRecDepth 4000 in
theorem la_I (hO : Ok κ RL cL_law) (hD : Dp κ 60) (h : LG μ f n g rc w A) (hn : 0 ≤ n ∧ n ≤ 490) (hg : g = 0 ∨ g = 1) (hrc : rc = 0 ∨ rc = 1) (hv : IR v)  (kk : ∀ w' B g' rc', LG μ f (n + 2) g' rc' w' B → (g' = 0 ∨ g' = 1) → (rc' = 0 ∨ rc' = 1) → X κ P S w' 731 (lsT b f g' l rc' T nn v q hd) []) : X κ (P + 200) (S + 15000) w 552 (lsT b f g l rc T nn v q hd) [] := by
  show X κ (P + 200) (S + 15000) w 552 [some (.ref b), some (rv f), some (.int (I g)), some (.int (I l)), some (.int (I rc)), some (.int (I 1)), some (.int (I T)), some (.int (I nn)), some (.int (I v)), some (.int (I q)), some (.int (I hd)), none, none, none] []
  refine X_wi (fun hW => ?_)
  have hE := h
  have t0 : w 0 f 0 = 13 := h.t0
  have hlen := h.len
  refine X_aload_n 553 hO dL_law_552 rfl rfl ?_
  refine X_iconst 554 hO dL_law_553 rfl ?_
  refine X_iload 556 hO dL_law_554 rfl rfl ?_
  refine X_iconst 557 hO dL_law_556 rfl ?_
  obtain ⟨z_557, hz_557, hzr_557⟩ := I_any (I v >>> (I 3 &&& 31))
  refine X_ishr 558 hO dL_law_557 rfl (hz_557) ?_
  refine X_kWi 561 hO hD sL_walks [_, _, _] (rest := []) rfl dL_law_558 rfl (L_walksR _ hE (by omega) (by omega)) (by decide) (by simp [rv_cat, int_cat]) (by omega) (by omega) (fun r_558 w_558 hr_558 hp_558 => ?_)
  obtain ⟨hA_558, B_558, hE⟩ := hp_558
  have hFA := hE.2.2.2.2
  unfold FAp at hFA
  have t0_558 : w_558 0 f 0 = 13 := hE.t0
  refine X_wi (fun hW_558 => ?_)
  refine X_istore 563 hO dL_law_561 rfl rfl ?_
  refine X_iload 565 hO dL_law_563 rfl rfl ?_
  refine X_bipush 567 hO dL_law_565 rfl (by decide) ?_
  refine X_icmp_lt 570 609 hO dL_law_567 rfl rfl (by omega) (by omega) (fun hc_567 => ?_) (fun hc_567 => ?_)
  ·
    exact absurd hc_567 (by omega)
  ·
    refine X_iload 572 hO dL_law_570 rfl rfl ?_
    refine X_bipush 574 hO dL_law_572 rfl (by decide) ?_
    refine X_icmp_gt 577 609 hO dL_law_574 rfl rfl (by omega) (by omega) (fun hc_574 => ?_) (fun hc_574 => ?_)
    ·
      exact absurd hc_574 (by omega)
    ·
      refine X_aload_n 578 hO dL_law_577 rfl rfl ?_
      refine X_kVi (t := 13) 581 hO hD lL_180 rfl (by decide) [] rfl dL_law_578 rfl (by first | assumption | omega | (simp (disch := first | decide | assumption | omega) only [up_k, up_s, up_a, up_i, flA_k, flA_a, newO_o, newA_o]; first | assumption | omega)) (z_failureReason hE) (by decide) (by simp [rv_cat, int_cat]) (by first | decide | exact Nat.zero_le _ | omega) (by first | decide | exact Nat.zero_le _ | omega) (fun r_578 w_578 hr_578 hp_578 => ?_) (fun E w_ hx_ => hx_.elim)
      obtain ⟨he_578, e_578⟩ := hp_578
      subst w_578
      refine X_if_ne 584 588 hO dL_law_581 rfl rfl (by omega) (fun hc_581 => ?_) (fun hc_581 => ?_)
      ·
        refine X_iconst 589 hO dL_law_588 rfl ?_
        refine X_aload_n 590 hO dL_law_589 rfl rfl ?_
        refine X_kVi (t := 13) 593 hO hD lL_183 rfl (by decide) [] rfl dL_law_590 rfl (by first | assumption | omega | (simp (disch := first | decide | assumption | omega) only [up_k, up_s, up_a, up_i, flA_k, flA_a, newO_o, newA_o]; first | assumption | omega)) (z_failureCommand hE) (by decide) (by simp [rv_cat, int_cat]) (by first | decide | exact Nat.zero_le _ | omega) (by first | decide | exact Nat.zero_le _ | omega) (fun r_590 w_590 hr_590 hp_590 => ?_) (fun E w_ hx_ => hx_.elim)
        obtain ⟨he_590, e_590⟩ := hp_590
        subst w_590
        refine X_iconst 594 hO dL_law_593 rfl ?_
        refine X_icmp_ne 597 601 hO dL_law_594 rfl rfl (by omega) (by omega) (fun hc_594 => ?_) (fun hc_594 => ?_)
        ·
          refine X_iconst 602 hO dL_law_601 rfl ?_
          refine X_icmp_ne 605 609 hO dL_law_602 rfl rfl (by omega) (by omega) (fun hc_602 => ?_) (fun hc_602 => ?_)
          ·
            exfalso; omega
          ·
            refine X_iconst 606 hO dL_law_605 rfl ?_
            refine X_goto hO dL_law_606 (tgt := 610) rfl ?_
            refine X_istore 612 hO dL_law_610 rfl rfl ?_
            refine X_goto hO dL_law_612 (tgt := 731) rfl ?_
            exact X_wk (by simp only [lwk, lset, true_or, or_true, and_self]) (X_mono (by omega) (by omega) (kk _ _ _ _ (hE.mono (by omega)) (by omega) (by omega)))
        ·
          refine X_iconst 598 hO dL_law_597 rfl ?_
          refine X_goto hO dL_law_598 (tgt := 602) rfl ?_
          refine X_icmp_ne 605 609 hO dL_law_602 rfl rfl (by omega) (by omega) (fun hc_602 => ?_) (fun hc_602 => ?_)
          ·
            exfalso; omega
          ·
            refine X_iconst 606 hO dL_law_605 rfl ?_
            refine X_goto hO dL_law_606 (tgt := 610) rfl ?_
            refine X_istore 612 hO dL_law_610 rfl rfl ?_
            refine X_goto hO dL_law_612 (tgt := 731) rfl ?_
            exact X_wk (by simp only [lwk, lset, true_or, or_true, and_self]) (X_mono (by omega) (by omega) (kk _ _ _ _ (hE.mono (by omega)) (by omega) (by omega)))
      ·
        refine X_iconst 585 hO dL_law_584 rfl ?_
        refine X_goto hO dL_law_585 (tgt := 589) rfl ?_
        refine X_aload_n 590 hO dL_law_589 rfl rfl ?_
        refine X_kVi (t := 13) 593 hO hD lL_183 rfl (by decide) [] rfl dL_law_590 rfl (by first | assumption | omega | (simp (disch := first | decide | assumption | omega) only [up_k, up_s, up_a, up_i, flA_k, flA_a, newO_o, newA_o]; first | assumption | omega)) (z_failureCommand hE) (by decide) (by simp [rv_cat, int_cat]) (by first | decide | exact Nat.zero_le _ | omega) (by first | decide | exact Nat.zero_le _ | omega) (fun r_590 w_590 hr_590 hp_590 => ?_) (fun E w_ hx_ => hx_.elim)
        obtain ⟨he_590, e_590⟩ := hp_590
        subst w_590
        refine X_iconst 594 hO dL_law_593 rfl ?_
        refine X_icmp_ne 597 601 hO dL_law_594 rfl rfl (by omega) (by omega) (fun hc_594 => ?_) (fun hc_594 => ?_)
        ·
          refine X_iconst 602 hO dL_law_601 rfl ?_
          refine X_icmp_ne 605 609 hO dL_law_602 rfl rfl (by omega) (by omega) (fun hc_602 => ?_) (fun hc_602 => ?_)
          ·
            exfalso; omega
          ·
            refine X_iconst 606 hO dL_law_605 rfl ?_
            refine X_goto hO dL_law_606 (tgt := 610) rfl ?_
            refine X_istore 612 hO dL_law_610 rfl rfl ?_
            refine X_goto hO dL_law_612 (tgt := 731) rfl ?_
            exact X_wk (by simp only [lwk, lset, true_or, or_true, and_self]) (X_mono (by omega) (by omega) (kk _ _ _ _ (hE.mono (by omega)) (by omega) (by omega)))
        ·
          refine X_iconst 598 hO dL_law_597 rfl ?_
          refine X_goto hO dL_law_598 (tgt := 602) rfl ?_
          refine X_icmp_ne 605 609 hO dL_law_602 rfl rfl (by omega) (by omega) (fun hc_602 => ?_) (fun hc_602 => ?_)
          ·
            exfalso; omega
          ·
            refine X_iconst 606 hO dL_law_605 rfl ?_
            refine X_goto hO dL_law_606 (tgt := 610) rfl ?_
            refine X_istore 612 hO dL_law_610 rfl rfl ?_
            refine X_goto hO dL_law_612 (tgt := 731) rfl ?_
            exact X_wk (by simp only [lwk, lset, true_or, or_true, and_self]) (X_mono (by omega) (by omega) (kk _ _ _ _ (hE.mono (by omega)) (by omega) (by omega)))
end LSB
