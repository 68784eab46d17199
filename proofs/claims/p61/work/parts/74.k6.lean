/-! the desk: characters taken out, put instead, a desk taken over, made -/
theorem dX1_takeOut_0 : decode cX1_takeOut 0 = .ok (.aload_n 0, 1) := by decide +kernel
theorem dX1_takeOut_1 : decode cX1_takeOut 1 = .ok (.getfield 14, 3) := by decide +kernel
theorem dX1_takeOut_4 : decode cX1_takeOut 4 = .ok (.iload_n 1, 1) := by decide +kernel
theorem dX1_takeOut_5 : decode cX1_takeOut 5 = .ok (.iload_n 2, 1) := by decide +kernel
theorem dX1_takeOut_6 : decode cX1_takeOut 6 = .ok (.invokevirtual 73, 3) := by decide +kernel
theorem dX1_takeOut_9 : decode cX1_takeOut 9 = .ok (.astore_n 3, 1) := by decide +kernel
theorem dX1_takeOut_10 : decode cX1_takeOut 10 = .ok (.aload_n 3, 1) := by decide +kernel
theorem dX1_takeOut_11 : decode cX1_takeOut 11 = .ok (.ifnonnull 5, 3) := by decide +kernel
theorem dX1_takeOut_14 : decode cX1_takeOut 14 = .ok (.aconst_null, 1) := by decide +kernel
theorem dX1_takeOut_15 : decode cX1_takeOut 15 = .ok (.areturn, 1) := by decide +kernel
theorem dX1_takeOut_16 : decode cX1_takeOut 16 = .ok (.aload_n 0, 1) := by decide +kernel
theorem dX1_takeOut_17 : decode cX1_takeOut 17 = .ok (.getfield 14, 3) := by decide +kernel
theorem dX1_takeOut_20 : decode cX1_takeOut 20 = .ok (.iload_n 1, 1) := by decide +kernel
theorem dX1_takeOut_21 : decode cX1_takeOut 21 = .ok (.iload_n 2, 1) := by decide +kernel
theorem dX1_takeOut_22 : decode cX1_takeOut 22 = .ok (.invokevirtual 77, 3) := by decide +kernel
theorem dX1_takeOut_25 : decode cX1_takeOut 25 = .ok (.aload_n 0, 1) := by decide +kernel
theorem dX1_takeOut_26 : decode cX1_takeOut 26 = .ok (.getfield 23, 3) := by decide +kernel
theorem dX1_takeOut_29 : decode cX1_takeOut 29 = .ok (.new 51, 3) := by decide +kernel
theorem dX1_takeOut_32 : decode cX1_takeOut 32 = .ok (.dup, 1) := by decide +kernel
theorem dX1_takeOut_33 : decode cX1_takeOut 33 = .ok (.iconst 2, 1) := by decide +kernel
theorem dX1_takeOut_34 : decode cX1_takeOut 34 = .ok (.iload_n 1, 1) := by decide +kernel
theorem dX1_takeOut_35 : decode cX1_takeOut 35 = .ok (.iload_n 2, 1) := by decide +kernel
theorem dX1_takeOut_36 : decode cX1_takeOut 36 = .ok (.aload_n 3, 1) := by decide +kernel
theorem dX1_takeOut_37 : decode cX1_takeOut 37 = .ok (.invokespecial 53, 3) := by decide +kernel
theorem dX1_takeOut_40 : decode cX1_takeOut 40 = .ok (.invokevirtual 56, 3) := by decide +kernel
theorem dX1_takeOut_43 : decode cX1_takeOut 43 = .ok (.aload_n 0, 1) := by decide +kernel
theorem dX1_takeOut_44 : decode cX1_takeOut 44 = .ok (.aload_n 0, 1) := by decide +kernel
theorem dX1_takeOut_45 : decode cX1_takeOut 45 = .ok (.getfield 48, 3) := by decide +kernel
theorem dX1_takeOut_48 : decode cX1_takeOut 48 = .ok (.iload_n 1, 1) := by decide +kernel
theorem dX1_takeOut_49 : decode cX1_takeOut 49 = .ok (.iload_n 2, 1) := by decide +kernel
theorem dX1_takeOut_50 : decode cX1_takeOut 50 = .ok (.invokestatic 81, 3) := by decide +kernel
theorem dX1_takeOut_53 : decode cX1_takeOut 53 = .ok (.putfield 48, 3) := by decide +kernel
theorem dX1_takeOut_56 : decode cX1_takeOut 56 = .ok (.iconst 0, 1) := by decide +kernel
theorem dX1_takeOut_57 : decode cX1_takeOut 57 = .ok (.istore 4, 2) := by decide +kernel
theorem dX1_takeOut_59 : decode cX1_takeOut 59 = .ok (.iload 4, 2) := by decide +kernel
theorem dX1_takeOut_61 : decode cX1_takeOut 61 = .ok (.aload_n 0, 1) := by decide +kernel
theorem dX1_takeOut_62 : decode cX1_takeOut 62 = .ok (.getfield 34, 3) := by decide +kernel
theorem dX1_takeOut_65 : decode cX1_takeOut 65 = .ok (.if_icmp .ge 47, 3) := by decide +kernel
theorem dX1_takeOut_68 : decode cX1_takeOut 68 = .ok (.aload_n 0, 1) := by decide +kernel
theorem dX1_takeOut_69 : decode cX1_takeOut 69 = .ok (.getfield 27, 3) := by decide +kernel
theorem dX1_takeOut_72 : decode cX1_takeOut 72 = .ok (.iload 4, 2) := by decide +kernel
theorem dX1_takeOut_74 : decode cX1_takeOut 74 = .ok (.aload_n 0, 1) := by decide +kernel
theorem dX1_takeOut_75 : decode cX1_takeOut 75 = .ok (.getfield 27, 3) := by decide +kernel
theorem dX1_takeOut_78 : decode cX1_takeOut 78 = .ok (.iload 4, 2) := by decide +kernel
theorem dX1_takeOut_80 : decode cX1_takeOut 80 = .ok (.iaload, 1) := by decide +kernel
theorem dX1_takeOut_81 : decode cX1_takeOut 81 = .ok (.iload_n 1, 1) := by decide +kernel
theorem dX1_takeOut_82 : decode cX1_takeOut 82 = .ok (.iload_n 2, 1) := by decide +kernel
theorem dX1_takeOut_83 : decode cX1_takeOut 83 = .ok (.invokestatic 81, 3) := by decide +kernel
theorem dX1_takeOut_86 : decode cX1_takeOut 86 = .ok (.iastore, 1) := by decide +kernel
theorem dX1_takeOut_87 : decode cX1_takeOut 87 = .ok (.aload_n 0, 1) := by decide +kernel
theorem dX1_takeOut_88 : decode cX1_takeOut 88 = .ok (.getfield 31, 3) := by decide +kernel
theorem dX1_takeOut_91 : decode cX1_takeOut 91 = .ok (.iload 4, 2) := by decide +kernel
theorem dX1_takeOut_93 : decode cX1_takeOut 93 = .ok (.aload_n 0, 1) := by decide +kernel
theorem dX1_takeOut_94 : decode cX1_takeOut 94 = .ok (.getfield 31, 3) := by decide +kernel
theorem dX1_takeOut_97 : decode cX1_takeOut 97 = .ok (.iload 4, 2) := by decide +kernel
theorem dX1_takeOut_99 : decode cX1_takeOut 99 = .ok (.iaload, 1) := by decide +kernel
theorem dX1_takeOut_100 : decode cX1_takeOut 100 = .ok (.iload_n 1, 1) := by decide +kernel
theorem dX1_takeOut_101 : decode cX1_takeOut 101 = .ok (.iload_n 2, 1) := by decide +kernel
theorem dX1_takeOut_102 : decode cX1_takeOut 102 = .ok (.invokestatic 81, 3) := by decide +kernel
theorem dX1_takeOut_105 : decode cX1_takeOut 105 = .ok (.iastore, 1) := by decide +kernel
theorem dX1_takeOut_106 : decode cX1_takeOut 106 = .ok (.iinc 4 1, 3) := by decide +kernel
theorem dX1_takeOut_109 : decode cX1_takeOut 109 = .ok (.goto (-50), 3) := by decide +kernel
theorem dX1_takeOut_112 : decode cX1_takeOut 112 = .ok (.aload_n 3, 1) := by decide +kernel
theorem dX1_takeOut_113 : decode cX1_takeOut 113 = .ok (.areturn, 1) := by decide +kernel
set_option maxRecDepth 4000 in
theorem kX1_takeOut (γ : LC) (w : Mm) (d p n : Int) (sS : Nat) (hG : DG w d) (hi : IR p) (hn : IR n) (hi2 : IR (w 67 (w 11 d 0) 0 - n)) (hS : w 67 (w 11 d 0) 0 ≤ sS) : KR γ 4 mX1_takeOut [rv d, .int (I p), .int (I n)] w (3) (sS + 6) (fun r w' => (¬ (0 ≤ p ∧ 0 ≤ n ∧ p ≤ w 67 (w 11 d 0) 0 - n) ∧ r = 0 ∧ w' = w) ∨ ((0 ≤ p ∧ 0 ≤ n ∧ p ≤ w 67 (w 11 d 0) 0 - n) ∧ ∃ W, NCh w W r (w 28 (w 11 d 0) 0) p n ∧ ∃ x, 0 < x ∧ W 0 x 0 = 0 ∧ w' = d_tj d p n r x W (W 60 d 0))) NX := by
  refine MX_of rfl rfl (by simp [rv_cat, int_cat]) rfl ?_
  rintro κ hO hF rfl
  have hD := hF.dp
  show X κ (3) (sS + 6) w 0 [some (rv d), some (.int (I p)), some (.int (I n)), none, none] []
  obtain ⟨hd, hv, ⟨hs, hz, hb, hp, hE⟩, hQ, ⟨n1, n2, n3, n4, n5⟩⟩ := id hG
  obtain ⟨t0, t1, ⟨t2, t3⟩, ⟨t4, t5⟩, t6, t7, t8⟩ := id hd
  obtain ⟨s0, ⟨s1, s2, s3, s4⟩, ⟨s5, s6, s7⟩, s8⟩ := id hs
  obtain ⟨z1, z2, z3⟩ := id hz
  obtain ⟨y0, y1, y2, y3⟩ := id hQ
  have hz0 : IR 0 := by omega
  have hz2 : IR 2 := by omega
  refine X_aload_n 1 hO dX1_takeOut_0 rfl rfl ?_
  refine gX1_14 4 hO dX1_takeOut_1 rfl (by first | assumption | omega | (simp (disch := first | decide | assumption | omega) only [up_k, up_s, up_a, up_i, flA_k, flA_a, flA_n, cpA_k, cpA_a, newO_o, newA_o, newO_t, newA_t, newA_n, k_step_k, t_ptj_k, t_ptj_1, t_toj_k, t_toj_1, d_tj_k, d_tj_s, d_tj_e] <;> first | assumption | omega)) ?_
  try simp (disch := first | decide | assumption | omega) only [up_k, up_s, up_a, up_i, flA_k, flA_a, flA_n, cpA_k, cpA_a, newO_o, newA_o, newO_t, newA_t, newA_n, k_step_k, t_ptj_k, t_ptj_1, t_toj_k, t_toj_1, d_tj_k, d_tj_s, d_tj_e]
  refine X_iload_n 5 hO dX1_takeOut_4 rfl rfl ?_
  refine X_iload_n 6 hO dX1_takeOut_5 rfl rfl ?_
  refine X_kVr (t := 6) 9 hO hD lX1_73 rfl (by decide) [_, _] rfl dX1_takeOut_6 rfl (by first | assumption | omega | (simp (disch := first | decide | assumption | omega) only [up_k, up_s, up_a, up_i, flA_k, flA_a, flA_n, cpA_k, cpA_a, newO_o, newA_o, newO_t, newA_t, newA_n, k_step_k, t_ptj_k, t_ptj_1, t_toj_k, t_toj_1, d_tj_k, d_tj_s, d_tj_e] <;> first | assumption | omega)) (kX5_charsFrom _ _ _ _ _ sS hs hz hi hn hi2 hS) (by decide) (by simp [rv_cat, int_cat]) (by first | decide | exact Nat.zero_le _ | omega) (by first | decide | exact Nat.zero_le _ | omega) (fun r_6 w_6 hp_6 => ?_) (fun E w_ hx_ => hx_.elim)
  refine X_astore_n 10 hO dX1_takeOut_9 rfl rfl ?_
  refine X_aload_n 11 hO dX1_takeOut_10 rfl rfl ?_
  refine X_ifnonnull 14 16 hO dX1_takeOut_11 rfl rfl (fun hc_11 => ?_) (fun hc_11 => ?_)
  ·
    obtain ⟨hY, hN_6⟩ := hp_6.resolve_left (fun h => by have := h.2.1; omega)
    have hr6 := NCh_r hN_6
    have hsz : w_6 67 (w_6 11 d 0) 0 = w 67 (w 11 d 0) 0 := by rw [NCh_fr hN_6 11 d 0 (by omega), NCh_fr hN_6 67 _ 0 (by omega)]
    have fr6 := NCh_fr hN_6
    have hG6 : DG w_6 d := DG_fr fr6 hG
    clear hd hv hs hz hb hp hE hQ n1 n2 n3 n4 n5 t0 t1 t2 t3 t4 t5 t6 t7 t8 s0 s1 s2 s3 s4 s5 s6 s7 s8 z1 z2 z3 y0 y1 y2 y3
    obtain ⟨hd, hv, ⟨hs, hz, hb, hp, hE⟩, hQ, ⟨n1, n2, n3, n4, n5⟩⟩ := id hG6
    obtain ⟨t0, t1, ⟨t2, t3⟩, ⟨t4, t5⟩, t6, t7, t8⟩ := id hd
    obtain ⟨s0, ⟨s1, s2, s3, s4⟩, ⟨s5, s6, s7⟩, s8⟩ := id hs
    obtain ⟨z1, z2, z3⟩ := id hz
    obtain ⟨y0, y1, y2, y3⟩ := id hQ
    have hNj : DNj w_6 d := ⟨n1, n2, n3, n4, n5⟩
    refine X_aload_n 17 hO dX1_takeOut_16 rfl rfl ?_
    refine gX1_14 20 hO dX1_takeOut_17 rfl (by first | assumption | omega | (simp (disch := first | decide | assumption | omega) only [up_k, up_s, up_a, up_i, flA_k, flA_a, flA_n, cpA_k, cpA_a, newO_o, newA_o, newO_t, newA_t, newA_n, k_step_k, t_ptj_k, t_ptj_1, t_toj_k, t_toj_1, d_tj_k, d_tj_s, d_tj_e] <;> first | assumption | omega)) ?_
    try simp (disch := first | decide | assumption | omega) only [up_k, up_s, up_a, up_i, flA_k, flA_a, flA_n, cpA_k, cpA_a, newO_o, newA_o, newO_t, newA_t, newA_n, k_step_k, t_ptj_k, t_ptj_1, t_toj_k, t_toj_1, d_tj_k, d_tj_s, d_tj_e]
    refine X_iload_n 21 hO dX1_takeOut_20 rfl rfl ?_
    refine X_iload_n 22 hO dX1_takeOut_21 rfl rfl ?_
    refine X_kVv (t := 6) 25 hO hD lX1_77 rfl (by decide) [_, _] rfl dX1_takeOut_22 rfl (by first | assumption | omega | (simp (disch := first | decide | assumption | omega) only [up_k, up_s, up_a, up_i, flA_k, flA_a, flA_n, cpA_k, cpA_a, newO_o, newA_o, newO_t, newA_t, newA_n, k_step_k, t_ptj_k, t_ptj_1, t_toj_k, t_toj_1, d_tj_k, d_tj_s, d_tj_e] <;> first | assumption | omega)) (kX5_takeOut _ _ _ _ _ hs hz hp (by omega)) (by decide) (by simp [rv_cat, int_cat]) (by first | decide | exact Nat.zero_le _ | omega) (by first | decide | exact Nat.zero_le _ | omega) (fun w_22 hp_22 => ?_) (fun E w_ hx_ => hx_.elim)
    subst w_22
    refine X_aload_n 26 hO dX1_takeOut_25 rfl rfl ?_
    refine gX1_23 29 hO dX1_takeOut_26 rfl (by first | assumption | omega | (simp (disch := first | decide | assumption | omega) only [up_k, up_s, up_a, up_i, flA_k, flA_a, flA_n, cpA_k, cpA_a, newO_o, newA_o, newO_t, newA_t, newA_n, k_step_k, t_ptj_k, t_ptj_1, t_toj_k, t_toj_1, d_tj_k, d_tj_s, d_tj_e] <;> first | assumption | omega)) ?_
    try simp (disch := first | decide | assumption | omega) only [up_k, up_s, up_a, up_i, flA_k, flA_a, flA_n, cpA_k, cpA_a, newO_o, newA_o, newO_t, newA_t, newA_n, k_step_k, t_ptj_k, t_ptj_1, t_toj_k, t_toj_1, d_tj_k, d_tj_s, d_tj_e]
    refine n_7 32 hO w_810 (by omega) (by omega) dX1_takeOut_29 rfl (fun q_29 hq_29 hf_29 => ?_)
    have hf2 : w_6 0 q_29 0 = 0 := by rw [t_toj_k (by decide) (by decide)] at hf_29; exact hf_29
    have hQx : QT (t_toj (w_6 11 d 0) p n w_6 6) (w_6 12 d 0) := QT_c (fun k a h => t_toj_k (by omega) (by omega)) hQ
    have nx0 : d ≠ q_29 := fun h => by rw [h] at t0; omega
    have nx1 : w_6 11 d 0 ≠ q_29 := fun h => by rw [h] at t1; omega
    have nx2 : w_6 13 d 0 ≠ q_29 := fun h => by rw [h] at t2; omega
    have nx3 : w_6 14 d 0 ≠ q_29 := fun h => by rw [h] at t4; omega
    have nx4 : w_6 12 d 0 ≠ q_29 := fun h => by rw [h] at y0; omega
    refine X_dup 33 hO dX1_takeOut_32 rfl (by first | rfl | exact rv_cat _) ?_
    refine X_iconst 34 hO dX1_takeOut_33 rfl ?_
    refine X_iload_n 35 hO dX1_takeOut_34 rfl rfl ?_
    refine X_iload_n 36 hO dX1_takeOut_35 rfl rfl ?_
    refine X_aload_n 37 hO dX1_takeOut_36 rfl rfl ?_
    refine X_kIv 40 hO hD lX1_53 [_, _, _, _] rfl dX1_takeOut_37 rfl (by assumption) (kX6_init _ _ _ _ _ _ _ (by assumption) (newO_t) (by omega) (by omega) (by omega)) (by decide) (by simp [rv_cat, int_cat]) (by first | decide | exact Nat.zero_le _ | omega) (by first | decide | exact Nat.zero_le _ | omega) (fun w_37 hp_37 => ?_) (fun E w_ hx_ => hx_.elim)
    subst w_37
    refine X_kVv (t := 8) 43 hO hD lX1_56 rfl (by decide) [_] rfl dX1_takeOut_40 rfl (by first | assumption | omega | (simp (disch := first | decide | assumption | omega) only [up_k, up_s, up_a, up_i, flA_k, flA_a, flA_n, cpA_k, cpA_a, newO_o, newA_o, newO_t, newA_t, newA_n, k_step_k, t_ptj_k, t_ptj_1, t_toj_k, t_toj_1, d_tj_k, d_tj_s, d_tj_e] <;> first | assumption | omega)) (kap _ _ _ _ _ _ _ _ hQx (by assumption) (by assumption)) (by decide) (by simp [rv_cat, int_cat]) (by first | decide | exact Nat.zero_le _ | omega) (by first | decide | exact Nat.zero_le _ | omega) (fun w_40 hp_40 => ?_) (fun E w_ hx_ => hx_.elim)
    subst w_40
    refine X_aload_n 44 hO dX1_takeOut_43 rfl rfl ?_
    refine X_aload_n 45 hO dX1_takeOut_44 rfl rfl ?_
    refine gX1_48 48 hO dX1_takeOut_45 rfl (by first | assumption | omega | (simp (disch := first | decide | assumption | omega) only [up_k, up_s, up_a, up_i, flA_k, flA_a, flA_n, cpA_k, cpA_a, newO_o, newA_o, newO_t, newA_t, newA_n, k_step_k, t_ptj_k, t_ptj_1, t_toj_k, t_toj_1, d_tj_k, d_tj_s, d_tj_e] <;> first | assumption | omega)) (fun hi_45 => ?_)
    try simp (disch := first | decide | assumption | omega) only [up_k, up_s, up_a, up_i, flA_k, flA_a, flA_n, cpA_k, cpA_a, newO_o, newA_o, newO_t, newA_t, newA_n, k_step_k, t_ptj_k, t_ptj_1, t_toj_k, t_toj_1, d_tj_k, d_tj_s, d_tj_e] at hi_45 ⊢
    refine X_iload_n 49 hO dX1_takeOut_48 rfl rfl ?_
    refine X_iload_n 50 hO dX1_takeOut_49 rfl rfl ?_
    refine X_kSi 53 hO hD lX1_81 [_, _, _] rfl dX1_takeOut_50 rfl (kX5_placeAfterDeletion _ _ _ _ _ (by omega) (by omega) (by omega) (by omega)) (by decide) (by simp [rv_cat, int_cat]) (by first | decide | exact Nat.zero_le _ | omega) (by first | decide | exact Nat.zero_le _ | omega) (fun r_50 w_50 hr_50 hp_50 => ?_) (fun E w_ hx_ => hx_.elim)
    obtain ⟨e1_50, e2_50⟩ := hp_50
    subst r_50
    subst w_50
    refine pX1_48 56 hO dX1_takeOut_53 rfl (by first | assumption | omega | (simp (disch := first | decide | assumption | omega) only [up_k, up_s, up_a, up_i, flA_k, flA_a, flA_n, cpA_k, cpA_a, newO_o, newA_o, newO_t, newA_t, newA_n, k_step_k, t_ptj_k, t_ptj_1, t_toj_k, t_toj_1, d_tj_k, d_tj_s, d_tj_e] <;> first | assumption | omega)) (by unfold dbF; split <;> (try split) <;> omega) ?_
    refine X_iconst 57 hO dX1_takeOut_56 rfl ?_
    refine X_istore 59 hO dX1_takeOut_57 rfl rfl ?_
    have LP59 : ∀ (nn : Nat) (j : Int), (w_6 60 d 0 - j).toNat < nn → (0 ≤ j ∧ j ≤ w_6 60 d 0) → X κ 0 0 (d_tj d p n r_6 q_29 w_6 j) 59 [some (rv d), some (.int (I p)), some (.int (I n)), some (rv r_6), some (.int (I j))] [] := by
      intro nn
      induction nn with
      | zero => intro j hm; exact absurd hm (Nat.not_lt_zero _)
      | succ nn ih =>
        intro j hm hj
        refine X_iload 61 hO dX1_takeOut_59 rfl rfl ?_
        refine X_aload_n 62 hO dX1_takeOut_61 rfl rfl ?_
        refine gX1_34 65 hO dX1_takeOut_62 rfl (by first | assumption | omega | (simp (disch := first | decide | assumption | omega) only [up_k, up_s, up_a, up_i, flA_k, flA_a, flA_n, cpA_k, cpA_a, newO_o, newA_o, newO_t, newA_t, newA_n, k_step_k, t_ptj_k, t_ptj_1, t_toj_k, t_toj_1, d_tj_k, d_tj_s, d_tj_e] <;> first | assumption | omega)) (fun hi_62 => ?_)
        try simp (disch := first | decide | assumption | omega) only [up_k, up_s, up_a, up_i, flA_k, flA_a, flA_n, cpA_k, cpA_a, newO_o, newA_o, newO_t, newA_t, newA_n, k_step_k, t_ptj_k, t_ptj_1, t_toj_k, t_toj_1, d_tj_k, d_tj_s, d_tj_e] at hi_62 ⊢
        refine X_icmp_ge 68 112 hO dX1_takeOut_65 rfl rfl (by omega) (by omega) (fun hc_65 => ?_) (fun hc_65 => ?_)
        ·
          refine X_aload_n 113 hO dX1_takeOut_112 rfl rfl ?_
          exact X_aret hO hF rfl (by first | exact Or.inl ⟨_, rfl⟩ | exact Or.inr ⟨_, rfl⟩) dX1_takeOut_113 ⟨_, rfl, Or.inr ⟨hY, w_6, hN_6, q_29, hq_29, hf2, (by have ej : j = w_6 60 d 0 := (by omega); subst ej; rfl)⟩⟩
        ·
          refine X_aload_n 69 hO dX1_takeOut_68 rfl rfl ?_
          refine gX1_27 72 hO dX1_takeOut_69 rfl (by first | assumption | omega | (simp (disch := first | decide | assumption | omega) only [up_k, up_s, up_a, up_i, flA_k, flA_a, flA_n, cpA_k, cpA_a, newO_o, newA_o, newO_t, newA_t, newA_n, k_step_k, t_ptj_k, t_ptj_1, t_toj_k, t_toj_1, d_tj_k, d_tj_s, d_tj_e] <;> first | assumption | omega)) ?_
          try simp (disch := first | decide | assumption | omega) only [up_k, up_s, up_a, up_i, flA_k, flA_a, flA_n, cpA_k, cpA_a, newO_o, newA_o, newO_t, newA_t, newA_n, k_step_k, t_ptj_k, t_ptj_1, t_toj_k, t_toj_1, d_tj_k, d_tj_s, d_tj_e]
          refine X_iload 74 hO dX1_takeOut_72 rfl rfl ?_
          refine X_aload_n 75 hO dX1_takeOut_74 rfl rfl ?_
          refine gX1_27 78 hO dX1_takeOut_75 rfl (by first | assumption | omega | (simp (disch := first | decide | assumption | omega) only [up_k, up_s, up_a, up_i, flA_k, flA_a, flA_n, cpA_k, cpA_a, newO_o, newA_o, newO_t, newA_t, newA_n, k_step_k, t_ptj_k, t_ptj_1, t_toj_k, t_toj_1, d_tj_k, d_tj_s, d_tj_e] <;> first | assumption | omega)) ?_
          try simp (disch := first | decide | assumption | omega) only [up_k, up_s, up_a, up_i, flA_k, flA_a, flA_n, cpA_k, cpA_a, newO_o, newA_o, newO_t, newA_t, newA_n, k_step_k, t_ptj_k, t_ptj_1, t_toj_k, t_toj_1, d_tj_k, d_tj_s, d_tj_e]
          refine X_iload 80 hO dX1_takeOut_78 rfl rfl ?_
          refine X_iald 81 hO dX1_takeOut_80 rfl (by first | assumption | omega | (simp (disch := first | decide | assumption | omega) only [up_k, up_s, up_a, up_i, flA_k, flA_a, flA_n, cpA_k, cpA_a, newO_o, newA_o, newO_t, newA_t, newA_n, k_step_k, t_ptj_k, t_ptj_1, t_toj_k, t_toj_1, d_tj_k, d_tj_s, d_tj_e] <;> first | assumption | omega)) (by first | assumption | omega | (simp (disch := first | decide | assumption | omega) only [up_k, up_s, up_a, up_i, flA_k, flA_a, flA_n, cpA_k, cpA_a, newO_o, newA_o, newO_t, newA_t, newA_n, k_step_k, t_ptj_k, t_ptj_1, t_toj_k, t_toj_1, d_tj_k, d_tj_s, d_tj_e] <;> first | assumption | omega)) (fun hi_80 => ?_)
          try simp (disch := first | decide | assumption | omega) only [up_k, up_s, up_a, up_i, flA_k, flA_a, flA_n, cpA_k, cpA_a, newO_o, newA_o, newO_t, newA_t, newA_n, k_step_k, t_ptj_k, t_ptj_1, t_toj_k, t_toj_1, d_tj_k, d_tj_s, d_tj_e] at hi_80 ⊢
          have hvj := hv j (by omega) (by omega)
          refine X_iload_n 82 hO dX1_takeOut_81 rfl rfl ?_
          refine X_iload_n 83 hO dX1_takeOut_82 rfl rfl ?_
          refine X_kSi 86 hO hD lX1_81 [_, _, _] rfl dX1_takeOut_83 rfl (kX5_placeAfterDeletion _ _ _ _ _ (by omega) (by omega) (by omega) (by omega)) (by decide) (by simp [rv_cat, int_cat]) (by first | decide | exact Nat.zero_le _ | omega) (by first | decide | exact Nat.zero_le _ | omega) (fun r_83 w_83 hr_83 hp_83 => ?_) (fun E w_ hx_ => hx_.elim)
          obtain ⟨e1_83, e2_83⟩ := hp_83
          subst r_83
          subst w_83
          refine X_iast 87 hO dX1_takeOut_86 rfl (by first | assumption | omega | (simp (disch := first | decide | assumption | omega) only [up_k, up_s, up_a, up_i, flA_k, flA_a, flA_n, cpA_k, cpA_a, newO_o, newA_o, newO_t, newA_t, newA_n, k_step_k, t_ptj_k, t_ptj_1, t_toj_k, t_toj_1, d_tj_k, d_tj_s, d_tj_e] <;> first | assumption | omega)) (by first | assumption | omega | (simp (disch := first | decide | assumption | omega) only [up_k, up_s, up_a, up_i, flA_k, flA_a, flA_n, cpA_k, cpA_a, newO_o, newA_o, newO_t, newA_t, newA_n, k_step_k, t_ptj_k, t_ptj_1, t_toj_k, t_toj_1, d_tj_k, d_tj_s, d_tj_e] <;> first | assumption | omega)) (by unfold dbF; split <;> (try split) <;> omega) ?_
          refine X_aload_n 88 hO dX1_takeOut_87 rfl rfl ?_
          refine gX1_31 91 hO dX1_takeOut_88 rfl (by first | assumption | omega | (simp (disch := first | decide | assumption | omega) only [up_k, up_s, up_a, up_i, flA_k, flA_a, flA_n, cpA_k, cpA_a, newO_o, newA_o, newO_t, newA_t, newA_n, k_step_k, t_ptj_k, t_ptj_1, t_toj_k, t_toj_1, d_tj_k, d_tj_s, d_tj_e] <;> first | assumption | omega)) ?_
          try simp (disch := first | decide | assumption | omega) only [up_k, up_s, up_a, up_i, flA_k, flA_a, flA_n, cpA_k, cpA_a, newO_o, newA_o, newO_t, newA_t, newA_n, k_step_k, t_ptj_k, t_ptj_1, t_toj_k, t_toj_1, d_tj_k, d_tj_s, d_tj_e]
          refine X_iload 93 hO dX1_takeOut_91 rfl rfl ?_
          refine X_aload_n 94 hO dX1_takeOut_93 rfl rfl ?_
          refine gX1_31 97 hO dX1_takeOut_94 rfl (by first | assumption | omega | (simp (disch := first | decide | assumption | omega) only [up_k, up_s, up_a, up_i, flA_k, flA_a, flA_n, cpA_k, cpA_a, newO_o, newA_o, newO_t, newA_t, newA_n, k_step_k, t_ptj_k, t_ptj_1, t_toj_k, t_toj_1, d_tj_k, d_tj_s, d_tj_e] <;> first | assumption | omega)) ?_
          try simp (disch := first | decide | assumption | omega) only [up_k, up_s, up_a, up_i, flA_k, flA_a, flA_n, cpA_k, cpA_a, newO_o, newA_o, newO_t, newA_t, newA_n, k_step_k, t_ptj_k, t_ptj_1, t_toj_k, t_toj_1, d_tj_k, d_tj_s, d_tj_e]
          refine X_iload 99 hO dX1_takeOut_97 rfl rfl ?_
          refine X_iald 100 hO dX1_takeOut_99 rfl (by first | assumption | omega | (simp (disch := first | decide | assumption | omega) only [up_k, up_s, up_a, up_i, flA_k, flA_a, flA_n, cpA_k, cpA_a, newO_o, newA_o, newO_t, newA_t, newA_n, k_step_k, t_ptj_k, t_ptj_1, t_toj_k, t_toj_1, d_tj_k, d_tj_s, d_tj_e] <;> first | assumption | omega)) (by first | assumption | omega | (simp (disch := first | decide | assumption | omega) only [up_k, up_s, up_a, up_i, flA_k, flA_a, flA_n, cpA_k, cpA_a, newO_o, newA_o, newO_t, newA_t, newA_n, k_step_k, t_ptj_k, t_ptj_1, t_toj_k, t_toj_1, d_tj_k, d_tj_s, d_tj_e] <;> first | assumption | omega)) (fun hi_99 => ?_)
          try simp (disch := first | decide | assumption | omega) only [up_k, up_s, up_a, up_i, flA_k, flA_a, flA_n, cpA_k, cpA_a, newO_o, newA_o, newO_t, newA_t, newA_n, k_step_k, t_ptj_k, t_ptj_1, t_toj_k, t_toj_1, d_tj_k, d_tj_s, d_tj_e] at hi_99 ⊢
          refine X_iload_n 101 hO dX1_takeOut_100 rfl rfl ?_
          refine X_iload_n 102 hO dX1_takeOut_101 rfl rfl ?_
          refine X_kSi 105 hO hD lX1_81 [_, _, _] rfl dX1_takeOut_102 rfl (kX5_placeAfterDeletion _ _ _ _ _ (by omega) (by omega) (by omega) (by omega)) (by decide) (by simp [rv_cat, int_cat]) (by first | decide | exact Nat.zero_le _ | omega) (by first | decide | exact Nat.zero_le _ | omega) (fun r_102 w_102 hr_102 hp_102 => ?_) (fun E w_ hx_ => hx_.elim)
          obtain ⟨e1_102, e2_102⟩ := hp_102
          subst r_102
          subst w_102
          refine X_iast 106 hO dX1_takeOut_105 rfl (by first | assumption | omega | (simp (disch := first | decide | assumption | omega) only [up_k, up_s, up_a, up_i, flA_k, flA_a, flA_n, cpA_k, cpA_a, newO_o, newA_o, newO_t, newA_t, newA_n, k_step_k, t_ptj_k, t_ptj_1, t_toj_k, t_toj_1, d_tj_k, d_tj_s, d_tj_e] <;> first | assumption | omega)) (by first | assumption | omega | (simp (disch := first | decide | assumption | omega) only [up_k, up_s, up_a, up_i, flA_k, flA_a, flA_n, cpA_k, cpA_a, newO_o, newA_o, newO_t, newA_t, newA_n, k_step_k, t_ptj_k, t_ptj_1, t_toj_k, t_toj_1, d_tj_k, d_tj_s, d_tj_e] <;> first | assumption | omega)) (by unfold dbF; split <;> (try split) <;> omega) ?_
          refine X_iinc 109 hO dX1_takeOut_106 rfl rfl ?_
          refine X_goto hO dX1_takeOut_109 (tgt := 59) rfl ?_
          exact X_eqW (flA2_e n1 (by omega) rfl rfl) (ih (j + 1) (by omega) (by omega))
    refine X_mono (Nat.zero_le _) (Nat.zero_le _) (X_eqW (w2 := d_tj d p n r_6 q_29 w_6 0) ?_ (LP59 _ 0 (Nat.lt_succ_self _) (by omega)))
    unfold d_tj; rw [flA_0, flA_0]
  ·
    obtain ⟨hN, e1_6, e2_6⟩ := hp_6.resolve_right (fun h => by have := (NCh_r h.2).1; omega)
    subst w_6
    refine X_null 15 hO dX1_takeOut_14 rfl ?_
    exact X_aret hO hF rfl (by first | exact Or.inl ⟨_, rfl⟩ | exact Or.inr ⟨_, rfl⟩) dX1_takeOut_15 ⟨_, rfl, Or.inl ⟨hN, by omega, rfl⟩⟩
theorem dX1_putInstead_0 : decode cX1_putInstead 0 = .ok (.aload_n 0, 1) := by decide +kernel
theorem dX1_putInstead_1 : decode cX1_putInstead 1 = .ok (.getfield 14, 3) := by decide +kernel
theorem dX1_putInstead_4 : decode cX1_putInstead 4 = .ok (.iload_n 1, 1) := by decide +kernel
theorem dX1_putInstead_5 : decode cX1_putInstead 5 = .ok (.iconst 1, 1) := by decide +kernel
theorem dX1_putInstead_6 : decode cX1_putInstead 6 = .ok (.invokevirtual 73, 3) := by decide +kernel
theorem dX1_putInstead_9 : decode cX1_putInstead 9 = .ok (.astore_n 3, 1) := by decide +kernel
theorem dX1_putInstead_10 : decode cX1_putInstead 10 = .ok (.aload_n 3, 1) := by decide +kernel
theorem dX1_putInstead_11 : decode cX1_putInstead 11 = .ok (.ifnonnull 4, 3) := by decide +kernel
theorem dX1_putInstead_14 : decode cX1_putInstead 14 = .ok (.return_, 1) := by decide +kernel
theorem dX1_putInstead_15 : decode cX1_putInstead 15 = .ok (.aload_n 0, 1) := by decide +kernel
theorem dX1_putInstead_16 : decode cX1_putInstead 16 = .ok (.getfield 23, 3) := by decide +kernel
theorem dX1_putInstead_19 : decode cX1_putInstead 19 = .ok (.new 51, 3) := by decide +kernel
theorem dX1_putInstead_22 : decode cX1_putInstead 22 = .ok (.dup, 1) := by decide +kernel
theorem dX1_putInstead_23 : decode cX1_putInstead 23 = .ok (.iconst 3, 1) := by decide +kernel
theorem dX1_putInstead_24 : decode cX1_putInstead 24 = .ok (.iload_n 1, 1) := by decide +kernel
theorem dX1_putInstead_25 : decode cX1_putInstead 25 = .ok (.iconst 1, 1) := by decide +kernel
theorem dX1_putInstead_26 : decode cX1_putInstead 26 = .ok (.aload_n 3, 1) := by decide +kernel
theorem dX1_putInstead_27 : decode cX1_putInstead 27 = .ok (.invokespecial 53, 3) := by decide +kernel
theorem dX1_putInstead_30 : decode cX1_putInstead 30 = .ok (.invokevirtual 56, 3) := by decide +kernel
theorem dX1_putInstead_33 : decode cX1_putInstead 33 = .ok (.aload_n 0, 1) := by decide +kernel
theorem dX1_putInstead_34 : decode cX1_putInstead 34 = .ok (.getfield 14, 3) := by decide +kernel
theorem dX1_putInstead_37 : decode cX1_putInstead 37 = .ok (.getfield 85, 3) := by decide +kernel
theorem dX1_putInstead_40 : decode cX1_putInstead 40 = .ok (.iload_n 1, 1) := by decide +kernel
theorem dX1_putInstead_41 : decode cX1_putInstead 41 = .ok (.iload_n 2, 1) := by decide +kernel
theorem dX1_putInstead_42 : decode cX1_putInstead 42 = .ok (.iastore, 1) := by decide +kernel
theorem dX1_putInstead_43 : decode cX1_putInstead 43 = .ok (.return_, 1) := by decide +kernel
set_option maxRecDepth 4000 in
theorem kX1_putInstead (γ : LC) (w : Mm) (d p v : Int) (sS : Nat) (hG : DG w d) (hi : IR p) (hv0 : IR v) (hS : w 67 (w 11 d 0) 0 ≤ sS) : KV γ 3 mX1_putInstead [rv d, .int (I p), .int (I v)] w (3) (sS + 6) (fun w' => (¬ (0 ≤ p ∧ p ≤ w 67 (w 11 d 0) 0 - 1) ∧ w' = w) ∨ ((0 ≤ p ∧ p ≤ w 67 (w 11 d 0) 0 - 1) ∧ ∃ W r, NCh w W r (w 28 (w 11 d 0) 0) p 1 ∧ ∃ x, 0 < x ∧ W 0 x 0 = 0 ∧ w' = up (k_step (W 12 d 0) x 3 p 1 r W) 1 (W 28 (W 11 d 0) 0) p v)) NX := by
  refine MX_of rfl rfl (by simp [rv_cat, int_cat]) rfl ?_
  rintro κ hO hF rfl
  have hD := hF.dp
  show X κ (3) (sS + 6) w 0 [some (rv d), some (.int (I p)), some (.int (I v)), none] []
  obtain ⟨hd, hv, ⟨hs, hz, hb, hp, hE⟩, hQ, ⟨n1, n2, n3, n4, n5⟩⟩ := id hG
  obtain ⟨t0, t1, ⟨t2, t3⟩, ⟨t4, t5⟩, t6, t7, t8⟩ := id hd
  obtain ⟨s0, ⟨s1, s2, s3, s4⟩, ⟨s5, s6, s7⟩, s8⟩ := id hs
  obtain ⟨z1, z2, z3⟩ := id hz
  obtain ⟨y0, y1, y2, y3⟩ := id hQ
  have hz1 : IR 1 := by omega
  have hz3 : IR 3 := by omega
  refine X_aload_n 1 hO dX1_putInstead_0 rfl rfl ?_
  refine gX1_14 4 hO dX1_putInstead_1 rfl (by first | assumption | omega | (simp (disch := first | decide | assumption | omega) only [up_k, up_s, up_a, up_i, flA_k, flA_a, flA_n, cpA_k, cpA_a, newO_o, newA_o, newO_t, newA_t, newA_n, k_step_k, t_ptj_k, t_ptj_1, t_toj_k, t_toj_1, d_tj_k, d_tj_s, d_tj_e] <;> first | assumption | omega)) ?_
  try simp (disch := first | decide | assumption | omega) only [up_k, up_s, up_a, up_i, flA_k, flA_a, flA_n, cpA_k, cpA_a, newO_o, newA_o, newO_t, newA_t, newA_n, k_step_k, t_ptj_k, t_ptj_1, t_toj_k, t_toj_1, d_tj_k, d_tj_s, d_tj_e]
  refine X_iload_n 5 hO dX1_putInstead_4 rfl rfl ?_
  refine X_iconst 6 hO dX1_putInstead_5 rfl ?_
  refine X_kVr (t := 6) 9 hO hD lX1_73 rfl (by decide) [_, _] rfl dX1_putInstead_6 rfl (by first | assumption | omega | (simp (disch := first | decide | assumption | omega) only [up_k, up_s, up_a, up_i, flA_k, flA_a, flA_n, cpA_k, cpA_a, newO_o, newA_o, newO_t, newA_t, newA_n, k_step_k, t_ptj_k, t_ptj_1, t_toj_k, t_toj_1, d_tj_k, d_tj_s, d_tj_e] <;> first | assumption | omega)) (kX5_charsFrom _ _ _ _ _ sS hs hz hi (by omega) (by omega) hS) (by decide) (by simp [rv_cat, int_cat]) (by first | decide | exact Nat.zero_le _ | omega) (by first | decide | exact Nat.zero_le _ | omega) (fun r_6 w_6 hp_6 => ?_) (fun E w_ hx_ => hx_.elim)
  refine X_astore_n 10 hO dX1_putInstead_9 rfl rfl ?_
  refine X_aload_n 11 hO dX1_putInstead_10 rfl rfl ?_
  refine X_ifnonnull 14 15 hO dX1_putInstead_11 rfl rfl (fun hc_11 => ?_) (fun hc_11 => ?_)
  ·
    obtain ⟨hY, hN_6⟩ := hp_6.resolve_left (fun h => by have := h.2.1; omega)
    have hr6 := NCh_r hN_6
    have hsz : w_6 67 (w_6 11 d 0) 0 = w 67 (w 11 d 0) 0 := by rw [NCh_fr hN_6 11 d 0 (by omega), NCh_fr hN_6 67 _ 0 (by omega)]
    have fr6 := NCh_fr hN_6
    have hG6 : DG w_6 d := DG_fr fr6 hG
    clear hd hv hs hz hb hp hE hQ n1 n2 n3 n4 n5 t0 t1 t2 t3 t4 t5 t6 t7 t8 s0 s1 s2 s3 s4 s5 s6 s7 s8 z1 z2 z3 y0 y1 y2 y3
    obtain ⟨hd, hv, ⟨hs, hz, hb, hp, hE⟩, hQ, ⟨n1, n2, n3, n4, n5⟩⟩ := id hG6
    obtain ⟨t0, t1, ⟨t2, t3⟩, ⟨t4, t5⟩, t6, t7, t8⟩ := id hd
    obtain ⟨s0, ⟨s1, s2, s3, s4⟩, ⟨s5, s6, s7⟩, s8⟩ := id hs
    obtain ⟨z1, z2, z3⟩ := id hz
    obtain ⟨y0, y1, y2, y3⟩ := id hQ
    refine X_aload_n 16 hO dX1_putInstead_15 rfl rfl ?_
    refine gX1_23 19 hO dX1_putInstead_16 rfl (by first | assumption | omega | (simp (disch := first | decide | assumption | omega) only [up_k, up_s, up_a, up_i, flA_k, flA_a, flA_n, cpA_k, cpA_a, newO_o, newA_o, newO_t, newA_t, newA_n, k_step_k, t_ptj_k, t_ptj_1, t_toj_k, t_toj_1, d_tj_k, d_tj_s, d_tj_e] <;> first | assumption | omega)) ?_
    try simp (disch := first | decide | assumption | omega) only [up_k, up_s, up_a, up_i, flA_k, flA_a, flA_n, cpA_k, cpA_a, newO_o, newA_o, newO_t, newA_t, newA_n, k_step_k, t_ptj_k, t_ptj_1, t_toj_k, t_toj_1, d_tj_k, d_tj_s, d_tj_e]
    refine n_7 22 hO w_810 (by omega) (by omega) dX1_putInstead_19 rfl (fun q_19 hq_19 hf_19 => ?_)
    have nx0 : d ≠ q_19 := fun h => by rw [h] at t0; omega
    have nx1 : w_6 11 d 0 ≠ q_19 := fun h => by rw [h] at t1; omega
    have nx2 : w_6 13 d 0 ≠ q_19 := fun h => by rw [h] at t2; omega
    have nx3 : w_6 14 d 0 ≠ q_19 := fun h => by rw [h] at t4; omega
    have nx4 : w_6 12 d 0 ≠ q_19 := fun h => by rw [h] at y0; omega
    have nx5 : w_6 28 (w_6 11 d 0) 0 ≠ q_19 := fun h => by rw [h] at s1; omega
    refine X_dup 23 hO dX1_putInstead_22 rfl (by first | rfl | exact rv_cat _) ?_
    refine X_iconst 24 hO dX1_putInstead_23 rfl ?_
    refine X_iload_n 25 hO dX1_putInstead_24 rfl rfl ?_
    refine X_iconst 26 hO dX1_putInstead_25 rfl ?_
    refine X_aload_n 27 hO dX1_putInstead_26 rfl rfl ?_
    refine X_kIv 30 hO hD lX1_53 [_, _, _, _] rfl dX1_putInstead_27 rfl (by assumption) (kX6_init _ _ _ _ _ _ _ (by assumption) (newO_t) (by omega) (by omega) (by omega)) (by decide) (by simp [rv_cat, int_cat]) (by first | decide | exact Nat.zero_le _ | omega) (by first | decide | exact Nat.zero_le _ | omega) (fun w_27 hp_27 => ?_) (fun E w_ hx_ => hx_.elim)
    subst w_27
    refine X_kVv (t := 8) 33 hO hD lX1_56 rfl (by decide) [_] rfl dX1_putInstead_30 rfl (by first | assumption | omega | (simp (disch := first | decide | assumption | omega) only [up_k, up_s, up_a, up_i, flA_k, flA_a, flA_n, cpA_k, cpA_a, newO_o, newA_o, newO_t, newA_t, newA_n, k_step_k, t_ptj_k, t_ptj_1, t_toj_k, t_toj_1, d_tj_k, d_tj_s, d_tj_e] <;> first | assumption | omega)) (kap _ _ _ _ _ _ _ _ hQ (by assumption) (by assumption)) (by decide) (by simp [rv_cat, int_cat]) (by first | decide | exact Nat.zero_le _ | omega) (by first | decide | exact Nat.zero_le _ | omega) (fun w_30 hp_30 => ?_) (fun E w_ hx_ => hx_.elim)
    subst w_30
    refine X_aload_n 34 hO dX1_putInstead_33 rfl rfl ?_
    refine gX1_14 37 hO dX1_putInstead_34 rfl (by first | assumption | omega | (simp (disch := first | decide | assumption | omega) only [up_k, up_s, up_a, up_i, flA_k, flA_a, flA_n, cpA_k, cpA_a, newO_o, newA_o, newO_t, newA_t, newA_n, k_step_k, t_ptj_k, t_ptj_1, t_toj_k, t_toj_1, d_tj_k, d_tj_s, d_tj_e] <;> first | assumption | omega)) ?_
    try simp (disch := first | decide | assumption | omega) only [up_k, up_s, up_a, up_i, flA_k, flA_a, flA_n, cpA_k, cpA_a, newO_o, newA_o, newO_t, newA_t, newA_n, k_step_k, t_ptj_k, t_ptj_1, t_toj_k, t_toj_1, d_tj_k, d_tj_s, d_tj_e]
    refine gX1_85 40 hO dX1_putInstead_37 rfl (by first | assumption | omega | (simp (disch := first | decide | assumption | omega) only [up_k, up_s, up_a, up_i, flA_k, flA_a, flA_n, cpA_k, cpA_a, newO_o, newA_o, newO_t, newA_t, newA_n, k_step_k, t_ptj_k, t_ptj_1, t_toj_k, t_toj_1, d_tj_k, d_tj_s, d_tj_e] <;> first | assumption | omega)) ?_
    try simp (disch := first | decide | assumption | omega) only [up_k, up_s, up_a, up_i, flA_k, flA_a, flA_n, cpA_k, cpA_a, newO_o, newA_o, newO_t, newA_t, newA_n, k_step_k, t_ptj_k, t_ptj_1, t_toj_k, t_toj_1, d_tj_k, d_tj_s, d_tj_e]
    refine X_iload_n 41 hO dX1_putInstead_40 rfl rfl ?_
    refine X_iload_n 42 hO dX1_putInstead_41 rfl rfl ?_
    refine X_iast 43 hO dX1_putInstead_42 rfl (by first | assumption | omega | (simp (disch := first | decide | assumption | omega) only [up_k, up_s, up_a, up_i, flA_k, flA_a, flA_n, cpA_k, cpA_a, newO_o, newA_o, newO_t, newA_t, newA_n, k_step_k, t_ptj_k, t_ptj_1, t_toj_k, t_toj_1, d_tj_k, d_tj_s, d_tj_e] <;> first | assumption | omega)) (by first | assumption | omega | (simp (disch := first | decide | assumption | omega) only [up_k, up_s, up_a, up_i, flA_k, flA_a, flA_n, cpA_k, cpA_a, newO_o, newA_o, newO_t, newA_t, newA_n, k_step_k, t_ptj_k, t_ptj_1, t_toj_k, t_toj_1, d_tj_k, d_tj_s, d_tj_e] <;> first | assumption | omega)) (by omega) ?_
    exact X_vret hO hF rfl dX1_putInstead_43 ⟨rfl, Or.inr ⟨⟨hY.1, hY.2.2⟩, w_6, r_6, hN_6, q_19, hq_19, hf_19, rfl⟩⟩
  ·
    obtain ⟨hN, e1_6, e2_6⟩ := hp_6.resolve_right (fun h => by have := (NCh_r h.2).1; omega)
    subst w_6
    exact X_vret hO hF rfl dX1_putInstead_14 ⟨rfl, Or.inl ⟨fun h => hN ⟨h.1, by decide, h.2⟩, rfl⟩⟩
