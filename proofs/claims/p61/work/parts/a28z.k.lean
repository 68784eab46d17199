/-! few characters taken: the room that is needed -/
set_option maxRecDepth 4000 in
theorem kX5_charsFrom2 (γ : LC) (w : Mm) (s a n : Int) (sS : Nat) (hs : ST w s) (hz : SZ w s) (ha : IR a) (hn : IR n) (hi : IR (w 67 s 0 - n)) (hS : n ≤ sS) : KR γ 2 mX5_charsFrom [rv s, .int (I a), .int (I n)] w (2) (sS + 1) (fun r w' => (¬ (0 ≤ a ∧ 0 ≤ n ∧ a ≤ w 67 s 0 - n) ∧ r = 0 ∧ w' = w) ∨ ((0 ≤ a ∧ 0 ≤ n ∧ a ≤ w 67 s 0 - n) ∧ NCh w w' r (w 28 s 0) a n)) NX := by
  refine MX_of rfl rfl (by simp [rv_cat, int_cat]) rfl ?_
  rintro κ hO hF rfl
  have hD := hF.dp
  show X κ (2) (sS + 1) w 0 [some (rv s), some (.int (I a)), some (.int (I n)), none] []
  obtain ⟨t0, ⟨t1, t2, t3, t4⟩, ⟨t5, t6, t7⟩, t8⟩ := id hs
  obtain ⟨z1, z2, z3⟩ := id hz
  refine X_iload_n 1 hO dX5_charsFrom_0 rfl rfl ?_
  refine X_if_lt 4 18 hO dX5_charsFrom_1 rfl rfl (by omega) (fun hc_1 => ?_) (fun hc_1 => ?_)
  ·
    refine X_null 19 hO dX5_charsFrom_18 rfl ?_
    exact X_aret hO hF rfl (by first | exact Or.inl ⟨_, rfl⟩ | exact Or.inr ⟨_, rfl⟩) dX5_charsFrom_19 ⟨_, rfl, Or.inl ⟨by omega, rfl, rfl⟩⟩
  ·
    refine X_iload_n 5 hO dX5_charsFrom_4 rfl rfl ?_
    refine X_if_lt 8 18 hO dX5_charsFrom_5 rfl rfl (by omega) (fun hc_5 => ?_) (fun hc_5 => ?_)
    ·
      refine X_null 19 hO dX5_charsFrom_18 rfl ?_
      exact X_aret hO hF rfl (by first | exact Or.inl ⟨_, rfl⟩ | exact Or.inr ⟨_, rfl⟩) dX5_charsFrom_19 ⟨_, rfl, Or.inl ⟨by omega, rfl, rfl⟩⟩
    ·
      refine X_iload_n 9 hO dX5_charsFrom_8 rfl rfl ?_
      refine X_aload_n 10 hO dX5_charsFrom_9 rfl rfl ?_
      refine gX5_40 13 hO dX5_charsFrom_10 rfl (by first | assumption | omega | (simp (disch := first | decide | assumption | omega) only [up_k, up_s, up_a, up_i, flA_k, flA_a, flA_n, cpA_k, cpA_a, newO_o, newA_o, newO_t, newA_t, newA_n, cpQ_k, cpQ_a] <;> first | assumption | omega)) (fun hi_10 => ?_)
      try simp (disch := first | decide | assumption | omega) only [up_k, up_s, up_a, up_i, flA_k, flA_a, flA_n, cpA_k, cpA_a, newO_o, newA_o, newO_t, newA_t, newA_n, cpQ_k, cpQ_a] at hi_10 ⊢
      refine X_iload_n 14 hO dX5_charsFrom_13 rfl rfl ?_
      refine X_isub 15 hO dX5_charsFrom_14 rfl ?_
      refine X_icmp_le 18 20 hO dX5_charsFrom_15 rfl rfl (by omega) (by omega) (fun hc_15 => ?_) (fun hc_15 => ?_)
      ·
        refine X_iload_n 21 hO dX5_charsFrom_20 rfl rfl ?_
        refine X_newi 23 hO w_aci (by omega) (by omega) (by omega) dX5_charsFrom_21 rfl (fun q_21 hq_21 hf_21 => ?_)
        have hqs : s ≠ q_21 := fun h => by rw [h] at t0; omega
        have hqt : w 28 s 0 ≠ q_21 := fun h => by rw [h] at t1; omega
        refine X_astore_n 24 hO dX5_charsFrom_23 rfl rfl ?_
        refine X_aload_n 25 hO dX5_charsFrom_24 rfl rfl ?_
        refine gX5_31 28 hO dX5_charsFrom_25 rfl (by first | assumption | omega | (simp (disch := first | decide | assumption | omega) only [up_k, up_s, up_a, up_i, flA_k, flA_a, flA_n, cpA_k, cpA_a, newO_o, newA_o, newO_t, newA_t, newA_n, cpQ_k, cpQ_a] <;> first | assumption | omega)) ?_
        try simp (disch := first | decide | assumption | omega) only [up_k, up_s, up_a, up_i, flA_k, flA_a, flA_n, cpA_k, cpA_a, newO_o, newA_o, newO_t, newA_t, newA_n, cpQ_k, cpQ_a]
        refine X_iload_n 29 hO dX5_charsFrom_28 rfl rfl ?_
        refine X_aload_n 30 hO dX5_charsFrom_29 rfl rfl ?_
        refine X_iconst 31 hO dX5_charsFrom_30 rfl ?_
        refine X_iload_n 32 hO dX5_charsFrom_31 rfl rfl ?_
        refine X_copyi 35 hO w_757 dX5_charsFrom_32 rfl (by first | assumption | omega | (simp (disch := first | decide | assumption | omega) only [up_k, up_s, up_a, up_i, flA_k, flA_a, flA_n, cpA_k, cpA_a, newO_o, newA_o, newO_t, newA_t, newA_n, cpQ_k, cpQ_a] <;> first | assumption | omega)) (by first | assumption | omega | (simp (disch := first | decide | assumption | omega) only [up_k, up_s, up_a, up_i, flA_k, flA_a, flA_n, cpA_k, cpA_a, newO_o, newA_o, newO_t, newA_t, newA_n, cpQ_k, cpQ_a] <;> first | assumption | omega)) (by simp (disch := first | decide | assumption | omega) only [up_k, up_s, up_a, up_i, flA_k, flA_a, flA_n, cpA_k, cpA_a, newO_o, newA_o, newO_t, newA_t, newA_n, cpQ_k, cpQ_a] <;> omega) (by rw [newA_n]; omega) (by omega) hD (by decide) (by simp [rv_cat, int_cat]) ?_
        refine n_1 38 hO w_172 (by omega) (by omega) dX5_charsFrom_35 rfl (fun q_35 hq_35 hf_35 => ?_)
        rw [cpA_k (by decide)] at hf_35
        have hne : q_35 ≠ q_21 := fun h => by rw [h, newA_t] at hf_35; omega
        rw [newA_o hne] at hf_35
        refine X_dup 39 hO dX5_charsFrom_38 rfl (by first | rfl | exact rv_cat _) ?_
        refine X_aload_n 40 hO dX5_charsFrom_39 rfl rfl ?_
        refine X_kIv 43 hO hD lX5_58 [_] rfl dX5_charsFrom_40 rfl (by assumption) (kX0_init _ _ _ _ (by assumption) (newO_t)) (by decide) (by simp [rv_cat, int_cat]) (by first | decide | exact Nat.zero_le _ | omega) (by first | decide | exact Nat.zero_le _ | omega) (fun w_40 hp_40 => ?_) (fun E w_ hx_ => hx_.elim)
        subst w_40
        exact X_aret hO hF rfl (by first | exact Or.inl ⟨_, rfl⟩ | exact Or.inr ⟨_, rfl⟩) dX5_charsFrom_43 ⟨_, rfl, Or.inr ⟨by omega, q_21, hq_21, hq_35, hf_21, hf_35, hne, rfl⟩⟩
      ·
        refine X_null 19 hO dX5_charsFrom_18 rfl ?_
        exact X_aret hO hF rfl (by first | exact Or.inl ⟨_, rfl⟩ | exact Or.inr ⟨_, rfl⟩) dX5_charsFrom_19 ⟨_, rfl, Or.inl ⟨by omega, rfl, rfl⟩⟩
set_option maxRecDepth 4000 in
theorem kX1_putInstead2 (γ : LC) (w : Mm) (d p v : Int) (hG : DG w d) (hi : IR p) (hv0 : IR v) : KV γ 3 mX1_putInstead [rv d, .int (I p), .int (I v)] w (3) (7) (fun w' => (¬ (0 ≤ p ∧ p ≤ w 67 (w 11 d 0) 0 - 1) ∧ w' = w) ∨ ((0 ≤ p ∧ p ≤ w 67 (w 11 d 0) 0 - 1) ∧ ∃ W r, NCh w W r (w 28 (w 11 d 0) 0) p 1 ∧ ∃ x, 0 < x ∧ W 0 x 0 = 0 ∧ w' = up (k_step (W 12 d 0) x 3 p 1 r W) 1 (W 28 (W 11 d 0) 0) p v)) NX := by
  refine MX_of rfl rfl (by simp [rv_cat, int_cat]) rfl ?_
  rintro κ hO hF rfl
  have hD := hF.dp
  show X κ (3) (7) w 0 [some (rv d), some (.int (I p)), some (.int (I v)), none] []
  obtain ⟨hd, hv, ⟨hs, hz, hb, hp, hE⟩, hQ, ⟨n1, n2, n3, n4, n5⟩⟩ := id hG
  obtain ⟨t0, t1, ⟨t2, t3⟩, ⟨t4, t5⟩, t6, t7, t8⟩ := id hd
  obtain ⟨s0, ⟨s1, s2, s3, s4⟩, ⟨s5, s6, s7⟩, s8⟩ := id hs
  obtain ⟨z1, z2, z3⟩ := id hz
  obtain ⟨y0, y1, y2, y3⟩ := id hQ
  have hz1 : IR 1 := by omega
  have hz3 : IR 3 := by omega
  refine X_aload_n 1 hO dX1_putInstead_0 rfl rfl ?_
  refine gX1_14 4 hO dX1_putInstead_1 rfl (by first | assumption | omega | (simp (disch := first | decide | assumption | omega) only [up_k, up_s, up_a, up_i, flA_k, flA_a, flA_n, cpA_k, cpA_a, newO_o, newA_o, newO_t, newA_t, newA_n, k_step_k, t_ptj_k, t_ptj_1, t_toj_k, t_toj_1, d_tj_k, d_tj_s, d_tj_e] <;> first | assumption | omega)) ?_
  try simp (disch := first | decide | assumption | omega) only [up_k, up_s, up_a, up_i, flA_k, flA_a, flA_n, cpA_k, cpA_a, newO_o, newA_o, newO_t, newA_t, newA_n, cpQ_k, cpQ_a, k_step_k, t_ptj_k, t_ptj_1, t_toj_k, t_toj_1, d_tj_k, d_tj_s, d_tj_e]
  refine X_iload_n 5 hO dX1_putInstead_4 rfl rfl ?_
  refine X_iconst 6 hO dX1_putInstead_5 rfl ?_
  refine X_kVr (t := 6) 9 hO hD lX1_73 rfl (by decide) [_, _] rfl dX1_putInstead_6 rfl (by first | assumption | omega | (simp (disch := first | decide | assumption | omega) only [up_k, up_s, up_a, up_i, flA_k, flA_a, flA_n, cpA_k, cpA_a, newO_o, newA_o, newO_t, newA_t, newA_n, k_step_k, t_ptj_k, t_ptj_1, t_toj_k, t_toj_1, d_tj_k, d_tj_s, d_tj_e] <;> first | assumption | omega)) (kX5_charsFrom2 _ _ _ _ _ 1 hs hz hi (by omega) (by omega) (by decide)) (by decide) (by simp [rv_cat, int_cat]) (by first | decide | exact Nat.zero_le _ | omega) (by first | decide | exact Nat.zero_le _ | omega) (fun r_6 w_6 hp_6 => ?_) (fun E w_ hx_ => hx_.elim)
  refine X_astore_n 10 hO dX1_putInstead_9 rfl rfl ?_
  refine X_aload_n 11 hO dX1_putInstead_10 rfl rfl ?_
  refine X_ifnonnull 14 15 hO dX1_putInstead_11 rfl rfl (fun hc_11 => ?_) (fun hc_11 => ?_)
  ·
    obtain ⟨hY, hN_6⟩ := hp_6.resolve_left (fun h => by have := h.2.1; omega)
    have hr6 := NCh_r hN_6
    have hsz : w_6 67 (w_6 11 d 0) 0 = w 67 (w 11 d 0) 0 := by rw [NCh_fr hN_6 11 d 0 (by omega), NCh_fr hN_6 67 _ 0 (by omega)]
    have fr6 := NCh_fr hN_6
    have hG6 : DG w_6 d := DG_fr fr6 hG
    clear hd hv hs hz hb hp hE hQ n1 n2 n3 n4 n5 t0 t1 t2 t3 t4 t5 t6 t7 t8 s0 s1 s2 s3 s4 s5 s6 s7 s8 z1 z2 z3 y0 y1 y2 y3
    obtain ⟨hd, hv, ⟨hs, hz, hb, hp, hE⟩, hQ, ⟨n1, n2, n3, n4, n5⟩⟩ := id hG6
    obtain ⟨t0, t1, ⟨t2, t3⟩, ⟨t4, t5⟩, t6, t7, t8⟩ := id hd
    obtain ⟨s0, ⟨s1, s2, s3, s4⟩, ⟨s5, s6, s7⟩, s8⟩ := id hs
    obtain ⟨z1, z2, z3⟩ := id hz
    obtain ⟨y0, y1, y2, y3⟩ := id hQ
    refine X_aload_n 16 hO dX1_putInstead_15 rfl rfl ?_
    refine gX1_23 19 hO dX1_putInstead_16 rfl (by first | assumption | omega | (simp (disch := first | decide | assumption | omega) only [up_k, up_s, up_a, up_i, flA_k, flA_a, flA_n, cpA_k, cpA_a, newO_o, newA_o, newO_t, newA_t, newA_n, k_step_k, t_ptj_k, t_ptj_1, t_toj_k, t_toj_1, d_tj_k, d_tj_s, d_tj_e] <;> first | assumption | omega)) ?_
    try simp (disch := first | decide | assumption | omega) only [up_k, up_s, up_a, up_i, flA_k, flA_a, flA_n, cpA_k, cpA_a, newO_o, newA_o, newO_t, newA_t, newA_n, cpQ_k, cpQ_a, k_step_k, t_ptj_k, t_ptj_1, t_toj_k, t_toj_1, d_tj_k, d_tj_s, d_tj_e]
    refine n_7 22 hO w_810 (by omega) (by omega) dX1_putInstead_19 rfl (fun q_19 hq_19 hf_19 => ?_)
    have nx0 : d ≠ q_19 := fun h => by rw [h] at t0; omega
    have nx1 : w_6 11 d 0 ≠ q_19 := fun h => by rw [h] at t1; omega
    have nx2 : w_6 13 d 0 ≠ q_19 := fun h => by rw [h] at t2; omega
    have nx3 : w_6 14 d 0 ≠ q_19 := fun h => by rw [h] at t4; omega
    have nx4 : w_6 12 d 0 ≠ q_19 := fun h => by rw [h] at y0; omega
    have nx5 : w_6 28 (w_6 11 d 0) 0 ≠ q_19 := fun h => by rw [h] at s1; omega
    refine X_dup 23 hO dX1_putInstead_22 rfl (by first | rfl | exact rv_cat _) ?_
    refine X_iconst 24 hO dX1_putInstead_23 rfl ?_
    refine X_iload_n 25 hO dX1_putInstead_24 rfl rfl ?_
    refine X_iconst 26 hO dX1_putInstead_25 rfl ?_
    refine X_aload_n 27 hO dX1_putInstead_26 rfl rfl ?_
    refine X_kIv 30 hO hD lX1_53 [_, _, _, _] rfl dX1_putInstead_27 rfl (by assumption) (kX6_init _ _ _ _ _ _ _ (by assumption) (newO_t) (by omega) (by omega) (by omega)) (by decide) (by simp [rv_cat, int_cat]) (by first | decide | exact Nat.zero_le _ | omega) (by first | decide | exact Nat.zero_le _ | omega) (fun w_27 hp_27 => ?_) (fun E w_ hx_ => hx_.elim)
    subst w_27
    refine X_kVv (t := 8) 33 hO hD lX1_56 rfl (by decide) [_] rfl dX1_putInstead_30 rfl (by first | assumption | omega | (simp (disch := first | decide | assumption | omega) only [up_k, up_s, up_a, up_i, flA_k, flA_a, flA_n, cpA_k, cpA_a, newO_o, newA_o, newO_t, newA_t, newA_n, k_step_k, t_ptj_k, t_ptj_1, t_toj_k, t_toj_1, d_tj_k, d_tj_s, d_tj_e] <;> first | assumption | omega)) (kap _ _ _ _ _ _ _ _ hQ (by assumption) (by assumption)) (by decide) (by simp [rv_cat, int_cat]) (by first | decide | exact Nat.zero_le _ | omega) (by first | decide | exact Nat.zero_le _ | omega) (fun w_30 hp_30 => ?_) (fun E w_ hx_ => hx_.elim)
    subst w_30
    refine X_aload_n 34 hO dX1_putInstead_33 rfl rfl ?_
    refine gX1_14 37 hO dX1_putInstead_34 rfl (by first | assumption | omega | (simp (disch := first | decide | assumption | omega) only [up_k, up_s, up_a, up_i, flA_k, flA_a, flA_n, cpA_k, cpA_a, newO_o, newA_o, newO_t, newA_t, newA_n, k_step_k, t_ptj_k, t_ptj_1, t_toj_k, t_toj_1, d_tj_k, d_tj_s, d_tj_e] <;> first | assumption | omega)) ?_
    try simp (disch := first | decide | assumption | omega) only [up_k, up_s, up_a, up_i, flA_k, flA_a, flA_n, cpA_k, cpA_a, newO_o, newA_o, newO_t, newA_t, newA_n, cpQ_k, cpQ_a, k_step_k, t_ptj_k, t_ptj_1, t_toj_k, t_toj_1, d_tj_k, d_tj_s, d_tj_e]
    refine gX1_85 40 hO dX1_putInstead_37 rfl (by first | assumption | omega | (simp (disch := first | decide | assumption | omega) only [up_k, up_s, up_a, up_i, flA_k, flA_a, flA_n, cpA_k, cpA_a, newO_o, newA_o, newO_t, newA_t, newA_n, k_step_k, t_ptj_k, t_ptj_1, t_toj_k, t_toj_1, d_tj_k, d_tj_s, d_tj_e] <;> first | assumption | omega)) ?_
    try simp (disch := first | decide | assumption | omega) only [up_k, up_s, up_a, up_i, flA_k, flA_a, flA_n, cpA_k, cpA_a, newO_o, newA_o, newO_t, newA_t, newA_n, cpQ_k, cpQ_a, k_step_k, t_ptj_k, t_ptj_1, t_toj_k, t_toj_1, d_tj_k, d_tj_s, d_tj_e]
    refine X_iload_n 41 hO dX1_putInstead_40 rfl rfl ?_
    refine X_iload_n 42 hO dX1_putInstead_41 rfl rfl ?_
    refine X_iast 43 hO dX1_putInstead_42 rfl (by first | assumption | omega | (simp (disch := first | decide | assumption | omega) only [up_k, up_s, up_a, up_i, flA_k, flA_a, flA_n, cpA_k, cpA_a, newO_o, newA_o, newO_t, newA_t, newA_n, k_step_k, t_ptj_k, t_ptj_1, t_toj_k, t_toj_1, d_tj_k, d_tj_s, d_tj_e] <;> first | assumption | omega)) (by first | assumption | omega | (simp (disch := first | decide | assumption | omega) only [up_k, up_s, up_a, up_i, flA_k, flA_a, flA_n, cpA_k, cpA_a, newO_o, newA_o, newO_t, newA_t, newA_n, k_step_k, t_ptj_k, t_ptj_1, t_toj_k, t_toj_1, d_tj_k, d_tj_s, d_tj_e] <;> first | assumption | omega)) (by omega) ?_
    exact X_vret hO hF rfl dX1_putInstead_43 ⟨rfl, Or.inr ⟨⟨hY.1, hY.2.2⟩, w_6, r_6, hN_6, q_19, hq_19, hf_19, rfl⟩⟩
  ·
    obtain ⟨hN, e1_6, e2_6⟩ := hp_6.resolve_right (fun h => by have := (NCh_r h.2).1; omega)
    subst w_6
    exact X_vret hO hF rfl dX1_putInstead_14 ⟨rfl, Or.inl ⟨fun h => hN ⟨h.1, by decide, h.2⟩, rfl⟩⟩
