/-! characters taken to the ring, kept in a register, put over -/
theorem s_push_k {s c : Int} {w : Mm} {k : Nat} {a i : Int} (h : k ≠ 3) : s_push s c w k a i = w k a i := by unfold s_push; rw [up_k _ h, flA_k h]
theorem WI.z0 {w : Mm} (h : WI w) : w 0 0 0 = 0 := Classical.byContradiction fun hn => by have := (h.2.1 0 hn).1; omega
theorem dX12_takeToRing_0 : decode cX12_takeToRing 0 = .ok (.aload_n 0, 1) := by decide +kernel
theorem dX12_takeToRing_1 : decode cX12_takeToRing 1 = .ok (.getfield 10, 3) := by decide +kernel
theorem dX12_takeToRing_4 : decode cX12_takeToRing 4 = .ok (.iload_n 1, 1) := by decide +kernel
theorem dX12_takeToRing_5 : decode cX12_takeToRing 5 = .ok (.invokevirtual 472, 3) := by decide +kernel
theorem dX12_takeToRing_8 : decode cX12_takeToRing 8 = .ok (.ifCond .ne 5, 3) := by decide +kernel
theorem dX12_takeToRing_11 : decode cX12_takeToRing 11 = .ok (.iconst 1, 1) := by decide +kernel
theorem dX12_takeToRing_12 : decode cX12_takeToRing 12 = .ok (.ireturn, 1) := by decide +kernel
theorem dX12_takeToRing_13 : decode cX12_takeToRing 13 = .ok (.aload_n 0, 1) := by decide +kernel
theorem dX12_takeToRing_14 : decode cX12_takeToRing 14 = .ok (.getfield 10, 3) := by decide +kernel
theorem dX12_takeToRing_17 : decode cX12_takeToRing 17 = .ok (.getfield 223, 3) := by decide +kernel
theorem dX12_takeToRing_20 : decode cX12_takeToRing 20 = .ok (.aload_n 0, 1) := by decide +kernel
theorem dX12_takeToRing_21 : decode cX12_takeToRing 21 = .ok (.getfield 10, 3) := by decide +kernel
theorem dX12_takeToRing_24 : decode cX12_takeToRing 24 = .ok (.aload_n 0, 1) := by decide +kernel
theorem dX12_takeToRing_25 : decode cX12_takeToRing 25 = .ok (.getfield 10, 3) := by decide +kernel
theorem dX12_takeToRing_28 : decode cX12_takeToRing 28 = .ok (.getfield 271, 3) := by decide +kernel
theorem dX12_takeToRing_31 : decode cX12_takeToRing 31 = .ok (.iload_n 1, 1) := by decide +kernel
theorem dX12_takeToRing_32 : decode cX12_takeToRing 32 = .ok (.invokevirtual 478, 3) := by decide +kernel
theorem dX12_takeToRing_35 : decode cX12_takeToRing 35 = .ok (.invokevirtual 481, 3) := by decide +kernel
theorem dX12_takeToRing_38 : decode cX12_takeToRing 38 = .ok (.aload_n 0, 1) := by decide +kernel
theorem dX12_takeToRing_39 : decode cX12_takeToRing 39 = .ok (.aload_n 0, 1) := by decide +kernel
theorem dX12_takeToRing_40 : decode cX12_takeToRing 40 = .ok (.getfield 10, 3) := by decide +kernel
theorem dX12_takeToRing_43 : decode cX12_takeToRing 43 = .ok (.getfield 223, 3) := by decide +kernel
theorem dX12_takeToRing_46 : decode cX12_takeToRing 46 = .ok (.iconst 4, 1) := by decide +kernel
theorem dX12_takeToRing_47 : decode cX12_takeToRing 47 = .ok (.invokevirtual 309, 3) := by decide +kernel
theorem dX12_takeToRing_50 : decode cX12_takeToRing 50 = .ok (.putfield 122, 3) := by decide +kernel
theorem dX12_takeToRing_53 : decode cX12_takeToRing 53 = .ok (.aload_n 0, 1) := by decide +kernel
theorem dX12_takeToRing_54 : decode cX12_takeToRing 54 = .ok (.iconst 4, 1) := by decide +kernel
theorem dX12_takeToRing_55 : decode cX12_takeToRing 55 = .ok (.invokevirtual 485, 3) := by decide +kernel
theorem dX12_takeToRing_58 : decode cX12_takeToRing 58 = .ok (.ireturn, 1) := by decide +kernel
set_option maxRecDepth 4000 in
theorem kX12_takeToRing (γ : LC) (w : Mm) (f n : Int) (p : RP) (μ : MU) (L : List Int) (A : Mm) (h : RLm p μ f L w A) (hR : RBc μ L A) (hn : 1 ≤ n ∧ n ≤ 20) (hpt : 0 ≤ A 207 0 0) (hhi : m_vT A ≤ A 201 0 0) : KI γ 5 mX12_takeToRing [rv f, .int (I n)] w (4) (411) (fun r w' => (¬ n ≤ d_high w (w 41 f 0) - w 61 (w 41 f 0) 0 ∧ r = 1 ∧ w' = w) ∨ (n ≤ d_high w (w 41 f 0) - w 61 (w 41 f 0) 0 ∧ r = 0 ∧ ∃ W g x, NCh w W g (w 28 (w 11 (w 41 f 0) 0) 0) (w 61 (w 41 f 0) 0) n ∧ (0 < x ∧ W 0 x 0 = 0) ∧ ∃ V, V = up (s_push (w 11 (w 41 f 0) 0) g (d_tj (w 41 f 0) (w 61 (w 41 f 0) 0) n g x W (W 60 (w 41 f 0) 0))) 91 f 0 (m_ecn (s_push (w 11 (w 41 f 0) 0) g (d_tj (w 41 f 0) (w 61 (w 41 f 0) 0) n g x W (W 60 (w 41 f 0) 0))) (w 11 (w 41 f 0) 0) 4) ∧ ((w 1 (w 44 f 0) 4 = 0 ∧ w' = V) ∨ (w 1 (w 44 f 0) 4 ≠ 0 ∧ ∃ y, 0 < y ∧ V 0 y 0 = 0 ∧ w' = k_step (w 12 (w 41 f 0) 0) y 5 0 0 0 V)))) NX := by
  refine MX_of rfl rfl (by simp [rv_cat, int_cat]) rfl ?_
  rintro κ hO hF rfl
  have hD := hF.dp
  show X κ (4) (411) w 0 [some (rv f), some (.int (I n))] []
  refine X_wi fun hWI => ?_
  have h00 := hWI.z0
  obtain ⟨hl, hSB, hVB, hbB, hbT, hLn⟩ := id hR
  have hSB1 : 0 ≤ A 201 0 0 ∧ A 201 0 0 ≤ 400 := hSB.1
  have hDG := h.toDG hSB.2.2.1 (by omega) hSB1.2
  obtain ⟨t0, hFB, -, -⟩ := h.toF
  obtain ⟨lo1, lo2, lo3, lo4, lo5⟩ := h.low
  obtain ⟨⟨tr1, tr2⟩, tr3⟩ := h.toTr
  have hsd := h.1.2.2.1.1.1
  have hbd := h.1.2.2.1.1.2
  obtain ⟨hd, hv, ⟨hs, hz, hb, hp, hE⟩, hQ, hNj⟩ := id hDG
  obtain ⟨y0, y1, ⟨y2, y3⟩, ⟨y4, y5⟩, y6, y7, y8⟩ := id hd
  obtain ⟨s0, ⟨s1, s2, s3, s4⟩, ⟨s5, s6, s7⟩, s8⟩ := id hs
  obtain ⟨z1, z2, z3⟩ := id hz
  refine X_aload_n 1 hO dX12_takeToRing_0 rfl rfl ?_
  refine gX12_10 4 hO dX12_takeToRing_1 rfl (by first | assumption | omega | (simp (disch := first | decide | assumption | omega) only [up_k, up_s, up_a, up_i, flA_k, flA_a, flA_n, cpA_k, cpA_a, newO_o, newA_o, newO_t, newA_t, newA_n, cpQ_k, cpQ_a, s_push_k, e41, e11, e44] <;> first | assumption | omega)) ?_
  try simp (disch := first | decide | assumption | omega) only [up_k, up_s, up_a, up_i, flA_k, flA_a, flA_n, cpA_k, cpA_a, newO_o, newA_o, newO_t, newA_t, newA_n, cpQ_k, cpQ_a, e41, e11, s_push_k]
  refine X_iload_n 5 hO dX12_takeToRing_4 rfl rfl ?_
  refine X_kVi (t := 2) 8 hO hD lX12_472 rfl (by decide) [_] rfl dX12_takeToRing_5 rfl (by first | assumption | omega | (simp (disch := first | decide | assumption | omega) only [up_k, up_s, up_a, up_i, flA_k, flA_a, flA_n, cpA_k, cpA_a, newO_o, newA_o, newO_t, newA_t, newA_n, cpQ_k, cpQ_a, s_push_k, e41, e11, e44] <;> first | assumption | omega)) (kX1_hasBehindPoint _ _ _ _ hd hv (by omega)) (by decide) (by simp [rv_cat, int_cat]) (by first | decide | exact Nat.zero_le _ | omega) (by first | decide | exact Nat.zero_le _ | omega) (fun r_5 w_5 hr_5 hp_5 => ?_) (fun E w_ hx_ => hx_.elim)
  obtain ⟨e1_5, e2_5⟩ := hp_5
  subst r_5
  subst w_5
  refine X_if_ne 11 13 hO dX12_takeToRing_8 rfl rfl (by omega) (fun hc_8 => ?_) (fun hc_8 => ?_)
  ·
    try simp only [bi_0, bi_ne, ne_eq, Classical.not_not] at hc_8
    have e41 := trivial
    have e11 := trivial
    have e44 := trivial
    refine X_aload_n 14 hO dX12_takeToRing_13 rfl rfl ?_
    refine gX12_10 17 hO dX12_takeToRing_14 rfl (by first | assumption | omega | (simp (disch := first | decide | assumption | omega) only [up_k, up_s, up_a, up_i, flA_k, flA_a, flA_n, cpA_k, cpA_a, newO_o, newA_o, newO_t, newA_t, newA_n, cpQ_k, cpQ_a, s_push_k, e41, e11, e44] <;> first | assumption | omega)) ?_
    try simp (disch := first | decide | assumption | omega) only [up_k, up_s, up_a, up_i, flA_k, flA_a, flA_n, cpA_k, cpA_a, newO_o, newA_o, newO_t, newA_t, newA_n, cpQ_k, cpQ_a, e41, e11, s_push_k]
    refine gX12_223 20 hO dX12_takeToRing_17 rfl (by first | assumption | omega | (simp (disch := first | decide | assumption | omega) only [up_k, up_s, up_a, up_i, flA_k, flA_a, flA_n, cpA_k, cpA_a, newO_o, newA_o, newO_t, newA_t, newA_n, cpQ_k, cpQ_a, s_push_k, e41, e11, e44] <;> first | assumption | omega)) ?_
    try simp (disch := first | decide | assumption | omega) only [up_k, up_s, up_a, up_i, flA_k, flA_a, flA_n, cpA_k, cpA_a, newO_o, newA_o, newO_t, newA_t, newA_n, cpQ_k, cpQ_a, e41, e11, s_push_k]
    refine X_aload_n 21 hO dX12_takeToRing_20 rfl rfl ?_
    refine gX12_10 24 hO dX12_takeToRing_21 rfl (by first | assumption | omega | (simp (disch := first | decide | assumption | omega) only [up_k, up_s, up_a, up_i, flA_k, flA_a, flA_n, cpA_k, cpA_a, newO_o, newA_o, newO_t, newA_t, newA_n, cpQ_k, cpQ_a, s_push_k, e41, e11, e44] <;> first | assumption | omega)) ?_
    try simp (disch := first | decide | assumption | omega) only [up_k, up_s, up_a, up_i, flA_k, flA_a, flA_n, cpA_k, cpA_a, newO_o, newA_o, newO_t, newA_t, newA_n, cpQ_k, cpQ_a, e41, e11, s_push_k]
    refine X_aload_n 25 hO dX12_takeToRing_24 rfl rfl ?_
    refine gX12_10 28 hO dX12_takeToRing_25 rfl (by first | assumption | omega | (simp (disch := first | decide | assumption | omega) only [up_k, up_s, up_a, up_i, flA_k, flA_a, flA_n, cpA_k, cpA_a, newO_o, newA_o, newO_t, newA_t, newA_n, cpQ_k, cpQ_a, s_push_k, e41, e11, e44] <;> first | assumption | omega)) ?_
    try simp (disch := first | decide | assumption | omega) only [up_k, up_s, up_a, up_i, flA_k, flA_a, flA_n, cpA_k, cpA_a, newO_o, newA_o, newO_t, newA_t, newA_n, cpQ_k, cpQ_a, e41, e11, s_push_k]
    refine gX12_271 31 hO dX12_takeToRing_28 rfl (by first | assumption | omega | (simp (disch := first | decide | assumption | omega) only [up_k, up_s, up_a, up_i, flA_k, flA_a, flA_n, cpA_k, cpA_a, newO_o, newA_o, newO_t, newA_t, newA_n, cpQ_k, cpQ_a, s_push_k, e41, e11, e44] <;> first | assumption | omega)) (fun hi_28 => ?_)
    try simp (disch := first | decide | assumption | omega) only [up_k, up_s, up_a, up_i, flA_k, flA_a, flA_n, cpA_k, cpA_a, newO_o, newA_o, newO_t, newA_t, newA_n, cpQ_k, cpQ_a, e41, e11, s_push_k] at hi_28 ⊢
    refine X_iload_n 32 hO dX12_takeToRing_31 rfl rfl ?_
    refine X_kVr (t := 2) 35 hO hD lX12_478 rfl (by decide) [_, _] rfl dX12_takeToRing_32 rfl (by first | assumption | omega | (simp (disch := first | decide | assumption | omega) only [up_k, up_s, up_a, up_i, flA_k, flA_a, flA_n, cpA_k, cpA_a, newO_o, newA_o, newO_t, newA_t, newA_n, cpQ_k, cpQ_a, s_push_k, e41, e11, e44] <;> first | assumption | omega)) (kX1_takeOut _ _ _ _ _ 400 hDG (by omega) (by omega) (by omega) (by omega)) (by decide) (by simp [rv_cat, int_cat]) (by first | decide | exact Nat.zero_le _ | omega) (by first | decide | exact Nat.zero_le _ | omega) (fun r_32 w_32 hp_32 => ?_) (fun E w_ hx_ => hx_.elim)
    obtain ⟨hY, W, hN, x, hx0, hxf, ex_32⟩ := hp_32.resolve_left (fun h => h.1 (by omega))
    obtain ⟨hu0, hW, -, -, c1, σ1, G1, hR1, -, -, -, hu1, hc1⟩ := takeS h hR (by omega) (by omega) hN ⟨hx0, hxf⟩
    rw [← ex_32] at hR1 hu1
    clear e41 e11 e44
    have g41 : W 41 f 0 = w 41 f 0 := hu0.1 _ _ _ (by omega) (fun z => z)
    have g11 : W 11 (w 41 f 0) 0 = w 11 (w 41 f 0) 0 := hu0.1 _ _ _ (by omega) (fun z => z)
    have g12 : W 12 (w 41 f 0) 0 = w 12 (w 41 f 0) 0 := hu0.1 _ _ _ (by omega) (fun z => z)
    have g44 : W 44 f 0 = w 44 f 0 := hu0.1 _ _ _ (by omega) (fun z => z)
    have q1 := hW.eqs hl.1 hu1
    rw [g41, g11] at q1
    have e41 : w_32 41 f 0 = w 41 f 0 := (q1.1 41 (by decide)).trans g41
    have e44 : w_32 44 f 0 = w 44 f 0 := (q1.1 44 (by decide)).trans g44
    have e11 : w_32 11 (w 41 f 0) 0 = w 11 (w 41 f 0) 0 := q1.2.1.1
    have e12 : w_32 12 (w 41 f 0) 0 = w 12 (w 41 f 0) 0 := q1.2.1.2.1.trans g12
    have hs1 := hR1.1.2.2.1.1.1
    have hb1 := hR1.1.2.2.1.1.2
    have hQ1 := hR1.toQT (by simp only [List.length_append, List.length_cons, List.length_nil]; omega)
    have hE1 := hR1.2.2.1.1.1.toSE
    have hTr1 := hR1.toTr
    have c13 := hR1.toF.1
    have hST1 := hs1.2.1.toST
    have hTl1 := hs1.toDTl hb1
    rw [e41] at hs1 hb1 hQ1 hE1 hST1 hTl1
    rw [e11] at hE1 hST1
    rw [e12] at hQ1
    rw [e44] at hTr1
    have c2 : w_32 0 (w 41 f 0) 0 = 2 := hs1.1.1
    have c6 : w_32 0 (w 11 (w 41 f 0) 0) 0 = 6 := hST1.1
    have hg1 : r_32 = 0 ∨ w_32 0 r_32 0 = 1 := Or.inr (hu1.tag (NCh_r hN).2.1 (by decide))
    have ht1 : w_32 1 (w 44 f 0) 4 = w 1 (w 44 f 0) 4 := by
      have z44 : pc_ p (w 44 f 0) = 40 := h.1.2.1.2.1.2.2
      have k0 : W 0 (w 44 f 0) 0 ≠ 0 := by rw [hu0.t (by omega) (Or.inl rfl)]; omega
      rw [hu1.g k0 z44 (fun z => by unfold SDb at z; omega)]
      exact hu0.1 _ _ _ (by omega) (fun z => z)
    refine X_kVv (t := 6) 38 hO hD lX12_481 rfl (by decide) [_] rfl dX12_takeToRing_35 rfl (by first | assumption | omega | (simp (disch := first | decide | assumption | omega) only [up_k, up_s, up_a, up_i, flA_k, flA_a, flA_n, cpA_k, cpA_a, newO_o, newA_o, newO_t, newA_t, newA_n, cpQ_k, cpQ_a, s_push_k, e41, e11, e44] <;> first | assumption | omega)) (kX5_pushOnRing _ _ _ _ hST1 hg1 (fun i a b => hE1 i (by omega) b)) (by decide) (by simp [rv_cat, int_cat]) (by first | decide | exact Nat.zero_le _ | omega) (by first | decide | exact Nat.zero_le _ | omega) (fun w_35 hp_35 => ?_) (fun E w_ hx_ => hx_.elim)
    subst w_35
    refine X_aload_n 39 hO dX12_takeToRing_38 rfl rfl ?_
    refine X_aload_n 40 hO dX12_takeToRing_39 rfl rfl ?_
    refine gX12_10 43 hO dX12_takeToRing_40 rfl (by first | assumption | omega | (simp (disch := first | decide | assumption | omega) only [up_k, up_s, up_a, up_i, flA_k, flA_a, flA_n, cpA_k, cpA_a, newO_o, newA_o, newO_t, newA_t, newA_n, cpQ_k, cpQ_a, s_push_k, e41, e11, e44] <;> first | assumption | omega)) ?_
    try simp (disch := first | decide | assumption | omega) only [up_k, up_s, up_a, up_i, flA_k, flA_a, flA_n, cpA_k, cpA_a, newO_o, newA_o, newO_t, newA_t, newA_n, cpQ_k, cpQ_a, e41, e11, s_push_k]
    refine gX12_223 46 hO dX12_takeToRing_43 rfl (by first | assumption | omega | (simp (disch := first | decide | assumption | omega) only [up_k, up_s, up_a, up_i, flA_k, flA_a, flA_n, cpA_k, cpA_a, newO_o, newA_o, newO_t, newA_t, newA_n, cpQ_k, cpQ_a, s_push_k, e41, e11, e44] <;> first | assumption | omega)) ?_
    try simp (disch := first | decide | assumption | omega) only [up_k, up_s, up_a, up_i, flA_k, flA_a, flA_n, cpA_k, cpA_a, newO_o, newA_o, newO_t, newA_t, newA_n, cpQ_k, cpQ_a, e41, e11, s_push_k]
    refine X_iconst 47 hO dX12_takeToRing_46 rfl ?_
    refine X_kVi (t := 6) 50 hO hD lX12_309 rfl (by decide) [_] rfl dX12_takeToRing_47 rfl (by first | assumption | omega | (simp (disch := first | decide | assumption | omega) only [up_k, up_s, up_a, up_i, flA_k, flA_a, flA_n, cpA_k, cpA_a, newO_o, newA_o, newO_t, newA_t, newA_n, cpQ_k, cpQ_a, s_push_k, e41, e11, e44] <;> first | assumption | omega)) (kX5_entryCount _ _ _ _ (ST_c (fun k a h => s_push_k (by omega)) hST1) (by omega)) (by decide) (by simp [rv_cat, int_cat]) (by first | decide | exact Nat.zero_le _ | omega) (by first | decide | exact Nat.zero_le _ | omega) (fun r_47 w_47 hr_47 hp_47 => ?_) (fun E w_ hx_ => hx_.elim)
    obtain ⟨e1_47, e2_47⟩ := hp_47
    subst r_47
    subst w_47
    refine pX12_122 53 hO dX12_takeToRing_50 rfl (by first | assumption | omega | (simp (disch := first | decide | assumption | omega) only [up_k, up_s, up_a, up_i, flA_k, flA_a, flA_n, cpA_k, cpA_a, newO_o, newA_o, newO_t, newA_t, newA_n, cpQ_k, cpQ_a, s_push_k, e41, e11, e44] <;> first | assumption | omega)) (by omega) ?_
    refine X_aload_n 54 hO dX12_takeToRing_53 rfl rfl ?_
    refine X_iconst 55 hO dX12_takeToRing_54 rfl ?_
    refine X_kVi (t := 13) 58 hO hD lX12_485 rfl (by decide) [_] rfl dX12_takeToRing_55 rfl (by first | assumption | omega | (simp (disch := first | decide | assumption | omega) only [up_k, up_s, up_a, up_i, flA_k, flA_a, flA_n, cpA_k, cpA_a, newO_o, newA_o, newO_t, newA_t, newA_n, cpQ_k, cpQ_a, s_push_k, e41, e11, e44] <;> first | assumption | omega)) (kX12_storeWasSet _ _ _ _ (by simp (disch := decide) only [up_k, s_push_k]; exact c13) (by simp (disch := decide) only [up_k, s_push_k, e41]; exact DTl_c (fun k a h => by simp (disch := omega) only [up_k, s_push_k]) hTl1) (by simp (disch := decide) only [up_k, s_push_k, e41, e12]; exact QT_c (fun k a h => by simp (disch := omega) only [up_k, s_push_k]) hQ1) (by simp (disch := decide) only [up_k, s_push_k, e44]; exact hTr1.1) (by omega)) (by decide) (by simp [rv_cat, int_cat]) (by first | decide | exact Nat.zero_le _ | omega) (by first | decide | exact Nat.zero_le _ | omega) (fun r_55 w_55 hr_55 hp_55 => ?_) (fun E w_ hx_ => hx_.elim)
    simp (disch := decide) only [up_k, s_push_k, e41, e44, e12, ht1] at hp_55
    exact X_iret hO hF rfl (by first | exact Or.inl rfl | exact Or.inr ⟨rfl, bi_01 _⟩ | exact Or.inr ⟨rfl, by omega⟩) dX12_takeToRing_58 ⟨_, rfl, (by omega), (by obtain ⟨m1, m2⟩ := hp_55; rw [ex_32] at m2; exact Or.inr ⟨hc_8, m1, W, r_32, x, hN, ⟨hx0, hxf⟩, _, rfl, by simpa (disch := decide) only [up_k, s_push_k] using m2⟩)⟩
  ·
    try simp only [bi_0, bi_ne, ne_eq, Classical.not_not] at hc_8
    refine X_iconst 12 hO dX12_takeToRing_11 rfl ?_
    exact X_iret hO hF rfl (by first | exact Or.inl rfl | exact Or.inr ⟨rfl, bi_01 _⟩ | exact Or.inr ⟨rfl, by omega⟩) dX12_takeToRing_12 ⟨_, rfl, (by omega), Or.inl ⟨hc_8, rfl, rfl⟩⟩
