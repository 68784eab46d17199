/-! a character put over, characters kept in a register -/
theorem dX12_putOver_0 : decode cX12_putOver 0 = .ok (.aload_n 0, 1) := by decide +kernel
theorem dX12_putOver_1 : decode cX12_putOver 1 = .ok (.getfield 10, 3) := by decide +kernel
theorem dX12_putOver_4 : decode cX12_putOver 4 = .ok (.iconst 1, 1) := by decide +kernel
theorem dX12_putOver_5 : decode cX12_putOver 5 = .ok (.invokevirtual 472, 3) := by decide +kernel
theorem dX12_putOver_8 : decode cX12_putOver 8 = .ok (.ifCond .ne 5, 3) := by decide +kernel
theorem dX12_putOver_11 : decode cX12_putOver 11 = .ok (.iconst 1, 1) := by decide +kernel
theorem dX12_putOver_12 : decode cX12_putOver 12 = .ok (.ireturn, 1) := by decide +kernel
theorem dX12_putOver_13 : decode cX12_putOver 13 = .ok (.aload_n 0, 1) := by decide +kernel
theorem dX12_putOver_14 : decode cX12_putOver 14 = .ok (.aload_n 0, 1) := by decide +kernel
theorem dX12_putOver_15 : decode cX12_putOver 15 = .ok (.getfield 10, 3) := by decide +kernel
theorem dX12_putOver_18 : decode cX12_putOver 18 = .ok (.getfield 223, 3) := by decide +kernel
theorem dX12_putOver_21 : decode cX12_putOver 21 = .ok (.getfield 267, 3) := by decide +kernel
theorem dX12_putOver_24 : decode cX12_putOver 24 = .ok (.aload_n 0, 1) := by decide +kernel
theorem dX12_putOver_25 : decode cX12_putOver 25 = .ok (.getfield 10, 3) := by decide +kernel
theorem dX12_putOver_28 : decode cX12_putOver 28 = .ok (.getfield 271, 3) := by decide +kernel
theorem dX12_putOver_31 : decode cX12_putOver 31 = .ok (.iaload, 1) := by decide +kernel
theorem dX12_putOver_32 : decode cX12_putOver 32 = .ok (.putfield 122, 3) := by decide +kernel
theorem dX12_putOver_35 : decode cX12_putOver 35 = .ok (.aload_n 0, 1) := by decide +kernel
theorem dX12_putOver_36 : decode cX12_putOver 36 = .ok (.getfield 10, 3) := by decide +kernel
theorem dX12_putOver_39 : decode cX12_putOver 39 = .ok (.aload_n 0, 1) := by decide +kernel
theorem dX12_putOver_40 : decode cX12_putOver 40 = .ok (.getfield 10, 3) := by decide +kernel
theorem dX12_putOver_43 : decode cX12_putOver 43 = .ok (.getfield 271, 3) := by decide +kernel
theorem dX12_putOver_46 : decode cX12_putOver 46 = .ok (.iload_n 1, 1) := by decide +kernel
theorem dX12_putOver_47 : decode cX12_putOver 47 = .ok (.invokevirtual 475, 3) := by decide +kernel
theorem dX12_putOver_50 : decode cX12_putOver 50 = .ok (.aload_n 0, 1) := by decide +kernel
theorem dX12_putOver_51 : decode cX12_putOver 51 = .ok (.getfield 10, 3) := by decide +kernel
theorem dX12_putOver_54 : decode cX12_putOver 54 = .ok (.dup, 1) := by decide +kernel
theorem dX12_putOver_55 : decode cX12_putOver 55 = .ok (.getfield 271, 3) := by decide +kernel
theorem dX12_putOver_58 : decode cX12_putOver 58 = .ok (.iconst 1, 1) := by decide +kernel
theorem dX12_putOver_59 : decode cX12_putOver 59 = .ok (.iadd, 1) := by decide +kernel
theorem dX12_putOver_60 : decode cX12_putOver 60 = .ok (.putfield 271, 3) := by decide +kernel
theorem dX12_putOver_63 : decode cX12_putOver 63 = .ok (.iconst 0, 1) := by decide +kernel
theorem dX12_putOver_64 : decode cX12_putOver 64 = .ok (.ireturn, 1) := by decide +kernel
set_option maxRecDepth 4000 in
theorem kX12_putOver (γ : LC) (w : Mm) (f a : Int) (p : RP) (μ : MU) (L : List Int) (A : Mm) (h : RLm p μ f L w A) (hR : RBc μ L A) (ha : 0 ≤ a ∧ a ≤ 126) (hpt : 0 ≤ A 207 0 0) (hhi : m_vT A ≤ A 201 0 0) : KI γ 4 mX12_putOver [rv f, .int (I a)] w (3) (406) (fun r w' => (¬ 1 ≤ d_high w (w 41 f 0) - w 61 (w 41 f 0) 0 ∧ r = 1 ∧ w' = w) ∨ (1 ≤ d_high w (w 41 f 0) - w 61 (w 41 f 0) 0 ∧ r = 0 ∧ ∃ W g x, NCh (up w 91 f 0 (w 1 (w 28 (w 11 (w 41 f 0) 0) 0) (w 61 (w 41 f 0) 0))) W g (w 28 (w 11 (w 41 f 0) 0) 0) (w 61 (w 41 f 0) 0) 1 ∧ (0 < x ∧ W 0 x 0 = 0) ∧ w' = up (d_rp (w 41 f 0) (w 61 (w 41 f 0) 0) a g x W) 61 (w 41 f 0) 0 (w 61 (w 41 f 0) 0 + 1))) NX := by
  refine MX_of rfl rfl (by simp [rv_cat, int_cat]) rfl ?_
  rintro κ hO hF rfl
  have hD := hF.dp
  show X κ (3) (406) w 0 [some (rv f), some (.int (I a))] []
  refine X_wi fun hWI => ?_
  have h00 := hWI.z0
  obtain ⟨hl, hSB, hVB, hbB, hbT, hLn⟩ := id hR
  have hSB1 : 0 ≤ A 201 0 0 ∧ A 201 0 0 ≤ 400 := hSB.1
  have hDG := h.toDG hSB.2.2.1 (by omega) hSB1.2
  obtain ⟨t0, hFB, -, -⟩ := h.toF
  obtain ⟨lo1, lo2, lo3, lo4, lo5⟩ := h.low
  obtain ⟨⟨tr1, tr2⟩, tr3⟩ := h.toTr
  have hsd := h.1.2.2.1.1.1
  have hbd := h.1.2.2.1.1.2
  obtain ⟨hd, hv, ⟨hs, hz, hb, hp, hE⟩, hQ, hNj⟩ := id hDG
  obtain ⟨y0, y1, ⟨y2, y3⟩, ⟨y4, y5⟩, y6, y7, y8⟩ := id hd
  obtain ⟨s0, ⟨s1, s2, s3, s4⟩, ⟨s5, s6, s7⟩, s8⟩ := id hs
  obtain ⟨z1, z2, z3⟩ := id hz
  refine X_aload_n 1 hO dX12_putOver_0 rfl rfl ?_
  refine gX12_10 4 hO dX12_putOver_1 rfl (by first | assumption | omega | (simp (disch := first | decide | assumption | omega) only [up_k, up_s, up_a, up_i, flA_k, flA_a, flA_n, cpA_k, cpA_a, newO_o, newA_o, newO_t, newA_t, newA_n, cpQ_k, cpQ_a, e41, e61] <;> first | assumption | omega)) ?_
  try simp (disch := first | decide | assumption | omega) only [up_k, up_s, up_a, up_i, flA_k, flA_a, flA_n, cpA_k, cpA_a, newO_o, newA_o, newO_t, newA_t, newA_n, cpQ_k, cpQ_a, e41, e61]
  refine X_iconst 5 hO dX12_putOver_4 rfl ?_
  refine X_kVi (t := 2) 8 hO hD lX12_472 rfl (by decide) [_] rfl dX12_putOver_5 rfl (by first | assumption | omega | (simp (disch := first | decide | assumption | omega) only [up_k, up_s, up_a, up_i, flA_k, flA_a, flA_n, cpA_k, cpA_a, newO_o, newA_o, newO_t, newA_t, newA_n, cpQ_k, cpQ_a, e41, e61] <;> first | assumption | omega)) (kX1_hasBehindPoint _ _ _ _ hd hv (by omega)) (by decide) (by simp [rv_cat, int_cat]) (by first | decide | exact Nat.zero_le _ | omega) (by first | decide | exact Nat.zero_le _ | omega) (fun r_5 w_5 hr_5 hp_5 => ?_) (fun E w_ hx_ => hx_.elim)
  obtain ⟨e1_5, e2_5⟩ := hp_5
  subst r_5
  subst w_5
  refine X_if_ne 11 13 hO dX12_putOver_8 rfl rfl (by omega) (fun hc_8 => ?_) (fun hc_8 => ?_)
  ·
    try simp only [bi_0, bi_ne, ne_eq, Classical.not_not] at hc_8
    have e41 := trivial
    have e61 := trivial
    refine X_aload_n 14 hO dX12_putOver_13 rfl rfl ?_
    refine X_aload_n 15 hO dX12_putOver_14 rfl rfl ?_
    refine gX12_10 18 hO dX12_putOver_15 rfl (by first | assumption | omega | (simp (disch := first | decide | assumption | omega) only [up_k, up_s, up_a, up_i, flA_k, flA_a, flA_n, cpA_k, cpA_a, newO_o, newA_o, newO_t, newA_t, newA_n, cpQ_k, cpQ_a, e41, e61] <;> first | assumption | omega)) ?_
    try simp (disch := first | decide | assumption | omega) only [up_k, up_s, up_a, up_i, flA_k, flA_a, flA_n, cpA_k, cpA_a, newO_o, newA_o, newO_t, newA_t, newA_n, cpQ_k, cpQ_a, e41, e61]
    refine gX12_223 21 hO dX12_putOver_18 rfl (by first | assumption | omega | (simp (disch := first | decide | assumption | omega) only [up_k, up_s, up_a, up_i, flA_k, flA_a, flA_n, cpA_k, cpA_a, newO_o, newA_o, newO_t, newA_t, newA_n, cpQ_k, cpQ_a, e41, e61] <;> first | assumption | omega)) ?_
    try simp (disch := first | decide | assumption | omega) only [up_k, up_s, up_a, up_i, flA_k, flA_a, flA_n, cpA_k, cpA_a, newO_o, newA_o, newO_t, newA_t, newA_n, cpQ_k, cpQ_a, e41, e61]
    refine gX12_267 24 hO dX12_putOver_21 rfl (by first | assumption | omega | (simp (disch := first | decide | assumption | omega) only [up_k, up_s, up_a, up_i, flA_k, flA_a, flA_n, cpA_k, cpA_a, newO_o, newA_o, newO_t, newA_t, newA_n, cpQ_k, cpQ_a, e41, e61] <;> first | assumption | omega)) ?_
    try simp (disch := first | decide | assumption | omega) only [up_k, up_s, up_a, up_i, flA_k, flA_a, flA_n, cpA_k, cpA_a, newO_o, newA_o, newO_t, newA_t, newA_n, cpQ_k, cpQ_a, e41, e61]
    refine X_aload_n 25 hO dX12_putOver_24 rfl rfl ?_
    refine gX12_10 28 hO dX12_putOver_25 rfl (by first | assumption | omega | (simp (disch := first | decide | assumption | omega) only [up_k, up_s, up_a, up_i, flA_k, flA_a, flA_n, cpA_k, cpA_a, newO_o, newA_o, newO_t, newA_t, newA_n, cpQ_k, cpQ_a, e41, e61] <;> first | assumption | omega)) ?_
    try simp (disch := first | decide | assumption | omega) only [up_k, up_s, up_a, up_i, flA_k, flA_a, flA_n, cpA_k, cpA_a, newO_o, newA_o, newO_t, newA_t, newA_n, cpQ_k, cpQ_a, e41, e61]
    refine gX12_271 31 hO dX12_putOver_28 rfl (by first | assumption | omega | (simp (disch := first | decide | assumption | omega) only [up_k, up_s, up_a, up_i, flA_k, flA_a, flA_n, cpA_k, cpA_a, newO_o, newA_o, newO_t, newA_t, newA_n, cpQ_k, cpQ_a, e41, e61] <;> first | assumption | omega)) (fun hi_28 => ?_)
    try simp (disch := first | decide | assumption | omega) only [up_k, up_s, up_a, up_i, flA_k, flA_a, flA_n, cpA_k, cpA_a, newO_o, newA_o, newO_t, newA_t, newA_n, cpQ_k, cpQ_a, e41, e61] at hi_28 ⊢
    refine X_iald 32 hO dX12_putOver_31 rfl (by first | assumption | omega | (simp (disch := first | decide | assumption | omega) only [up_k, up_s, up_a, up_i, flA_k, flA_a, flA_n, cpA_k, cpA_a, newO_o, newA_o, newO_t, newA_t, newA_n, cpQ_k, cpQ_a, e41, e61] <;> first | assumption | omega)) (by first | assumption | omega | (simp (disch := first | decide | assumption | omega) only [up_k, up_s, up_a, up_i, flA_k, flA_a, flA_n, cpA_k, cpA_a, newO_o, newA_o, newO_t, newA_t, newA_n, cpQ_k, cpQ_a] <;> first | assumption | omega)) (fun hi_31 => ?_)
    try simp (disch := first | decide | assumption | omega) only [up_k, up_s, up_a, up_i, flA_k, flA_a, flA_n, cpA_k, cpA_a, newO_o, newA_o, newO_t, newA_t, newA_n, cpQ_k, cpQ_a, e41, e61] at hi_31 ⊢
    refine pX12_122 35 hO dX12_putOver_32 rfl (by first | assumption | omega | (simp (disch := first | decide | assumption | omega) only [up_k, up_s, up_a, up_i, flA_k, flA_a, flA_n, cpA_k, cpA_a, newO_o, newA_o, newO_t, newA_t, newA_n, cpQ_k, cpQ_a, e41, e61] <;> first | assumption | omega)) (by omega) ?_
    have hA1 := h.ans (r := w 1 (w 28 (w 11 (w 41 f 0) 0) 0) (w 61 (w 41 f 0) 0)) (v := 0) hl
    have hDG2 : DG (up w 91 f 0 (w 1 (w 28 (w 11 (w 41 f 0) 0) 0) (w 61 (w 41 f 0) 0))) (w 41 f 0) := by
      have := hA1.toDG (fun i a b => by simp (disch := decide) only [up_k]; exact hSB.2.2.1 i a b) (by omega) (by simp (disch := decide) only [up_k]; omega)
      rwa [show up w 91 f 0 (w 1 (w 28 (w 11 (w 41 f 0) 0) 0) (w 61 (w 41 f 0) 0)) 41 f 0 = w 41 f 0 from up_k _ (by decide) _ _ _ _ _] at this
    refine X_aload_n 36 hO dX12_putOver_35 rfl rfl ?_
    refine gX12_10 39 hO dX12_putOver_36 rfl (by first | assumption | omega | (simp (disch := first | decide | assumption | omega) only [up_k, up_s, up_a, up_i, flA_k, flA_a, flA_n, cpA_k, cpA_a, newO_o, newA_o, newO_t, newA_t, newA_n, cpQ_k, cpQ_a, e41, e61] <;> first | assumption | omega)) ?_
    try simp (disch := first | decide | assumption | omega) only [up_k, up_s, up_a, up_i, flA_k, flA_a, flA_n, cpA_k, cpA_a, newO_o, newA_o, newO_t, newA_t, newA_n, cpQ_k, cpQ_a, e41, e61]
    refine X_aload_n 40 hO dX12_putOver_39 rfl rfl ?_
    refine gX12_10 43 hO dX12_putOver_40 rfl (by first | assumption | omega | (simp (disch := first | decide | assumption | omega) only [up_k, up_s, up_a, up_i, flA_k, flA_a, flA_n, cpA_k, cpA_a, newO_o, newA_o, newO_t, newA_t, newA_n, cpQ_k, cpQ_a, e41, e61] <;> first | assumption | omega)) ?_
    try simp (disch := first | decide | assumption | omega) only [up_k, up_s, up_a, up_i, flA_k, flA_a, flA_n, cpA_k, cpA_a, newO_o, newA_o, newO_t, newA_t, newA_n, cpQ_k, cpQ_a, e41, e61]
    refine gX12_271 46 hO dX12_putOver_43 rfl (by first | assumption | omega | (simp (disch := first | decide | assumption | omega) only [up_k, up_s, up_a, up_i, flA_k, flA_a, flA_n, cpA_k, cpA_a, newO_o, newA_o, newO_t, newA_t, newA_n, cpQ_k, cpQ_a, e41, e61] <;> first | assumption | omega)) (fun hi_43 => ?_)
    try simp (disch := first | decide | assumption | omega) only [up_k, up_s, up_a, up_i, flA_k, flA_a, flA_n, cpA_k, cpA_a, newO_o, newA_o, newO_t, newA_t, newA_n, cpQ_k, cpQ_a, e41, e61] at hi_43 ⊢
    refine X_iload_n 47 hO dX12_putOver_46 rfl rfl ?_
    refine X_kVv (t := 2) 50 hO hD lX12_475 rfl (by decide) [_, _] rfl dX12_putOver_47 rfl (by first | assumption | omega | (simp (disch := first | decide | assumption | omega) only [up_k, up_s, up_a, up_i, flA_k, flA_a, flA_n, cpA_k, cpA_a, newO_o, newA_o, newO_t, newA_t, newA_n, cpQ_k, cpQ_a, e41, e61] <;> first | assumption | omega)) (kX1_putInstead _ _ _ _ _ 400 hDG2 (by omega) (by omega) (by simp (disch := decide) only [up_k]; omega)) (by decide) (by simp [rv_cat, int_cat]) (by first | decide | exact Nat.zero_le _ | omega) (by first | decide | exact Nat.zero_le _ | omega) (fun w_47 hp_47 => ?_) (fun E w_ hx_ => hx_.elim)
    simp (disch := decide) only [up_k] at hp_47
    obtain ⟨hY, W, g, hN, x, hx0, hxf, ex_47⟩ := hp_47.resolve_left (fun h => h.1 (by omega))
    clear e41 e61
    replace ex_47 : w_47 = d_rp (w 41 f 0) (w 61 (w 41 f 0) 0) a g x W := ex_47
    have hfr := NCh_fr hN
    have u41 : W 41 f 0 = w 41 f 0 := by rw [hfr 41 f 0 (by simp (disch := decide) only [up_k]; omega), up_k _ (by decide)]
    have u13 : W 0 f 0 = 13 := by rw [hfr 0 f 0 (by simp (disch := decide) only [up_k]; omega), up_k _ (by decide)]; exact t0
    have u2 : W 0 (w 41 f 0) 0 = 2 := by rw [hfr 0 _ 0 (by simp (disch := decide) only [up_k]; omega), up_k _ (by decide)]; exact y0
    have u61 : W 61 (w 41 f 0) 0 = w 61 (w 41 f 0) 0 := by rw [hfr 61 _ 0 (by simp (disch := decide) only [up_k]; omega), up_k _ (by decide)]
    have n1 : f ≠ x := fun e => by rw [e] at u13; omega
    have n2 : w 41 f 0 ≠ x := fun e => by rw [e] at u2; omega
    have e41 : w_47 41 f 0 = w 41 f 0 := by rw [ex_47, rp_c n1 (by decide), u41]
    have e61 : w_47 61 (w 41 f 0) 0 = w 61 (w 41 f 0) 0 := by rw [ex_47, rp_c n2 (by decide), u61]
    have c13 : w_47 0 f 0 = 13 := by rw [ex_47, rp_c n1 (by decide), u13]
    have c2 : w_47 0 (w 41 f 0) 0 = 2 := by rw [ex_47, rp_c n2 (by decide), u2]
    refine X_aload_n 51 hO dX12_putOver_50 rfl rfl ?_
    refine gX12_10 54 hO dX12_putOver_51 rfl (by first | assumption | omega | (simp (disch := first | decide | assumption | omega) only [up_k, up_s, up_a, up_i, flA_k, flA_a, flA_n, cpA_k, cpA_a, newO_o, newA_o, newO_t, newA_t, newA_n, cpQ_k, cpQ_a, e41, e61] <;> first | assumption | omega)) ?_
    try simp (disch := first | decide | assumption | omega) only [up_k, up_s, up_a, up_i, flA_k, flA_a, flA_n, cpA_k, cpA_a, newO_o, newA_o, newO_t, newA_t, newA_n, cpQ_k, cpQ_a, e41, e61]
    refine X_dup 55 hO dX12_putOver_54 rfl (by first | rfl | exact rv_cat _) ?_
    refine gX12_271 58 hO dX12_putOver_55 rfl (by first | assumption | omega | (simp (disch := first | decide | assumption | omega) only [up_k, up_s, up_a, up_i, flA_k, flA_a, flA_n, cpA_k, cpA_a, newO_o, newA_o, newO_t, newA_t, newA_n, cpQ_k, cpQ_a, e41, e61] <;> first | assumption | omega)) (fun hi_55 => ?_)
    try simp (disch := first | decide | assumption | omega) only [up_k, up_s, up_a, up_i, flA_k, flA_a, flA_n, cpA_k, cpA_a, newO_o, newA_o, newO_t, newA_t, newA_n, cpQ_k, cpQ_a, e41, e61] at hi_55 ⊢
    refine X_iconst 59 hO dX12_putOver_58 rfl ?_
    refine X_iadd 60 hO dX12_putOver_59 rfl ?_
    refine pX12_271 63 hO dX12_putOver_60 rfl (by first | assumption | omega | (simp (disch := first | decide | assumption | omega) only [up_k, up_s, up_a, up_i, flA_k, flA_a, flA_n, cpA_k, cpA_a, newO_o, newA_o, newO_t, newA_t, newA_n, cpQ_k, cpQ_a, e41, e61] <;> first | assumption | omega)) (by omega) ?_
    refine X_iconst 64 hO dX12_putOver_63 rfl ?_
    exact X_iret hO hF rfl (by first | exact Or.inl rfl | exact Or.inr ⟨rfl, bi_01 _⟩ | exact Or.inr ⟨rfl, by omega⟩) dX12_putOver_64 ⟨_, rfl, (by omega), Or.inr ⟨hc_8, rfl, W, g, x, hN, ⟨hx0, hxf⟩, by rw [ex_47]⟩⟩
  ·
    try simp only [bi_0, bi_ne, ne_eq, Classical.not_not] at hc_8
    refine X_iconst 12 hO dX12_putOver_11 rfl ?_
    exact X_iret hO hF rfl (by first | exact Or.inl rfl | exact Or.inr ⟨rfl, bi_01 _⟩ | exact Or.inr ⟨rfl, by omega⟩) dX12_putOver_12 ⟨_, rfl, (by omega), Or.inl ⟨hc_8, rfl, rfl⟩⟩
theorem dX12_keepInRegister_0 : decode cX12_keepInRegister 0 = .ok (.aload_n 0, 1) := by decide +kernel
theorem dX12_keepInRegister_1 : decode cX12_keepInRegister 1 = .ok (.getfield 10, 3) := by decide +kernel
theorem dX12_keepInRegister_4 : decode cX12_keepInRegister 4 = .ok (.iload_n 2, 1) := by decide +kernel
theorem dX12_keepInRegister_5 : decode cX12_keepInRegister 5 = .ok (.invokevirtual 472, 3) := by decide +kernel
theorem dX12_keepInRegister_8 : decode cX12_keepInRegister 8 = .ok (.ifCond .ne 5, 3) := by decide +kernel
theorem dX12_keepInRegister_11 : decode cX12_keepInRegister 11 = .ok (.iconst 1, 1) := by decide +kernel
theorem dX12_keepInRegister_12 : decode cX12_keepInRegister 12 = .ok (.ireturn, 1) := by decide +kernel
theorem dX12_keepInRegister_13 : decode cX12_keepInRegister 13 = .ok (.aload_n 0, 1) := by decide +kernel
theorem dX12_keepInRegister_14 : decode cX12_keepInRegister 14 = .ok (.getfield 10, 3) := by decide +kernel
theorem dX12_keepInRegister_17 : decode cX12_keepInRegister 17 = .ok (.getfield 223, 3) := by decide +kernel
theorem dX12_keepInRegister_20 : decode cX12_keepInRegister 20 = .ok (.iload_n 1, 1) := by decide +kernel
theorem dX12_keepInRegister_21 : decode cX12_keepInRegister 21 = .ok (.iconst 0, 1) := by decide +kernel
theorem dX12_keepInRegister_22 : decode cX12_keepInRegister 22 = .ok (.invokevirtual 312, 3) := by decide +kernel
theorem dX12_keepInRegister_25 : decode cX12_keepInRegister 25 = .ok (.astore_n 3, 1) := by decide +kernel
theorem dX12_keepInRegister_26 : decode cX12_keepInRegister 26 = .ok (.aload_n 0, 1) := by decide +kernel
theorem dX12_keepInRegister_27 : decode cX12_keepInRegister 27 = .ok (.aload_n 3, 1) := by decide +kernel
theorem dX12_keepInRegister_28 : decode cX12_keepInRegister 28 = .ok (.ifnonnull 7, 3) := by decide +kernel
theorem dX12_keepInRegister_31 : decode cX12_keepInRegister 31 = .ok (.iconst 0, 1) := by decide +kernel
theorem dX12_keepInRegister_32 : decode cX12_keepInRegister 32 = .ok (.goto 8, 3) := by decide +kernel
theorem dX12_keepInRegister_35 : decode cX12_keepInRegister 35 = .ok (.aload_n 3, 1) := by decide +kernel
theorem dX12_keepInRegister_36 : decode cX12_keepInRegister 36 = .ok (.getfield 316, 3) := by decide +kernel
theorem dX12_keepInRegister_39 : decode cX12_keepInRegister 39 = .ok (.arraylength, 1) := by decide +kernel
theorem dX12_keepInRegister_40 : decode cX12_keepInRegister 40 = .ok (.putfield 122, 3) := by decide +kernel
theorem dX12_keepInRegister_43 : decode cX12_keepInRegister 43 = .ok (.aload_n 0, 1) := by decide +kernel
theorem dX12_keepInRegister_44 : decode cX12_keepInRegister 44 = .ok (.getfield 10, 3) := by decide +kernel
theorem dX12_keepInRegister_47 : decode cX12_keepInRegister 47 = .ok (.getfield 223, 3) := by decide +kernel
theorem dX12_keepInRegister_50 : decode cX12_keepInRegister 50 = .ok (.getfield 490, 3) := by decide +kernel
theorem dX12_keepInRegister_53 : decode cX12_keepInRegister 53 = .ok (.iload_n 1, 1) := by decide +kernel
theorem dX12_keepInRegister_54 : decode cX12_keepInRegister 54 = .ok (.aload_n 0, 1) := by decide +kernel
theorem dX12_keepInRegister_55 : decode cX12_keepInRegister 55 = .ok (.getfield 10, 3) := by decide +kernel
theorem dX12_keepInRegister_58 : decode cX12_keepInRegister 58 = .ok (.getfield 223, 3) := by decide +kernel
theorem dX12_keepInRegister_61 : decode cX12_keepInRegister 61 = .ok (.aload_n 0, 1) := by decide +kernel
theorem dX12_keepInRegister_62 : decode cX12_keepInRegister 62 = .ok (.getfield 10, 3) := by decide +kernel
theorem dX12_keepInRegister_65 : decode cX12_keepInRegister 65 = .ok (.getfield 271, 3) := by decide +kernel
theorem dX12_keepInRegister_68 : decode cX12_keepInRegister 68 = .ok (.iload_n 2, 1) := by decide +kernel
theorem dX12_keepInRegister_69 : decode cX12_keepInRegister 69 = .ok (.invokevirtual 494, 3) := by decide +kernel
theorem dX12_keepInRegister_72 : decode cX12_keepInRegister 72 = .ok (.aastore, 1) := by decide +kernel
theorem dX12_keepInRegister_73 : decode cX12_keepInRegister 73 = .ok (.aload_n 0, 1) := by decide +kernel
theorem dX12_keepInRegister_74 : decode cX12_keepInRegister 74 = .ok (.iload_n 1, 1) := by decide +kernel
theorem dX12_keepInRegister_75 : decode cX12_keepInRegister 75 = .ok (.invokevirtual 485, 3) := by decide +kernel
theorem dX12_keepInRegister_78 : decode cX12_keepInRegister 78 = .ok (.ireturn, 1) := by decide +kernel
set_option maxRecDepth 4000 in
theorem kX12_keepInRegister (γ : LC) (w : Mm) (f q n : Int) (p : RP) (μ : MU) (L : List Int) (A : Mm) (h : RLm p μ f L w A) (hR : RBc μ L A) (hq : 0 ≤ q ∧ q < 4) (hn : 1 ≤ n ∧ n ≤ 20) (hpt : 0 ≤ A 207 0 0) (hhi : m_vT A ≤ A 201 0 0) : KI γ 5 mX12_keepInRegister [rv f, .int (I q), .int (I n)] w (3) (406) (fun r w' => (¬ n ≤ d_high w (w 41 f 0) - w 61 (w 41 f 0) 0 ∧ r = 1 ∧ w' = w) ∨ (n ≤ d_high w (w 41 f 0) - w 61 (w 41 f 0) 0 ∧ r = 0 ∧ ∃ W g, NCh (up w 91 f 0 (if w 3 (w 31 (w 11 (w 41 f 0) 0) 0) q = 0 then 0 else w 2 (w 10 (w 3 (w 31 (w 11 (w 41 f 0) 0) 0) q) 0) 0)) W g (w 28 (w 11 (w 41 f 0) 0) 0) (w 61 (w 41 f 0) 0) n ∧ ∃ V, V = up W 3 (w 31 (w 11 (w 41 f 0) 0) 0) q g ∧ ((w 1 (w 44 f 0) q = 0 ∧ w' = V) ∨ (w 1 (w 44 f 0) q ≠ 0 ∧ ∃ y, 0 < y ∧ V 0 y 0 = 0 ∧ w' = k_step (w 12 (w 41 f 0) 0) y 5 0 0 0 V)))) NX := by
  refine MX_of rfl rfl (by simp [rv_cat, int_cat]) rfl ?_
  rintro κ hO hF rfl
  have hD := hF.dp
  show X κ (3) (406) w 0 [some (rv f), some (.int (I q)), some (.int (I n)), none] []
  refine X_wi fun hWI => ?_
  have h00 := hWI.z0
  obtain ⟨hl, hSB, hVB, hbB, hbT, hLn⟩ := id hR
  have hSB1 : 0 ≤ A 201 0 0 ∧ A 201 0 0 ≤ 400 := hSB.1
  have hDG := h.toDG hSB.2.2.1 (by omega) hSB1.2
  obtain ⟨t0, hFB, -, -⟩ := h.toF
  obtain ⟨lo1, lo2, lo3, lo4, lo5⟩ := h.low
  obtain ⟨⟨tr1, tr2⟩, tr3⟩ := h.toTr
  have hsd := h.1.2.2.1.1.1
  have hbd := h.1.2.2.1.1.2
  obtain ⟨hd, hv, ⟨hs, hz, hb, hp, hE⟩, hQ, hNj⟩ := id hDG
  obtain ⟨y0, y1, ⟨y2, y3⟩, ⟨y4, y5⟩, y6, y7, y8⟩ := id hd
  obtain ⟨s0, ⟨s1, s2, s3, s4⟩, ⟨s5, s6, s7⟩, s8⟩ := id hs
  obtain ⟨z1, z2, z3⟩ := id hz
  have hch := ((h.2.2.1.1.1.2 q (by omega) (by omega)).at0.2 0 (Int.le_refl _) (by unfold m_slt; split <;> omega))
  rw [Int.add_zero] at hch
  have hct : w 3 (w 31 (w 11 (w 41 f 0) 0) 0) q ≠ 0 → w 0 (w 3 (w 31 (w 11 (w 41 f 0) 0) 0) q) 0 = 1 ∧ w 0 (w 10 (w 3 (w 31 (w 11 (w 41 f 0) 0) 0) q) 0) 0 = 20 ∧ 0 ≤ w 2 (w 10 (w 3 (w 31 (w 11 (w 41 f 0) 0) 0) q) 0) 0 ∧ w 2 (w 10 (w 3 (w 31 (w 11 (w 41 f 0) 0) 0) q) 0) 0 ≤ 20 := fun hne => by
    by_cases yy : 0 < A 204 0 q
    · have k := hch.1 yy
      have k5 := hSB.2.2.2.2.1 (4 * q + 0) (by omega) (by omega)
      exact ⟨k.1.1, k.2.1.1, by rw [k.2.2.1]; exact k5⟩
    · exact absurd (hch.2 (by omega)) hne
  refine X_aload_n 1 hO dX12_keepInRegister_0 rfl rfl ?_
  refine gX12_10 4 hO dX12_keepInRegister_1 rfl (by first | assumption | omega | (simp (disch := first | decide | assumption | omega) only [up_k, up_s, up_a, up_i, flA_k, flA_a, flA_n, cpA_k, cpA_a, newO_o, newA_o, newO_t, newA_t, newA_n, cpQ_k, cpQ_a, e41, e44] <;> first | assumption | omega)) ?_
  try simp (disch := first | decide | assumption | omega) only [up_k, up_s, up_a, up_i, flA_k, flA_a, flA_n, cpA_k, cpA_a, newO_o, newA_o, newO_t, newA_t, newA_n, cpQ_k, cpQ_a, e41, e44]
  refine X_iload_n 5 hO dX12_keepInRegister_4 rfl rfl ?_
  refine X_kVi (t := 2) 8 hO hD lX12_472 rfl (by decide) [_] rfl dX12_keepInRegister_5 rfl (by first | assumption | omega | (simp (disch := first | decide | assumption | omega) only [up_k, up_s, up_a, up_i, flA_k, flA_a, flA_n, cpA_k, cpA_a, newO_o, newA_o, newO_t, newA_t, newA_n, cpQ_k, cpQ_a, e41, e44] <;> first | assumption | omega)) (kX1_hasBehindPoint _ _ _ _ hd hv (by omega)) (by decide) (by simp [rv_cat, int_cat]) (by first | decide | exact Nat.zero_le _ | omega) (by first | decide | exact Nat.zero_le _ | omega) (fun r_5 w_5 hr_5 hp_5 => ?_) (fun E w_ hx_ => hx_.elim)
  obtain ⟨e1_5, e2_5⟩ := hp_5
  subst r_5
  subst w_5
  refine X_if_ne 11 13 hO dX12_keepInRegister_8 rfl rfl (by omega) (fun hc_8 => ?_) (fun hc_8 => ?_)
  ·
    try simp only [bi_0, bi_ne, ne_eq, Classical.not_not] at hc_8
    have e41 := trivial
    have e44 := trivial
    refine X_aload_n 14 hO dX12_keepInRegister_13 rfl rfl ?_
    refine gX12_10 17 hO dX12_keepInRegister_14 rfl (by first | assumption | omega | (simp (disch := first | decide | assumption | omega) only [up_k, up_s, up_a, up_i, flA_k, flA_a, flA_n, cpA_k, cpA_a, newO_o, newA_o, newO_t, newA_t, newA_n, cpQ_k, cpQ_a, e41, e44] <;> first | assumption | omega)) ?_
    try simp (disch := first | decide | assumption | omega) only [up_k, up_s, up_a, up_i, flA_k, flA_a, flA_n, cpA_k, cpA_a, newO_o, newA_o, newO_t, newA_t, newA_n, cpQ_k, cpQ_a, e41, e44]
    refine gX12_223 20 hO dX12_keepInRegister_17 rfl (by first | assumption | omega | (simp (disch := first | decide | assumption | omega) only [up_k, up_s, up_a, up_i, flA_k, flA_a, flA_n, cpA_k, cpA_a, newO_o, newA_o, newO_t, newA_t, newA_n, cpQ_k, cpQ_a, e41, e44] <;> first | assumption | omega)) ?_
    try simp (disch := first | decide | assumption | omega) only [up_k, up_s, up_a, up_i, flA_k, flA_a, flA_n, cpA_k, cpA_a, newO_o, newA_o, newO_t, newA_t, newA_n, cpQ_k, cpQ_a, e41, e44]
    refine X_iload_n 21 hO dX12_keepInRegister_20 rfl rfl ?_
    refine X_iconst 22 hO dX12_keepInRegister_21 rfl ?_
    refine X_kVr (t := 6) 25 hO hD lX12_312 rfl (by decide) [_, _] rfl dX12_keepInRegister_22 rfl (by first | assumption | omega | (simp (disch := first | decide | assumption | omega) only [up_k, up_s, up_a, up_i, flA_k, flA_a, flA_n, cpA_k, cpA_a, newO_o, newA_o, newO_t, newA_t, newA_n, cpQ_k, cpQ_a, e41, e44] <;> first | assumption | omega)) (kX5_entry _ _ _ _ _ hs (by omega)) (by decide) (by simp [rv_cat, int_cat]) (by first | decide | exact Nat.zero_le _ | omega) (by first | decide | exact Nat.zero_le _ | omega) (fun r_22 w_22 hp_22 => ?_) (fun E w_ hx_ => hx_.elim)
    obtain ⟨e1_22, e2_22⟩ := hp_22
    subst r_22
    subst w_22
    refine X_astore_n 26 hO dX12_keepInRegister_25 rfl rfl ?_
    refine X_aload_n 27 hO dX12_keepInRegister_26 rfl rfl ?_
    refine X_aload_n 28 hO dX12_keepInRegister_27 rfl rfl ?_
    have JP40 : ∀ (z : Int), (z = if w 3 (w 31 (w 11 (w 41 f 0) 0) 0) q = 0 then 0 else w 2 (w 10 (w 3 (w 31 (w 11 (w 41 f 0) 0) 0) q) 0) 0) → (IR z) → X κ (3) (406) (w) 40 [some (rv f), some (.int (I q)), some (.int (I n)), some (rv (w 3 (w 31 (w 11 (w 41 f 0) 0) 0) (q + 0)))] [.int (I z), rv f] := by
      intro z hz0 hz1
      have hA1 := h.ans (r := z) (v := 0) hl
      have hST1 : ST (up w 91 f 0 z) (w 11 (w 41 f 0) 0) := ST_c (fun k a h => up_k _ (by omega) _ _ _ _ _) hs
      have hSZ1 : SZ (up w 91 f 0 z) (w 11 (w 41 f 0) 0) := by unfold SZ; simp (disch := decide) only [up_k]; exact hz
      refine pX12_122 43 hO dX12_keepInRegister_40 rfl (by first | assumption | omega | (simp (disch := first | decide | assumption | omega) only [up_k, up_s, up_a, up_i, flA_k, flA_a, flA_n, cpA_k, cpA_a, newO_o, newA_o, newO_t, newA_t, newA_n, cpQ_k, cpQ_a, e41, e44] <;> first | assumption | omega)) (by omega) ?_
      refine X_aload_n 44 hO dX12_keepInRegister_43 rfl rfl ?_
      refine gX12_10 47 hO dX12_keepInRegister_44 rfl (by first | assumption | omega | (simp (disch := first | decide | assumption | omega) only [up_k, up_s, up_a, up_i, flA_k, flA_a, flA_n, cpA_k, cpA_a, newO_o, newA_o, newO_t, newA_t, newA_n, cpQ_k, cpQ_a, e41, e44] <;> first | assumption | omega)) ?_
      try simp (disch := first | decide | assumption | omega) only [up_k, up_s, up_a, up_i, flA_k, flA_a, flA_n, cpA_k, cpA_a, newO_o, newA_o, newO_t, newA_t, newA_n, cpQ_k, cpQ_a, e41, e44]
      refine gX12_223 50 hO dX12_keepInRegister_47 rfl (by first | assumption | omega | (simp (disch := first | decide | assumption | omega) only [up_k, up_s, up_a, up_i, flA_k, flA_a, flA_n, cpA_k, cpA_a, newO_o, newA_o, newO_t, newA_t, newA_n, cpQ_k, cpQ_a, e41, e44] <;> first | assumption | omega)) ?_
      try simp (disch := first | decide | assumption | omega) only [up_k, up_s, up_a, up_i, flA_k, flA_a, flA_n, cpA_k, cpA_a, newO_o, newA_o, newO_t, newA_t, newA_n, cpQ_k, cpQ_a, e41, e44]
      refine gX12_490 53 hO dX12_keepInRegister_50 rfl (by first | assumption | omega | (simp (disch := first | decide | assumption | omega) only [up_k, up_s, up_a, up_i, flA_k, flA_a, flA_n, cpA_k, cpA_a, newO_o, newA_o, newO_t, newA_t, newA_n, cpQ_k, cpQ_a, e41, e44] <;> first | assumption | omega)) ?_
      try simp (disch := first | decide | assumption | omega) only [up_k, up_s, up_a, up_i, flA_k, flA_a, flA_n, cpA_k, cpA_a, newO_o, newA_o, newO_t, newA_t, newA_n, cpQ_k, cpQ_a, e41, e44]
      refine X_iload_n 54 hO dX12_keepInRegister_53 rfl rfl ?_
      refine X_aload_n 55 hO dX12_keepInRegister_54 rfl rfl ?_
      refine gX12_10 58 hO dX12_keepInRegister_55 rfl (by first | assumption | omega | (simp (disch := first | decide | assumption | omega) only [up_k, up_s, up_a, up_i, flA_k, flA_a, flA_n, cpA_k, cpA_a, newO_o, newA_o, newO_t, newA_t, newA_n, cpQ_k, cpQ_a, e41, e44] <;> first | assumption | omega)) ?_
      try simp (disch := first | decide | assumption | omega) only [up_k, up_s, up_a, up_i, flA_k, flA_a, flA_n, cpA_k, cpA_a, newO_o, newA_o, newO_t, newA_t, newA_n, cpQ_k, cpQ_a, e41, e44]
      refine gX12_223 61 hO dX12_keepInRegister_58 rfl (by first | assumption | omega | (simp (disch := first | decide | assumption | omega) only [up_k, up_s, up_a, up_i, flA_k, flA_a, flA_n, cpA_k, cpA_a, newO_o, newA_o, newO_t, newA_t, newA_n, cpQ_k, cpQ_a, e41, e44] <;> first | assumption | omega)) ?_
      try simp (disch := first | decide | assumption | omega) only [up_k, up_s, up_a, up_i, flA_k, flA_a, flA_n, cpA_k, cpA_a, newO_o, newA_o, newO_t, newA_t, newA_n, cpQ_k, cpQ_a, e41, e44]
      refine X_aload_n 62 hO dX12_keepInRegister_61 rfl rfl ?_
      refine gX12_10 65 hO dX12_keepInRegister_62 rfl (by first | assumption | omega | (simp (disch := first | decide | assumption | omega) only [up_k, up_s, up_a, up_i, flA_k, flA_a, flA_n, cpA_k, cpA_a, newO_o, newA_o, newO_t, newA_t, newA_n, cpQ_k, cpQ_a, e41, e44] <;> first | assumption | omega)) ?_
      try simp (disch := first | decide | assumption | omega) only [up_k, up_s, up_a, up_i, flA_k, flA_a, flA_n, cpA_k, cpA_a, newO_o, newA_o, newO_t, newA_t, newA_n, cpQ_k, cpQ_a, e41, e44]
      refine gX12_271 68 hO dX12_keepInRegister_65 rfl (by first | assumption | omega | (simp (disch := first | decide | assumption | omega) only [up_k, up_s, up_a, up_i, flA_k, flA_a, flA_n, cpA_k, cpA_a, newO_o, newA_o, newO_t, newA_t, newA_n, cpQ_k, cpQ_a, e41, e44] <;> first | assumption | omega)) (fun hi_65 => ?_)
      try simp (disch := first | decide | assumption | omega) only [up_k, up_s, up_a, up_i, flA_k, flA_a, flA_n, cpA_k, cpA_a, newO_o, newA_o, newO_t, newA_t, newA_n, cpQ_k, cpQ_a, e41, e44] at hi_65 ⊢
      refine X_iload_n 69 hO dX12_keepInRegister_68 rfl rfl ?_
      refine X_kVr (t := 6) 72 hO hD lX12_494 rfl (by decide) [_, _] rfl dX12_keepInRegister_69 rfl (by first | assumption | omega | (simp (disch := first | decide | assumption | omega) only [up_k, up_s, up_a, up_i, flA_k, flA_a, flA_n, cpA_k, cpA_a, newO_o, newA_o, newO_t, newA_t, newA_n, cpQ_k, cpQ_a, e41, e44] <;> first | assumption | omega)) (kX5_charsFrom _ _ _ _ _ 400 hST1 hSZ1 (by omega) (by omega) (by simp (disch := decide) only [up_k]; omega) (by simp (disch := decide) only [up_k]; omega)) (by decide) (by simp [rv_cat, int_cat]) (by first | decide | exact Nat.zero_le _ | omega) (by first | decide | exact Nat.zero_le _ | omega) (fun r_69 w_69 hp_69 => ?_) (fun E w_ hx_ => hx_.elim)
      simp (disch := decide) only [up_k] at hp_69
      obtain ⟨hY, hN⟩ := hp_69.resolve_left (fun h => h.1 (by omega))
      clear e41 e44
      have hW := hA1.fr0 (by simp (disch := decide) only [up_k]; exact hl) (NCh_u hN)
      have hfr := NCh_fr hN
      have e41 : w_69 41 f 0 = w 41 f 0 := by rw [hfr 41 f 0 (by simp (disch := decide) only [up_k]; omega), up_k _ (by decide)]
      have e44 : w_69 44 f 0 = w 44 f 0 := by rw [hfr 44 f 0 (by simp (disch := decide) only [up_k]; omega), up_k _ (by decide)]
      have e12 : w_69 12 (w 41 f 0) 0 = w 12 (w 41 f 0) 0 := by rw [hfr 12 _ 0 (by simp (disch := decide) only [up_k]; omega), up_k _ (by decide)]
      have c31 : w_69 0 (w 31 (w 11 (w 41 f 0) 0) 0) 0 = 23 := by rw [hfr 0 _ 0 (by simp (disch := decide) only [up_k]; omega), up_k _ (by decide)]; exact s4
      have l31 : w_69 2 (w 31 (w 11 (w 41 f 0) 0) 0) 0 = 8 := by rw [hfr 2 _ 0 (by simp (disch := decide) only [up_k]; omega), up_k _ (by decide)]; exact s7
      have hg1 : w_69 0 r_69 0 = 1 := (NCh_r hN).2.1
      have hs1 := hW.1.2.2.1.1.1
      have hb1 := hW.1.2.2.1.1.2
      have hQ1 := hW.toQT (by omega)
      have hTr1 := hW.toTr
      have c13 := hW.toF.1
      have hTl1 := hs1.toDTl hb1
      rw [e41] at hQ1 hTl1
      rw [e12] at hQ1
      rw [e44] at hTr1
      have ht1 : w_69 1 (w 44 f 0) q = w 1 (w 44 f 0) q := by rw [hfr 1 _ q (by simp (disch := decide) only [up_k]; omega), up_k _ (by decide)]
      refine X_aast (t := 23) (tv := 1) (C := "Foldback$Chars") 73 hO rfl (by decide) (by decide) rfl (Or.inr rfl) dX12_keepInRegister_72 rfl (by first | assumption | omega | (simp (disch := first | decide | assumption | omega) only [up_k, up_s, up_a, up_i, flA_k, flA_a, flA_n, cpA_k, cpA_a, newO_o, newA_o, newO_t, newA_t, newA_n, cpQ_k, cpQ_a, e41, e44] <;> first | assumption | omega)) (by first | assumption | omega | (simp (disch := first | decide | assumption | omega) only [up_k, up_s, up_a, up_i, flA_k, flA_a, flA_n, cpA_k, cpA_a, newO_o, newA_o, newO_t, newA_t, newA_n, cpQ_k, cpQ_a] <;> first | assumption | omega)) (Or.inr hg1) ?_
      refine X_aload_n 74 hO dX12_keepInRegister_73 rfl rfl ?_
      refine X_iload_n 75 hO dX12_keepInRegister_74 rfl rfl ?_
      refine X_kVi (t := 13) 78 hO hD lX12_485 rfl (by decide) [_] rfl dX12_keepInRegister_75 rfl (by first | assumption | omega | (simp (disch := first | decide | assumption | omega) only [up_k, up_s, up_a, up_i, flA_k, flA_a, flA_n, cpA_k, cpA_a, newO_o, newA_o, newO_t, newA_t, newA_n, cpQ_k, cpQ_a, e41, e44] <;> first | assumption | omega)) (kX12_storeWasSet _ _ _ _ (by simp (disch := decide) only [up_k]; exact c13) (by simp (disch := decide) only [up_k, e41]; exact DTl_c (fun k a h => by simp (disch := omega) only [up_k]) hTl1) (by simp (disch := decide) only [up_k, e41, e12]; exact QT_c (fun k a h => by simp (disch := omega) only [up_k]) hQ1) (by simp (disch := decide) only [up_k, e44]; exact hTr1.1) (by omega)) (by decide) (by simp [rv_cat, int_cat]) (by first | decide | exact Nat.zero_le _ | omega) (by first | decide | exact Nat.zero_le _ | omega) (fun r_75 w_75 hr_75 hp_75 => ?_) (fun E w_ hx_ => hx_.elim)
      simp (disch := decide) only [up_k, e41, e44, e12, ht1] at hp_75
      exact X_iret hO hF rfl (by first | exact Or.inl rfl | exact Or.inr ⟨rfl, bi_01 _⟩ | exact Or.inr ⟨rfl, by omega⟩) dX12_keepInRegister_78 ⟨_, rfl, (by omega), (by obtain ⟨m1, m2⟩ := hp_75; subst hz0; exact Or.inr ⟨hc_8, m1, w_69, r_69, hN, _, rfl, m2⟩)⟩
    refine X_ifnonnull 31 35 hO dX12_keepInRegister_28 rfl rfl (fun hc_28 => ?_) (fun hc_28 => ?_)
    ·
      obtain ⟨q1, q2, q3, q4⟩ := hct (by simpa only [Int.add_zero] using hc_28)
      rw [← Int.add_zero q] at q1 q2 q3 q4
      refine X_aload_n 36 hO dX12_keepInRegister_35 rfl rfl ?_
      refine gX12_316 39 hO dX12_keepInRegister_36 rfl (by first | assumption | omega | (simp (disch := first | decide | assumption | omega) only [up_k, up_s, up_a, up_i, flA_k, flA_a, flA_n, cpA_k, cpA_a, newO_o, newA_o, newO_t, newA_t, newA_n, cpQ_k, cpQ_a, e41, e44] <;> first | assumption | omega)) ?_
      try simp (disch := first | decide | assumption | omega) only [up_k, up_s, up_a, up_i, flA_k, flA_a, flA_n, cpA_k, cpA_a, newO_o, newA_o, newO_t, newA_t, newA_n, cpQ_k, cpQ_a, e41, e44]
      refine X_alen (t := 20) 40 hO (by first | assumption | omega | (simp (disch := first | decide | assumption | omega) only [up_k, up_s, up_a, up_i, flA_k, flA_a, flA_n, cpA_k, cpA_a, newO_o, newA_o, newO_t, newA_t, newA_n, cpQ_k, cpQ_a, e41, e44] <;> first | assumption | omega)) (by decide) dX12_keepInRegister_39 rfl (by first | assumption | omega | (simp (disch := first | decide | assumption | omega) only [up_k, up_s, up_a, up_i, flA_k, flA_a, flA_n, cpA_k, cpA_a, newO_o, newA_o, newO_t, newA_t, newA_n, cpQ_k, cpQ_a] <;> first | assumption | omega)) (fun hi_39 => ?_)
      try simp (disch := first | decide | assumption | omega) only [up_k, up_s, up_a, up_i, flA_k, flA_a, flA_n, cpA_k, cpA_a, newO_o, newA_o, newO_t, newA_t, newA_n, cpQ_k, cpQ_a, e41, e44] at hi_39 ⊢
      exact JP40 _ (by simp only [Int.add_zero] at hc_28 ⊢; first | rw [if_pos hc_28] | rw [if_neg hc_28]) (by omega)
    ·
      refine X_iconst 32 hO dX12_keepInRegister_31 rfl ?_
      refine X_goto hO dX12_keepInRegister_32 (tgt := 40) rfl ?_
      exact JP40 _ (by simp only [Int.add_zero] at hc_28 ⊢; first | rw [if_pos hc_28] | rw [if_neg hc_28]) (by omega)
  ·
    try simp only [bi_0, bi_ne, ne_eq, Classical.not_not] at hc_8
    refine X_iconst 12 hO dX12_keepInRegister_11 rfl ?_
    exact X_iret hO hF rfl (by first | exact Or.inl rfl | exact Or.inr ⟨rfl, bi_01 _⟩ | exact Or.inr ⟨rfl, by omega⟩) dX12_keepInRegister_12 ⟨_, rfl, (by omega), Or.inl ⟨hc_8, rfl, rfl⟩⟩
