/-! listeners must be calm -/
theorem dX12_requireCalmListeners_0 : decode cX12_requireCalmListeners 0 = .ok (.aload_n 0, 1) := by decide +kernel
theorem dX12_requireCalmListeners_1 : decode cX12_requireCalmListeners 1 = .ok (.getfield 36, 3) := by decide +kernel
theorem dX12_requireCalmListeners_4 : decode cX12_requireCalmListeners 4 = .ok (.aload_n 0, 1) := by decide +kernel
theorem dX12_requireCalmListeners_5 : decode cX12_requireCalmListeners 5 = .ok (.getfield 10, 3) := by decide +kernel
theorem dX12_requireCalmListeners_8 : decode cX12_requireCalmListeners 8 = .ok (.invokevirtual 346, 3) := by decide +kernel
theorem dX12_requireCalmListeners_11 : decode cX12_requireCalmListeners 11 = .ok (.ifCond .ne 25, 3) := by decide +kernel
theorem dX12_requireCalmListeners_14 : decode cX12_requireCalmListeners 14 = .ok (.aload_n 0, 1) := by decide +kernel
theorem dX12_requireCalmListeners_15 : decode cX12_requireCalmListeners 15 = .ok (.getfield 10, 3) := by decide +kernel
theorem dX12_requireCalmListeners_18 : decode cX12_requireCalmListeners 18 = .ok (.aload_n 0, 1) := by decide +kernel
theorem dX12_requireCalmListeners_19 : decode cX12_requireCalmListeners 19 = .ok (.getfield 16, 3) := by decide +kernel
theorem dX12_requireCalmListeners_22 : decode cX12_requireCalmListeners 22 = .ok (.invokevirtual 136, 3) := by decide +kernel
theorem dX12_requireCalmListeners_25 : decode cX12_requireCalmListeners 25 = .ok (.new 163, 3) := by decide +kernel
theorem dX12_requireCalmListeners_28 : decode cX12_requireCalmListeners 28 = .ok (.dup, 1) := by decide +kernel
theorem dX12_requireCalmListeners_29 : decode cX12_requireCalmListeners 29 = .ok (.ldc_w 349, 3) := by decide +kernel
theorem dX12_requireCalmListeners_32 : decode cX12_requireCalmListeners 32 = .ok (.invokespecial 167, 3) := by decide +kernel
theorem dX12_requireCalmListeners_35 : decode cX12_requireCalmListeners 35 = .ok (.athrow, 1) := by decide +kernel
theorem dX12_requireCalmListeners_36 : decode cX12_requireCalmListeners 36 = .ok (.return_, 1) := by decide +kernel
set_option maxRecDepth 4000 in
theorem kX12_requireCalmListeners (γ : LC) (w : Mm) (f : Int) (p : RP) (μ : MU) (L : List Int) (A : Mm) (ρ : Mm) (L1 : List Int) (g : Int → Int → Int) (h : RLm p μ f L w A) (hl : 0 ≤ A 122 μ.1 0 ∧ A 122 μ.1 0 ≤ A 120 μ.1 0) (hS : A 120 μ.1 0 ≤ 29000) (hLn : (L.length : Int) ≤ 30000) (hb28 : ∀ j, 0 ≤ j → j < 3 → A 228 0 j = 0 ∨ A 228 0 j = 1) (hb30 : bOt A) (hLV : LIV μ (pg_ p) ρ A) (hB : LB μ 30000 520000 A) (hk : KPb p μ f L L1 w A) (hL1 : (L1.length : Int) ≤ 100000) : KV γ 6 mX12_requireCalmListeners [rv f] w (26) (462) (fun w' => STok p μ f L w A ρ (m_nice μ 8 1 A) w') (fun E w' => E = "java/lang/IllegalStateException" ∧ (m_nice μ 8 1 A).1 = 0 ∧ BCK p μ f L1 w A (ux g (m_nice μ 8 1 A).2) w') := by
  refine MX_of rfl rfl (by simp [rv_cat, int_cat]) rfl ?_
  rintro κ hO hF rfl
  have hD := hF.dp
  show X κ (26) (462) w 0 [some (rv f)] []
  obtain ⟨t0, hFB, t2, -⟩ := h.toF
  have t46 := h.2.1.1.1.1
  refine X_aload_n 1 hO dX12_requireCalmListeners_0 rfl rfl ?_
  refine gX12_36 4 hO dX12_requireCalmListeners_1 rfl (by first | assumption | omega | (simp (disch := first | decide | assumption | omega) only [up_k, up_s, up_a, up_i, flA_k, flA_a, flA_n, cpA_k, cpA_a, newO_o, newA_o, newO_t, newA_t, newA_n, cpQ_k, cpQ_a] <;> first | assumption | omega)) ?_
  try simp (disch := first | decide | assumption | omega) only [up_k, up_s, up_a, up_i, flA_k, flA_a, flA_n, cpA_k, cpA_a, newO_o, newA_o, newO_t, newA_t, newA_n, cpQ_k, cpQ_a]
  refine X_aload_n 5 hO dX12_requireCalmListeners_4 rfl rfl ?_
  refine gX12_10 8 hO dX12_requireCalmListeners_5 rfl (by first | assumption | omega | (simp (disch := first | decide | assumption | omega) only [up_k, up_s, up_a, up_i, flA_k, flA_a, flA_n, cpA_k, cpA_a, newO_o, newA_o, newO_t, newA_t, newA_n, cpQ_k, cpQ_a] <;> first | assumption | omega)) ?_
  try simp (disch := first | decide | assumption | omega) only [up_k, up_s, up_a, up_i, flA_k, flA_a, flA_n, cpA_k, cpA_a, newO_o, newA_o, newO_t, newA_t, newA_n, cpQ_k, cpQ_a]
  refine X_kVi (t := 3) 11 hO hD lX12_346 rfl (by decide) [_] rfl dX12_requireCalmListeners_8 rfl (by first | assumption | omega | (simp (disch := first | decide | assumption | omega) only [up_k, up_s, up_a, up_i, flA_k, flA_a, flA_n, cpA_k, cpA_a, newO_o, newA_o, newO_t, newA_t, newA_n, cpQ_k, cpQ_a] <;> first | assumption | omega)) (kX2_settle _ _ _ p μ L A ρ h hl hS hLn hb28 hb30 hLV hB) (by decide) (by simp [rv_cat, int_cat]) (by first | decide | exact Nat.zero_le _ | omega) (by first | decide | exact Nat.zero_le _ | omega) (fun r_8 w_8 hr_8 hp_8 => ?_) (fun E w_ hx_ => hx_.elim)
  refine X_if_ne 14 36 hO dX12_requireCalmListeners_11 rfl rfl (by omega) (fun hc_11 => ?_) (fun hc_11 => ?_)
  ·
    try simp only [bi_0, bi_ne, ne_eq, Classical.not_not] at hc_11
    have hok := (hp_8.resolve_right (fun z => by have := z.1; omega)).2
    exact X_vret hO hF rfl dX12_requireCalmListeners_36 ⟨rfl, hok⟩
  ·
    try simp only [bi_0, bi_ne, ne_eq, Classical.not_not] at hc_11
    have hno := (hp_8.resolve_left (fun z => by have := z.1; omega)).2
    obtain ⟨hDA, h67, t8, t41⟩ := hno.ask h hl.1 hk hL1
    refine X_aload_n 15 hO dX12_requireCalmListeners_14 rfl rfl ?_
    refine gX12_10 18 hO dX12_requireCalmListeners_15 rfl (by first | assumption | omega | (simp (disch := first | decide | assumption | omega) only [up_k, up_s, up_a, up_i, flA_k, flA_a, flA_n, cpA_k, cpA_a, newO_o, newA_o, newO_t, newA_t, newA_n, cpQ_k, cpQ_a] <;> first | assumption | omega)) ?_
    try simp (disch := first | decide | assumption | omega) only [up_k, up_s, up_a, up_i, flA_k, flA_a, flA_n, cpA_k, cpA_a, newO_o, newA_o, newO_t, newA_t, newA_n, cpQ_k, cpQ_a]
    refine X_aload_n 19 hO dX12_requireCalmListeners_18 rfl rfl ?_
    refine gX12_16 22 hO dX12_requireCalmListeners_19 rfl (by first | assumption | omega | (simp (disch := first | decide | assumption | omega) only [up_k, up_s, up_a, up_i, flA_k, flA_a, flA_n, cpA_k, cpA_a, newO_o, newA_o, newO_t, newA_t, newA_n, cpQ_k, cpQ_a] <;> first | assumption | omega)) ?_
    try simp (disch := first | decide | assumption | omega) only [up_k, up_s, up_a, up_i, flA_k, flA_a, flA_n, cpA_k, cpA_a, newO_o, newA_o, newO_t, newA_t, newA_n, cpQ_k, cpQ_a]
    refine X_kVv (t := 2) 25 hO hD lX12_136 rfl (by decide) [_] rfl dX12_requireCalmListeners_22 rfl (by first | assumption | omega | (simp (disch := first | decide | assumption | omega) only [up_k, up_s, up_a, up_i, flA_k, flA_a, flA_n, cpA_k, cpA_a, newO_o, newA_o, newO_t, newA_t, newA_n, cpQ_k, cpQ_a] <;> first | assumption | omega)) (kX1_takeAll _ _ _ _ 400 hDA (by omega)) (by decide) (by simp [rv_cat, int_cat]) (by first | decide | exact Nat.zero_le _ | omega) (by first | decide | exact Nat.zero_le _ | omega) (fun w_22 hp_22 => ?_) (fun E w_ hx_ => hx_.elim)
    exact X_throwISEW hO hF (by decide) (text := "listeners make a replacement at depth 8") (by decide) dX12_requireCalmListeners_25 dX12_requireCalmListeners_28 dX12_requireCalmListeners_29 dX12_requireCalmListeners_32 dX12_requireCalmListeners_35 (by first | exact ⟨rfl, hno.back h hl hk hp_22⟩) (by first | decide | omega) (by first | decide | omega) (by simp [rv_cat, int_cat])
