/-! a call is prepared; what cannot be done is refused -/
theorem RLm.rcd {p : RP} {μ : MU} {f : Int} {L : List Int} {w A : Mm} (h : RLm p μ f L w A) : w 88 f 0 = w 88 f 0 ∧ w 0 (w 49 f 0) 0 = 4 ∧ w 62 (w 49 f 0) 0 = A 236 0 4 ∧ w 86 f 0 = A 133 μ.1 0 ∧ w 87 f 0 = A 132 μ.1 0 := ⟨rfl, h.1.2.2.2.2.1.2.2.1.1.1, h.1.2.2.2.2.1.2.2.2.1, h.1.2.1.2.2.2.1, h.1.2.1.2.2.2.2.1⟩
theorem dX12_prepare_0 : decode cX12_prepare 0 = .ok (.aload_n 0, 1) := by decide +kernel
theorem dX12_prepare_1 : decode cX12_prepare 1 = .ok (.getfield 65, 3) := by decide +kernel
theorem dX12_prepare_4 : decode cX12_prepare 4 = .ok (.iconst (-1), 1) := by decide +kernel
theorem dX12_prepare_5 : decode cX12_prepare 5 = .ok (.if_icmp .eq 26, 3) := by decide +kernel
theorem dX12_prepare_8 : decode cX12_prepare 8 = .ok (.aload_n 0, 1) := by decide +kernel
theorem dX12_prepare_9 : decode cX12_prepare 9 = .ok (.getfield 54, 3) := by decide +kernel
theorem dX12_prepare_12 : decode cX12_prepare 12 = .ok (.getfield 170, 3) := by decide +kernel
theorem dX12_prepare_15 : decode cX12_prepare 15 = .ok (.bipush 16, 2) := by decide +kernel
theorem dX12_prepare_17 : decode cX12_prepare 17 = .ok (.if_icmp .lt 14, 3) := by decide +kernel
theorem dX12_prepare_20 : decode cX12_prepare 20 = .ok (.new 163, 3) := by decide +kernel
theorem dX12_prepare_23 : decode cX12_prepare 23 = .ok (.dup, 1) := by decide +kernel
theorem dX12_prepare_24 : decode cX12_prepare 24 = .ok (.ldc_w 351, 3) := by decide +kernel
theorem dX12_prepare_27 : decode cX12_prepare 27 = .ok (.invokespecial 167, 3) := by decide +kernel
theorem dX12_prepare_30 : decode cX12_prepare 30 = .ok (.athrow, 1) := by decide +kernel
theorem dX12_prepare_31 : decode cX12_prepare 31 = .ok (.aload_n 0, 1) := by decide +kernel
theorem dX12_prepare_32 : decode cX12_prepare 32 = .ok (.getfield 16, 3) := by decide +kernel
theorem dX12_prepare_35 : decode cX12_prepare 35 = .ok (.aload_n 0, 1) := by decide +kernel
theorem dX12_prepare_36 : decode cX12_prepare 36 = .ok (.getfield 10, 3) := by decide +kernel
theorem dX12_prepare_39 : decode cX12_prepare 39 = .ok (.invokevirtual 136, 3) := by decide +kernel
theorem dX12_prepare_42 : decode cX12_prepare 42 = .ok (.return_, 1) := by decide +kernel
set_option maxRecDepth 4000 in
theorem kX12_prepare (γ : LC) (w : Mm) (f : Int) (p : RP) (μ : MU) (L : List Int) (A : Mm) (h : RLm p μ f L w A) (hl : 0 ≤ A 122 μ.1 0 ∧ A 122 μ.1 0 ≤ A 120 μ.1 0) (hE : bEl 0 A) (hl1 : A 201 0 0 ≤ 400) (hLn : (L.length : Int) ≤ 100000) : KV γ 6 mX12_prepare [rv f] w (1) (400) (fun w' => ¬ (A 133 μ.1 0 ≠ -1 ∧ 16 ≤ A 236 0 4) ∧ RLm p μ f L w' (m_saves μ 2 A) ∧ SVd p w' (m_saves μ 2 A) (w 42 f 0) 2 L ∧ UPd (pc_ p) (SDb 20 (A 122 μ.1 0)) w w') (fun E w' => E = "java/lang/IllegalStateException" ∧ (A 133 μ.1 0 ≠ -1 ∧ 16 ≤ A 236 0 4) ∧ w' = w) := by
  refine MX_of rfl rfl (by simp [rv_cat, int_cat]) rfl ?_
  rintro κ hO hF rfl
  have hD := hF.dp
  show X κ (1) (400) w 0 [some (rv f)] []
  obtain ⟨t0, hFB, t2, -⟩ := h.toF
  obtain ⟨-, t49, c49, r86, -⟩ := h.rcd
  have hq : sqD w f (w 42 f 0) 20 2 := Or.inl ⟨rfl, rfl, rfl⟩
  have hd2 := (h.1.2.2.1.sq hq).1
  have t42 := hd2.1.1
  obtain ⟨hDA, h67⟩ := h.DAs hq hLn
  refine X_aload_n 1 hO dX12_prepare_0 rfl rfl ?_
  refine gX12_65 4 hO dX12_prepare_1 rfl (by first | assumption | omega | (simp (disch := first | decide | assumption | omega) only [up_k, up_s, up_a, up_i, flA_k, flA_a, flA_n, cpA_k, cpA_a, newO_o, newA_o, newO_t, newA_t, newA_n, cpQ_k, cpQ_a] <;> first | assumption | omega)) (fun hi_1 => ?_)
  try simp (disch := first | decide | assumption | omega) only [up_k, up_s, up_a, up_i, flA_k, flA_a, flA_n, cpA_k, cpA_a, newO_o, newA_o, newO_t, newA_t, newA_n, cpQ_k, cpQ_a] at hi_1 ⊢
  refine X_iconst 5 hO dX12_prepare_4 rfl ?_
  refine X_icmp_eq 8 31 hO dX12_prepare_5 rfl rfl (by omega) (by omega) (fun hc_5 => ?_) (fun hc_5 => ?_)
  ·
    refine X_aload_n 32 hO dX12_prepare_31 rfl rfl ?_
    refine gX12_16 35 hO dX12_prepare_32 rfl (by first | assumption | omega | (simp (disch := first | decide | assumption | omega) only [up_k, up_s, up_a, up_i, flA_k, flA_a, flA_n, cpA_k, cpA_a, newO_o, newA_o, newO_t, newA_t, newA_n, cpQ_k, cpQ_a] <;> first | assumption | omega)) ?_
    try simp (disch := first | decide | assumption | omega) only [up_k, up_s, up_a, up_i, flA_k, flA_a, flA_n, cpA_k, cpA_a, newO_o, newA_o, newO_t, newA_t, newA_n, cpQ_k, cpQ_a]
    refine X_aload_n 36 hO dX12_prepare_35 rfl rfl ?_
    refine gX12_10 39 hO dX12_prepare_36 rfl (by first | assumption | omega | (simp (disch := first | decide | assumption | omega) only [up_k, up_s, up_a, up_i, flA_k, flA_a, flA_n, cpA_k, cpA_a, newO_o, newA_o, newO_t, newA_t, newA_n, cpQ_k, cpQ_a] <;> first | assumption | omega)) ?_
    try simp (disch := first | decide | assumption | omega) only [up_k, up_s, up_a, up_i, flA_k, flA_a, flA_n, cpA_k, cpA_a, newO_o, newA_o, newO_t, newA_t, newA_n, cpQ_k, cpQ_a]
    refine X_kVv (t := 2) 42 hO hD lX12_136 rfl (by decide) [_] rfl dX12_prepare_39 rfl (by first | assumption | omega | (simp (disch := first | decide | assumption | omega) only [up_k, up_s, up_a, up_i, flA_k, flA_a, flA_n, cpA_k, cpA_a, newO_o, newA_o, newO_t, newA_t, newA_n, cpQ_k, cpQ_a] <;> first | assumption | omega)) (kX1_takeAll _ _ _ _ 400 hDA (by omega)) (by decide) (by simp [rv_cat, int_cat]) (by first | decide | exact Nat.zero_le _ | omega) (by first | decide | exact Nat.zero_le _ | omega) (fun w_39 hp_39 => ?_) (fun E w_ hx_ => hx_.elim)
    obtain ⟨s1, s2, s3, s4⟩ := h.saveP hl hE hl1 hq hp_39
    have n12 : w_39 12 (w 42 f 0) 0 = w 12 (w 42 f 0) 0 := s4.g (by omega) hd2.1.2 (fun z => by unfold SDb at z; omega)
    exact X_vret hO hF rfl dX12_prepare_42 ⟨rfl, ⟨by omega, s1, ⟨s2, by rw [n12]; exact s3⟩, s4⟩⟩
  ·
    refine X_aload_n 9 hO dX12_prepare_8 rfl rfl ?_
    refine gX12_54 12 hO dX12_prepare_9 rfl (by first | assumption | omega | (simp (disch := first | decide | assumption | omega) only [up_k, up_s, up_a, up_i, flA_k, flA_a, flA_n, cpA_k, cpA_a, newO_o, newA_o, newO_t, newA_t, newA_n, cpQ_k, cpQ_a] <;> first | assumption | omega)) ?_
    try simp (disch := first | decide | assumption | omega) only [up_k, up_s, up_a, up_i, flA_k, flA_a, flA_n, cpA_k, cpA_a, newO_o, newA_o, newO_t, newA_t, newA_n, cpQ_k, cpQ_a]
    refine gX12_170 15 hO dX12_prepare_12 rfl (by first | assumption | omega | (simp (disch := first | decide | assumption | omega) only [up_k, up_s, up_a, up_i, flA_k, flA_a, flA_n, cpA_k, cpA_a, newO_o, newA_o, newO_t, newA_t, newA_n, cpQ_k, cpQ_a] <;> first | assumption | omega)) (fun hi_12 => ?_)
    try simp (disch := first | decide | assumption | omega) only [up_k, up_s, up_a, up_i, flA_k, flA_a, flA_n, cpA_k, cpA_a, newO_o, newA_o, newO_t, newA_t, newA_n, cpQ_k, cpQ_a] at hi_12 ⊢
    refine X_bipush 17 hO dX12_prepare_15 rfl (by decide) ?_
    refine X_icmp_lt 20 31 hO dX12_prepare_17 rfl rfl (by omega) (by omega) (fun hc_17 => ?_) (fun hc_17 => ?_)
    ·
      refine X_aload_n 32 hO dX12_prepare_31 rfl rfl ?_
      refine gX12_16 35 hO dX12_prepare_32 rfl (by first | assumption | omega | (simp (disch := first | decide | assumption | omega) only [up_k, up_s, up_a, up_i, flA_k, flA_a, flA_n, cpA_k, cpA_a, newO_o, newA_o, newO_t, newA_t, newA_n, cpQ_k, cpQ_a] <;> first | assumption | omega)) ?_
      try simp (disch := first | decide | assumption | omega) only [up_k, up_s, up_a, up_i, flA_k, flA_a, flA_n, cpA_k, cpA_a, newO_o, newA_o, newO_t, newA_t, newA_n, cpQ_k, cpQ_a]
      refine X_aload_n 36 hO dX12_prepare_35 rfl rfl ?_
      refine gX12_10 39 hO dX12_prepare_36 rfl (by first | assumption | omega | (simp (disch := first | decide | assumption | omega) only [up_k, up_s, up_a, up_i, flA_k, flA_a, flA_n, cpA_k, cpA_a, newO_o, newA_o, newO_t, newA_t, newA_n, cpQ_k, cpQ_a] <;> first | assumption | omega)) ?_
      try simp (disch := first | decide | assumption | omega) only [up_k, up_s, up_a, up_i, flA_k, flA_a, flA_n, cpA_k, cpA_a, newO_o, newA_o, newO_t, newA_t, newA_n, cpQ_k, cpQ_a]
      refine X_kVv (t := 2) 42 hO hD lX12_136 rfl (by decide) [_] rfl dX12_prepare_39 rfl (by first | assumption | omega | (simp (disch := first | decide | assumption | omega) only [up_k, up_s, up_a, up_i, flA_k, flA_a, flA_n, cpA_k, cpA_a, newO_o, newA_o, newO_t, newA_t, newA_n, cpQ_k, cpQ_a] <;> first | assumption | omega)) (kX1_takeAll _ _ _ _ 400 hDA (by omega)) (by decide) (by simp [rv_cat, int_cat]) (by first | decide | exact Nat.zero_le _ | omega) (by first | decide | exact Nat.zero_le _ | omega) (fun w_39 hp_39 => ?_) (fun E w_ hx_ => hx_.elim)
      obtain ⟨s1, s2, s3, s4⟩ := h.saveP hl hE hl1 hq hp_39
      have n12 : w_39 12 (w 42 f 0) 0 = w 12 (w 42 f 0) 0 := s4.g (by omega) hd2.1.2 (fun z => by unfold SDb at z; omega)
      exact X_vret hO hF rfl dX12_prepare_42 ⟨rfl, ⟨by omega, s1, ⟨s2, by rw [n12]; exact s3⟩, s4⟩⟩
    ·
      exact X_throwISEW hO hF (by decide) (text := "the recorded list is full") (by decide) dX12_prepare_20 dX12_prepare_23 dX12_prepare_24 dX12_prepare_27 dX12_prepare_30 (by first | exact ⟨rfl, by omega, rfl⟩) (by first | decide | omega) (by first | decide | omega) (by simp [rv_cat, int_cat])
theorem dX12_performOrRefuse_0 : decode cX12_performOrRefuse 0 = .ok (.aload_n 0, 1) := by decide +kernel
theorem dX12_performOrRefuse_1 : decode cX12_performOrRefuse 1 = .ok (.iload_n 1, 1) := by decide +kernel
theorem dX12_performOrRefuse_2 : decode cX12_performOrRefuse 2 = .ok (.iload_n 2, 1) := by decide +kernel
theorem dX12_performOrRefuse_3 : decode cX12_performOrRefuse 3 = .ok (.iload_n 3, 1) := by decide +kernel
theorem dX12_performOrRefuse_4 : decode cX12_performOrRefuse 4 = .ok (.invokevirtual 353, 3) := by decide +kernel
theorem dX12_performOrRefuse_7 : decode cX12_performOrRefuse 7 = .ok (.ifCond .eq 14, 3) := by decide +kernel
theorem dX12_performOrRefuse_10 : decode cX12_performOrRefuse 10 = .ok (.new 163, 3) := by decide +kernel
theorem dX12_performOrRefuse_13 : decode cX12_performOrRefuse 13 = .ok (.dup, 1) := by decide +kernel
theorem dX12_performOrRefuse_14 : decode cX12_performOrRefuse 14 = .ok (.ldc_w 356, 3) := by decide +kernel
theorem dX12_performOrRefuse_17 : decode cX12_performOrRefuse 17 = .ok (.invokespecial 167, 3) := by decide +kernel
theorem dX12_performOrRefuse_20 : decode cX12_performOrRefuse 20 = .ok (.athrow, 1) := by decide +kernel
theorem dX12_performOrRefuse_21 : decode cX12_performOrRefuse 21 = .ok (.return_, 1) := by decide +kernel
set_option maxRecDepth 4000 in
theorem kX12_performOrRefuse (γ : LC) (w : Mm) (f cc a b : Int) (p : RP) (μ : MU) (L : List Int) (A : Mm) (h : RLm p μ f L w A) (hR : RBc μ L A) (hcc : 1 ≤ cc ∧ cc ≤ 17) (ha : IR a) (hb : IR b) (hcv : cc ≤ 15 → CV (cc - 1) a b) : KV γ 8 mX12_performOrRefuse [rv f, .int (I cc), .int (I a), .int (I b)] w (5) (417) (fun w' => (cc ≤ 15 → PFR p μ f L w A (cc - 1) a b 0 w') ∧ (15 < cc → w' = w)) (fun E w' => E = "java/lang/IllegalStateException" ∧ cc ≤ 15 ∧ ∃ r, r ≠ 0 ∧ PFR p μ f L w A (cc - 1) a b r w') := by
  refine MX_of rfl rfl (by simp [rv_cat, int_cat]) rfl ?_
  rintro κ hO hF rfl
  have hD := hF.dp
  show X κ (5) (417) w 0 [some (rv f), some (.int (I cc)), some (.int (I a)), some (.int (I b))] []
  have t0 := h.toF.1
  refine X_aload_n 1 hO dX12_performOrRefuse_0 rfl rfl ?_
  refine X_iload_n 2 hO dX12_performOrRefuse_1 rfl rfl ?_
  refine X_iload_n 3 hO dX12_performOrRefuse_2 rfl rfl ?_
  refine X_iload_n 4 hO dX12_performOrRefuse_3 rfl rfl ?_
  refine X_kVi (t := 13) 7 hO hD lX12_353 rfl (by decide) [_, _, _] rfl dX12_performOrRefuse_4 rfl (by first | assumption | omega | (simp (disch := first | decide | assumption | omega) only [up_k, up_s, up_a, up_i, flA_k, flA_a, flA_n, cpA_k, cpA_a, newO_o, newA_o, newO_t, newA_t, newA_n, cpQ_k, cpQ_a] <;> first | assumption | omega)) (kX12_perform _ _ _ _ _ _ p μ L A h hR hcc ha hb hcv) (by decide) (by simp [rv_cat, int_cat]) (by first | decide | exact Nat.zero_le _ | omega) (by first | decide | exact Nat.zero_le _ | omega) (fun r_4 w_4 hr_4 hp_4 => ?_) (fun E w_ hx_ => hx_.elim)
  obtain ⟨g1, g2⟩ := hp_4
  refine X_if_eq 10 21 hO dX12_performOrRefuse_7 rfl rfl (by omega) (fun hc_7 => ?_) (fun hc_7 => ?_)
  ·
    have hc0 : r_4 = 0 := hc_7
    subst hc0
    exact X_vret hO hF rfl dX12_performOrRefuse_21 ⟨rfl, ⟨g1, fun z => (g2 z).2⟩⟩
  ·
    have hn0 : r_4 ≠ 0 := hc_7
    have hcc2 : cc ≤ 15 := Classical.byContradiction fun hn => hn0 (g2 (by omega)).1
    exact X_throwISEW hO hF (by decide) (text := "the command cannot be done") (by decide) dX12_performOrRefuse_10 dX12_performOrRefuse_13 dX12_performOrRefuse_14 dX12_performOrRefuse_17 dX12_performOrRefuse_20 (by first | exact ⟨rfl, hcc2, _, hn0, g1 hcc2⟩) (by first | decide | omega) (by first | decide | omega) (by simp [rv_cat, int_cat])
