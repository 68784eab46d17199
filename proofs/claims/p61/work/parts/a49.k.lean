/-! a group is opened, time passes, a macro begins to be recorded -/
theorem th_o {μ : MU} {k : Int} {A : Mm} {c : Nat} {a i : Int} (h : c ≠ 139) : m_th μ k A c a i = A c a i := by unfold m_th; exact up_k _ h _ _ _ _ _
theorem dX12_open_0 : decode cX12_open 0 = .ok (.aload_n 0, 1) := by decide +kernel
theorem dX12_open_1 : decode cX12_open 1 = .ok (.getfield 87, 3) := by decide +kernel
theorem dX12_open_4 : decode cX12_open 4 = .ok (.ifCond .eq 13, 3) := by decide +kernel
theorem dX12_open_7 : decode cX12_open 7 = .ok (.new 163, 3) := by decide +kernel
theorem dX12_open_10 : decode cX12_open 10 = .ok (.dup, 1) := by decide +kernel
theorem dX12_open_11 : decode cX12_open 11 = .ok (.ldc 177, 2) := by decide +kernel
theorem dX12_open_13 : decode cX12_open 13 = .ok (.invokespecial 167, 3) := by decide +kernel
theorem dX12_open_16 : decode cX12_open 16 = .ok (.athrow, 1) := by decide +kernel
theorem dX12_open_17 : decode cX12_open 17 = .ok (.aload_n 0, 1) := by decide +kernel
theorem dX12_open_18 : decode cX12_open 18 = .ok (.iconst 1, 1) := by decide +kernel
theorem dX12_open_19 : decode cX12_open 19 = .ok (.putfield 87, 3) := by decide +kernel
theorem dX12_open_22 : decode cX12_open 22 = .ok (.aload_n 0, 1) := by decide +kernel
theorem dX12_open_23 : decode cX12_open 23 = .ok (.iconst 0, 1) := by decide +kernel
theorem dX12_open_24 : decode cX12_open 24 = .ok (.putfield 113, 3) := by decide +kernel
theorem dX12_open_27 : decode cX12_open 27 = .ok (.return_, 1) := by decide +kernel
set_option maxRecDepth 4000 in
theorem kX12_open (γ : LC) (w : Mm) (f : Int) (p : RP) (μ : MU) (L : List Int) (A : Mm) (h : RLm p μ f L w A) : KV γ 6 mX12_open [rv f] w (1) (6) (fun w' => A 132 μ.1 0 = 0 ∧ RLm p μ f L w' (o_open μ A)) (fun E w' => E = "java/lang/IllegalStateException" ∧ A 132 μ.1 0 ≠ 0 ∧ w' = w) := by
  refine MX_of rfl rfl (by simp [rv_cat, int_cat]) rfl ?_
  rintro κ hO hF rfl
  have hD := hF.dp
  show X κ (1) (6) w 0 [some (rv f)] []
  obtain ⟨s1, ⟨s2, s3, s4⟩, s5, s6, s7, s8, s9, s10⟩ := id h.1.2.1
  have t0 := s1.1
  refine X_aload_n 1 hO dX12_open_0 rfl rfl ?_
  refine gX12_87 4 hO dX12_open_1 rfl (by first | assumption | omega | (simp (disch := first | decide | assumption | omega) only [up_k, up_s, up_a, up_i, flA_k, flA_a, flA_n, cpA_k, cpA_a, newO_o, newA_o, newO_t, newA_t, newA_n, cpQ_k, cpQ_a] <;> first | assumption | omega)) (fun hi_1 => ?_)
  try simp (disch := first | decide | assumption | omega) only [up_k, up_s, up_a, up_i, flA_k, flA_a, flA_n, cpA_k, cpA_a, newO_o, newA_o, newO_t, newA_t, newA_n, cpQ_k, cpQ_a] at hi_1 ⊢
  refine X_if_eq 7 17 hO dX12_open_4 rfl rfl (by omega) (fun hc_4 => ?_) (fun hc_4 => ?_)
  ·
    try simp only [bi_0, bi_ne, ne_eq, Classical.not_not] at hc_4
    refine X_aload_n 18 hO dX12_open_17 rfl rfl ?_
    refine X_iconst 19 hO dX12_open_18 rfl ?_
    refine pX12_87 22 hO dX12_open_19 rfl (by first | assumption | omega | (simp (disch := first | decide | assumption | omega) only [up_k, up_s, up_a, up_i, flA_k, flA_a, flA_n, cpA_k, cpA_a, newO_o, newA_o, newO_t, newA_t, newA_n, cpQ_k, cpQ_a] <;> first | assumption | omega)) (by omega) ?_
    refine X_aload_n 23 hO dX12_open_22 rfl rfl ?_
    refine X_iconst 24 hO dX12_open_23 rfl ?_
    refine pX12_113 27 hO dX12_open_24 rfl (by first | assumption | omega | (simp (disch := first | decide | assumption | omega) only [up_k, up_s, up_a, up_i, flA_k, flA_a, flA_n, cpA_k, cpA_a, newO_o, newA_o, newO_t, newA_t, newA_n, cpQ_k, cpQ_a] <;> first | assumption | omega)) (by omega) ?_
    exact X_vret hO hF rfl dX12_open_27 ⟨rfl, ⟨by omega, h.sc (fun k a i z => by rw [up_k _ (by omega), up_k _ (by omega)]) (fun c a i z => by unfold o_open; rw [up_k _ (by omega), up_k _ (by omega), th_o (by omega)]) (by
      have e0 : A 132 μ.1 0 = 0 := by omega
      unfold vSc o_open
      simp (disch := decide) only [up_k, up_s, th_o]
      exact ⟨s1, ⟨s2, s3, s4⟩, s5, s6, trivial, by rw [e0]; rfl, s9, s10⟩)⟩⟩
  ·
    try simp only [bi_0, bi_ne, ne_eq, Classical.not_not] at hc_4
    exact X_throwISE hO hF (by decide) (text := "a group is open") (by decide) dX12_open_7 dX12_open_10 dX12_open_11 dX12_open_13 dX12_open_16 (by first | exact ⟨rfl, by omega, rfl⟩) (by first | decide | omega) (by first | decide | omega) (by simp [rv_cat, int_cat])
theorem dX12_pass_0 : decode cX12_pass 0 = .ok (.iload_n 1, 1) := by decide +kernel
theorem dX12_pass_1 : decode cX12_pass 1 = .ok (.iconst 1, 1) := by decide +kernel
theorem dX12_pass_2 : decode cX12_pass 2 = .ok (.bipush 100, 2) := by decide +kernel
theorem dX12_pass_4 : decode cX12_pass 4 = .ok (.invokestatic 129, 3) := by decide +kernel
theorem dX12_pass_7 : decode cX12_pass 7 = .ok (.aload_n 0, 1) := by decide +kernel
theorem dX12_pass_8 : decode cX12_pass 8 = .ok (.iconst 4, 1) := by decide +kernel
theorem dX12_pass_9 : decode cX12_pass 9 = .ok (.aload_n 0, 1) := by decide +kernel
theorem dX12_pass_10 : decode cX12_pass 10 = .ok (.getfield 119, 3) := by decide +kernel
theorem dX12_pass_13 : decode cX12_pass 13 = .ok (.iload_n 1, 1) := by decide +kernel
theorem dX12_pass_14 : decode cX12_pass 14 = .ok (.iadd, 1) := by decide +kernel
theorem dX12_pass_15 : decode cX12_pass 15 = .ok (.invokestatic 184, 3) := by decide +kernel
theorem dX12_pass_18 : decode cX12_pass 18 = .ok (.putfield 119, 3) := by decide +kernel
theorem dX12_pass_21 : decode cX12_pass 21 = .ok (.return_, 1) := by decide +kernel
set_option maxRecDepth 4000 in
theorem kX12_pass (γ : LC) (w : Mm) (f k : Int) (p : RP) (μ : MU) (L : List Int) (A : Mm) (h : RLm p μ f L w A) (hk : IR k) (h130 : 0 ≤ A 130 μ.1 0) : KV γ 7 mX12_pass [rv f, .int (I k)] w (1) (6) (fun w' => (1 ≤ k ∧ k ≤ 100) ∧ RLm p μ f L w' (o_pass μ k A)) (fun E w' => E = "java/lang/IllegalArgumentException" ∧ (¬ (1 ≤ k ∧ k ≤ 100)) ∧ w' = w) := by
  refine MX_of rfl rfl (by simp [rv_cat, int_cat]) rfl ?_
  rintro κ hO hF rfl
  have hD := hF.dp
  show X κ (1) (6) w 0 [some (rv f), some (.int (I k))] []
  obtain ⟨s1, ⟨s2, s3, s4⟩, s5, s6, s7, s8, s9, s10⟩ := id h.1.2.1
  have t0 := s1.1
  have r90 : 0 ≤ w 90 f 0 ∧ w 90 f 0 ≤ 4 := by rw [s10]; split <;> omega
  refine X_iload_n 1 hO dX12_pass_0 rfl rfl ?_
  refine X_iconst 2 hO dX12_pass_1 rfl ?_
  refine X_bipush 4 hO dX12_pass_2 rfl (by decide) ?_
  refine X_kSv 7 hO hD lX12_129 [_, _, _] rfl dX12_pass_4 rfl (kX12_requireRange _ _ _ _ _ (by omega) (by omega) (by omega)) (by decide) (by simp [rv_cat, int_cat]) (by first | decide | exact Nat.zero_le _ | omega) (by first | decide | exact Nat.zero_le _ | omega) (fun w_4 hp_4 => ?_) (fun E w_ hx_ => (XE_out hO hF (by obtain ⟨e1, e2, e3⟩ := hx_; exact ⟨e1, e2, e3⟩)))
  obtain ⟨e1_4, e2_4⟩ := hp_4
  subst w_4
  refine X_aload_n 8 hO dX12_pass_7 rfl rfl ?_
  refine X_iconst 9 hO dX12_pass_8 rfl ?_
  refine X_aload_n 10 hO dX12_pass_9 rfl rfl ?_
  refine gX12_119 13 hO dX12_pass_10 rfl (by first | assumption | omega | (simp (disch := first | decide | assumption | omega) only [up_k, up_s, up_a, up_i, flA_k, flA_a, flA_n, cpA_k, cpA_a, newO_o, newA_o, newO_t, newA_t, newA_n, cpQ_k, cpQ_a] <;> first | assumption | omega)) (fun hi_10 => ?_)
  try simp (disch := first | decide | assumption | omega) only [up_k, up_s, up_a, up_i, flA_k, flA_a, flA_n, cpA_k, cpA_a, newO_o, newA_o, newO_t, newA_t, newA_n, cpQ_k, cpQ_a] at hi_10 ⊢
  refine X_iload_n 14 hO dX12_pass_13 rfl rfl ?_
  refine X_iadd 15 hO dX12_pass_14 rfl ?_
  refine X_mmin 18 hO w_957 dX12_pass_15 rfl (by omega) (by omega) hD (by decide) (by simp [rv_cat, int_cat]) ?_
  refine pX12_119 21 hO dX12_pass_18 rfl (by first | assumption | omega | (simp (disch := first | decide | assumption | omega) only [up_k, up_s, up_a, up_i, flA_k, flA_a, flA_n, cpA_k, cpA_a, newO_o, newA_o, newO_t, newA_t, newA_n, cpQ_k, cpQ_a] <;> first | assumption | omega)) (by omega) ?_
  exact X_vret hO hF rfl dX12_pass_21 ⟨rfl, ⟨e1_4, h.sc (fun k a i z => by rw [up_k _ (by omega)]) (fun c a i z => by unfold o_pass; rw [if_pos e1_4, up_k _ (by omega), th_o (by omega)]) (by
      unfold vSc o_pass
      rw [if_pos e1_4]
      simp (disch := decide) only [up_k, up_s, th_o]
      refine ⟨s1, ⟨s2, s3, s4⟩, s5, s6, s7, s8, s9, ?_⟩
      rw [s10]
      repeat' split
      all_goals omega)⟩⟩
