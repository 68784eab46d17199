/-! a macro begins to be recorded -/
theorem dX12_record_0 : decode cX12_record 0 = .ok (.iload_n 1, 1) := by decide +kernel
theorem dX12_record_1 : decode cX12_record 1 = .ok (.iconst 4, 1) := by decide +kernel
theorem dX12_record_2 : decode cX12_record 2 = .ok (.invokestatic 132, 3) := by decide +kernel
theorem dX12_record_5 : decode cX12_record 5 = .ok (.aload_n 0, 1) := by decide +kernel
theorem dX12_record_6 : decode cX12_record 6 = .ok (.getfield 65, 3) := by decide +kernel
theorem dX12_record_9 : decode cX12_record 9 = .ok (.iconst (-1), 1) := by decide +kernel
theorem dX12_record_10 : decode cX12_record 10 = .ok (.if_icmp .eq 13, 3) := by decide +kernel
theorem dX12_record_13 : decode cX12_record 13 = .ok (.new 163, 3) := by decide +kernel
theorem dX12_record_16 : decode cX12_record 16 = .ok (.dup, 1) := by decide +kernel
theorem dX12_record_17 : decode cX12_record 17 = .ok (.ldc 165, 2) := by decide +kernel
theorem dX12_record_19 : decode cX12_record 19 = .ok (.invokespecial 167, 3) := by decide +kernel
theorem dX12_record_22 : decode cX12_record 22 = .ok (.athrow, 1) := by decide +kernel
theorem dX12_record_23 : decode cX12_record 23 = .ok (.aload_n 0, 1) := by decide +kernel
theorem dX12_record_24 : decode cX12_record 24 = .ok (.iload_n 1, 1) := by decide +kernel
theorem dX12_record_25 : decode cX12_record 25 = .ok (.putfield 65, 3) := by decide +kernel
theorem dX12_record_28 : decode cX12_record 28 = .ok (.aload_n 0, 1) := by decide +kernel
theorem dX12_record_29 : decode cX12_record 29 = .ok (.getfield 54, 3) := by decide +kernel
theorem dX12_record_32 : decode cX12_record 32 = .ok (.iconst 0, 1) := by decide +kernel
theorem dX12_record_33 : decode cX12_record 33 = .ok (.putfield 170, 3) := by decide +kernel
theorem dX12_record_36 : decode cX12_record 36 = .ok (.aload_n 0, 1) := by decide +kernel
theorem dX12_record_37 : decode cX12_record 37 = .ok (.iconst 0, 1) := by decide +kernel
theorem dX12_record_38 : decode cX12_record 38 = .ok (.putfield 113, 3) := by decide +kernel
theorem dX12_record_41 : decode cX12_record 41 = .ok (.return_, 1) := by decide +kernel
set_option maxRecDepth 4000 in
theorem kX12_record (γ : LC) (w : Mm) (f m : Int) (p : RP) (μ : MU) (L : List Int) (A : Mm) (h : RLm p μ f L w A) (hm : IR m) : KV γ 7 mX12_record [rv f, .int (I m)] w (2) (12) (fun w' => ((0 ≤ m ∧ m < 4) ∧ A 133 μ.1 0 = -1) ∧ RLm p μ f L w' (o_record μ m A)) (fun E w' => (E = "java/lang/IndexOutOfBoundsException" ∧ (¬ (0 ≤ m ∧ m < 4)) ∧ w' = w) ∨ (E = "java/lang/IllegalStateException" ∧ (0 ≤ m ∧ m < 4) ∧ A 133 μ.1 0 ≠ -1 ∧ w' = w)) := by
  refine MX_of rfl rfl (by simp [rv_cat, int_cat]) rfl ?_
  rintro κ hO hF rfl
  have hD := hF.dp
  show X κ (2) (12) w 0 [some (rv f), some (.int (I m))] []
  obtain ⟨s1, ⟨s2, s3, s4⟩, s5, s6, s7, s8, s9, s10⟩ := id h.1.2.1
  have t0 := s1.1
  have t49 := h.1.2.2.2.2.1.2.2.1.1.1
  refine X_iload_n 1 hO dX12_record_0 rfl rfl ?_
  refine X_iconst 2 hO dX12_record_1 rfl ?_
  refine X_kSv 5 hO hD lX12_132 [_, _] rfl dX12_record_2 rfl (kX12_requireIndex _ _ _ _ (by omega) (by omega)) (by decide) (by simp [rv_cat, int_cat]) (by first | decide | exact Nat.zero_le _ | omega) (by first | decide | exact Nat.zero_le _ | omega) (fun w_2 hp_2 => ?_) (fun E w_ hx_ => (XE_out hO hF (by obtain ⟨e1, e2, e3⟩ := hx_; exact Or.inl ⟨e1, e2, e3⟩)))
  obtain ⟨e1_2, e2_2⟩ := hp_2
  subst w_2
  refine X_aload_n 6 hO dX12_record_5 rfl rfl ?_
  refine gX12_65 9 hO dX12_record_6 rfl (by first | assumption | omega | (simp (disch := first | decide | assumption | omega) only [up_k, up_s, up_a, up_i, flA_k, flA_a, flA_n, cpA_k, cpA_a, newO_o, newA_o, newO_t, newA_t, newA_n, cpQ_k, cpQ_a] <;> first | assumption | omega)) (fun hi_6 => ?_)
  try simp (disch := first | decide | assumption | omega) only [up_k, up_s, up_a, up_i, flA_k, flA_a, flA_n, cpA_k, cpA_a, newO_o, newA_o, newO_t, newA_t, newA_n, cpQ_k, cpQ_a] at hi_6 ⊢
  refine X_iconst 10 hO dX12_record_9 rfl ?_
  refine X_icmp_eq 13 23 hO dX12_record_10 rfl rfl (by omega) (by omega) (fun hc_10 => ?_) (fun hc_10 => ?_)
  ·
    refine X_aload_n 24 hO dX12_record_23 rfl rfl ?_
    refine X_iload_n 25 hO dX12_record_24 rfl rfl ?_
    refine pX12_65 28 hO dX12_record_25 rfl (by first | assumption | omega | (simp (disch := first | decide | assumption | omega) only [up_k, up_s, up_a, up_i, flA_k, flA_a, flA_n, cpA_k, cpA_a, newO_o, newA_o, newO_t, newA_t, newA_n, cpQ_k, cpQ_a] <;> first | assumption | omega)) (by omega) ?_
    refine X_aload_n 29 hO dX12_record_28 rfl rfl ?_
    refine gX12_54 32 hO dX12_record_29 rfl (by first | assumption | omega | (simp (disch := first | decide | assumption | omega) only [up_k, up_s, up_a, up_i, flA_k, flA_a, flA_n, cpA_k, cpA_a, newO_o, newA_o, newO_t, newA_t, newA_n, cpQ_k, cpQ_a] <;> first | assumption | omega)) ?_
    try simp (disch := first | decide | assumption | omega) only [up_k, up_s, up_a, up_i, flA_k, flA_a, flA_n, cpA_k, cpA_a, newO_o, newA_o, newO_t, newA_t, newA_n, cpQ_k, cpQ_a]
    refine X_iconst 33 hO dX12_record_32 rfl ?_
    refine pX12_170 36 hO dX12_record_33 rfl (by first | assumption | omega | (simp (disch := first | decide | assumption | omega) only [up_k, up_s, up_a, up_i, flA_k, flA_a, flA_n, cpA_k, cpA_a, newO_o, newA_o, newO_t, newA_t, newA_n, cpQ_k, cpQ_a] <;> first | assumption | omega)) (by omega) ?_
    refine X_aload_n 37 hO dX12_record_36 rfl rfl ?_
    refine X_iconst 38 hO dX12_record_37 rfl ?_
    refine pX12_113 41 hO dX12_record_38 rfl (by first | assumption | omega | (simp (disch := first | decide | assumption | omega) only [up_k, up_s, up_a, up_i, flA_k, flA_a, flA_n, cpA_k, cpA_a, newO_o, newA_o, newO_t, newA_t, newA_n, cpQ_k, cpQ_a] <;> first | assumption | omega)) (by omega) ?_
    exact X_vret hO hF rfl dX12_record_41 ⟨rfl, (by
      have e133 : A 133 μ.1 0 = -1 := by omega
      have eo : o_record μ m A = up (up (up (m_th μ 0 A) 133 μ.1 0 m) 236 0 4 0) 129 μ.1 0 (-1) := by
        unfold o_record; rw [if_pos (by omega), if_neg (fun z => z e133)]
      refine ⟨⟨e1_2, e133⟩, ?_⟩
      rw [eo]
      obtain ⟨⟨m1, m2, m3⟩, m4, ⟨m5, m6, m7, m8, m9⟩, m10, m11⟩ := h.1.2.2.2.2.1
      refine h.sc2 (fun k a i z => by rw [up_k _ (by omega), up_k _ (by omega), up_k _ (by omega)]) (fun c a i z => by rw [up_k _ (by omega), up_k _ (by omega), up_k _ (by omega), th_o (by omega)]) ?_ ?_
      · unfold vSc
        simp (disch := decide) only [up_k, up_s, th_o]
        exact ⟨s1, ⟨s2, s3, s4⟩, s5, trivial, s7, rfl, s9, s10⟩
      · refine ⟨?_, fun q q0 q1 => ?_, ?_⟩
        · simp (disch := decide) only [up_k]; exact ⟨m1, m2, m3⟩
        · obtain ⟨⟨v1, v2, v3, v4, v5⟩, v6, v7⟩ := m4 q q0 q1
          have hne : w 3 (w 48 f 0) q ≠ w 49 f 0 := ne_c v2 m6 (by omega)
          unfold vMc MT at *
          simp (disch := first | decide | assumption) only [up_k, up_a, th_o]
          rw [up_i _ _ _ _ _ _ (by omega)]
          exact ⟨⟨v1, v2, v3, v4, v5⟩, by rw [up_k _ (by decide), th_o (by decide)]; exact v6, v7⟩
        · unfold vMc MT at *
          simp (disch := decide) only [up_k, up_s]
          exact ⟨⟨⟨m5.1, m5.2.1, m5.2.2.1, m5.2.2.2.1, by omega, by omega⟩, m6, m7, m8, m9⟩, trivial, fun k z1 z2 => by omega⟩)⟩
  ·
    exact X_throwISE hO hF (by decide) (text := "a macro is being recorded") (by decide) dX12_record_13 dX12_record_16 dX12_record_17 dX12_record_19 dX12_record_22 (by first | exact Or.inr ⟨rfl, e1_2, by omega, rfl⟩) (by first | decide | omega) (by first | decide | omega) (by simp [rv_cat, int_cat])
