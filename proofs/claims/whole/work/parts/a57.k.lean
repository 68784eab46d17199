/-! unlisten -/
theorem dX12_unlisten_0 : decode cX12_unlisten 0 = .ok (.iload_n 1, 1) := by decide +kernel
theorem dX12_unlisten_1 : decode cX12_unlisten 1 = .ok (.iconst 3, 1) := by decide +kernel
theorem dX12_unlisten_2 : decode cX12_unlisten 2 = .ok (.invokestatic 132, 3) := by decide +kernel
theorem dX12_unlisten_5 : decode cX12_unlisten 5 = .ok (.aload_n 0, 1) := by decide +kernel
theorem dX12_unlisten_6 : decode cX12_unlisten 6 = .ok (.getfield 36, 3) := by decide +kernel
theorem dX12_unlisten_9 : decode cX12_unlisten 9 = .ok (.getfield 264, 3) := by decide +kernel
theorem dX12_unlisten_12 : decode cX12_unlisten 12 = .ok (.iload_n 1, 1) := by decide +kernel
theorem dX12_unlisten_13 : decode cX12_unlisten 13 = .ok (.baload, 1) := by decide +kernel
theorem dX12_unlisten_14 : decode cX12_unlisten 14 = .ok (.istore_n 2, 1) := by decide +kernel
theorem dX12_unlisten_15 : decode cX12_unlisten 15 = .ok (.aload_n 0, 1) := by decide +kernel
theorem dX12_unlisten_16 : decode cX12_unlisten 16 = .ok (.getfield 36, 3) := by decide +kernel
theorem dX12_unlisten_19 : decode cX12_unlisten 19 = .ok (.getfield 264, 3) := by decide +kernel
theorem dX12_unlisten_22 : decode cX12_unlisten 22 = .ok (.iload_n 1, 1) := by decide +kernel
theorem dX12_unlisten_23 : decode cX12_unlisten 23 = .ok (.iconst 0, 1) := by decide +kernel
theorem dX12_unlisten_24 : decode cX12_unlisten 24 = .ok (.bastore, 1) := by decide +kernel
theorem dX12_unlisten_25 : decode cX12_unlisten 25 = .ok (.aload_n 0, 1) := by decide +kernel
theorem dX12_unlisten_26 : decode cX12_unlisten 26 = .ok (.iconst 0, 1) := by decide +kernel
theorem dX12_unlisten_27 : decode cX12_unlisten 27 = .ok (.putfield 113, 3) := by decide +kernel
theorem dX12_unlisten_30 : decode cX12_unlisten 30 = .ok (.iload_n 2, 1) := by decide +kernel
theorem dX12_unlisten_31 : decode cX12_unlisten 31 = .ok (.ireturn, 1) := by decide +kernel
set_option maxRecDepth 4000 in
theorem kX12_unlisten (γ : LC) (w : Mm) (f q : Int) (p : RP) (μ : MU) (L : List Int) (A : Mm) (h : RLm p μ f L w A) (hl : 0 ≤ A 122 μ.1 0 ∧ A 122 μ.1 0 ≤ A 120 μ.1 0) (hq : IR q) (hb28 : ∀ j, 0 ≤ j → j < 3 → A 228 0 j = 0 ∨ A 228 0 j = 1) : KI γ 7 mX12_unlisten [rv f, .int (I q)] w (1) (6) (fun r w' => (0 ≤ q ∧ q < 3) ∧ r = (o_unlisten μ q A).1 ∧ RLm p μ f L w' (o_unlisten μ q A).2) (fun E w' => E = "java/lang/IndexOutOfBoundsException" ∧ (¬ (0 ≤ q ∧ q < 3)) ∧ w' = w) := by
  refine MX_of rfl rfl (by simp [rv_cat, int_cat]) rfl ?_
  rintro κ hO hF rfl
  have hD := hF.dp
  show X κ (1) (6) w 0 [some (rv f), some (.int (I q)), none] []
  have t0 := h.1.2.1.1.1
  have hLT := h.2.1.1.1
  obtain ⟨z0, ⟨z1, z2, z3, z4, z5, z6⟩, z7, z8, z9, z10, z11, z12⟩ := id hLT
  have hv := h.2.1.2.1
  refine X_iload_n 1 hO dX12_unlisten_0 rfl rfl ?_
  refine X_iconst 2 hO dX12_unlisten_1 rfl ?_
  refine X_kSv 5 hO hD lX12_132 [_, _] rfl dX12_unlisten_2 rfl (kX12_requireIndex _ _ _ _ (by omega) (by omega)) (by decide) (by simp [rv_cat, int_cat]) (by first | decide | exact Nat.zero_le _ | omega) (by first | decide | exact Nat.zero_le _ | omega) (fun w_2 hp_2 => ?_) (fun E w_ hx_ => (XE_out hO hF (by obtain ⟨e1, e2, e3⟩ := hx_; exact ⟨e1, e2, e3⟩)))
  obtain ⟨e1_2, e2_2⟩ := hp_2
  subst w_2
  have hvq := (hv q e1_2.1 e1_2.2).1
  have hb01 := hb28 q e1_2.1 e1_2.2
  refine X_aload_n 6 hO dX12_unlisten_5 rfl rfl ?_
  refine gX12_36 9 hO dX12_unlisten_6 rfl (by first | assumption | omega | (simp (disch := first | decide | assumption | omega) only [up_k, up_s, up_a, up_i, flA_k, flA_a, flA_n, cpA_k, cpA_a, newO_o, newA_o, newO_t, newA_t, newA_n, cpQ_k, cpQ_a] <;> first | assumption | omega)) ?_
  try simp (disch := first | decide | assumption | omega) only [up_k, up_s, up_a, up_i, flA_k, flA_a, flA_n, cpA_k, cpA_a, newO_o, newA_o, newO_t, newA_t, newA_n, cpQ_k, cpQ_a]
  refine gX12_264 12 hO dX12_unlisten_9 rfl (by first | assumption | omega | (simp (disch := first | decide | assumption | omega) only [up_k, up_s, up_a, up_i, flA_k, flA_a, flA_n, cpA_k, cpA_a, newO_o, newA_o, newO_t, newA_t, newA_n, cpQ_k, cpQ_a] <;> first | assumption | omega)) ?_
  try simp (disch := first | decide | assumption | omega) only [up_k, up_s, up_a, up_i, flA_k, flA_a, flA_n, cpA_k, cpA_a, newO_o, newA_o, newO_t, newA_t, newA_n, cpQ_k, cpQ_a]
  refine X_iload_n 13 hO dX12_unlisten_12 rfl rfl ?_
  refine X_zald 14 hO dX12_unlisten_13 rfl (by first | assumption | omega | (simp (disch := first | decide | assumption | omega) only [up_k, up_s, up_a, up_i, flA_k, flA_a, flA_n, cpA_k, cpA_a, newO_o, newA_o, newO_t, newA_t, newA_n, cpQ_k, cpQ_a] <;> first | assumption | omega)) (by first | assumption | omega | (simp (disch := first | decide | assumption | omega) only [up_k, up_s, up_a, up_i, flA_k, flA_a, flA_n, cpA_k, cpA_a, newO_o, newA_o, newO_t, newA_t, newA_n, cpQ_k, cpQ_a] <;> first | assumption | omega)) (fun hi_13 => ?_)
  try simp (disch := first | decide | assumption | omega) only [up_k, up_s, up_a, up_i, flA_k, flA_a, flA_n, cpA_k, cpA_a, newO_o, newA_o, newO_t, newA_t, newA_n, cpQ_k, cpQ_a] at hi_13 ⊢
  refine X_istore_n 15 hO dX12_unlisten_14 rfl rfl ?_
  refine X_aload_n 16 hO dX12_unlisten_15 rfl rfl ?_
  refine gX12_36 19 hO dX12_unlisten_16 rfl (by first | assumption | omega | (simp (disch := first | decide | assumption | omega) only [up_k, up_s, up_a, up_i, flA_k, flA_a, flA_n, cpA_k, cpA_a, newO_o, newA_o, newO_t, newA_t, newA_n, cpQ_k, cpQ_a] <;> first | assumption | omega)) ?_
  try simp (disch := first | decide | assumption | omega) only [up_k, up_s, up_a, up_i, flA_k, flA_a, flA_n, cpA_k, cpA_a, newO_o, newA_o, newO_t, newA_t, newA_n, cpQ_k, cpQ_a]
  refine gX12_264 22 hO dX12_unlisten_19 rfl (by first | assumption | omega | (simp (disch := first | decide | assumption | omega) only [up_k, up_s, up_a, up_i, flA_k, flA_a, flA_n, cpA_k, cpA_a, newO_o, newA_o, newO_t, newA_t, newA_n, cpQ_k, cpQ_a] <;> first | assumption | omega)) ?_
  try simp (disch := first | decide | assumption | omega) only [up_k, up_s, up_a, up_i, flA_k, flA_a, flA_n, cpA_k, cpA_a, newO_o, newA_o, newO_t, newA_t, newA_n, cpQ_k, cpQ_a]
  refine X_iload_n 23 hO dX12_unlisten_22 rfl rfl ?_
  refine X_iconst 24 hO dX12_unlisten_23 rfl ?_
  refine X_zast 25 hO dX12_unlisten_24 rfl (by first | assumption | omega | (simp (disch := first | decide | assumption | omega) only [up_k, up_s, up_a, up_i, flA_k, flA_a, flA_n, cpA_k, cpA_a, newO_o, newA_o, newO_t, newA_t, newA_n, cpQ_k, cpQ_a] <;> first | assumption | omega)) (by first | assumption | omega | (simp (disch := first | decide | assumption | omega) only [up_k, up_s, up_a, up_i, flA_k, flA_a, flA_n, cpA_k, cpA_a, newO_o, newA_o, newO_t, newA_t, newA_n, cpQ_k, cpQ_a] <;> first | assumption | omega)) (by omega) ?_
  refine X_aload_n 26 hO dX12_unlisten_25 rfl rfl ?_
  refine X_iconst 27 hO dX12_unlisten_26 rfl ?_
  refine pX12_113 30 hO dX12_unlisten_27 rfl (by first | assumption | omega | (simp (disch := first | decide | assumption | omega) only [up_k, up_s, up_a, up_i, flA_k, flA_a, flA_n, cpA_k, cpA_a, newO_o, newA_o, newO_t, newA_t, newA_n, cpQ_k, cpQ_a] <;> first | assumption | omega)) (by omega) ?_
  refine X_iload_n 31 hO dX12_unlisten_30 rfl rfl ?_
  exact X_iret hO hF rfl (by first | exact Or.inl rfl | exact Or.inr ⟨rfl, bi_01 _⟩ | exact Or.inr ⟨rfl, by omega⟩) dX12_unlisten_31 ⟨_, rfl, (by omega), (by
      have eo : o_unlisten μ q A = (bi (A 228 0 q = 1), up (up (m_th μ 0 A) 228 0 q 0) 129 μ.1 0 (-1)) := by unfold o_unlisten; rw [if_pos (by omega)]
      rw [eo]
      refine ⟨e1_2, ?_, h.uls hl e1_2 rfl⟩
      show _ = bi (A 228 0 q = 1)
      rw [hvq]
      rcases hb01 with z | z
      · rw [z]; rfl
      · rw [z]; rfl)⟩
