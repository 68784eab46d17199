/-! the budget -/
theorem dX12_setBudget_0 : decode cX12_setBudget 0 = .ok (.iload_n 1, 1) := by decide +kernel
theorem dX12_setBudget_1 : decode cX12_setBudget 1 = .ok (.iconst 2, 1) := by decide +kernel
theorem dX12_setBudget_2 : decode cX12_setBudget 2 = .ok (.sipush 600, 3) := by decide +kernel
theorem dX12_setBudget_5 : decode cX12_setBudget 5 = .ok (.invokestatic 129, 3) := by decide +kernel
theorem dX12_setBudget_8 : decode cX12_setBudget 8 = .ok (.aload_n 0, 1) := by decide +kernel
theorem dX12_setBudget_9 : decode cX12_setBudget 9 = .ok (.getfield 29, 3) := by decide +kernel
theorem dX12_setBudget_12 : decode cX12_setBudget 12 = .ok (.iload_n 1, 1) := by decide +kernel
theorem dX12_setBudget_13 : decode cX12_setBudget 13 = .ok (.putfield 248, 3) := by decide +kernel
theorem dX12_setBudget_16 : decode cX12_setBudget 16 = .ok (.aload_n 0, 1) := by decide +kernel
theorem dX12_setBudget_17 : decode cX12_setBudget 17 = .ok (.iconst 0, 1) := by decide +kernel
theorem dX12_setBudget_18 : decode cX12_setBudget 18 = .ok (.putfield 113, 3) := by decide +kernel
theorem dX12_setBudget_21 : decode cX12_setBudget 21 = .ok (.aload_n 0, 1) := by decide +kernel
theorem dX12_setBudget_22 : decode cX12_setBudget 22 = .ok (.getfield 29, 3) := by decide +kernel
theorem dX12_setBudget_25 : decode cX12_setBudget 25 = .ok (.invokevirtual 251, 3) := by decide +kernel
theorem dX12_setBudget_28 : decode cX12_setBudget 28 = .ok (.ireturn, 1) := by decide +kernel
set_option maxRecDepth 4000 in
theorem kX12_setBudget (γ : LC) (w : Mm) (f c : Int) (p : RP) (μ : MU) (A : Mm) (S P M : Int) (h : CHB p μ f (lvL p μ A) w A) (hRB : RB μ S P M A) (hS : S ≤ 28900) (hP : P ≤ 500000) (hM : M ≤ 598) (hb28 : ∀ j, 0 ≤ j → j < 3 → A 228 0 j = 0 ∨ A 228 0 j = 1) (hc : IR c) : KI γ 10 mX12_setBudget [rv f, .int (I c)] w (1) (6) (fun r w' => r = (o_setBudget μ c A).1 ∧ (o_setBudget μ c A).2 139 μ.1 0 = 0 ∧ RES μ f w w' (o_setBudget μ c A).2) (fun E w' => E = "java/lang/IllegalArgumentException" ∧ (o_setBudget μ c A).2 139 μ.1 0 = 1 ∧ RES μ f w w' (o_setBudget μ c A).2) := by
  refine MX_of rfl rfl (by simp [rv_cat, int_cat]) rfl ?_
  rintro κ hO hF rfl
  have hD := hF.dp
  show X κ (1) (6) w 0 [some (rv f), some (.int (I c))] []
  have t0 := h.1.toF.1
  have hT := hRB.2.1.2.2.2.1
  have cT0 := (h.cur hT).2.1
  refine X_iload_n 1 hO dX12_setBudget_0 rfl rfl ?_
  refine X_iconst 2 hO dX12_setBudget_1 rfl ?_
  refine X_sipush 5 hO dX12_setBudget_2 rfl (by decide) ?_
  refine X_kSv 8 hO hD lX12_129 [_, _, _] rfl dX12_setBudget_5 rfl (kX12_requireRange _ _ _ _ _ (by omega) (by omega) (by omega)) (by decide) (by simp [rv_cat, int_cat]) (by first | decide | exact Nat.zero_le _ | omega) (by first | decide | exact Nat.zero_le _ | omega) (fun w_5 hp_5 => ?_) (fun E w_ hx_ => (XE_out hO hF (by
  obtain ⟨x1, x2, x3⟩ := hx_
  have hn : ¬ (2 ≤ c ∧ c ≤ 600) := by omega
  have eo : o_setBudget μ c A = (0, m_th μ 1 A) := by unfold o_setBudget; rw [if_neg hn]
  rw [eo, x3]
  exact ⟨x1, up_s _ _ _ _ _, h.r9 hRB hM⟩)))
  obtain ⟨e1_5, e2_5⟩ := hp_5
  subst w_5
  have hc0 : 2 ≤ c ∧ c ≤ 600 := by omega
  refine X_aload_n 9 hO dX12_setBudget_8 rfl rfl ?_
  refine gX12_29 12 hO dX12_setBudget_9 rfl (by first | assumption | omega | (simp (disch := first | decide | assumption | omega) only [up_k, up_s, up_a, up_i, flA_k, flA_a, flA_n, cpA_k, cpA_a, newO_o, newA_o, newO_t, newA_t, newA_n, cpQ_k, cpQ_a] <;> first | assumption | omega)) ?_
  try simp (disch := first | decide | assumption | omega) only [up_k, up_s, up_a, up_i, flA_k, flA_a, flA_n, cpA_k, cpA_a, newO_o, newA_o, newO_t, newA_t, newA_n, cpQ_k, cpQ_a]
  refine X_iload_n 13 hO dX12_setBudget_12 rfl rfl ?_
  refine pX12_248 16 hO dX12_setBudget_13 rfl (by first | assumption | omega | (simp (disch := first | decide | assumption | omega) only [up_k, up_s, up_a, up_i, flA_k, flA_a, flA_n, cpA_k, cpA_a, newO_o, newA_o, newO_t, newA_t, newA_n, cpQ_k, cpQ_a] <;> first | assumption | omega)) (by omega) ?_
  refine X_aload_n 17 hO dX12_setBudget_16 rfl rfl ?_
  refine X_iconst 18 hO dX12_setBudget_17 rfl ?_
  refine pX12_113 21 hO dX12_setBudget_18 rfl (by first | assumption | omega | (simp (disch := first | decide | assumption | omega) only [up_k, up_s, up_a, up_i, flA_k, flA_a, flA_n, cpA_k, cpA_a, newO_o, newA_o, newO_t, newA_t, newA_n, cpQ_k, cpQ_a] <;> first | assumption | omega)) (by omega) ?_
  obtain ⟨w1, hw1⟩ : ∃ w1, w1 = up (up w 79 (w 45 f 0) 0 c) 88 f 0 0 := ⟨_, rfl⟩
  refine X_eqW hw1.symm ?_
  have h9 := h.o9 (v := 0) hRB hM
  have hR9 : RB μ S P M (up A 139 μ.1 0 0) := hRB.o9
  have hMG := h9.bud hR9.2.1.2.2.2.1 (by omega) hR9.2.1.2.2.1 hc0
  rw [← hw1] at hMG
  have c13 : w1 0 f 0 = 13 := hMG.1.toF.1
  have cT : w1 0 (w1 45 f 0) 0 = 11 := hMG.1.1.2.2.2.1.1.1.1.1
  have g1 : UPG f w w1 := by
    have tl := h.1.1.2.2.2.2.2.1.1
    rw [hw1]
    refine ⟨⟨fun k a i _ hk => by rw [up_k _ (by omega), up_k _ (by omega)], fun k i hk => by rw [up_k _ (by omega), up_k _ (by omega)]⟩, fun k hk => ?_, fun k => ?_⟩
    · rw [up_k _ (by omega), up_a _ _ _ (fun z => by rw [← z] at cT0; omega)]
    · rw [up_a _ _ _ (fun z => by rw [z] at tl; omega), up_a _ _ _ (fun z => by rw [z] at tl; omega)]
  refine X_aload_n 22 hO dX12_setBudget_21 rfl rfl ?_
  refine gX12_29 25 hO dX12_setBudget_22 rfl (by first | assumption | omega | (simp (disch := first | decide | assumption | omega) only [up_k, up_s, up_a, up_i, flA_k, flA_a, flA_n, cpA_k, cpA_a, newO_o, newA_o, newO_t, newA_t, newA_n, cpQ_k, cpQ_a] <;> first | assumption | omega)) ?_
  try simp (disch := first | decide | assumption | omega) only [up_k, up_s, up_a, up_i, flA_k, flA_a, flA_n, cpA_k, cpA_a, newO_o, newA_o, newO_t, newA_t, newA_n, cpQ_k, cpQ_a]
  refine X_kVi (t := 11) 28 hO hD lX12_251 rfl (by decide) [] rfl dX12_setBudget_25 rfl (by first | assumption | omega | (simp (disch := first | decide | assumption | omega) only [up_k, up_s, up_a, up_i, flA_k, flA_a, flA_n, cpA_k, cpA_a, newO_o, newA_o, newO_t, newA_t, newA_n, cpQ_k, cpQ_a] <;> first | assumption | omega)) (kX10_mergeToBudget _ _ _ _ _ _ _ M hMG (by omega)) (by decide) (by simp [rv_cat, int_cat]) (by first | decide | exact Nat.zero_le _ | omega) (by first | decide | exact Nat.zero_le _ | omega) (fun r_25 w_25 hr_25 hp_25 => ?_) (fun E w_ hx_ => hx_.elim)
  obtain ⟨m1, ⟨c2, al2, PL2, hI⟩, hU, -⟩ := hp_25
  exact X_iret hO hF rfl (by first | exact Or.inl rfl | exact Or.inr ⟨rfl, bi_01 _⟩ | exact Or.inr ⟨rfl, by omega⟩) dX12_setBudget_28 ⟨_, rfl, (by omega), (by
  have eo : o_setBudget μ c A = m_mrgs μ (up (up (up A 139 μ.1 0 0) 128 μ.1 0 c) 129 μ.1 0 (-1)) := by unfold o_setBudget; rw [if_pos hc0]; rfl
  rw [eo]
  have em : (m_mrgs μ (up (up (up A 139 μ.1 0 0) 128 μ.1 0 c) 129 μ.1 0 (-1))).2 139 μ.1 0 = 0 := by
    show (m_mrg μ 1000 0 _).2 139 μ.1 0 = 0
    rw [mrg_o (by decide), up_k _ (by decide), up_k _ (by decide), up_s]
  refine ⟨m1, em, _, MGB.chb hI (x := up A 139 μ.1 0 0 126 μ.1 0) (by rw [up_k _ (by decide), up_k _ (by decide)]) (h9.2.2.cg (h9.2.2.b0.2.2.2.cong fun i => by rw [up_k _ (by decide), up_k _ (by decide)]) fun c a i z => by rw [up_k _ (by omega), up_k _ (by omega)]) ?_ ?_, g1.trans hU.gg⟩
  · rw [up_k _ (by decide), up_k _ (by decide)]
  · rw [up_k _ (by decide), up_k _ (by decide)])⟩
