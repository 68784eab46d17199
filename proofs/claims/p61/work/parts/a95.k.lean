/-! walks -/
theorem dX12_goToNode_0 : decode cX12_goToNode 0 = .ok (.aload_n 1, 1) := by decide +kernel
theorem dX12_goToNode_1 : decode cX12_goToNode 1 = .ok (.ifnonnull 14, 3) := by decide +kernel
theorem dX12_goToNode_4 : decode cX12_goToNode 4 = .ok (.new 163, 3) := by decide +kernel
theorem dX12_goToNode_7 : decode cX12_goToNode 7 = .ok (.dup, 1) := by decide +kernel
theorem dX12_goToNode_8 : decode cX12_goToNode 8 = .ok (.ldc_w 403, 3) := by decide +kernel
theorem dX12_goToNode_11 : decode cX12_goToNode 11 = .ok (.invokespecial 167, 3) := by decide +kernel
theorem dX12_goToNode_14 : decode cX12_goToNode 14 = .ok (.athrow, 1) := by decide +kernel
theorem dX12_goToNode_15 : decode cX12_goToNode 15 = .ok (.aload_n 0, 1) := by decide +kernel
theorem dX12_goToNode_16 : decode cX12_goToNode 16 = .ok (.getfield 29, 3) := by decide +kernel
theorem dX12_goToNode_19 : decode cX12_goToNode 19 = .ok (.aload_n 1, 1) := by decide +kernel
theorem dX12_goToNode_20 : decode cX12_goToNode 20 = .ok (.putfield 98, 3) := by decide +kernel
theorem dX12_goToNode_23 : decode cX12_goToNode 23 = .ok (.aload_n 0, 1) := by decide +kernel
theorem dX12_goToNode_24 : decode cX12_goToNode 24 = .ok (.getfield 10, 3) := by decide +kernel
theorem dX12_goToNode_27 : decode cX12_goToNode 27 = .ok (.getfield 223, 3) := by decide +kernel
theorem dX12_goToNode_30 : decode cX12_goToNode 30 = .ok (.aload_n 1, 1) := by decide +kernel
theorem dX12_goToNode_31 : decode cX12_goToNode 31 = .ok (.getfield 308, 3) := by decide +kernel
theorem dX12_goToNode_34 : decode cX12_goToNode 34 = .ok (.aload_n 0, 1) := by decide +kernel
theorem dX12_goToNode_35 : decode cX12_goToNode 35 = .ok (.getfield 22, 3) := by decide +kernel
theorem dX12_goToNode_38 : decode cX12_goToNode 38 = .ok (.invokevirtual 385, 3) := by decide +kernel
theorem dX12_goToNode_41 : decode cX12_goToNode 41 = .ok (.aload_n 0, 1) := by decide +kernel
theorem dX12_goToNode_42 : decode cX12_goToNode 42 = .ok (.getfield 10, 3) := by decide +kernel
theorem dX12_goToNode_45 : decode cX12_goToNode 45 = .ok (.aload_n 1, 1) := by decide +kernel
theorem dX12_goToNode_46 : decode cX12_goToNode 46 = .ok (.getfield 389, 3) := by decide +kernel
theorem dX12_goToNode_49 : decode cX12_goToNode 49 = .ok (.putfield 271, 3) := by decide +kernel
theorem dX12_goToNode_52 : decode cX12_goToNode 52 = .ok (.aload_n 0, 1) := by decide +kernel
theorem dX12_goToNode_53 : decode cX12_goToNode 53 = .ok (.getfield 10, 3) := by decide +kernel
theorem dX12_goToNode_56 : decode cX12_goToNode 56 = .ok (.iconst 0, 1) := by decide +kernel
theorem dX12_goToNode_57 : decode cX12_goToNode 57 = .ok (.putfield 405, 3) := by decide +kernel
theorem dX12_goToNode_60 : decode cX12_goToNode 60 = .ok (.aload_n 0, 1) := by decide +kernel
theorem dX12_goToNode_61 : decode cX12_goToNode 61 = .ok (.iconst 0, 1) := by decide +kernel
theorem dX12_goToNode_62 : decode cX12_goToNode 62 = .ok (.putfield 113, 3) := by decide +kernel
theorem dX12_goToNode_65 : decode cX12_goToNode 65 = .ok (.aload_n 1, 1) := by decide +kernel
theorem dX12_goToNode_66 : decode cX12_goToNode 66 = .ok (.getfield 181, 3) := by decide +kernel
theorem dX12_goToNode_69 : decode cX12_goToNode 69 = .ok (.ireturn, 1) := by decide +kernel
set_option maxRecDepth 4000 in
theorem kX12_goToNode (γ : LC) (w : Mm) (f x k : Int) (p : RP) (μ : MU) (A : Mm) (S P M : Int) (h : CHB p μ f (lvL p μ A) w A) (hRB : RB μ S P M A) (hS : S ≤ 28900) (hP : P ≤ 500000) (hM : M ≤ 598) (hb28 : ∀ j, 0 ≤ j → j < 3 → A 228 0 j = 0 ∨ A 228 0 j = 1) (hz : A 122 μ.1 0 = A 120 μ.1 0) (hx : x = 0 ∨ (x = pn_ p k ∧ alv μ A k)) : KI γ 7 mX12_goToNode [rv f, rv x] w (2) (406) (fun r w' => (r = k ∧ x ≠ 0) ∧ RES μ f w w' (m_wks μ (pl_ p) k A)) (fun E w' => E = "java/lang/IllegalStateException" ∧ x = 0 ∧ w' = w) := by
  refine MX_of rfl rfl (by simp [rv_cat, int_cat]) rfl ?_
  rintro κ hO hF rfl
  have hD := hF.dp
  show X κ (2) (406) w 0 [some (rv f), some (rv x)] []
  obtain ⟨hr, hTX, hLV⟩ := id h
  obtain ⟨t0, hFB, t2, tS⟩ := hr.toF
  have hT := hRB.2.1.2.2.2.1
  have cT0 := (h.cur hT).2.1
  have e41w1 := trivial
  have e11w1 := trivial
  have e24w1 := trivial
  have e44w1 := trivial
  have e65w1 := trivial
  have e63w1 := trivial
  have e41w_38 := trivial
  have e11w_38 := trivial
  have e24w_38 := trivial
  have e44w_38 := trivial
  have e65w_38 := trivial
  have e63w_38 := trivial
  refine X_aload_n 1 hO dX12_goToNode_0 rfl rfl ?_
  refine X_ifnonnull 4 15 hO dX12_goToNode_1 rfl rfl (fun hc_1 => ?_) (fun hc_1 => ?_)
  ·
    have hx0 : x ≠ 0 := hc_1
    obtain ⟨hx1, ha⟩ := hx.resolve_left hx0
    subst hx1
    have tN := hr.nd ha
    have tX := (hr.tg5 ha).1
    have k0 := ha.1
    refine X_aload_n 16 hO dX12_goToNode_15 rfl rfl ?_
    refine gX12_29 19 hO dX12_goToNode_16 rfl (by first | assumption | omega | (simp (disch := first | decide | assumption | omega) only [up_k, up_s, up_a, up_i, flA_k, flA_a, flA_n, cpA_k, cpA_a, newO_o, newA_o, newO_t, newA_t, newA_n, cpQ_k, cpQ_a] <;> first | assumption | omega)) ?_
    try simp (disch := first | decide | assumption | omega) only [up_k, up_s, up_a, up_i, flA_k, flA_a, flA_n, cpA_k, cpA_a, newO_o, newA_o, newO_t, newA_t, newA_n, cpQ_k, cpQ_a, e41w1, e11w1, e24w1, e44w1, e65w1, e63w1, e41w_38, e11w_38, e24w_38, e44w_38, e65w_38, e63w_38]
    refine X_aload_n 20 hO dX12_goToNode_19 rfl rfl ?_
    refine pX12_98 23 hO dX12_goToNode_20 rfl (by first | assumption | omega | (simp (disch := first | decide | assumption | omega) only [up_k, up_s, up_a, up_i, flA_k, flA_a, flA_n, cpA_k, cpA_a, newO_o, newA_o, newO_t, newA_t, newA_n, cpQ_k, cpQ_a] <;> first | assumption | omega)) ?_
    obtain ⟨w1, hw1⟩ : ∃ w1, w1 = up w 40 (w 45 f 0) 0 (pn_ p k) := ⟨_, rfl⟩
    refine X_eqW hw1.symm ?_
    have e1 : ∀ {k' : Nat} {a i : Int}, k' ≠ 40 → w1 k' a i = w k' a i := fun z => by rw [hw1]; exact up_k _ z _ _ _ _ _
    clear e41w1 e11w1 e24w1 e44w1 e65w1 e63w1
    have c13w1 : w1 0 f 0 = 13 := by rw [e1 (by decide)]; exact t0
    have c2w1 : w1 0 (w 41 f 0) 0 = 2 := by rw [e1 (by decide)]; exact t2
    have c5w1 : w1 0 (pn_ p k) 0 = 5 := by rw [e1 (by decide)]; exact tX
    have c6w1 : w1 0 (w 11 (w 41 f 0) 0) 0 = 6 := by rw [e1 (by decide)]; exact tS
    have e41w1 : w1 41 f 0 = w 41 f 0 := by rw [e1 (by decide)]
    have e11w1 : w1 11 (w 41 f 0) 0 = w 11 (w 41 f 0) 0 := by rw [e1 (by decide)]
    have e24w1 : w1 24 (pn_ p k) 0 = w 24 (pn_ p k) 0 := by rw [e1 (by decide)]
    have e44w1 : w1 44 f 0 = w 44 f 0 := by rw [e1 (by decide)]
    have e65w1 : w1 65 (pn_ p k) 0 = A 224 0 k := by rw [e1 (by decide)]; exact tN.2.2.2.1.2.2.1
    have e63w1 : w1 63 (pn_ p k) 0 = k := by rw [e1 (by decide)]; exact tN.1.2
    have hd := hr.1.2.2.1.1.1
    have lv1 := live_cg hr.lvs (W := w1) (fun k' a i _ z => e1 (by omega))
    have nd1 := live_cg (W := w1) ⟨tN.2.1.1.toST, tN.2.1.2.1.toSZ, tN.2.1.2.1.toSB, tN.2.1.2.toSE⟩ (fun k' a i _ z => e1 (by omega))
    have hSD : SD w1 (w 11 (w 41 f 0) 0) (w 24 (pn_ p k) 0) := by
      have q : SD w (w 11 (w 41 f 0) 0) (w 24 (pn_ p k) 0) := hd.2.1.toSD tN.2.1.1 (by omega)
      unfold SD at q ⊢
      simp (disch := decide) only [e1]; exact q
    have hcap : w1 2 (w1 28 (w 11 (w 41 f 0) 0) 0) 0 = 400 := by rw [e1 (by decide), e1 (by decide)]; exact hd.2.2.1
    have h67 : w1 67 (w 24 (pn_ p k) 0) 0 ≤ 400 := by rw [e1 (by decide)]; have := tN.2.1.2.1.2.1; omega
    have htr : w1 0 (w 44 f 0) 0 = 21 ∧ w1 2 (w 44 f 0) 0 = 5 := by rw [e1 (by decide), e1 (by decide)]; exact hr.toTr.1
    have htr30 : w 44 f 0 ≠ w1 30 (w 11 (w 41 f 0) 0) 0 := by
      rw [e1 (by decide)]
      exact ne_c hr.1.2.1.2.1.2.2 hd.2.1.2.2.2.1.2.2 (by decide)
    refine X_aload_n 24 hO dX12_goToNode_23 rfl rfl ?_
    refine gX12_10 27 hO dX12_goToNode_24 rfl (by first | assumption | omega | (simp (disch := first | decide | assumption | omega) only [up_k, up_s, up_a, up_i, flA_k, flA_a, flA_n, cpA_k, cpA_a, newO_o, newA_o, newO_t, newA_t, newA_n, cpQ_k, cpQ_a] <;> first | assumption | omega)) ?_
    try simp (disch := first | decide | assumption | omega) only [up_k, up_s, up_a, up_i, flA_k, flA_a, flA_n, cpA_k, cpA_a, newO_o, newA_o, newO_t, newA_t, newA_n, cpQ_k, cpQ_a, e41w1, e11w1, e24w1, e44w1, e65w1, e63w1, e41w_38, e11w_38, e24w_38, e44w_38, e65w_38, e63w_38]
    refine gX12_223 30 hO dX12_goToNode_27 rfl (by first | assumption | omega | (simp (disch := first | decide | assumption | omega) only [up_k, up_s, up_a, up_i, flA_k, flA_a, flA_n, cpA_k, cpA_a, newO_o, newA_o, newO_t, newA_t, newA_n, cpQ_k, cpQ_a] <;> first | assumption | omega)) ?_
    try simp (disch := first | decide | assumption | omega) only [up_k, up_s, up_a, up_i, flA_k, flA_a, flA_n, cpA_k, cpA_a, newO_o, newA_o, newO_t, newA_t, newA_n, cpQ_k, cpQ_a, e41w1, e11w1, e24w1, e44w1, e65w1, e63w1, e41w_38, e11w_38, e24w_38, e44w_38, e65w_38, e63w_38]
    refine X_aload_n 31 hO dX12_goToNode_30 rfl rfl ?_
    refine gX12_308 34 hO dX12_goToNode_31 rfl (by first | assumption | omega | (simp (disch := first | decide | assumption | omega) only [up_k, up_s, up_a, up_i, flA_k, flA_a, flA_n, cpA_k, cpA_a, newO_o, newA_o, newO_t, newA_t, newA_n, cpQ_k, cpQ_a] <;> first | assumption | omega)) ?_
    try simp (disch := first | decide | assumption | omega) only [up_k, up_s, up_a, up_i, flA_k, flA_a, flA_n, cpA_k, cpA_a, newO_o, newA_o, newO_t, newA_t, newA_n, cpQ_k, cpQ_a, e41w1, e11w1, e24w1, e44w1, e65w1, e63w1, e41w_38, e11w_38, e24w_38, e44w_38, e65w_38, e63w_38]
    refine X_aload_n 35 hO dX12_goToNode_34 rfl rfl ?_
    refine gX12_22 38 hO dX12_goToNode_35 rfl (by first | assumption | omega | (simp (disch := first | decide | assumption | omega) only [up_k, up_s, up_a, up_i, flA_k, flA_a, flA_n, cpA_k, cpA_a, newO_o, newA_o, newO_t, newA_t, newA_n, cpQ_k, cpQ_a] <;> first | assumption | omega)) ?_
    try simp (disch := first | decide | assumption | omega) only [up_k, up_s, up_a, up_i, flA_k, flA_a, flA_n, cpA_k, cpA_a, newO_o, newA_o, newO_t, newA_t, newA_n, cpQ_k, cpQ_a, e41w1, e11w1, e24w1, e44w1, e65w1, e63w1, e41w_38, e11w_38, e24w_38, e44w_38, e65w_38, e63w_38]
    refine X_kVv (t := 6) 41 hO hD lX12_385 rfl (by decide) [_, _] rfl dX12_goToNode_38 rfl (by first | assumption | omega | (simp (disch := first | decide | assumption | omega) only [up_k, up_s, up_a, up_i, flA_k, flA_a, flA_n, cpA_k, cpA_a, newO_o, newA_o, newO_t, newA_t, newA_n, cpQ_k, cpQ_a] <;> first | assumption | omega)) (kX5_take _ _ _ _ _ 400 lv1.1 nd1.1 hSD nd1.2.1 (by rw [hcap]; decide) nd1.2.2.1 nd1.2.2.2 h67 htr htr30) (by decide) (by simp [rv_cat, int_cat]) (by first | decide | exact Nat.zero_le _ | omega) (by first | decide | exact Nat.zero_le _ | omega) (fun w_38 hp_38 => ?_) (fun E w_ hx_ => hx_.elim)
    obtain ⟨W, hW, e38⟩ := hp_38
    rw [TM_tm hW (by rw [hcap]; exact h67)] at e38
    have g5 : ∀ {k' : Nat} {a i : Int}, (k' ≠ 1 ∧ k' ≠ 3 ∧ k' ≠ 40 ∧ k' ≠ 67) → w_38 k' a i = w k' a i := fun z => by rw [e38, t_tk_k z.2.1]; exact (t_tmj_k z.1 z.2.2.2).trans (e1 z.2.2.1)
    clear e41w_38 e11w_38 e24w_38 e44w_38 e65w_38 e63w_38
    have c13w_38 : w_38 0 f 0 = 13 := by rw [g5 (by decide)]; exact t0
    have c2w_38 : w_38 0 (w 41 f 0) 0 = 2 := by rw [g5 (by decide)]; exact t2
    have c5w_38 : w_38 0 (pn_ p k) 0 = 5 := by rw [g5 (by decide)]; exact tX
    have c6w_38 : w_38 0 (w 11 (w 41 f 0) 0) 0 = 6 := by rw [g5 (by decide)]; exact tS
    have e41w_38 : w_38 41 f 0 = w 41 f 0 := by rw [g5 (by decide)]
    have e11w_38 : w_38 11 (w 41 f 0) 0 = w 11 (w 41 f 0) 0 := by rw [g5 (by decide)]
    have e24w_38 : w_38 24 (pn_ p k) 0 = w 24 (pn_ p k) 0 := by rw [g5 (by decide)]
    have e44w_38 : w_38 44 f 0 = w 44 f 0 := by rw [g5 (by decide)]
    have e65w_38 : w_38 65 (pn_ p k) 0 = A 224 0 k := by rw [g5 (by decide)]; exact tN.2.2.2.1.2.2.1
    have e63w_38 : w_38 63 (pn_ p k) 0 = k := by rw [g5 (by decide)]; exact tN.1.2
    refine X_aload_n 42 hO dX12_goToNode_41 rfl rfl ?_
    refine gX12_10 45 hO dX12_goToNode_42 rfl (by first | assumption | omega | (simp (disch := first | decide | assumption | omega) only [up_k, up_s, up_a, up_i, flA_k, flA_a, flA_n, cpA_k, cpA_a, newO_o, newA_o, newO_t, newA_t, newA_n, cpQ_k, cpQ_a] <;> first | assumption | omega)) ?_
    try simp (disch := first | decide | assumption | omega) only [up_k, up_s, up_a, up_i, flA_k, flA_a, flA_n, cpA_k, cpA_a, newO_o, newA_o, newO_t, newA_t, newA_n, cpQ_k, cpQ_a, e41w1, e11w1, e24w1, e44w1, e65w1, e63w1, e41w_38, e11w_38, e24w_38, e44w_38, e65w_38, e63w_38]
    refine X_aload_n 46 hO dX12_goToNode_45 rfl rfl ?_
    refine gX12_389 49 hO dX12_goToNode_46 rfl (by first | assumption | omega | (simp (disch := first | decide | assumption | omega) only [up_k, up_s, up_a, up_i, flA_k, flA_a, flA_n, cpA_k, cpA_a, newO_o, newA_o, newO_t, newA_t, newA_n, cpQ_k, cpQ_a] <;> first | assumption | omega)) (fun hi_46 => ?_)
    try simp (disch := first | decide | assumption | omega) only [up_k, up_s, up_a, up_i, flA_k, flA_a, flA_n, cpA_k, cpA_a, newO_o, newA_o, newO_t, newA_t, newA_n, cpQ_k, cpQ_a, e41w1, e11w1, e24w1, e44w1, e65w1, e63w1, e41w_38, e11w_38, e24w_38, e44w_38, e65w_38, e63w_38] at hi_46 ⊢
    refine pX12_271 52 hO dX12_goToNode_49 rfl (by first | assumption | omega | (simp (disch := first | decide | assumption | omega) only [up_k, up_s, up_a, up_i, flA_k, flA_a, flA_n, cpA_k, cpA_a, newO_o, newA_o, newO_t, newA_t, newA_n, cpQ_k, cpQ_a] <;> first | assumption | omega)) (by omega) ?_
    refine X_aload_n 53 hO dX12_goToNode_52 rfl rfl ?_
    refine gX12_10 56 hO dX12_goToNode_53 rfl (by first | assumption | omega | (simp (disch := first | decide | assumption | omega) only [up_k, up_s, up_a, up_i, flA_k, flA_a, flA_n, cpA_k, cpA_a, newO_o, newA_o, newO_t, newA_t, newA_n, cpQ_k, cpQ_a] <;> first | assumption | omega)) ?_
    try simp (disch := first | decide | assumption | omega) only [up_k, up_s, up_a, up_i, flA_k, flA_a, flA_n, cpA_k, cpA_a, newO_o, newA_o, newO_t, newA_t, newA_n, cpQ_k, cpQ_a, e41w1, e11w1, e24w1, e44w1, e65w1, e63w1, e41w_38, e11w_38, e24w_38, e44w_38, e65w_38, e63w_38]
    refine X_iconst 57 hO dX12_goToNode_56 rfl ?_
    refine pX12_405 60 hO dX12_goToNode_57 rfl (by first | assumption | omega | (simp (disch := first | decide | assumption | omega) only [up_k, up_s, up_a, up_i, flA_k, flA_a, flA_n, cpA_k, cpA_a, newO_o, newA_o, newO_t, newA_t, newA_n, cpQ_k, cpQ_a] <;> first | assumption | omega)) (by omega) ?_
    refine X_aload_n 61 hO dX12_goToNode_60 rfl rfl ?_
    refine X_iconst 62 hO dX12_goToNode_61 rfl ?_
    refine pX12_113 65 hO dX12_goToNode_62 rfl (by first | assumption | omega | (simp (disch := first | decide | assumption | omega) only [up_k, up_s, up_a, up_i, flA_k, flA_a, flA_n, cpA_k, cpA_a, newO_o, newA_o, newO_t, newA_t, newA_n, cpQ_k, cpQ_a] <;> first | assumption | omega)) (by omega) ?_
    refine X_aload_n 66 hO dX12_goToNode_65 rfl rfl ?_
    refine gX12_181 69 hO dX12_goToNode_66 rfl (by first | assumption | omega | (simp (disch := first | decide | assumption | omega) only [up_k, up_s, up_a, up_i, flA_k, flA_a, flA_n, cpA_k, cpA_a, newO_o, newA_o, newO_t, newA_t, newA_n, cpQ_k, cpQ_a] <;> first | assumption | omega)) (fun hi_66 => ?_)
    try simp (disch := first | decide | assumption | omega) only [up_k, up_s, up_a, up_i, flA_k, flA_a, flA_n, cpA_k, cpA_a, newO_o, newA_o, newO_t, newA_t, newA_n, cpQ_k, cpQ_a, e41w1, e11w1, e24w1, e44w1, e65w1, e63w1, e41w_38, e11w_38, e24w_38, e44w_38, e65w_38, e63w_38] at hi_66 ⊢
    exact X_iret hO hF rfl (by first | exact Or.inl rfl | exact Or.inr ⟨rfl, bi_01 _⟩ | exact Or.inr ⟨rfl, by omega⟩) dX12_goToNode_69 ⟨_, rfl, (by omega), (by
  have q := h.go hT (by omega) hRB.2.1.2.2.1 hRB.1.1 hRB.1.2.2.2.1 hz ha hw1 e38 rfl
  exact ⟨⟨rfl, hx0⟩, p, q.1, q.2⟩)⟩
  ·
    exact X_throwISEW hO hF (by decide) (text := "there is no node to walk to") (by decide) dX12_goToNode_4 dX12_goToNode_7 dX12_goToNode_8 dX12_goToNode_11 dX12_goToNode_14 (by first | exact ⟨rfl, by omega, rfl⟩) (by first | decide | omega) (by first | decide | omega) (by simp [rv_cat, int_cat])
theorem al9 {μ : MU} {A : Mm} {k : Int} : alv μ (up A 139 μ.1 0 0) k ↔ alv μ A k := by unfold alv; rw [up_k _ (by decide), up_k _ (by decide)]
theorem wks9 {p : RP} {μ : MU} {A : Mm} {f S P M k : Int} {w : Mm} (h : CHB p μ f (lvL p μ A) w A) (hRB : RB μ S P M A) (hM : M ≤ 598) (ha : alv μ A k) : (m_wks μ (pl_ p) k (up A 139 μ.1 0 0)) 139 μ.1 0 = 0 := by
  have h9 := h.o9 (v := 0) hRB hM
  have hR9 : RB μ S P M (up A 139 μ.1 0 0) := hRB.o9
  have hQ := h9.2.1.1.1.rq hR9.2.1.2.2.2.1 (by omega) (al9.mpr ha)
  rw [wks_at hR9.2.1.2.2.1 h9.2.2.b0.2.2.2 hQ.1 (by decide), up_s]
theorem dX12_undo_0 : decode cX12_undo 0 = .ok (.aload_n 0, 1) := by decide +kernel
theorem dX12_undo_1 : decode cX12_undo 1 = .ok (.invokevirtual 201, 3) := by decide +kernel
theorem dX12_undo_4 : decode cX12_undo 4 = .ok (.aload_n 0, 1) := by decide +kernel
theorem dX12_undo_5 : decode cX12_undo 5 = .ok (.aload_n 0, 1) := by decide +kernel
theorem dX12_undo_6 : decode cX12_undo 6 = .ok (.getfield 29, 3) := by decide +kernel
theorem dX12_undo_9 : decode cX12_undo 9 = .ok (.getfield 98, 3) := by decide +kernel
theorem dX12_undo_12 : decode cX12_undo 12 = .ok (.getfield 204, 3) := by decide +kernel
theorem dX12_undo_15 : decode cX12_undo 15 = .ok (.invokevirtual 207, 3) := by decide +kernel
theorem dX12_undo_18 : decode cX12_undo 18 = .ok (.ireturn, 1) := by decide +kernel
set_option maxRecDepth 4000 in
theorem kX12_undo (γ : LC) (w : Mm) (f : Int) (p : RP) (μ : MU) (A : Mm) (S P M : Int) (h : CHB p μ f (lvL p μ A) w A) (hRB : RB μ S P M A) (hS : S ≤ 28900) (hP : P ≤ 500000) (hM : M ≤ 598) (hb28 : ∀ j, 0 ≤ j → j < 3 → A 228 0 j = 0 ∨ A 228 0 j = 1) : KI γ 10 mX12_undo [rv f] w (3) (412) (fun r w' => r = (o_undo μ (pl_ p) A).1 ∧ (o_undo μ (pl_ p) A).2 139 μ.1 0 = 0 ∧ RES μ f w w' (o_undo μ (pl_ p) A).2) (fun E w' => E = "java/lang/IllegalStateException" ∧ (o_undo μ (pl_ p) A).2 139 μ.1 0 = 1 ∧ RES μ f w w' (o_undo μ (pl_ p) A).2) := by
  refine MX_of rfl rfl (by simp [rv_cat, int_cat]) rfl ?_
  rintro κ hO hF rfl
  have hD := hF.dp
  show X κ (3) (412) w 0 [some (rv f)] []
  refine X_wi fun hWI => ?_
  have t0 := h.1.toF.1
  have h9 := h.o9 (v := 0) hRB hM
  have hR9 : RB μ S P M (up A 139 μ.1 0 0) := hRB.o9
  have hT := hRB.2.1.2.2.2.1
  have hE := h.2.1.1.1.1
  have ha0 := hE.cur hT
  have e87 : w 87 f 0 = A 132 μ.1 0 := h.1.1.2.1.2.2.2.2.1
  have hcu := h.cur hT
  have cT := hcu.2.1
  have cC := hcu.2.2
  have v7 : w 40 (w 45 f 0) 0 = pn_ p (A 126 μ.1 0) := h.1.1.2.2.2.1.1.2.2.2.2.1
  have hz5 := hRB.2.2.1.2.2.2.2
  have hz1 := hRB.2.2.1.1
  have hal : A 126 μ.1 0 ≠ 0 → alv μ A (A 217 0 (A 126 μ.1 0)) := fun z => (hT.par hE ha0 z).1
  have e26 : w 26 (pn_ p (A 126 μ.1 0)) 0 = (if A 217 0 (A 126 μ.1 0) = -1 then 0 else pn_ p (A 217 0 (A 126 μ.1 0))) := (h.1.nd ha0).2.2.2.1.1
  have hyes : A 126 μ.1 0 = 0 → w 26 (w 40 (w 45 f 0) 0) 0 = 0 := fun z => by rw [v7, e26, if_pos (by rw [z]; exact hT.p0)]
  have hx9 : w 26 (w 40 (w 45 f 0) 0) 0 = 0 ∨ (w 26 (w 40 (w 45 f 0) 0) 0 = pn_ p (A 217 0 (A 126 μ.1 0)) ∧ alv μ (up A 139 μ.1 0 0) (A 217 0 (A 126 μ.1 0))) := by
    by_cases z : A 126 μ.1 0 = 0
    · exact Or.inl (hyes z)
    · exact Or.inr ⟨by rw [v7, e26, if_neg (hT.par hE ha0 z).2], al9.mpr (hal z)⟩
  have hno : w 26 (w 40 (w 45 f 0) 0) 0 = 0 → A 126 μ.1 0 = 0 := fun y => by
    apply Classical.byContradiction
    intro z
    rw [v7, e26, if_neg (hT.par hE ha0 z).2] at y
    have := h.1.pos hWI (hal z)
    omega
  refine X_aload_n 1 hO dX12_undo_0 rfl rfl ?_
  refine X_kVv (t := 13) 4 hO hD lX12_201 rfl (by decide) [] rfl dX12_undo_1 rfl (by first | assumption | omega | (simp (disch := first | decide | assumption | omega) only [up_k, up_s, up_a, up_i, flA_k, flA_a, flA_n, cpA_k, cpA_a, newO_o, newA_o, newO_t, newA_t, newA_n, cpQ_k, cpQ_a] <;> first | assumption | omega)) (kX12_refuseInGroup _ _ _ t0) (by decide) (by simp [rv_cat, int_cat]) (by first | decide | exact Nat.zero_le _ | omega) (by first | decide | exact Nat.zero_le _ | omega) (fun w_1 hp_1 => ?_) (fun E w_ hx_ => (XE_out hO hF (by
  obtain ⟨x1, x2, x3⟩ := hx_
  have g1 : A 132 μ.1 0 = 1 := by omega
  have eo : o_undo μ (pl_ p) A = (0, m_th μ 1 A) := by unfold o_undo; rw [if_pos (Or.inl g1)]
  rw [eo, x3]
  exact ⟨x1, up_s _ _ _ _ _, h.r9 hRB hM⟩)))
  obtain ⟨e1_1, e2_1⟩ := hp_1
  subst w_1
  have g0 : A 132 μ.1 0 = 0 := by omega
  have hz : (up A 139 μ.1 0 0) 122 μ.1 0 = (up A 139 μ.1 0 0) 120 μ.1 0 := by rw [up_k _ (by decide), up_k _ (by decide)]; exact hz5 g0
  refine X_aload_n 5 hO dX12_undo_4 rfl rfl ?_
  refine X_aload_n 6 hO dX12_undo_5 rfl rfl ?_
  refine gX12_29 9 hO dX12_undo_6 rfl (by first | assumption | omega | (simp (disch := first | decide | assumption | omega) only [up_k, up_s, up_a, up_i, flA_k, flA_a, flA_n, cpA_k, cpA_a, newO_o, newA_o, newO_t, newA_t, newA_n, cpQ_k, cpQ_a] <;> first | assumption | omega)) ?_
  try simp (disch := first | decide | assumption | omega) only [up_k, up_s, up_a, up_i, flA_k, flA_a, flA_n, cpA_k, cpA_a, newO_o, newA_o, newO_t, newA_t, newA_n, cpQ_k, cpQ_a]
  refine gX12_98 12 hO dX12_undo_9 rfl (by first | assumption | omega | (simp (disch := first | decide | assumption | omega) only [up_k, up_s, up_a, up_i, flA_k, flA_a, flA_n, cpA_k, cpA_a, newO_o, newA_o, newO_t, newA_t, newA_n, cpQ_k, cpQ_a] <;> first | assumption | omega)) ?_
  try simp (disch := first | decide | assumption | omega) only [up_k, up_s, up_a, up_i, flA_k, flA_a, flA_n, cpA_k, cpA_a, newO_o, newA_o, newO_t, newA_t, newA_n, cpQ_k, cpQ_a]
  refine gX12_204 15 hO dX12_undo_12 rfl (by first | assumption | omega | (simp (disch := first | decide | assumption | omega) only [up_k, up_s, up_a, up_i, flA_k, flA_a, flA_n, cpA_k, cpA_a, newO_o, newA_o, newO_t, newA_t, newA_n, cpQ_k, cpQ_a] <;> first | assumption | omega)) ?_
  try simp (disch := first | decide | assumption | omega) only [up_k, up_s, up_a, up_i, flA_k, flA_a, flA_n, cpA_k, cpA_a, newO_o, newA_o, newO_t, newA_t, newA_n, cpQ_k, cpQ_a]
  refine X_kVi (t := 13) 18 hO hD lX12_207 rfl (by decide) [_] rfl dX12_undo_15 rfl (by first | assumption | omega | (simp (disch := first | decide | assumption | omega) only [up_k, up_s, up_a, up_i, flA_k, flA_a, flA_n, cpA_k, cpA_a, newO_o, newA_o, newO_t, newA_t, newA_n, cpQ_k, cpQ_a] <;> first | assumption | omega)) (kX12_goToNode _ _ _ _ (A 217 0 (A 126 μ.1 0)) p μ (up A 139 μ.1 0 0) S P M h9 hR9 hS hP hM (fun j j0 j1 => by rw [up_k _ (by decide)]; exact hb28 j j0 j1) hz hx9) (by decide) (by simp [rv_cat, int_cat]) (by first | decide | exact Nat.zero_le _ | omega) (by first | decide | exact Nat.zero_le _ | omega) (fun r_15 w_15 hr_15 hp_15 => ?_) (fun E w_ hx_ => (XE_out hO hF (by
  obtain ⟨x1, x2, x3⟩ := hx_
  have g1 : A 126 μ.1 0 = 0 := hno x2
  have eo : o_undo μ (pl_ p) A = (0, m_th μ 1 A) := by unfold o_undo; rw [if_pos (Or.inr g1)]
  rw [eo, x3]
  exact ⟨x1, up_s _ _ _ _ _, h.r9 hRB hM⟩)))
  obtain ⟨⟨f1, f2⟩, f3⟩ := hp_15
  exact X_iret hO hF rfl (by first | exact Or.inl rfl | exact Or.inr ⟨rfl, bi_01 _⟩ | exact Or.inr ⟨rfl, by omega⟩) dX12_undo_18 ⟨_, rfl, (by omega), (by
  have hn : ¬ (A 126 μ.1 0 = 0) := fun z => f2 (hyes z)
  have eo : o_undo μ (pl_ p) A = ((A 217 0 (A 126 μ.1 0)), m_wks μ (pl_ p) (A 217 0 (A 126 μ.1 0)) (up A 139 μ.1 0 0)) := by unfold o_undo; rw [if_neg (fun z => z.elim (fun y => by omega) hn)]; rfl
  rw [eo]
  exact ⟨f1, wks9 h hRB hM (hal hn), f3⟩)⟩
theorem dX12_redo_0 : decode cX12_redo 0 = .ok (.aload_n 0, 1) := by decide +kernel
theorem dX12_redo_1 : decode cX12_redo 1 = .ok (.invokevirtual 201, 3) := by decide +kernel
theorem dX12_redo_4 : decode cX12_redo 4 = .ok (.aload_n 0, 1) := by decide +kernel
theorem dX12_redo_5 : decode cX12_redo 5 = .ok (.aload_n 0, 1) := by decide +kernel
theorem dX12_redo_6 : decode cX12_redo 6 = .ok (.getfield 29, 3) := by decide +kernel
theorem dX12_redo_9 : decode cX12_redo 9 = .ok (.aload_n 0, 1) := by decide +kernel
theorem dX12_redo_10 : decode cX12_redo 10 = .ok (.getfield 29, 3) := by decide +kernel
theorem dX12_redo_13 : decode cX12_redo 13 = .ok (.getfield 98, 3) := by decide +kernel
theorem dX12_redo_16 : decode cX12_redo 16 = .ok (.invokevirtual 211, 3) := by decide +kernel
theorem dX12_redo_19 : decode cX12_redo 19 = .ok (.invokevirtual 207, 3) := by decide +kernel
theorem dX12_redo_22 : decode cX12_redo 22 = .ok (.ireturn, 1) := by decide +kernel
set_option maxRecDepth 4000 in
theorem kX12_redo (γ : LC) (w : Mm) (f : Int) (p : RP) (μ : MU) (A : Mm) (S P M : Int) (h : CHB p μ f (lvL p μ A) w A) (hRB : RB μ S P M A) (hS : S ≤ 28900) (hP : P ≤ 500000) (hM : M ≤ 598) (hb28 : ∀ j, 0 ≤ j → j < 3 → A 228 0 j = 0 ∨ A 228 0 j = 1) : KI γ 10 mX12_redo [rv f] w (3) (412) (fun r w' => r = (o_redo μ (pl_ p) A).1 ∧ (o_redo μ (pl_ p) A).2 139 μ.1 0 = 0 ∧ RES μ f w w' (o_redo μ (pl_ p) A).2) (fun E w' => E = "java/lang/IllegalStateException" ∧ (o_redo μ (pl_ p) A).2 139 μ.1 0 = 1 ∧ RES μ f w w' (o_redo μ (pl_ p) A).2) := by
  refine MX_of rfl rfl (by simp [rv_cat, int_cat]) rfl ?_
  rintro κ hO hF rfl
  have hD := hF.dp
  show X κ (3) (412) w 0 [some (rv f)] []
  refine X_wi fun hWI => ?_
  have t0 := h.1.toF.1
  have h9 := h.o9 (v := 0) hRB hM
  have hR9 : RB μ S P M (up A 139 μ.1 0 0) := hRB.o9
  have hT := hRB.2.1.2.2.2.1
  have hE := h.2.1.1.1.1
  have ha0 := hE.cur hT
  have e87 : w 87 f 0 = A 132 μ.1 0 := h.1.1.2.1.2.2.2.2.1
  have hcu := h.cur hT
  have cT := hcu.2.1
  have cC := hcu.2.2
  have v7 : w 40 (w 45 f 0) 0 = pn_ p (A 126 μ.1 0) := h.1.1.2.2.2.1.1.2.2.2.2.1
  have hz5 := hRB.2.2.1.2.2.2.2
  have hz1 := hRB.2.2.1.1
  have hTR := h.1.toTR hWI hT hE h.2.1.1.2
  have hpc : 0 ≤ w 40 (w 45 f 0) 0 := by rw [v7]; exact Int.le_of_lt (h.1.pos hWI ha0)
  have hl9 := h.1.lch hWI hT hE ha0
  rw [← v7] at hl9
  have hal : ¬ (m_nwst μ (A 126 μ.1 0) A = -1) → alv μ A (m_nwst μ (A 126 μ.1 0) A) := fun z => by
    have := (nwst_rng (μ := μ) (x := A 126 μ.1 0) hT.1.1).resolve_left z
    exact ⟨⟨by omega, this.2.1⟩, this.2.2.1⟩
  have hyes : m_nwst μ (A 126 μ.1 0) A = -1 → t_last w (w 51 (w 38 (w 45 f 0) 0) 0) (w 40 (w 45 f 0) 0) (w 93 (w 38 (w 45 f 0) 0) 0).toNat = 0 := fun z => by rw [hl9, if_pos z]
  have hx9 : t_last w (w 51 (w 38 (w 45 f 0) 0) 0) (w 40 (w 45 f 0) 0) (w 93 (w 38 (w 45 f 0) 0) 0).toNat = 0 ∨ (t_last w (w 51 (w 38 (w 45 f 0) 0) 0) (w 40 (w 45 f 0) 0) (w 93 (w 38 (w 45 f 0) 0) 0).toNat = pn_ p (m_nwst μ (A 126 μ.1 0) A) ∧ alv μ (up A 139 μ.1 0 0) (m_nwst μ (A 126 μ.1 0) A)) := by
    by_cases z : m_nwst μ (A 126 μ.1 0) A = -1
    · exact Or.inl (hyes z)
    · exact Or.inr ⟨by rw [hl9, if_neg z], al9.mpr (hal z)⟩
  have hno : t_last w (w 51 (w 38 (w 45 f 0) 0) 0) (w 40 (w 45 f 0) 0) (w 93 (w 38 (w 45 f 0) 0) 0).toNat = 0 → m_nwst μ (A 126 μ.1 0) A = -1 := fun y => by
    apply Classical.byContradiction
    intro z
    rw [hl9, if_neg z] at y
    have := h.1.pos hWI (hal z)
    omega
  refine X_aload_n 1 hO dX12_redo_0 rfl rfl ?_
  refine X_kVv (t := 13) 4 hO hD lX12_201 rfl (by decide) [] rfl dX12_redo_1 rfl (by first | assumption | omega | (simp (disch := first | decide | assumption | omega) only [up_k, up_s, up_a, up_i, flA_k, flA_a, flA_n, cpA_k, cpA_a, newO_o, newA_o, newO_t, newA_t, newA_n, cpQ_k, cpQ_a] <;> first | assumption | omega)) (kX12_refuseInGroup _ _ _ t0) (by decide) (by simp [rv_cat, int_cat]) (by first | decide | exact Nat.zero_le _ | omega) (by first | decide | exact Nat.zero_le _ | omega) (fun w_1 hp_1 => ?_) (fun E w_ hx_ => (XE_out hO hF (by
  obtain ⟨x1, x2, x3⟩ := hx_
  have g1 : A 132 μ.1 0 = 1 := by omega
  have eo : o_redo μ (pl_ p) A = (0, m_th μ 1 A) := by unfold o_redo; rw [if_pos (Or.inl g1)]
  rw [eo, x3]
  exact ⟨x1, up_s _ _ _ _ _, h.r9 hRB hM⟩)))
  obtain ⟨e1_1, e2_1⟩ := hp_1
  subst w_1
  have g0 : A 132 μ.1 0 = 0 := by omega
  have hz : (up A 139 μ.1 0 0) 122 μ.1 0 = (up A 139 μ.1 0 0) 120 μ.1 0 := by rw [up_k _ (by decide), up_k _ (by decide)]; exact hz5 g0
  refine X_aload_n 5 hO dX12_redo_4 rfl rfl ?_
  refine X_aload_n 6 hO dX12_redo_5 rfl rfl ?_
  refine gX12_29 9 hO dX12_redo_6 rfl (by first | assumption | omega | (simp (disch := first | decide | assumption | omega) only [up_k, up_s, up_a, up_i, flA_k, flA_a, flA_n, cpA_k, cpA_a, newO_o, newA_o, newO_t, newA_t, newA_n, cpQ_k, cpQ_a] <;> first | assumption | omega)) ?_
  try simp (disch := first | decide | assumption | omega) only [up_k, up_s, up_a, up_i, flA_k, flA_a, flA_n, cpA_k, cpA_a, newO_o, newA_o, newO_t, newA_t, newA_n, cpQ_k, cpQ_a]
  refine X_aload_n 10 hO dX12_redo_9 rfl rfl ?_
  refine gX12_29 13 hO dX12_redo_10 rfl (by first | assumption | omega | (simp (disch := first | decide | assumption | omega) only [up_k, up_s, up_a, up_i, flA_k, flA_a, flA_n, cpA_k, cpA_a, newO_o, newA_o, newO_t, newA_t, newA_n, cpQ_k, cpQ_a] <;> first | assumption | omega)) ?_
  try simp (disch := first | decide | assumption | omega) only [up_k, up_s, up_a, up_i, flA_k, flA_a, flA_n, cpA_k, cpA_a, newO_o, newA_o, newO_t, newA_t, newA_n, cpQ_k, cpQ_a]
  refine gX12_98 16 hO dX12_redo_13 rfl (by first | assumption | omega | (simp (disch := first | decide | assumption | omega) only [up_k, up_s, up_a, up_i, flA_k, flA_a, flA_n, cpA_k, cpA_a, newO_o, newA_o, newO_t, newA_t, newA_n, cpQ_k, cpQ_a] <;> first | assumption | omega)) ?_
  try simp (disch := first | decide | assumption | omega) only [up_k, up_s, up_a, up_i, flA_k, flA_a, flA_n, cpA_k, cpA_a, newO_o, newA_o, newO_t, newA_t, newA_n, cpQ_k, cpQ_a]
  refine X_kVr (t := 11) 19 hO hD lX12_211 rfl (by decide) [_] rfl dX12_redo_16 rfl (by first | assumption | omega | (simp (disch := first | decide | assumption | omega) only [up_k, up_s, up_a, up_i, flA_k, flA_a, flA_n, cpA_k, cpA_a, newO_o, newA_o, newO_t, newA_t, newA_n, cpQ_k, cpQ_a] <;> first | assumption | omega)) (kX10_lastChild _ _ _ _ hTR hpc) (by decide) (by simp [rv_cat, int_cat]) (by first | decide | exact Nat.zero_le _ | omega) (by first | decide | exact Nat.zero_le _ | omega) (fun r_16 w_16 hp_16 => ?_) (fun E w_ hx_ => hx_.elim)
  obtain ⟨e1_16, e2_16⟩ := hp_16
  subst w_16
  subst r_16
  refine X_kVi (t := 13) 22 hO hD lX12_207 rfl (by decide) [_] rfl dX12_redo_19 rfl (by first | assumption | omega | (simp (disch := first | decide | assumption | omega) only [up_k, up_s, up_a, up_i, flA_k, flA_a, flA_n, cpA_k, cpA_a, newO_o, newA_o, newO_t, newA_t, newA_n, cpQ_k, cpQ_a] <;> first | assumption | omega)) (kX12_goToNode _ _ _ _ (m_nwst μ (A 126 μ.1 0) A) p μ (up A 139 μ.1 0 0) S P M h9 hR9 hS hP hM (fun j j0 j1 => by rw [up_k _ (by decide)]; exact hb28 j j0 j1) hz hx9) (by decide) (by simp [rv_cat, int_cat]) (by first | decide | exact Nat.zero_le _ | omega) (by first | decide | exact Nat.zero_le _ | omega) (fun r_19 w_19 hr_19 hp_19 => ?_) (fun E w_ hx_ => (XE_out hO hF (by
  obtain ⟨x1, x2, x3⟩ := hx_
  have g1 : m_nwst μ (A 126 μ.1 0) A = -1 := hno x2
  have eo : o_redo μ (pl_ p) A = (0, m_th μ 1 A) := by unfold o_redo; rw [if_pos (Or.inr g1)]
  rw [eo, x3]
  exact ⟨x1, up_s _ _ _ _ _, h.r9 hRB hM⟩)))
  obtain ⟨⟨f1, f2⟩, f3⟩ := hp_19
  exact X_iret hO hF rfl (by first | exact Or.inl rfl | exact Or.inr ⟨rfl, bi_01 _⟩ | exact Or.inr ⟨rfl, by omega⟩) dX12_redo_22 ⟨_, rfl, (by omega), (by
  have hn : ¬ (m_nwst μ (A 126 μ.1 0) A = -1) := fun z => f2 (hyes z)
  have eo : o_redo μ (pl_ p) A = ((m_nwst μ (A 126 μ.1 0) A), m_wks μ (pl_ p) (m_nwst μ (A 126 μ.1 0) A) (up A 139 μ.1 0 0)) := by unfold o_redo; rw [if_neg (fun z => z.elim (fun y => by omega) hn)]; rfl
  rw [eo]
  exact ⟨f1, wks9 h hRB hM (hal hn), f3⟩)⟩
