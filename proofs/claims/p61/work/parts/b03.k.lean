/-! a macro's recording stops -/
theorem dX12_stop_0 : decode cX12_stop 0 = .ok (.aload_n 0, 1) := by decide +kernel
theorem dX12_stop_1 : decode cX12_stop 1 = .ok (.getfield 65, 3) := by decide +kernel
theorem dX12_stop_4 : decode cX12_stop 4 = .ok (.iconst (-1), 1) := by decide +kernel
theorem dX12_stop_5 : decode cX12_stop 5 = .ok (.if_icmp .ne 13, 3) := by decide +kernel
theorem dX12_stop_8 : decode cX12_stop 8 = .ok (.new 163, 3) := by decide +kernel
theorem dX12_stop_11 : decode cX12_stop 11 = .ok (.dup, 1) := by decide +kernel
theorem dX12_stop_12 : decode cX12_stop 12 = .ok (.ldc 171, 2) := by decide +kernel
theorem dX12_stop_14 : decode cX12_stop 14 = .ok (.invokespecial 167, 3) := by decide +kernel
theorem dX12_stop_17 : decode cX12_stop 17 = .ok (.athrow, 1) := by decide +kernel
theorem dX12_stop_18 : decode cX12_stop 18 = .ok (.aload_n 0, 1) := by decide +kernel
theorem dX12_stop_19 : decode cX12_stop 19 = .ok (.getfield 49, 3) := by decide +kernel
theorem dX12_stop_22 : decode cX12_stop 22 = .ok (.aload_n 0, 1) := by decide +kernel
theorem dX12_stop_23 : decode cX12_stop 23 = .ok (.getfield 65, 3) := by decide +kernel
theorem dX12_stop_26 : decode cX12_stop 26 = .ok (.aaload, 1) := by decide +kernel
theorem dX12_stop_27 : decode cX12_stop 27 = .ok (.aload_n 0, 1) := by decide +kernel
theorem dX12_stop_28 : decode cX12_stop 28 = .ok (.getfield 54, 3) := by decide +kernel
theorem dX12_stop_31 : decode cX12_stop 31 = .ok (.invokevirtual 173, 3) := by decide +kernel
theorem dX12_stop_34 : decode cX12_stop 34 = .ok (.aload_n 0, 1) := by decide +kernel
theorem dX12_stop_35 : decode cX12_stop 35 = .ok (.iconst (-1), 1) := by decide +kernel
theorem dX12_stop_36 : decode cX12_stop 36 = .ok (.putfield 65, 3) := by decide +kernel
theorem dX12_stop_39 : decode cX12_stop 39 = .ok (.aload_n 0, 1) := by decide +kernel
theorem dX12_stop_40 : decode cX12_stop 40 = .ok (.iconst 0, 1) := by decide +kernel
theorem dX12_stop_41 : decode cX12_stop 41 = .ok (.putfield 113, 3) := by decide +kernel
theorem dX12_stop_44 : decode cX12_stop 44 = .ok (.aload_n 0, 1) := by decide +kernel
theorem dX12_stop_45 : decode cX12_stop 45 = .ok (.getfield 54, 3) := by decide +kernel
theorem dX12_stop_48 : decode cX12_stop 48 = .ok (.getfield 170, 3) := by decide +kernel
theorem dX12_stop_51 : decode cX12_stop 51 = .ok (.ireturn, 1) := by decide +kernel
set_option maxRecDepth 4000 in
theorem kX12_stop (γ : LC) (w : Mm) (f : Int) (p : RP) (μ : MU) (A : Mm) (S P M : Int) (h : CHB p μ f (lvL p μ A) w A) (hRB : RB μ S P M A) (hS : S ≤ 28900) (hP : P ≤ 500000) (hM : M ≤ 598) (hb28 : ∀ j, 0 ≤ j → j < 3 → A 228 0 j = 0 ∨ A 228 0 j = 1) : KI γ 9 mX12_stop [rv f] w (1) (6) (fun r w' => r = (o_stop μ A).1 ∧ (o_stop μ A).2 139 μ.1 0 = 0 ∧ RES μ f w w' (o_stop μ A).2) (fun E w' => E = "java/lang/IllegalStateException" ∧ (o_stop μ A).2 139 μ.1 0 = 1 ∧ RES μ f w w' (o_stop μ A).2) := by
  refine MX_of rfl rfl (by simp [rv_cat, int_cat]) rfl ?_
  rintro κ hO hF rfl
  have hD := hF.dp
  show X κ (1) (6) w 0 [some (rv f)] []
  obtain ⟨s1, ⟨s2, s3, s4⟩, s5, s6, s7, s8, s9, s10⟩ := id h.1.1.2.1
  have t0 := s1.1
  have ht : w 0 f 0 = 13 ∧ w 0 (w 50 f 0) 0 = 12 := ⟨s1.1, h.1.1.2.2.2.2.2.1.1⟩
  have hT := hRB.2.1.2.2.2.1
  have hs1 := hRB.2.1.2.2.1
  have hl := h.2.2.b0.1
  have hz := hRB.2.2.1
  have hz1 := hz.1
  have h9 := h.o9 (v := 0) hRB hM
  obtain ⟨⟨m1, m2, m3⟩, m4, ⟨m5, m6, m7, m8, m9⟩, m10, m11⟩ := id h.1.1.2.2.2.2.1
  have r86 : -1 ≤ A 133 μ.1 0 ∧ A 133 μ.1 0 ≤ 3 := hz.2.1
  have t49 := m5.1
  have hmm : A 133 μ.1 0 ≠ -1 → MT w (w 3 (w 48 f 0) (A 133 μ.1 0)) ∧ w 3 (w 48 f 0) (A 133 μ.1 0) ≠ w 49 f 0 ∧ ∀ x, x = w 21 (w 49 f 0) 0 ∨ x = w 22 (w 49 f 0) 0 ∨ x = w 23 (w 49 f 0) 0 → x ≠ w 21 (w 3 (w 48 f 0) (A 133 μ.1 0)) 0 ∧ x ≠ w 22 (w 3 (w 48 f 0) (A 133 μ.1 0)) 0 ∧ x ≠ w 23 (w 3 (w 48 f 0) (A 133 μ.1 0)) 0 := fun z => by
    obtain ⟨⟨v1, v2, v3, v4, v5⟩, -⟩ := m4 (A 133 μ.1 0) (by omega) (by omega)
    refine ⟨v1, ne_c v2 m6 (by omega), fun x hx => ?_⟩
    rcases hx with rfl | rfl | rfl
    · exact ⟨ne_c m7 v3 (by omega), ne_c m7 v4 (by omega), ne_c m7 v5 (by omega)⟩
    · exact ⟨ne_c m8 v3 (by omega), ne_c m8 v4 (by omega), ne_c m8 v5 (by omega)⟩
    · exact ⟨ne_c m9 v3 (by omega), ne_c m9 v4 (by omega), ne_c m9 v5 (by omega)⟩
  refine X_aload_n 1 hO dX12_stop_0 rfl rfl ?_
  refine gX12_65 4 hO dX12_stop_1 rfl (by first | assumption | omega | (simp (disch := first | decide | assumption | omega) only [up_k, up_s, up_a, up_i, flA_k, flA_a, flA_n, cpA_k, cpA_a, newO_o, newA_o, newO_t, newA_t, newA_n, cpQ_k, cpQ_a] <;> first | assumption | omega)) (fun hi_1 => ?_)
  try simp (disch := first | decide | assumption | omega) only [up_k, up_s, up_a, up_i, flA_k, flA_a, flA_n, cpA_k, cpA_a, newO_o, newA_o, newO_t, newA_t, newA_n, cpQ_k, cpQ_a, e49, e62] at hi_1 ⊢
  refine X_iconst 5 hO dX12_stop_4 rfl ?_
  refine X_icmp_ne 8 18 hO dX12_stop_5 rfl rfl (by omega) (by omega) (fun hc_5 => ?_) (fun hc_5 => ?_)
  ·
    refine X_aload_n 19 hO dX12_stop_18 rfl rfl ?_
    refine gX12_49 22 hO dX12_stop_19 rfl (by first | assumption | omega | (simp (disch := first | decide | assumption | omega) only [up_k, up_s, up_a, up_i, flA_k, flA_a, flA_n, cpA_k, cpA_a, newO_o, newA_o, newO_t, newA_t, newA_n, cpQ_k, cpQ_a] <;> first | assumption | omega)) ?_
    try simp (disch := first | decide | assumption | omega) only [up_k, up_s, up_a, up_i, flA_k, flA_a, flA_n, cpA_k, cpA_a, newO_o, newA_o, newO_t, newA_t, newA_n, cpQ_k, cpQ_a, e49, e62]
    refine X_aload_n 23 hO dX12_stop_22 rfl rfl ?_
    refine gX12_65 26 hO dX12_stop_23 rfl (by first | assumption | omega | (simp (disch := first | decide | assumption | omega) only [up_k, up_s, up_a, up_i, flA_k, flA_a, flA_n, cpA_k, cpA_a, newO_o, newA_o, newO_t, newA_t, newA_n, cpQ_k, cpQ_a] <;> first | assumption | omega)) (fun hi_23 => ?_)
    try simp (disch := first | decide | assumption | omega) only [up_k, up_s, up_a, up_i, flA_k, flA_a, flA_n, cpA_k, cpA_a, newO_o, newA_o, newO_t, newA_t, newA_n, cpQ_k, cpQ_a, e49, e62] at hi_23 ⊢
    refine X_aald (t := 24) (C := "Foldback$Macro") 27 hO rfl (by decide) dX12_stop_26 rfl (by first | assumption | omega | (simp (disch := first | decide | assumption | omega) only [up_k, up_s, up_a, up_i, flA_k, flA_a, flA_n, cpA_k, cpA_a, newO_o, newA_o, newO_t, newA_t, newA_n, cpQ_k, cpQ_a] <;> first | assumption | omega)) (by first | assumption | omega | (simp (disch := first | decide | assumption | omega) only [up_k, up_s, up_a, up_i, flA_k, flA_a, flA_n, cpA_k, cpA_a, newO_o, newA_o, newO_t, newA_t, newA_n, cpQ_k, cpQ_a] <;> first | assumption | omega)) ?_
    try simp (disch := first | decide | assumption | omega) only [up_k, up_s, up_a, up_i, flA_k, flA_a, flA_n, cpA_k, cpA_a, newO_o, newA_o, newO_t, newA_t, newA_n, cpQ_k, cpQ_a, e49, e62]
    refine X_aload_n 28 hO dX12_stop_27 rfl rfl ?_
    refine gX12_54 31 hO dX12_stop_28 rfl (by first | assumption | omega | (simp (disch := first | decide | assumption | omega) only [up_k, up_s, up_a, up_i, flA_k, flA_a, flA_n, cpA_k, cpA_a, newO_o, newA_o, newO_t, newA_t, newA_n, cpQ_k, cpQ_a] <;> first | assumption | omega)) ?_
    try simp (disch := first | decide | assumption | omega) only [up_k, up_s, up_a, up_i, flA_k, flA_a, flA_n, cpA_k, cpA_a, newO_o, newA_o, newO_t, newA_t, newA_n, cpQ_k, cpQ_a, e49, e62]
    have hnr : A 133 μ.1 0 ≠ -1 := by omega
    obtain ⟨q1, q2, q3⟩ := hmm hnr
    have q0 := q1.1
    rw [s6]
    refine X_kVv (t := 4) 34 hO hD lX12_173 rfl (by decide) [_] rfl dX12_stop_31 rfl (by first | assumption | omega | (simp (disch := first | decide | assumption | omega) only [up_k, up_s, up_a, up_i, flA_k, flA_a, flA_n, cpA_k, cpA_a, newO_o, newA_o, newO_t, newA_t, newA_n, cpQ_k, cpQ_a] <;> first | assumption | omega)) (kX3_takeList _ _ _ _ q1 m5 q2 q3) (by decide) (by simp [rv_cat, int_cat]) (by first | decide | exact Nat.zero_le _ | omega) (by first | decide | exact Nat.zero_le _ | omega) (fun w_31 hp_31 => ?_) (fun E w_ hx_ => hx_.elim)
    obtain ⟨w1, hw1⟩ : ∃ w1, w1 = w_31 := ⟨_, rfl⟩
    have gk : ∀ {k : Nat} {a i : Int}, k ≠ 1 → k ≠ 62 → w_31 k a i = w k a i := fun z1 z2 => by rw [hp_31, c_tk_k z1 z2]
    have c13 : w_31 0 f 0 = 13 := by rw [gk (by decide) (by decide)]; exact t0
    have c4 : w_31 0 (w 49 f 0) 0 = 4 := by rw [gk (by decide) (by decide)]; exact t49
    have e49 : w_31 49 f 0 = w 49 f 0 := gk (by decide) (by decide)
    have e62 : w_31 62 (w 49 f 0) 0 = A 236 0 4 := by rw [hp_31]; unfold c_tk; rw [up_a _ _ _ (Ne.symm q2), flA_k (by decide), flA_k (by decide), flA_k (by decide)]; exact m10
    refine X_aload_n 35 hO dX12_stop_34 rfl rfl ?_
    refine X_iconst 36 hO dX12_stop_35 rfl ?_
    refine pX12_65 39 hO dX12_stop_36 rfl (by first | assumption | omega | (simp (disch := first | decide | assumption | omega) only [up_k, up_s, up_a, up_i, flA_k, flA_a, flA_n, cpA_k, cpA_a, newO_o, newA_o, newO_t, newA_t, newA_n, cpQ_k, cpQ_a] <;> first | assumption | omega)) (by omega) ?_
    refine X_aload_n 40 hO dX12_stop_39 rfl rfl ?_
    refine X_iconst 41 hO dX12_stop_40 rfl ?_
    refine pX12_113 44 hO dX12_stop_41 rfl (by first | assumption | omega | (simp (disch := first | decide | assumption | omega) only [up_k, up_s, up_a, up_i, flA_k, flA_a, flA_n, cpA_k, cpA_a, newO_o, newA_o, newO_t, newA_t, newA_n, cpQ_k, cpQ_a] <;> first | assumption | omega)) (by omega) ?_
    refine X_aload_n 45 hO dX12_stop_44 rfl rfl ?_
    refine gX12_54 48 hO dX12_stop_45 rfl (by first | assumption | omega | (simp (disch := first | decide | assumption | omega) only [up_k, up_s, up_a, up_i, flA_k, flA_a, flA_n, cpA_k, cpA_a, newO_o, newA_o, newO_t, newA_t, newA_n, cpQ_k, cpQ_a] <;> first | assumption | omega)) ?_
    try simp (disch := first | decide | assumption | omega) only [up_k, up_s, up_a, up_i, flA_k, flA_a, flA_n, cpA_k, cpA_a, newO_o, newA_o, newO_t, newA_t, newA_n, cpQ_k, cpQ_a, e49, e62]
    refine gX12_170 51 hO dX12_stop_48 rfl (by first | assumption | omega | (simp (disch := first | decide | assumption | omega) only [up_k, up_s, up_a, up_i, flA_k, flA_a, flA_n, cpA_k, cpA_a, newO_o, newA_o, newO_t, newA_t, newA_n, cpQ_k, cpQ_a] <;> first | assumption | omega)) (fun hi_48 => ?_)
    try simp (disch := first | decide | assumption | omega) only [up_k, up_s, up_a, up_i, flA_k, flA_a, flA_n, cpA_k, cpA_a, newO_o, newA_o, newO_t, newA_t, newA_n, cpQ_k, cpQ_a, e49, e62] at hi_48 ⊢
    exact X_iret hO hF rfl (by first | exact Or.inl rfl | exact Or.inr ⟨rfl, bi_01 _⟩ | exact Or.inr ⟨rfl, by omega⟩) dX12_stop_51 ⟨_, rfl, (by omega), (by
  have hR9 : RB μ S P M (up A 139 μ.1 0 0) := hRB.o9
  have eo : o_stop μ A = (A 236 0 4, up (up (m_stW μ (A 133 μ.1 0) (up A 139 μ.1 0 0)) 133 μ.1 0 (-1)) 129 μ.1 0 (-1)) := by unfold o_stop; rw [if_neg hnr]; rfl
  rw [eo]
  have q := h9.1.stp9 (w' := up (up w_31 86 f 0 (-1)) 88 f 0 0) h9.2.2.b0.1 (m := A 133 μ.1 0) (by omega) (by rw [hp_31]) rfl
  have eB : ∀ {c : Nat} {a i : Int}, c ≠ 129 → c ≠ 133 → c ≠ 235 → c ≠ 236 → up (up (m_stW μ (A 133 μ.1 0) (up A 139 μ.1 0 0)) 133 μ.1 0 (-1)) 129 μ.1 0 (-1) c a i = (up A 139 μ.1 0 0) c a i := fun z1 z2 z3 z4 => by rw [up_k _ z1, up_k _ z2]; unfold m_stW; rw [up_k _ z4, fl_at z3]
  exact ⟨rfl, (eB (by decide) (by decide) (by decide) (by decide)).trans (up_s _ _ _ _ _), p, h9.cgA q.1 hR9.2.1.2.2.2.1 (by omega) hR9.2.1.2.2.1 (fun c a i z => eB (by omega) (by omega) (by omega) (by omega)), q.2⟩)⟩
  ·
    exact X_throwISE hO hF (by decide) (text := "no macro is being recorded") (by decide) dX12_stop_8 dX12_stop_11 dX12_stop_12 dX12_stop_14 dX12_stop_17 (by first | exact (by
  have eo : o_stop μ A = (0, m_th μ 1 A) := by unfold o_stop; rw [if_pos (by omega)]
  rw [eo]
  exact ⟨rfl, up_s _ _ _ _ _, h.r9 hRB hM⟩)) (by first | decide | omega) (by first | decide | omega) (by simp [rv_cat, int_cat])
