/-- what the walk of a command that is called needs, at its places -/
theorem cal_pre {μ : MU} {S P M : Int} {w : Mm} (h : RB μ S P M w) : LB μ S P (m_saves μ 2 w) ∧ RK μ S P M (m_saves μ 2 w) ∧ (∀ c a i, c < 200 ∨ (210 < c ∧ c ≠ 214 ∧ c ≠ 215) → m_saves μ 2 w c a i = w c a i) :=
  ⟨h.1.saves (by decide), h.2.1.saves h.1 (by decide), fun c a i h => saves_at h⟩
theorem cal_does {μ : MU} {S P M c a b : Int} {w : Mm} (h : RB μ S P M w) (hv : CV c a b) (hc : c ≤ 14) : LB μ (S + 2) (P + 20) (m_does μ c a b (m_saves μ 2 w)).2 ∧ RK μ (S + 2) (P + 20) M (m_does μ c a b (m_saves μ 2 w)).2 ∧ (m_does μ c a b (m_saves μ 2 w)).2 122 μ.1 0 ≤ (m_does μ c a b (m_saves μ 2 w)).2 120 μ.1 0 ∧ (m_does μ c a b (m_saves μ 2 w)).2 133 μ.1 0 = w 133 μ.1 0 ∧ (m_does μ c a b (m_saves μ 2 w)).2 236 0 4 = w 236 0 4 := by
  obtain ⟨h1, h2, h3⟩ := cal_pre h
  have hL := LO.does h1 hv hc
  have hA := AP.does (μ := μ) (c := c) (a := a) (b := b) (w := m_saves μ 2 w)
  refine ⟨h1.does hv, (h2.lo hL).mono (by omega) (by omega), ?_, ?_, ?_⟩
  · have := hA.1
    rw [hL.2 _ _ _ (by decide) (by decide), h3 _ _ _ (by decide)]
    rw [h3 _ _ _ (by decide)] at this
    have hz := h.2.2.1
    unfold bZ at hz
    omega
  · rw [hL.2 _ _ _ (by decide) (by decide), h3 _ _ _ (by decide)]
  · rw [hL.2 _ _ _ (by decide) (by decide), h3 _ _ _ (by decide)]
theorem dX13_called_0 : decode cX13_called 0 = .ok (.aload_n 0, 1) := by decide +kernel
theorem dX13_called_1 : decode cX13_called 1 = .ok (.iconst 2, 1) := by decide +kernel
theorem dX13_called_2 : decode cX13_called 2 = .ok (.invokevirtual 343, 3) := by decide +kernel
theorem dX13_called_5 : decode cX13_called 5 = .ok (.aload_n 0, 1) := by decide +kernel
theorem dX13_called_6 : decode cX13_called 6 = .ok (.aload_n 0, 1) := by decide +kernel
theorem dX13_called_7 : decode cX13_called 7 = .ok (.invokevirtual 346, 3) := by decide +kernel
theorem dX13_called_10 : decode cX13_called 10 = .ok (.ifCond .ne 21, 3) := by decide +kernel
theorem dX13_called_13 : decode cX13_called 13 = .ok (.aload_n 0, 1) := by decide +kernel
theorem dX13_called_14 : decode cX13_called 14 = .ok (.iload_n 1, 1) := by decide +kernel
theorem dX13_called_15 : decode cX13_called 15 = .ok (.iload_n 2, 1) := by decide +kernel
theorem dX13_called_16 : decode cX13_called 16 = .ok (.iload_n 3, 1) := by decide +kernel
theorem dX13_called_17 : decode cX13_called 17 = .ok (.invokevirtual 349, 3) := by decide +kernel
theorem dX13_called_20 : decode cX13_called 20 = .ok (.ifCond .gt 11, 3) := by decide +kernel
theorem dX13_called_23 : decode cX13_called 23 = .ok (.aload_n 0, 1) := by decide +kernel
theorem dX13_called_24 : decode cX13_called 24 = .ok (.iconst 0, 1) := by decide +kernel
theorem dX13_called_25 : decode cX13_called 25 = .ok (.invokevirtual 352, 3) := by decide +kernel
theorem dX13_called_28 : decode cX13_called 28 = .ok (.ifCond .ne 8, 3) := by decide +kernel
theorem dX13_called_31 : decode cX13_called 31 = .ok (.iload 4, 2) := by decide +kernel
theorem dX13_called_33 : decode cX13_called 33 = .ok (.goto 4, 3) := by decide +kernel
theorem dX13_called_36 : decode cX13_called 36 = .ok (.iconst 0, 1) := by decide +kernel
theorem dX13_called_37 : decode cX13_called 37 = .ok (.putfield 171, 3) := by decide +kernel
theorem dX13_called_40 : decode cX13_called 40 = .ok (.aload_n 0, 1) := by decide +kernel
theorem dX13_called_41 : decode cX13_called 41 = .ok (.getfield 171, 3) := by decide +kernel
theorem dX13_called_44 : decode cX13_called 44 = .ok (.ifCond .le 5, 3) := by decide +kernel
theorem dX13_called_47 : decode cX13_called 47 = .ok (.iconst 0, 1) := by decide +kernel
theorem dX13_called_48 : decode cX13_called 48 = .ok (.ireturn, 1) := by decide +kernel
theorem dX13_called_49 : decode cX13_called 49 = .ok (.aload_n 0, 1) := by decide +kernel
theorem dX13_called_50 : decode cX13_called 50 = .ok (.iconst (-1), 1) := by decide +kernel
theorem dX13_called_51 : decode cX13_called 51 = .ok (.putfield 105, 3) := by decide +kernel
theorem dX13_called_54 : decode cX13_called 54 = .ok (.aload_n 0, 1) := by decide +kernel
theorem dX13_called_55 : decode cX13_called 55 = .ok (.iload_n 1, 1) := by decide +kernel
theorem dX13_called_56 : decode cX13_called 56 = .ok (.iload_n 2, 1) := by decide +kernel
theorem dX13_called_57 : decode cX13_called 57 = .ok (.iload_n 3, 1) := by decide +kernel
theorem dX13_called_58 : decode cX13_called 58 = .ok (.invokevirtual 354, 3) := by decide +kernel
theorem dX13_called_61 : decode cX13_called 61 = .ok (.aload_n 0, 1) := by decide +kernel
theorem dX13_called_62 : decode cX13_called 62 = .ok (.getfield 303, 3) := by decide +kernel
theorem dX13_called_65 : decode cX13_called 65 = .ok (.ireturn, 1) := by decide +kernel
set_option maxRecDepth 4000 in
theorem c_called (γ : LC) (μ : MU) (w : Mm) (c a b s S P M : Int) (hv : CV c a b) (hc : c ≤ 14) (hs : 1 ≤ s ∧ s ≤ 3) (hR0 : RB μ S P M w) (hS : S ≤ 28900) (hP : P ≤ 500000) (hM : M ≤ 590) : CMi γ μ 6 mX13_called [.int (I c), .int (I a), .int (I b), .int (I s)] w (fun r w' => r = (m_cal μ c a b s w).1 ∧ w' = (m_cal μ c a b s w).2) := by
  refine CMi_of rfl (by simp [rv_cat, Value.category]) rfl ?_
  rintro κ hO hF rfl hR
  have hD := hF.dp
  show X κ 0 0 w 0 [some (rv μ.1), some (.int (I c)), some (.int (I a)), some (.int (I b)), some (.int (I s))] []
  obtain ⟨p1, p2, p3⟩ := cal_pre hR0
  obtain ⟨q1, q2, q3, q4, q5⟩ := cal_does hR0 hv hc
  obtain ⟨g1, g2, g3⟩ := ends_ok (g := 0) q1 q2 q3 (by decide) (by omega) (by omega)
  obtain ⟨f1, f2, f3, f4, f5⟩ := hR0.1.f
  have e133 := p3 133 μ.1 0 (by decide)
  have e236 := p3 236 0 4 (by decide)
  have g133 := g3 133 μ.1 0 (by decide)
  have g236 := g3 236 0 4 (by decide)
  have hcn := (hR0.2.1.2.2.2.2.2.2 4 (by decide) (by decide)).1
  have hd8 := does_nn (μ := μ) (c := c) (a := a) (b := b) (w := m_saves μ 2 w)
  have hv2 := hv
  unfold CV at hv2
  refine X_aload_n 1 hO dX13_called_0 rfl rfl ?_
  refine X_iconst 2 hO dX13_called_1 rfl ?_
  refine XM_callVv 5 hO hD hR lX13_343 [_] rfl dX13_called_2 rfl (c_saves _ _ _ _ (by omega) (by omega)) (by decide) (by simp only [List.map_cons, List.map_nil, rv_cat]; exact Nat.le_of_ble_eq_true rfl) (fun w_2 hp_2 hR => ?_)
  subst hp_2
  refine X_aload_n 6 hO dX13_called_5 rfl rfl ?_
  refine X_aload_n 7 hO dX13_called_6 rfl rfl ?_
  refine XM_callVi 10 hO hD hR lX13_346 [] rfl dX13_called_7 rfl (c_isFull _ _ _) (by decide) (by simp only [List.map_cons, List.map_nil, rv_cat]; exact Nat.le_of_ble_eq_true rfl) (fun r_7 w_7 hr_7 hp_7 hR => ?_)
  obtain ⟨e1_7, e2_7⟩ := hp_7
  subst e1_7
  subst e2_7
  refine X_if_ne 13 31 hO dX13_called_10 rfl rfl (by omega) (fun hc_10 => ?_) (fun hc_10 => ?_)
  ·
    try simp only [bi_0, bi_ne, ne_eq, Classical.not_not] at hc_10
    refine X_iload 33 hO dX13_called_31 rfl rfl ?_
    refine X_goto hO dX13_called_33 (tgt := 37) rfl ?_
    refine pa_171 40 hO hR dX13_called_37 rfl (by omega) (fun hR => ?_)
    refine X_aload_n 41 hO dX13_called_40 rfl rfl ?_
    refine ga_171 44 hO hR dX13_called_41 rfl (fun hi_41 => ?_)
    try simp (disch := decide) only [up_k, up_s, step_at, pool_at, poolN_at, opens_at, closes_at, fl_at, del_at, ins_at, rep_at, psh_at, trn_at, tak_at, pEn_at, cpQ_at, cpP_at, cpT_at] at hi_41 ⊢
    refine X_if_le 47 49 hO dX13_called_44 rfl rfl (by omega) (fun hc_44 => ?_) (fun hc_44 => ?_)
    ·
      refine X_aload_n 50 hO dX13_called_49 rfl rfl ?_
      refine X_iconst 51 hO dX13_called_50 rfl ?_
      refine pa_105 54 hO hR dX13_called_51 rfl (by omega) (fun hR => ?_)
      refine X_aload_n 55 hO dX13_called_54 rfl rfl ?_
      refine X_iload_n 56 hO dX13_called_55 rfl rfl ?_
      refine X_iload_n 57 hO dX13_called_56 rfl rfl ?_
      refine X_iload_n 58 hO dX13_called_57 rfl rfl ?_
      refine XM_callVv 61 hO hD hR lX13_354 [_, _, _] rfl dX13_called_58 rfl (c_records _ _ _ _ _ _ (by simp (disch := decide) only [up_k]; omega) (by omega) (by omega) (by omega)) (by decide) (by simp only [List.map_cons, List.map_nil, rv_cat]; exact Nat.le_of_ble_eq_true rfl) (fun w_58 hp_58 hR => ?_)
      subst hp_58
      refine X_aload_n 62 hO dX13_called_61 rfl rfl ?_
      refine ga_303 65 hO hR dX13_called_62 rfl (fun hi_62 => ?_)
      try simp (disch := decide) only [up_k, up_s, step_at, pool_at, poolN_at, opens_at, closes_at, fl_at, del_at, ins_at, rep_at, psh_at, trn_at, tak_at, pEn_at, cpQ_at, cpP_at, cpT_at] at hi_62 ⊢
      exact XM_iret hO hF hR rfl (by first | exact Or.inl rfl | exact Or.inr ⟨rfl, bi_01 _⟩ | exact Or.inr ⟨rfl, by omega⟩) dX13_called_65 (by first | assumption | omega) (by first | (exfalso; omega) | (unfold m_cal m_ca1 m_ca2 m_ca3; (repeat (first | rw [if_pos (by omega)] | rw [if_neg (by omega)])); exact ⟨rfl, rfl⟩))
    ·
      refine X_iconst 48 hO dX13_called_47 rfl ?_
      exact XM_iret hO hF hR rfl (by first | exact Or.inl rfl | exact Or.inr ⟨rfl, bi_01 _⟩ | exact Or.inr ⟨rfl, by omega⟩) dX13_called_48 (by first | assumption | omega) (by first | (exfalso; omega) | (unfold m_cal m_ca1 m_ca2; (repeat (first | rw [if_pos (by omega)] | rw [if_neg (by omega)])); exact ⟨rfl, rfl⟩))
  ·
    try simp only [bi_0, bi_ne, ne_eq, Classical.not_not] at hc_10
    refine X_aload_n 14 hO dX13_called_13 rfl rfl ?_
    refine X_iload_n 15 hO dX13_called_14 rfl rfl ?_
    refine X_iload_n 16 hO dX13_called_15 rfl rfl ?_
    refine X_iload_n 17 hO dX13_called_16 rfl rfl ?_
    refine XM_callVi 20 hO hD hR lX13_349 [_, _, _] rfl dX13_called_17 rfl (c_does _ _ _ _ _ _ S P hv hc p1 (by omega) (by omega)) (by decide) (by simp only [List.map_cons, List.map_nil, rv_cat]; exact Nat.le_of_ble_eq_true rfl) (fun r_17 w_17 hr_17 hp_17 hR => ?_)
    obtain ⟨e1_17, e2_17⟩ := hp_17
    subst e1_17
    subst e2_17
    refine X_if_gt 23 31 hO dX13_called_20 rfl rfl (by omega) (fun hc_20 => ?_) (fun hc_20 => ?_)
    ·
      refine X_iload 33 hO dX13_called_31 rfl rfl ?_
      refine X_goto hO dX13_called_33 (tgt := 37) rfl ?_
      refine pa_171 40 hO hR dX13_called_37 rfl (by omega) (fun hR => ?_)
      refine X_aload_n 41 hO dX13_called_40 rfl rfl ?_
      refine ga_171 44 hO hR dX13_called_41 rfl (fun hi_41 => ?_)
      try simp (disch := decide) only [up_k, up_s, step_at, pool_at, poolN_at, opens_at, closes_at, fl_at, del_at, ins_at, rep_at, psh_at, trn_at, tak_at, pEn_at, cpQ_at, cpP_at, cpT_at] at hi_41 ⊢
      refine X_if_le 47 49 hO dX13_called_44 rfl rfl (by omega) (fun hc_44 => ?_) (fun hc_44 => ?_)
      ·
        refine X_aload_n 50 hO dX13_called_49 rfl rfl ?_
        refine X_iconst 51 hO dX13_called_50 rfl ?_
        refine pa_105 54 hO hR dX13_called_51 rfl (by omega) (fun hR => ?_)
        refine X_aload_n 55 hO dX13_called_54 rfl rfl ?_
        refine X_iload_n 56 hO dX13_called_55 rfl rfl ?_
        refine X_iload_n 57 hO dX13_called_56 rfl rfl ?_
        refine X_iload_n 58 hO dX13_called_57 rfl rfl ?_
        refine XM_callVv 61 hO hD hR lX13_354 [_, _, _] rfl dX13_called_58 rfl (c_records _ _ _ _ _ _ (by simp (disch := decide) only [up_k]; omega) (by omega) (by omega) (by omega)) (by decide) (by simp only [List.map_cons, List.map_nil, rv_cat]; exact Nat.le_of_ble_eq_true rfl) (fun w_58 hp_58 hR => ?_)
        subst hp_58
        refine X_aload_n 62 hO dX13_called_61 rfl rfl ?_
        refine ga_303 65 hO hR dX13_called_62 rfl (fun hi_62 => ?_)
        try simp (disch := decide) only [up_k, up_s, step_at, pool_at, poolN_at, opens_at, closes_at, fl_at, del_at, ins_at, rep_at, psh_at, trn_at, tak_at, pEn_at, cpQ_at, cpP_at, cpT_at] at hi_62 ⊢
        exact XM_iret hO hF hR rfl (by first | exact Or.inl rfl | exact Or.inr ⟨rfl, bi_01 _⟩ | exact Or.inr ⟨rfl, by omega⟩) dX13_called_65 (by first | assumption | omega) (by first | (exfalso; omega) | (unfold m_cal m_ca1 m_ca2 m_ca3; (repeat (first | rw [if_pos (by omega)] | rw [if_neg (by omega)])); exact ⟨rfl, rfl⟩))
      ·
        refine X_iconst 48 hO dX13_called_47 rfl ?_
        exact XM_iret hO hF hR rfl (by first | exact Or.inl rfl | exact Or.inr ⟨rfl, bi_01 _⟩ | exact Or.inr ⟨rfl, by omega⟩) dX13_called_48 (by first | assumption | omega) (by first | (exfalso; omega) | (unfold m_cal m_ca1 m_ca2; (repeat (first | rw [if_pos (by omega)] | rw [if_neg (by omega)])); exact ⟨rfl, rfl⟩))
    ·
      refine X_aload_n 24 hO dX13_called_23 rfl rfl ?_
      refine X_iconst 25 hO dX13_called_24 rfl ?_
      refine XM_callVi 28 hO hD hR lX13_352 [_] rfl dX13_called_25 rfl (c_ends _ _ _ _ (S + 2) (P + 20) M (by decide) q3 q1 q2 (by omega) (by omega) (by omega)) (by decide) (by simp only [List.map_cons, List.map_nil, rv_cat]; exact Nat.le_of_ble_eq_true rfl) (fun r_25 w_25 hr_25 hp_25 hR => ?_)
      obtain ⟨e1_25, e2_25⟩ := hp_25
      subst e1_25
      subst e2_25
      refine X_if_ne 31 36 hO dX13_called_28 rfl rfl (by omega) (fun hc_28 => ?_) (fun hc_28 => ?_)
      ·
        try simp only [bi_0, bi_ne, ne_eq, Classical.not_not] at hc_28
        refine X_iconst 37 hO dX13_called_36 rfl ?_
        refine pa_171 40 hO hR dX13_called_37 rfl (by omega) (fun hR => ?_)
        refine X_aload_n 41 hO dX13_called_40 rfl rfl ?_
        refine ga_171 44 hO hR dX13_called_41 rfl (fun hi_41 => ?_)
        try simp (disch := decide) only [up_k, up_s, step_at, pool_at, poolN_at, opens_at, closes_at, fl_at, del_at, ins_at, rep_at, psh_at, trn_at, tak_at, pEn_at, cpQ_at, cpP_at, cpT_at] at hi_41 ⊢
        refine X_if_le 47 49 hO dX13_called_44 rfl rfl (by omega) (fun hc_44 => ?_) (fun hc_44 => ?_)
        ·
          refine X_aload_n 50 hO dX13_called_49 rfl rfl ?_
          refine X_iconst 51 hO dX13_called_50 rfl ?_
          refine pa_105 54 hO hR dX13_called_51 rfl (by omega) (fun hR => ?_)
          refine X_aload_n 55 hO dX13_called_54 rfl rfl ?_
          refine X_iload_n 56 hO dX13_called_55 rfl rfl ?_
          refine X_iload_n 57 hO dX13_called_56 rfl rfl ?_
          refine X_iload_n 58 hO dX13_called_57 rfl rfl ?_
          refine XM_callVv 61 hO hD hR lX13_354 [_, _, _] rfl dX13_called_58 rfl (c_records _ _ _ _ _ _ (by simp (disch := decide) only [up_k]; omega) (by omega) (by omega) (by omega)) (by decide) (by simp only [List.map_cons, List.map_nil, rv_cat]; exact Nat.le_of_ble_eq_true rfl) (fun w_58 hp_58 hR => ?_)
          subst hp_58
          refine X_aload_n 62 hO dX13_called_61 rfl rfl ?_
          refine ga_303 65 hO hR dX13_called_62 rfl (fun hi_62 => ?_)
          try simp (disch := decide) only [up_k, up_s, step_at, pool_at, poolN_at, opens_at, closes_at, fl_at, del_at, ins_at, rep_at, psh_at, trn_at, tak_at, pEn_at, cpQ_at, cpP_at, cpT_at] at hi_62 ⊢
          exact XM_iret hO hF hR rfl (by first | exact Or.inl rfl | exact Or.inr ⟨rfl, bi_01 _⟩ | exact Or.inr ⟨rfl, by omega⟩) dX13_called_65 (by first | assumption | omega) (by first | (exfalso; omega) | (unfold m_cal m_ca1 m_ca2 m_ca3; (repeat (first | rw [if_pos (by omega)] | rw [if_neg (by omega)])); exact ⟨rfl, rfl⟩))
        ·
          refine X_iconst 48 hO dX13_called_47 rfl ?_
          exact XM_iret hO hF hR rfl (by first | exact Or.inl rfl | exact Or.inr ⟨rfl, bi_01 _⟩ | exact Or.inr ⟨rfl, by omega⟩) dX13_called_48 (by first | assumption | omega) (by first | (exfalso; omega) | (unfold m_cal m_ca1 m_ca2; (repeat (first | rw [if_pos (by omega)] | rw [if_neg (by omega)])); exact ⟨rfl, rfl⟩))
      ·
        try simp only [bi_0, bi_ne, ne_eq, Classical.not_not] at hc_28
        refine X_iload 33 hO dX13_called_31 rfl rfl ?_
        refine X_goto hO dX13_called_33 (tgt := 37) rfl ?_
        refine pa_171 40 hO hR dX13_called_37 rfl (by omega) (fun hR => ?_)
        refine X_aload_n 41 hO dX13_called_40 rfl rfl ?_
        refine ga_171 44 hO hR dX13_called_41 rfl (fun hi_41 => ?_)
        try simp (disch := decide) only [up_k, up_s, step_at, pool_at, poolN_at, opens_at, closes_at, fl_at, del_at, ins_at, rep_at, psh_at, trn_at, tak_at, pEn_at, cpQ_at, cpP_at, cpT_at] at hi_41 ⊢
        refine X_if_le 47 49 hO dX13_called_44 rfl rfl (by omega) (fun hc_44 => ?_) (fun hc_44 => ?_)
        ·
          refine X_aload_n 50 hO dX13_called_49 rfl rfl ?_
          refine X_iconst 51 hO dX13_called_50 rfl ?_
          refine pa_105 54 hO hR dX13_called_51 rfl (by omega) (fun hR => ?_)
          refine X_aload_n 55 hO dX13_called_54 rfl rfl ?_
          refine X_iload_n 56 hO dX13_called_55 rfl rfl ?_
          refine X_iload_n 57 hO dX13_called_56 rfl rfl ?_
          refine X_iload_n 58 hO dX13_called_57 rfl rfl ?_
          refine XM_callVv 61 hO hD hR lX13_354 [_, _, _] rfl dX13_called_58 rfl (c_records _ _ _ _ _ _ (by simp (disch := decide) only [up_k]; omega) (by omega) (by omega) (by omega)) (by decide) (by simp only [List.map_cons, List.map_nil, rv_cat]; exact Nat.le_of_ble_eq_true rfl) (fun w_58 hp_58 hR => ?_)
          subst hp_58
          refine X_aload_n 62 hO dX13_called_61 rfl rfl ?_
          refine ga_303 65 hO hR dX13_called_62 rfl (fun hi_62 => ?_)
          try simp (disch := decide) only [up_k, up_s, step_at, pool_at, poolN_at, opens_at, closes_at, fl_at, del_at, ins_at, rep_at, psh_at, trn_at, tak_at, pEn_at, cpQ_at, cpP_at, cpT_at] at hi_62 ⊢
          exact XM_iret hO hF hR rfl (by first | exact Or.inl rfl | exact Or.inr ⟨rfl, bi_01 _⟩ | exact Or.inr ⟨rfl, by omega⟩) dX13_called_65 (by first | assumption | omega) (by first | (exfalso; omega) | (unfold m_cal m_ca1 m_ca2 m_ca3; (repeat (first | rw [if_pos (by omega)] | rw [if_neg (by omega)])); exact ⟨rfl, rfl⟩))
        ·
          refine X_iconst 48 hO dX13_called_47 rfl ?_
          exact XM_iret hO hF hR rfl (by first | exact Or.inl rfl | exact Or.inr ⟨rfl, bi_01 _⟩ | exact Or.inr ⟨rfl, by omega⟩) dX13_called_48 (by first | assumption | omega) (by first | (exfalso; omega) | (unfold m_cal m_ca1 m_ca2; (repeat (first | rw [if_pos (by omega)] | rw [if_neg (by omega)])); exact ⟨rfl, rfl⟩))
