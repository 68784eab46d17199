def o_lengthByReplay (μ : MU) (PL : Int → List Int) (c : Int) (w : Mm) : Int × Mm := if isN μ c w then (m_rpl μ PL c (m_ti μ (isN μ c w) w) 201 0 1, m_rpl μ PL c (m_ti μ (isN μ c w) w)) else (0, m_ti μ (isN μ c w) w)
theorem dX13_lengthByReplay_0 : decode cX13_lengthByReplay 0 = .ok (.aload_n 0, 1) := by decide +kernel
theorem dX13_lengthByReplay_1 : decode cX13_lengthByReplay 1 = .ok (.iload_n 1, 1) := by decide +kernel
theorem dX13_lengthByReplay_2 : decode cX13_lengthByReplay 2 = .ok (.invokevirtual 442, 3) := by decide +kernel
theorem dX13_lengthByReplay_5 : decode cX13_lengthByReplay 5 = .ok (.ifCond .ne 5, 3) := by decide +kernel
theorem dX13_lengthByReplay_8 : decode cX13_lengthByReplay 8 = .ok (.iconst 0, 1) := by decide +kernel
theorem dX13_lengthByReplay_9 : decode cX13_lengthByReplay 9 = .ok (.ireturn, 1) := by decide +kernel
theorem dX13_lengthByReplay_10 : decode cX13_lengthByReplay 10 = .ok (.aload_n 0, 1) := by decide +kernel
theorem dX13_lengthByReplay_11 : decode cX13_lengthByReplay 11 = .ok (.iload_n 1, 1) := by decide +kernel
theorem dX13_lengthByReplay_12 : decode cX13_lengthByReplay 12 = .ok (.invokevirtual 394, 3) := by decide +kernel
theorem dX13_lengthByReplay_15 : decode cX13_lengthByReplay 15 = .ok (.aload_n 0, 1) := by decide +kernel
theorem dX13_lengthByReplay_16 : decode cX13_lengthByReplay 16 = .ok (.getfield 13, 3) := by decide +kernel
theorem dX13_lengthByReplay_19 : decode cX13_lengthByReplay 19 = .ok (.iconst 1, 1) := by decide +kernel
theorem dX13_lengthByReplay_20 : decode cX13_lengthByReplay 20 = .ok (.iaload, 1) := by decide +kernel
theorem dX13_lengthByReplay_21 : decode cX13_lengthByReplay 21 = .ok (.ireturn, 1) := by decide +kernel
set_option maxRecDepth 4000 in
theorem c_lengthByReplay (γ : LC) (μ : MU) (w : Mm) (PL : Int → List Int) (c : Int) (S P M : Int) (hc : IR c) (hRA : RPA μ PL w) (hEx : bEx μ w) (hR0 : RB μ S P M w) (hS : S ≤ 28900) (hP : P ≤ 500000) (hM : M ≤ 590) : CMi γ μ 5 mX13_lengthByReplay [.int (I c)] w (fun r w' => r = (o_lengthByReplay μ PL c w).1 ∧ w' = (o_lengthByReplay μ PL c w).2) := by
  refine CMi_of rfl (by simp [rv_cat, Value.category]) rfl ?_
  rintro κ hO hF rfl hR
  have hD := hF.dp
  show X κ 0 0 w 0 [some (rv μ.1), some (.int (I c))] []
  have hX : RB μ S P M (m_ti μ (isN μ c w) w) := hR0.ti
  have hXT := hX.2.1.2.2.2.1
  have x124 : (m_ti μ (isN μ c w) w) 124 μ.1 0 = w 124 μ.1 0 := ti_at (by decide)
  have x210 : (m_ti μ (isN μ c w) w) 210 0 0 = w 210 0 0 := ti_at (by decide)
  have hL := hR0.1
  obtain ⟨f1, f2, f3, f4, f5⟩ := hR0.1.f
  obtain ⟨t1, t2, t3, t4, t5, t6, t7⟩ := hR0.2.1.2.2.2.1
  refine X_aload_n 1 hO dX13_lengthByReplay_0 rfl rfl ?_
  refine X_iload_n 2 hO dX13_lengthByReplay_1 rfl rfl ?_
  refine XM_callVi 5 hO hD hR lX13_442 [_] rfl dX13_lengthByReplay_2 rfl (c_hasNode _ _ _ _ _ _ _ (by omega) hR0 hS hP hM) (by decide) (by simp only [List.map_cons, List.map_nil, rv_cat]; exact Nat.le_of_ble_eq_true rfl) (fun r_2 w_2 hr_2 hp_2 hR => ?_)
  obtain ⟨e1_2, e2_2⟩ := hp_2
  subst e1_2
  subst e2_2
  refine X_if_ne 8 10 hO dX13_lengthByReplay_5 rfl rfl (by omega) (fun hc_5 => ?_) (fun hc_5 => ?_)
  ·
    try simp only [bi_0, bi_ne, ne_eq, Classical.not_not] at hc_5
    have hRx : RPk μ PL c (m_ti μ (isN μ c w) w) := (hRA c (by omega) (by omega) (by omega)).up (by decide)
    refine X_aload_n 11 hO dX13_lengthByReplay_10 rfl rfl ?_
    refine X_iload_n 12 hO dX13_lengthByReplay_11 rfl rfl ?_
    refine XM_callVv 15 hO hD hR lX13_394 [_] rfl dX13_lengthByReplay_12 rfl (c_replays _ _ _ _ M PL hXT (by omega) (by rw [x124]; omega) hX.2.1.2.2.1 hX.1.2.2.1 (by rw [x210]; omega) hX.1.2.1.e hRx.1 hRx.2) (by decide) (by simp only [List.map_cons, List.map_nil, rv_cat]; exact Nat.le_of_ble_eq_true rfl) (fun w_12 hp_12 hR => ?_)
    subst hp_12
    obtain ⟨z1, z2, z3⟩ := rpl_st hX.2.1.2.2.1 hX.1.2.2.1 hRx
    have zl := z1.1
    unfold bL1 at zl
    refine X_aload_n 16 hO dX13_lengthByReplay_15 rfl rfl ?_
    refine ga_13 19 hO hR dX13_lengthByReplay_16 rfl ?_
    refine X_iconst 20 hO dX13_lengthByReplay_19 rfl ?_
    refine ma_ld (L := 4) (c := 201) 21 hO hR rfl rfl rfl dX13_lengthByReplay_20 rfl (by omega) (by omega) (fun hi_20 => ?_)
    exact XM_iret hO hF hR rfl (by first | exact Or.inl rfl | exact Or.inr ⟨rfl, bi_01 _⟩ | exact Or.inr ⟨rfl, by omega⟩) dX13_lengthByReplay_21 (by first | assumption | omega | exact I_rng _) (by unfold o_lengthByReplay; (repeat (first | rw [if_pos (by omega)] | rw [if_neg (by omega)])); exact ⟨rfl, rfl⟩)
  ·
    try simp only [bi_0, bi_ne, ne_eq, Classical.not_not] at hc_5
    refine X_iconst 9 hO dX13_lengthByReplay_8 rfl ?_
    exact XM_iret hO hF hR rfl (by first | exact Or.inl rfl | exact Or.inr ⟨rfl, bi_01 _⟩ | exact Or.inr ⟨rfl, by omega⟩) dX13_lengthByReplay_9 (by first | assumption | omega | exact I_rng _) (by unfold o_lengthByReplay; (repeat (first | rw [if_pos (by omega)] | rw [if_neg (by omega)])); exact ⟨rfl, rfl⟩)
def o_charByReplay (μ : MU) (PL : Int → List Int) (c k : Int) (w : Mm) : Int × Mm := if isN μ c w then (if 0 ≤ k ∧ k ≤ m_rpl μ PL c (m_ti μ (isN μ c w) w) 201 0 1 - 1 then (m_rpl μ PL c (m_ti μ (isN μ c w) w) 200 0 (400 + k), m_th μ 0 (m_rpl μ PL c (m_ti μ (isN μ c w) w))) else (0, m_th μ 1 (m_rpl μ PL c (m_ti μ (isN μ c w) w)))) else (0, m_ti μ (isN μ c w) w)
theorem dX13_charByReplay_0 : decode cX13_charByReplay 0 = .ok (.aload_n 0, 1) := by decide +kernel
theorem dX13_charByReplay_1 : decode cX13_charByReplay 1 = .ok (.iload_n 1, 1) := by decide +kernel
theorem dX13_charByReplay_2 : decode cX13_charByReplay 2 = .ok (.invokevirtual 442, 3) := by decide +kernel
theorem dX13_charByReplay_5 : decode cX13_charByReplay 5 = .ok (.ifCond .ne 5, 3) := by decide +kernel
theorem dX13_charByReplay_8 : decode cX13_charByReplay 8 = .ok (.iconst 0, 1) := by decide +kernel
theorem dX13_charByReplay_9 : decode cX13_charByReplay 9 = .ok (.ireturn, 1) := by decide +kernel
theorem dX13_charByReplay_10 : decode cX13_charByReplay 10 = .ok (.aload_n 0, 1) := by decide +kernel
theorem dX13_charByReplay_11 : decode cX13_charByReplay 11 = .ok (.iload_n 1, 1) := by decide +kernel
theorem dX13_charByReplay_12 : decode cX13_charByReplay 12 = .ok (.invokevirtual 394, 3) := by decide +kernel
theorem dX13_charByReplay_15 : decode cX13_charByReplay 15 = .ok (.aload_n 0, 1) := by decide +kernel
theorem dX13_charByReplay_16 : decode cX13_charByReplay 16 = .ok (.iload_n 2, 1) := by decide +kernel
theorem dX13_charByReplay_17 : decode cX13_charByReplay 17 = .ok (.iconst 0, 1) := by decide +kernel
theorem dX13_charByReplay_18 : decode cX13_charByReplay 18 = .ok (.aload_n 0, 1) := by decide +kernel
theorem dX13_charByReplay_19 : decode cX13_charByReplay 19 = .ok (.getfield 13, 3) := by decide +kernel
theorem dX13_charByReplay_22 : decode cX13_charByReplay 22 = .ok (.iconst 1, 1) := by decide +kernel
theorem dX13_charByReplay_23 : decode cX13_charByReplay 23 = .ok (.iaload, 1) := by decide +kernel
theorem dX13_charByReplay_24 : decode cX13_charByReplay 24 = .ok (.iconst 1, 1) := by decide +kernel
theorem dX13_charByReplay_25 : decode cX13_charByReplay 25 = .ok (.isub, 1) := by decide +kernel
theorem dX13_charByReplay_26 : decode cX13_charByReplay 26 = .ok (.invokestatic 174, 3) := by decide +kernel
theorem dX13_charByReplay_29 : decode cX13_charByReplay 29 = .ok (.ifCond .eq 7, 3) := by decide +kernel
theorem dX13_charByReplay_32 : decode cX13_charByReplay 32 = .ok (.iconst 0, 1) := by decide +kernel
theorem dX13_charByReplay_33 : decode cX13_charByReplay 33 = .ok (.goto 4, 3) := by decide +kernel
theorem dX13_charByReplay_36 : decode cX13_charByReplay 36 = .ok (.iconst 1, 1) := by decide +kernel
theorem dX13_charByReplay_37 : decode cX13_charByReplay 37 = .ok (.putfield 171, 3) := by decide +kernel
theorem dX13_charByReplay_40 : decode cX13_charByReplay 40 = .ok (.aload_n 0, 1) := by decide +kernel
theorem dX13_charByReplay_41 : decode cX13_charByReplay 41 = .ok (.getfield 171, 3) := by decide +kernel
theorem dX13_charByReplay_44 : decode cX13_charByReplay 44 = .ok (.ifCond .ne 16, 3) := by decide +kernel
theorem dX13_charByReplay_47 : decode cX13_charByReplay 47 = .ok (.aload_n 0, 1) := by decide +kernel
theorem dX13_charByReplay_48 : decode cX13_charByReplay 48 = .ok (.getfield 7, 3) := by decide +kernel
theorem dX13_charByReplay_51 : decode cX13_charByReplay 51 = .ok (.sipush 400, 3) := by decide +kernel
theorem dX13_charByReplay_54 : decode cX13_charByReplay 54 = .ok (.iload_n 2, 1) := by decide +kernel
theorem dX13_charByReplay_55 : decode cX13_charByReplay 55 = .ok (.iadd, 1) := by decide +kernel
theorem dX13_charByReplay_56 : decode cX13_charByReplay 56 = .ok (.iaload, 1) := by decide +kernel
theorem dX13_charByReplay_57 : decode cX13_charByReplay 57 = .ok (.goto 4, 3) := by decide +kernel
theorem dX13_charByReplay_60 : decode cX13_charByReplay 60 = .ok (.iconst 0, 1) := by decide +kernel
theorem dX13_charByReplay_61 : decode cX13_charByReplay 61 = .ok (.ireturn, 1) := by decide +kernel
set_option maxRecDepth 4000 in
theorem c_charByReplay (γ : LC) (μ : MU) (w : Mm) (PL : Int → List Int) (c k : Int) (S P M : Int) (hc : IR c) (hk : IR k) (hRA : RPA μ PL w) (hEx : bEx μ w) (hR0 : RB μ S P M w) (hS : S ≤ 28900) (hP : P ≤ 500000) (hM : M ≤ 590) : CMi γ μ 5 mX13_charByReplay [.int (I c), .int (I k)] w (fun r w' => r = (o_charByReplay μ PL c k w).1 ∧ w' = (o_charByReplay μ PL c k w).2) := by
  refine CMi_of rfl (by simp [rv_cat, Value.category]) rfl ?_
  rintro κ hO hF rfl hR
  have hD := hF.dp
  show X κ 0 0 w 0 [some (rv μ.1), some (.int (I c)), some (.int (I k))] []
  have hX : RB μ S P M (m_ti μ (isN μ c w) w) := hR0.ti
  have hXT := hX.2.1.2.2.2.1
  have x124 : (m_ti μ (isN μ c w) w) 124 μ.1 0 = w 124 μ.1 0 := ti_at (by decide)
  have x210 : (m_ti μ (isN μ c w) w) 210 0 0 = w 210 0 0 := ti_at (by decide)
  have hL := hR0.1
  obtain ⟨f1, f2, f3, f4, f5⟩ := hR0.1.f
  obtain ⟨t1, t2, t3, t4, t5, t6, t7⟩ := hR0.2.1.2.2.2.1
  refine X_aload_n 1 hO dX13_charByReplay_0 rfl rfl ?_
  refine X_iload_n 2 hO dX13_charByReplay_1 rfl rfl ?_
  refine XM_callVi 5 hO hD hR lX13_442 [_] rfl dX13_charByReplay_2 rfl (c_hasNode _ _ _ _ _ _ _ (by omega) hR0 hS hP hM) (by decide) (by simp only [List.map_cons, List.map_nil, rv_cat]; exact Nat.le_of_ble_eq_true rfl) (fun r_2 w_2 hr_2 hp_2 hR => ?_)
  obtain ⟨e1_2, e2_2⟩ := hp_2
  subst e1_2
  subst e2_2
  refine X_if_ne 8 10 hO dX13_charByReplay_5 rfl rfl (by omega) (fun hc_5 => ?_) (fun hc_5 => ?_)
  ·
    try simp only [bi_0, bi_ne, ne_eq, Classical.not_not] at hc_5
    have hRx : RPk μ PL c (m_ti μ (isN μ c w) w) := (hRA c (by omega) (by omega) (by omega)).up (by decide)
    refine X_aload_n 11 hO dX13_charByReplay_10 rfl rfl ?_
    refine X_iload_n 12 hO dX13_charByReplay_11 rfl rfl ?_
    refine XM_callVv 15 hO hD hR lX13_394 [_] rfl dX13_charByReplay_12 rfl (c_replays _ _ _ _ M PL hXT (by omega) (by rw [x124]; omega) hX.2.1.2.2.1 hX.1.2.2.1 (by rw [x210]; omega) hX.1.2.1.e hRx.1 hRx.2) (by decide) (by simp only [List.map_cons, List.map_nil, rv_cat]; exact Nat.le_of_ble_eq_true rfl) (fun w_12 hp_12 hR => ?_)
    subst hp_12
    obtain ⟨z1, z2, z3⟩ := rpl_st hX.2.1.2.2.1 hX.1.2.2.1 hRx
    have zl := z1.1
    unfold bL1 at zl
    refine X_aload_n 16 hO dX13_charByReplay_15 rfl rfl ?_
    refine X_iload_n 17 hO dX13_charByReplay_16 rfl rfl ?_
    refine X_iconst 18 hO dX13_charByReplay_17 rfl ?_
    refine X_aload_n 19 hO dX13_charByReplay_18 rfl rfl ?_
    refine ga_13 22 hO hR dX13_charByReplay_19 rfl ?_
    refine X_iconst 23 hO dX13_charByReplay_22 rfl ?_
    refine ma_ld (L := 4) (c := 201) 24 hO hR rfl rfl rfl dX13_charByReplay_23 rfl (by omega) (by omega) (fun hi_23 => ?_)
    try simp (disch := decide) only [up_k, up_s, step_at, pool_at, poolN_at, opens_at, closes_at, fl_at, del_at, ins_at, rep_at, psh_at, trn_at, tak_at, pEn_at, cpQ_at, cpP_at, cpT_at, ti_at, th_at, rec_at, saves_at] at hi_23 ⊢
    refine X_iconst 25 hO dX13_charByReplay_24 rfl ?_
    refine X_isub 26 hO dX13_charByReplay_25 rfl ?_
    refine XM_callSi 29 hO hD lX13_174 [_, _, _] rfl dX13_charByReplay_26 rfl (c_in _ _ _ _ _ (by omega) (by omega) (by omega)) (by decide) (by simp only [List.map_cons, List.map_nil, rv_cat]; exact Nat.le_of_ble_eq_true rfl) (fun r_26 hr_26 hp_26 => ?_)
    subst hp_26
    refine X_if_eq 32 36 hO dX13_charByReplay_29 rfl rfl (by omega) (fun hc_29 => ?_) (fun hc_29 => ?_)
    ·
      try simp only [bi_0, bi_ne, ne_eq, Classical.not_not] at hc_29
      refine X_iconst 37 hO dX13_charByReplay_36 rfl ?_
      refine pa_171 40 hO hR dX13_charByReplay_37 rfl (by omega) (fun hR => ?_)
      refine X_aload_n 41 hO dX13_charByReplay_40 rfl rfl ?_
      refine ga_171 44 hO hR dX13_charByReplay_41 rfl (fun hi_41 => ?_)
      try simp (disch := decide) only [up_k, up_s, step_at, pool_at, poolN_at, opens_at, closes_at, fl_at, del_at, ins_at, rep_at, psh_at, trn_at, tak_at, pEn_at, cpQ_at, cpP_at, cpT_at, ti_at, th_at, rec_at, saves_at] at hi_41 ⊢
      refine X_if_ne 47 60 hO dX13_charByReplay_44 rfl rfl (by omega) (fun hc_44 => ?_) (fun hc_44 => ?_)
      ·
        refine X_iconst 61 hO dX13_charByReplay_60 rfl ?_
        exact XM_iret hO hF hR rfl (by first | exact Or.inl rfl | exact Or.inr ⟨rfl, bi_01 _⟩ | exact Or.inr ⟨rfl, by omega⟩) dX13_charByReplay_61 (by first | assumption | omega | exact I_rng _) (by first | (exfalso; omega) | (unfold o_charByReplay m_th; (repeat (first | rw [if_pos (by omega)] | rw [if_neg (by omega)])); exact ⟨rfl, rfl⟩))
      ·
        refine X_aload_n 48 hO dX13_charByReplay_47 rfl rfl ?_
        refine ga_7 51 hO hR dX13_charByReplay_48 rfl ?_
        refine X_sipush 54 hO dX13_charByReplay_51 rfl (by decide) ?_
        refine X_iload_n 55 hO dX13_charByReplay_54 rfl rfl ?_
        refine X_iadd 56 hO dX13_charByReplay_55 rfl ?_
        refine ma_ld (L := 1600) (c := 200) 57 hO hR rfl rfl rfl dX13_charByReplay_56 rfl (by omega) (by omega) (fun hi_56 => ?_)
        try simp (disch := decide) only [up_k, up_s, step_at, pool_at, poolN_at, opens_at, closes_at, fl_at, del_at, ins_at, rep_at, psh_at, trn_at, tak_at, pEn_at, cpQ_at, cpP_at, cpT_at, ti_at, th_at, rec_at, saves_at] at hi_56 ⊢
        refine X_goto hO dX13_charByReplay_57 (tgt := 61) rfl ?_
        exact XM_iret hO hF hR rfl (by first | exact Or.inl rfl | exact Or.inr ⟨rfl, bi_01 _⟩ | exact Or.inr ⟨rfl, by omega⟩) dX13_charByReplay_61 (by first | assumption | omega | exact I_rng _) (by first | (exfalso; omega) | (unfold o_charByReplay m_th; (repeat (first | rw [if_pos (by omega)] | rw [if_neg (by omega)])); exact ⟨rfl, rfl⟩))
    ·
      try simp only [bi_0, bi_ne, ne_eq, Classical.not_not] at hc_29
      refine X_iconst 33 hO dX13_charByReplay_32 rfl ?_
      refine X_goto hO dX13_charByReplay_33 (tgt := 37) rfl ?_
      refine pa_171 40 hO hR dX13_charByReplay_37 rfl (by omega) (fun hR => ?_)
      refine X_aload_n 41 hO dX13_charByReplay_40 rfl rfl ?_
      refine ga_171 44 hO hR dX13_charByReplay_41 rfl (fun hi_41 => ?_)
      try simp (disch := decide) only [up_k, up_s, step_at, pool_at, poolN_at, opens_at, closes_at, fl_at, del_at, ins_at, rep_at, psh_at, trn_at, tak_at, pEn_at, cpQ_at, cpP_at, cpT_at, ti_at, th_at, rec_at, saves_at] at hi_41 ⊢
      refine X_if_ne 47 60 hO dX13_charByReplay_44 rfl rfl (by omega) (fun hc_44 => ?_) (fun hc_44 => ?_)
      ·
        refine X_iconst 61 hO dX13_charByReplay_60 rfl ?_
        exact XM_iret hO hF hR rfl (by first | exact Or.inl rfl | exact Or.inr ⟨rfl, bi_01 _⟩ | exact Or.inr ⟨rfl, by omega⟩) dX13_charByReplay_61 (by first | assumption | omega | exact I_rng _) (by first | (exfalso; omega) | (unfold o_charByReplay m_th; (repeat (first | rw [if_pos (by omega)] | rw [if_neg (by omega)])); exact ⟨rfl, rfl⟩))
      ·
        refine X_aload_n 48 hO dX13_charByReplay_47 rfl rfl ?_
        refine ga_7 51 hO hR dX13_charByReplay_48 rfl ?_
        refine X_sipush 54 hO dX13_charByReplay_51 rfl (by decide) ?_
        refine X_iload_n 55 hO dX13_charByReplay_54 rfl rfl ?_
        refine X_iadd 56 hO dX13_charByReplay_55 rfl ?_
        refine ma_ld (L := 1600) (c := 200) 57 hO hR rfl rfl rfl dX13_charByReplay_56 rfl (by omega) (by omega) (fun hi_56 => ?_)
        try simp (disch := decide) only [up_k, up_s, step_at, pool_at, poolN_at, opens_at, closes_at, fl_at, del_at, ins_at, rep_at, psh_at, trn_at, tak_at, pEn_at, cpQ_at, cpP_at, cpT_at, ti_at, th_at, rec_at, saves_at] at hi_56 ⊢
        refine X_goto hO dX13_charByReplay_57 (tgt := 61) rfl ?_
        exact XM_iret hO hF hR rfl (by first | exact Or.inl rfl | exact Or.inr ⟨rfl, bi_01 _⟩ | exact Or.inr ⟨rfl, by omega⟩) dX13_charByReplay_61 (by first | assumption | omega | exact I_rng _) (by first | (exfalso; omega) | (unfold o_charByReplay m_th; (repeat (first | rw [if_pos (by omega)] | rw [if_neg (by omega)])); exact ⟨rfl, rfl⟩))
  ·
    try simp only [bi_0, bi_ne, ne_eq, Classical.not_not] at hc_5
    refine X_iconst 9 hO dX13_charByReplay_8 rfl ?_
    exact XM_iret hO hF hR rfl (by first | exact Or.inl rfl | exact Or.inr ⟨rfl, bi_01 _⟩ | exact Or.inr ⟨rfl, by omega⟩) dX13_charByReplay_9 (by first | assumption | omega | exact I_rng _) (by first | (exfalso; omega) | (unfold o_charByReplay m_th; (repeat (first | rw [if_pos (by omega)] | rw [if_neg (by omega)])); exact ⟨rfl, rfl⟩))
def o_markByReplay (μ : MU) (PL : Int → List Int) (c k : Int) (w : Mm) : Int × Mm := if isN μ c w ∧ 0 ≤ k ∧ k ≤ 5 then (m_rpl μ PL c (m_th μ 0 w) 202 0 (6 + k), m_rpl μ PL c (m_th μ 0 w)) else (0, m_th μ 1 w)
theorem dX13_markByReplay_0 : decode cX13_markByReplay 0 = .ok (.aload_n 0, 1) := by decide +kernel
theorem dX13_markByReplay_1 : decode cX13_markByReplay 1 = .ok (.aload_n 0, 1) := by decide +kernel
theorem dX13_markByReplay_2 : decode cX13_markByReplay 2 = .ok (.iload_n 1, 1) := by decide +kernel
theorem dX13_markByReplay_3 : decode cX13_markByReplay 3 = .ok (.invokevirtual 400, 3) := by decide +kernel
theorem dX13_markByReplay_6 : decode cX13_markByReplay 6 = .ok (.ifCond .eq 16, 3) := by decide +kernel
theorem dX13_markByReplay_9 : decode cX13_markByReplay 9 = .ok (.iload_n 2, 1) := by decide +kernel
theorem dX13_markByReplay_10 : decode cX13_markByReplay 10 = .ok (.iconst 0, 1) := by decide +kernel
theorem dX13_markByReplay_11 : decode cX13_markByReplay 11 = .ok (.iconst 5, 1) := by decide +kernel
theorem dX13_markByReplay_12 : decode cX13_markByReplay 12 = .ok (.invokestatic 174, 3) := by decide +kernel
theorem dX13_markByReplay_15 : decode cX13_markByReplay 15 = .ok (.ifCond .eq 7, 3) := by decide +kernel
theorem dX13_markByReplay_18 : decode cX13_markByReplay 18 = .ok (.iconst 0, 1) := by decide +kernel
theorem dX13_markByReplay_19 : decode cX13_markByReplay 19 = .ok (.goto 4, 3) := by decide +kernel
theorem dX13_markByReplay_22 : decode cX13_markByReplay 22 = .ok (.iconst 1, 1) := by decide +kernel
theorem dX13_markByReplay_23 : decode cX13_markByReplay 23 = .ok (.putfield 171, 3) := by decide +kernel
theorem dX13_markByReplay_26 : decode cX13_markByReplay 26 = .ok (.aload_n 0, 1) := by decide +kernel
theorem dX13_markByReplay_27 : decode cX13_markByReplay 27 = .ok (.getfield 171, 3) := by decide +kernel
theorem dX13_markByReplay_30 : decode cX13_markByReplay 30 = .ok (.ifCond .le 5, 3) := by decide +kernel
theorem dX13_markByReplay_33 : decode cX13_markByReplay 33 = .ok (.iconst 0, 1) := by decide +kernel
theorem dX13_markByReplay_34 : decode cX13_markByReplay 34 = .ok (.ireturn, 1) := by decide +kernel
theorem dX13_markByReplay_35 : decode cX13_markByReplay 35 = .ok (.aload_n 0, 1) := by decide +kernel
theorem dX13_markByReplay_36 : decode cX13_markByReplay 36 = .ok (.iload_n 1, 1) := by decide +kernel
theorem dX13_markByReplay_37 : decode cX13_markByReplay 37 = .ok (.invokevirtual 394, 3) := by decide +kernel
theorem dX13_markByReplay_40 : decode cX13_markByReplay 40 = .ok (.aload_n 0, 1) := by decide +kernel
theorem dX13_markByReplay_41 : decode cX13_markByReplay 41 = .ok (.getfield 16, 3) := by decide +kernel
theorem dX13_markByReplay_44 : decode cX13_markByReplay 44 = .ok (.bipush 6, 2) := by decide +kernel
theorem dX13_markByReplay_46 : decode cX13_markByReplay 46 = .ok (.iload_n 2, 1) := by decide +kernel
theorem dX13_markByReplay_47 : decode cX13_markByReplay 47 = .ok (.iadd, 1) := by decide +kernel
theorem dX13_markByReplay_48 : decode cX13_markByReplay 48 = .ok (.iaload, 1) := by decide +kernel
theorem dX13_markByReplay_49 : decode cX13_markByReplay 49 = .ok (.ireturn, 1) := by decide +kernel
set_option maxRecDepth 4000 in
theorem c_markByReplay (γ : LC) (μ : MU) (w : Mm) (PL : Int → List Int) (c k : Int) (S P M : Int) (hc : IR c) (hk : IR k) (hRA : RPA μ PL w) (hEx : bEx μ w) (hR0 : RB μ S P M w) (hS : S ≤ 28900) (hP : P ≤ 500000) (hM : M ≤ 590) : CMi γ μ 5 mX13_markByReplay [.int (I c), .int (I k)] w (fun r w' => r = (o_markByReplay μ PL c k w).1 ∧ w' = (o_markByReplay μ PL c k w).2) := by
  refine CMi_of rfl (by simp [rv_cat, Value.category]) rfl ?_
  rintro κ hO hF rfl hR
  have hD := hF.dp
  show X κ 0 0 w 0 [some (rv μ.1), some (.int (I c)), some (.int (I k))] []
  have hX : RB μ S P M (up w 139 μ.1 0 0) := hR0.fld (by decide)
  have hXT := hX.2.1.2.2.2.1
  have x124 : up w 139 μ.1 0 0 124 μ.1 0 = w 124 μ.1 0 := up_k _ (by decide) _ _ _ _ _
  have x210 : up w 139 μ.1 0 0 210 0 0 = w 210 0 0 := up_k _ (by decide) _ _ _ _ _
  
  have hL := hR0.1
  obtain ⟨f1, f2, f3, f4, f5⟩ := hR0.1.f
  obtain ⟨t1, t2, t3, t4, t5, t6, t7⟩ := hR0.2.1.2.2.2.1
  have JP35 : (isN μ c w ∧ 0 ≤ k ∧ k ≤ 5) → (RM (up w 139 μ.1 0 0) μ) → X κ 0 0 (up w 139 μ.1 0 0) 35 [some (rv μ.1), some (.int (I c)), some (.int (I k))] [] := by
    intro  hnz hR
    have hRx : RPk μ PL c (up w 139 μ.1 0 0) := (hRA c (by omega) (by omega) hnz.1.2).up (by decide)
    refine X_aload_n 36 hO dX13_markByReplay_35 rfl rfl ?_
    refine X_iload_n 37 hO dX13_markByReplay_36 rfl rfl ?_
    refine XM_callVv 40 hO hD hR lX13_394 [_] rfl dX13_markByReplay_37 rfl (c_replays _ _ _ _ M PL hXT (by omega) (by rw [x124]; omega) hX.2.1.2.2.1 hX.1.2.2.1 (by rw [x210]; omega) hX.1.2.1.e hRx.1 hRx.2) (by decide) (by simp only [List.map_cons, List.map_nil, rv_cat]; exact Nat.le_of_ble_eq_true rfl) (fun w_37 hp_37 hR => ?_)
    subst hp_37
    obtain ⟨z1, z2, z3⟩ := rpl_st hX.2.1.2.2.1 hX.1.2.2.1 hRx
    have zl := z1.1
    unfold bL1 at zl
    refine X_aload_n 41 hO dX13_markByReplay_40 rfl rfl ?_
    refine ga_16 44 hO hR dX13_markByReplay_41 rfl ?_
    refine X_bipush 46 hO dX13_markByReplay_44 rfl (by decide) ?_
    refine X_iload_n 47 hO dX13_markByReplay_46 rfl rfl ?_
    refine X_iadd 48 hO dX13_markByReplay_47 rfl ?_
    refine ma_ld (L := 24) (c := 202) 49 hO hR rfl rfl rfl dX13_markByReplay_48 rfl (by omega) (by omega) (fun hi_48 => ?_)
    try simp (disch := decide) only [up_k, up_s, step_at, pool_at, poolN_at, opens_at, closes_at, fl_at, del_at, ins_at, rep_at, psh_at, trn_at, tak_at, pEn_at, cpQ_at, cpP_at, cpT_at, ti_at, th_at, rec_at, saves_at] at hi_48 ⊢
    exact XM_iret hO hF hR rfl (by first | exact Or.inl rfl | exact Or.inr ⟨rfl, bi_01 _⟩ | exact Or.inr ⟨rfl, by omega⟩) dX13_markByReplay_49 (by first | assumption | omega | exact I_rng _) (by unfold o_markByReplay; rw [if_pos hnz]; exact ⟨rfl, rfl⟩)
  refine X_aload_n 1 hO dX13_markByReplay_0 rfl rfl ?_
  refine X_aload_n 2 hO dX13_markByReplay_1 rfl rfl ?_
  refine X_iload_n 3 hO dX13_markByReplay_2 rfl rfl ?_
  refine XM_callVi 6 hO hD hR lX13_400 [_] rfl dX13_markByReplay_3 rfl (c_isNode _ _ _ _ _ _ _ (by omega) hR0 hS hP hM) (by decide) (by simp only [List.map_cons, List.map_nil, rv_cat]; exact Nat.le_of_ble_eq_true rfl) (fun r_3 w_3 hr_3 hp_3 hR => ?_)
  obtain ⟨e1_3, e2_3⟩ := hp_3
  subst e1_3
  subst e2_3
  refine X_if_eq 9 22 hO dX13_markByReplay_6 rfl rfl (by omega) (fun hc_6 => ?_) (fun hc_6 => ?_)
  ·
    try simp only [bi_0, bi_ne, ne_eq, Classical.not_not] at hc_6
    refine X_iconst 23 hO dX13_markByReplay_22 rfl ?_
    refine pa_171 26 hO hR dX13_markByReplay_23 rfl (by omega) (fun hR => ?_)
    refine X_aload_n 27 hO dX13_markByReplay_26 rfl rfl ?_
    refine ga_171 30 hO hR dX13_markByReplay_27 rfl (fun hi_27 => ?_)
    try simp (disch := decide) only [up_k, up_s, step_at, pool_at, poolN_at, opens_at, closes_at, fl_at, del_at, ins_at, rep_at, psh_at, trn_at, tak_at, pEn_at, cpQ_at, cpP_at, cpT_at, ti_at, th_at, rec_at, saves_at] at hi_27 ⊢
    refine X_if_le 33 35 hO dX13_markByReplay_30 rfl rfl (by omega) (fun hc_30 => ?_) (fun hc_30 => ?_)
    ·
      first | (exfalso; omega) | exact JP35 (by omega) hR
    ·
      refine X_iconst 34 hO dX13_markByReplay_33 rfl ?_
      exact XM_iret hO hF hR rfl (by first | exact Or.inl rfl | exact Or.inr ⟨rfl, bi_01 _⟩ | exact Or.inr ⟨rfl, by omega⟩) dX13_markByReplay_34 (by first | assumption | omega | exact I_rng _) (by first | (exfalso; omega) | (unfold o_markByReplay m_th; (repeat (first | rw [if_pos (by omega)] | rw [if_neg (by omega)])); exact ⟨rfl, rfl⟩))
  ·
    try simp only [bi_0, bi_ne, ne_eq, Classical.not_not] at hc_6
    refine X_iload_n 10 hO dX13_markByReplay_9 rfl rfl ?_
    refine X_iconst 11 hO dX13_markByReplay_10 rfl ?_
    refine X_iconst 12 hO dX13_markByReplay_11 rfl ?_
    refine XM_callSi 15 hO hD lX13_174 [_, _, _] rfl dX13_markByReplay_12 rfl (c_in _ _ _ _ _ (by omega) (by omega) (by omega)) (by decide) (by simp only [List.map_cons, List.map_nil, rv_cat]; exact Nat.le_of_ble_eq_true rfl) (fun r_12 hr_12 hp_12 => ?_)
    subst hp_12
    refine X_if_eq 18 22 hO dX13_markByReplay_15 rfl rfl (by omega) (fun hc_15 => ?_) (fun hc_15 => ?_)
    ·
      try simp only [bi_0, bi_ne, ne_eq, Classical.not_not] at hc_15
      refine X_iconst 23 hO dX13_markByReplay_22 rfl ?_
      refine pa_171 26 hO hR dX13_markByReplay_23 rfl (by omega) (fun hR => ?_)
      refine X_aload_n 27 hO dX13_markByReplay_26 rfl rfl ?_
      refine ga_171 30 hO hR dX13_markByReplay_27 rfl (fun hi_27 => ?_)
      try simp (disch := decide) only [up_k, up_s, step_at, pool_at, poolN_at, opens_at, closes_at, fl_at, del_at, ins_at, rep_at, psh_at, trn_at, tak_at, pEn_at, cpQ_at, cpP_at, cpT_at, ti_at, th_at, rec_at, saves_at] at hi_27 ⊢
      refine X_if_le 33 35 hO dX13_markByReplay_30 rfl rfl (by omega) (fun hc_30 => ?_) (fun hc_30 => ?_)
      ·
        first | (exfalso; omega) | exact JP35 (by omega) hR
      ·
        refine X_iconst 34 hO dX13_markByReplay_33 rfl ?_
        exact XM_iret hO hF hR rfl (by first | exact Or.inl rfl | exact Or.inr ⟨rfl, bi_01 _⟩ | exact Or.inr ⟨rfl, by omega⟩) dX13_markByReplay_34 (by first | assumption | omega | exact I_rng _) (by first | (exfalso; omega) | (unfold o_markByReplay m_th; (repeat (first | rw [if_pos (by omega)] | rw [if_neg (by omega)])); exact ⟨rfl, rfl⟩))
    ·
      try simp only [bi_0, bi_ne, ne_eq, Classical.not_not] at hc_15
      refine X_iconst 19 hO dX13_markByReplay_18 rfl ?_
      refine X_goto hO dX13_markByReplay_19 (tgt := 23) rfl ?_
      refine pa_171 26 hO hR dX13_markByReplay_23 rfl (by omega) (fun hR => ?_)
      refine X_aload_n 27 hO dX13_markByReplay_26 rfl rfl ?_
      refine ga_171 30 hO hR dX13_markByReplay_27 rfl (fun hi_27 => ?_)
      try simp (disch := decide) only [up_k, up_s, step_at, pool_at, poolN_at, opens_at, closes_at, fl_at, del_at, ins_at, rep_at, psh_at, trn_at, tak_at, pEn_at, cpQ_at, cpP_at, cpT_at, ti_at, th_at, rec_at, saves_at] at hi_27 ⊢
      refine X_if_le 33 35 hO dX13_markByReplay_30 rfl rfl (by omega) (fun hc_30 => ?_) (fun hc_30 => ?_)
      ·
        first | (exfalso; omega) | exact JP35 (by omega) hR
      ·
        refine X_iconst 34 hO dX13_markByReplay_33 rfl ?_
        exact XM_iret hO hF hR rfl (by first | exact Or.inl rfl | exact Or.inr ⟨rfl, bi_01 _⟩ | exact Or.inr ⟨rfl, by omega⟩) dX13_markByReplay_34 (by first | assumption | omega | exact I_rng _) (by first | (exfalso; omega) | (unfold o_markByReplay m_th; (repeat (first | rw [if_pos (by omega)] | rw [if_neg (by omega)])); exact ⟨rfl, rfl⟩))
def o_storedByReplay (μ : MU) (PL : Int → List Int) (c k : Int) (w : Mm) : Int × Mm := if isN μ c w ∧ 0 ≤ k ∧ k ≤ 4 then (if w 211 0 k = 0 then (0, m_th μ 0 w) else (sumN (fun e => m_rpl μ PL c (m_th μ 0 w) 205 0 (20 + 4 * k + e)) (m_rpl μ PL c (m_th μ 0 w) 204 0 (5 + k)).toNat, m_rpl μ PL c (m_th μ 0 w))) else (0, m_th μ 1 w)
theorem dX13_storedByReplay_0 : decode cX13_storedByReplay 0 = .ok (.aload_n 0, 1) := by decide +kernel
theorem dX13_storedByReplay_1 : decode cX13_storedByReplay 1 = .ok (.aload_n 0, 1) := by decide +kernel
theorem dX13_storedByReplay_2 : decode cX13_storedByReplay 2 = .ok (.iload_n 1, 1) := by decide +kernel
theorem dX13_storedByReplay_3 : decode cX13_storedByReplay 3 = .ok (.invokevirtual 400, 3) := by decide +kernel
theorem dX13_storedByReplay_6 : decode cX13_storedByReplay 6 = .ok (.ifCond .eq 16, 3) := by decide +kernel
theorem dX13_storedByReplay_9 : decode cX13_storedByReplay 9 = .ok (.iload_n 2, 1) := by decide +kernel
theorem dX13_storedByReplay_10 : decode cX13_storedByReplay 10 = .ok (.iconst 0, 1) := by decide +kernel
theorem dX13_storedByReplay_11 : decode cX13_storedByReplay 11 = .ok (.iconst 4, 1) := by decide +kernel
theorem dX13_storedByReplay_12 : decode cX13_storedByReplay 12 = .ok (.invokestatic 174, 3) := by decide +kernel
theorem dX13_storedByReplay_15 : decode cX13_storedByReplay 15 = .ok (.ifCond .eq 7, 3) := by decide +kernel
theorem dX13_storedByReplay_18 : decode cX13_storedByReplay 18 = .ok (.iconst 0, 1) := by decide +kernel
theorem dX13_storedByReplay_19 : decode cX13_storedByReplay 19 = .ok (.goto 4, 3) := by decide +kernel
theorem dX13_storedByReplay_22 : decode cX13_storedByReplay 22 = .ok (.iconst 1, 1) := by decide +kernel
theorem dX13_storedByReplay_23 : decode cX13_storedByReplay 23 = .ok (.putfield 171, 3) := by decide +kernel
theorem dX13_storedByReplay_26 : decode cX13_storedByReplay 26 = .ok (.aload_n 0, 1) := by decide +kernel
theorem dX13_storedByReplay_27 : decode cX13_storedByReplay 27 = .ok (.getfield 171, 3) := by decide +kernel
theorem dX13_storedByReplay_30 : decode cX13_storedByReplay 30 = .ok (.ifCond .gt 12, 3) := by decide +kernel
theorem dX13_storedByReplay_33 : decode cX13_storedByReplay 33 = .ok (.aload_n 0, 1) := by decide +kernel
theorem dX13_storedByReplay_34 : decode cX13_storedByReplay 34 = .ok (.getfield 43, 3) := by decide +kernel
theorem dX13_storedByReplay_37 : decode cX13_storedByReplay 37 = .ok (.iload_n 2, 1) := by decide +kernel
theorem dX13_storedByReplay_38 : decode cX13_storedByReplay 38 = .ok (.iaload, 1) := by decide +kernel
theorem dX13_storedByReplay_39 : decode cX13_storedByReplay 39 = .ok (.ifCond .ne 5, 3) := by decide +kernel
theorem dX13_storedByReplay_42 : decode cX13_storedByReplay 42 = .ok (.iconst 0, 1) := by decide +kernel
theorem dX13_storedByReplay_43 : decode cX13_storedByReplay 43 = .ok (.ireturn, 1) := by decide +kernel
theorem dX13_storedByReplay_44 : decode cX13_storedByReplay 44 = .ok (.aload_n 0, 1) := by decide +kernel
theorem dX13_storedByReplay_45 : decode cX13_storedByReplay 45 = .ok (.iload_n 1, 1) := by decide +kernel
theorem dX13_storedByReplay_46 : decode cX13_storedByReplay 46 = .ok (.invokevirtual 394, 3) := by decide +kernel
theorem dX13_storedByReplay_49 : decode cX13_storedByReplay 49 = .ok (.iconst 0, 1) := by decide +kernel
theorem dX13_storedByReplay_50 : decode cX13_storedByReplay 50 = .ok (.istore_n 3, 1) := by decide +kernel
theorem dX13_storedByReplay_51 : decode cX13_storedByReplay 51 = .ok (.iconst 0, 1) := by decide +kernel
theorem dX13_storedByReplay_52 : decode cX13_storedByReplay 52 = .ok (.istore 4, 2) := by decide +kernel
theorem dX13_storedByReplay_54 : decode cX13_storedByReplay 54 = .ok (.iload 4, 2) := by decide +kernel
theorem dX13_storedByReplay_56 : decode cX13_storedByReplay 56 = .ok (.aload_n 0, 1) := by decide +kernel
theorem dX13_storedByReplay_57 : decode cX13_storedByReplay 57 = .ok (.getfield 22, 3) := by decide +kernel
theorem dX13_storedByReplay_60 : decode cX13_storedByReplay 60 = .ok (.iconst 5, 1) := by decide +kernel
theorem dX13_storedByReplay_61 : decode cX13_storedByReplay 61 = .ok (.iload_n 2, 1) := by decide +kernel
theorem dX13_storedByReplay_62 : decode cX13_storedByReplay 62 = .ok (.iadd, 1) := by decide +kernel
theorem dX13_storedByReplay_63 : decode cX13_storedByReplay 63 = .ok (.iaload, 1) := by decide +kernel
theorem dX13_storedByReplay_64 : decode cX13_storedByReplay 64 = .ok (.if_icmp .ge 26, 3) := by decide +kernel
theorem dX13_storedByReplay_67 : decode cX13_storedByReplay 67 = .ok (.iload_n 3, 1) := by decide +kernel
theorem dX13_storedByReplay_68 : decode cX13_storedByReplay 68 = .ok (.aload_n 0, 1) := by decide +kernel
theorem dX13_storedByReplay_69 : decode cX13_storedByReplay 69 = .ok (.getfield 25, 3) := by decide +kernel
theorem dX13_storedByReplay_72 : decode cX13_storedByReplay 72 = .ok (.bipush 20, 2) := by decide +kernel
theorem dX13_storedByReplay_74 : decode cX13_storedByReplay 74 = .ok (.iconst 4, 1) := by decide +kernel
theorem dX13_storedByReplay_75 : decode cX13_storedByReplay 75 = .ok (.iload_n 2, 1) := by decide +kernel
theorem dX13_storedByReplay_76 : decode cX13_storedByReplay 76 = .ok (.imul, 1) := by decide +kernel
theorem dX13_storedByReplay_77 : decode cX13_storedByReplay 77 = .ok (.iadd, 1) := by decide +kernel
theorem dX13_storedByReplay_78 : decode cX13_storedByReplay 78 = .ok (.iload 4, 2) := by decide +kernel
theorem dX13_storedByReplay_80 : decode cX13_storedByReplay 80 = .ok (.iadd, 1) := by decide +kernel
theorem dX13_storedByReplay_81 : decode cX13_storedByReplay 81 = .ok (.iaload, 1) := by decide +kernel
theorem dX13_storedByReplay_82 : decode cX13_storedByReplay 82 = .ok (.iadd, 1) := by decide +kernel
theorem dX13_storedByReplay_83 : decode cX13_storedByReplay 83 = .ok (.istore_n 3, 1) := by decide +kernel
theorem dX13_storedByReplay_84 : decode cX13_storedByReplay 84 = .ok (.iinc 4 1, 3) := by decide +kernel
theorem dX13_storedByReplay_87 : decode cX13_storedByReplay 87 = .ok (.goto (-33), 3) := by decide +kernel
theorem dX13_storedByReplay_90 : decode cX13_storedByReplay 90 = .ok (.iload_n 3, 1) := by decide +kernel
theorem dX13_storedByReplay_91 : decode cX13_storedByReplay 91 = .ok (.ireturn, 1) := by decide +kernel
set_option maxRecDepth 4000 in
theorem c_storedByReplay (γ : LC) (μ : MU) (w : Mm) (PL : Int → List Int) (c k : Int) (S P M : Int) (hc : IR c) (hk : IR k) (hRA : RPA μ PL w) (hEx : bEx μ w) (hR0 : RB μ S P M w) (hS : S ≤ 28900) (hP : P ≤ 500000) (hM : M ≤ 590) : CMi γ μ 5 mX13_storedByReplay [.int (I c), .int (I k)] w (fun r w' => r = (o_storedByReplay μ PL c k w).1 ∧ w' = (o_storedByReplay μ PL c k w).2) := by
  refine CMi_of rfl (by simp [rv_cat, Value.category]) rfl ?_
  rintro κ hO hF rfl hR
  have hD := hF.dp
  show X κ 0 0 w 0 [some (rv μ.1), some (.int (I c)), some (.int (I k)), none, none] []
  have hX : RB μ S P M (up w 139 μ.1 0 0) := hR0.fld (by decide)
  have hXT := hX.2.1.2.2.2.1
  have x124 : up w 139 μ.1 0 0 124 μ.1 0 = w 124 μ.1 0 := up_k _ (by decide) _ _ _ _ _
  have x210 : up w 139 μ.1 0 0 210 0 0 = w 210 0 0 := up_k _ (by decide) _ _ _ _ _
  
  have hL := hR0.1
  obtain ⟨f1, f2, f3, f4, f5⟩ := hR0.1.f
  obtain ⟨t1, t2, t3, t4, t5, t6, t7⟩ := hR0.2.1.2.2.2.1
  have JP44 : ((isN μ c w ∧ 0 ≤ k ∧ k ≤ 4) ∧ w 211 0 k ≠ 0) → (RM (up w 139 μ.1 0 0) μ) → X κ 0 0 (up w 139 μ.1 0 0) 44 [some (rv μ.1), some (.int (I c)), some (.int (I k)), none, none] [] := by
    intro  hnz hR
    have hRx : RPk μ PL c (up w 139 μ.1 0 0) := (hRA c (by omega) (by omega) hnz.1.1.2).up (by decide)
    refine X_aload_n 45 hO dX13_storedByReplay_44 rfl rfl ?_
    refine X_iload_n 46 hO dX13_storedByReplay_45 rfl rfl ?_
    refine XM_callVv 49 hO hD hR lX13_394 [_] rfl dX13_storedByReplay_46 rfl (c_replays _ _ _ _ M PL hXT (by omega) (by rw [x124]; omega) hX.2.1.2.2.1 hX.1.2.2.1 (by rw [x210]; omega) hX.1.2.1.e hRx.1 hRx.2) (by decide) (by simp only [List.map_cons, List.map_nil, rv_cat]; exact Nat.le_of_ble_eq_true rfl) (fun w_46 hp_46 hR => ?_)
    subst hp_46
    obtain ⟨z1, z2, z3⟩ := rpl_st hX.2.1.2.2.1 hX.1.2.2.1 hRx
    have zl := z1.1
    unfold bL1 at zl
    have zc := z1.2.2.2.1 (5 + k) (by omega) (by omega)
    refine X_iconst 50 hO dX13_storedByReplay_49 rfl ?_
    refine X_istore_n 51 hO dX13_storedByReplay_50 rfl rfl ?_
    refine X_iconst 52 hO dX13_storedByReplay_51 rfl ?_
    refine X_istore 54 hO dX13_storedByReplay_52 rfl rfl ?_
    have LP54 : ∀ (n : Nat) (e s : Int), ((m_rpl μ PL c (up w 139 μ.1 0 0)) 204 0 (5 + k) - e).toNat < n → (0 ≤ e ∧ e ≤ (m_rpl μ PL c (up w 139 μ.1 0 0)) 204 0 (5 + k)) → (0 ≤ s ∧ s ≤ 20 * e) → (s = sumN (fun e => (m_rpl μ PL c (up w 139 μ.1 0 0)) 205 0 (20 + 4 * k + e)) e.toNat) → RM ((m_rpl μ PL c (up w 139 μ.1 0 0))) μ → X κ 0 0 ((m_rpl μ PL c (up w 139 μ.1 0 0))) 54 [some (rv μ.1), some (.int (I c)), some (.int (I k)), some (.int (I s)), some (.int (I e))] [] := by
      intro n
      induction n with
      | zero => intro e s hm; exact absurd hm (Nat.not_lt_zero _)
      | succ n ih =>
        intro e s hm he hs2 hs hR
        refine X_iload 56 hO dX13_storedByReplay_54 rfl rfl ?_
        refine X_aload_n 57 hO dX13_storedByReplay_56 rfl rfl ?_
        refine ga_22 60 hO hR dX13_storedByReplay_57 rfl ?_
        refine X_iconst 61 hO dX13_storedByReplay_60 rfl ?_
        refine X_iload_n 62 hO dX13_storedByReplay_61 rfl rfl ?_
        refine X_iadd 63 hO dX13_storedByReplay_62 rfl ?_
        refine ma_ld (L := 20) (c := 204) 64 hO hR rfl rfl rfl dX13_storedByReplay_63 rfl (by omega) (by omega) (fun hi_63 => ?_)
        try simp (disch := decide) only [up_k, up_s, step_at, pool_at, poolN_at, opens_at, closes_at, fl_at, del_at, ins_at, rep_at, psh_at, trn_at, tak_at, pEn_at, cpQ_at, cpP_at, cpT_at, ti_at, th_at, rec_at, saves_at] at hi_63 ⊢
        refine X_icmp_ge 67 90 hO dX13_storedByReplay_64 rfl rfl (by omega) (by omega) (fun hc_64 => ?_) (fun hc_64 => ?_)
        ·
          have e64 : e = (m_rpl μ PL c (up w 139 μ.1 0 0)) 204 0 (5 + k) := by omega
          refine X_iload_n 91 hO dX13_storedByReplay_90 rfl rfl ?_
          exact XM_iret hO hF hR rfl (by first | exact Or.inl rfl | exact Or.inr ⟨rfl, bi_01 _⟩ | exact Or.inr ⟨rfl, by omega⟩) dX13_storedByReplay_91 (by first | assumption | omega | exact I_rng _) (by unfold o_storedByReplay; rw [if_pos hnz.1, if_neg hnz.2]; rw [e64] at hs; exact ⟨hs, rfl⟩)
        ·
          have ze := z1.2.2.2.2.1 (20 + 4 * k + e) (by omega) (by omega)
          refine X_iload_n 68 hO dX13_storedByReplay_67 rfl rfl ?_
          refine X_aload_n 69 hO dX13_storedByReplay_68 rfl rfl ?_
          refine ga_25 72 hO hR dX13_storedByReplay_69 rfl ?_
          refine X_bipush 74 hO dX13_storedByReplay_72 rfl (by decide) ?_
          refine X_iconst 75 hO dX13_storedByReplay_74 rfl ?_
          refine X_iload_n 76 hO dX13_storedByReplay_75 rfl rfl ?_
          refine X_imul 77 hO dX13_storedByReplay_76 rfl ?_
          refine X_iadd 78 hO dX13_storedByReplay_77 rfl ?_
          refine X_iload 80 hO dX13_storedByReplay_78 rfl rfl ?_
          refine X_iadd 81 hO dX13_storedByReplay_80 rfl ?_
          refine ma_ld (L := 80) (c := 205) 82 hO hR rfl rfl rfl dX13_storedByReplay_81 rfl (by omega) (by omega) (fun hi_81 => ?_)
          try simp (disch := decide) only [up_k, up_s, step_at, pool_at, poolN_at, opens_at, closes_at, fl_at, del_at, ins_at, rep_at, psh_at, trn_at, tak_at, pEn_at, cpQ_at, cpP_at, cpT_at, ti_at, th_at, rec_at, saves_at] at hi_81 ⊢
          refine X_iadd 83 hO dX13_storedByReplay_82 rfl ?_
          refine X_istore_n 84 hO dX13_storedByReplay_83 rfl rfl ?_
          refine X_iinc 87 hO dX13_storedByReplay_84 rfl rfl ?_
          refine X_goto hO dX13_storedByReplay_87 (tgt := 54) rfl ?_
          exact ih (e + 1) _ (by omega) (by omega) (by omega) (sumN_s (by omega) hs rfl) hR
    exact LP54 _ 0 0 (Nat.lt_succ_self _) (by omega) (by omega) rfl hR
  refine X_aload_n 1 hO dX13_storedByReplay_0 rfl rfl ?_
  refine X_aload_n 2 hO dX13_storedByReplay_1 rfl rfl ?_
  refine X_iload_n 3 hO dX13_storedByReplay_2 rfl rfl ?_
  refine XM_callVi 6 hO hD hR lX13_400 [_] rfl dX13_storedByReplay_3 rfl (c_isNode _ _ _ _ _ _ _ (by omega) hR0 hS hP hM) (by decide) (by simp only [List.map_cons, List.map_nil, rv_cat]; exact Nat.le_of_ble_eq_true rfl) (fun r_3 w_3 hr_3 hp_3 hR => ?_)
  obtain ⟨e1_3, e2_3⟩ := hp_3
  subst e1_3
  subst e2_3
  refine X_if_eq 9 22 hO dX13_storedByReplay_6 rfl rfl (by omega) (fun hc_6 => ?_) (fun hc_6 => ?_)
  ·
    try simp only [bi_0, bi_ne, ne_eq, Classical.not_not] at hc_6
    refine X_iconst 23 hO dX13_storedByReplay_22 rfl ?_
    refine pa_171 26 hO hR dX13_storedByReplay_23 rfl (by omega) (fun hR => ?_)
    refine X_aload_n 27 hO dX13_storedByReplay_26 rfl rfl ?_
    refine ga_171 30 hO hR dX13_storedByReplay_27 rfl (fun hi_27 => ?_)
    try simp (disch := decide) only [up_k, up_s, step_at, pool_at, poolN_at, opens_at, closes_at, fl_at, del_at, ins_at, rep_at, psh_at, trn_at, tak_at, pEn_at, cpQ_at, cpP_at, cpT_at, ti_at, th_at, rec_at, saves_at] at hi_27 ⊢
    refine X_if_gt 33 42 hO dX13_storedByReplay_30 rfl rfl (by omega) (fun hc_30 => ?_) (fun hc_30 => ?_)
    ·
      refine X_iconst 43 hO dX13_storedByReplay_42 rfl ?_
      exact XM_iret hO hF hR rfl (by first | exact Or.inl rfl | exact Or.inr ⟨rfl, bi_01 _⟩ | exact Or.inr ⟨rfl, by omega⟩) dX13_storedByReplay_43 (by first | assumption | omega | exact I_rng _) (by first | (exfalso; omega) | (unfold o_storedByReplay m_th; (repeat (first | rw [if_pos (by omega)] | rw [if_neg (by omega)])); exact ⟨rfl, rfl⟩))
    ·
      refine X_aload_n 34 hO dX13_storedByReplay_33 rfl rfl ?_
      refine ga_43 37 hO hR dX13_storedByReplay_34 rfl ?_
      refine X_iload_n 38 hO dX13_storedByReplay_37 rfl rfl ?_
      refine ma_ld (L := 5) (c := 211) 39 hO hR rfl rfl rfl dX13_storedByReplay_38 rfl (by omega) (by omega) (fun hi_38 => ?_)
      try simp (disch := decide) only [up_k, up_s, step_at, pool_at, poolN_at, opens_at, closes_at, fl_at, del_at, ins_at, rep_at, psh_at, trn_at, tak_at, pEn_at, cpQ_at, cpP_at, cpT_at, ti_at, th_at, rec_at, saves_at] at hi_38 ⊢
      refine X_if_ne 42 44 hO dX13_storedByReplay_39 rfl rfl (by omega) (fun hc_39 => ?_) (fun hc_39 => ?_)
      ·
        first | (exfalso; omega) | exact JP44 (by omega) hR
      ·
        refine X_iconst 43 hO dX13_storedByReplay_42 rfl ?_
        exact XM_iret hO hF hR rfl (by first | exact Or.inl rfl | exact Or.inr ⟨rfl, bi_01 _⟩ | exact Or.inr ⟨rfl, by omega⟩) dX13_storedByReplay_43 (by first | assumption | omega | exact I_rng _) (by first | (exfalso; omega) | (unfold o_storedByReplay m_th; (repeat (first | rw [if_pos (by omega)] | rw [if_neg (by omega)])); exact ⟨rfl, rfl⟩))
  ·
    try simp only [bi_0, bi_ne, ne_eq, Classical.not_not] at hc_6
    refine X_iload_n 10 hO dX13_storedByReplay_9 rfl rfl ?_
    refine X_iconst 11 hO dX13_storedByReplay_10 rfl ?_
    refine X_iconst 12 hO dX13_storedByReplay_11 rfl ?_
    refine XM_callSi 15 hO hD lX13_174 [_, _, _] rfl dX13_storedByReplay_12 rfl (c_in _ _ _ _ _ (by omega) (by omega) (by omega)) (by decide) (by simp only [List.map_cons, List.map_nil, rv_cat]; exact Nat.le_of_ble_eq_true rfl) (fun r_12 hr_12 hp_12 => ?_)
    subst hp_12
    refine X_if_eq 18 22 hO dX13_storedByReplay_15 rfl rfl (by omega) (fun hc_15 => ?_) (fun hc_15 => ?_)
    ·
      try simp only [bi_0, bi_ne, ne_eq, Classical.not_not] at hc_15
      refine X_iconst 23 hO dX13_storedByReplay_22 rfl ?_
      refine pa_171 26 hO hR dX13_storedByReplay_23 rfl (by omega) (fun hR => ?_)
      refine X_aload_n 27 hO dX13_storedByReplay_26 rfl rfl ?_
      refine ga_171 30 hO hR dX13_storedByReplay_27 rfl (fun hi_27 => ?_)
      try simp (disch := decide) only [up_k, up_s, step_at, pool_at, poolN_at, opens_at, closes_at, fl_at, del_at, ins_at, rep_at, psh_at, trn_at, tak_at, pEn_at, cpQ_at, cpP_at, cpT_at, ti_at, th_at, rec_at, saves_at] at hi_27 ⊢
      refine X_if_gt 33 42 hO dX13_storedByReplay_30 rfl rfl (by omega) (fun hc_30 => ?_) (fun hc_30 => ?_)
      ·
        refine X_iconst 43 hO dX13_storedByReplay_42 rfl ?_
        exact XM_iret hO hF hR rfl (by first | exact Or.inl rfl | exact Or.inr ⟨rfl, bi_01 _⟩ | exact Or.inr ⟨rfl, by omega⟩) dX13_storedByReplay_43 (by first | assumption | omega | exact I_rng _) (by first | (exfalso; omega) | (unfold o_storedByReplay m_th; (repeat (first | rw [if_pos (by omega)] | rw [if_neg (by omega)])); exact ⟨rfl, rfl⟩))
      ·
        refine X_aload_n 34 hO dX13_storedByReplay_33 rfl rfl ?_
        refine ga_43 37 hO hR dX13_storedByReplay_34 rfl ?_
        refine X_iload_n 38 hO dX13_storedByReplay_37 rfl rfl ?_
        refine ma_ld (L := 5) (c := 211) 39 hO hR rfl rfl rfl dX13_storedByReplay_38 rfl (by omega) (by omega) (fun hi_38 => ?_)
        try simp (disch := decide) only [up_k, up_s, step_at, pool_at, poolN_at, opens_at, closes_at, fl_at, del_at, ins_at, rep_at, psh_at, trn_at, tak_at, pEn_at, cpQ_at, cpP_at, cpT_at, ti_at, th_at, rec_at, saves_at] at hi_38 ⊢
        refine X_if_ne 42 44 hO dX13_storedByReplay_39 rfl rfl (by omega) (fun hc_39 => ?_) (fun hc_39 => ?_)
        ·
          first | (exfalso; omega) | exact JP44 (by omega) hR
        ·
          refine X_iconst 43 hO dX13_storedByReplay_42 rfl ?_
          exact XM_iret hO hF hR rfl (by first | exact Or.inl rfl | exact Or.inr ⟨rfl, bi_01 _⟩ | exact Or.inr ⟨rfl, by omega⟩) dX13_storedByReplay_43 (by first | assumption | omega | exact I_rng _) (by first | (exfalso; omega) | (unfold o_storedByReplay m_th; (repeat (first | rw [if_pos (by omega)] | rw [if_neg (by omega)])); exact ⟨rfl, rfl⟩))
    ·
      try simp only [bi_0, bi_ne, ne_eq, Classical.not_not] at hc_15
      refine X_iconst 19 hO dX13_storedByReplay_18 rfl ?_
      refine X_goto hO dX13_storedByReplay_19 (tgt := 23) rfl ?_
      refine pa_171 26 hO hR dX13_storedByReplay_23 rfl (by omega) (fun hR => ?_)
      refine X_aload_n 27 hO dX13_storedByReplay_26 rfl rfl ?_
      refine ga_171 30 hO hR dX13_storedByReplay_27 rfl (fun hi_27 => ?_)
      try simp (disch := decide) only [up_k, up_s, step_at, pool_at, poolN_at, opens_at, closes_at, fl_at, del_at, ins_at, rep_at, psh_at, trn_at, tak_at, pEn_at, cpQ_at, cpP_at, cpT_at, ti_at, th_at, rec_at, saves_at] at hi_27 ⊢
      refine X_if_gt 33 42 hO dX13_storedByReplay_30 rfl rfl (by omega) (fun hc_30 => ?_) (fun hc_30 => ?_)
      ·
        refine X_iconst 43 hO dX13_storedByReplay_42 rfl ?_
        exact XM_iret hO hF hR rfl (by first | exact Or.inl rfl | exact Or.inr ⟨rfl, bi_01 _⟩ | exact Or.inr ⟨rfl, by omega⟩) dX13_storedByReplay_43 (by first | assumption | omega | exact I_rng _) (by first | (exfalso; omega) | (unfold o_storedByReplay m_th; (repeat (first | rw [if_pos (by omega)] | rw [if_neg (by omega)])); exact ⟨rfl, rfl⟩))
      ·
        refine X_aload_n 34 hO dX13_storedByReplay_33 rfl rfl ?_
        refine ga_43 37 hO hR dX13_storedByReplay_34 rfl ?_
        refine X_iload_n 38 hO dX13_storedByReplay_37 rfl rfl ?_
        refine ma_ld (L := 5) (c := 211) 39 hO hR rfl rfl rfl dX13_storedByReplay_38 rfl (by omega) (by omega) (fun hi_38 => ?_)
        try simp (disch := decide) only [up_k, up_s, step_at, pool_at, poolN_at, opens_at, closes_at, fl_at, del_at, ins_at, rep_at, psh_at, trn_at, tak_at, pEn_at, cpQ_at, cpP_at, cpT_at, ti_at, th_at, rec_at, saves_at] at hi_38 ⊢
        refine X_if_ne 42 44 hO dX13_storedByReplay_39 rfl rfl (by omega) (fun hc_39 => ?_) (fun hc_39 => ?_)
        ·
          first | (exfalso; omega) | exact JP44 (by omega) hR
        ·
          refine X_iconst 43 hO dX13_storedByReplay_42 rfl ?_
          exact XM_iret hO hF hR rfl (by first | exact Or.inl rfl | exact Or.inr ⟨rfl, bi_01 _⟩ | exact Or.inr ⟨rfl, by omega⟩) dX13_storedByReplay_43 (by first | assumption | omega | exact I_rng _) (by first | (exfalso; omega) | (unfold o_storedByReplay m_th; (repeat (first | rw [if_pos (by omega)] | rw [if_neg (by omega)])); exact ⟨rfl, rfl⟩))
