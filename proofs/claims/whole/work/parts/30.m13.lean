def m_th (μ : MU) (k : Int) (w : Mm) : Mm := up w 139 μ.1 0 k
def m_ti (μ : MU) (p : Prop) [Decidable p] (w : Mm) : Mm := up w 139 μ.1 0 (if p then 0 else 1)
theorem th_at {μ : MU} {k : Int} {w : Mm} {c : Nat} {a i : Int} (h : c ≠ 139) : m_th μ k w c a i = w c a i := up_k _ h _ _ _ _ _
theorem ti_at {μ : MU} {p : Prop} [Decidable p] {w : Mm} {c : Nat} {a i : Int} (h : c ≠ 139) : m_ti μ p w c a i = w c a i := up_k _ h _ _ _ _ _
theorem RB.fld {μ : MU} {S P M : Int} {w : Mm} (h : RB μ S P M w) {c : Nat} {a i v : Int} (hc : c = 131 ∨ (133 < c ∧ c < 200)) : RB μ S P M (up w c a i v) := by
  obtain ⟨h1, h2, h3, h4⟩ := h
  refine ⟨h1.up_o (c := c) (by omega), h2.up_o (c := c) (by omega), ?_, ?_⟩
  · unfold bZ at *
    rw [up_k _ (by omega), up_k _ (by omega), up_k _ (by omega), up_k _ (by omega), up_k _ (by omega), up_k _ (by omega), up_k _ (by omega)]; exact h3
  · unfold bY at *
    rw [up_k _ (by omega), up_k _ (by omega), up_k _ (by omega), up_k _ (by omega)]; exact h4
theorem RB.ti {μ : MU} {S P M : Int} {w : Mm} (h : RB μ S P M w) {p : Prop} [Decidable p] : RB μ S P M (m_ti μ p w) := h.fld (by omega)
theorem RB.th {μ : MU} {S P M : Int} {w : Mm} (h : RB μ S P M w) {k : Int} : RB μ S P M (m_th μ k w) := h.fld (by omega)
abbrev isC (c : Int) : Prop := c = 10 ∨ (32 ≤ c ∧ c ≤ 126)
abbrev isN (μ : MU) (k : Int) (w : Mm) : Prop := (0 ≤ k ∧ k ≤ w 124 μ.1 0 - 1) ∧ w 216 0 k = 1
def m_fee (p : Int) (w : Mm) : Int := sumN (fun k => bi (w 200 0 k = 10)) p.toNat
abbrev isE (s e : Int) (w : Mm) : Prop := (0 ≤ s ∧ s ≤ 4) ∧ (0 ≤ e ∧ e ≤ w 204 0 s - 1)
def o_overwrite (μ : MU) (c : Int) (w : Mm) : Int × Mm := if isC c then m_cal μ 1 c 0 2 (m_ti μ (isC c) w) else (0, m_ti μ (isC c) w)
theorem dX13_overwrite_0 : decode cX13_overwrite 0 = .ok (.aload_n 0, 1) := by decide +kernel
theorem dX13_overwrite_1 : decode cX13_overwrite 1 = .ok (.iload_n 1, 1) := by decide +kernel
theorem dX13_overwrite_2 : decode cX13_overwrite 2 = .ok (.invokestatic 366, 3) := by decide +kernel
theorem dX13_overwrite_5 : decode cX13_overwrite 5 = .ok (.ifCond .eq 7, 3) := by decide +kernel
theorem dX13_overwrite_8 : decode cX13_overwrite 8 = .ok (.iconst 0, 1) := by decide +kernel
theorem dX13_overwrite_9 : decode cX13_overwrite 9 = .ok (.goto 4, 3) := by decide +kernel
theorem dX13_overwrite_12 : decode cX13_overwrite 12 = .ok (.iconst 1, 1) := by decide +kernel
theorem dX13_overwrite_13 : decode cX13_overwrite 13 = .ok (.putfield 171, 3) := by decide +kernel
theorem dX13_overwrite_16 : decode cX13_overwrite 16 = .ok (.aload_n 0, 1) := by decide +kernel
theorem dX13_overwrite_17 : decode cX13_overwrite 17 = .ok (.getfield 171, 3) := by decide +kernel
theorem dX13_overwrite_20 : decode cX13_overwrite 20 = .ok (.ifCond .le 7, 3) := by decide +kernel
theorem dX13_overwrite_23 : decode cX13_overwrite 23 = .ok (.iconst 0, 1) := by decide +kernel
theorem dX13_overwrite_24 : decode cX13_overwrite 24 = .ok (.goto 11, 3) := by decide +kernel
theorem dX13_overwrite_27 : decode cX13_overwrite 27 = .ok (.aload_n 0, 1) := by decide +kernel
theorem dX13_overwrite_28 : decode cX13_overwrite 28 = .ok (.iconst 1, 1) := by decide +kernel
theorem dX13_overwrite_29 : decode cX13_overwrite 29 = .ok (.iload_n 1, 1) := by decide +kernel
theorem dX13_overwrite_30 : decode cX13_overwrite 30 = .ok (.iconst 0, 1) := by decide +kernel
theorem dX13_overwrite_31 : decode cX13_overwrite 31 = .ok (.iconst 2, 1) := by decide +kernel
theorem dX13_overwrite_32 : decode cX13_overwrite 32 = .ok (.invokevirtual 375, 3) := by decide +kernel
theorem dX13_overwrite_35 : decode cX13_overwrite 35 = .ok (.ireturn, 1) := by decide +kernel
set_option maxRecDepth 4000 in
theorem c_overwrite (γ : LC) (μ : MU) (w : Mm) (c : Int) (S P M : Int) (hc : IR c) (hR0 : RB μ S P M w) (hS : S ≤ 28900) (hP : P ≤ 500000) (hM : M ≤ 590) : CMi γ μ 7 mX13_overwrite [.int (I c)] w (fun r w' => r = (o_overwrite μ c w).1 ∧ w' = (o_overwrite μ c w).2) := by
  refine CMi_of rfl (by simp [rv_cat, Value.category]) rfl ?_
  rintro κ hO hF rfl hR
  have hD := hF.dp
  show X κ 0 0 w 0 [some (rv μ.1), some (.int (I c))] []
  have hL := hR0.1
  obtain ⟨f1, f2, f3, f4, f5⟩ := hR0.1.f
  obtain ⟨t1, t2, t3, t4, t5, t6, t7⟩ := hR0.2.1.2.2.2.1
  refine X_aload_n 1 hO dX13_overwrite_0 rfl rfl ?_
  refine X_iload_n 2 hO dX13_overwrite_1 rfl rfl ?_
  refine XM_callSi 5 hO hD lX13_366 [_] rfl dX13_overwrite_2 rfl (c_isCharacter _ _ _ (by omega)) (by decide) (by simp only [List.map_cons, List.map_nil, rv_cat]; exact Nat.le_of_ble_eq_true rfl) (fun r_2 hr_2 hp_2 => ?_)
  subst hp_2
  refine X_if_eq 8 12 hO dX13_overwrite_5 rfl rfl (by omega) (fun hc_5 => ?_) (fun hc_5 => ?_)
  ·
    try simp only [bi_0, bi_ne, ne_eq, Classical.not_not] at hc_5
    refine X_iconst 13 hO dX13_overwrite_12 rfl ?_
    refine pa_171 16 hO hR dX13_overwrite_13 rfl (by omega) (fun hR => ?_)
    refine X_aload_n 17 hO dX13_overwrite_16 rfl rfl ?_
    refine ga_171 20 hO hR dX13_overwrite_17 rfl (fun hi_17 => ?_)
    try simp (disch := decide) only [up_k, up_s, step_at, pool_at, poolN_at, opens_at, closes_at, fl_at, del_at, ins_at, rep_at, psh_at, trn_at, tak_at, pEn_at, cpQ_at, cpP_at, cpT_at, ti_at, th_at] at hi_17 ⊢
    refine X_if_le 23 27 hO dX13_overwrite_20 rfl rfl (by omega) (fun hc_20 => ?_) (fun hc_20 => ?_)
    ·
      refine X_aload_n 28 hO dX13_overwrite_27 rfl rfl ?_
      refine X_iconst 29 hO dX13_overwrite_28 rfl ?_
      refine X_iload_n 30 hO dX13_overwrite_29 rfl rfl ?_
      refine X_iconst 31 hO dX13_overwrite_30 rfl ?_
      refine X_iconst 32 hO dX13_overwrite_31 rfl ?_
      refine XM_callVi 35 hO hD hR lX13_375 [_, _, _, _] rfl dX13_overwrite_32 rfl (c_called _ _ _ _ _ _ _ S P M (by unfold CV; omega) (by omega) (by omega) (hR0.fld (by decide)) hS hP hM) (by decide) (by simp only [List.map_cons, List.map_nil, rv_cat]; exact Nat.le_of_ble_eq_true rfl) (fun r_32 w_32 hr_32 hp_32 hR => ?_)
      obtain ⟨e1_32, e2_32⟩ := hp_32
      subst e1_32
      subst e2_32
      exact XM_iret hO hF hR rfl (by first | exact Or.inl rfl | exact Or.inr ⟨rfl, bi_01 _⟩ | exact Or.inr ⟨rfl, by omega⟩) dX13_overwrite_35 (by first | assumption | omega | exact I_rng _) (by first | (exfalso; omega) | (unfold o_overwrite ; (try unfold m_ti); (try unfold m_th); (repeat (first | rw [if_pos (by omega)] | rw [if_neg (by omega)])); exact ⟨rfl, rfl⟩))
    ·
      refine X_iconst 24 hO dX13_overwrite_23 rfl ?_
      refine X_goto hO dX13_overwrite_24 (tgt := 35) rfl ?_
      exact XM_iret hO hF hR rfl (by first | exact Or.inl rfl | exact Or.inr ⟨rfl, bi_01 _⟩ | exact Or.inr ⟨rfl, by omega⟩) dX13_overwrite_35 (by first | assumption | omega | exact I_rng _) (by first | (exfalso; omega) | (unfold o_overwrite ; (try unfold m_ti); (try unfold m_th); (repeat (first | rw [if_pos (by omega)] | rw [if_neg (by omega)])); exact ⟨rfl, rfl⟩))
  ·
    try simp only [bi_0, bi_ne, ne_eq, Classical.not_not] at hc_5
    refine X_iconst 9 hO dX13_overwrite_8 rfl ?_
    refine X_goto hO dX13_overwrite_9 (tgt := 13) rfl ?_
    refine pa_171 16 hO hR dX13_overwrite_13 rfl (by omega) (fun hR => ?_)
    refine X_aload_n 17 hO dX13_overwrite_16 rfl rfl ?_
    refine ga_171 20 hO hR dX13_overwrite_17 rfl (fun hi_17 => ?_)
    try simp (disch := decide) only [up_k, up_s, step_at, pool_at, poolN_at, opens_at, closes_at, fl_at, del_at, ins_at, rep_at, psh_at, trn_at, tak_at, pEn_at, cpQ_at, cpP_at, cpT_at, ti_at, th_at] at hi_17 ⊢
    refine X_if_le 23 27 hO dX13_overwrite_20 rfl rfl (by omega) (fun hc_20 => ?_) (fun hc_20 => ?_)
    ·
      refine X_aload_n 28 hO dX13_overwrite_27 rfl rfl ?_
      refine X_iconst 29 hO dX13_overwrite_28 rfl ?_
      refine X_iload_n 30 hO dX13_overwrite_29 rfl rfl ?_
      refine X_iconst 31 hO dX13_overwrite_30 rfl ?_
      refine X_iconst 32 hO dX13_overwrite_31 rfl ?_
      refine XM_callVi 35 hO hD hR lX13_375 [_, _, _, _] rfl dX13_overwrite_32 rfl (c_called _ _ _ _ _ _ _ S P M (by unfold CV; omega) (by omega) (by omega) (hR0.fld (by decide)) hS hP hM) (by decide) (by simp only [List.map_cons, List.map_nil, rv_cat]; exact Nat.le_of_ble_eq_true rfl) (fun r_32 w_32 hr_32 hp_32 hR => ?_)
      obtain ⟨e1_32, e2_32⟩ := hp_32
      subst e1_32
      subst e2_32
      exact XM_iret hO hF hR rfl (by first | exact Or.inl rfl | exact Or.inr ⟨rfl, bi_01 _⟩ | exact Or.inr ⟨rfl, by omega⟩) dX13_overwrite_35 (by first | assumption | omega | exact I_rng _) (by first | (exfalso; omega) | (unfold o_overwrite ; (try unfold m_ti); (try unfold m_th); (repeat (first | rw [if_pos (by omega)] | rw [if_neg (by omega)])); exact ⟨rfl, rfl⟩))
    ·
      refine X_iconst 24 hO dX13_overwrite_23 rfl ?_
      refine X_goto hO dX13_overwrite_24 (tgt := 35) rfl ?_
      exact XM_iret hO hF hR rfl (by first | exact Or.inl rfl | exact Or.inr ⟨rfl, bi_01 _⟩ | exact Or.inr ⟨rfl, by omega⟩) dX13_overwrite_35 (by first | assumption | omega | exact I_rng _) (by first | (exfalso; omega) | (unfold o_overwrite ; (try unfold m_ti); (try unfold m_th); (repeat (first | rw [if_pos (by omega)] | rw [if_neg (by omega)])); exact ⟨rfl, rfl⟩))
def o_delete (μ : MU) (c : Int) (w : Mm) : Int × Mm := if 1 ≤ c ∧ c ≤ 20 then m_cal μ 2 c 0 2 (m_ti μ (1 ≤ c ∧ c ≤ 20) w) else (0, m_ti μ (1 ≤ c ∧ c ≤ 20) w)
theorem dX13_delete_0 : decode cX13_delete 0 = .ok (.aload_n 0, 1) := by decide +kernel
theorem dX13_delete_1 : decode cX13_delete 1 = .ok (.iload_n 1, 1) := by decide +kernel
theorem dX13_delete_2 : decode cX13_delete 2 = .ok (.iconst 1, 1) := by decide +kernel
theorem dX13_delete_3 : decode cX13_delete 3 = .ok (.bipush 20, 2) := by decide +kernel
theorem dX13_delete_5 : decode cX13_delete 5 = .ok (.invokestatic 174, 3) := by decide +kernel
theorem dX13_delete_8 : decode cX13_delete 8 = .ok (.ifCond .eq 7, 3) := by decide +kernel
theorem dX13_delete_11 : decode cX13_delete 11 = .ok (.iconst 0, 1) := by decide +kernel
theorem dX13_delete_12 : decode cX13_delete 12 = .ok (.goto 4, 3) := by decide +kernel
theorem dX13_delete_15 : decode cX13_delete 15 = .ok (.iconst 1, 1) := by decide +kernel
theorem dX13_delete_16 : decode cX13_delete 16 = .ok (.putfield 171, 3) := by decide +kernel
theorem dX13_delete_19 : decode cX13_delete 19 = .ok (.aload_n 0, 1) := by decide +kernel
theorem dX13_delete_20 : decode cX13_delete 20 = .ok (.getfield 171, 3) := by decide +kernel
theorem dX13_delete_23 : decode cX13_delete 23 = .ok (.ifCond .le 7, 3) := by decide +kernel
theorem dX13_delete_26 : decode cX13_delete 26 = .ok (.iconst 0, 1) := by decide +kernel
theorem dX13_delete_27 : decode cX13_delete 27 = .ok (.goto 11, 3) := by decide +kernel
theorem dX13_delete_30 : decode cX13_delete 30 = .ok (.aload_n 0, 1) := by decide +kernel
theorem dX13_delete_31 : decode cX13_delete 31 = .ok (.iconst 2, 1) := by decide +kernel
theorem dX13_delete_32 : decode cX13_delete 32 = .ok (.iload_n 1, 1) := by decide +kernel
theorem dX13_delete_33 : decode cX13_delete 33 = .ok (.iconst 0, 1) := by decide +kernel
theorem dX13_delete_34 : decode cX13_delete 34 = .ok (.iconst 2, 1) := by decide +kernel
theorem dX13_delete_35 : decode cX13_delete 35 = .ok (.invokevirtual 375, 3) := by decide +kernel
theorem dX13_delete_38 : decode cX13_delete 38 = .ok (.ireturn, 1) := by decide +kernel
set_option maxRecDepth 4000 in
theorem c_delete (γ : LC) (μ : MU) (w : Mm) (c : Int) (S P M : Int) (hc : IR c) (hR0 : RB μ S P M w) (hS : S ≤ 28900) (hP : P ≤ 500000) (hM : M ≤ 590) : CMi γ μ 7 mX13_delete [.int (I c)] w (fun r w' => r = (o_delete μ c w).1 ∧ w' = (o_delete μ c w).2) := by
  refine CMi_of rfl (by simp [rv_cat, Value.category]) rfl ?_
  rintro κ hO hF rfl hR
  have hD := hF.dp
  show X κ 0 0 w 0 [some (rv μ.1), some (.int (I c))] []
  have hL := hR0.1
  obtain ⟨f1, f2, f3, f4, f5⟩ := hR0.1.f
  obtain ⟨t1, t2, t3, t4, t5, t6, t7⟩ := hR0.2.1.2.2.2.1
  refine X_aload_n 1 hO dX13_delete_0 rfl rfl ?_
  refine X_iload_n 2 hO dX13_delete_1 rfl rfl ?_
  refine X_iconst 3 hO dX13_delete_2 rfl ?_
  refine X_bipush 5 hO dX13_delete_3 rfl (by decide) ?_
  refine XM_callSi 8 hO hD lX13_174 [_, _, _] rfl dX13_delete_5 rfl (c_in _ _ _ _ _ (by omega) (by omega) (by omega)) (by decide) (by simp only [List.map_cons, List.map_nil, rv_cat]; exact Nat.le_of_ble_eq_true rfl) (fun r_5 hr_5 hp_5 => ?_)
  subst hp_5
  refine X_if_eq 11 15 hO dX13_delete_8 rfl rfl (by omega) (fun hc_8 => ?_) (fun hc_8 => ?_)
  ·
    try simp only [bi_0, bi_ne, ne_eq, Classical.not_not] at hc_8
    refine X_iconst 16 hO dX13_delete_15 rfl ?_
    refine pa_171 19 hO hR dX13_delete_16 rfl (by omega) (fun hR => ?_)
    refine X_aload_n 20 hO dX13_delete_19 rfl rfl ?_
    refine ga_171 23 hO hR dX13_delete_20 rfl (fun hi_20 => ?_)
    try simp (disch := decide) only [up_k, up_s, step_at, pool_at, poolN_at, opens_at, closes_at, fl_at, del_at, ins_at, rep_at, psh_at, trn_at, tak_at, pEn_at, cpQ_at, cpP_at, cpT_at, ti_at, th_at] at hi_20 ⊢
    refine X_if_le 26 30 hO dX13_delete_23 rfl rfl (by omega) (fun hc_23 => ?_) (fun hc_23 => ?_)
    ·
      refine X_aload_n 31 hO dX13_delete_30 rfl rfl ?_
      refine X_iconst 32 hO dX13_delete_31 rfl ?_
      refine X_iload_n 33 hO dX13_delete_32 rfl rfl ?_
      refine X_iconst 34 hO dX13_delete_33 rfl ?_
      refine X_iconst 35 hO dX13_delete_34 rfl ?_
      refine XM_callVi 38 hO hD hR lX13_375 [_, _, _, _] rfl dX13_delete_35 rfl (c_called _ _ _ _ _ _ _ S P M (by unfold CV; omega) (by omega) (by omega) (hR0.fld (by decide)) hS hP hM) (by decide) (by simp only [List.map_cons, List.map_nil, rv_cat]; exact Nat.le_of_ble_eq_true rfl) (fun r_35 w_35 hr_35 hp_35 hR => ?_)
      obtain ⟨e1_35, e2_35⟩ := hp_35
      subst e1_35
      subst e2_35
      exact XM_iret hO hF hR rfl (by first | exact Or.inl rfl | exact Or.inr ⟨rfl, bi_01 _⟩ | exact Or.inr ⟨rfl, by omega⟩) dX13_delete_38 (by first | assumption | omega | exact I_rng _) (by first | (exfalso; omega) | (unfold o_delete ; (try unfold m_ti); (try unfold m_th); (repeat (first | rw [if_pos (by omega)] | rw [if_neg (by omega)])); exact ⟨rfl, rfl⟩))
    ·
      refine X_iconst 27 hO dX13_delete_26 rfl ?_
      refine X_goto hO dX13_delete_27 (tgt := 38) rfl ?_
      exact XM_iret hO hF hR rfl (by first | exact Or.inl rfl | exact Or.inr ⟨rfl, bi_01 _⟩ | exact Or.inr ⟨rfl, by omega⟩) dX13_delete_38 (by first | assumption | omega | exact I_rng _) (by first | (exfalso; omega) | (unfold o_delete ; (try unfold m_ti); (try unfold m_th); (repeat (first | rw [if_pos (by omega)] | rw [if_neg (by omega)])); exact ⟨rfl, rfl⟩))
  ·
    try simp only [bi_0, bi_ne, ne_eq, Classical.not_not] at hc_8
    refine X_iconst 12 hO dX13_delete_11 rfl ?_
    refine X_goto hO dX13_delete_12 (tgt := 16) rfl ?_
    refine pa_171 19 hO hR dX13_delete_16 rfl (by omega) (fun hR => ?_)
    refine X_aload_n 20 hO dX13_delete_19 rfl rfl ?_
    refine ga_171 23 hO hR dX13_delete_20 rfl (fun hi_20 => ?_)
    try simp (disch := decide) only [up_k, up_s, step_at, pool_at, poolN_at, opens_at, closes_at, fl_at, del_at, ins_at, rep_at, psh_at, trn_at, tak_at, pEn_at, cpQ_at, cpP_at, cpT_at, ti_at, th_at] at hi_20 ⊢
    refine X_if_le 26 30 hO dX13_delete_23 rfl rfl (by omega) (fun hc_23 => ?_) (fun hc_23 => ?_)
    ·
      refine X_aload_n 31 hO dX13_delete_30 rfl rfl ?_
      refine X_iconst 32 hO dX13_delete_31 rfl ?_
      refine X_iload_n 33 hO dX13_delete_32 rfl rfl ?_
      refine X_iconst 34 hO dX13_delete_33 rfl ?_
      refine X_iconst 35 hO dX13_delete_34 rfl ?_
      refine XM_callVi 38 hO hD hR lX13_375 [_, _, _, _] rfl dX13_delete_35 rfl (c_called _ _ _ _ _ _ _ S P M (by unfold CV; omega) (by omega) (by omega) (hR0.fld (by decide)) hS hP hM) (by decide) (by simp only [List.map_cons, List.map_nil, rv_cat]; exact Nat.le_of_ble_eq_true rfl) (fun r_35 w_35 hr_35 hp_35 hR => ?_)
      obtain ⟨e1_35, e2_35⟩ := hp_35
      subst e1_35
      subst e2_35
      exact XM_iret hO hF hR rfl (by first | exact Or.inl rfl | exact Or.inr ⟨rfl, bi_01 _⟩ | exact Or.inr ⟨rfl, by omega⟩) dX13_delete_38 (by first | assumption | omega | exact I_rng _) (by first | (exfalso; omega) | (unfold o_delete ; (try unfold m_ti); (try unfold m_th); (repeat (first | rw [if_pos (by omega)] | rw [if_neg (by omega)])); exact ⟨rfl, rfl⟩))
    ·
      refine X_iconst 27 hO dX13_delete_26 rfl ?_
      refine X_goto hO dX13_delete_27 (tgt := 38) rfl ?_
      exact XM_iret hO hF hR rfl (by first | exact Or.inl rfl | exact Or.inr ⟨rfl, bi_01 _⟩ | exact Or.inr ⟨rfl, by omega⟩) dX13_delete_38 (by first | assumption | omega | exact I_rng _) (by first | (exfalso; omega) | (unfold o_delete ; (try unfold m_ti); (try unfold m_th); (repeat (first | rw [if_pos (by omega)] | rw [if_neg (by omega)])); exact ⟨rfl, rfl⟩))
def o_move (μ : MU) (c : Int) (w : Mm) : Int × Mm := if -50 ≤ c ∧ c ≤ 50 then m_cal μ 3 c 0 2 (m_ti μ (-50 ≤ c ∧ c ≤ 50) w) else (0, m_ti μ (-50 ≤ c ∧ c ≤ 50) w)
theorem dX13_move_0 : decode cX13_move 0 = .ok (.aload_n 0, 1) := by decide +kernel
theorem dX13_move_1 : decode cX13_move 1 = .ok (.iload_n 1, 1) := by decide +kernel
theorem dX13_move_2 : decode cX13_move 2 = .ok (.bipush (-50), 2) := by decide +kernel
theorem dX13_move_4 : decode cX13_move 4 = .ok (.bipush 50, 2) := by decide +kernel
theorem dX13_move_6 : decode cX13_move 6 = .ok (.invokestatic 174, 3) := by decide +kernel
theorem dX13_move_9 : decode cX13_move 9 = .ok (.ifCond .eq 7, 3) := by decide +kernel
theorem dX13_move_12 : decode cX13_move 12 = .ok (.iconst 0, 1) := by decide +kernel
theorem dX13_move_13 : decode cX13_move 13 = .ok (.goto 4, 3) := by decide +kernel
theorem dX13_move_16 : decode cX13_move 16 = .ok (.iconst 1, 1) := by decide +kernel
theorem dX13_move_17 : decode cX13_move 17 = .ok (.putfield 171, 3) := by decide +kernel
theorem dX13_move_20 : decode cX13_move 20 = .ok (.aload_n 0, 1) := by decide +kernel
theorem dX13_move_21 : decode cX13_move 21 = .ok (.getfield 171, 3) := by decide +kernel
theorem dX13_move_24 : decode cX13_move 24 = .ok (.ifCond .le 7, 3) := by decide +kernel
theorem dX13_move_27 : decode cX13_move 27 = .ok (.iconst 0, 1) := by decide +kernel
theorem dX13_move_28 : decode cX13_move 28 = .ok (.goto 11, 3) := by decide +kernel
theorem dX13_move_31 : decode cX13_move 31 = .ok (.aload_n 0, 1) := by decide +kernel
theorem dX13_move_32 : decode cX13_move 32 = .ok (.iconst 3, 1) := by decide +kernel
theorem dX13_move_33 : decode cX13_move 33 = .ok (.iload_n 1, 1) := by decide +kernel
theorem dX13_move_34 : decode cX13_move 34 = .ok (.iconst 0, 1) := by decide +kernel
theorem dX13_move_35 : decode cX13_move 35 = .ok (.iconst 2, 1) := by decide +kernel
theorem dX13_move_36 : decode cX13_move 36 = .ok (.invokevirtual 375, 3) := by decide +kernel
theorem dX13_move_39 : decode cX13_move 39 = .ok (.ireturn, 1) := by decide +kernel
set_option maxRecDepth 4000 in
theorem c_move (γ : LC) (μ : MU) (w : Mm) (c : Int) (S P M : Int) (hc : IR c) (hR0 : RB μ S P M w) (hS : S ≤ 28900) (hP : P ≤ 500000) (hM : M ≤ 590) : CMi γ μ 7 mX13_move [.int (I c)] w (fun r w' => r = (o_move μ c w).1 ∧ w' = (o_move μ c w).2) := by
  refine CMi_of rfl (by simp [rv_cat, Value.category]) rfl ?_
  rintro κ hO hF rfl hR
  have hD := hF.dp
  show X κ 0 0 w 0 [some (rv μ.1), some (.int (I c))] []
  have hL := hR0.1
  obtain ⟨f1, f2, f3, f4, f5⟩ := hR0.1.f
  obtain ⟨t1, t2, t3, t4, t5, t6, t7⟩ := hR0.2.1.2.2.2.1
  refine X_aload_n 1 hO dX13_move_0 rfl rfl ?_
  refine X_iload_n 2 hO dX13_move_1 rfl rfl ?_
  refine X_bipush 4 hO dX13_move_2 rfl (by decide) ?_
  refine X_bipush 6 hO dX13_move_4 rfl (by decide) ?_
  refine XM_callSi 9 hO hD lX13_174 [_, _, _] rfl dX13_move_6 rfl (c_in _ _ _ _ _ (by omega) (by omega) (by omega)) (by decide) (by simp only [List.map_cons, List.map_nil, rv_cat]; exact Nat.le_of_ble_eq_true rfl) (fun r_6 hr_6 hp_6 => ?_)
  subst hp_6
  refine X_if_eq 12 16 hO dX13_move_9 rfl rfl (by omega) (fun hc_9 => ?_) (fun hc_9 => ?_)
  ·
    try simp only [bi_0, bi_ne, ne_eq, Classical.not_not] at hc_9
    refine X_iconst 17 hO dX13_move_16 rfl ?_
    refine pa_171 20 hO hR dX13_move_17 rfl (by omega) (fun hR => ?_)
    refine X_aload_n 21 hO dX13_move_20 rfl rfl ?_
    refine ga_171 24 hO hR dX13_move_21 rfl (fun hi_21 => ?_)
    try simp (disch := decide) only [up_k, up_s, step_at, pool_at, poolN_at, opens_at, closes_at, fl_at, del_at, ins_at, rep_at, psh_at, trn_at, tak_at, pEn_at, cpQ_at, cpP_at, cpT_at, ti_at, th_at] at hi_21 ⊢
    refine X_if_le 27 31 hO dX13_move_24 rfl rfl (by omega) (fun hc_24 => ?_) (fun hc_24 => ?_)
    ·
      refine X_aload_n 32 hO dX13_move_31 rfl rfl ?_
      refine X_iconst 33 hO dX13_move_32 rfl ?_
      refine X_iload_n 34 hO dX13_move_33 rfl rfl ?_
      refine X_iconst 35 hO dX13_move_34 rfl ?_
      refine X_iconst 36 hO dX13_move_35 rfl ?_
      refine XM_callVi 39 hO hD hR lX13_375 [_, _, _, _] rfl dX13_move_36 rfl (c_called _ _ _ _ _ _ _ S P M (by unfold CV; omega) (by omega) (by omega) (hR0.fld (by decide)) hS hP hM) (by decide) (by simp only [List.map_cons, List.map_nil, rv_cat]; exact Nat.le_of_ble_eq_true rfl) (fun r_36 w_36 hr_36 hp_36 hR => ?_)
      obtain ⟨e1_36, e2_36⟩ := hp_36
      subst e1_36
      subst e2_36
      exact XM_iret hO hF hR rfl (by first | exact Or.inl rfl | exact Or.inr ⟨rfl, bi_01 _⟩ | exact Or.inr ⟨rfl, by omega⟩) dX13_move_39 (by first | assumption | omega | exact I_rng _) (by first | (exfalso; omega) | (unfold o_move ; (try unfold m_ti); (try unfold m_th); (repeat (first | rw [if_pos (by omega)] | rw [if_neg (by omega)])); exact ⟨rfl, rfl⟩))
    ·
      refine X_iconst 28 hO dX13_move_27 rfl ?_
      refine X_goto hO dX13_move_28 (tgt := 39) rfl ?_
      exact XM_iret hO hF hR rfl (by first | exact Or.inl rfl | exact Or.inr ⟨rfl, bi_01 _⟩ | exact Or.inr ⟨rfl, by omega⟩) dX13_move_39 (by first | assumption | omega | exact I_rng _) (by first | (exfalso; omega) | (unfold o_move ; (try unfold m_ti); (try unfold m_th); (repeat (first | rw [if_pos (by omega)] | rw [if_neg (by omega)])); exact ⟨rfl, rfl⟩))
  ·
    try simp only [bi_0, bi_ne, ne_eq, Classical.not_not] at hc_9
    refine X_iconst 13 hO dX13_move_12 rfl ?_
    refine X_goto hO dX13_move_13 (tgt := 17) rfl ?_
    refine pa_171 20 hO hR dX13_move_17 rfl (by omega) (fun hR => ?_)
    refine X_aload_n 21 hO dX13_move_20 rfl rfl ?_
    refine ga_171 24 hO hR dX13_move_21 rfl (fun hi_21 => ?_)
    try simp (disch := decide) only [up_k, up_s, step_at, pool_at, poolN_at, opens_at, closes_at, fl_at, del_at, ins_at, rep_at, psh_at, trn_at, tak_at, pEn_at, cpQ_at, cpP_at, cpT_at, ti_at, th_at] at hi_21 ⊢
    refine X_if_le 27 31 hO dX13_move_24 rfl rfl (by omega) (fun hc_24 => ?_) (fun hc_24 => ?_)
    ·
      refine X_aload_n 32 hO dX13_move_31 rfl rfl ?_
      refine X_iconst 33 hO dX13_move_32 rfl ?_
      refine X_iload_n 34 hO dX13_move_33 rfl rfl ?_
      refine X_iconst 35 hO dX13_move_34 rfl ?_
      refine X_iconst 36 hO dX13_move_35 rfl ?_
      refine XM_callVi 39 hO hD hR lX13_375 [_, _, _, _] rfl dX13_move_36 rfl (c_called _ _ _ _ _ _ _ S P M (by unfold CV; omega) (by omega) (by omega) (hR0.fld (by decide)) hS hP hM) (by decide) (by simp only [List.map_cons, List.map_nil, rv_cat]; exact Nat.le_of_ble_eq_true rfl) (fun r_36 w_36 hr_36 hp_36 hR => ?_)
      obtain ⟨e1_36, e2_36⟩ := hp_36
      subst e1_36
      subst e2_36
      exact XM_iret hO hF hR rfl (by first | exact Or.inl rfl | exact Or.inr ⟨rfl, bi_01 _⟩ | exact Or.inr ⟨rfl, by omega⟩) dX13_move_39 (by first | assumption | omega | exact I_rng _) (by first | (exfalso; omega) | (unfold o_move ; (try unfold m_ti); (try unfold m_th); (repeat (first | rw [if_pos (by omega)] | rw [if_neg (by omega)])); exact ⟨rfl, rfl⟩))
    ·
      refine X_iconst 28 hO dX13_move_27 rfl ?_
      refine X_goto hO dX13_move_28 (tgt := 39) rfl ?_
      exact XM_iret hO hF hR rfl (by first | exact Or.inl rfl | exact Or.inr ⟨rfl, bi_01 _⟩ | exact Or.inr ⟨rfl, by omega⟩) dX13_move_39 (by first | assumption | omega | exact I_rng _) (by first | (exfalso; omega) | (unfold o_move ; (try unfold m_ti); (try unfold m_th); (repeat (first | rw [if_pos (by omega)] | rw [if_neg (by omega)])); exact ⟨rfl, rfl⟩))
def o_search (μ : MU) (c : Int) (w : Mm) : Int × Mm := if isC c then m_cal μ 4 c 0 2 (m_ti μ (isC c) w) else (0, m_ti μ (isC c) w)
theorem dX13_search_0 : decode cX13_search 0 = .ok (.aload_n 0, 1) := by decide +kernel
theorem dX13_search_1 : decode cX13_search 1 = .ok (.iload_n 1, 1) := by decide +kernel
theorem dX13_search_2 : decode cX13_search 2 = .ok (.invokestatic 366, 3) := by decide +kernel
theorem dX13_search_5 : decode cX13_search 5 = .ok (.ifCond .eq 7, 3) := by decide +kernel
theorem dX13_search_8 : decode cX13_search 8 = .ok (.iconst 0, 1) := by decide +kernel
theorem dX13_search_9 : decode cX13_search 9 = .ok (.goto 4, 3) := by decide +kernel
theorem dX13_search_12 : decode cX13_search 12 = .ok (.iconst 1, 1) := by decide +kernel
theorem dX13_search_13 : decode cX13_search 13 = .ok (.putfield 171, 3) := by decide +kernel
theorem dX13_search_16 : decode cX13_search 16 = .ok (.aload_n 0, 1) := by decide +kernel
theorem dX13_search_17 : decode cX13_search 17 = .ok (.getfield 171, 3) := by decide +kernel
theorem dX13_search_20 : decode cX13_search 20 = .ok (.ifCond .le 7, 3) := by decide +kernel
theorem dX13_search_23 : decode cX13_search 23 = .ok (.iconst 0, 1) := by decide +kernel
theorem dX13_search_24 : decode cX13_search 24 = .ok (.goto 11, 3) := by decide +kernel
theorem dX13_search_27 : decode cX13_search 27 = .ok (.aload_n 0, 1) := by decide +kernel
theorem dX13_search_28 : decode cX13_search 28 = .ok (.iconst 4, 1) := by decide +kernel
theorem dX13_search_29 : decode cX13_search 29 = .ok (.iload_n 1, 1) := by decide +kernel
theorem dX13_search_30 : decode cX13_search 30 = .ok (.iconst 0, 1) := by decide +kernel
theorem dX13_search_31 : decode cX13_search 31 = .ok (.iconst 2, 1) := by decide +kernel
theorem dX13_search_32 : decode cX13_search 32 = .ok (.invokevirtual 375, 3) := by decide +kernel
theorem dX13_search_35 : decode cX13_search 35 = .ok (.ireturn, 1) := by decide +kernel
set_option maxRecDepth 4000 in
theorem c_search (γ : LC) (μ : MU) (w : Mm) (c : Int) (S P M : Int) (hc : IR c) (hR0 : RB μ S P M w) (hS : S ≤ 28900) (hP : P ≤ 500000) (hM : M ≤ 590) : CMi γ μ 7 mX13_search [.int (I c)] w (fun r w' => r = (o_search μ c w).1 ∧ w' = (o_search μ c w).2) := by
  refine CMi_of rfl (by simp [rv_cat, Value.category]) rfl ?_
  rintro κ hO hF rfl hR
  have hD := hF.dp
  show X κ 0 0 w 0 [some (rv μ.1), some (.int (I c))] []
  have hL := hR0.1
  obtain ⟨f1, f2, f3, f4, f5⟩ := hR0.1.f
  obtain ⟨t1, t2, t3, t4, t5, t6, t7⟩ := hR0.2.1.2.2.2.1
  refine X_aload_n 1 hO dX13_search_0 rfl rfl ?_
  refine X_iload_n 2 hO dX13_search_1 rfl rfl ?_
  refine XM_callSi 5 hO hD lX13_366 [_] rfl dX13_search_2 rfl (c_isCharacter _ _ _ (by omega)) (by decide) (by simp only [List.map_cons, List.map_nil, rv_cat]; exact Nat.le_of_ble_eq_true rfl) (fun r_2 hr_2 hp_2 => ?_)
  subst hp_2
  refine X_if_eq 8 12 hO dX13_search_5 rfl rfl (by omega) (fun hc_5 => ?_) (fun hc_5 => ?_)
  ·
    try simp only [bi_0, bi_ne, ne_eq, Classical.not_not] at hc_5
    refine X_iconst 13 hO dX13_search_12 rfl ?_
    refine pa_171 16 hO hR dX13_search_13 rfl (by omega) (fun hR => ?_)
    refine X_aload_n 17 hO dX13_search_16 rfl rfl ?_
    refine ga_171 20 hO hR dX13_search_17 rfl (fun hi_17 => ?_)
    try simp (disch := decide) only [up_k, up_s, step_at, pool_at, poolN_at, opens_at, closes_at, fl_at, del_at, ins_at, rep_at, psh_at, trn_at, tak_at, pEn_at, cpQ_at, cpP_at, cpT_at, ti_at, th_at] at hi_17 ⊢
    refine X_if_le 23 27 hO dX13_search_20 rfl rfl (by omega) (fun hc_20 => ?_) (fun hc_20 => ?_)
    ·
      refine X_aload_n 28 hO dX13_search_27 rfl rfl ?_
      refine X_iconst 29 hO dX13_search_28 rfl ?_
      refine X_iload_n 30 hO dX13_search_29 rfl rfl ?_
      refine X_iconst 31 hO dX13_search_30 rfl ?_
      refine X_iconst 32 hO dX13_search_31 rfl ?_
      refine XM_callVi 35 hO hD hR lX13_375 [_, _, _, _] rfl dX13_search_32 rfl (c_called _ _ _ _ _ _ _ S P M (by unfold CV; omega) (by omega) (by omega) (hR0.fld (by decide)) hS hP hM) (by decide) (by simp only [List.map_cons, List.map_nil, rv_cat]; exact Nat.le_of_ble_eq_true rfl) (fun r_32 w_32 hr_32 hp_32 hR => ?_)
      obtain ⟨e1_32, e2_32⟩ := hp_32
      subst e1_32
      subst e2_32
      exact XM_iret hO hF hR rfl (by first | exact Or.inl rfl | exact Or.inr ⟨rfl, bi_01 _⟩ | exact Or.inr ⟨rfl, by omega⟩) dX13_search_35 (by first | assumption | omega | exact I_rng _) (by first | (exfalso; omega) | (unfold o_search ; (try unfold m_ti); (try unfold m_th); (repeat (first | rw [if_pos (by omega)] | rw [if_neg (by omega)])); exact ⟨rfl, rfl⟩))
    ·
      refine X_iconst 24 hO dX13_search_23 rfl ?_
      refine X_goto hO dX13_search_24 (tgt := 35) rfl ?_
      exact XM_iret hO hF hR rfl (by first | exact Or.inl rfl | exact Or.inr ⟨rfl, bi_01 _⟩ | exact Or.inr ⟨rfl, by omega⟩) dX13_search_35 (by first | assumption | omega | exact I_rng _) (by first | (exfalso; omega) | (unfold o_search ; (try unfold m_ti); (try unfold m_th); (repeat (first | rw [if_pos (by omega)] | rw [if_neg (by omega)])); exact ⟨rfl, rfl⟩))
  ·
    try simp only [bi_0, bi_ne, ne_eq, Classical.not_not] at hc_5
    refine X_iconst 9 hO dX13_search_8 rfl ?_
    refine X_goto hO dX13_search_9 (tgt := 13) rfl ?_
    refine pa_171 16 hO hR dX13_search_13 rfl (by omega) (fun hR => ?_)
    refine X_aload_n 17 hO dX13_search_16 rfl rfl ?_
    refine ga_171 20 hO hR dX13_search_17 rfl (fun hi_17 => ?_)
    try simp (disch := decide) only [up_k, up_s, step_at, pool_at, poolN_at, opens_at, closes_at, fl_at, del_at, ins_at, rep_at, psh_at, trn_at, tak_at, pEn_at, cpQ_at, cpP_at, cpT_at, ti_at, th_at] at hi_17 ⊢
    refine X_if_le 23 27 hO dX13_search_20 rfl rfl (by omega) (fun hc_20 => ?_) (fun hc_20 => ?_)
    ·
      refine X_aload_n 28 hO dX13_search_27 rfl rfl ?_
      refine X_iconst 29 hO dX13_search_28 rfl ?_
      refine X_iload_n 30 hO dX13_search_29 rfl rfl ?_
      refine X_iconst 31 hO dX13_search_30 rfl ?_
      refine X_iconst 32 hO dX13_search_31 rfl ?_
      refine XM_callVi 35 hO hD hR lX13_375 [_, _, _, _] rfl dX13_search_32 rfl (c_called _ _ _ _ _ _ _ S P M (by unfold CV; omega) (by omega) (by omega) (hR0.fld (by decide)) hS hP hM) (by decide) (by simp only [List.map_cons, List.map_nil, rv_cat]; exact Nat.le_of_ble_eq_true rfl) (fun r_32 w_32 hr_32 hp_32 hR => ?_)
      obtain ⟨e1_32, e2_32⟩ := hp_32
      subst e1_32
      subst e2_32
      exact XM_iret hO hF hR rfl (by first | exact Or.inl rfl | exact Or.inr ⟨rfl, bi_01 _⟩ | exact Or.inr ⟨rfl, by omega⟩) dX13_search_35 (by first | assumption | omega | exact I_rng _) (by first | (exfalso; omega) | (unfold o_search ; (try unfold m_ti); (try unfold m_th); (repeat (first | rw [if_pos (by omega)] | rw [if_neg (by omega)])); exact ⟨rfl, rfl⟩))
    ·
      refine X_iconst 24 hO dX13_search_23 rfl ?_
      refine X_goto hO dX13_search_24 (tgt := 35) rfl ?_
      exact XM_iret hO hF hR rfl (by first | exact Or.inl rfl | exact Or.inr ⟨rfl, bi_01 _⟩ | exact Or.inr ⟨rfl, by omega⟩) dX13_search_35 (by first | assumption | omega | exact I_rng _) (by first | (exfalso; omega) | (unfold o_search ; (try unfold m_ti); (try unfold m_th); (repeat (first | rw [if_pos (by omega)] | rw [if_neg (by omega)])); exact ⟨rfl, rfl⟩))
def o_kill (μ : MU) (c : Int) (w : Mm) : Int × Mm := if 1 ≤ c ∧ c ≤ 20 then m_cal μ 5 c 0 2 (m_ti μ (1 ≤ c ∧ c ≤ 20) w) else (0, m_ti μ (1 ≤ c ∧ c ≤ 20) w)
theorem dX13_kill_0 : decode cX13_kill 0 = .ok (.aload_n 0, 1) := by decide +kernel
theorem dX13_kill_1 : decode cX13_kill 1 = .ok (.iload_n 1, 1) := by decide +kernel
theorem dX13_kill_2 : decode cX13_kill 2 = .ok (.iconst 1, 1) := by decide +kernel
theorem dX13_kill_3 : decode cX13_kill 3 = .ok (.bipush 20, 2) := by decide +kernel
theorem dX13_kill_5 : decode cX13_kill 5 = .ok (.invokestatic 174, 3) := by decide +kernel
theorem dX13_kill_8 : decode cX13_kill 8 = .ok (.ifCond .eq 7, 3) := by decide +kernel
theorem dX13_kill_11 : decode cX13_kill 11 = .ok (.iconst 0, 1) := by decide +kernel
theorem dX13_kill_12 : decode cX13_kill 12 = .ok (.goto 4, 3) := by decide +kernel
theorem dX13_kill_15 : decode cX13_kill 15 = .ok (.iconst 1, 1) := by decide +kernel
theorem dX13_kill_16 : decode cX13_kill 16 = .ok (.putfield 171, 3) := by decide +kernel
theorem dX13_kill_19 : decode cX13_kill 19 = .ok (.aload_n 0, 1) := by decide +kernel
theorem dX13_kill_20 : decode cX13_kill 20 = .ok (.getfield 171, 3) := by decide +kernel
theorem dX13_kill_23 : decode cX13_kill 23 = .ok (.ifCond .le 7, 3) := by decide +kernel
theorem dX13_kill_26 : decode cX13_kill 26 = .ok (.iconst 0, 1) := by decide +kernel
theorem dX13_kill_27 : decode cX13_kill 27 = .ok (.goto 11, 3) := by decide +kernel
theorem dX13_kill_30 : decode cX13_kill 30 = .ok (.aload_n 0, 1) := by decide +kernel
theorem dX13_kill_31 : decode cX13_kill 31 = .ok (.iconst 5, 1) := by decide +kernel
theorem dX13_kill_32 : decode cX13_kill 32 = .ok (.iload_n 1, 1) := by decide +kernel
theorem dX13_kill_33 : decode cX13_kill 33 = .ok (.iconst 0, 1) := by decide +kernel
theorem dX13_kill_34 : decode cX13_kill 34 = .ok (.iconst 2, 1) := by decide +kernel
theorem dX13_kill_35 : decode cX13_kill 35 = .ok (.invokevirtual 375, 3) := by decide +kernel
theorem dX13_kill_38 : decode cX13_kill 38 = .ok (.ireturn, 1) := by decide +kernel
set_option maxRecDepth 4000 in
theorem c_kill (γ : LC) (μ : MU) (w : Mm) (c : Int) (S P M : Int) (hc : IR c) (hR0 : RB μ S P M w) (hS : S ≤ 28900) (hP : P ≤ 500000) (hM : M ≤ 590) : CMi γ μ 7 mX13_kill [.int (I c)] w (fun r w' => r = (o_kill μ c w).1 ∧ w' = (o_kill μ c w).2) := by
  refine CMi_of rfl (by simp [rv_cat, Value.category]) rfl ?_
  rintro κ hO hF rfl hR
  have hD := hF.dp
  show X κ 0 0 w 0 [some (rv μ.1), some (.int (I c))] []
  have hL := hR0.1
  obtain ⟨f1, f2, f3, f4, f5⟩ := hR0.1.f
  obtain ⟨t1, t2, t3, t4, t5, t6, t7⟩ := hR0.2.1.2.2.2.1
  refine X_aload_n 1 hO dX13_kill_0 rfl rfl ?_
  refine X_iload_n 2 hO dX13_kill_1 rfl rfl ?_
  refine X_iconst 3 hO dX13_kill_2 rfl ?_
  refine X_bipush 5 hO dX13_kill_3 rfl (by decide) ?_
  refine XM_callSi 8 hO hD lX13_174 [_, _, _] rfl dX13_kill_5 rfl (c_in _ _ _ _ _ (by omega) (by omega) (by omega)) (by decide) (by simp only [List.map_cons, List.map_nil, rv_cat]; exact Nat.le_of_ble_eq_true rfl) (fun r_5 hr_5 hp_5 => ?_)
  subst hp_5
  refine X_if_eq 11 15 hO dX13_kill_8 rfl rfl (by omega) (fun hc_8 => ?_) (fun hc_8 => ?_)
  ·
    try simp only [bi_0, bi_ne, ne_eq, Classical.not_not] at hc_8
    refine X_iconst 16 hO dX13_kill_15 rfl ?_
    refine pa_171 19 hO hR dX13_kill_16 rfl (by omega) (fun hR => ?_)
    refine X_aload_n 20 hO dX13_kill_19 rfl rfl ?_
    refine ga_171 23 hO hR dX13_kill_20 rfl (fun hi_20 => ?_)
    try simp (disch := decide) only [up_k, up_s, step_at, pool_at, poolN_at, opens_at, closes_at, fl_at, del_at, ins_at, rep_at, psh_at, trn_at, tak_at, pEn_at, cpQ_at, cpP_at, cpT_at, ti_at, th_at] at hi_20 ⊢
    refine X_if_le 26 30 hO dX13_kill_23 rfl rfl (by omega) (fun hc_23 => ?_) (fun hc_23 => ?_)
    ·
      refine X_aload_n 31 hO dX13_kill_30 rfl rfl ?_
      refine X_iconst 32 hO dX13_kill_31 rfl ?_
      refine X_iload_n 33 hO dX13_kill_32 rfl rfl ?_
      refine X_iconst 34 hO dX13_kill_33 rfl ?_
      refine X_iconst 35 hO dX13_kill_34 rfl ?_
      refine XM_callVi 38 hO hD hR lX13_375 [_, _, _, _] rfl dX13_kill_35 rfl (c_called _ _ _ _ _ _ _ S P M (by unfold CV; omega) (by omega) (by omega) (hR0.fld (by decide)) hS hP hM) (by decide) (by simp only [List.map_cons, List.map_nil, rv_cat]; exact Nat.le_of_ble_eq_true rfl) (fun r_35 w_35 hr_35 hp_35 hR => ?_)
      obtain ⟨e1_35, e2_35⟩ := hp_35
      subst e1_35
      subst e2_35
      exact XM_iret hO hF hR rfl (by first | exact Or.inl rfl | exact Or.inr ⟨rfl, bi_01 _⟩ | exact Or.inr ⟨rfl, by omega⟩) dX13_kill_38 (by first | assumption | omega | exact I_rng _) (by first | (exfalso; omega) | (unfold o_kill ; (try unfold m_ti); (try unfold m_th); (repeat (first | rw [if_pos (by omega)] | rw [if_neg (by omega)])); exact ⟨rfl, rfl⟩))
    ·
      refine X_iconst 27 hO dX13_kill_26 rfl ?_
      refine X_goto hO dX13_kill_27 (tgt := 38) rfl ?_
      exact XM_iret hO hF hR rfl (by first | exact Or.inl rfl | exact Or.inr ⟨rfl, bi_01 _⟩ | exact Or.inr ⟨rfl, by omega⟩) dX13_kill_38 (by first | assumption | omega | exact I_rng _) (by first | (exfalso; omega) | (unfold o_kill ; (try unfold m_ti); (try unfold m_th); (repeat (first | rw [if_pos (by omega)] | rw [if_neg (by omega)])); exact ⟨rfl, rfl⟩))
  ·
    try simp only [bi_0, bi_ne, ne_eq, Classical.not_not] at hc_8
    refine X_iconst 12 hO dX13_kill_11 rfl ?_
    refine X_goto hO dX13_kill_12 (tgt := 16) rfl ?_
    refine pa_171 19 hO hR dX13_kill_16 rfl (by omega) (fun hR => ?_)
    refine X_aload_n 20 hO dX13_kill_19 rfl rfl ?_
    refine ga_171 23 hO hR dX13_kill_20 rfl (fun hi_20 => ?_)
    try simp (disch := decide) only [up_k, up_s, step_at, pool_at, poolN_at, opens_at, closes_at, fl_at, del_at, ins_at, rep_at, psh_at, trn_at, tak_at, pEn_at, cpQ_at, cpP_at, cpT_at, ti_at, th_at] at hi_20 ⊢
    refine X_if_le 26 30 hO dX13_kill_23 rfl rfl (by omega) (fun hc_23 => ?_) (fun hc_23 => ?_)
    ·
      refine X_aload_n 31 hO dX13_kill_30 rfl rfl ?_
      refine X_iconst 32 hO dX13_kill_31 rfl ?_
      refine X_iload_n 33 hO dX13_kill_32 rfl rfl ?_
      refine X_iconst 34 hO dX13_kill_33 rfl ?_
      refine X_iconst 35 hO dX13_kill_34 rfl ?_
      refine XM_callVi 38 hO hD hR lX13_375 [_, _, _, _] rfl dX13_kill_35 rfl (c_called _ _ _ _ _ _ _ S P M (by unfold CV; omega) (by omega) (by omega) (hR0.fld (by decide)) hS hP hM) (by decide) (by simp only [List.map_cons, List.map_nil, rv_cat]; exact Nat.le_of_ble_eq_true rfl) (fun r_35 w_35 hr_35 hp_35 hR => ?_)
      obtain ⟨e1_35, e2_35⟩ := hp_35
      subst e1_35
      subst e2_35
      exact XM_iret hO hF hR rfl (by first | exact Or.inl rfl | exact Or.inr ⟨rfl, bi_01 _⟩ | exact Or.inr ⟨rfl, by omega⟩) dX13_kill_38 (by first | assumption | omega | exact I_rng _) (by first | (exfalso; omega) | (unfold o_kill ; (try unfold m_ti); (try unfold m_th); (repeat (first | rw [if_pos (by omega)] | rw [if_neg (by omega)])); exact ⟨rfl, rfl⟩))
    ·
      refine X_iconst 27 hO dX13_kill_26 rfl ?_
      refine X_goto hO dX13_kill_27 (tgt := 38) rfl ?_
      exact XM_iret hO hF hR rfl (by first | exact Or.inl rfl | exact Or.inr ⟨rfl, bi_01 _⟩ | exact Or.inr ⟨rfl, by omega⟩) dX13_kill_38 (by first | assumption | omega | exact I_rng _) (by first | (exfalso; omega) | (unfold o_kill ; (try unfold m_ti); (try unfold m_th); (repeat (first | rw [if_pos (by omega)] | rw [if_neg (by omega)])); exact ⟨rfl, rfl⟩))
def o_yank (μ : MU)  (w : Mm) : Int × Mm := m_cal μ 6 0 0 1 w
theorem dX13_yank_0 : decode cX13_yank 0 = .ok (.aload_n 0, 1) := by decide +kernel
theorem dX13_yank_1 : decode cX13_yank 1 = .ok (.bipush 6, 2) := by decide +kernel
theorem dX13_yank_3 : decode cX13_yank 3 = .ok (.iconst 0, 1) := by decide +kernel
theorem dX13_yank_4 : decode cX13_yank 4 = .ok (.iconst 0, 1) := by decide +kernel
theorem dX13_yank_5 : decode cX13_yank 5 = .ok (.iconst 1, 1) := by decide +kernel
theorem dX13_yank_6 : decode cX13_yank 6 = .ok (.invokevirtual 375, 3) := by decide +kernel
theorem dX13_yank_9 : decode cX13_yank 9 = .ok (.ireturn, 1) := by decide +kernel
set_option maxRecDepth 4000 in
theorem c_yank (γ : LC) (μ : MU) (w : Mm)  (S P M : Int)  (hR0 : RB μ S P M w) (hS : S ≤ 28900) (hP : P ≤ 500000) (hM : M ≤ 590) : CMi γ μ 7 mX13_yank [] w (fun r w' => r = (o_yank μ  w).1 ∧ w' = (o_yank μ  w).2) := by
  refine CMi_of rfl (by simp [rv_cat, Value.category]) rfl ?_
  rintro κ hO hF rfl hR
  have hD := hF.dp
  show X κ 0 0 w 0 [some (rv μ.1)] []
  have hL := hR0.1
  obtain ⟨f1, f2, f3, f4, f5⟩ := hR0.1.f
  obtain ⟨t1, t2, t3, t4, t5, t6, t7⟩ := hR0.2.1.2.2.2.1
  refine X_aload_n 1 hO dX13_yank_0 rfl rfl ?_
  refine X_bipush 3 hO dX13_yank_1 rfl (by decide) ?_
  refine X_iconst 4 hO dX13_yank_3 rfl ?_
  refine X_iconst 5 hO dX13_yank_4 rfl ?_
  refine X_iconst 6 hO dX13_yank_5 rfl ?_
  refine XM_callVi 9 hO hD hR lX13_375 [_, _, _, _] rfl dX13_yank_6 rfl (c_called _ _ _ _ _ _ _ S P M (by unfold CV; omega) (by omega) (by omega) hR0 hS hP hM) (by decide) (by simp only [List.map_cons, List.map_nil, rv_cat]; exact Nat.le_of_ble_eq_true rfl) (fun r_6 w_6 hr_6 hp_6 hR => ?_)
  obtain ⟨e1_6, e2_6⟩ := hp_6
  subst e1_6
  subst e2_6
  exact XM_iret hO hF hR rfl (by first | exact Or.inl rfl | exact Or.inr ⟨rfl, bi_01 _⟩ | exact Or.inr ⟨rfl, by omega⟩) dX13_yank_9 (by first | assumption | omega | exact I_rng _) (by first | (exfalso; omega) | (unfold o_yank ; (try unfold m_ti); (try unfold m_th); (repeat (first | rw [if_pos (by omega)] | rw [if_neg (by omega)])); exact ⟨rfl, rfl⟩))
def o_rotate (μ : MU)  (w : Mm) : Int × Mm := m_cal μ 7 0 0 1 w
theorem dX13_rotate_0 : decode cX13_rotate 0 = .ok (.aload_n 0, 1) := by decide +kernel
theorem dX13_rotate_1 : decode cX13_rotate 1 = .ok (.bipush 7, 2) := by decide +kernel
theorem dX13_rotate_3 : decode cX13_rotate 3 = .ok (.iconst 0, 1) := by decide +kernel
theorem dX13_rotate_4 : decode cX13_rotate 4 = .ok (.iconst 0, 1) := by decide +kernel
theorem dX13_rotate_5 : decode cX13_rotate 5 = .ok (.iconst 1, 1) := by decide +kernel
theorem dX13_rotate_6 : decode cX13_rotate 6 = .ok (.invokevirtual 375, 3) := by decide +kernel
theorem dX13_rotate_9 : decode cX13_rotate 9 = .ok (.ireturn, 1) := by decide +kernel
set_option maxRecDepth 4000 in
theorem c_rotate (γ : LC) (μ : MU) (w : Mm)  (S P M : Int)  (hR0 : RB μ S P M w) (hS : S ≤ 28900) (hP : P ≤ 500000) (hM : M ≤ 590) : CMi γ μ 7 mX13_rotate [] w (fun r w' => r = (o_rotate μ  w).1 ∧ w' = (o_rotate μ  w).2) := by
  refine CMi_of rfl (by simp [rv_cat, Value.category]) rfl ?_
  rintro κ hO hF rfl hR
  have hD := hF.dp
  show X κ 0 0 w 0 [some (rv μ.1)] []
  have hL := hR0.1
  obtain ⟨f1, f2, f3, f4, f5⟩ := hR0.1.f
  obtain ⟨t1, t2, t3, t4, t5, t6, t7⟩ := hR0.2.1.2.2.2.1
  refine X_aload_n 1 hO dX13_rotate_0 rfl rfl ?_
  refine X_bipush 3 hO dX13_rotate_1 rfl (by decide) ?_
  refine X_iconst 4 hO dX13_rotate_3 rfl ?_
  refine X_iconst 5 hO dX13_rotate_4 rfl ?_
  refine X_iconst 6 hO dX13_rotate_5 rfl ?_
  refine XM_callVi 9 hO hD hR lX13_375 [_, _, _, _] rfl dX13_rotate_6 rfl (c_called _ _ _ _ _ _ _ S P M (by unfold CV; omega) (by omega) (by omega) hR0 hS hP hM) (by decide) (by simp only [List.map_cons, List.map_nil, rv_cat]; exact Nat.le_of_ble_eq_true rfl) (fun r_6 w_6 hr_6 hp_6 hR => ?_)
  obtain ⟨e1_6, e2_6⟩ := hp_6
  subst e1_6
  subst e2_6
  exact XM_iret hO hF hR rfl (by first | exact Or.inl rfl | exact Or.inr ⟨rfl, bi_01 _⟩ | exact Or.inr ⟨rfl, by omega⟩) dX13_rotate_9 (by first | assumption | omega | exact I_rng _) (by first | (exfalso; omega) | (unfold o_rotate ; (try unfold m_ti); (try unfold m_th); (repeat (first | rw [if_pos (by omega)] | rw [if_neg (by omega)])); exact ⟨rfl, rfl⟩))
def o_copy (μ : MU) (c k : Int) (w : Mm) : Int × Mm := if 0 ≤ c ∧ c ≤ 3 then (if 1 ≤ k ∧ k ≤ 20 then m_cal μ 8 c k 3 (m_th μ 0 w) else (0, m_th μ 2 w)) else (0, m_th μ 1 w)
theorem dX13_copy_0 : decode cX13_copy 0 = .ok (.aload_n 0, 1) := by decide +kernel
theorem dX13_copy_1 : decode cX13_copy 1 = .ok (.iload_n 1, 1) := by decide +kernel
theorem dX13_copy_2 : decode cX13_copy 2 = .ok (.iconst 0, 1) := by decide +kernel
theorem dX13_copy_3 : decode cX13_copy 3 = .ok (.iconst 3, 1) := by decide +kernel
theorem dX13_copy_4 : decode cX13_copy 4 = .ok (.invokestatic 174, 3) := by decide +kernel
theorem dX13_copy_7 : decode cX13_copy 7 = .ok (.ifCond .ne 7, 3) := by decide +kernel
theorem dX13_copy_10 : decode cX13_copy 10 = .ok (.iconst 1, 1) := by decide +kernel
theorem dX13_copy_11 : decode cX13_copy 11 = .ok (.goto 18, 3) := by decide +kernel
theorem dX13_copy_14 : decode cX13_copy 14 = .ok (.iload_n 2, 1) := by decide +kernel
theorem dX13_copy_15 : decode cX13_copy 15 = .ok (.iconst 1, 1) := by decide +kernel
theorem dX13_copy_16 : decode cX13_copy 16 = .ok (.bipush 20, 2) := by decide +kernel
theorem dX13_copy_18 : decode cX13_copy 18 = .ok (.invokestatic 174, 3) := by decide +kernel
theorem dX13_copy_21 : decode cX13_copy 21 = .ok (.ifCond .ne 7, 3) := by decide +kernel
theorem dX13_copy_24 : decode cX13_copy 24 = .ok (.iconst 2, 1) := by decide +kernel
theorem dX13_copy_25 : decode cX13_copy 25 = .ok (.goto 4, 3) := by decide +kernel
theorem dX13_copy_28 : decode cX13_copy 28 = .ok (.iconst 0, 1) := by decide +kernel
theorem dX13_copy_29 : decode cX13_copy 29 = .ok (.putfield 171, 3) := by decide +kernel
theorem dX13_copy_32 : decode cX13_copy 32 = .ok (.aload_n 0, 1) := by decide +kernel
theorem dX13_copy_33 : decode cX13_copy 33 = .ok (.getfield 171, 3) := by decide +kernel
theorem dX13_copy_36 : decode cX13_copy 36 = .ok (.ifCond .le 7, 3) := by decide +kernel
theorem dX13_copy_39 : decode cX13_copy 39 = .ok (.iconst 0, 1) := by decide +kernel
theorem dX13_copy_40 : decode cX13_copy 40 = .ok (.goto 12, 3) := by decide +kernel
theorem dX13_copy_43 : decode cX13_copy 43 = .ok (.aload_n 0, 1) := by decide +kernel
theorem dX13_copy_44 : decode cX13_copy 44 = .ok (.bipush 8, 2) := by decide +kernel
theorem dX13_copy_46 : decode cX13_copy 46 = .ok (.iload_n 1, 1) := by decide +kernel
theorem dX13_copy_47 : decode cX13_copy 47 = .ok (.iload_n 2, 1) := by decide +kernel
theorem dX13_copy_48 : decode cX13_copy 48 = .ok (.iconst 3, 1) := by decide +kernel
theorem dX13_copy_49 : decode cX13_copy 49 = .ok (.invokevirtual 375, 3) := by decide +kernel
theorem dX13_copy_52 : decode cX13_copy 52 = .ok (.ireturn, 1) := by decide +kernel
set_option maxRecDepth 4000 in
theorem c_copy (γ : LC) (μ : MU) (w : Mm) (c k : Int) (S P M : Int) (hc : IR c) (hk : IR k) (hR0 : RB μ S P M w) (hS : S ≤ 28900) (hP : P ≤ 500000) (hM : M ≤ 590) : CMi γ μ 7 mX13_copy [.int (I c), .int (I k)] w (fun r w' => r = (o_copy μ c k w).1 ∧ w' = (o_copy μ c k w).2) := by
  refine CMi_of rfl (by simp [rv_cat, Value.category]) rfl ?_
  rintro κ hO hF rfl hR
  have hD := hF.dp
  show X κ 0 0 w 0 [some (rv μ.1), some (.int (I c)), some (.int (I k))] []
  have hL := hR0.1
  obtain ⟨f1, f2, f3, f4, f5⟩ := hR0.1.f
  obtain ⟨t1, t2, t3, t4, t5, t6, t7⟩ := hR0.2.1.2.2.2.1
  refine X_aload_n 1 hO dX13_copy_0 rfl rfl ?_
  refine X_iload_n 2 hO dX13_copy_1 rfl rfl ?_
  refine X_iconst 3 hO dX13_copy_2 rfl ?_
  refine X_iconst 4 hO dX13_copy_3 rfl ?_
  refine XM_callSi 7 hO hD lX13_174 [_, _, _] rfl dX13_copy_4 rfl (c_in _ _ _ _ _ (by omega) (by omega) (by omega)) (by decide) (by simp only [List.map_cons, List.map_nil, rv_cat]; exact Nat.le_of_ble_eq_true rfl) (fun r_4 hr_4 hp_4 => ?_)
  subst hp_4
  refine X_if_ne 10 14 hO dX13_copy_7 rfl rfl (by omega) (fun hc_7 => ?_) (fun hc_7 => ?_)
  ·
    try simp only [bi_0, bi_ne, ne_eq, Classical.not_not] at hc_7
    refine X_iload_n 15 hO dX13_copy_14 rfl rfl ?_
    refine X_iconst 16 hO dX13_copy_15 rfl ?_
    refine X_bipush 18 hO dX13_copy_16 rfl (by decide) ?_
    refine XM_callSi 21 hO hD lX13_174 [_, _, _] rfl dX13_copy_18 rfl (c_in _ _ _ _ _ (by omega) (by omega) (by omega)) (by decide) (by simp only [List.map_cons, List.map_nil, rv_cat]; exact Nat.le_of_ble_eq_true rfl) (fun r_18 hr_18 hp_18 => ?_)
    subst hp_18
    refine X_if_ne 24 28 hO dX13_copy_21 rfl rfl (by omega) (fun hc_21 => ?_) (fun hc_21 => ?_)
    ·
      try simp only [bi_0, bi_ne, ne_eq, Classical.not_not] at hc_21
      refine X_iconst 29 hO dX13_copy_28 rfl ?_
      refine pa_171 32 hO hR dX13_copy_29 rfl (by omega) (fun hR => ?_)
      refine X_aload_n 33 hO dX13_copy_32 rfl rfl ?_
      refine ga_171 36 hO hR dX13_copy_33 rfl (fun hi_33 => ?_)
      try simp (disch := decide) only [up_k, up_s, step_at, pool_at, poolN_at, opens_at, closes_at, fl_at, del_at, ins_at, rep_at, psh_at, trn_at, tak_at, pEn_at, cpQ_at, cpP_at, cpT_at, ti_at, th_at] at hi_33 ⊢
      refine X_if_le 39 43 hO dX13_copy_36 rfl rfl (by omega) (fun hc_36 => ?_) (fun hc_36 => ?_)
      ·
        refine X_aload_n 44 hO dX13_copy_43 rfl rfl ?_
        refine X_bipush 46 hO dX13_copy_44 rfl (by decide) ?_
        refine X_iload_n 47 hO dX13_copy_46 rfl rfl ?_
        refine X_iload_n 48 hO dX13_copy_47 rfl rfl ?_
        refine X_iconst 49 hO dX13_copy_48 rfl ?_
        refine XM_callVi 52 hO hD hR lX13_375 [_, _, _, _] rfl dX13_copy_49 rfl (c_called _ _ _ _ _ _ _ S P M (by unfold CV; omega) (by omega) (by omega) (hR0.fld (by decide)) hS hP hM) (by decide) (by simp only [List.map_cons, List.map_nil, rv_cat]; exact Nat.le_of_ble_eq_true rfl) (fun r_49 w_49 hr_49 hp_49 hR => ?_)
        obtain ⟨e1_49, e2_49⟩ := hp_49
        subst e1_49
        subst e2_49
        exact XM_iret hO hF hR rfl (by first | exact Or.inl rfl | exact Or.inr ⟨rfl, bi_01 _⟩ | exact Or.inr ⟨rfl, by omega⟩) dX13_copy_52 (by first | assumption | omega | exact I_rng _) (by first | (exfalso; omega) | (unfold o_copy ; (try unfold m_ti); (try unfold m_th); (repeat (first | rw [if_pos (by omega)] | rw [if_neg (by omega)])); exact ⟨rfl, rfl⟩))
      ·
        refine X_iconst 40 hO dX13_copy_39 rfl ?_
        refine X_goto hO dX13_copy_40 (tgt := 52) rfl ?_
        exact XM_iret hO hF hR rfl (by first | exact Or.inl rfl | exact Or.inr ⟨rfl, bi_01 _⟩ | exact Or.inr ⟨rfl, by omega⟩) dX13_copy_52 (by first | assumption | omega | exact I_rng _) (by first | (exfalso; omega) | (unfold o_copy ; (try unfold m_ti); (try unfold m_th); (repeat (first | rw [if_pos (by omega)] | rw [if_neg (by omega)])); exact ⟨rfl, rfl⟩))
    ·
      try simp only [bi_0, bi_ne, ne_eq, Classical.not_not] at hc_21
      refine X_iconst 25 hO dX13_copy_24 rfl ?_
      refine X_goto hO dX13_copy_25 (tgt := 29) rfl ?_
      refine pa_171 32 hO hR dX13_copy_29 rfl (by omega) (fun hR => ?_)
      refine X_aload_n 33 hO dX13_copy_32 rfl rfl ?_
      refine ga_171 36 hO hR dX13_copy_33 rfl (fun hi_33 => ?_)
      try simp (disch := decide) only [up_k, up_s, step_at, pool_at, poolN_at, opens_at, closes_at, fl_at, del_at, ins_at, rep_at, psh_at, trn_at, tak_at, pEn_at, cpQ_at, cpP_at, cpT_at, ti_at, th_at] at hi_33 ⊢
      refine X_if_le 39 43 hO dX13_copy_36 rfl rfl (by omega) (fun hc_36 => ?_) (fun hc_36 => ?_)
      ·
        refine X_aload_n 44 hO dX13_copy_43 rfl rfl ?_
        refine X_bipush 46 hO dX13_copy_44 rfl (by decide) ?_
        refine X_iload_n 47 hO dX13_copy_46 rfl rfl ?_
        refine X_iload_n 48 hO dX13_copy_47 rfl rfl ?_
        refine X_iconst 49 hO dX13_copy_48 rfl ?_
        refine XM_callVi 52 hO hD hR lX13_375 [_, _, _, _] rfl dX13_copy_49 rfl (c_called _ _ _ _ _ _ _ S P M (by unfold CV; omega) (by omega) (by omega) (hR0.fld (by decide)) hS hP hM) (by decide) (by simp only [List.map_cons, List.map_nil, rv_cat]; exact Nat.le_of_ble_eq_true rfl) (fun r_49 w_49 hr_49 hp_49 hR => ?_)
        obtain ⟨e1_49, e2_49⟩ := hp_49
        subst e1_49
        subst e2_49
        exact XM_iret hO hF hR rfl (by first | exact Or.inl rfl | exact Or.inr ⟨rfl, bi_01 _⟩ | exact Or.inr ⟨rfl, by omega⟩) dX13_copy_52 (by first | assumption | omega | exact I_rng _) (by first | (exfalso; omega) | (unfold o_copy ; (try unfold m_ti); (try unfold m_th); (repeat (first | rw [if_pos (by omega)] | rw [if_neg (by omega)])); exact ⟨rfl, rfl⟩))
      ·
        refine X_iconst 40 hO dX13_copy_39 rfl ?_
        refine X_goto hO dX13_copy_40 (tgt := 52) rfl ?_
        exact XM_iret hO hF hR rfl (by first | exact Or.inl rfl | exact Or.inr ⟨rfl, bi_01 _⟩ | exact Or.inr ⟨rfl, by omega⟩) dX13_copy_52 (by first | assumption | omega | exact I_rng _) (by first | (exfalso; omega) | (unfold o_copy ; (try unfold m_ti); (try unfold m_th); (repeat (first | rw [if_pos (by omega)] | rw [if_neg (by omega)])); exact ⟨rfl, rfl⟩))
  ·
    try simp only [bi_0, bi_ne, ne_eq, Classical.not_not] at hc_7
    refine X_iconst 11 hO dX13_copy_10 rfl ?_
    refine X_goto hO dX13_copy_11 (tgt := 29) rfl ?_
    refine pa_171 32 hO hR dX13_copy_29 rfl (by omega) (fun hR => ?_)
    refine X_aload_n 33 hO dX13_copy_32 rfl rfl ?_
    refine ga_171 36 hO hR dX13_copy_33 rfl (fun hi_33 => ?_)
    try simp (disch := decide) only [up_k, up_s, step_at, pool_at, poolN_at, opens_at, closes_at, fl_at, del_at, ins_at, rep_at, psh_at, trn_at, tak_at, pEn_at, cpQ_at, cpP_at, cpT_at, ti_at, th_at] at hi_33 ⊢
    refine X_if_le 39 43 hO dX13_copy_36 rfl rfl (by omega) (fun hc_36 => ?_) (fun hc_36 => ?_)
    ·
      refine X_aload_n 44 hO dX13_copy_43 rfl rfl ?_
      refine X_bipush 46 hO dX13_copy_44 rfl (by decide) ?_
      refine X_iload_n 47 hO dX13_copy_46 rfl rfl ?_
      refine X_iload_n 48 hO dX13_copy_47 rfl rfl ?_
      refine X_iconst 49 hO dX13_copy_48 rfl ?_
      refine XM_callVi 52 hO hD hR lX13_375 [_, _, _, _] rfl dX13_copy_49 rfl (c_called _ _ _ _ _ _ _ S P M (by unfold CV; omega) (by omega) (by omega) (hR0.fld (by decide)) hS hP hM) (by decide) (by simp only [List.map_cons, List.map_nil, rv_cat]; exact Nat.le_of_ble_eq_true rfl) (fun r_49 w_49 hr_49 hp_49 hR => ?_)
      obtain ⟨e1_49, e2_49⟩ := hp_49
      subst e1_49
      subst e2_49
      exact XM_iret hO hF hR rfl (by first | exact Or.inl rfl | exact Or.inr ⟨rfl, bi_01 _⟩ | exact Or.inr ⟨rfl, by omega⟩) dX13_copy_52 (by first | assumption | omega | exact I_rng _) (by first | (exfalso; omega) | (unfold o_copy ; (try unfold m_ti); (try unfold m_th); (repeat (first | rw [if_pos (by omega)] | rw [if_neg (by omega)])); exact ⟨rfl, rfl⟩))
    ·
      refine X_iconst 40 hO dX13_copy_39 rfl ?_
      refine X_goto hO dX13_copy_40 (tgt := 52) rfl ?_
      exact XM_iret hO hF hR rfl (by first | exact Or.inl rfl | exact Or.inr ⟨rfl, bi_01 _⟩ | exact Or.inr ⟨rfl, by omega⟩) dX13_copy_52 (by first | assumption | omega | exact I_rng _) (by first | (exfalso; omega) | (unfold o_copy ; (try unfold m_ti); (try unfold m_th); (repeat (first | rw [if_pos (by omega)] | rw [if_neg (by omega)])); exact ⟨rfl, rfl⟩))
def o_paste (μ : MU) (c : Int) (w : Mm) : Int × Mm := if 0 ≤ c ∧ c ≤ 3 then m_cal μ 9 c 0 2 (m_ti μ (0 ≤ c ∧ c ≤ 3) w) else (0, m_ti μ (0 ≤ c ∧ c ≤ 3) w)
theorem dX13_paste_0 : decode cX13_paste 0 = .ok (.aload_n 0, 1) := by decide +kernel
theorem dX13_paste_1 : decode cX13_paste 1 = .ok (.iload_n 1, 1) := by decide +kernel
theorem dX13_paste_2 : decode cX13_paste 2 = .ok (.iconst 0, 1) := by decide +kernel
theorem dX13_paste_3 : decode cX13_paste 3 = .ok (.iconst 3, 1) := by decide +kernel
theorem dX13_paste_4 : decode cX13_paste 4 = .ok (.invokestatic 174, 3) := by decide +kernel
theorem dX13_paste_7 : decode cX13_paste 7 = .ok (.ifCond .eq 7, 3) := by decide +kernel
theorem dX13_paste_10 : decode cX13_paste 10 = .ok (.iconst 0, 1) := by decide +kernel
theorem dX13_paste_11 : decode cX13_paste 11 = .ok (.goto 4, 3) := by decide +kernel
theorem dX13_paste_14 : decode cX13_paste 14 = .ok (.iconst 1, 1) := by decide +kernel
theorem dX13_paste_15 : decode cX13_paste 15 = .ok (.putfield 171, 3) := by decide +kernel
theorem dX13_paste_18 : decode cX13_paste 18 = .ok (.aload_n 0, 1) := by decide +kernel
theorem dX13_paste_19 : decode cX13_paste 19 = .ok (.getfield 171, 3) := by decide +kernel
theorem dX13_paste_22 : decode cX13_paste 22 = .ok (.ifCond .le 7, 3) := by decide +kernel
theorem dX13_paste_25 : decode cX13_paste 25 = .ok (.iconst 0, 1) := by decide +kernel
theorem dX13_paste_26 : decode cX13_paste 26 = .ok (.goto 12, 3) := by decide +kernel
theorem dX13_paste_29 : decode cX13_paste 29 = .ok (.aload_n 0, 1) := by decide +kernel
theorem dX13_paste_30 : decode cX13_paste 30 = .ok (.bipush 9, 2) := by decide +kernel
theorem dX13_paste_32 : decode cX13_paste 32 = .ok (.iload_n 1, 1) := by decide +kernel
theorem dX13_paste_33 : decode cX13_paste 33 = .ok (.iconst 0, 1) := by decide +kernel
theorem dX13_paste_34 : decode cX13_paste 34 = .ok (.iconst 2, 1) := by decide +kernel
theorem dX13_paste_35 : decode cX13_paste 35 = .ok (.invokevirtual 375, 3) := by decide +kernel
theorem dX13_paste_38 : decode cX13_paste 38 = .ok (.ireturn, 1) := by decide +kernel
set_option maxRecDepth 4000 in
theorem c_paste (γ : LC) (μ : MU) (w : Mm) (c : Int) (S P M : Int) (hc : IR c) (hR0 : RB μ S P M w) (hS : S ≤ 28900) (hP : P ≤ 500000) (hM : M ≤ 590) : CMi γ μ 7 mX13_paste [.int (I c)] w (fun r w' => r = (o_paste μ c w).1 ∧ w' = (o_paste μ c w).2) := by
  refine CMi_of rfl (by simp [rv_cat, Value.category]) rfl ?_
  rintro κ hO hF rfl hR
  have hD := hF.dp
  show X κ 0 0 w 0 [some (rv μ.1), some (.int (I c))] []
  have hL := hR0.1
  obtain ⟨f1, f2, f3, f4, f5⟩ := hR0.1.f
  obtain ⟨t1, t2, t3, t4, t5, t6, t7⟩ := hR0.2.1.2.2.2.1
  refine X_aload_n 1 hO dX13_paste_0 rfl rfl ?_
  refine X_iload_n 2 hO dX13_paste_1 rfl rfl ?_
  refine X_iconst 3 hO dX13_paste_2 rfl ?_
  refine X_iconst 4 hO dX13_paste_3 rfl ?_
  refine XM_callSi 7 hO hD lX13_174 [_, _, _] rfl dX13_paste_4 rfl (c_in _ _ _ _ _ (by omega) (by omega) (by omega)) (by decide) (by simp only [List.map_cons, List.map_nil, rv_cat]; exact Nat.le_of_ble_eq_true rfl) (fun r_4 hr_4 hp_4 => ?_)
  subst hp_4
  refine X_if_eq 10 14 hO dX13_paste_7 rfl rfl (by omega) (fun hc_7 => ?_) (fun hc_7 => ?_)
  ·
    try simp only [bi_0, bi_ne, ne_eq, Classical.not_not] at hc_7
    refine X_iconst 15 hO dX13_paste_14 rfl ?_
    refine pa_171 18 hO hR dX13_paste_15 rfl (by omega) (fun hR => ?_)
    refine X_aload_n 19 hO dX13_paste_18 rfl rfl ?_
    refine ga_171 22 hO hR dX13_paste_19 rfl (fun hi_19 => ?_)
    try simp (disch := decide) only [up_k, up_s, step_at, pool_at, poolN_at, opens_at, closes_at, fl_at, del_at, ins_at, rep_at, psh_at, trn_at, tak_at, pEn_at, cpQ_at, cpP_at, cpT_at, ti_at, th_at] at hi_19 ⊢
    refine X_if_le 25 29 hO dX13_paste_22 rfl rfl (by omega) (fun hc_22 => ?_) (fun hc_22 => ?_)
    ·
      refine X_aload_n 30 hO dX13_paste_29 rfl rfl ?_
      refine X_bipush 32 hO dX13_paste_30 rfl (by decide) ?_
      refine X_iload_n 33 hO dX13_paste_32 rfl rfl ?_
      refine X_iconst 34 hO dX13_paste_33 rfl ?_
      refine X_iconst 35 hO dX13_paste_34 rfl ?_
      refine XM_callVi 38 hO hD hR lX13_375 [_, _, _, _] rfl dX13_paste_35 rfl (c_called _ _ _ _ _ _ _ S P M (by unfold CV; omega) (by omega) (by omega) (hR0.fld (by decide)) hS hP hM) (by decide) (by simp only [List.map_cons, List.map_nil, rv_cat]; exact Nat.le_of_ble_eq_true rfl) (fun r_35 w_35 hr_35 hp_35 hR => ?_)
      obtain ⟨e1_35, e2_35⟩ := hp_35
      subst e1_35
      subst e2_35
      exact XM_iret hO hF hR rfl (by first | exact Or.inl rfl | exact Or.inr ⟨rfl, bi_01 _⟩ | exact Or.inr ⟨rfl, by omega⟩) dX13_paste_38 (by first | assumption | omega | exact I_rng _) (by first | (exfalso; omega) | (unfold o_paste ; (try unfold m_ti); (try unfold m_th); (repeat (first | rw [if_pos (by omega)] | rw [if_neg (by omega)])); exact ⟨rfl, rfl⟩))
    ·
      refine X_iconst 26 hO dX13_paste_25 rfl ?_
      refine X_goto hO dX13_paste_26 (tgt := 38) rfl ?_
      exact XM_iret hO hF hR rfl (by first | exact Or.inl rfl | exact Or.inr ⟨rfl, bi_01 _⟩ | exact Or.inr ⟨rfl, by omega⟩) dX13_paste_38 (by first | assumption | omega | exact I_rng _) (by first | (exfalso; omega) | (unfold o_paste ; (try unfold m_ti); (try unfold m_th); (repeat (first | rw [if_pos (by omega)] | rw [if_neg (by omega)])); exact ⟨rfl, rfl⟩))
  ·
    try simp only [bi_0, bi_ne, ne_eq, Classical.not_not] at hc_7
    refine X_iconst 11 hO dX13_paste_10 rfl ?_
    refine X_goto hO dX13_paste_11 (tgt := 15) rfl ?_
    refine pa_171 18 hO hR dX13_paste_15 rfl (by omega) (fun hR => ?_)
    refine X_aload_n 19 hO dX13_paste_18 rfl rfl ?_
    refine ga_171 22 hO hR dX13_paste_19 rfl (fun hi_19 => ?_)
    try simp (disch := decide) only [up_k, up_s, step_at, pool_at, poolN_at, opens_at, closes_at, fl_at, del_at, ins_at, rep_at, psh_at, trn_at, tak_at, pEn_at, cpQ_at, cpP_at, cpT_at, ti_at, th_at] at hi_19 ⊢
    refine X_if_le 25 29 hO dX13_paste_22 rfl rfl (by omega) (fun hc_22 => ?_) (fun hc_22 => ?_)
    ·
      refine X_aload_n 30 hO dX13_paste_29 rfl rfl ?_
      refine X_bipush 32 hO dX13_paste_30 rfl (by decide) ?_
      refine X_iload_n 33 hO dX13_paste_32 rfl rfl ?_
      refine X_iconst 34 hO dX13_paste_33 rfl ?_
      refine X_iconst 35 hO dX13_paste_34 rfl ?_
      refine XM_callVi 38 hO hD hR lX13_375 [_, _, _, _] rfl dX13_paste_35 rfl (c_called _ _ _ _ _ _ _ S P M (by unfold CV; omega) (by omega) (by omega) (hR0.fld (by decide)) hS hP hM) (by decide) (by simp only [List.map_cons, List.map_nil, rv_cat]; exact Nat.le_of_ble_eq_true rfl) (fun r_35 w_35 hr_35 hp_35 hR => ?_)
      obtain ⟨e1_35, e2_35⟩ := hp_35
      subst e1_35
      subst e2_35
      exact XM_iret hO hF hR rfl (by first | exact Or.inl rfl | exact Or.inr ⟨rfl, bi_01 _⟩ | exact Or.inr ⟨rfl, by omega⟩) dX13_paste_38 (by first | assumption | omega | exact I_rng _) (by first | (exfalso; omega) | (unfold o_paste ; (try unfold m_ti); (try unfold m_th); (repeat (first | rw [if_pos (by omega)] | rw [if_neg (by omega)])); exact ⟨rfl, rfl⟩))
    ·
      refine X_iconst 26 hO dX13_paste_25 rfl ?_
      refine X_goto hO dX13_paste_26 (tgt := 38) rfl ?_
      exact XM_iret hO hF hR rfl (by first | exact Or.inl rfl | exact Or.inr ⟨rfl, bi_01 _⟩ | exact Or.inr ⟨rfl, by omega⟩) dX13_paste_38 (by first | assumption | omega | exact I_rng _) (by first | (exfalso; omega) | (unfold o_paste ; (try unfold m_ti); (try unfold m_th); (repeat (first | rw [if_pos (by omega)] | rw [if_neg (by omega)])); exact ⟨rfl, rfl⟩))
theorem dX13_isMark_0 : decode cX13_isMark 0 = .ok (.aload_n 0, 1) := by decide +kernel
theorem dX13_isMark_1 : decode cX13_isMark 1 = .ok (.iload_n 1, 1) := by decide +kernel
theorem dX13_isMark_2 : decode cX13_isMark 2 = .ok (.iconst 0, 1) := by decide +kernel
theorem dX13_isMark_3 : decode cX13_isMark 3 = .ok (.iconst 5, 1) := by decide +kernel
theorem dX13_isMark_4 : decode cX13_isMark 4 = .ok (.invokestatic 174, 3) := by decide +kernel
theorem dX13_isMark_7 : decode cX13_isMark 7 = .ok (.ifCond .eq 7, 3) := by decide +kernel
theorem dX13_isMark_10 : decode cX13_isMark 10 = .ok (.iconst 0, 1) := by decide +kernel
theorem dX13_isMark_11 : decode cX13_isMark 11 = .ok (.goto 4, 3) := by decide +kernel
theorem dX13_isMark_14 : decode cX13_isMark 14 = .ok (.iconst 1, 1) := by decide +kernel
theorem dX13_isMark_15 : decode cX13_isMark 15 = .ok (.putfield 171, 3) := by decide +kernel
theorem dX13_isMark_18 : decode cX13_isMark 18 = .ok (.aload_n 0, 1) := by decide +kernel
theorem dX13_isMark_19 : decode cX13_isMark 19 = .ok (.getfield 171, 3) := by decide +kernel
theorem dX13_isMark_22 : decode cX13_isMark 22 = .ok (.ifCond .ne 7, 3) := by decide +kernel
theorem dX13_isMark_25 : decode cX13_isMark 25 = .ok (.iconst 1, 1) := by decide +kernel
theorem dX13_isMark_26 : decode cX13_isMark 26 = .ok (.goto 4, 3) := by decide +kernel
theorem dX13_isMark_29 : decode cX13_isMark 29 = .ok (.iconst 0, 1) := by decide +kernel
theorem dX13_isMark_30 : decode cX13_isMark 30 = .ok (.ireturn, 1) := by decide +kernel
set_option maxRecDepth 4000 in
theorem c_isMark (γ : LC) (μ : MU) (w : Mm) (c : Int) (S P M : Int) (hc : IR c) (hR0 : RB μ S P M w) (hS : S ≤ 28900) (hP : P ≤ 500000) (hM : M ≤ 590) : CMi γ μ 1 mX13_isMark [.int (I c)] w (fun r w' => r = bi (0 ≤ c ∧ c ≤ 5) ∧ w' = m_ti μ (0 ≤ c ∧ c ≤ 5) w) := by
  refine CMi_of rfl (by simp [rv_cat, Value.category]) rfl ?_
  rintro κ hO hF rfl hR
  have hD := hF.dp
  show X κ 0 0 w 0 [some (rv μ.1), some (.int (I c))] []
  obtain ⟨f1, f2, f3, f4, f5⟩ := hR0.1.f
  obtain ⟨t1, t2, t3, t4, t5, t6, t7⟩ := hR0.2.1.2.2.2.1
  refine X_aload_n 1 hO dX13_isMark_0 rfl rfl ?_
  refine X_iload_n 2 hO dX13_isMark_1 rfl rfl ?_
  refine X_iconst 3 hO dX13_isMark_2 rfl ?_
  refine X_iconst 4 hO dX13_isMark_3 rfl ?_
  refine XM_callSi 7 hO hD lX13_174 [_, _, _] rfl dX13_isMark_4 rfl (c_in _ _ _ _ _ (by omega) (by omega) (by omega)) (by decide) (by simp only [List.map_cons, List.map_nil, rv_cat]; exact Nat.le_of_ble_eq_true rfl) (fun r_4 hr_4 hp_4 => ?_)
  subst hp_4
  refine X_if_eq 10 14 hO dX13_isMark_7 rfl rfl (by omega) (fun hc_7 => ?_) (fun hc_7 => ?_)
  ·
    try simp only [bi_0, bi_ne, ne_eq, Classical.not_not] at hc_7
    refine X_iconst 15 hO dX13_isMark_14 rfl ?_
    refine pa_171 18 hO hR dX13_isMark_15 rfl (by omega) (fun hR => ?_)
    refine X_aload_n 19 hO dX13_isMark_18 rfl rfl ?_
    refine ga_171 22 hO hR dX13_isMark_19 rfl (fun hi_19 => ?_)
    try simp (disch := decide) only [up_k, up_s, step_at, pool_at, poolN_at, opens_at, closes_at, fl_at, del_at, ins_at, rep_at, psh_at, trn_at, tak_at, pEn_at, cpQ_at, cpP_at, cpT_at, ti_at, th_at] at hi_19 ⊢
    refine X_if_ne 25 29 hO dX13_isMark_22 rfl rfl (by omega) (fun hc_22 => ?_) (fun hc_22 => ?_)
    ·
      refine X_iconst 30 hO dX13_isMark_29 rfl ?_
      exact XM_iret hO hF hR rfl (by first | exact Or.inl rfl | exact Or.inr ⟨rfl, bi_01 _⟩ | exact Or.inr ⟨rfl, by omega⟩) dX13_isMark_30 (by omega) (by first | (exfalso; omega) | (unfold m_ti bi; (repeat (first | rw [if_pos (by omega)] | rw [if_neg (by omega)])); exact ⟨rfl, rfl⟩))
    ·
      refine X_iconst 26 hO dX13_isMark_25 rfl ?_
      refine X_goto hO dX13_isMark_26 (tgt := 30) rfl ?_
      exact XM_iret hO hF hR rfl (by first | exact Or.inl rfl | exact Or.inr ⟨rfl, bi_01 _⟩ | exact Or.inr ⟨rfl, by omega⟩) dX13_isMark_30 (by omega) (by first | (exfalso; omega) | (unfold m_ti bi; (repeat (first | rw [if_pos (by omega)] | rw [if_neg (by omega)])); exact ⟨rfl, rfl⟩))
  ·
    try simp only [bi_0, bi_ne, ne_eq, Classical.not_not] at hc_7
    refine X_iconst 11 hO dX13_isMark_10 rfl ?_
    refine X_goto hO dX13_isMark_11 (tgt := 15) rfl ?_
    refine pa_171 18 hO hR dX13_isMark_15 rfl (by omega) (fun hR => ?_)
    refine X_aload_n 19 hO dX13_isMark_18 rfl rfl ?_
    refine ga_171 22 hO hR dX13_isMark_19 rfl (fun hi_19 => ?_)
    try simp (disch := decide) only [up_k, up_s, step_at, pool_at, poolN_at, opens_at, closes_at, fl_at, del_at, ins_at, rep_at, psh_at, trn_at, tak_at, pEn_at, cpQ_at, cpP_at, cpT_at, ti_at, th_at] at hi_19 ⊢
    refine X_if_ne 25 29 hO dX13_isMark_22 rfl rfl (by omega) (fun hc_22 => ?_) (fun hc_22 => ?_)
    ·
      refine X_iconst 30 hO dX13_isMark_29 rfl ?_
      exact XM_iret hO hF hR rfl (by first | exact Or.inl rfl | exact Or.inr ⟨rfl, bi_01 _⟩ | exact Or.inr ⟨rfl, by omega⟩) dX13_isMark_30 (by omega) (by first | (exfalso; omega) | (unfold m_ti bi; (repeat (first | rw [if_pos (by omega)] | rw [if_neg (by omega)])); exact ⟨rfl, rfl⟩))
    ·
      refine X_iconst 26 hO dX13_isMark_25 rfl ?_
      refine X_goto hO dX13_isMark_26 (tgt := 30) rfl ?_
      exact XM_iret hO hF hR rfl (by first | exact Or.inl rfl | exact Or.inr ⟨rfl, bi_01 _⟩ | exact Or.inr ⟨rfl, by omega⟩) dX13_isMark_30 (by omega) (by first | (exfalso; omega) | (unfold m_ti bi; (repeat (first | rw [if_pos (by omega)] | rw [if_neg (by omega)])); exact ⟨rfl, rfl⟩))
def o_setMark (μ : MU) (c b : Int) (w : Mm) : Int × Mm := if 0 ≤ c ∧ c ≤ 5 then m_cal μ 10 c b 2 (m_ti μ (0 ≤ c ∧ c ≤ 5) w) else (0, m_ti μ (0 ≤ c ∧ c ≤ 5) w)
theorem dX13_setMark_0 : decode cX13_setMark 0 = .ok (.aload_n 0, 1) := by decide +kernel
theorem dX13_setMark_1 : decode cX13_setMark 1 = .ok (.iload_n 1, 1) := by decide +kernel
theorem dX13_setMark_2 : decode cX13_setMark 2 = .ok (.invokevirtual 379, 3) := by decide +kernel
theorem dX13_setMark_5 : decode cX13_setMark 5 = .ok (.ifCond .eq 23, 3) := by decide +kernel
theorem dX13_setMark_8 : decode cX13_setMark 8 = .ok (.aload_n 0, 1) := by decide +kernel
theorem dX13_setMark_9 : decode cX13_setMark 9 = .ok (.bipush 10, 2) := by decide +kernel
theorem dX13_setMark_11 : decode cX13_setMark 11 = .ok (.iload_n 1, 1) := by decide +kernel
theorem dX13_setMark_12 : decode cX13_setMark 12 = .ok (.iload_n 2, 1) := by decide +kernel
theorem dX13_setMark_13 : decode cX13_setMark 13 = .ok (.ifCond .eq 7, 3) := by decide +kernel
theorem dX13_setMark_16 : decode cX13_setMark 16 = .ok (.iconst 1, 1) := by decide +kernel
theorem dX13_setMark_17 : decode cX13_setMark 17 = .ok (.goto 4, 3) := by decide +kernel
theorem dX13_setMark_20 : decode cX13_setMark 20 = .ok (.iconst 0, 1) := by decide +kernel
theorem dX13_setMark_21 : decode cX13_setMark 21 = .ok (.iconst 2, 1) := by decide +kernel
theorem dX13_setMark_22 : decode cX13_setMark 22 = .ok (.invokevirtual 375, 3) := by decide +kernel
theorem dX13_setMark_25 : decode cX13_setMark 25 = .ok (.goto 4, 3) := by decide +kernel
theorem dX13_setMark_28 : decode cX13_setMark 28 = .ok (.iconst 0, 1) := by decide +kernel
theorem dX13_setMark_29 : decode cX13_setMark 29 = .ok (.ireturn, 1) := by decide +kernel
set_option maxRecDepth 4000 in
theorem c_setMark (γ : LC) (μ : MU) (w : Mm) (c b : Int) (S P M : Int) (hc : IR c) (hb : b = 0 ∨ b = 1) (hR0 : RB μ S P M w) (hS : S ≤ 28900) (hP : P ≤ 500000) (hM : M ≤ 590) : CMi γ μ 7 mX13_setMark [.int (I c), .int (I b)] w (fun r w' => r = (o_setMark μ c b w).1 ∧ w' = (o_setMark μ c b w).2) := by
  refine CMi_of rfl (by simp [rv_cat, Value.category]) rfl ?_
  rintro κ hO hF rfl hR
  have hD := hF.dp
  show X κ 0 0 w 0 [some (rv μ.1), some (.int (I c)), some (.int (I b))] []
  have hL := hR0.1
  obtain ⟨f1, f2, f3, f4, f5⟩ := hR0.1.f
  obtain ⟨t1, t2, t3, t4, t5, t6, t7⟩ := hR0.2.1.2.2.2.1
  refine X_aload_n 1 hO dX13_setMark_0 rfl rfl ?_
  refine X_iload_n 2 hO dX13_setMark_1 rfl rfl ?_
  refine XM_callVi 5 hO hD hR lX13_379 [_] rfl dX13_setMark_2 rfl (c_isMark _ _ _ _ _ _ _ (by omega) hR0 hS hP hM) (by decide) (by simp only [List.map_cons, List.map_nil, rv_cat]; exact Nat.le_of_ble_eq_true rfl) (fun r_2 w_2 hr_2 hp_2 hR => ?_)
  obtain ⟨e1_2, e2_2⟩ := hp_2
  subst e1_2
  subst e2_2
  refine X_if_eq 8 28 hO dX13_setMark_5 rfl rfl (by omega) (fun hc_5 => ?_) (fun hc_5 => ?_)
  ·
    try simp only [bi_0, bi_ne, ne_eq, Classical.not_not] at hc_5
    refine X_iconst 29 hO dX13_setMark_28 rfl ?_
    exact XM_iret hO hF hR rfl (by first | exact Or.inl rfl | exact Or.inr ⟨rfl, bi_01 _⟩ | exact Or.inr ⟨rfl, by omega⟩) dX13_setMark_29 (by first | assumption | omega | exact I_rng _) (by first | (exfalso; omega) | (unfold o_setMark ; (try unfold m_ti); (try unfold m_th); (repeat (first | rw [if_pos (by omega)] | rw [if_neg (by omega)])); exact ⟨rfl, rfl⟩))
  ·
    try simp only [bi_0, bi_ne, ne_eq, Classical.not_not] at hc_5
    refine X_aload_n 9 hO dX13_setMark_8 rfl rfl ?_
    refine X_bipush 11 hO dX13_setMark_9 rfl (by decide) ?_
    refine X_iload_n 12 hO dX13_setMark_11 rfl rfl ?_
    refine X_iload_n 13 hO dX13_setMark_12 rfl rfl ?_
    refine X_if_eq 16 20 hO dX13_setMark_13 rfl rfl (by omega) (fun hc_13 => ?_) (fun hc_13 => ?_)
    ·
      have eb : b = 0 := by omega
      subst eb
      refine X_iconst 21 hO dX13_setMark_20 rfl ?_
      refine X_iconst 22 hO dX13_setMark_21 rfl ?_
      refine XM_callVi 25 hO hD hR lX13_375 [_, _, _, _] rfl dX13_setMark_22 rfl (c_called _ _ _ _ _ _ _ S P M (by unfold CV; omega) (by omega) (by omega) hR0.ti hS hP hM) (by decide) (by simp only [List.map_cons, List.map_nil, rv_cat]; exact Nat.le_of_ble_eq_true rfl) (fun r_22 w_22 hr_22 hp_22 hR => ?_)
      obtain ⟨e1_22, e2_22⟩ := hp_22
      subst e1_22
      subst e2_22
      refine X_goto hO dX13_setMark_25 (tgt := 29) rfl ?_
      exact XM_iret hO hF hR rfl (by first | exact Or.inl rfl | exact Or.inr ⟨rfl, bi_01 _⟩ | exact Or.inr ⟨rfl, by omega⟩) dX13_setMark_29 (by first | assumption | omega | exact I_rng _) (by first | (exfalso; omega) | (unfold o_setMark ; (try unfold m_ti); (try unfold m_th); (repeat (first | rw [if_pos (by omega)] | rw [if_neg (by omega)])); exact ⟨rfl, rfl⟩))
    ·
      have eb : b = 1 := by omega
      subst eb
      refine X_iconst 17 hO dX13_setMark_16 rfl ?_
      refine X_goto hO dX13_setMark_17 (tgt := 21) rfl ?_
      refine X_iconst 22 hO dX13_setMark_21 rfl ?_
      refine XM_callVi 25 hO hD hR lX13_375 [_, _, _, _] rfl dX13_setMark_22 rfl (c_called _ _ _ _ _ _ _ S P M (by unfold CV; omega) (by omega) (by omega) hR0.ti hS hP hM) (by decide) (by simp only [List.map_cons, List.map_nil, rv_cat]; exact Nat.le_of_ble_eq_true rfl) (fun r_22 w_22 hr_22 hp_22 hR => ?_)
      obtain ⟨e1_22, e2_22⟩ := hp_22
      subst e1_22
      subst e2_22
      refine X_goto hO dX13_setMark_25 (tgt := 29) rfl ?_
      exact XM_iret hO hF hR rfl (by first | exact Or.inl rfl | exact Or.inr ⟨rfl, bi_01 _⟩ | exact Or.inr ⟨rfl, by omega⟩) dX13_setMark_29 (by first | assumption | omega | exact I_rng _) (by first | (exfalso; omega) | (unfold o_setMark ; (try unfold m_ti); (try unfold m_th); (repeat (first | rw [if_pos (by omega)] | rw [if_neg (by omega)])); exact ⟨rfl, rfl⟩))
def o_clearMark (μ : MU) (c : Int) (w : Mm) : Int × Mm := if 0 ≤ c ∧ c ≤ 5 then m_cal μ 11 c 0 2 (m_ti μ (0 ≤ c ∧ c ≤ 5) w) else (0, m_ti μ (0 ≤ c ∧ c ≤ 5) w)
theorem dX13_clearMark_0 : decode cX13_clearMark 0 = .ok (.aload_n 0, 1) := by decide +kernel
theorem dX13_clearMark_1 : decode cX13_clearMark 1 = .ok (.iload_n 1, 1) := by decide +kernel
theorem dX13_clearMark_2 : decode cX13_clearMark 2 = .ok (.invokevirtual 379, 3) := by decide +kernel
theorem dX13_clearMark_5 : decode cX13_clearMark 5 = .ok (.ifCond .eq 15, 3) := by decide +kernel
theorem dX13_clearMark_8 : decode cX13_clearMark 8 = .ok (.aload_n 0, 1) := by decide +kernel
theorem dX13_clearMark_9 : decode cX13_clearMark 9 = .ok (.bipush 11, 2) := by decide +kernel
theorem dX13_clearMark_11 : decode cX13_clearMark 11 = .ok (.iload_n 1, 1) := by decide +kernel
theorem dX13_clearMark_12 : decode cX13_clearMark 12 = .ok (.iconst 0, 1) := by decide +kernel
theorem dX13_clearMark_13 : decode cX13_clearMark 13 = .ok (.iconst 2, 1) := by decide +kernel
theorem dX13_clearMark_14 : decode cX13_clearMark 14 = .ok (.invokevirtual 375, 3) := by decide +kernel
theorem dX13_clearMark_17 : decode cX13_clearMark 17 = .ok (.goto 4, 3) := by decide +kernel
theorem dX13_clearMark_20 : decode cX13_clearMark 20 = .ok (.iconst 0, 1) := by decide +kernel
theorem dX13_clearMark_21 : decode cX13_clearMark 21 = .ok (.ireturn, 1) := by decide +kernel
set_option maxRecDepth 4000 in
theorem c_clearMark (γ : LC) (μ : MU) (w : Mm) (c : Int) (S P M : Int) (hc : IR c) (hR0 : RB μ S P M w) (hS : S ≤ 28900) (hP : P ≤ 500000) (hM : M ≤ 590) : CMi γ μ 7 mX13_clearMark [.int (I c)] w (fun r w' => r = (o_clearMark μ c w).1 ∧ w' = (o_clearMark μ c w).2) := by
  refine CMi_of rfl (by simp [rv_cat, Value.category]) rfl ?_
  rintro κ hO hF rfl hR
  have hD := hF.dp
  show X κ 0 0 w 0 [some (rv μ.1), some (.int (I c))] []
  have hL := hR0.1
  obtain ⟨f1, f2, f3, f4, f5⟩ := hR0.1.f
  obtain ⟨t1, t2, t3, t4, t5, t6, t7⟩ := hR0.2.1.2.2.2.1
  refine X_aload_n 1 hO dX13_clearMark_0 rfl rfl ?_
  refine X_iload_n 2 hO dX13_clearMark_1 rfl rfl ?_
  refine XM_callVi 5 hO hD hR lX13_379 [_] rfl dX13_clearMark_2 rfl (c_isMark _ _ _ _ _ _ _ (by omega) hR0 hS hP hM) (by decide) (by simp only [List.map_cons, List.map_nil, rv_cat]; exact Nat.le_of_ble_eq_true rfl) (fun r_2 w_2 hr_2 hp_2 hR => ?_)
  obtain ⟨e1_2, e2_2⟩ := hp_2
  subst e1_2
  subst e2_2
  refine X_if_eq 8 20 hO dX13_clearMark_5 rfl rfl (by omega) (fun hc_5 => ?_) (fun hc_5 => ?_)
  ·
    try simp only [bi_0, bi_ne, ne_eq, Classical.not_not] at hc_5
    refine X_iconst 21 hO dX13_clearMark_20 rfl ?_
    exact XM_iret hO hF hR rfl (by first | exact Or.inl rfl | exact Or.inr ⟨rfl, bi_01 _⟩ | exact Or.inr ⟨rfl, by omega⟩) dX13_clearMark_21 (by first | assumption | omega | exact I_rng _) (by first | (exfalso; omega) | (unfold o_clearMark ; (try unfold m_ti); (try unfold m_th); (repeat (first | rw [if_pos (by omega)] | rw [if_neg (by omega)])); exact ⟨rfl, rfl⟩))
  ·
    try simp only [bi_0, bi_ne, ne_eq, Classical.not_not] at hc_5
    refine X_aload_n 9 hO dX13_clearMark_8 rfl rfl ?_
    refine X_bipush 11 hO dX13_clearMark_9 rfl (by decide) ?_
    refine X_iload_n 12 hO dX13_clearMark_11 rfl rfl ?_
    refine X_iconst 13 hO dX13_clearMark_12 rfl ?_
    refine X_iconst 14 hO dX13_clearMark_13 rfl ?_
    refine XM_callVi 17 hO hD hR lX13_375 [_, _, _, _] rfl dX13_clearMark_14 rfl (c_called _ _ _ _ _ _ _ S P M (by unfold CV; omega) (by omega) (by omega) hR0.ti hS hP hM) (by decide) (by simp only [List.map_cons, List.map_nil, rv_cat]; exact Nat.le_of_ble_eq_true rfl) (fun r_14 w_14 hr_14 hp_14 hR => ?_)
    obtain ⟨e1_14, e2_14⟩ := hp_14
    subst e1_14
    subst e2_14
    refine X_goto hO dX13_clearMark_17 (tgt := 21) rfl ?_
    exact XM_iret hO hF hR rfl (by first | exact Or.inl rfl | exact Or.inr ⟨rfl, bi_01 _⟩ | exact Or.inr ⟨rfl, by omega⟩) dX13_clearMark_21 (by first | assumption | omega | exact I_rng _) (by first | (exfalso; omega) | (unfold o_clearMark ; (try unfold m_ti); (try unfold m_th); (repeat (first | rw [if_pos (by omega)] | rw [if_neg (by omega)])); exact ⟨rfl, rfl⟩))
def o_jump (μ : MU) (c : Int) (w : Mm) : Int × Mm := if 0 ≤ c ∧ c ≤ 5 then m_cal μ 12 c 0 2 (m_ti μ (0 ≤ c ∧ c ≤ 5) w) else (0, m_ti μ (0 ≤ c ∧ c ≤ 5) w)
theorem dX13_jump_0 : decode cX13_jump 0 = .ok (.aload_n 0, 1) := by decide +kernel
theorem dX13_jump_1 : decode cX13_jump 1 = .ok (.iload_n 1, 1) := by decide +kernel
theorem dX13_jump_2 : decode cX13_jump 2 = .ok (.invokevirtual 379, 3) := by decide +kernel
theorem dX13_jump_5 : decode cX13_jump 5 = .ok (.ifCond .eq 15, 3) := by decide +kernel
theorem dX13_jump_8 : decode cX13_jump 8 = .ok (.aload_n 0, 1) := by decide +kernel
theorem dX13_jump_9 : decode cX13_jump 9 = .ok (.bipush 12, 2) := by decide +kernel
theorem dX13_jump_11 : decode cX13_jump 11 = .ok (.iload_n 1, 1) := by decide +kernel
theorem dX13_jump_12 : decode cX13_jump 12 = .ok (.iconst 0, 1) := by decide +kernel
theorem dX13_jump_13 : decode cX13_jump 13 = .ok (.iconst 2, 1) := by decide +kernel
theorem dX13_jump_14 : decode cX13_jump 14 = .ok (.invokevirtual 375, 3) := by decide +kernel
theorem dX13_jump_17 : decode cX13_jump 17 = .ok (.goto 4, 3) := by decide +kernel
theorem dX13_jump_20 : decode cX13_jump 20 = .ok (.iconst 0, 1) := by decide +kernel
theorem dX13_jump_21 : decode cX13_jump 21 = .ok (.ireturn, 1) := by decide +kernel
set_option maxRecDepth 4000 in
theorem c_jump (γ : LC) (μ : MU) (w : Mm) (c : Int) (S P M : Int) (hc : IR c) (hR0 : RB μ S P M w) (hS : S ≤ 28900) (hP : P ≤ 500000) (hM : M ≤ 590) : CMi γ μ 7 mX13_jump [.int (I c)] w (fun r w' => r = (o_jump μ c w).1 ∧ w' = (o_jump μ c w).2) := by
  refine CMi_of rfl (by simp [rv_cat, Value.category]) rfl ?_
  rintro κ hO hF rfl hR
  have hD := hF.dp
  show X κ 0 0 w 0 [some (rv μ.1), some (.int (I c))] []
  have hL := hR0.1
  obtain ⟨f1, f2, f3, f4, f5⟩ := hR0.1.f
  obtain ⟨t1, t2, t3, t4, t5, t6, t7⟩ := hR0.2.1.2.2.2.1
  refine X_aload_n 1 hO dX13_jump_0 rfl rfl ?_
  refine X_iload_n 2 hO dX13_jump_1 rfl rfl ?_
  refine XM_callVi 5 hO hD hR lX13_379 [_] rfl dX13_jump_2 rfl (c_isMark _ _ _ _ _ _ _ (by omega) hR0 hS hP hM) (by decide) (by simp only [List.map_cons, List.map_nil, rv_cat]; exact Nat.le_of_ble_eq_true rfl) (fun r_2 w_2 hr_2 hp_2 hR => ?_)
  obtain ⟨e1_2, e2_2⟩ := hp_2
  subst e1_2
  subst e2_2
  refine X_if_eq 8 20 hO dX13_jump_5 rfl rfl (by omega) (fun hc_5 => ?_) (fun hc_5 => ?_)
  ·
    try simp only [bi_0, bi_ne, ne_eq, Classical.not_not] at hc_5
    refine X_iconst 21 hO dX13_jump_20 rfl ?_
    exact XM_iret hO hF hR rfl (by first | exact Or.inl rfl | exact Or.inr ⟨rfl, bi_01 _⟩ | exact Or.inr ⟨rfl, by omega⟩) dX13_jump_21 (by first | assumption | omega | exact I_rng _) (by first | (exfalso; omega) | (unfold o_jump ; (try unfold m_ti); (try unfold m_th); (repeat (first | rw [if_pos (by omega)] | rw [if_neg (by omega)])); exact ⟨rfl, rfl⟩))
  ·
    try simp only [bi_0, bi_ne, ne_eq, Classical.not_not] at hc_5
    refine X_aload_n 9 hO dX13_jump_8 rfl rfl ?_
    refine X_bipush 11 hO dX13_jump_9 rfl (by decide) ?_
    refine X_iload_n 12 hO dX13_jump_11 rfl rfl ?_
    refine X_iconst 13 hO dX13_jump_12 rfl ?_
    refine X_iconst 14 hO dX13_jump_13 rfl ?_
    refine XM_callVi 17 hO hD hR lX13_375 [_, _, _, _] rfl dX13_jump_14 rfl (c_called _ _ _ _ _ _ _ S P M (by unfold CV; omega) (by omega) (by omega) hR0.ti hS hP hM) (by decide) (by simp only [List.map_cons, List.map_nil, rv_cat]; exact Nat.le_of_ble_eq_true rfl) (fun r_14 w_14 hr_14 hp_14 hR => ?_)
    obtain ⟨e1_14, e2_14⟩ := hp_14
    subst e1_14
    subst e2_14
    refine X_goto hO dX13_jump_17 (tgt := 21) rfl ?_
    exact XM_iret hO hF hR rfl (by first | exact Or.inl rfl | exact Or.inr ⟨rfl, bi_01 _⟩ | exact Or.inr ⟨rfl, by omega⟩) dX13_jump_21 (by first | assumption | omega | exact I_rng _) (by first | (exfalso; omega) | (unfold o_jump ; (try unfold m_ti); (try unfold m_th); (repeat (first | rw [if_pos (by omega)] | rw [if_neg (by omega)])); exact ⟨rfl, rfl⟩))
def o_narrow (μ : MU) (c : Int) (w : Mm) : Int × Mm := if 0 ≤ c ∧ c ≤ 5 then m_cal μ 13 c 0 2 (m_ti μ (0 ≤ c ∧ c ≤ 5) w) else (0, m_ti μ (0 ≤ c ∧ c ≤ 5) w)
theorem dX13_narrow_0 : decode cX13_narrow 0 = .ok (.aload_n 0, 1) := by decide +kernel
theorem dX13_narrow_1 : decode cX13_narrow 1 = .ok (.iload_n 1, 1) := by decide +kernel
theorem dX13_narrow_2 : decode cX13_narrow 2 = .ok (.invokevirtual 379, 3) := by decide +kernel
theorem dX13_narrow_5 : decode cX13_narrow 5 = .ok (.ifCond .eq 15, 3) := by decide +kernel
theorem dX13_narrow_8 : decode cX13_narrow 8 = .ok (.aload_n 0, 1) := by decide +kernel
theorem dX13_narrow_9 : decode cX13_narrow 9 = .ok (.bipush 13, 2) := by decide +kernel
theorem dX13_narrow_11 : decode cX13_narrow 11 = .ok (.iload_n 1, 1) := by decide +kernel
theorem dX13_narrow_12 : decode cX13_narrow 12 = .ok (.iconst 0, 1) := by decide +kernel
theorem dX13_narrow_13 : decode cX13_narrow 13 = .ok (.iconst 2, 1) := by decide +kernel
theorem dX13_narrow_14 : decode cX13_narrow 14 = .ok (.invokevirtual 375, 3) := by decide +kernel
theorem dX13_narrow_17 : decode cX13_narrow 17 = .ok (.goto 4, 3) := by decide +kernel
theorem dX13_narrow_20 : decode cX13_narrow 20 = .ok (.iconst 0, 1) := by decide +kernel
theorem dX13_narrow_21 : decode cX13_narrow 21 = .ok (.ireturn, 1) := by decide +kernel
set_option maxRecDepth 4000 in
theorem c_narrow (γ : LC) (μ : MU) (w : Mm) (c : Int) (S P M : Int) (hc : IR c) (hR0 : RB μ S P M w) (hS : S ≤ 28900) (hP : P ≤ 500000) (hM : M ≤ 590) : CMi γ μ 7 mX13_narrow [.int (I c)] w (fun r w' => r = (o_narrow μ c w).1 ∧ w' = (o_narrow μ c w).2) := by
  refine CMi_of rfl (by simp [rv_cat, Value.category]) rfl ?_
  rintro κ hO hF rfl hR
  have hD := hF.dp
  show X κ 0 0 w 0 [some (rv μ.1), some (.int (I c))] []
  have hL := hR0.1
  obtain ⟨f1, f2, f3, f4, f5⟩ := hR0.1.f
  obtain ⟨t1, t2, t3, t4, t5, t6, t7⟩ := hR0.2.1.2.2.2.1
  refine X_aload_n 1 hO dX13_narrow_0 rfl rfl ?_
  refine X_iload_n 2 hO dX13_narrow_1 rfl rfl ?_
  refine XM_callVi 5 hO hD hR lX13_379 [_] rfl dX13_narrow_2 rfl (c_isMark _ _ _ _ _ _ _ (by omega) hR0 hS hP hM) (by decide) (by simp only [List.map_cons, List.map_nil, rv_cat]; exact Nat.le_of_ble_eq_true rfl) (fun r_2 w_2 hr_2 hp_2 hR => ?_)
  obtain ⟨e1_2, e2_2⟩ := hp_2
  subst e1_2
  subst e2_2
  refine X_if_eq 8 20 hO dX13_narrow_5 rfl rfl (by omega) (fun hc_5 => ?_) (fun hc_5 => ?_)
  ·
    try simp only [bi_0, bi_ne, ne_eq, Classical.not_not] at hc_5
    refine X_iconst 21 hO dX13_narrow_20 rfl ?_
    exact XM_iret hO hF hR rfl (by first | exact Or.inl rfl | exact Or.inr ⟨rfl, bi_01 _⟩ | exact Or.inr ⟨rfl, by omega⟩) dX13_narrow_21 (by first | assumption | omega | exact I_rng _) (by first | (exfalso; omega) | (unfold o_narrow ; (try unfold m_ti); (try unfold m_th); (repeat (first | rw [if_pos (by omega)] | rw [if_neg (by omega)])); exact ⟨rfl, rfl⟩))
  ·
    try simp only [bi_0, bi_ne, ne_eq, Classical.not_not] at hc_5
    refine X_aload_n 9 hO dX13_narrow_8 rfl rfl ?_
    refine X_bipush 11 hO dX13_narrow_9 rfl (by decide) ?_
    refine X_iload_n 12 hO dX13_narrow_11 rfl rfl ?_
    refine X_iconst 13 hO dX13_narrow_12 rfl ?_
    refine X_iconst 14 hO dX13_narrow_13 rfl ?_
    refine XM_callVi 17 hO hD hR lX13_375 [_, _, _, _] rfl dX13_narrow_14 rfl (c_called _ _ _ _ _ _ _ S P M (by unfold CV; omega) (by omega) (by omega) hR0.ti hS hP hM) (by decide) (by simp only [List.map_cons, List.map_nil, rv_cat]; exact Nat.le_of_ble_eq_true rfl) (fun r_14 w_14 hr_14 hp_14 hR => ?_)
    obtain ⟨e1_14, e2_14⟩ := hp_14
    subst e1_14
    subst e2_14
    refine X_goto hO dX13_narrow_17 (tgt := 21) rfl ?_
    exact XM_iret hO hF hR rfl (by first | exact Or.inl rfl | exact Or.inr ⟨rfl, bi_01 _⟩ | exact Or.inr ⟨rfl, by omega⟩) dX13_narrow_21 (by first | assumption | omega | exact I_rng _) (by first | (exfalso; omega) | (unfold o_narrow ; (try unfold m_ti); (try unfold m_th); (repeat (first | rw [if_pos (by omega)] | rw [if_neg (by omega)])); exact ⟨rfl, rfl⟩))
def o_widen (μ : MU)  (w : Mm) : Int × Mm := m_cal μ 14 0 0 1 w
theorem dX13_widen_0 : decode cX13_widen 0 = .ok (.aload_n 0, 1) := by decide +kernel
theorem dX13_widen_1 : decode cX13_widen 1 = .ok (.bipush 14, 2) := by decide +kernel
theorem dX13_widen_3 : decode cX13_widen 3 = .ok (.iconst 0, 1) := by decide +kernel
theorem dX13_widen_4 : decode cX13_widen 4 = .ok (.iconst 0, 1) := by decide +kernel
theorem dX13_widen_5 : decode cX13_widen 5 = .ok (.iconst 1, 1) := by decide +kernel
theorem dX13_widen_6 : decode cX13_widen 6 = .ok (.invokevirtual 375, 3) := by decide +kernel
theorem dX13_widen_9 : decode cX13_widen 9 = .ok (.ireturn, 1) := by decide +kernel
set_option maxRecDepth 4000 in
theorem c_widen (γ : LC) (μ : MU) (w : Mm)  (S P M : Int)  (hR0 : RB μ S P M w) (hS : S ≤ 28900) (hP : P ≤ 500000) (hM : M ≤ 590) : CMi γ μ 7 mX13_widen [] w (fun r w' => r = (o_widen μ  w).1 ∧ w' = (o_widen μ  w).2) := by
  refine CMi_of rfl (by simp [rv_cat, Value.category]) rfl ?_
  rintro κ hO hF rfl hR
  have hD := hF.dp
  show X κ 0 0 w 0 [some (rv μ.1)] []
  have hL := hR0.1
  obtain ⟨f1, f2, f3, f4, f5⟩ := hR0.1.f
  obtain ⟨t1, t2, t3, t4, t5, t6, t7⟩ := hR0.2.1.2.2.2.1
  refine X_aload_n 1 hO dX13_widen_0 rfl rfl ?_
  refine X_bipush 3 hO dX13_widen_1 rfl (by decide) ?_
  refine X_iconst 4 hO dX13_widen_3 rfl ?_
  refine X_iconst 5 hO dX13_widen_4 rfl ?_
  refine X_iconst 6 hO dX13_widen_5 rfl ?_
  refine XM_callVi 9 hO hD hR lX13_375 [_, _, _, _] rfl dX13_widen_6 rfl (c_called _ _ _ _ _ _ _ S P M (by unfold CV; omega) (by omega) (by omega) hR0 hS hP hM) (by decide) (by simp only [List.map_cons, List.map_nil, rv_cat]; exact Nat.le_of_ble_eq_true rfl) (fun r_6 w_6 hr_6 hp_6 hR => ?_)
  obtain ⟨e1_6, e2_6⟩ := hp_6
  subst e1_6
  subst e2_6
  exact XM_iret hO hF hR rfl (by first | exact Or.inl rfl | exact Or.inr ⟨rfl, bi_01 _⟩ | exact Or.inr ⟨rfl, by omega⟩) dX13_widen_9 (by first | assumption | omega | exact I_rng _) (by first | (exfalso; omega) | (unfold o_widen ; (try unfold m_ti); (try unfold m_th); (repeat (first | rw [if_pos (by omega)] | rw [if_neg (by omega)])); exact ⟨rfl, rfl⟩))
def o_checkpoint (μ : MU)  (w : Mm) : Mm := if m_full μ w then m_th μ 1 w else up (m_rec μ 16 0 0 (m_th μ 0 w)) 129 μ.1 0 (-1)
theorem dX13_checkpoint_0 : decode cX13_checkpoint 0 = .ok (.aload_n 0, 1) := by decide +kernel
theorem dX13_checkpoint_1 : decode cX13_checkpoint 1 = .ok (.aload_n 0, 1) := by decide +kernel
theorem dX13_checkpoint_2 : decode cX13_checkpoint 2 = .ok (.invokevirtual 346, 3) := by decide +kernel
theorem dX13_checkpoint_5 : decode cX13_checkpoint 5 = .ok (.ifCond .eq 7, 3) := by decide +kernel
theorem dX13_checkpoint_8 : decode cX13_checkpoint 8 = .ok (.iconst 1, 1) := by decide +kernel
theorem dX13_checkpoint_9 : decode cX13_checkpoint 9 = .ok (.goto 4, 3) := by decide +kernel
theorem dX13_checkpoint_12 : decode cX13_checkpoint 12 = .ok (.iconst 0, 1) := by decide +kernel
theorem dX13_checkpoint_13 : decode cX13_checkpoint 13 = .ok (.putfield 171, 3) := by decide +kernel
theorem dX13_checkpoint_16 : decode cX13_checkpoint 16 = .ok (.aload_n 0, 1) := by decide +kernel
theorem dX13_checkpoint_17 : decode cX13_checkpoint 17 = .ok (.getfield 171, 3) := by decide +kernel
theorem dX13_checkpoint_20 : decode cX13_checkpoint 20 = .ok (.ifCond .ne 16, 3) := by decide +kernel
theorem dX13_checkpoint_23 : decode cX13_checkpoint 23 = .ok (.aload_n 0, 1) := by decide +kernel
theorem dX13_checkpoint_24 : decode cX13_checkpoint 24 = .ok (.bipush 16, 2) := by decide +kernel
theorem dX13_checkpoint_26 : decode cX13_checkpoint 26 = .ok (.iconst 0, 1) := by decide +kernel
theorem dX13_checkpoint_27 : decode cX13_checkpoint 27 = .ok (.iconst 0, 1) := by decide +kernel
theorem dX13_checkpoint_28 : decode cX13_checkpoint 28 = .ok (.invokevirtual 354, 3) := by decide +kernel
theorem dX13_checkpoint_31 : decode cX13_checkpoint 31 = .ok (.aload_n 0, 1) := by decide +kernel
theorem dX13_checkpoint_32 : decode cX13_checkpoint 32 = .ok (.iconst (-1), 1) := by decide +kernel
theorem dX13_checkpoint_33 : decode cX13_checkpoint 33 = .ok (.putfield 105, 3) := by decide +kernel
theorem dX13_checkpoint_36 : decode cX13_checkpoint 36 = .ok (.return_, 1) := by decide +kernel
set_option maxRecDepth 4000 in
theorem c_checkpoint (γ : LC) (μ : MU) (w : Mm)  (S P M : Int)  (hR0 : RB μ S P M w) (hS : S ≤ 28900) (hP : P ≤ 500000) (hM : M ≤ 590) : CMv γ μ 1 mX13_checkpoint [] w (fun w' => w' = o_checkpoint μ  w) := by
  refine CMv_of rfl (by simp [rv_cat, Value.category]) rfl ?_
  rintro κ hO hF rfl hR
  have hD := hF.dp
  show X κ 0 0 w 0 [some (rv μ.1)] []
  have hcn := (hR0.2.1.2.2.2.2.2.2 4 (by decide) (by decide)).1
  have hL := hR0.1
  obtain ⟨f1, f2, f3, f4, f5⟩ := hR0.1.f
  obtain ⟨t1, t2, t3, t4, t5, t6, t7⟩ := hR0.2.1.2.2.2.1
  refine X_aload_n 1 hO dX13_checkpoint_0 rfl rfl ?_
  refine X_aload_n 2 hO dX13_checkpoint_1 rfl rfl ?_
  refine XM_callVi 5 hO hD hR lX13_346 [] rfl dX13_checkpoint_2 rfl (c_isFull _ _ _) (by decide) (by simp only [List.map_cons, List.map_nil, rv_cat]; exact Nat.le_of_ble_eq_true rfl) (fun r_2 w_2 hr_2 hp_2 hR => ?_)
  obtain ⟨e1_2, e2_2⟩ := hp_2
  subst e1_2
  subst e2_2
  refine X_if_eq 8 12 hO dX13_checkpoint_5 rfl rfl (by omega) (fun hc_5 => ?_) (fun hc_5 => ?_)
  ·
    try simp only [bi_0, bi_ne, ne_eq, Classical.not_not] at hc_5
    refine X_iconst 13 hO dX13_checkpoint_12 rfl ?_
    refine pa_171 16 hO hR dX13_checkpoint_13 rfl (by omega) (fun hR => ?_)
    refine X_aload_n 17 hO dX13_checkpoint_16 rfl rfl ?_
    refine ga_171 20 hO hR dX13_checkpoint_17 rfl (fun hi_17 => ?_)
    try simp (disch := decide) only [up_k, up_s, step_at, pool_at, poolN_at, opens_at, closes_at, fl_at, del_at, ins_at, rep_at, psh_at, trn_at, tak_at, pEn_at, cpQ_at, cpP_at, cpT_at, ti_at, th_at] at hi_17 ⊢
    refine X_if_ne 23 36 hO dX13_checkpoint_20 rfl rfl (by omega) (fun hc_20 => ?_) (fun hc_20 => ?_)
    ·
      exact XM_vret hO hF hR rfl dX13_checkpoint_36 (by first | (exfalso; omega) | (unfold o_checkpoint ; (try unfold m_ti); (try unfold m_th); (repeat (first | rfl | rw [if_pos (by omega)] | rw [if_neg (by omega)]))))
    ·
      refine X_aload_n 24 hO dX13_checkpoint_23 rfl rfl ?_
      refine X_bipush 26 hO dX13_checkpoint_24 rfl (by decide) ?_
      refine X_iconst 27 hO dX13_checkpoint_26 rfl ?_
      refine X_iconst 28 hO dX13_checkpoint_27 rfl ?_
      refine XM_callVv 31 hO hD hR lX13_354 [_, _, _] rfl dX13_checkpoint_28 rfl (c_records _ _ _ _ _ _ (by rw [up_k _ (by decide), up_k _ (by decide)]; omega) (by omega) (by omega) (by omega)) (by decide) (by simp only [List.map_cons, List.map_nil, rv_cat]; exact Nat.le_of_ble_eq_true rfl) (fun w_28 hp_28 hR => ?_)
      subst hp_28
      refine X_aload_n 32 hO dX13_checkpoint_31 rfl rfl ?_
      refine X_iconst 33 hO dX13_checkpoint_32 rfl ?_
      refine pa_105 36 hO hR dX13_checkpoint_33 rfl (by omega) (fun hR => ?_)
      exact XM_vret hO hF hR rfl dX13_checkpoint_36 (by first | (exfalso; omega) | (unfold o_checkpoint ; (try unfold m_ti); (try unfold m_th); (repeat (first | rfl | rw [if_pos (by omega)] | rw [if_neg (by omega)]))))
  ·
    try simp only [bi_0, bi_ne, ne_eq, Classical.not_not] at hc_5
    refine X_iconst 9 hO dX13_checkpoint_8 rfl ?_
    refine X_goto hO dX13_checkpoint_9 (tgt := 13) rfl ?_
    refine pa_171 16 hO hR dX13_checkpoint_13 rfl (by omega) (fun hR => ?_)
    refine X_aload_n 17 hO dX13_checkpoint_16 rfl rfl ?_
    refine ga_171 20 hO hR dX13_checkpoint_17 rfl (fun hi_17 => ?_)
    try simp (disch := decide) only [up_k, up_s, step_at, pool_at, poolN_at, opens_at, closes_at, fl_at, del_at, ins_at, rep_at, psh_at, trn_at, tak_at, pEn_at, cpQ_at, cpP_at, cpT_at, ti_at, th_at] at hi_17 ⊢
    refine X_if_ne 23 36 hO dX13_checkpoint_20 rfl rfl (by omega) (fun hc_20 => ?_) (fun hc_20 => ?_)
    ·
      exact XM_vret hO hF hR rfl dX13_checkpoint_36 (by first | (exfalso; omega) | (unfold o_checkpoint ; (try unfold m_ti); (try unfold m_th); (repeat (first | rfl | rw [if_pos (by omega)] | rw [if_neg (by omega)]))))
    ·
      refine X_aload_n 24 hO dX13_checkpoint_23 rfl rfl ?_
      refine X_bipush 26 hO dX13_checkpoint_24 rfl (by decide) ?_
      refine X_iconst 27 hO dX13_checkpoint_26 rfl ?_
      refine X_iconst 28 hO dX13_checkpoint_27 rfl ?_
      refine XM_callVv 31 hO hD hR lX13_354 [_, _, _] rfl dX13_checkpoint_28 rfl (c_records _ _ _ _ _ _ (by rw [up_k _ (by decide), up_k _ (by decide)]; omega) (by omega) (by omega) (by omega)) (by decide) (by simp only [List.map_cons, List.map_nil, rv_cat]; exact Nat.le_of_ble_eq_true rfl) (fun w_28 hp_28 hR => ?_)
      subst hp_28
      refine X_aload_n 32 hO dX13_checkpoint_31 rfl rfl ?_
      refine X_iconst 33 hO dX13_checkpoint_32 rfl ?_
      refine pa_105 36 hO hR dX13_checkpoint_33 rfl (by omega) (fun hR => ?_)
      exact XM_vret hO hF hR rfl dX13_checkpoint_36 (by first | (exfalso; omega) | (unfold o_checkpoint ; (try unfold m_ti); (try unfold m_th); (repeat (first | rfl | rw [if_pos (by omega)] | rw [if_neg (by omega)]))))
def o_record (μ : MU) (c : Int) (w : Mm) : Mm := if 0 ≤ c ∧ c ≤ 3 then (if w 133 μ.1 0 ≠ -1 then m_th μ 2 w else up (up (up (m_th μ 0 w) 133 μ.1 0 c) 236 0 4 0) 129 μ.1 0 (-1)) else m_th μ 1 w
theorem dX13_record_0 : decode cX13_record 0 = .ok (.aload_n 0, 1) := by decide +kernel
theorem dX13_record_1 : decode cX13_record 1 = .ok (.iload_n 1, 1) := by decide +kernel
theorem dX13_record_2 : decode cX13_record 2 = .ok (.iconst 0, 1) := by decide +kernel
theorem dX13_record_3 : decode cX13_record 3 = .ok (.iconst 3, 1) := by decide +kernel
theorem dX13_record_4 : decode cX13_record 4 = .ok (.invokestatic 174, 3) := by decide +kernel
theorem dX13_record_7 : decode cX13_record 7 = .ok (.ifCond .ne 7, 3) := by decide +kernel
theorem dX13_record_10 : decode cX13_record 10 = .ok (.iconst 1, 1) := by decide +kernel
theorem dX13_record_11 : decode cX13_record 11 = .ok (.goto 16, 3) := by decide +kernel
theorem dX13_record_14 : decode cX13_record 14 = .ok (.aload_n 0, 1) := by decide +kernel
theorem dX13_record_15 : decode cX13_record 15 = .ok (.getfield 135, 3) := by decide +kernel
theorem dX13_record_18 : decode cX13_record 18 = .ok (.iconst (-1), 1) := by decide +kernel
theorem dX13_record_19 : decode cX13_record 19 = .ok (.if_icmp .eq 7, 3) := by decide +kernel
theorem dX13_record_22 : decode cX13_record 22 = .ok (.iconst 2, 1) := by decide +kernel
theorem dX13_record_23 : decode cX13_record 23 = .ok (.goto 4, 3) := by decide +kernel
theorem dX13_record_26 : decode cX13_record 26 = .ok (.iconst 0, 1) := by decide +kernel
theorem dX13_record_27 : decode cX13_record 27 = .ok (.putfield 171, 3) := by decide +kernel
theorem dX13_record_30 : decode cX13_record 30 = .ok (.aload_n 0, 1) := by decide +kernel
theorem dX13_record_31 : decode cX13_record 31 = .ok (.getfield 171, 3) := by decide +kernel
theorem dX13_record_34 : decode cX13_record 34 = .ok (.ifCond .ne 20, 3) := by decide +kernel
theorem dX13_record_37 : decode cX13_record 37 = .ok (.aload_n 0, 1) := by decide +kernel
theorem dX13_record_38 : decode cX13_record 38 = .ok (.iload_n 1, 1) := by decide +kernel
theorem dX13_record_39 : decode cX13_record 39 = .ok (.putfield 135, 3) := by decide +kernel
theorem dX13_record_42 : decode cX13_record 42 = .ok (.aload_n 0, 1) := by decide +kernel
theorem dX13_record_43 : decode cX13_record 43 = .ok (.getfield 132, 3) := by decide +kernel
theorem dX13_record_46 : decode cX13_record 46 = .ok (.iconst 4, 1) := by decide +kernel
theorem dX13_record_47 : decode cX13_record 47 = .ok (.iconst 0, 1) := by decide +kernel
theorem dX13_record_48 : decode cX13_record 48 = .ok (.iastore, 1) := by decide +kernel
theorem dX13_record_49 : decode cX13_record 49 = .ok (.aload_n 0, 1) := by decide +kernel
theorem dX13_record_50 : decode cX13_record 50 = .ok (.iconst (-1), 1) := by decide +kernel
theorem dX13_record_51 : decode cX13_record 51 = .ok (.putfield 105, 3) := by decide +kernel
theorem dX13_record_54 : decode cX13_record 54 = .ok (.return_, 1) := by decide +kernel
set_option maxRecDepth 4000 in
theorem c_record (γ : LC) (μ : MU) (w : Mm) (c : Int) (S P M : Int) (hc : IR c) (hR0 : RB μ S P M w) (hS : S ≤ 28900) (hP : P ≤ 500000) (hM : M ≤ 590) : CMv γ μ 1 mX13_record [.int (I c)] w (fun w' => w' = o_record μ c w) := by
  refine CMv_of rfl (by simp [rv_cat, Value.category]) rfl ?_
  rintro κ hO hF rfl hR
  have hD := hF.dp
  show X κ 0 0 w 0 [some (rv μ.1), some (.int (I c))] []
  have hL := hR0.1
  obtain ⟨f1, f2, f3, f4, f5⟩ := hR0.1.f
  obtain ⟨t1, t2, t3, t4, t5, t6, t7⟩ := hR0.2.1.2.2.2.1
  refine X_aload_n 1 hO dX13_record_0 rfl rfl ?_
  refine X_iload_n 2 hO dX13_record_1 rfl rfl ?_
  refine X_iconst 3 hO dX13_record_2 rfl ?_
  refine X_iconst 4 hO dX13_record_3 rfl ?_
  refine XM_callSi 7 hO hD lX13_174 [_, _, _] rfl dX13_record_4 rfl (c_in _ _ _ _ _ (by omega) (by omega) (by omega)) (by decide) (by simp only [List.map_cons, List.map_nil, rv_cat]; exact Nat.le_of_ble_eq_true rfl) (fun r_4 hr_4 hp_4 => ?_)
  subst hp_4
  refine X_if_ne 10 14 hO dX13_record_7 rfl rfl (by omega) (fun hc_7 => ?_) (fun hc_7 => ?_)
  ·
    try simp only [bi_0, bi_ne, ne_eq, Classical.not_not] at hc_7
    refine X_aload_n 15 hO dX13_record_14 rfl rfl ?_
    refine ga_135 18 hO hR dX13_record_15 rfl (fun hi_15 => ?_)
    try simp (disch := decide) only [up_k, up_s, step_at, pool_at, poolN_at, opens_at, closes_at, fl_at, del_at, ins_at, rep_at, psh_at, trn_at, tak_at, pEn_at, cpQ_at, cpP_at, cpT_at, ti_at, th_at] at hi_15 ⊢
    refine X_iconst 19 hO dX13_record_18 rfl ?_
    refine X_icmp_eq 22 26 hO dX13_record_19 rfl rfl (by omega) (by omega) (fun hc_19 => ?_) (fun hc_19 => ?_)
    ·
      refine X_iconst 27 hO dX13_record_26 rfl ?_
      refine pa_171 30 hO hR dX13_record_27 rfl (by omega) (fun hR => ?_)
      refine X_aload_n 31 hO dX13_record_30 rfl rfl ?_
      refine ga_171 34 hO hR dX13_record_31 rfl (fun hi_31 => ?_)
      try simp (disch := decide) only [up_k, up_s, step_at, pool_at, poolN_at, opens_at, closes_at, fl_at, del_at, ins_at, rep_at, psh_at, trn_at, tak_at, pEn_at, cpQ_at, cpP_at, cpT_at, ti_at, th_at] at hi_31 ⊢
      refine X_if_ne 37 54 hO dX13_record_34 rfl rfl (by omega) (fun hc_34 => ?_) (fun hc_34 => ?_)
      ·
        exact XM_vret hO hF hR rfl dX13_record_54 (by first | (exfalso; omega) | (unfold o_record ; (try unfold m_ti); (try unfold m_th); (repeat (first | rfl | rw [if_pos (by omega)] | rw [if_neg (by omega)]))))
      ·
        refine X_aload_n 38 hO dX13_record_37 rfl rfl ?_
        refine X_iload_n 39 hO dX13_record_38 rfl rfl ?_
        refine pa_135 42 hO hR dX13_record_39 rfl (by omega) (fun hR => ?_)
        refine X_aload_n 43 hO dX13_record_42 rfl rfl ?_
        refine ga_132 46 hO hR dX13_record_43 rfl ?_
        refine X_iconst 47 hO dX13_record_46 rfl ?_
        refine X_iconst 48 hO dX13_record_47 rfl ?_
        refine ma_st (L := 5) (c := 236) 49 hO hR rfl rfl rfl dX13_record_48 rfl (by omega) (by omega) (by omega) (fun hR => ?_)
        refine X_aload_n 50 hO dX13_record_49 rfl rfl ?_
        refine X_iconst 51 hO dX13_record_50 rfl ?_
        refine pa_105 54 hO hR dX13_record_51 rfl (by omega) (fun hR => ?_)
        exact XM_vret hO hF hR rfl dX13_record_54 (by first | (exfalso; omega) | (unfold o_record ; (try unfold m_ti); (try unfold m_th); (repeat (first | rfl | rw [if_pos (by omega)] | rw [if_neg (by omega)]))))
    ·
      refine X_iconst 23 hO dX13_record_22 rfl ?_
      refine X_goto hO dX13_record_23 (tgt := 27) rfl ?_
      refine pa_171 30 hO hR dX13_record_27 rfl (by omega) (fun hR => ?_)
      refine X_aload_n 31 hO dX13_record_30 rfl rfl ?_
      refine ga_171 34 hO hR dX13_record_31 rfl (fun hi_31 => ?_)
      try simp (disch := decide) only [up_k, up_s, step_at, pool_at, poolN_at, opens_at, closes_at, fl_at, del_at, ins_at, rep_at, psh_at, trn_at, tak_at, pEn_at, cpQ_at, cpP_at, cpT_at, ti_at, th_at] at hi_31 ⊢
      refine X_if_ne 37 54 hO dX13_record_34 rfl rfl (by omega) (fun hc_34 => ?_) (fun hc_34 => ?_)
      ·
        exact XM_vret hO hF hR rfl dX13_record_54 (by first | (exfalso; omega) | (unfold o_record ; (try unfold m_ti); (try unfold m_th); (repeat (first | rfl | rw [if_pos (by omega)] | rw [if_neg (by omega)]))))
      ·
        refine X_aload_n 38 hO dX13_record_37 rfl rfl ?_
        refine X_iload_n 39 hO dX13_record_38 rfl rfl ?_
        refine pa_135 42 hO hR dX13_record_39 rfl (by omega) (fun hR => ?_)
        refine X_aload_n 43 hO dX13_record_42 rfl rfl ?_
        refine ga_132 46 hO hR dX13_record_43 rfl ?_
        refine X_iconst 47 hO dX13_record_46 rfl ?_
        refine X_iconst 48 hO dX13_record_47 rfl ?_
        refine ma_st (L := 5) (c := 236) 49 hO hR rfl rfl rfl dX13_record_48 rfl (by omega) (by omega) (by omega) (fun hR => ?_)
        refine X_aload_n 50 hO dX13_record_49 rfl rfl ?_
        refine X_iconst 51 hO dX13_record_50 rfl ?_
        refine pa_105 54 hO hR dX13_record_51 rfl (by omega) (fun hR => ?_)
        exact XM_vret hO hF hR rfl dX13_record_54 (by first | (exfalso; omega) | (unfold o_record ; (try unfold m_ti); (try unfold m_th); (repeat (first | rfl | rw [if_pos (by omega)] | rw [if_neg (by omega)]))))
  ·
    try simp only [bi_0, bi_ne, ne_eq, Classical.not_not] at hc_7
    refine X_iconst 11 hO dX13_record_10 rfl ?_
    refine X_goto hO dX13_record_11 (tgt := 27) rfl ?_
    refine pa_171 30 hO hR dX13_record_27 rfl (by omega) (fun hR => ?_)
    refine X_aload_n 31 hO dX13_record_30 rfl rfl ?_
    refine ga_171 34 hO hR dX13_record_31 rfl (fun hi_31 => ?_)
    try simp (disch := decide) only [up_k, up_s, step_at, pool_at, poolN_at, opens_at, closes_at, fl_at, del_at, ins_at, rep_at, psh_at, trn_at, tak_at, pEn_at, cpQ_at, cpP_at, cpT_at, ti_at, th_at] at hi_31 ⊢
    refine X_if_ne 37 54 hO dX13_record_34 rfl rfl (by omega) (fun hc_34 => ?_) (fun hc_34 => ?_)
    ·
      exact XM_vret hO hF hR rfl dX13_record_54 (by first | (exfalso; omega) | (unfold o_record ; (try unfold m_ti); (try unfold m_th); (repeat (first | rfl | rw [if_pos (by omega)] | rw [if_neg (by omega)]))))
    ·
      refine X_aload_n 38 hO dX13_record_37 rfl rfl ?_
      refine X_iload_n 39 hO dX13_record_38 rfl rfl ?_
      refine pa_135 42 hO hR dX13_record_39 rfl (by omega) (fun hR => ?_)
      refine X_aload_n 43 hO dX13_record_42 rfl rfl ?_
      refine ga_132 46 hO hR dX13_record_43 rfl ?_
      refine X_iconst 47 hO dX13_record_46 rfl ?_
      refine X_iconst 48 hO dX13_record_47 rfl ?_
      refine ma_st (L := 5) (c := 236) 49 hO hR rfl rfl rfl dX13_record_48 rfl (by omega) (by omega) (by omega) (fun hR => ?_)
      refine X_aload_n 50 hO dX13_record_49 rfl rfl ?_
      refine X_iconst 51 hO dX13_record_50 rfl ?_
      refine pa_105 54 hO hR dX13_record_51 rfl (by omega) (fun hR => ?_)
      exact XM_vret hO hF hR rfl dX13_record_54 (by first | (exfalso; omega) | (unfold o_record ; (try unfold m_ti); (try unfold m_th); (repeat (first | rfl | rw [if_pos (by omega)] | rw [if_neg (by omega)]))))
def o_open (μ : MU)  (w : Mm) : Mm := up (up (m_th μ (w 132 μ.1 0) w) 132 μ.1 0 1) 129 μ.1 0 (if w 132 μ.1 0 = 0 then -1 else w 129 μ.1 0)
theorem dX13_open_0 : decode cX13_open 0 = .ok (.aload_n 0, 1) := by decide +kernel
theorem dX13_open_1 : decode cX13_open 1 = .ok (.aload_n 0, 1) := by decide +kernel
theorem dX13_open_2 : decode cX13_open 2 = .ok (.getfield 280, 3) := by decide +kernel
theorem dX13_open_5 : decode cX13_open 5 = .ok (.putfield 171, 3) := by decide +kernel
theorem dX13_open_8 : decode cX13_open 8 = .ok (.aload_n 0, 1) := by decide +kernel
theorem dX13_open_9 : decode cX13_open 9 = .ok (.iconst 1, 1) := by decide +kernel
theorem dX13_open_10 : decode cX13_open 10 = .ok (.putfield 280, 3) := by decide +kernel
theorem dX13_open_13 : decode cX13_open 13 = .ok (.aload_n 0, 1) := by decide +kernel
theorem dX13_open_14 : decode cX13_open 14 = .ok (.aload_n 0, 1) := by decide +kernel
theorem dX13_open_15 : decode cX13_open 15 = .ok (.getfield 171, 3) := by decide +kernel
theorem dX13_open_18 : decode cX13_open 18 = .ok (.ifCond .ne 7, 3) := by decide +kernel
theorem dX13_open_21 : decode cX13_open 21 = .ok (.iconst (-1), 1) := by decide +kernel
theorem dX13_open_22 : decode cX13_open 22 = .ok (.goto 7, 3) := by decide +kernel
theorem dX13_open_25 : decode cX13_open 25 = .ok (.aload_n 0, 1) := by decide +kernel
theorem dX13_open_26 : decode cX13_open 26 = .ok (.getfield 105, 3) := by decide +kernel
theorem dX13_open_29 : decode cX13_open 29 = .ok (.putfield 105, 3) := by decide +kernel
theorem dX13_open_32 : decode cX13_open 32 = .ok (.return_, 1) := by decide +kernel
set_option maxRecDepth 4000 in
theorem c_open (γ : LC) (μ : MU) (w : Mm)  (S P M : Int)  (hR0 : RB μ S P M w) (hS : S ≤ 28900) (hP : P ≤ 500000) (hM : M ≤ 590) : CMv γ μ 0 mX13_open [] w (fun w' => w' = o_open μ  w) := by
  refine CMv_of rfl (by simp [rv_cat, Value.category]) rfl ?_
  rintro κ hO hF rfl hR
  have hD := hF.dp
  show X κ 0 0 w 0 [some (rv μ.1)] []
  have hz := hR0.2.2.1
  unfold bZ at hz
  have hL := hR0.1
  obtain ⟨f1, f2, f3, f4, f5⟩ := hR0.1.f
  obtain ⟨t1, t2, t3, t4, t5, t6, t7⟩ := hR0.2.1.2.2.2.1
  refine X_aload_n 1 hO dX13_open_0 rfl rfl ?_
  refine X_aload_n 2 hO dX13_open_1 rfl rfl ?_
  refine ga_280 5 hO hR dX13_open_2 rfl (fun hi_2 => ?_)
  try simp (disch := decide) only [up_k, up_s, step_at, pool_at, poolN_at, opens_at, closes_at, fl_at, del_at, ins_at, rep_at, psh_at, trn_at, tak_at, pEn_at, cpQ_at, cpP_at, cpT_at, ti_at, th_at] at hi_2 ⊢
  refine pa_171 8 hO hR dX13_open_5 rfl (by omega) (fun hR => ?_)
  refine X_aload_n 9 hO dX13_open_8 rfl rfl ?_
  refine X_iconst 10 hO dX13_open_9 rfl ?_
  refine pa_280 13 hO hR dX13_open_10 rfl (by omega) (fun hR => ?_)
  refine X_aload_n 14 hO dX13_open_13 rfl rfl ?_
  refine X_aload_n 15 hO dX13_open_14 rfl rfl ?_
  refine ga_171 18 hO hR dX13_open_15 rfl (fun hi_15 => ?_)
  try simp (disch := decide) only [up_k, up_s, step_at, pool_at, poolN_at, opens_at, closes_at, fl_at, del_at, ins_at, rep_at, psh_at, trn_at, tak_at, pEn_at, cpQ_at, cpP_at, cpT_at, ti_at, th_at] at hi_15 ⊢
  refine X_if_ne 21 25 hO dX13_open_18 rfl rfl (by omega) (fun hc_18 => ?_) (fun hc_18 => ?_)
  ·
    refine X_aload_n 26 hO dX13_open_25 rfl rfl ?_
    refine ga_105 29 hO hR dX13_open_26 rfl (fun hi_26 => ?_)
    try simp (disch := decide) only [up_k, up_s, step_at, pool_at, poolN_at, opens_at, closes_at, fl_at, del_at, ins_at, rep_at, psh_at, trn_at, tak_at, pEn_at, cpQ_at, cpP_at, cpT_at, ti_at, th_at] at hi_26 ⊢
    refine pa_105 32 hO hR dX13_open_29 rfl (by omega) (fun hR => ?_)
    exact XM_vret hO hF hR rfl dX13_open_32 (by first | (exfalso; omega) | (unfold o_open ; (try unfold m_ti); (try unfold m_th); (repeat (first | rfl | rw [if_pos (by omega)] | rw [if_neg (by omega)]))))
  ·
    refine X_iconst 22 hO dX13_open_21 rfl ?_
    refine X_goto hO dX13_open_22 (tgt := 29) rfl ?_
    refine pa_105 32 hO hR dX13_open_29 rfl (by omega) (fun hR => ?_)
    exact XM_vret hO hF hR rfl dX13_open_32 (by first | (exfalso; omega) | (unfold o_open ; (try unfold m_ti); (try unfold m_th); (repeat (first | rfl | rw [if_pos (by omega)] | rw [if_neg (by omega)]))))
def o_pass (μ : MU) (c : Int) (w : Mm) : Mm := if 1 ≤ c ∧ c ≤ 100 then up (m_th μ 0 w) 130 μ.1 0 (if w 130 μ.1 0 < 1000 then w 130 μ.1 0 + c else w 130 μ.1 0) else up (m_th μ 1 w) 130 μ.1 0 (w 130 μ.1 0)
theorem dX13_pass_0 : decode cX13_pass 0 = .ok (.aload_n 0, 1) := by decide +kernel
theorem dX13_pass_1 : decode cX13_pass 1 = .ok (.iload_n 1, 1) := by decide +kernel
theorem dX13_pass_2 : decode cX13_pass 2 = .ok (.iconst 1, 1) := by decide +kernel
theorem dX13_pass_3 : decode cX13_pass 3 = .ok (.bipush 100, 2) := by decide +kernel
theorem dX13_pass_5 : decode cX13_pass 5 = .ok (.invokestatic 174, 3) := by decide +kernel
theorem dX13_pass_8 : decode cX13_pass 8 = .ok (.ifCond .eq 7, 3) := by decide +kernel
theorem dX13_pass_11 : decode cX13_pass 11 = .ok (.iconst 0, 1) := by decide +kernel
theorem dX13_pass_12 : decode cX13_pass 12 = .ok (.goto 4, 3) := by decide +kernel
theorem dX13_pass_15 : decode cX13_pass 15 = .ok (.iconst 1, 1) := by decide +kernel
theorem dX13_pass_16 : decode cX13_pass 16 = .ok (.putfield 171, 3) := by decide +kernel
theorem dX13_pass_19 : decode cX13_pass 19 = .ok (.aload_n 0, 1) := by decide +kernel
theorem dX13_pass_20 : decode cX13_pass 20 = .ok (.aload_n 0, 1) := by decide +kernel
theorem dX13_pass_21 : decode cX13_pass 21 = .ok (.getfield 171, 3) := by decide +kernel
theorem dX13_pass_24 : decode cX13_pass 24 = .ok (.ifCond .ne 22, 3) := by decide +kernel
theorem dX13_pass_27 : decode cX13_pass 27 = .ok (.aload_n 0, 1) := by decide +kernel
theorem dX13_pass_28 : decode cX13_pass 28 = .ok (.getfield 357, 3) := by decide +kernel
theorem dX13_pass_31 : decode cX13_pass 31 = .ok (.sipush 1000, 3) := by decide +kernel
theorem dX13_pass_34 : decode cX13_pass 34 = .ok (.if_icmp .ge 12, 3) := by decide +kernel
theorem dX13_pass_37 : decode cX13_pass 37 = .ok (.aload_n 0, 1) := by decide +kernel
theorem dX13_pass_38 : decode cX13_pass 38 = .ok (.getfield 357, 3) := by decide +kernel
theorem dX13_pass_41 : decode cX13_pass 41 = .ok (.iload_n 1, 1) := by decide +kernel
theorem dX13_pass_42 : decode cX13_pass 42 = .ok (.iadd, 1) := by decide +kernel
theorem dX13_pass_43 : decode cX13_pass 43 = .ok (.goto 7, 3) := by decide +kernel
theorem dX13_pass_46 : decode cX13_pass 46 = .ok (.aload_n 0, 1) := by decide +kernel
theorem dX13_pass_47 : decode cX13_pass 47 = .ok (.getfield 357, 3) := by decide +kernel
theorem dX13_pass_50 : decode cX13_pass 50 = .ok (.putfield 357, 3) := by decide +kernel
theorem dX13_pass_53 : decode cX13_pass 53 = .ok (.return_, 1) := by decide +kernel
set_option maxRecDepth 4000 in
theorem c_pass (γ : LC) (μ : MU) (w : Mm) (c : Int) (S P M : Int) (hc : IR c) (hR0 : RB μ S P M w) (hS : S ≤ 28900) (hP : P ≤ 500000) (hM : M ≤ 590) : CMv γ μ 1 mX13_pass [.int (I c)] w (fun w' => w' = o_pass μ c w) := by
  refine CMv_of rfl (by simp [rv_cat, Value.category]) rfl ?_
  rintro κ hO hF rfl hR
  have hD := hF.dp
  show X κ 0 0 w 0 [some (rv μ.1), some (.int (I c))] []
  have hz := hR0.2.2.1
  unfold bZ at hz
  have hL := hR0.1
  obtain ⟨f1, f2, f3, f4, f5⟩ := hR0.1.f
  obtain ⟨t1, t2, t3, t4, t5, t6, t7⟩ := hR0.2.1.2.2.2.1
  refine X_aload_n 1 hO dX13_pass_0 rfl rfl ?_
  refine X_iload_n 2 hO dX13_pass_1 rfl rfl ?_
  refine X_iconst 3 hO dX13_pass_2 rfl ?_
  refine X_bipush 5 hO dX13_pass_3 rfl (by decide) ?_
  refine XM_callSi 8 hO hD lX13_174 [_, _, _] rfl dX13_pass_5 rfl (c_in _ _ _ _ _ (by omega) (by omega) (by omega)) (by decide) (by simp only [List.map_cons, List.map_nil, rv_cat]; exact Nat.le_of_ble_eq_true rfl) (fun r_5 hr_5 hp_5 => ?_)
  subst hp_5
  refine X_if_eq 11 15 hO dX13_pass_8 rfl rfl (by omega) (fun hc_8 => ?_) (fun hc_8 => ?_)
  ·
    try simp only [bi_0, bi_ne, ne_eq, Classical.not_not] at hc_8
    refine X_iconst 16 hO dX13_pass_15 rfl ?_
    refine pa_171 19 hO hR dX13_pass_16 rfl (by omega) (fun hR => ?_)
    refine X_aload_n 20 hO dX13_pass_19 rfl rfl ?_
    refine X_aload_n 21 hO dX13_pass_20 rfl rfl ?_
    refine ga_171 24 hO hR dX13_pass_21 rfl (fun hi_21 => ?_)
    try simp (disch := decide) only [up_k, up_s, step_at, pool_at, poolN_at, opens_at, closes_at, fl_at, del_at, ins_at, rep_at, psh_at, trn_at, tak_at, pEn_at, cpQ_at, cpP_at, cpT_at, ti_at, th_at] at hi_21 ⊢
    refine X_if_ne 27 46 hO dX13_pass_24 rfl rfl (by omega) (fun hc_24 => ?_) (fun hc_24 => ?_)
    ·
      refine X_aload_n 47 hO dX13_pass_46 rfl rfl ?_
      refine ga_357 50 hO hR dX13_pass_47 rfl (fun hi_47 => ?_)
      try simp (disch := decide) only [up_k, up_s, step_at, pool_at, poolN_at, opens_at, closes_at, fl_at, del_at, ins_at, rep_at, psh_at, trn_at, tak_at, pEn_at, cpQ_at, cpP_at, cpT_at, ti_at, th_at] at hi_47 ⊢
      refine pa_357 53 hO hR dX13_pass_50 rfl (by omega) (fun hR => ?_)
      exact XM_vret hO hF hR rfl dX13_pass_53 (by first | (exfalso; omega) | (unfold o_pass ; (try unfold m_ti); (try unfold m_th); (repeat (first | rfl | rw [if_pos (by omega)] | rw [if_neg (by omega)]))))
    ·
      refine X_aload_n 28 hO dX13_pass_27 rfl rfl ?_
      refine ga_357 31 hO hR dX13_pass_28 rfl (fun hi_28 => ?_)
      try simp (disch := decide) only [up_k, up_s, step_at, pool_at, poolN_at, opens_at, closes_at, fl_at, del_at, ins_at, rep_at, psh_at, trn_at, tak_at, pEn_at, cpQ_at, cpP_at, cpT_at, ti_at, th_at] at hi_28 ⊢
      refine X_sipush 34 hO dX13_pass_31 rfl (by decide) ?_
      refine X_icmp_ge 37 46 hO dX13_pass_34 rfl rfl (by omega) (by omega) (fun hc_34 => ?_) (fun hc_34 => ?_)
      ·
        refine X_aload_n 47 hO dX13_pass_46 rfl rfl ?_
        refine ga_357 50 hO hR dX13_pass_47 rfl (fun hi_47 => ?_)
        try simp (disch := decide) only [up_k, up_s, step_at, pool_at, poolN_at, opens_at, closes_at, fl_at, del_at, ins_at, rep_at, psh_at, trn_at, tak_at, pEn_at, cpQ_at, cpP_at, cpT_at, ti_at, th_at] at hi_47 ⊢
        refine pa_357 53 hO hR dX13_pass_50 rfl (by omega) (fun hR => ?_)
        exact XM_vret hO hF hR rfl dX13_pass_53 (by first | (exfalso; omega) | (unfold o_pass ; (try unfold m_ti); (try unfold m_th); (repeat (first | rfl | rw [if_pos (by omega)] | rw [if_neg (by omega)]))))
      ·
        refine X_aload_n 38 hO dX13_pass_37 rfl rfl ?_
        refine ga_357 41 hO hR dX13_pass_38 rfl (fun hi_38 => ?_)
        try simp (disch := decide) only [up_k, up_s, step_at, pool_at, poolN_at, opens_at, closes_at, fl_at, del_at, ins_at, rep_at, psh_at, trn_at, tak_at, pEn_at, cpQ_at, cpP_at, cpT_at, ti_at, th_at] at hi_38 ⊢
        refine X_iload_n 42 hO dX13_pass_41 rfl rfl ?_
        refine X_iadd 43 hO dX13_pass_42 rfl ?_
        refine X_goto hO dX13_pass_43 (tgt := 50) rfl ?_
        refine pa_357 53 hO hR dX13_pass_50 rfl (by omega) (fun hR => ?_)
        exact XM_vret hO hF hR rfl dX13_pass_53 (by first | (exfalso; omega) | (unfold o_pass ; (try unfold m_ti); (try unfold m_th); (repeat (first | rfl | rw [if_pos (by omega)] | rw [if_neg (by omega)]))))
  ·
    try simp only [bi_0, bi_ne, ne_eq, Classical.not_not] at hc_8
    refine X_iconst 12 hO dX13_pass_11 rfl ?_
    refine X_goto hO dX13_pass_12 (tgt := 16) rfl ?_
    refine pa_171 19 hO hR dX13_pass_16 rfl (by omega) (fun hR => ?_)
    refine X_aload_n 20 hO dX13_pass_19 rfl rfl ?_
    refine X_aload_n 21 hO dX13_pass_20 rfl rfl ?_
    refine ga_171 24 hO hR dX13_pass_21 rfl (fun hi_21 => ?_)
    try simp (disch := decide) only [up_k, up_s, step_at, pool_at, poolN_at, opens_at, closes_at, fl_at, del_at, ins_at, rep_at, psh_at, trn_at, tak_at, pEn_at, cpQ_at, cpP_at, cpT_at, ti_at, th_at] at hi_21 ⊢
    refine X_if_ne 27 46 hO dX13_pass_24 rfl rfl (by omega) (fun hc_24 => ?_) (fun hc_24 => ?_)
    ·
      refine X_aload_n 47 hO dX13_pass_46 rfl rfl ?_
      refine ga_357 50 hO hR dX13_pass_47 rfl (fun hi_47 => ?_)
      try simp (disch := decide) only [up_k, up_s, step_at, pool_at, poolN_at, opens_at, closes_at, fl_at, del_at, ins_at, rep_at, psh_at, trn_at, tak_at, pEn_at, cpQ_at, cpP_at, cpT_at, ti_at, th_at] at hi_47 ⊢
      refine pa_357 53 hO hR dX13_pass_50 rfl (by omega) (fun hR => ?_)
      exact XM_vret hO hF hR rfl dX13_pass_53 (by first | (exfalso; omega) | (unfold o_pass ; (try unfold m_ti); (try unfold m_th); (repeat (first | rfl | rw [if_pos (by omega)] | rw [if_neg (by omega)]))))
    ·
      refine X_aload_n 28 hO dX13_pass_27 rfl rfl ?_
      refine ga_357 31 hO hR dX13_pass_28 rfl (fun hi_28 => ?_)
      try simp (disch := decide) only [up_k, up_s, step_at, pool_at, poolN_at, opens_at, closes_at, fl_at, del_at, ins_at, rep_at, psh_at, trn_at, tak_at, pEn_at, cpQ_at, cpP_at, cpT_at, ti_at, th_at] at hi_28 ⊢
      refine X_sipush 34 hO dX13_pass_31 rfl (by decide) ?_
      refine X_icmp_ge 37 46 hO dX13_pass_34 rfl rfl (by omega) (by omega) (fun hc_34 => ?_) (fun hc_34 => ?_)
      ·
        refine X_aload_n 47 hO dX13_pass_46 rfl rfl ?_
        refine ga_357 50 hO hR dX13_pass_47 rfl (fun hi_47 => ?_)
        try simp (disch := decide) only [up_k, up_s, step_at, pool_at, poolN_at, opens_at, closes_at, fl_at, del_at, ins_at, rep_at, psh_at, trn_at, tak_at, pEn_at, cpQ_at, cpP_at, cpT_at, ti_at, th_at] at hi_47 ⊢
        refine pa_357 53 hO hR dX13_pass_50 rfl (by omega) (fun hR => ?_)
        exact XM_vret hO hF hR rfl dX13_pass_53 (by first | (exfalso; omega) | (unfold o_pass ; (try unfold m_ti); (try unfold m_th); (repeat (first | rfl | rw [if_pos (by omega)] | rw [if_neg (by omega)]))))
      ·
        refine X_aload_n 38 hO dX13_pass_37 rfl rfl ?_
        refine ga_357 41 hO hR dX13_pass_38 rfl (fun hi_38 => ?_)
        try simp (disch := decide) only [up_k, up_s, step_at, pool_at, poolN_at, opens_at, closes_at, fl_at, del_at, ins_at, rep_at, psh_at, trn_at, tak_at, pEn_at, cpQ_at, cpP_at, cpT_at, ti_at, th_at] at hi_38 ⊢
        refine X_iload_n 42 hO dX13_pass_41 rfl rfl ?_
        refine X_iadd 43 hO dX13_pass_42 rfl ?_
        refine X_goto hO dX13_pass_43 (tgt := 50) rfl ?_
        refine pa_357 53 hO hR dX13_pass_50 rfl (by omega) (fun hR => ?_)
        exact XM_vret hO hF hR rfl dX13_pass_53 (by first | (exfalso; omega) | (unfold o_pass ; (try unfold m_ti); (try unfold m_th); (repeat (first | rfl | rw [if_pos (by omega)] | rw [if_neg (by omega)]))))
theorem dX13_isNode_0 : decode cX13_isNode 0 = .ok (.iload_n 1, 1) := by decide +kernel
theorem dX13_isNode_1 : decode cX13_isNode 1 = .ok (.iconst 0, 1) := by decide +kernel
theorem dX13_isNode_2 : decode cX13_isNode 2 = .ok (.aload_n 0, 1) := by decide +kernel
theorem dX13_isNode_3 : decode cX13_isNode 3 = .ok (.getfield 59, 3) := by decide +kernel
theorem dX13_isNode_6 : decode cX13_isNode 6 = .ok (.iconst 1, 1) := by decide +kernel
theorem dX13_isNode_7 : decode cX13_isNode 7 = .ok (.isub, 1) := by decide +kernel
theorem dX13_isNode_8 : decode cX13_isNode 8 = .ok (.invokestatic 174, 3) := by decide +kernel
theorem dX13_isNode_11 : decode cX13_isNode 11 = .ok (.ifCond .eq 17, 3) := by decide +kernel
theorem dX13_isNode_14 : decode cX13_isNode 14 = .ok (.aload_n 0, 1) := by decide +kernel
theorem dX13_isNode_15 : decode cX13_isNode 15 = .ok (.getfield 66, 3) := by decide +kernel
theorem dX13_isNode_18 : decode cX13_isNode 18 = .ok (.iload_n 1, 1) := by decide +kernel
theorem dX13_isNode_19 : decode cX13_isNode 19 = .ok (.iaload, 1) := by decide +kernel
theorem dX13_isNode_20 : decode cX13_isNode 20 = .ok (.iconst 1, 1) := by decide +kernel
theorem dX13_isNode_21 : decode cX13_isNode 21 = .ok (.if_icmp .ne 7, 3) := by decide +kernel
theorem dX13_isNode_24 : decode cX13_isNode 24 = .ok (.iconst 1, 1) := by decide +kernel
theorem dX13_isNode_25 : decode cX13_isNode 25 = .ok (.goto 4, 3) := by decide +kernel
theorem dX13_isNode_28 : decode cX13_isNode 28 = .ok (.iconst 0, 1) := by decide +kernel
theorem dX13_isNode_29 : decode cX13_isNode 29 = .ok (.ireturn, 1) := by decide +kernel
set_option maxRecDepth 4000 in
theorem c_isNode (γ : LC) (μ : MU) (w : Mm) (c S P M : Int) (hc : IR c) (hR0 : RB μ S P M w) (hS : S ≤ 28900) (hP : P ≤ 500000) (hM : M ≤ 590) : CMi γ μ 1 mX13_isNode [.int (I c)] w (fun r w' => r = bi (isN μ c w) ∧ w = w') := by
  refine CMi_of rfl (by simp [rv_cat, Value.category]) rfl ?_
  rintro κ hO hF rfl hR
  have hD := hF.dp
  show X κ 0 0 w 0 [some (rv μ.1), some (.int (I c))] []
  obtain ⟨t1, t2, t3, t4, t5, t6, t7⟩ := hR0.2.1.2.2.2.1
  refine X_iload_n 1 hO dX13_isNode_0 rfl rfl ?_
  refine X_iconst 2 hO dX13_isNode_1 rfl ?_
  refine X_aload_n 3 hO dX13_isNode_2 rfl rfl ?_
  refine ga_59 6 hO hR dX13_isNode_3 rfl (fun hi_3 => ?_)
  refine X_iconst 7 hO dX13_isNode_6 rfl ?_
  refine X_isub 8 hO dX13_isNode_7 rfl ?_
  refine XM_callSi 11 hO hD lX13_174 [_, _, _] rfl dX13_isNode_8 rfl (c_in _ _ _ _ _ (by omega) (by omega) (by omega)) (by decide) (by simp only [List.map_cons, List.map_nil, rv_cat]; exact Nat.le_of_ble_eq_true rfl) (fun r_8 hr_8 hp_8 => ?_)
  subst hp_8
  refine X_if_eq 14 28 hO dX13_isNode_11 rfl rfl (by omega) (fun hc_11 => ?_) (fun hc_11 => ?_)
  ·
    try simp only [bi_0, bi_ne, ne_eq, Classical.not_not] at hc_11
    refine X_iconst 29 hO dX13_isNode_28 rfl ?_
    exact XM_iret hO hF hR rfl (by first | exact Or.inl rfl | exact Or.inr ⟨rfl, bi_01 _⟩ | exact Or.inr ⟨rfl, by omega⟩) dX13_isNode_29 (by omega) ⟨by unfold bi; first | rw [if_pos (by omega)] | rw [if_neg (by omega)], rfl⟩
  ·
    try simp only [bi_0, bi_ne, ne_eq, Classical.not_not] at hc_11
    refine X_aload_n 15 hO dX13_isNode_14 rfl rfl ?_
    refine ga_66 18 hO hR dX13_isNode_15 rfl ?_
    refine X_iload_n 19 hO dX13_isNode_18 rfl rfl ?_
    refine ma_ld (L := 640) (c := 216) 20 hO hR rfl rfl rfl dX13_isNode_19 rfl (by omega) (by omega) (fun hi_19 => ?_)
    refine X_iconst 21 hO dX13_isNode_20 rfl ?_
    refine X_icmp_ne 24 28 hO dX13_isNode_21 rfl rfl (by omega) (by omega) (fun hc_21 => ?_) (fun hc_21 => ?_)
    ·
      refine X_iconst 29 hO dX13_isNode_28 rfl ?_
      exact XM_iret hO hF hR rfl (by first | exact Or.inl rfl | exact Or.inr ⟨rfl, bi_01 _⟩ | exact Or.inr ⟨rfl, by omega⟩) dX13_isNode_29 (by omega) ⟨by unfold bi; first | rw [if_pos (by omega)] | rw [if_neg (by omega)], rfl⟩
    ·
      refine X_iconst 25 hO dX13_isNode_24 rfl ?_
      refine X_goto hO dX13_isNode_25 (tgt := 29) rfl ?_
      exact XM_iret hO hF hR rfl (by first | exact Or.inl rfl | exact Or.inr ⟨rfl, bi_01 _⟩ | exact Or.inr ⟨rfl, by omega⟩) dX13_isNode_29 (by omega) ⟨by unfold bi; first | rw [if_pos (by omega)] | rw [if_neg (by omega)], rfl⟩
theorem dX13_hasNode_0 : decode cX13_hasNode 0 = .ok (.aload_n 0, 1) := by decide +kernel
theorem dX13_hasNode_1 : decode cX13_hasNode 1 = .ok (.aload_n 0, 1) := by decide +kernel
theorem dX13_hasNode_2 : decode cX13_hasNode 2 = .ok (.iload_n 1, 1) := by decide +kernel
theorem dX13_hasNode_3 : decode cX13_hasNode 3 = .ok (.invokevirtual 400, 3) := by decide +kernel
theorem dX13_hasNode_6 : decode cX13_hasNode 6 = .ok (.ifCond .eq 7, 3) := by decide +kernel
theorem dX13_hasNode_9 : decode cX13_hasNode 9 = .ok (.iconst 0, 1) := by decide +kernel
theorem dX13_hasNode_10 : decode cX13_hasNode 10 = .ok (.goto 4, 3) := by decide +kernel
theorem dX13_hasNode_13 : decode cX13_hasNode 13 = .ok (.iconst 1, 1) := by decide +kernel
theorem dX13_hasNode_14 : decode cX13_hasNode 14 = .ok (.putfield 171, 3) := by decide +kernel
theorem dX13_hasNode_17 : decode cX13_hasNode 17 = .ok (.aload_n 0, 1) := by decide +kernel
theorem dX13_hasNode_18 : decode cX13_hasNode 18 = .ok (.getfield 171, 3) := by decide +kernel
theorem dX13_hasNode_21 : decode cX13_hasNode 21 = .ok (.ifCond .ne 7, 3) := by decide +kernel
theorem dX13_hasNode_24 : decode cX13_hasNode 24 = .ok (.iconst 1, 1) := by decide +kernel
theorem dX13_hasNode_25 : decode cX13_hasNode 25 = .ok (.goto 4, 3) := by decide +kernel
theorem dX13_hasNode_28 : decode cX13_hasNode 28 = .ok (.iconst 0, 1) := by decide +kernel
theorem dX13_hasNode_29 : decode cX13_hasNode 29 = .ok (.ireturn, 1) := by decide +kernel
set_option maxRecDepth 4000 in
theorem c_hasNode (γ : LC) (μ : MU) (w : Mm) (c : Int) (S P M : Int) (hc : IR c) (hR0 : RB μ S P M w) (hS : S ≤ 28900) (hP : P ≤ 500000) (hM : M ≤ 590) : CMi γ μ 2 mX13_hasNode [.int (I c)] w (fun r w' => r = bi (isN μ c w) ∧ w' = m_ti μ (isN μ c w) w) := by
  refine CMi_of rfl (by simp [rv_cat, Value.category]) rfl ?_
  rintro κ hO hF rfl hR
  have hD := hF.dp
  show X κ 0 0 w 0 [some (rv μ.1), some (.int (I c))] []
  obtain ⟨f1, f2, f3, f4, f5⟩ := hR0.1.f
  obtain ⟨t1, t2, t3, t4, t5, t6, t7⟩ := hR0.2.1.2.2.2.1
  refine X_aload_n 1 hO dX13_hasNode_0 rfl rfl ?_
  refine X_aload_n 2 hO dX13_hasNode_1 rfl rfl ?_
  refine X_iload_n 3 hO dX13_hasNode_2 rfl rfl ?_
  refine XM_callVi 6 hO hD hR lX13_400 [_] rfl dX13_hasNode_3 rfl (c_isNode _ _ _ _ _ _ _ (by omega) hR0 hS hP hM) (by decide) (by simp only [List.map_cons, List.map_nil, rv_cat]; exact Nat.le_of_ble_eq_true rfl) (fun r_3 w_3 hr_3 hp_3 hR => ?_)
  obtain ⟨e1_3, e2_3⟩ := hp_3
  subst e1_3
  subst e2_3
  refine X_if_eq 9 13 hO dX13_hasNode_6 rfl rfl (by omega) (fun hc_6 => ?_) (fun hc_6 => ?_)
  ·
    try simp only [bi_0, bi_ne, ne_eq, Classical.not_not] at hc_6
    refine X_iconst 14 hO dX13_hasNode_13 rfl ?_
    refine pa_171 17 hO hR dX13_hasNode_14 rfl (by omega) (fun hR => ?_)
    refine X_aload_n 18 hO dX13_hasNode_17 rfl rfl ?_
    refine ga_171 21 hO hR dX13_hasNode_18 rfl (fun hi_18 => ?_)
    try simp (disch := decide) only [up_k, up_s, step_at, pool_at, poolN_at, opens_at, closes_at, fl_at, del_at, ins_at, rep_at, psh_at, trn_at, tak_at, pEn_at, cpQ_at, cpP_at, cpT_at, ti_at, th_at] at hi_18 ⊢
    refine X_if_ne 24 28 hO dX13_hasNode_21 rfl rfl (by omega) (fun hc_21 => ?_) (fun hc_21 => ?_)
    ·
      refine X_iconst 29 hO dX13_hasNode_28 rfl ?_
      exact XM_iret hO hF hR rfl (by first | exact Or.inl rfl | exact Or.inr ⟨rfl, bi_01 _⟩ | exact Or.inr ⟨rfl, by omega⟩) dX13_hasNode_29 (by omega) (by first | (exfalso; omega) | (unfold m_ti bi; (repeat (first | rw [if_pos (by omega)] | rw [if_neg (by omega)])); exact ⟨rfl, rfl⟩))
    ·
      refine X_iconst 25 hO dX13_hasNode_24 rfl ?_
      refine X_goto hO dX13_hasNode_25 (tgt := 29) rfl ?_
      exact XM_iret hO hF hR rfl (by first | exact Or.inl rfl | exact Or.inr ⟨rfl, bi_01 _⟩ | exact Or.inr ⟨rfl, by omega⟩) dX13_hasNode_29 (by omega) (by first | (exfalso; omega) | (unfold m_ti bi; (repeat (first | rw [if_pos (by omega)] | rw [if_neg (by omega)])); exact ⟨rfl, rfl⟩))
  ·
    try simp only [bi_0, bi_ne, ne_eq, Classical.not_not] at hc_6
    refine X_iconst 10 hO dX13_hasNode_9 rfl ?_
    refine X_goto hO dX13_hasNode_10 (tgt := 14) rfl ?_
    refine pa_171 17 hO hR dX13_hasNode_14 rfl (by omega) (fun hR => ?_)
    refine X_aload_n 18 hO dX13_hasNode_17 rfl rfl ?_
    refine ga_171 21 hO hR dX13_hasNode_18 rfl (fun hi_18 => ?_)
    try simp (disch := decide) only [up_k, up_s, step_at, pool_at, poolN_at, opens_at, closes_at, fl_at, del_at, ins_at, rep_at, psh_at, trn_at, tak_at, pEn_at, cpQ_at, cpP_at, cpT_at, ti_at, th_at] at hi_18 ⊢
    refine X_if_ne 24 28 hO dX13_hasNode_21 rfl rfl (by omega) (fun hc_21 => ?_) (fun hc_21 => ?_)
    ·
      refine X_iconst 29 hO dX13_hasNode_28 rfl ?_
      exact XM_iret hO hF hR rfl (by first | exact Or.inl rfl | exact Or.inr ⟨rfl, bi_01 _⟩ | exact Or.inr ⟨rfl, by omega⟩) dX13_hasNode_29 (by omega) (by first | (exfalso; omega) | (unfold m_ti bi; (repeat (first | rw [if_pos (by omega)] | rw [if_neg (by omega)])); exact ⟨rfl, rfl⟩))
    ·
      refine X_iconst 25 hO dX13_hasNode_24 rfl ?_
      refine X_goto hO dX13_hasNode_25 (tgt := 29) rfl ?_
      exact XM_iret hO hF hR rfl (by first | exact Or.inl rfl | exact Or.inr ⟨rfl, bi_01 _⟩ | exact Or.inr ⟨rfl, by omega⟩) dX13_hasNode_29 (by omega) (by first | (exfalso; omega) | (unfold m_ti bi; (repeat (first | rw [if_pos (by omega)] | rw [if_neg (by omega)])); exact ⟨rfl, rfl⟩))
theorem dX13_isStore_0 : decode cX13_isStore 0 = .ok (.aload_n 0, 1) := by decide +kernel
theorem dX13_isStore_1 : decode cX13_isStore 1 = .ok (.iload_n 1, 1) := by decide +kernel
theorem dX13_isStore_2 : decode cX13_isStore 2 = .ok (.iconst 0, 1) := by decide +kernel
theorem dX13_isStore_3 : decode cX13_isStore 3 = .ok (.iconst 4, 1) := by decide +kernel
theorem dX13_isStore_4 : decode cX13_isStore 4 = .ok (.invokestatic 174, 3) := by decide +kernel
theorem dX13_isStore_7 : decode cX13_isStore 7 = .ok (.ifCond .eq 7, 3) := by decide +kernel
theorem dX13_isStore_10 : decode cX13_isStore 10 = .ok (.iconst 0, 1) := by decide +kernel
theorem dX13_isStore_11 : decode cX13_isStore 11 = .ok (.goto 4, 3) := by decide +kernel
theorem dX13_isStore_14 : decode cX13_isStore 14 = .ok (.iconst 1, 1) := by decide +kernel
theorem dX13_isStore_15 : decode cX13_isStore 15 = .ok (.putfield 171, 3) := by decide +kernel
theorem dX13_isStore_18 : decode cX13_isStore 18 = .ok (.aload_n 0, 1) := by decide +kernel
theorem dX13_isStore_19 : decode cX13_isStore 19 = .ok (.getfield 171, 3) := by decide +kernel
theorem dX13_isStore_22 : decode cX13_isStore 22 = .ok (.ifCond .ne 7, 3) := by decide +kernel
theorem dX13_isStore_25 : decode cX13_isStore 25 = .ok (.iconst 1, 1) := by decide +kernel
theorem dX13_isStore_26 : decode cX13_isStore 26 = .ok (.goto 4, 3) := by decide +kernel
theorem dX13_isStore_29 : decode cX13_isStore 29 = .ok (.iconst 0, 1) := by decide +kernel
theorem dX13_isStore_30 : decode cX13_isStore 30 = .ok (.ireturn, 1) := by decide +kernel
set_option maxRecDepth 4000 in
theorem c_isStore (γ : LC) (μ : MU) (w : Mm) (c : Int) (S P M : Int) (hc : IR c) (hR0 : RB μ S P M w) (hS : S ≤ 28900) (hP : P ≤ 500000) (hM : M ≤ 590) : CMi γ μ 1 mX13_isStore [.int (I c)] w (fun r w' => r = bi (0 ≤ c ∧ c ≤ 4) ∧ w' = m_ti μ (0 ≤ c ∧ c ≤ 4) w) := by
  refine CMi_of rfl (by simp [rv_cat, Value.category]) rfl ?_
  rintro κ hO hF rfl hR
  have hD := hF.dp
  show X κ 0 0 w 0 [some (rv μ.1), some (.int (I c))] []
  obtain ⟨f1, f2, f3, f4, f5⟩ := hR0.1.f
  obtain ⟨t1, t2, t3, t4, t5, t6, t7⟩ := hR0.2.1.2.2.2.1
  refine X_aload_n 1 hO dX13_isStore_0 rfl rfl ?_
  refine X_iload_n 2 hO dX13_isStore_1 rfl rfl ?_
  refine X_iconst 3 hO dX13_isStore_2 rfl ?_
  refine X_iconst 4 hO dX13_isStore_3 rfl ?_
  refine XM_callSi 7 hO hD lX13_174 [_, _, _] rfl dX13_isStore_4 rfl (c_in _ _ _ _ _ (by omega) (by omega) (by omega)) (by decide) (by simp only [List.map_cons, List.map_nil, rv_cat]; exact Nat.le_of_ble_eq_true rfl) (fun r_4 hr_4 hp_4 => ?_)
  subst hp_4
  refine X_if_eq 10 14 hO dX13_isStore_7 rfl rfl (by omega) (fun hc_7 => ?_) (fun hc_7 => ?_)
  ·
    try simp only [bi_0, bi_ne, ne_eq, Classical.not_not] at hc_7
    refine X_iconst 15 hO dX13_isStore_14 rfl ?_
    refine pa_171 18 hO hR dX13_isStore_15 rfl (by omega) (fun hR => ?_)
    refine X_aload_n 19 hO dX13_isStore_18 rfl rfl ?_
    refine ga_171 22 hO hR dX13_isStore_19 rfl (fun hi_19 => ?_)
    try simp (disch := decide) only [up_k, up_s, step_at, pool_at, poolN_at, opens_at, closes_at, fl_at, del_at, ins_at, rep_at, psh_at, trn_at, tak_at, pEn_at, cpQ_at, cpP_at, cpT_at, ti_at, th_at] at hi_19 ⊢
    refine X_if_ne 25 29 hO dX13_isStore_22 rfl rfl (by omega) (fun hc_22 => ?_) (fun hc_22 => ?_)
    ·
      refine X_iconst 30 hO dX13_isStore_29 rfl ?_
      exact XM_iret hO hF hR rfl (by first | exact Or.inl rfl | exact Or.inr ⟨rfl, bi_01 _⟩ | exact Or.inr ⟨rfl, by omega⟩) dX13_isStore_30 (by omega) (by first | (exfalso; omega) | (unfold m_ti bi; (repeat (first | rw [if_pos (by omega)] | rw [if_neg (by omega)])); exact ⟨rfl, rfl⟩))
    ·
      refine X_iconst 26 hO dX13_isStore_25 rfl ?_
      refine X_goto hO dX13_isStore_26 (tgt := 30) rfl ?_
      exact XM_iret hO hF hR rfl (by first | exact Or.inl rfl | exact Or.inr ⟨rfl, bi_01 _⟩ | exact Or.inr ⟨rfl, by omega⟩) dX13_isStore_30 (by omega) (by first | (exfalso; omega) | (unfold m_ti bi; (repeat (first | rw [if_pos (by omega)] | rw [if_neg (by omega)])); exact ⟨rfl, rfl⟩))
  ·
    try simp only [bi_0, bi_ne, ne_eq, Classical.not_not] at hc_7
    refine X_iconst 11 hO dX13_isStore_10 rfl ?_
    refine X_goto hO dX13_isStore_11 (tgt := 15) rfl ?_
    refine pa_171 18 hO hR dX13_isStore_15 rfl (by omega) (fun hR => ?_)
    refine X_aload_n 19 hO dX13_isStore_18 rfl rfl ?_
    refine ga_171 22 hO hR dX13_isStore_19 rfl (fun hi_19 => ?_)
    try simp (disch := decide) only [up_k, up_s, step_at, pool_at, poolN_at, opens_at, closes_at, fl_at, del_at, ins_at, rep_at, psh_at, trn_at, tak_at, pEn_at, cpQ_at, cpP_at, cpT_at, ti_at, th_at] at hi_19 ⊢
    refine X_if_ne 25 29 hO dX13_isStore_22 rfl rfl (by omega) (fun hc_22 => ?_) (fun hc_22 => ?_)
    ·
      refine X_iconst 30 hO dX13_isStore_29 rfl ?_
      exact XM_iret hO hF hR rfl (by first | exact Or.inl rfl | exact Or.inr ⟨rfl, bi_01 _⟩ | exact Or.inr ⟨rfl, by omega⟩) dX13_isStore_30 (by omega) (by first | (exfalso; omega) | (unfold m_ti bi; (repeat (first | rw [if_pos (by omega)] | rw [if_neg (by omega)])); exact ⟨rfl, rfl⟩))
    ·
      refine X_iconst 26 hO dX13_isStore_25 rfl ?_
      refine X_goto hO dX13_isStore_26 (tgt := 30) rfl ?_
      exact XM_iret hO hF hR rfl (by first | exact Or.inl rfl | exact Or.inr ⟨rfl, bi_01 _⟩ | exact Or.inr ⟨rfl, by omega⟩) dX13_isStore_30 (by omega) (by first | (exfalso; omega) | (unfold m_ti bi; (repeat (first | rw [if_pos (by omega)] | rw [if_neg (by omega)])); exact ⟨rfl, rfl⟩))
theorem dX13_isBookmark_0 : decode cX13_isBookmark 0 = .ok (.aload_n 0, 1) := by decide +kernel
theorem dX13_isBookmark_1 : decode cX13_isBookmark 1 = .ok (.iload_n 1, 1) := by decide +kernel
theorem dX13_isBookmark_2 : decode cX13_isBookmark 2 = .ok (.iconst 0, 1) := by decide +kernel
theorem dX13_isBookmark_3 : decode cX13_isBookmark 3 = .ok (.iconst 4, 1) := by decide +kernel
theorem dX13_isBookmark_4 : decode cX13_isBookmark 4 = .ok (.invokestatic 174, 3) := by decide +kernel
theorem dX13_isBookmark_7 : decode cX13_isBookmark 7 = .ok (.ifCond .eq 7, 3) := by decide +kernel
theorem dX13_isBookmark_10 : decode cX13_isBookmark 10 = .ok (.iconst 0, 1) := by decide +kernel
theorem dX13_isBookmark_11 : decode cX13_isBookmark 11 = .ok (.goto 4, 3) := by decide +kernel
theorem dX13_isBookmark_14 : decode cX13_isBookmark 14 = .ok (.iconst 1, 1) := by decide +kernel
theorem dX13_isBookmark_15 : decode cX13_isBookmark 15 = .ok (.putfield 171, 3) := by decide +kernel
theorem dX13_isBookmark_18 : decode cX13_isBookmark 18 = .ok (.aload_n 0, 1) := by decide +kernel
theorem dX13_isBookmark_19 : decode cX13_isBookmark 19 = .ok (.getfield 171, 3) := by decide +kernel
theorem dX13_isBookmark_22 : decode cX13_isBookmark 22 = .ok (.ifCond .ne 7, 3) := by decide +kernel
theorem dX13_isBookmark_25 : decode cX13_isBookmark 25 = .ok (.iconst 1, 1) := by decide +kernel
theorem dX13_isBookmark_26 : decode cX13_isBookmark 26 = .ok (.goto 4, 3) := by decide +kernel
theorem dX13_isBookmark_29 : decode cX13_isBookmark 29 = .ok (.iconst 0, 1) := by decide +kernel
theorem dX13_isBookmark_30 : decode cX13_isBookmark 30 = .ok (.ireturn, 1) := by decide +kernel
set_option maxRecDepth 4000 in
theorem c_isBookmark (γ : LC) (μ : MU) (w : Mm) (c : Int) (S P M : Int) (hc : IR c) (hR0 : RB μ S P M w) (hS : S ≤ 28900) (hP : P ≤ 500000) (hM : M ≤ 590) : CMi γ μ 1 mX13_isBookmark [.int (I c)] w (fun r w' => r = bi (0 ≤ c ∧ c ≤ 4) ∧ w' = m_ti μ (0 ≤ c ∧ c ≤ 4) w) := by
  refine CMi_of rfl (by simp [rv_cat, Value.category]) rfl ?_
  rintro κ hO hF rfl hR
  have hD := hF.dp
  show X κ 0 0 w 0 [some (rv μ.1), some (.int (I c))] []
  obtain ⟨f1, f2, f3, f4, f5⟩ := hR0.1.f
  obtain ⟨t1, t2, t3, t4, t5, t6, t7⟩ := hR0.2.1.2.2.2.1
  refine X_aload_n 1 hO dX13_isBookmark_0 rfl rfl ?_
  refine X_iload_n 2 hO dX13_isBookmark_1 rfl rfl ?_
  refine X_iconst 3 hO dX13_isBookmark_2 rfl ?_
  refine X_iconst 4 hO dX13_isBookmark_3 rfl ?_
  refine XM_callSi 7 hO hD lX13_174 [_, _, _] rfl dX13_isBookmark_4 rfl (c_in _ _ _ _ _ (by omega) (by omega) (by omega)) (by decide) (by simp only [List.map_cons, List.map_nil, rv_cat]; exact Nat.le_of_ble_eq_true rfl) (fun r_4 hr_4 hp_4 => ?_)
  subst hp_4
  refine X_if_eq 10 14 hO dX13_isBookmark_7 rfl rfl (by omega) (fun hc_7 => ?_) (fun hc_7 => ?_)
  ·
    try simp only [bi_0, bi_ne, ne_eq, Classical.not_not] at hc_7
    refine X_iconst 15 hO dX13_isBookmark_14 rfl ?_
    refine pa_171 18 hO hR dX13_isBookmark_15 rfl (by omega) (fun hR => ?_)
    refine X_aload_n 19 hO dX13_isBookmark_18 rfl rfl ?_
    refine ga_171 22 hO hR dX13_isBookmark_19 rfl (fun hi_19 => ?_)
    try simp (disch := decide) only [up_k, up_s, step_at, pool_at, poolN_at, opens_at, closes_at, fl_at, del_at, ins_at, rep_at, psh_at, trn_at, tak_at, pEn_at, cpQ_at, cpP_at, cpT_at, ti_at, th_at] at hi_19 ⊢
    refine X_if_ne 25 29 hO dX13_isBookmark_22 rfl rfl (by omega) (fun hc_22 => ?_) (fun hc_22 => ?_)
    ·
      refine X_iconst 30 hO dX13_isBookmark_29 rfl ?_
      exact XM_iret hO hF hR rfl (by first | exact Or.inl rfl | exact Or.inr ⟨rfl, bi_01 _⟩ | exact Or.inr ⟨rfl, by omega⟩) dX13_isBookmark_30 (by omega) (by first | (exfalso; omega) | (unfold m_ti bi; (repeat (first | rw [if_pos (by omega)] | rw [if_neg (by omega)])); exact ⟨rfl, rfl⟩))
    ·
      refine X_iconst 26 hO dX13_isBookmark_25 rfl ?_
      refine X_goto hO dX13_isBookmark_26 (tgt := 30) rfl ?_
      exact XM_iret hO hF hR rfl (by first | exact Or.inl rfl | exact Or.inr ⟨rfl, bi_01 _⟩ | exact Or.inr ⟨rfl, by omega⟩) dX13_isBookmark_30 (by omega) (by first | (exfalso; omega) | (unfold m_ti bi; (repeat (first | rw [if_pos (by omega)] | rw [if_neg (by omega)])); exact ⟨rfl, rfl⟩))
  ·
    try simp only [bi_0, bi_ne, ne_eq, Classical.not_not] at hc_7
    refine X_iconst 11 hO dX13_isBookmark_10 rfl ?_
    refine X_goto hO dX13_isBookmark_11 (tgt := 15) rfl ?_
    refine pa_171 18 hO hR dX13_isBookmark_15 rfl (by omega) (fun hR => ?_)
    refine X_aload_n 19 hO dX13_isBookmark_18 rfl rfl ?_
    refine ga_171 22 hO hR dX13_isBookmark_19 rfl (fun hi_19 => ?_)
    try simp (disch := decide) only [up_k, up_s, step_at, pool_at, poolN_at, opens_at, closes_at, fl_at, del_at, ins_at, rep_at, psh_at, trn_at, tak_at, pEn_at, cpQ_at, cpP_at, cpT_at, ti_at, th_at] at hi_19 ⊢
    refine X_if_ne 25 29 hO dX13_isBookmark_22 rfl rfl (by omega) (fun hc_22 => ?_) (fun hc_22 => ?_)
    ·
      refine X_iconst 30 hO dX13_isBookmark_29 rfl ?_
      exact XM_iret hO hF hR rfl (by first | exact Or.inl rfl | exact Or.inr ⟨rfl, bi_01 _⟩ | exact Or.inr ⟨rfl, by omega⟩) dX13_isBookmark_30 (by omega) (by first | (exfalso; omega) | (unfold m_ti bi; (repeat (first | rw [if_pos (by omega)] | rw [if_neg (by omega)])); exact ⟨rfl, rfl⟩))
    ·
      refine X_iconst 26 hO dX13_isBookmark_25 rfl ?_
      refine X_goto hO dX13_isBookmark_26 (tgt := 30) rfl ?_
      exact XM_iret hO hF hR rfl (by first | exact Or.inl rfl | exact Or.inr ⟨rfl, bi_01 _⟩ | exact Or.inr ⟨rfl, by omega⟩) dX13_isBookmark_30 (by omega) (by first | (exfalso; omega) | (unfold m_ti bi; (repeat (first | rw [if_pos (by omega)] | rw [if_neg (by omega)])); exact ⟨rfl, rfl⟩))
theorem dX13_isEntry_0 : decode cX13_isEntry 0 = .ok (.aload_n 0, 1) := by decide +kernel
theorem dX13_isEntry_1 : decode cX13_isEntry 1 = .ok (.iload_n 1, 1) := by decide +kernel
theorem dX13_isEntry_2 : decode cX13_isEntry 2 = .ok (.iconst 0, 1) := by decide +kernel
theorem dX13_isEntry_3 : decode cX13_isEntry 3 = .ok (.iconst 4, 1) := by decide +kernel
theorem dX13_isEntry_4 : decode cX13_isEntry 4 = .ok (.invokestatic 174, 3) := by decide +kernel
theorem dX13_isEntry_7 : decode cX13_isEntry 7 = .ok (.ifCond .eq 23, 3) := by decide +kernel
theorem dX13_isEntry_10 : decode cX13_isEntry 10 = .ok (.iload_n 2, 1) := by decide +kernel
theorem dX13_isEntry_11 : decode cX13_isEntry 11 = .ok (.iconst 0, 1) := by decide +kernel
theorem dX13_isEntry_12 : decode cX13_isEntry 12 = .ok (.aload_n 0, 1) := by decide +kernel
theorem dX13_isEntry_13 : decode cX13_isEntry 13 = .ok (.getfield 22, 3) := by decide +kernel
theorem dX13_isEntry_16 : decode cX13_isEntry 16 = .ok (.iload_n 1, 1) := by decide +kernel
theorem dX13_isEntry_17 : decode cX13_isEntry 17 = .ok (.iaload, 1) := by decide +kernel
theorem dX13_isEntry_18 : decode cX13_isEntry 18 = .ok (.iconst 1, 1) := by decide +kernel
theorem dX13_isEntry_19 : decode cX13_isEntry 19 = .ok (.isub, 1) := by decide +kernel
theorem dX13_isEntry_20 : decode cX13_isEntry 20 = .ok (.invokestatic 174, 3) := by decide +kernel
theorem dX13_isEntry_23 : decode cX13_isEntry 23 = .ok (.ifCond .eq 7, 3) := by decide +kernel
theorem dX13_isEntry_26 : decode cX13_isEntry 26 = .ok (.iconst 0, 1) := by decide +kernel
theorem dX13_isEntry_27 : decode cX13_isEntry 27 = .ok (.goto 4, 3) := by decide +kernel
theorem dX13_isEntry_30 : decode cX13_isEntry 30 = .ok (.iconst 1, 1) := by decide +kernel
theorem dX13_isEntry_31 : decode cX13_isEntry 31 = .ok (.putfield 171, 3) := by decide +kernel
theorem dX13_isEntry_34 : decode cX13_isEntry 34 = .ok (.aload_n 0, 1) := by decide +kernel
theorem dX13_isEntry_35 : decode cX13_isEntry 35 = .ok (.getfield 171, 3) := by decide +kernel
theorem dX13_isEntry_38 : decode cX13_isEntry 38 = .ok (.ifCond .ne 7, 3) := by decide +kernel
theorem dX13_isEntry_41 : decode cX13_isEntry 41 = .ok (.iconst 1, 1) := by decide +kernel
theorem dX13_isEntry_42 : decode cX13_isEntry 42 = .ok (.goto 4, 3) := by decide +kernel
theorem dX13_isEntry_45 : decode cX13_isEntry 45 = .ok (.iconst 0, 1) := by decide +kernel
theorem dX13_isEntry_46 : decode cX13_isEntry 46 = .ok (.ireturn, 1) := by decide +kernel
set_option maxRecDepth 4000 in
theorem c_isEntry (γ : LC) (μ : MU) (w : Mm) (s e S P M : Int) (hs : IR s) (he : IR e) (hR0 : RB μ S P M w) (hS : S ≤ 28900) (hP : P ≤ 500000) (hM : M ≤ 590) : CMi γ μ 1 mX13_isEntry [.int (I s), .int (I e)] w (fun r w' => r = bi (isE s e w) ∧ w' = m_ti μ (isE s e w) w) := by
  refine CMi_of rfl (by simp [rv_cat, Value.category]) rfl ?_
  rintro κ hO hF rfl hR
  have hD := hF.dp
  show X κ 0 0 w 0 [some (rv μ.1), some (.int (I s)), some (.int (I e))] []
  have hL := hR0.1
  refine X_aload_n 1 hO dX13_isEntry_0 rfl rfl ?_
  refine X_iload_n 2 hO dX13_isEntry_1 rfl rfl ?_
  refine X_iconst 3 hO dX13_isEntry_2 rfl ?_
  refine X_iconst 4 hO dX13_isEntry_3 rfl ?_
  refine XM_callSi 7 hO hD lX13_174 [_, _, _] rfl dX13_isEntry_4 rfl (c_in _ _ _ _ _ (by omega) (by omega) (by omega)) (by decide) (by simp only [List.map_cons, List.map_nil, rv_cat]; exact Nat.le_of_ble_eq_true rfl) (fun r_4 hr_4 hp_4 => ?_)
  subst hp_4
  refine X_if_eq 10 30 hO dX13_isEntry_7 rfl rfl (by omega) (fun hc_7 => ?_) (fun hc_7 => ?_)
  ·
    try simp only [bi_0, bi_ne, ne_eq, Classical.not_not] at hc_7
    refine X_iconst 31 hO dX13_isEntry_30 rfl ?_
    refine pa_171 34 hO hR dX13_isEntry_31 rfl (by omega) (fun hR => ?_)
    refine X_aload_n 35 hO dX13_isEntry_34 rfl rfl ?_
    refine ga_171 38 hO hR dX13_isEntry_35 rfl (fun hi_35 => ?_)
    try simp (disch := decide) only [up_k, up_s, step_at, pool_at, poolN_at, opens_at, closes_at, fl_at, del_at, ins_at, rep_at, psh_at, trn_at, tak_at, pEn_at, cpQ_at, cpP_at, cpT_at, ti_at, th_at] at hi_35 ⊢
    refine X_if_ne 41 45 hO dX13_isEntry_38 rfl rfl (by omega) (fun hc_38 => ?_) (fun hc_38 => ?_)
    ·
      refine X_iconst 46 hO dX13_isEntry_45 rfl ?_
      exact XM_iret hO hF hR rfl (by first | exact Or.inl rfl | exact Or.inr ⟨rfl, bi_01 _⟩ | exact Or.inr ⟨rfl, by omega⟩) dX13_isEntry_46 (by omega) (by first | (exfalso; omega) | (unfold m_ti bi; (repeat (first | rw [if_pos (by omega)] | rw [if_neg (by omega)])); exact ⟨rfl, rfl⟩))
    ·
      refine X_iconst 42 hO dX13_isEntry_41 rfl ?_
      refine X_goto hO dX13_isEntry_42 (tgt := 46) rfl ?_
      exact XM_iret hO hF hR rfl (by first | exact Or.inl rfl | exact Or.inr ⟨rfl, bi_01 _⟩ | exact Or.inr ⟨rfl, by omega⟩) dX13_isEntry_46 (by omega) (by first | (exfalso; omega) | (unfold m_ti bi; (repeat (first | rw [if_pos (by omega)] | rw [if_neg (by omega)])); exact ⟨rfl, rfl⟩))
  ·
    try simp only [bi_0, bi_ne, ne_eq, Classical.not_not] at hc_7
    have hcn := hL.cn (s := s) (by omega)
    refine X_iload_n 11 hO dX13_isEntry_10 rfl rfl ?_
    refine X_iconst 12 hO dX13_isEntry_11 rfl ?_
    refine X_aload_n 13 hO dX13_isEntry_12 rfl rfl ?_
    refine ga_22 16 hO hR dX13_isEntry_13 rfl ?_
    refine X_iload_n 17 hO dX13_isEntry_16 rfl rfl ?_
    refine ma_ld (L := 20) (c := 204) 18 hO hR rfl rfl rfl dX13_isEntry_17 rfl (by omega) (by omega) (fun hi_17 => ?_)
    try simp (disch := decide) only [up_k, up_s, step_at, pool_at, poolN_at, opens_at, closes_at, fl_at, del_at, ins_at, rep_at, psh_at, trn_at, tak_at, pEn_at, cpQ_at, cpP_at, cpT_at, ti_at, th_at] at hi_17 ⊢
    refine X_iconst 19 hO dX13_isEntry_18 rfl ?_
    refine X_isub 20 hO dX13_isEntry_19 rfl ?_
    refine XM_callSi 23 hO hD lX13_174 [_, _, _] rfl dX13_isEntry_20 rfl (c_in _ _ _ _ _ (by omega) (by omega) (by omega)) (by decide) (by simp only [List.map_cons, List.map_nil, rv_cat]; exact Nat.le_of_ble_eq_true rfl) (fun r_20 hr_20 hp_20 => ?_)
    subst hp_20
    refine X_if_eq 26 30 hO dX13_isEntry_23 rfl rfl (by omega) (fun hc_23 => ?_) (fun hc_23 => ?_)
    ·
      try simp only [bi_0, bi_ne, ne_eq, Classical.not_not] at hc_23
      refine X_iconst 31 hO dX13_isEntry_30 rfl ?_
      refine pa_171 34 hO hR dX13_isEntry_31 rfl (by omega) (fun hR => ?_)
      refine X_aload_n 35 hO dX13_isEntry_34 rfl rfl ?_
      refine ga_171 38 hO hR dX13_isEntry_35 rfl (fun hi_35 => ?_)
      try simp (disch := decide) only [up_k, up_s, step_at, pool_at, poolN_at, opens_at, closes_at, fl_at, del_at, ins_at, rep_at, psh_at, trn_at, tak_at, pEn_at, cpQ_at, cpP_at, cpT_at, ti_at, th_at] at hi_35 ⊢
      refine X_if_ne 41 45 hO dX13_isEntry_38 rfl rfl (by omega) (fun hc_38 => ?_) (fun hc_38 => ?_)
      ·
        refine X_iconst 46 hO dX13_isEntry_45 rfl ?_
        exact XM_iret hO hF hR rfl (by first | exact Or.inl rfl | exact Or.inr ⟨rfl, bi_01 _⟩ | exact Or.inr ⟨rfl, by omega⟩) dX13_isEntry_46 (by omega) (by first | (exfalso; omega) | (unfold m_ti bi; (repeat (first | rw [if_pos (by omega)] | rw [if_neg (by omega)])); exact ⟨rfl, rfl⟩))
      ·
        refine X_iconst 42 hO dX13_isEntry_41 rfl ?_
        refine X_goto hO dX13_isEntry_42 (tgt := 46) rfl ?_
        exact XM_iret hO hF hR rfl (by first | exact Or.inl rfl | exact Or.inr ⟨rfl, bi_01 _⟩ | exact Or.inr ⟨rfl, by omega⟩) dX13_isEntry_46 (by omega) (by first | (exfalso; omega) | (unfold m_ti bi; (repeat (first | rw [if_pos (by omega)] | rw [if_neg (by omega)])); exact ⟨rfl, rfl⟩))
    ·
      try simp only [bi_0, bi_ne, ne_eq, Classical.not_not] at hc_23
      refine X_iconst 27 hO dX13_isEntry_26 rfl ?_
      refine X_goto hO dX13_isEntry_27 (tgt := 31) rfl ?_
      refine pa_171 34 hO hR dX13_isEntry_31 rfl (by omega) (fun hR => ?_)
      refine X_aload_n 35 hO dX13_isEntry_34 rfl rfl ?_
      refine ga_171 38 hO hR dX13_isEntry_35 rfl (fun hi_35 => ?_)
      try simp (disch := decide) only [up_k, up_s, step_at, pool_at, poolN_at, opens_at, closes_at, fl_at, del_at, ins_at, rep_at, psh_at, trn_at, tak_at, pEn_at, cpQ_at, cpP_at, cpT_at, ti_at, th_at] at hi_35 ⊢
      refine X_if_ne 41 45 hO dX13_isEntry_38 rfl rfl (by omega) (fun hc_38 => ?_) (fun hc_38 => ?_)
      ·
        refine X_iconst 46 hO dX13_isEntry_45 rfl ?_
        exact XM_iret hO hF hR rfl (by first | exact Or.inl rfl | exact Or.inr ⟨rfl, bi_01 _⟩ | exact Or.inr ⟨rfl, by omega⟩) dX13_isEntry_46 (by omega) (by first | (exfalso; omega) | (unfold m_ti bi; (repeat (first | rw [if_pos (by omega)] | rw [if_neg (by omega)])); exact ⟨rfl, rfl⟩))
      ·
        refine X_iconst 42 hO dX13_isEntry_41 rfl ?_
        refine X_goto hO dX13_isEntry_42 (tgt := 46) rfl ?_
        exact XM_iret hO hF hR rfl (by first | exact Or.inl rfl | exact Or.inr ⟨rfl, bi_01 _⟩ | exact Or.inr ⟨rfl, by omega⟩) dX13_isEntry_46 (by omega) (by first | (exfalso; omega) | (unfold m_ti bi; (repeat (first | rw [if_pos (by omega)] | rw [if_neg (by omega)])); exact ⟨rfl, rfl⟩))
def m_mkN (μ : MU) (k v : Int) (w : Mm) : Mm := up (up w 227 0 k v) 129 μ.1 0 (-1)
theorem dX13_marksNode_0 : decode cX13_marksNode 0 = .ok (.aload_n 0, 1) := by decide +kernel
theorem dX13_marksNode_1 : decode cX13_marksNode 1 = .ok (.getfield 99, 3) := by decide +kernel
theorem dX13_marksNode_4 : decode cX13_marksNode 4 = .ok (.iload_n 1, 1) := by decide +kernel
theorem dX13_marksNode_5 : decode cX13_marksNode 5 = .ok (.iaload, 1) := by decide +kernel
theorem dX13_marksNode_6 : decode cX13_marksNode 6 = .ok (.istore_n 3, 1) := by decide +kernel
theorem dX13_marksNode_7 : decode cX13_marksNode 7 = .ok (.aload_n 0, 1) := by decide +kernel
theorem dX13_marksNode_8 : decode cX13_marksNode 8 = .ok (.getfield 99, 3) := by decide +kernel
theorem dX13_marksNode_11 : decode cX13_marksNode 11 = .ok (.iload_n 1, 1) := by decide +kernel
theorem dX13_marksNode_12 : decode cX13_marksNode 12 = .ok (.iload_n 2, 1) := by decide +kernel
theorem dX13_marksNode_13 : decode cX13_marksNode 13 = .ok (.iastore, 1) := by decide +kernel
theorem dX13_marksNode_14 : decode cX13_marksNode 14 = .ok (.aload_n 0, 1) := by decide +kernel
theorem dX13_marksNode_15 : decode cX13_marksNode 15 = .ok (.iconst (-1), 1) := by decide +kernel
theorem dX13_marksNode_16 : decode cX13_marksNode 16 = .ok (.putfield 105, 3) := by decide +kernel
theorem dX13_marksNode_19 : decode cX13_marksNode 19 = .ok (.iload_n 3, 1) := by decide +kernel
theorem dX13_marksNode_20 : decode cX13_marksNode 20 = .ok (.ireturn, 1) := by decide +kernel
set_option maxRecDepth 4000 in
theorem c_marksNode (γ : LC) (μ : MU) (w : Mm) (k v : Int) (hk : 0 ≤ k ∧ k ≤ 4) (hv : IR v) : CMi γ μ 0 mX13_marksNode [.int (I k), .int (I v)] w (fun r w' => r = w 227 0 k ∧ w' = m_mkN μ k v w) := by
  refine CMi_of rfl (by simp [rv_cat, Value.category]) rfl ?_
  rintro κ hO hF rfl hR
  have hD := hF.dp
  show X κ 0 0 w 0 [some (rv μ.1), some (.int (I k)), some (.int (I v)), none] []
  refine X_aload_n 1 hO dX13_marksNode_0 rfl rfl ?_
  refine ga_99 4 hO hR dX13_marksNode_1 rfl ?_
  refine X_iload_n 5 hO dX13_marksNode_4 rfl rfl ?_
  refine ma_ld (L := 5) (c := 227) 6 hO hR rfl rfl rfl dX13_marksNode_5 rfl (by omega) (by omega) (fun hi_5 => ?_)
  refine X_istore_n 7 hO dX13_marksNode_6 rfl rfl ?_
  refine X_aload_n 8 hO dX13_marksNode_7 rfl rfl ?_
  refine ga_99 11 hO hR dX13_marksNode_8 rfl ?_
  refine X_iload_n 12 hO dX13_marksNode_11 rfl rfl ?_
  refine X_iload_n 13 hO dX13_marksNode_12 rfl rfl ?_
  refine ma_st (L := 5) (c := 227) 14 hO hR rfl rfl rfl dX13_marksNode_13 rfl (by omega) (by omega) (by omega) (fun hR => ?_)
  refine X_aload_n 15 hO dX13_marksNode_14 rfl rfl ?_
  refine X_iconst 16 hO dX13_marksNode_15 rfl ?_
  refine pa_105 19 hO hR dX13_marksNode_16 rfl (by omega) (fun hR => ?_)
  refine X_iload_n 20 hO dX13_marksNode_19 rfl rfl ?_
  exact XM_iret hO hF hR rfl (by first | exact Or.inl rfl | exact Or.inr ⟨rfl, bi_01 _⟩ | exact Or.inr ⟨rfl, by omega⟩) dX13_marksNode_20 (by assumption) ⟨rfl, rfl⟩
def o_setBookmark (μ : MU) (c : Int) (w : Mm) : Int × Mm := if 0 ≤ c ∧ c ≤ 4 then (w 227 0 c, m_mkN μ c (w 126 μ.1 0) (m_ti μ (0 ≤ c ∧ c ≤ 4) w)) else (0, m_ti μ (0 ≤ c ∧ c ≤ 4) w)
theorem dX13_setBookmark_0 : decode cX13_setBookmark 0 = .ok (.aload_n 0, 1) := by decide +kernel
theorem dX13_setBookmark_1 : decode cX13_setBookmark 1 = .ok (.iload_n 1, 1) := by decide +kernel
theorem dX13_setBookmark_2 : decode cX13_setBookmark 2 = .ok (.invokevirtual 433, 3) := by decide +kernel
theorem dX13_setBookmark_5 : decode cX13_setBookmark 5 = .ok (.ifCond .eq 15, 3) := by decide +kernel
theorem dX13_setBookmark_8 : decode cX13_setBookmark 8 = .ok (.aload_n 0, 1) := by decide +kernel
theorem dX13_setBookmark_9 : decode cX13_setBookmark 9 = .ok (.iload_n 1, 1) := by decide +kernel
theorem dX13_setBookmark_10 : decode cX13_setBookmark 10 = .ok (.aload_n 0, 1) := by decide +kernel
theorem dX13_setBookmark_11 : decode cX13_setBookmark 11 = .ok (.getfield 258, 3) := by decide +kernel
theorem dX13_setBookmark_14 : decode cX13_setBookmark 14 = .ok (.invokevirtual 436, 3) := by decide +kernel
theorem dX13_setBookmark_17 : decode cX13_setBookmark 17 = .ok (.goto 4, 3) := by decide +kernel
theorem dX13_setBookmark_20 : decode cX13_setBookmark 20 = .ok (.iconst 0, 1) := by decide +kernel
theorem dX13_setBookmark_21 : decode cX13_setBookmark 21 = .ok (.ireturn, 1) := by decide +kernel
set_option maxRecDepth 4000 in
theorem c_setBookmark (γ : LC) (μ : MU) (w : Mm) (c : Int) (S P M : Int) (hc : IR c) (hR0 : RB μ S P M w) (hS : S ≤ 28900) (hP : P ≤ 500000) (hM : M ≤ 590) : CMi γ μ 2 mX13_setBookmark [.int (I c)] w (fun r w' => r = (o_setBookmark μ c w).1 ∧ w' = (o_setBookmark μ c w).2) := by
  refine CMi_of rfl (by simp [rv_cat, Value.category]) rfl ?_
  rintro κ hO hF rfl hR
  have hD := hF.dp
  show X κ 0 0 w 0 [some (rv μ.1), some (.int (I c))] []
  have hL := hR0.1
  obtain ⟨f1, f2, f3, f4, f5⟩ := hR0.1.f
  obtain ⟨t1, t2, t3, t4, t5, t6, t7⟩ := hR0.2.1.2.2.2.1
  refine X_aload_n 1 hO dX13_setBookmark_0 rfl rfl ?_
  refine X_iload_n 2 hO dX13_setBookmark_1 rfl rfl ?_
  refine XM_callVi 5 hO hD hR lX13_433 [_] rfl dX13_setBookmark_2 rfl (c_isBookmark _ _ _ _ _ _ _ (by omega) hR0 hS hP hM) (by decide) (by simp only [List.map_cons, List.map_nil, rv_cat]; exact Nat.le_of_ble_eq_true rfl) (fun r_2 w_2 hr_2 hp_2 hR => ?_)
  obtain ⟨e1_2, e2_2⟩ := hp_2
  subst e1_2
  subst e2_2
  refine X_if_eq 8 20 hO dX13_setBookmark_5 rfl rfl (by omega) (fun hc_5 => ?_) (fun hc_5 => ?_)
  ·
    try simp only [bi_0, bi_ne, ne_eq, Classical.not_not] at hc_5
    refine X_iconst 21 hO dX13_setBookmark_20 rfl ?_
    exact XM_iret hO hF hR rfl (by first | exact Or.inl rfl | exact Or.inr ⟨rfl, bi_01 _⟩ | exact Or.inr ⟨rfl, by omega⟩) dX13_setBookmark_21 (by first | assumption | omega | exact I_rng _) (by first | (exfalso; omega) | (unfold o_setBookmark ; (try unfold m_ti); (try unfold m_th); (repeat (first | rw [if_pos (by omega)] | rw [if_neg (by omega)])); exact ⟨rfl, rfl⟩))
  ·
    try simp only [bi_0, bi_ne, ne_eq, Classical.not_not] at hc_5
    refine X_aload_n 9 hO dX13_setBookmark_8 rfl rfl ?_
    refine X_iload_n 10 hO dX13_setBookmark_9 rfl rfl ?_
    refine X_aload_n 11 hO dX13_setBookmark_10 rfl rfl ?_
    refine ga_258 14 hO hR dX13_setBookmark_11 rfl (fun hi_11 => ?_)
    try simp (disch := decide) only [up_k, up_s, step_at, pool_at, poolN_at, opens_at, closes_at, fl_at, del_at, ins_at, rep_at, psh_at, trn_at, tak_at, pEn_at, cpQ_at, cpP_at, cpT_at, ti_at, th_at] at hi_11 ⊢
    refine XM_callVi 17 hO hD hR lX13_436 [_, _] rfl dX13_setBookmark_14 rfl (c_marksNode _ _ _ _ _ (by omega) (by omega)) (by decide) (by simp only [List.map_cons, List.map_nil, rv_cat]; exact Nat.le_of_ble_eq_true rfl) (fun r_14 w_14 hr_14 hp_14 hR => ?_)
    obtain ⟨e1_14, e2_14⟩ := hp_14
    subst e1_14
    subst e2_14
    rw [ti_at (by decide)]
    refine X_goto hO dX13_setBookmark_17 (tgt := 21) rfl ?_
    exact XM_iret hO hF hR rfl (by first | exact Or.inl rfl | exact Or.inr ⟨rfl, bi_01 _⟩ | exact Or.inr ⟨rfl, by omega⟩) dX13_setBookmark_21 (by first | assumption | omega | exact I_rng _) (by first | (exfalso; omega) | (unfold o_setBookmark ; (try unfold m_ti); (try unfold m_th); (repeat (first | rw [if_pos (by omega)] | rw [if_neg (by omega)])); exact ⟨rfl, rfl⟩))
def o_clearBookmark (μ : MU) (c : Int) (w : Mm) : Int × Mm := if 0 ≤ c ∧ c ≤ 4 then (w 227 0 c, m_mkN μ c (-1) (m_ti μ (0 ≤ c ∧ c ≤ 4) w)) else (0, m_ti μ (0 ≤ c ∧ c ≤ 4) w)
theorem dX13_clearBookmark_0 : decode cX13_clearBookmark 0 = .ok (.aload_n 0, 1) := by decide +kernel
theorem dX13_clearBookmark_1 : decode cX13_clearBookmark 1 = .ok (.iload_n 1, 1) := by decide +kernel
theorem dX13_clearBookmark_2 : decode cX13_clearBookmark 2 = .ok (.invokevirtual 433, 3) := by decide +kernel
theorem dX13_clearBookmark_5 : decode cX13_clearBookmark 5 = .ok (.ifCond .eq 12, 3) := by decide +kernel
theorem dX13_clearBookmark_8 : decode cX13_clearBookmark 8 = .ok (.aload_n 0, 1) := by decide +kernel
theorem dX13_clearBookmark_9 : decode cX13_clearBookmark 9 = .ok (.iload_n 1, 1) := by decide +kernel
theorem dX13_clearBookmark_10 : decode cX13_clearBookmark 10 = .ok (.iconst (-1), 1) := by decide +kernel
theorem dX13_clearBookmark_11 : decode cX13_clearBookmark 11 = .ok (.invokevirtual 436, 3) := by decide +kernel
theorem dX13_clearBookmark_14 : decode cX13_clearBookmark 14 = .ok (.goto 4, 3) := by decide +kernel
theorem dX13_clearBookmark_17 : decode cX13_clearBookmark 17 = .ok (.iconst 0, 1) := by decide +kernel
theorem dX13_clearBookmark_18 : decode cX13_clearBookmark 18 = .ok (.ireturn, 1) := by decide +kernel
set_option maxRecDepth 4000 in
theorem c_clearBookmark (γ : LC) (μ : MU) (w : Mm) (c : Int) (S P M : Int) (hc : IR c) (hR0 : RB μ S P M w) (hS : S ≤ 28900) (hP : P ≤ 500000) (hM : M ≤ 590) : CMi γ μ 2 mX13_clearBookmark [.int (I c)] w (fun r w' => r = (o_clearBookmark μ c w).1 ∧ w' = (o_clearBookmark μ c w).2) := by
  refine CMi_of rfl (by simp [rv_cat, Value.category]) rfl ?_
  rintro κ hO hF rfl hR
  have hD := hF.dp
  show X κ 0 0 w 0 [some (rv μ.1), some (.int (I c))] []
  have hL := hR0.1
  obtain ⟨f1, f2, f3, f4, f5⟩ := hR0.1.f
  obtain ⟨t1, t2, t3, t4, t5, t6, t7⟩ := hR0.2.1.2.2.2.1
  refine X_aload_n 1 hO dX13_clearBookmark_0 rfl rfl ?_
  refine X_iload_n 2 hO dX13_clearBookmark_1 rfl rfl ?_
  refine XM_callVi 5 hO hD hR lX13_433 [_] rfl dX13_clearBookmark_2 rfl (c_isBookmark _ _ _ _ _ _ _ (by omega) hR0 hS hP hM) (by decide) (by simp only [List.map_cons, List.map_nil, rv_cat]; exact Nat.le_of_ble_eq_true rfl) (fun r_2 w_2 hr_2 hp_2 hR => ?_)
  obtain ⟨e1_2, e2_2⟩ := hp_2
  subst e1_2
  subst e2_2
  refine X_if_eq 8 17 hO dX13_clearBookmark_5 rfl rfl (by omega) (fun hc_5 => ?_) (fun hc_5 => ?_)
  ·
    try simp only [bi_0, bi_ne, ne_eq, Classical.not_not] at hc_5
    refine X_iconst 18 hO dX13_clearBookmark_17 rfl ?_
    exact XM_iret hO hF hR rfl (by first | exact Or.inl rfl | exact Or.inr ⟨rfl, bi_01 _⟩ | exact Or.inr ⟨rfl, by omega⟩) dX13_clearBookmark_18 (by first | assumption | omega | exact I_rng _) (by first | (exfalso; omega) | (unfold o_clearBookmark ; (try unfold m_ti); (try unfold m_th); (repeat (first | rw [if_pos (by omega)] | rw [if_neg (by omega)])); exact ⟨rfl, rfl⟩))
  ·
    try simp only [bi_0, bi_ne, ne_eq, Classical.not_not] at hc_5
    refine X_aload_n 9 hO dX13_clearBookmark_8 rfl rfl ?_
    refine X_iload_n 10 hO dX13_clearBookmark_9 rfl rfl ?_
    refine X_iconst 11 hO dX13_clearBookmark_10 rfl ?_
    refine XM_callVi 14 hO hD hR lX13_436 [_, _] rfl dX13_clearBookmark_11 rfl (c_marksNode _ _ _ _ _ (by omega) (by omega)) (by decide) (by simp only [List.map_cons, List.map_nil, rv_cat]; exact Nat.le_of_ble_eq_true rfl) (fun r_11 w_11 hr_11 hp_11 hR => ?_)
    obtain ⟨e1_11, e2_11⟩ := hp_11
    subst e1_11
    subst e2_11
    rw [ti_at (by decide)]
    refine X_goto hO dX13_clearBookmark_14 (tgt := 18) rfl ?_
    exact XM_iret hO hF hR rfl (by first | exact Or.inl rfl | exact Or.inr ⟨rfl, bi_01 _⟩ | exact Or.inr ⟨rfl, by omega⟩) dX13_clearBookmark_18 (by first | assumption | omega | exact I_rng _) (by first | (exfalso; omega) | (unfold o_clearBookmark ; (try unfold m_ti); (try unfold m_th); (repeat (first | rw [if_pos (by omega)] | rw [if_neg (by omega)])); exact ⟨rfl, rfl⟩))
def o_listen (μ : MU) (c a b d : Int) (w : Mm) : Mm := if 0 ≤ c ∧ c ≤ 2 then (if isC a ∧ isC b ∧ (0 ≤ d ∧ d ≤ 9) ∧ a ≠ b then up (up (up (up (up (m_th μ 0 w) 228 0 c 1) 229 0 c a) 230 0 c b) 231 0 c d) 129 μ.1 0 (-1) else m_th μ 2 w) else m_th μ 1 w
theorem dX13_listen_0 : decode cX13_listen 0 = .ok (.aload_n 0, 1) := by decide +kernel
theorem dX13_listen_1 : decode cX13_listen 1 = .ok (.iload_n 1, 1) := by decide +kernel
theorem dX13_listen_2 : decode cX13_listen 2 = .ok (.iconst 0, 1) := by decide +kernel
theorem dX13_listen_3 : decode cX13_listen 3 = .ok (.iconst 2, 1) := by decide +kernel
theorem dX13_listen_4 : decode cX13_listen 4 = .ok (.invokestatic 174, 3) := by decide +kernel
theorem dX13_listen_7 : decode cX13_listen 7 = .ok (.ifCond .ne 7, 3) := by decide +kernel
theorem dX13_listen_10 : decode cX13_listen 10 = .ok (.iconst 1, 1) := by decide +kernel
theorem dX13_listen_11 : decode cX13_listen 11 = .ok (.goto 38, 3) := by decide +kernel
theorem dX13_listen_14 : decode cX13_listen 14 = .ok (.iload_n 2, 1) := by decide +kernel
theorem dX13_listen_15 : decode cX13_listen 15 = .ok (.invokestatic 366, 3) := by decide +kernel
theorem dX13_listen_18 : decode cX13_listen 18 = .ok (.ifCond .eq 26, 3) := by decide +kernel
theorem dX13_listen_21 : decode cX13_listen 21 = .ok (.iload_n 3, 1) := by decide +kernel
theorem dX13_listen_22 : decode cX13_listen 22 = .ok (.invokestatic 366, 3) := by decide +kernel
theorem dX13_listen_25 : decode cX13_listen 25 = .ok (.ifCond .eq 19, 3) := by decide +kernel
theorem dX13_listen_28 : decode cX13_listen 28 = .ok (.iload 4, 2) := by decide +kernel
theorem dX13_listen_30 : decode cX13_listen 30 = .ok (.iconst 0, 1) := by decide +kernel
theorem dX13_listen_31 : decode cX13_listen 31 = .ok (.bipush 9, 2) := by decide +kernel
theorem dX13_listen_33 : decode cX13_listen 33 = .ok (.invokestatic 174, 3) := by decide +kernel
theorem dX13_listen_36 : decode cX13_listen 36 = .ok (.ifCond .eq 8, 3) := by decide +kernel
theorem dX13_listen_39 : decode cX13_listen 39 = .ok (.iload_n 2, 1) := by decide +kernel
theorem dX13_listen_40 : decode cX13_listen 40 = .ok (.iload_n 3, 1) := by decide +kernel
theorem dX13_listen_41 : decode cX13_listen 41 = .ok (.if_icmp .ne 7, 3) := by decide +kernel
theorem dX13_listen_44 : decode cX13_listen 44 = .ok (.iconst 2, 1) := by decide +kernel
theorem dX13_listen_45 : decode cX13_listen 45 = .ok (.goto 4, 3) := by decide +kernel
theorem dX13_listen_48 : decode cX13_listen 48 = .ok (.iconst 0, 1) := by decide +kernel
theorem dX13_listen_49 : decode cX13_listen 49 = .ok (.putfield 171, 3) := by decide +kernel
theorem dX13_listen_52 : decode cX13_listen 52 = .ok (.aload_n 0, 1) := by decide +kernel
theorem dX13_listen_53 : decode cX13_listen 53 = .ok (.getfield 171, 3) := by decide +kernel
theorem dX13_listen_56 : decode cX13_listen 56 = .ok (.ifCond .ne 37, 3) := by decide +kernel
theorem dX13_listen_59 : decode cX13_listen 59 = .ok (.aload_n 0, 1) := by decide +kernel
theorem dX13_listen_60 : decode cX13_listen 60 = .ok (.getfield 108, 3) := by decide +kernel
theorem dX13_listen_63 : decode cX13_listen 63 = .ok (.iload_n 1, 1) := by decide +kernel
theorem dX13_listen_64 : decode cX13_listen 64 = .ok (.iconst 1, 1) := by decide +kernel
theorem dX13_listen_65 : decode cX13_listen 65 = .ok (.iastore, 1) := by decide +kernel
theorem dX13_listen_66 : decode cX13_listen 66 = .ok (.aload_n 0, 1) := by decide +kernel
theorem dX13_listen_67 : decode cX13_listen 67 = .ok (.getfield 111, 3) := by decide +kernel
theorem dX13_listen_70 : decode cX13_listen 70 = .ok (.iload_n 1, 1) := by decide +kernel
theorem dX13_listen_71 : decode cX13_listen 71 = .ok (.iload_n 2, 1) := by decide +kernel
theorem dX13_listen_72 : decode cX13_listen 72 = .ok (.iastore, 1) := by decide +kernel
theorem dX13_listen_73 : decode cX13_listen 73 = .ok (.aload_n 0, 1) := by decide +kernel
theorem dX13_listen_74 : decode cX13_listen 74 = .ok (.getfield 114, 3) := by decide +kernel
theorem dX13_listen_77 : decode cX13_listen 77 = .ok (.iload_n 1, 1) := by decide +kernel
theorem dX13_listen_78 : decode cX13_listen 78 = .ok (.iload_n 3, 1) := by decide +kernel
theorem dX13_listen_79 : decode cX13_listen 79 = .ok (.iastore, 1) := by decide +kernel
theorem dX13_listen_80 : decode cX13_listen 80 = .ok (.aload_n 0, 1) := by decide +kernel
theorem dX13_listen_81 : decode cX13_listen 81 = .ok (.getfield 117, 3) := by decide +kernel
theorem dX13_listen_84 : decode cX13_listen 84 = .ok (.iload_n 1, 1) := by decide +kernel
theorem dX13_listen_85 : decode cX13_listen 85 = .ok (.iload 4, 2) := by decide +kernel
theorem dX13_listen_87 : decode cX13_listen 87 = .ok (.iastore, 1) := by decide +kernel
theorem dX13_listen_88 : decode cX13_listen 88 = .ok (.aload_n 0, 1) := by decide +kernel
theorem dX13_listen_89 : decode cX13_listen 89 = .ok (.iconst (-1), 1) := by decide +kernel
theorem dX13_listen_90 : decode cX13_listen 90 = .ok (.putfield 105, 3) := by decide +kernel
theorem dX13_listen_93 : decode cX13_listen 93 = .ok (.return_, 1) := by decide +kernel
set_option maxRecDepth 4000 in
theorem c_listen (γ : LC) (μ : MU) (w : Mm) (c a b d : Int) (S P M : Int) (hc : IR c) (ha : IR a) (hb : IR b) (hd : IR d) (hR0 : RB μ S P M w) (hS : S ≤ 28900) (hP : P ≤ 500000) (hM : M ≤ 590) : CMv γ μ 2 mX13_listen [.int (I c), .int (I a), .int (I b), .int (I d)] w (fun w' => w' = o_listen μ c a b d w) := by
  refine CMv_of rfl (by simp [rv_cat, Value.category]) rfl ?_
  rintro κ hO hF rfl hR
  have hD := hF.dp
  show X κ 0 0 w 0 [some (rv μ.1), some (.int (I c)), some (.int (I a)), some (.int (I b)), some (.int (I d))] []
  have hL := hR0.1
  obtain ⟨f1, f2, f3, f4, f5⟩ := hR0.1.f
  obtain ⟨t1, t2, t3, t4, t5, t6, t7⟩ := hR0.2.1.2.2.2.1
  refine X_aload_n 1 hO dX13_listen_0 rfl rfl ?_
  refine X_iload_n 2 hO dX13_listen_1 rfl rfl ?_
  refine X_iconst 3 hO dX13_listen_2 rfl ?_
  refine X_iconst 4 hO dX13_listen_3 rfl ?_
  refine XM_callSi 7 hO hD lX13_174 [_, _, _] rfl dX13_listen_4 rfl (c_in _ _ _ _ _ (by omega) (by omega) (by omega)) (by decide) (by simp only [List.map_cons, List.map_nil, rv_cat]; exact Nat.le_of_ble_eq_true rfl) (fun r_4 hr_4 hp_4 => ?_)
  subst hp_4
  refine X_if_ne 10 14 hO dX13_listen_7 rfl rfl (by omega) (fun hc_7 => ?_) (fun hc_7 => ?_)
  ·
    try simp only [bi_0, bi_ne, ne_eq, Classical.not_not] at hc_7
    refine X_iload_n 15 hO dX13_listen_14 rfl rfl ?_
    refine XM_callSi 18 hO hD lX13_366 [_] rfl dX13_listen_15 rfl (c_isCharacter _ _ _ (by omega)) (by decide) (by simp only [List.map_cons, List.map_nil, rv_cat]; exact Nat.le_of_ble_eq_true rfl) (fun r_15 hr_15 hp_15 => ?_)
    subst hp_15
    refine X_if_eq 21 44 hO dX13_listen_18 rfl rfl (by omega) (fun hc_18 => ?_) (fun hc_18 => ?_)
    ·
      try simp only [bi_0, bi_ne, ne_eq, Classical.not_not] at hc_18
      refine X_iconst 45 hO dX13_listen_44 rfl ?_
      refine X_goto hO dX13_listen_45 (tgt := 49) rfl ?_
      refine pa_171 52 hO hR dX13_listen_49 rfl (by omega) (fun hR => ?_)
      refine X_aload_n 53 hO dX13_listen_52 rfl rfl ?_
      refine ga_171 56 hO hR dX13_listen_53 rfl (fun hi_53 => ?_)
      try simp (disch := decide) only [up_k, up_s, step_at, pool_at, poolN_at, opens_at, closes_at, fl_at, del_at, ins_at, rep_at, psh_at, trn_at, tak_at, pEn_at, cpQ_at, cpP_at, cpT_at, ti_at, th_at] at hi_53 ⊢
      refine X_if_ne 59 93 hO dX13_listen_56 rfl rfl (by omega) (fun hc_56 => ?_) (fun hc_56 => ?_)
      ·
        exact XM_vret hO hF hR rfl dX13_listen_93 (by first | (exfalso; omega) | (unfold o_listen ; (try unfold m_ti); (try unfold m_th); (repeat (first | rfl | rw [if_pos (by omega)] | rw [if_neg (by omega)]))))
      ·
        refine X_aload_n 60 hO dX13_listen_59 rfl rfl ?_
        refine ga_108 63 hO hR dX13_listen_60 rfl ?_
        refine X_iload_n 64 hO dX13_listen_63 rfl rfl ?_
        refine X_iconst 65 hO dX13_listen_64 rfl ?_
        refine ma_st (L := 3) (c := 228) 66 hO hR rfl rfl rfl dX13_listen_65 rfl (by omega) (by omega) (by omega) (fun hR => ?_)
        refine X_aload_n 67 hO dX13_listen_66 rfl rfl ?_
        refine ga_111 70 hO hR dX13_listen_67 rfl ?_
        refine X_iload_n 71 hO dX13_listen_70 rfl rfl ?_
        refine X_iload_n 72 hO dX13_listen_71 rfl rfl ?_
        refine ma_st (L := 3) (c := 229) 73 hO hR rfl rfl rfl dX13_listen_72 rfl (by omega) (by omega) (by omega) (fun hR => ?_)
        refine X_aload_n 74 hO dX13_listen_73 rfl rfl ?_
        refine ga_114 77 hO hR dX13_listen_74 rfl ?_
        refine X_iload_n 78 hO dX13_listen_77 rfl rfl ?_
        refine X_iload_n 79 hO dX13_listen_78 rfl rfl ?_
        refine ma_st (L := 3) (c := 230) 80 hO hR rfl rfl rfl dX13_listen_79 rfl (by omega) (by omega) (by omega) (fun hR => ?_)
        refine X_aload_n 81 hO dX13_listen_80 rfl rfl ?_
        refine ga_117 84 hO hR dX13_listen_81 rfl ?_
        refine X_iload_n 85 hO dX13_listen_84 rfl rfl ?_
        refine X_iload 87 hO dX13_listen_85 rfl rfl ?_
        refine ma_st (L := 3) (c := 231) 88 hO hR rfl rfl rfl dX13_listen_87 rfl (by omega) (by omega) (by omega) (fun hR => ?_)
        refine X_aload_n 89 hO dX13_listen_88 rfl rfl ?_
        refine X_iconst 90 hO dX13_listen_89 rfl ?_
        refine pa_105 93 hO hR dX13_listen_90 rfl (by omega) (fun hR => ?_)
        exact XM_vret hO hF hR rfl dX13_listen_93 (by first | (exfalso; omega) | (unfold o_listen ; (try unfold m_ti); (try unfold m_th); (repeat (first | rfl | rw [if_pos (by omega)] | rw [if_neg (by omega)]))))
    ·
      try simp only [bi_0, bi_ne, ne_eq, Classical.not_not] at hc_18
      refine X_iload_n 22 hO dX13_listen_21 rfl rfl ?_
      refine XM_callSi 25 hO hD lX13_366 [_] rfl dX13_listen_22 rfl (c_isCharacter _ _ _ (by omega)) (by decide) (by simp only [List.map_cons, List.map_nil, rv_cat]; exact Nat.le_of_ble_eq_true rfl) (fun r_22 hr_22 hp_22 => ?_)
      subst hp_22
      refine X_if_eq 28 44 hO dX13_listen_25 rfl rfl (by omega) (fun hc_25 => ?_) (fun hc_25 => ?_)
      ·
        try simp only [bi_0, bi_ne, ne_eq, Classical.not_not] at hc_25
        refine X_iconst 45 hO dX13_listen_44 rfl ?_
        refine X_goto hO dX13_listen_45 (tgt := 49) rfl ?_
        refine pa_171 52 hO hR dX13_listen_49 rfl (by omega) (fun hR => ?_)
        refine X_aload_n 53 hO dX13_listen_52 rfl rfl ?_
        refine ga_171 56 hO hR dX13_listen_53 rfl (fun hi_53 => ?_)
        try simp (disch := decide) only [up_k, up_s, step_at, pool_at, poolN_at, opens_at, closes_at, fl_at, del_at, ins_at, rep_at, psh_at, trn_at, tak_at, pEn_at, cpQ_at, cpP_at, cpT_at, ti_at, th_at] at hi_53 ⊢
        refine X_if_ne 59 93 hO dX13_listen_56 rfl rfl (by omega) (fun hc_56 => ?_) (fun hc_56 => ?_)
        ·
          exact XM_vret hO hF hR rfl dX13_listen_93 (by first | (exfalso; omega) | (unfold o_listen ; (try unfold m_ti); (try unfold m_th); (repeat (first | rfl | rw [if_pos (by omega)] | rw [if_neg (by omega)]))))
        ·
          refine X_aload_n 60 hO dX13_listen_59 rfl rfl ?_
          refine ga_108 63 hO hR dX13_listen_60 rfl ?_
          refine X_iload_n 64 hO dX13_listen_63 rfl rfl ?_
          refine X_iconst 65 hO dX13_listen_64 rfl ?_
          refine ma_st (L := 3) (c := 228) 66 hO hR rfl rfl rfl dX13_listen_65 rfl (by omega) (by omega) (by omega) (fun hR => ?_)
          refine X_aload_n 67 hO dX13_listen_66 rfl rfl ?_
          refine ga_111 70 hO hR dX13_listen_67 rfl ?_
          refine X_iload_n 71 hO dX13_listen_70 rfl rfl ?_
          refine X_iload_n 72 hO dX13_listen_71 rfl rfl ?_
          refine ma_st (L := 3) (c := 229) 73 hO hR rfl rfl rfl dX13_listen_72 rfl (by omega) (by omega) (by omega) (fun hR => ?_)
          refine X_aload_n 74 hO dX13_listen_73 rfl rfl ?_
          refine ga_114 77 hO hR dX13_listen_74 rfl ?_
          refine X_iload_n 78 hO dX13_listen_77 rfl rfl ?_
          refine X_iload_n 79 hO dX13_listen_78 rfl rfl ?_
          refine ma_st (L := 3) (c := 230) 80 hO hR rfl rfl rfl dX13_listen_79 rfl (by omega) (by omega) (by omega) (fun hR => ?_)
          refine X_aload_n 81 hO dX13_listen_80 rfl rfl ?_
          refine ga_117 84 hO hR dX13_listen_81 rfl ?_
          refine X_iload_n 85 hO dX13_listen_84 rfl rfl ?_
          refine X_iload 87 hO dX13_listen_85 rfl rfl ?_
          refine ma_st (L := 3) (c := 231) 88 hO hR rfl rfl rfl dX13_listen_87 rfl (by omega) (by omega) (by omega) (fun hR => ?_)
          refine X_aload_n 89 hO dX13_listen_88 rfl rfl ?_
          refine X_iconst 90 hO dX13_listen_89 rfl ?_
          refine pa_105 93 hO hR dX13_listen_90 rfl (by omega) (fun hR => ?_)
          exact XM_vret hO hF hR rfl dX13_listen_93 (by first | (exfalso; omega) | (unfold o_listen ; (try unfold m_ti); (try unfold m_th); (repeat (first | rfl | rw [if_pos (by omega)] | rw [if_neg (by omega)]))))
      ·
        try simp only [bi_0, bi_ne, ne_eq, Classical.not_not] at hc_25
        refine X_iload 30 hO dX13_listen_28 rfl rfl ?_
        refine X_iconst 31 hO dX13_listen_30 rfl ?_
        refine X_bipush 33 hO dX13_listen_31 rfl (by decide) ?_
        refine XM_callSi 36 hO hD lX13_174 [_, _, _] rfl dX13_listen_33 rfl (c_in _ _ _ _ _ (by omega) (by omega) (by omega)) (by decide) (by simp only [List.map_cons, List.map_nil, rv_cat]; exact Nat.le_of_ble_eq_true rfl) (fun r_33 hr_33 hp_33 => ?_)
        subst hp_33
        refine X_if_eq 39 44 hO dX13_listen_36 rfl rfl (by omega) (fun hc_36 => ?_) (fun hc_36 => ?_)
        ·
          try simp only [bi_0, bi_ne, ne_eq, Classical.not_not] at hc_36
          refine X_iconst 45 hO dX13_listen_44 rfl ?_
          refine X_goto hO dX13_listen_45 (tgt := 49) rfl ?_
          refine pa_171 52 hO hR dX13_listen_49 rfl (by omega) (fun hR => ?_)
          refine X_aload_n 53 hO dX13_listen_52 rfl rfl ?_
          refine ga_171 56 hO hR dX13_listen_53 rfl (fun hi_53 => ?_)
          try simp (disch := decide) only [up_k, up_s, step_at, pool_at, poolN_at, opens_at, closes_at, fl_at, del_at, ins_at, rep_at, psh_at, trn_at, tak_at, pEn_at, cpQ_at, cpP_at, cpT_at, ti_at, th_at] at hi_53 ⊢
          refine X_if_ne 59 93 hO dX13_listen_56 rfl rfl (by omega) (fun hc_56 => ?_) (fun hc_56 => ?_)
          ·
            exact XM_vret hO hF hR rfl dX13_listen_93 (by first | (exfalso; omega) | (unfold o_listen ; (try unfold m_ti); (try unfold m_th); (repeat (first | rfl | rw [if_pos (by omega)] | rw [if_neg (by omega)]))))
          ·
            refine X_aload_n 60 hO dX13_listen_59 rfl rfl ?_
            refine ga_108 63 hO hR dX13_listen_60 rfl ?_
            refine X_iload_n 64 hO dX13_listen_63 rfl rfl ?_
            refine X_iconst 65 hO dX13_listen_64 rfl ?_
            refine ma_st (L := 3) (c := 228) 66 hO hR rfl rfl rfl dX13_listen_65 rfl (by omega) (by omega) (by omega) (fun hR => ?_)
            refine X_aload_n 67 hO dX13_listen_66 rfl rfl ?_
            refine ga_111 70 hO hR dX13_listen_67 rfl ?_
            refine X_iload_n 71 hO dX13_listen_70 rfl rfl ?_
            refine X_iload_n 72 hO dX13_listen_71 rfl rfl ?_
            refine ma_st (L := 3) (c := 229) 73 hO hR rfl rfl rfl dX13_listen_72 rfl (by omega) (by omega) (by omega) (fun hR => ?_)
            refine X_aload_n 74 hO dX13_listen_73 rfl rfl ?_
            refine ga_114 77 hO hR dX13_listen_74 rfl ?_
            refine X_iload_n 78 hO dX13_listen_77 rfl rfl ?_
            refine X_iload_n 79 hO dX13_listen_78 rfl rfl ?_
            refine ma_st (L := 3) (c := 230) 80 hO hR rfl rfl rfl dX13_listen_79 rfl (by omega) (by omega) (by omega) (fun hR => ?_)
            refine X_aload_n 81 hO dX13_listen_80 rfl rfl ?_
            refine ga_117 84 hO hR dX13_listen_81 rfl ?_
            refine X_iload_n 85 hO dX13_listen_84 rfl rfl ?_
            refine X_iload 87 hO dX13_listen_85 rfl rfl ?_
            refine ma_st (L := 3) (c := 231) 88 hO hR rfl rfl rfl dX13_listen_87 rfl (by omega) (by omega) (by omega) (fun hR => ?_)
            refine X_aload_n 89 hO dX13_listen_88 rfl rfl ?_
            refine X_iconst 90 hO dX13_listen_89 rfl ?_
            refine pa_105 93 hO hR dX13_listen_90 rfl (by omega) (fun hR => ?_)
            exact XM_vret hO hF hR rfl dX13_listen_93 (by first | (exfalso; omega) | (unfold o_listen ; (try unfold m_ti); (try unfold m_th); (repeat (first | rfl | rw [if_pos (by omega)] | rw [if_neg (by omega)]))))
        ·
          try simp only [bi_0, bi_ne, ne_eq, Classical.not_not] at hc_36
          refine X_iload_n 40 hO dX13_listen_39 rfl rfl ?_
          refine X_iload_n 41 hO dX13_listen_40 rfl rfl ?_
          refine X_icmp_ne 44 48 hO dX13_listen_41 rfl rfl (by omega) (by omega) (fun hc_41 => ?_) (fun hc_41 => ?_)
          ·
            refine X_iconst 49 hO dX13_listen_48 rfl ?_
            refine pa_171 52 hO hR dX13_listen_49 rfl (by omega) (fun hR => ?_)
            refine X_aload_n 53 hO dX13_listen_52 rfl rfl ?_
            refine ga_171 56 hO hR dX13_listen_53 rfl (fun hi_53 => ?_)
            try simp (disch := decide) only [up_k, up_s, step_at, pool_at, poolN_at, opens_at, closes_at, fl_at, del_at, ins_at, rep_at, psh_at, trn_at, tak_at, pEn_at, cpQ_at, cpP_at, cpT_at, ti_at, th_at] at hi_53 ⊢
            refine X_if_ne 59 93 hO dX13_listen_56 rfl rfl (by omega) (fun hc_56 => ?_) (fun hc_56 => ?_)
            ·
              exact XM_vret hO hF hR rfl dX13_listen_93 (by first | (exfalso; omega) | (unfold o_listen ; (try unfold m_ti); (try unfold m_th); (repeat (first | rfl | rw [if_pos (by omega)] | rw [if_neg (by omega)]))))
            ·
              refine X_aload_n 60 hO dX13_listen_59 rfl rfl ?_
              refine ga_108 63 hO hR dX13_listen_60 rfl ?_
              refine X_iload_n 64 hO dX13_listen_63 rfl rfl ?_
              refine X_iconst 65 hO dX13_listen_64 rfl ?_
              refine ma_st (L := 3) (c := 228) 66 hO hR rfl rfl rfl dX13_listen_65 rfl (by omega) (by omega) (by omega) (fun hR => ?_)
              refine X_aload_n 67 hO dX13_listen_66 rfl rfl ?_
              refine ga_111 70 hO hR dX13_listen_67 rfl ?_
              refine X_iload_n 71 hO dX13_listen_70 rfl rfl ?_
              refine X_iload_n 72 hO dX13_listen_71 rfl rfl ?_
              refine ma_st (L := 3) (c := 229) 73 hO hR rfl rfl rfl dX13_listen_72 rfl (by omega) (by omega) (by omega) (fun hR => ?_)
              refine X_aload_n 74 hO dX13_listen_73 rfl rfl ?_
              refine ga_114 77 hO hR dX13_listen_74 rfl ?_
              refine X_iload_n 78 hO dX13_listen_77 rfl rfl ?_
              refine X_iload_n 79 hO dX13_listen_78 rfl rfl ?_
              refine ma_st (L := 3) (c := 230) 80 hO hR rfl rfl rfl dX13_listen_79 rfl (by omega) (by omega) (by omega) (fun hR => ?_)
              refine X_aload_n 81 hO dX13_listen_80 rfl rfl ?_
              refine ga_117 84 hO hR dX13_listen_81 rfl ?_
              refine X_iload_n 85 hO dX13_listen_84 rfl rfl ?_
              refine X_iload 87 hO dX13_listen_85 rfl rfl ?_
              refine ma_st (L := 3) (c := 231) 88 hO hR rfl rfl rfl dX13_listen_87 rfl (by omega) (by omega) (by omega) (fun hR => ?_)
              refine X_aload_n 89 hO dX13_listen_88 rfl rfl ?_
              refine X_iconst 90 hO dX13_listen_89 rfl ?_
              refine pa_105 93 hO hR dX13_listen_90 rfl (by omega) (fun hR => ?_)
              exact XM_vret hO hF hR rfl dX13_listen_93 (by first | (exfalso; omega) | (unfold o_listen ; (try unfold m_ti); (try unfold m_th); (repeat (first | rfl | rw [if_pos (by omega)] | rw [if_neg (by omega)]))))
          ·
            refine X_iconst 45 hO dX13_listen_44 rfl ?_
            refine X_goto hO dX13_listen_45 (tgt := 49) rfl ?_
            refine pa_171 52 hO hR dX13_listen_49 rfl (by omega) (fun hR => ?_)
            refine X_aload_n 53 hO dX13_listen_52 rfl rfl ?_
            refine ga_171 56 hO hR dX13_listen_53 rfl (fun hi_53 => ?_)
            try simp (disch := decide) only [up_k, up_s, step_at, pool_at, poolN_at, opens_at, closes_at, fl_at, del_at, ins_at, rep_at, psh_at, trn_at, tak_at, pEn_at, cpQ_at, cpP_at, cpT_at, ti_at, th_at] at hi_53 ⊢
            refine X_if_ne 59 93 hO dX13_listen_56 rfl rfl (by omega) (fun hc_56 => ?_) (fun hc_56 => ?_)
            ·
              exact XM_vret hO hF hR rfl dX13_listen_93 (by first | (exfalso; omega) | (unfold o_listen ; (try unfold m_ti); (try unfold m_th); (repeat (first | rfl | rw [if_pos (by omega)] | rw [if_neg (by omega)]))))
            ·
              refine X_aload_n 60 hO dX13_listen_59 rfl rfl ?_
              refine ga_108 63 hO hR dX13_listen_60 rfl ?_
              refine X_iload_n 64 hO dX13_listen_63 rfl rfl ?_
              refine X_iconst 65 hO dX13_listen_64 rfl ?_
              refine ma_st (L := 3) (c := 228) 66 hO hR rfl rfl rfl dX13_listen_65 rfl (by omega) (by omega) (by omega) (fun hR => ?_)
              refine X_aload_n 67 hO dX13_listen_66 rfl rfl ?_
              refine ga_111 70 hO hR dX13_listen_67 rfl ?_
              refine X_iload_n 71 hO dX13_listen_70 rfl rfl ?_
              refine X_iload_n 72 hO dX13_listen_71 rfl rfl ?_
              refine ma_st (L := 3) (c := 229) 73 hO hR rfl rfl rfl dX13_listen_72 rfl (by omega) (by omega) (by omega) (fun hR => ?_)
              refine X_aload_n 74 hO dX13_listen_73 rfl rfl ?_
              refine ga_114 77 hO hR dX13_listen_74 rfl ?_
              refine X_iload_n 78 hO dX13_listen_77 rfl rfl ?_
              refine X_iload_n 79 hO dX13_listen_78 rfl rfl ?_
              refine ma_st (L := 3) (c := 230) 80 hO hR rfl rfl rfl dX13_listen_79 rfl (by omega) (by omega) (by omega) (fun hR => ?_)
              refine X_aload_n 81 hO dX13_listen_80 rfl rfl ?_
              refine ga_117 84 hO hR dX13_listen_81 rfl ?_
              refine X_iload_n 85 hO dX13_listen_84 rfl rfl ?_
              refine X_iload 87 hO dX13_listen_85 rfl rfl ?_
              refine ma_st (L := 3) (c := 231) 88 hO hR rfl rfl rfl dX13_listen_87 rfl (by omega) (by omega) (by omega) (fun hR => ?_)
              refine X_aload_n 89 hO dX13_listen_88 rfl rfl ?_
              refine X_iconst 90 hO dX13_listen_89 rfl ?_
              refine pa_105 93 hO hR dX13_listen_90 rfl (by omega) (fun hR => ?_)
              exact XM_vret hO hF hR rfl dX13_listen_93 (by first | (exfalso; omega) | (unfold o_listen ; (try unfold m_ti); (try unfold m_th); (repeat (first | rfl | rw [if_pos (by omega)] | rw [if_neg (by omega)]))))
  ·
    try simp only [bi_0, bi_ne, ne_eq, Classical.not_not] at hc_7
    refine X_iconst 11 hO dX13_listen_10 rfl ?_
    refine X_goto hO dX13_listen_11 (tgt := 49) rfl ?_
    refine pa_171 52 hO hR dX13_listen_49 rfl (by omega) (fun hR => ?_)
    refine X_aload_n 53 hO dX13_listen_52 rfl rfl ?_
    refine ga_171 56 hO hR dX13_listen_53 rfl (fun hi_53 => ?_)
    try simp (disch := decide) only [up_k, up_s, step_at, pool_at, poolN_at, opens_at, closes_at, fl_at, del_at, ins_at, rep_at, psh_at, trn_at, tak_at, pEn_at, cpQ_at, cpP_at, cpT_at, ti_at, th_at] at hi_53 ⊢
    refine X_if_ne 59 93 hO dX13_listen_56 rfl rfl (by omega) (fun hc_56 => ?_) (fun hc_56 => ?_)
    ·
      exact XM_vret hO hF hR rfl dX13_listen_93 (by first | (exfalso; omega) | (unfold o_listen ; (try unfold m_ti); (try unfold m_th); (repeat (first | rfl | rw [if_pos (by omega)] | rw [if_neg (by omega)]))))
    ·
      refine X_aload_n 60 hO dX13_listen_59 rfl rfl ?_
      refine ga_108 63 hO hR dX13_listen_60 rfl ?_
      refine X_iload_n 64 hO dX13_listen_63 rfl rfl ?_
      refine X_iconst 65 hO dX13_listen_64 rfl ?_
      refine ma_st (L := 3) (c := 228) 66 hO hR rfl rfl rfl dX13_listen_65 rfl (by omega) (by omega) (by omega) (fun hR => ?_)
      refine X_aload_n 67 hO dX13_listen_66 rfl rfl ?_
      refine ga_111 70 hO hR dX13_listen_67 rfl ?_
      refine X_iload_n 71 hO dX13_listen_70 rfl rfl ?_
      refine X_iload_n 72 hO dX13_listen_71 rfl rfl ?_
      refine ma_st (L := 3) (c := 229) 73 hO hR rfl rfl rfl dX13_listen_72 rfl (by omega) (by omega) (by omega) (fun hR => ?_)
      refine X_aload_n 74 hO dX13_listen_73 rfl rfl ?_
      refine ga_114 77 hO hR dX13_listen_74 rfl ?_
      refine X_iload_n 78 hO dX13_listen_77 rfl rfl ?_
      refine X_iload_n 79 hO dX13_listen_78 rfl rfl ?_
      refine ma_st (L := 3) (c := 230) 80 hO hR rfl rfl rfl dX13_listen_79 rfl (by omega) (by omega) (by omega) (fun hR => ?_)
      refine X_aload_n 81 hO dX13_listen_80 rfl rfl ?_
      refine ga_117 84 hO hR dX13_listen_81 rfl ?_
      refine X_iload_n 85 hO dX13_listen_84 rfl rfl ?_
      refine X_iload 87 hO dX13_listen_85 rfl rfl ?_
      refine ma_st (L := 3) (c := 231) 88 hO hR rfl rfl rfl dX13_listen_87 rfl (by omega) (by omega) (by omega) (fun hR => ?_)
      refine X_aload_n 89 hO dX13_listen_88 rfl rfl ?_
      refine X_iconst 90 hO dX13_listen_89 rfl ?_
      refine pa_105 93 hO hR dX13_listen_90 rfl (by omega) (fun hR => ?_)
      exact XM_vret hO hF hR rfl dX13_listen_93 (by first | (exfalso; omega) | (unfold o_listen ; (try unfold m_ti); (try unfold m_th); (repeat (first | rfl | rw [if_pos (by omega)] | rw [if_neg (by omega)]))))
def o_unlisten (μ : MU) (c : Int) (w : Mm) : Int × Mm := if 0 ≤ c ∧ c ≤ 2 then (bi (w 228 0 c = 1), up (up (m_th μ 0 w) 228 0 c 0) 129 μ.1 0 (-1)) else (0, m_th μ 1 w)
theorem dX13_unlisten_0 : decode cX13_unlisten 0 = .ok (.aload_n 0, 1) := by decide +kernel
theorem dX13_unlisten_1 : decode cX13_unlisten 1 = .ok (.iload_n 1, 1) := by decide +kernel
theorem dX13_unlisten_2 : decode cX13_unlisten 2 = .ok (.iconst 0, 1) := by decide +kernel
theorem dX13_unlisten_3 : decode cX13_unlisten 3 = .ok (.iconst 2, 1) := by decide +kernel
theorem dX13_unlisten_4 : decode cX13_unlisten 4 = .ok (.invokestatic 174, 3) := by decide +kernel
theorem dX13_unlisten_7 : decode cX13_unlisten 7 = .ok (.ifCond .eq 7, 3) := by decide +kernel
theorem dX13_unlisten_10 : decode cX13_unlisten 10 = .ok (.iconst 0, 1) := by decide +kernel
theorem dX13_unlisten_11 : decode cX13_unlisten 11 = .ok (.goto 4, 3) := by decide +kernel
theorem dX13_unlisten_14 : decode cX13_unlisten 14 = .ok (.iconst 1, 1) := by decide +kernel
theorem dX13_unlisten_15 : decode cX13_unlisten 15 = .ok (.putfield 171, 3) := by decide +kernel
theorem dX13_unlisten_18 : decode cX13_unlisten 18 = .ok (.aload_n 0, 1) := by decide +kernel
theorem dX13_unlisten_19 : decode cX13_unlisten 19 = .ok (.getfield 171, 3) := by decide +kernel
theorem dX13_unlisten_22 : decode cX13_unlisten 22 = .ok (.ifCond .le 5, 3) := by decide +kernel
theorem dX13_unlisten_25 : decode cX13_unlisten 25 = .ok (.iconst 0, 1) := by decide +kernel
theorem dX13_unlisten_26 : decode cX13_unlisten 26 = .ok (.ireturn, 1) := by decide +kernel
theorem dX13_unlisten_27 : decode cX13_unlisten 27 = .ok (.aload_n 0, 1) := by decide +kernel
theorem dX13_unlisten_28 : decode cX13_unlisten 28 = .ok (.getfield 108, 3) := by decide +kernel
theorem dX13_unlisten_31 : decode cX13_unlisten 31 = .ok (.iload_n 1, 1) := by decide +kernel
theorem dX13_unlisten_32 : decode cX13_unlisten 32 = .ok (.iaload, 1) := by decide +kernel
theorem dX13_unlisten_33 : decode cX13_unlisten 33 = .ok (.iconst 1, 1) := by decide +kernel
theorem dX13_unlisten_34 : decode cX13_unlisten 34 = .ok (.if_icmp .ne 7, 3) := by decide +kernel
theorem dX13_unlisten_37 : decode cX13_unlisten 37 = .ok (.iconst 1, 1) := by decide +kernel
theorem dX13_unlisten_38 : decode cX13_unlisten 38 = .ok (.goto 4, 3) := by decide +kernel
theorem dX13_unlisten_41 : decode cX13_unlisten 41 = .ok (.iconst 0, 1) := by decide +kernel
theorem dX13_unlisten_42 : decode cX13_unlisten 42 = .ok (.istore_n 2, 1) := by decide +kernel
theorem dX13_unlisten_43 : decode cX13_unlisten 43 = .ok (.aload_n 0, 1) := by decide +kernel
theorem dX13_unlisten_44 : decode cX13_unlisten 44 = .ok (.getfield 108, 3) := by decide +kernel
theorem dX13_unlisten_47 : decode cX13_unlisten 47 = .ok (.iload_n 1, 1) := by decide +kernel
theorem dX13_unlisten_48 : decode cX13_unlisten 48 = .ok (.iconst 0, 1) := by decide +kernel
theorem dX13_unlisten_49 : decode cX13_unlisten 49 = .ok (.iastore, 1) := by decide +kernel
theorem dX13_unlisten_50 : decode cX13_unlisten 50 = .ok (.aload_n 0, 1) := by decide +kernel
theorem dX13_unlisten_51 : decode cX13_unlisten 51 = .ok (.iconst (-1), 1) := by decide +kernel
theorem dX13_unlisten_52 : decode cX13_unlisten 52 = .ok (.putfield 105, 3) := by decide +kernel
theorem dX13_unlisten_55 : decode cX13_unlisten 55 = .ok (.iload_n 2, 1) := by decide +kernel
theorem dX13_unlisten_56 : decode cX13_unlisten 56 = .ok (.ireturn, 1) := by decide +kernel
set_option maxRecDepth 4000 in
theorem c_unlisten (γ : LC) (μ : MU) (w : Mm) (c : Int) (S P M : Int) (hc : IR c) (hR0 : RB μ S P M w) (hS : S ≤ 28900) (hP : P ≤ 500000) (hM : M ≤ 590) : CMi γ μ 1 mX13_unlisten [.int (I c)] w (fun r w' => r = (o_unlisten μ c w).1 ∧ w' = (o_unlisten μ c w).2) := by
  refine CMi_of rfl (by simp [rv_cat, Value.category]) rfl ?_
  rintro κ hO hF rfl hR
  have hD := hF.dp
  show X κ 0 0 w 0 [some (rv μ.1), some (.int (I c)), none] []
  have hL := hR0.1
  obtain ⟨f1, f2, f3, f4, f5⟩ := hR0.1.f
  obtain ⟨t1, t2, t3, t4, t5, t6, t7⟩ := hR0.2.1.2.2.2.1
  refine X_aload_n 1 hO dX13_unlisten_0 rfl rfl ?_
  refine X_iload_n 2 hO dX13_unlisten_1 rfl rfl ?_
  refine X_iconst 3 hO dX13_unlisten_2 rfl ?_
  refine X_iconst 4 hO dX13_unlisten_3 rfl ?_
  refine XM_callSi 7 hO hD lX13_174 [_, _, _] rfl dX13_unlisten_4 rfl (c_in _ _ _ _ _ (by omega) (by omega) (by omega)) (by decide) (by simp only [List.map_cons, List.map_nil, rv_cat]; exact Nat.le_of_ble_eq_true rfl) (fun r_4 hr_4 hp_4 => ?_)
  subst hp_4
  refine X_if_eq 10 14 hO dX13_unlisten_7 rfl rfl (by omega) (fun hc_7 => ?_) (fun hc_7 => ?_)
  ·
    try simp only [bi_0, bi_ne, ne_eq, Classical.not_not] at hc_7
    refine X_iconst 15 hO dX13_unlisten_14 rfl ?_
    refine pa_171 18 hO hR dX13_unlisten_15 rfl (by omega) (fun hR => ?_)
    refine X_aload_n 19 hO dX13_unlisten_18 rfl rfl ?_
    refine ga_171 22 hO hR dX13_unlisten_19 rfl (fun hi_19 => ?_)
    try simp (disch := decide) only [up_k, up_s, step_at, pool_at, poolN_at, opens_at, closes_at, fl_at, del_at, ins_at, rep_at, psh_at, trn_at, tak_at, pEn_at, cpQ_at, cpP_at, cpT_at, ti_at, th_at] at hi_19 ⊢
    refine X_if_le 25 27 hO dX13_unlisten_22 rfl rfl (by omega) (fun hc_22 => ?_) (fun hc_22 => ?_)
    ·
      refine X_aload_n 28 hO dX13_unlisten_27 rfl rfl ?_
      refine ga_108 31 hO hR dX13_unlisten_28 rfl ?_
      refine X_iload_n 32 hO dX13_unlisten_31 rfl rfl ?_
      refine ma_ld (L := 3) (c := 228) 33 hO hR rfl rfl rfl dX13_unlisten_32 rfl (by omega) (by omega) (fun hi_32 => ?_)
      try simp (disch := decide) only [up_k, up_s, step_at, pool_at, poolN_at, opens_at, closes_at, fl_at, del_at, ins_at, rep_at, psh_at, trn_at, tak_at, pEn_at, cpQ_at, cpP_at, cpT_at, ti_at, th_at] at hi_32 ⊢
      refine X_iconst 34 hO dX13_unlisten_33 rfl ?_
      refine X_icmp_ne 37 41 hO dX13_unlisten_34 rfl rfl (by omega) (by omega) (fun hc_34 => ?_) (fun hc_34 => ?_)
      ·
        refine X_iconst 42 hO dX13_unlisten_41 rfl ?_
        refine X_istore_n 43 hO dX13_unlisten_42 rfl rfl ?_
        refine X_aload_n 44 hO dX13_unlisten_43 rfl rfl ?_
        refine ga_108 47 hO hR dX13_unlisten_44 rfl ?_
        refine X_iload_n 48 hO dX13_unlisten_47 rfl rfl ?_
        refine X_iconst 49 hO dX13_unlisten_48 rfl ?_
        refine ma_st (L := 3) (c := 228) 50 hO hR rfl rfl rfl dX13_unlisten_49 rfl (by omega) (by omega) (by omega) (fun hR => ?_)
        refine X_aload_n 51 hO dX13_unlisten_50 rfl rfl ?_
        refine X_iconst 52 hO dX13_unlisten_51 rfl ?_
        refine pa_105 55 hO hR dX13_unlisten_52 rfl (by omega) (fun hR => ?_)
        refine X_iload_n 56 hO dX13_unlisten_55 rfl rfl ?_
        exact XM_iret hO hF hR rfl (by first | exact Or.inl rfl | exact Or.inr ⟨rfl, bi_01 _⟩ | exact Or.inr ⟨rfl, by omega⟩) dX13_unlisten_56 (by first | assumption | omega | exact I_rng _) (by first | (exfalso; omega) | (unfold o_unlisten bi; (try unfold m_ti); (try unfold m_th); (repeat (first | rw [if_pos (by omega)] | rw [if_neg (by omega)])); exact ⟨rfl, rfl⟩))
      ·
        refine X_iconst 38 hO dX13_unlisten_37 rfl ?_
        refine X_goto hO dX13_unlisten_38 (tgt := 42) rfl ?_
        refine X_istore_n 43 hO dX13_unlisten_42 rfl rfl ?_
        refine X_aload_n 44 hO dX13_unlisten_43 rfl rfl ?_
        refine ga_108 47 hO hR dX13_unlisten_44 rfl ?_
        refine X_iload_n 48 hO dX13_unlisten_47 rfl rfl ?_
        refine X_iconst 49 hO dX13_unlisten_48 rfl ?_
        refine ma_st (L := 3) (c := 228) 50 hO hR rfl rfl rfl dX13_unlisten_49 rfl (by omega) (by omega) (by omega) (fun hR => ?_)
        refine X_aload_n 51 hO dX13_unlisten_50 rfl rfl ?_
        refine X_iconst 52 hO dX13_unlisten_51 rfl ?_
        refine pa_105 55 hO hR dX13_unlisten_52 rfl (by omega) (fun hR => ?_)
        refine X_iload_n 56 hO dX13_unlisten_55 rfl rfl ?_
        exact XM_iret hO hF hR rfl (by first | exact Or.inl rfl | exact Or.inr ⟨rfl, bi_01 _⟩ | exact Or.inr ⟨rfl, by omega⟩) dX13_unlisten_56 (by first | assumption | omega | exact I_rng _) (by first | (exfalso; omega) | (unfold o_unlisten bi; (try unfold m_ti); (try unfold m_th); (repeat (first | rw [if_pos (by omega)] | rw [if_neg (by omega)])); exact ⟨rfl, rfl⟩))
    ·
      refine X_iconst 26 hO dX13_unlisten_25 rfl ?_
      exact XM_iret hO hF hR rfl (by first | exact Or.inl rfl | exact Or.inr ⟨rfl, bi_01 _⟩ | exact Or.inr ⟨rfl, by omega⟩) dX13_unlisten_26 (by first | assumption | omega | exact I_rng _) (by first | (exfalso; omega) | (unfold o_unlisten bi; (try unfold m_ti); (try unfold m_th); (repeat (first | rw [if_pos (by omega)] | rw [if_neg (by omega)])); exact ⟨rfl, rfl⟩))
  ·
    try simp only [bi_0, bi_ne, ne_eq, Classical.not_not] at hc_7
    refine X_iconst 11 hO dX13_unlisten_10 rfl ?_
    refine X_goto hO dX13_unlisten_11 (tgt := 15) rfl ?_
    refine pa_171 18 hO hR dX13_unlisten_15 rfl (by omega) (fun hR => ?_)
    refine X_aload_n 19 hO dX13_unlisten_18 rfl rfl ?_
    refine ga_171 22 hO hR dX13_unlisten_19 rfl (fun hi_19 => ?_)
    try simp (disch := decide) only [up_k, up_s, step_at, pool_at, poolN_at, opens_at, closes_at, fl_at, del_at, ins_at, rep_at, psh_at, trn_at, tak_at, pEn_at, cpQ_at, cpP_at, cpT_at, ti_at, th_at] at hi_19 ⊢
    refine X_if_le 25 27 hO dX13_unlisten_22 rfl rfl (by omega) (fun hc_22 => ?_) (fun hc_22 => ?_)
    ·
      refine X_aload_n 28 hO dX13_unlisten_27 rfl rfl ?_
      refine ga_108 31 hO hR dX13_unlisten_28 rfl ?_
      refine X_iload_n 32 hO dX13_unlisten_31 rfl rfl ?_
      refine ma_ld (L := 3) (c := 228) 33 hO hR rfl rfl rfl dX13_unlisten_32 rfl (by omega) (by omega) (fun hi_32 => ?_)
      try simp (disch := decide) only [up_k, up_s, step_at, pool_at, poolN_at, opens_at, closes_at, fl_at, del_at, ins_at, rep_at, psh_at, trn_at, tak_at, pEn_at, cpQ_at, cpP_at, cpT_at, ti_at, th_at] at hi_32 ⊢
      refine X_iconst 34 hO dX13_unlisten_33 rfl ?_
      refine X_icmp_ne 37 41 hO dX13_unlisten_34 rfl rfl (by omega) (by omega) (fun hc_34 => ?_) (fun hc_34 => ?_)
      ·
        refine X_iconst 42 hO dX13_unlisten_41 rfl ?_
        refine X_istore_n 43 hO dX13_unlisten_42 rfl rfl ?_
        refine X_aload_n 44 hO dX13_unlisten_43 rfl rfl ?_
        refine ga_108 47 hO hR dX13_unlisten_44 rfl ?_
        refine X_iload_n 48 hO dX13_unlisten_47 rfl rfl ?_
        refine X_iconst 49 hO dX13_unlisten_48 rfl ?_
        refine ma_st (L := 3) (c := 228) 50 hO hR rfl rfl rfl dX13_unlisten_49 rfl (by omega) (by omega) (by omega) (fun hR => ?_)
        refine X_aload_n 51 hO dX13_unlisten_50 rfl rfl ?_
        refine X_iconst 52 hO dX13_unlisten_51 rfl ?_
        refine pa_105 55 hO hR dX13_unlisten_52 rfl (by omega) (fun hR => ?_)
        refine X_iload_n 56 hO dX13_unlisten_55 rfl rfl ?_
        exact XM_iret hO hF hR rfl (by first | exact Or.inl rfl | exact Or.inr ⟨rfl, bi_01 _⟩ | exact Or.inr ⟨rfl, by omega⟩) dX13_unlisten_56 (by first | assumption | omega | exact I_rng _) (by first | (exfalso; omega) | (unfold o_unlisten bi; (try unfold m_ti); (try unfold m_th); (repeat (first | rw [if_pos (by omega)] | rw [if_neg (by omega)])); exact ⟨rfl, rfl⟩))
      ·
        refine X_iconst 38 hO dX13_unlisten_37 rfl ?_
        refine X_goto hO dX13_unlisten_38 (tgt := 42) rfl ?_
        refine X_istore_n 43 hO dX13_unlisten_42 rfl rfl ?_
        refine X_aload_n 44 hO dX13_unlisten_43 rfl rfl ?_
        refine ga_108 47 hO hR dX13_unlisten_44 rfl ?_
        refine X_iload_n 48 hO dX13_unlisten_47 rfl rfl ?_
        refine X_iconst 49 hO dX13_unlisten_48 rfl ?_
        refine ma_st (L := 3) (c := 228) 50 hO hR rfl rfl rfl dX13_unlisten_49 rfl (by omega) (by omega) (by omega) (fun hR => ?_)
        refine X_aload_n 51 hO dX13_unlisten_50 rfl rfl ?_
        refine X_iconst 52 hO dX13_unlisten_51 rfl ?_
        refine pa_105 55 hO hR dX13_unlisten_52 rfl (by omega) (fun hR => ?_)
        refine X_iload_n 56 hO dX13_unlisten_55 rfl rfl ?_
        exact XM_iret hO hF hR rfl (by first | exact Or.inl rfl | exact Or.inr ⟨rfl, bi_01 _⟩ | exact Or.inr ⟨rfl, by omega⟩) dX13_unlisten_56 (by first | assumption | omega | exact I_rng _) (by first | (exfalso; omega) | (unfold o_unlisten bi; (try unfold m_ti); (try unfold m_th); (repeat (first | rw [if_pos (by omega)] | rw [if_neg (by omega)])); exact ⟨rfl, rfl⟩))
    ·
      refine X_iconst 26 hO dX13_unlisten_25 rfl ?_
      exact XM_iret hO hF hR rfl (by first | exact Or.inl rfl | exact Or.inr ⟨rfl, bi_01 _⟩ | exact Or.inr ⟨rfl, by omega⟩) dX13_unlisten_26 (by first | assumption | omega | exact I_rng _) (by first | (exfalso; omega) | (unfold o_unlisten bi; (try unfold m_ti); (try unfold m_th); (repeat (first | rw [if_pos (by omega)] | rw [if_neg (by omega)])); exact ⟨rfl, rfl⟩))
def o_length (μ : MU)  (w : Mm) : Int × Mm := (w 201 0 0, m_th μ 0 w)
theorem dX13_length_0 : decode cX13_length 0 = .ok (.aload_n 0, 1) := by decide +kernel
theorem dX13_length_1 : decode cX13_length 1 = .ok (.iconst 0, 1) := by decide +kernel
theorem dX13_length_2 : decode cX13_length 2 = .ok (.putfield 171, 3) := by decide +kernel
theorem dX13_length_5 : decode cX13_length 5 = .ok (.aload_n 0, 1) := by decide +kernel
theorem dX13_length_6 : decode cX13_length 6 = .ok (.getfield 13, 3) := by decide +kernel
theorem dX13_length_9 : decode cX13_length 9 = .ok (.iconst 0, 1) := by decide +kernel
theorem dX13_length_10 : decode cX13_length 10 = .ok (.iaload, 1) := by decide +kernel
theorem dX13_length_11 : decode cX13_length 11 = .ok (.ireturn, 1) := by decide +kernel
set_option maxRecDepth 4000 in
theorem c_length (γ : LC) (μ : MU) (w : Mm)  (S P M : Int)  (hR0 : RB μ S P M w) (hS : S ≤ 28900) (hP : P ≤ 500000) (hM : M ≤ 590) : CMi γ μ 0 mX13_length [] w (fun r w' => r = (o_length μ  w).1 ∧ w' = (o_length μ  w).2) := by
  refine CMi_of rfl (by simp [rv_cat, Value.category]) rfl ?_
  rintro κ hO hF rfl hR
  have hD := hF.dp
  show X κ 0 0 w 0 [some (rv μ.1)] []
  have hL := hR0.1
  obtain ⟨f1, f2, f3, f4, f5⟩ := hR0.1.f
  obtain ⟨t1, t2, t3, t4, t5, t6, t7⟩ := hR0.2.1.2.2.2.1
  refine X_aload_n 1 hO dX13_length_0 rfl rfl ?_
  refine X_iconst 2 hO dX13_length_1 rfl ?_
  refine pa_171 5 hO hR dX13_length_2 rfl (by omega) (fun hR => ?_)
  refine X_aload_n 6 hO dX13_length_5 rfl rfl ?_
  refine ga_13 9 hO hR dX13_length_6 rfl ?_
  refine X_iconst 10 hO dX13_length_9 rfl ?_
  refine ma_ld (L := 4) (c := 201) 11 hO hR rfl rfl rfl dX13_length_10 rfl (by omega) (by omega) (fun hi_10 => ?_)
  try simp (disch := decide) only [up_k, up_s, step_at, pool_at, poolN_at, opens_at, closes_at, fl_at, del_at, ins_at, rep_at, psh_at, trn_at, tak_at, pEn_at, cpQ_at, cpP_at, cpT_at, ti_at, th_at] at hi_10 ⊢
  exact XM_iret hO hF hR rfl (by first | exact Or.inl rfl | exact Or.inr ⟨rfl, bi_01 _⟩ | exact Or.inr ⟨rfl, by omega⟩) dX13_length_11 (by first | assumption | omega | exact I_rng _) (by first | (exfalso; omega) | (unfold o_length ; (try unfold m_ti); (try unfold m_th); (repeat (first | rw [if_pos (by omega)] | rw [if_neg (by omega)])); exact ⟨rfl, rfl⟩))
def o_charAt (μ : MU) (c : Int) (w : Mm) : Int × Mm := if 0 ≤ c ∧ c ≤ w 201 0 0 - 1 then (w 200 0 c, m_th μ 0 w) else (0, m_th μ 1 w)
theorem dX13_charAt_0 : decode cX13_charAt 0 = .ok (.aload_n 0, 1) := by decide +kernel
theorem dX13_charAt_1 : decode cX13_charAt 1 = .ok (.iload_n 1, 1) := by decide +kernel
theorem dX13_charAt_2 : decode cX13_charAt 2 = .ok (.iconst 0, 1) := by decide +kernel
theorem dX13_charAt_3 : decode cX13_charAt 3 = .ok (.aload_n 0, 1) := by decide +kernel
theorem dX13_charAt_4 : decode cX13_charAt 4 = .ok (.getfield 13, 3) := by decide +kernel
theorem dX13_charAt_7 : decode cX13_charAt 7 = .ok (.iconst 0, 1) := by decide +kernel
theorem dX13_charAt_8 : decode cX13_charAt 8 = .ok (.iaload, 1) := by decide +kernel
theorem dX13_charAt_9 : decode cX13_charAt 9 = .ok (.iconst 1, 1) := by decide +kernel
theorem dX13_charAt_10 : decode cX13_charAt 10 = .ok (.isub, 1) := by decide +kernel
theorem dX13_charAt_11 : decode cX13_charAt 11 = .ok (.invokestatic 174, 3) := by decide +kernel
theorem dX13_charAt_14 : decode cX13_charAt 14 = .ok (.ifCond .eq 7, 3) := by decide +kernel
theorem dX13_charAt_17 : decode cX13_charAt 17 = .ok (.iconst 0, 1) := by decide +kernel
theorem dX13_charAt_18 : decode cX13_charAt 18 = .ok (.goto 4, 3) := by decide +kernel
theorem dX13_charAt_21 : decode cX13_charAt 21 = .ok (.iconst 1, 1) := by decide +kernel
theorem dX13_charAt_22 : decode cX13_charAt 22 = .ok (.putfield 171, 3) := by decide +kernel
theorem dX13_charAt_25 : decode cX13_charAt 25 = .ok (.aload_n 0, 1) := by decide +kernel
theorem dX13_charAt_26 : decode cX13_charAt 26 = .ok (.getfield 171, 3) := by decide +kernel
theorem dX13_charAt_29 : decode cX13_charAt 29 = .ok (.ifCond .ne 12, 3) := by decide +kernel
theorem dX13_charAt_32 : decode cX13_charAt 32 = .ok (.aload_n 0, 1) := by decide +kernel
theorem dX13_charAt_33 : decode cX13_charAt 33 = .ok (.getfield 7, 3) := by decide +kernel
theorem dX13_charAt_36 : decode cX13_charAt 36 = .ok (.iload_n 1, 1) := by decide +kernel
theorem dX13_charAt_37 : decode cX13_charAt 37 = .ok (.iaload, 1) := by decide +kernel
theorem dX13_charAt_38 : decode cX13_charAt 38 = .ok (.goto 4, 3) := by decide +kernel
theorem dX13_charAt_41 : decode cX13_charAt 41 = .ok (.iconst 0, 1) := by decide +kernel
theorem dX13_charAt_42 : decode cX13_charAt 42 = .ok (.ireturn, 1) := by decide +kernel
set_option maxRecDepth 4000 in
theorem c_charAt (γ : LC) (μ : MU) (w : Mm) (c : Int) (S P M : Int) (hc : IR c) (hR0 : RB μ S P M w) (hS : S ≤ 28900) (hP : P ≤ 500000) (hM : M ≤ 590) : CMi γ μ 1 mX13_charAt [.int (I c)] w (fun r w' => r = (o_charAt μ c w).1 ∧ w' = (o_charAt μ c w).2) := by
  refine CMi_of rfl (by simp [rv_cat, Value.category]) rfl ?_
  rintro κ hO hF rfl hR
  have hD := hF.dp
  show X κ 0 0 w 0 [some (rv μ.1), some (.int (I c))] []
  have hL := hR0.1
  obtain ⟨f1, f2, f3, f4, f5⟩ := hR0.1.f
  obtain ⟨t1, t2, t3, t4, t5, t6, t7⟩ := hR0.2.1.2.2.2.1
  refine X_aload_n 1 hO dX13_charAt_0 rfl rfl ?_
  refine X_iload_n 2 hO dX13_charAt_1 rfl rfl ?_
  refine X_iconst 3 hO dX13_charAt_2 rfl ?_
  refine X_aload_n 4 hO dX13_charAt_3 rfl rfl ?_
  refine ga_13 7 hO hR dX13_charAt_4 rfl ?_
  refine X_iconst 8 hO dX13_charAt_7 rfl ?_
  refine ma_ld (L := 4) (c := 201) 9 hO hR rfl rfl rfl dX13_charAt_8 rfl (by omega) (by omega) (fun hi_8 => ?_)
  try simp (disch := decide) only [up_k, up_s, step_at, pool_at, poolN_at, opens_at, closes_at, fl_at, del_at, ins_at, rep_at, psh_at, trn_at, tak_at, pEn_at, cpQ_at, cpP_at, cpT_at, ti_at, th_at] at hi_8 ⊢
  refine X_iconst 10 hO dX13_charAt_9 rfl ?_
  refine X_isub 11 hO dX13_charAt_10 rfl ?_
  refine XM_callSi 14 hO hD lX13_174 [_, _, _] rfl dX13_charAt_11 rfl (c_in _ _ _ _ _ (by omega) (by omega) (by omega)) (by decide) (by simp only [List.map_cons, List.map_nil, rv_cat]; exact Nat.le_of_ble_eq_true rfl) (fun r_11 hr_11 hp_11 => ?_)
  subst hp_11
  refine X_if_eq 17 21 hO dX13_charAt_14 rfl rfl (by omega) (fun hc_14 => ?_) (fun hc_14 => ?_)
  ·
    try simp only [bi_0, bi_ne, ne_eq, Classical.not_not] at hc_14
    refine X_iconst 22 hO dX13_charAt_21 rfl ?_
    refine pa_171 25 hO hR dX13_charAt_22 rfl (by omega) (fun hR => ?_)
    refine X_aload_n 26 hO dX13_charAt_25 rfl rfl ?_
    refine ga_171 29 hO hR dX13_charAt_26 rfl (fun hi_26 => ?_)
    try simp (disch := decide) only [up_k, up_s, step_at, pool_at, poolN_at, opens_at, closes_at, fl_at, del_at, ins_at, rep_at, psh_at, trn_at, tak_at, pEn_at, cpQ_at, cpP_at, cpT_at, ti_at, th_at] at hi_26 ⊢
    refine X_if_ne 32 41 hO dX13_charAt_29 rfl rfl (by omega) (fun hc_29 => ?_) (fun hc_29 => ?_)
    ·
      refine X_iconst 42 hO dX13_charAt_41 rfl ?_
      exact XM_iret hO hF hR rfl (by first | exact Or.inl rfl | exact Or.inr ⟨rfl, bi_01 _⟩ | exact Or.inr ⟨rfl, by omega⟩) dX13_charAt_42 (by first | assumption | omega | exact I_rng _) (by first | (exfalso; omega) | (unfold o_charAt ; (try unfold m_ti); (try unfold m_th); (repeat (first | rw [if_pos (by omega)] | rw [if_neg (by omega)])); exact ⟨rfl, rfl⟩))
    ·
      refine X_aload_n 33 hO dX13_charAt_32 rfl rfl ?_
      refine ga_7 36 hO hR dX13_charAt_33 rfl ?_
      refine X_iload_n 37 hO dX13_charAt_36 rfl rfl ?_
      refine ma_ld (L := 1600) (c := 200) 38 hO hR rfl rfl rfl dX13_charAt_37 rfl (by omega) (by omega) (fun hi_37 => ?_)
      try simp (disch := decide) only [up_k, up_s, step_at, pool_at, poolN_at, opens_at, closes_at, fl_at, del_at, ins_at, rep_at, psh_at, trn_at, tak_at, pEn_at, cpQ_at, cpP_at, cpT_at, ti_at, th_at] at hi_37 ⊢
      refine X_goto hO dX13_charAt_38 (tgt := 42) rfl ?_
      exact XM_iret hO hF hR rfl (by first | exact Or.inl rfl | exact Or.inr ⟨rfl, bi_01 _⟩ | exact Or.inr ⟨rfl, by omega⟩) dX13_charAt_42 (by first | assumption | omega | exact I_rng _) (by first | (exfalso; omega) | (unfold o_charAt ; (try unfold m_ti); (try unfold m_th); (repeat (first | rw [if_pos (by omega)] | rw [if_neg (by omega)])); exact ⟨rfl, rfl⟩))
  ·
    try simp only [bi_0, bi_ne, ne_eq, Classical.not_not] at hc_14
    refine X_iconst 18 hO dX13_charAt_17 rfl ?_
    refine X_goto hO dX13_charAt_18 (tgt := 22) rfl ?_
    refine pa_171 25 hO hR dX13_charAt_22 rfl (by omega) (fun hR => ?_)
    refine X_aload_n 26 hO dX13_charAt_25 rfl rfl ?_
    refine ga_171 29 hO hR dX13_charAt_26 rfl (fun hi_26 => ?_)
    try simp (disch := decide) only [up_k, up_s, step_at, pool_at, poolN_at, opens_at, closes_at, fl_at, del_at, ins_at, rep_at, psh_at, trn_at, tak_at, pEn_at, cpQ_at, cpP_at, cpT_at, ti_at, th_at] at hi_26 ⊢
    refine X_if_ne 32 41 hO dX13_charAt_29 rfl rfl (by omega) (fun hc_29 => ?_) (fun hc_29 => ?_)
    ·
      refine X_iconst 42 hO dX13_charAt_41 rfl ?_
      exact XM_iret hO hF hR rfl (by first | exact Or.inl rfl | exact Or.inr ⟨rfl, bi_01 _⟩ | exact Or.inr ⟨rfl, by omega⟩) dX13_charAt_42 (by first | assumption | omega | exact I_rng _) (by first | (exfalso; omega) | (unfold o_charAt ; (try unfold m_ti); (try unfold m_th); (repeat (first | rw [if_pos (by omega)] | rw [if_neg (by omega)])); exact ⟨rfl, rfl⟩))
    ·
      refine X_aload_n 33 hO dX13_charAt_32 rfl rfl ?_
      refine ga_7 36 hO hR dX13_charAt_33 rfl ?_
      refine X_iload_n 37 hO dX13_charAt_36 rfl rfl ?_
      refine ma_ld (L := 1600) (c := 200) 38 hO hR rfl rfl rfl dX13_charAt_37 rfl (by omega) (by omega) (fun hi_37 => ?_)
      try simp (disch := decide) only [up_k, up_s, step_at, pool_at, poolN_at, opens_at, closes_at, fl_at, del_at, ins_at, rep_at, psh_at, trn_at, tak_at, pEn_at, cpQ_at, cpP_at, cpT_at, ti_at, th_at] at hi_37 ⊢
      refine X_goto hO dX13_charAt_38 (tgt := 42) rfl ?_
      exact XM_iret hO hF hR rfl (by first | exact Or.inl rfl | exact Or.inr ⟨rfl, bi_01 _⟩ | exact Or.inr ⟨rfl, by omega⟩) dX13_charAt_42 (by first | assumption | omega | exact I_rng _) (by first | (exfalso; omega) | (unfold o_charAt ; (try unfold m_ti); (try unfold m_th); (repeat (first | rw [if_pos (by omega)] | rw [if_neg (by omega)])); exact ⟨rfl, rfl⟩))
def o_point (μ : MU)  (w : Mm) : Int × Mm := (w 207 0 0, m_th μ 0 w)
theorem dX13_point_0 : decode cX13_point 0 = .ok (.aload_n 0, 1) := by decide +kernel
theorem dX13_point_1 : decode cX13_point 1 = .ok (.iconst 0, 1) := by decide +kernel
theorem dX13_point_2 : decode cX13_point 2 = .ok (.putfield 171, 3) := by decide +kernel
theorem dX13_point_5 : decode cX13_point 5 = .ok (.aload_n 0, 1) := by decide +kernel
theorem dX13_point_6 : decode cX13_point 6 = .ok (.getfield 31, 3) := by decide +kernel
theorem dX13_point_9 : decode cX13_point 9 = .ok (.iconst 0, 1) := by decide +kernel
theorem dX13_point_10 : decode cX13_point 10 = .ok (.iaload, 1) := by decide +kernel
theorem dX13_point_11 : decode cX13_point 11 = .ok (.ireturn, 1) := by decide +kernel
set_option maxRecDepth 4000 in
theorem c_point (γ : LC) (μ : MU) (w : Mm)  (S P M : Int)  (hR0 : RB μ S P M w) (hS : S ≤ 28900) (hP : P ≤ 500000) (hM : M ≤ 590) : CMi γ μ 0 mX13_point [] w (fun r w' => r = (o_point μ  w).1 ∧ w' = (o_point μ  w).2) := by
  refine CMi_of rfl (by simp [rv_cat, Value.category]) rfl ?_
  rintro κ hO hF rfl hR
  have hD := hF.dp
  show X κ 0 0 w 0 [some (rv μ.1)] []
  have hL := hR0.1
  obtain ⟨f1, f2, f3, f4, f5⟩ := hR0.1.f
  obtain ⟨t1, t2, t3, t4, t5, t6, t7⟩ := hR0.2.1.2.2.2.1
  refine X_aload_n 1 hO dX13_point_0 rfl rfl ?_
  refine X_iconst 2 hO dX13_point_1 rfl ?_
  refine pa_171 5 hO hR dX13_point_2 rfl (by omega) (fun hR => ?_)
  refine X_aload_n 6 hO dX13_point_5 rfl rfl ?_
  refine ga_31 9 hO hR dX13_point_6 rfl ?_
  refine X_iconst 10 hO dX13_point_9 rfl ?_
  refine ma_ld (L := 4) (c := 207) 11 hO hR rfl rfl rfl dX13_point_10 rfl (by omega) (by omega) (fun hi_10 => ?_)
  try simp (disch := decide) only [up_k, up_s, step_at, pool_at, poolN_at, opens_at, closes_at, fl_at, del_at, ins_at, rep_at, psh_at, trn_at, tak_at, pEn_at, cpQ_at, cpP_at, cpT_at, ti_at, th_at] at hi_10 ⊢
  exact XM_iret hO hF hR rfl (by first | exact Or.inl rfl | exact Or.inr ⟨rfl, bi_01 _⟩ | exact Or.inr ⟨rfl, by omega⟩) dX13_point_11 (by first | assumption | omega | exact I_rng _) (by first | (exfalso; omega) | (unfold o_point ; (try unfold m_ti); (try unfold m_th); (repeat (first | rw [if_pos (by omega)] | rw [if_neg (by omega)])); exact ⟨rfl, rfl⟩))
theorem dX13_feeds_0 : decode cX13_feeds 0 = .ok (.iconst 0, 1) := by decide +kernel
theorem dX13_feeds_1 : decode cX13_feeds 1 = .ok (.istore_n 2, 1) := by decide +kernel
theorem dX13_feeds_2 : decode cX13_feeds 2 = .ok (.iconst 0, 1) := by decide +kernel
theorem dX13_feeds_3 : decode cX13_feeds 3 = .ok (.istore_n 3, 1) := by decide +kernel
theorem dX13_feeds_4 : decode cX13_feeds 4 = .ok (.iload_n 3, 1) := by decide +kernel
theorem dX13_feeds_5 : decode cX13_feeds 5 = .ok (.iload_n 1, 1) := by decide +kernel
theorem dX13_feeds_6 : decode cX13_feeds 6 = .ok (.if_icmp .ge 28, 3) := by decide +kernel
theorem dX13_feeds_9 : decode cX13_feeds 9 = .ok (.iload_n 2, 1) := by decide +kernel
theorem dX13_feeds_10 : decode cX13_feeds 10 = .ok (.aload_n 0, 1) := by decide +kernel
theorem dX13_feeds_11 : decode cX13_feeds 11 = .ok (.getfield 7, 3) := by decide +kernel
theorem dX13_feeds_14 : decode cX13_feeds 14 = .ok (.iload_n 3, 1) := by decide +kernel
theorem dX13_feeds_15 : decode cX13_feeds 15 = .ok (.iaload, 1) := by decide +kernel
theorem dX13_feeds_16 : decode cX13_feeds 16 = .ok (.bipush 10, 2) := by decide +kernel
theorem dX13_feeds_18 : decode cX13_feeds 18 = .ok (.if_icmp .ne 7, 3) := by decide +kernel
theorem dX13_feeds_21 : decode cX13_feeds 21 = .ok (.iconst 1, 1) := by decide +kernel
theorem dX13_feeds_22 : decode cX13_feeds 22 = .ok (.goto 4, 3) := by decide +kernel
theorem dX13_feeds_25 : decode cX13_feeds 25 = .ok (.iconst 0, 1) := by decide +kernel
theorem dX13_feeds_26 : decode cX13_feeds 26 = .ok (.iadd, 1) := by decide +kernel
theorem dX13_feeds_27 : decode cX13_feeds 27 = .ok (.istore_n 2, 1) := by decide +kernel
theorem dX13_feeds_28 : decode cX13_feeds 28 = .ok (.iinc 3 1, 3) := by decide +kernel
theorem dX13_feeds_31 : decode cX13_feeds 31 = .ok (.goto (-27), 3) := by decide +kernel
theorem dX13_feeds_34 : decode cX13_feeds 34 = .ok (.iload_n 2, 1) := by decide +kernel
theorem dX13_feeds_35 : decode cX13_feeds 35 = .ok (.ireturn, 1) := by decide +kernel
set_option maxRecDepth 4000 in
theorem c_feeds (γ : LC) (μ : MU) (w : Mm) (p : Int) (hp : 0 ≤ p ∧ p ≤ 400) : CMi γ μ 0 mX13_feeds [.int (I p)] w (fun r w' => r = m_fee p w ∧ w = w') := by
  refine CMi_of rfl (by simp [rv_cat, Value.category]) rfl ?_
  rintro κ hO hF rfl hR
  have hD := hF.dp
  show X κ 0 0 w 0 [some (rv μ.1), some (.int (I p)), none, none] []
  refine X_iconst 1 hO dX13_feeds_0 rfl ?_
  refine X_istore_n 2 hO dX13_feeds_1 rfl rfl ?_
  refine X_iconst 3 hO dX13_feeds_2 rfl ?_
  refine X_istore_n 4 hO dX13_feeds_3 rfl rfl ?_
  have LP4 : ∀ (n : Nat) (k s : Int), (p - k).toNat < n → (0 ≤ k ∧ k ≤ p) → (0 ≤ s ∧ s ≤ k) → (s = sumN (fun k => bi (w 200 0 k = 10)) k.toNat) → RM (w) μ → X κ 0 0 (w) 4 [some (rv μ.1), some (.int (I p)), some (.int (I s)), some (.int (I k))] [] := by
    intro n
    induction n with
    | zero => intro k s hm; exact absurd hm (Nat.not_lt_zero _)
    | succ n ih =>
      intro k s hm hk hs2 hs hR
      refine X_iload_n 5 hO dX13_feeds_4 rfl rfl ?_
      refine X_iload_n 6 hO dX13_feeds_5 rfl rfl ?_
      refine X_icmp_ge 9 34 hO dX13_feeds_6 rfl rfl (by omega) (by omega) (fun hc_6 => ?_) (fun hc_6 => ?_)
      ·
        have e6 : k = p := by omega
        subst e6
        refine X_iload_n 35 hO dX13_feeds_34 rfl rfl ?_
        exact XM_iret hO hF hR rfl (by first | exact Or.inl rfl | exact Or.inr ⟨rfl, bi_01 _⟩ | exact Or.inr ⟨rfl, by omega⟩) dX13_feeds_35 (by omega) ⟨hs, rfl⟩
      ·
        refine X_iload_n 10 hO dX13_feeds_9 rfl rfl ?_
        refine X_aload_n 11 hO dX13_feeds_10 rfl rfl ?_
        refine ga_7 14 hO hR dX13_feeds_11 rfl ?_
        refine X_iload_n 15 hO dX13_feeds_14 rfl rfl ?_
        refine ma_ld (L := 1600) (c := 200) 16 hO hR rfl rfl rfl dX13_feeds_15 rfl (by omega) (by omega) (fun hi_15 => ?_)
        refine X_bipush 18 hO dX13_feeds_16 rfl (by decide) ?_
        refine X_icmp_ne 21 25 hO dX13_feeds_18 rfl rfl (by omega) (by omega) (fun hc_18 => ?_) (fun hc_18 => ?_)
        ·
          refine X_iconst 26 hO dX13_feeds_25 rfl ?_
          refine X_iadd 27 hO dX13_feeds_26 rfl ?_
          refine X_istore_n 28 hO dX13_feeds_27 rfl rfl ?_
          refine X_iinc 31 hO dX13_feeds_28 rfl rfl ?_
          refine X_goto hO dX13_feeds_31 (tgt := 4) rfl ?_
          exact ih (k + 1) _ (by omega) (by omega) (by omega) (sumN_s (by omega) hs (by unfold bi; first | rw [if_pos (by omega)] | rw [if_neg (by omega)])) hR
        ·
          refine X_iconst 22 hO dX13_feeds_21 rfl ?_
          refine X_goto hO dX13_feeds_22 (tgt := 26) rfl ?_
          refine X_iadd 27 hO dX13_feeds_26 rfl ?_
          refine X_istore_n 28 hO dX13_feeds_27 rfl rfl ?_
          refine X_iinc 31 hO dX13_feeds_28 rfl rfl ?_
          refine X_goto hO dX13_feeds_31 (tgt := 4) rfl ?_
          exact ih (k + 1) _ (by omega) (by omega) (by omega) (sumN_s (by omega) hs (by unfold bi; first | rw [if_pos (by omega)] | rw [if_neg (by omega)])) hR
  exact LP4 _ 0 0 (Nat.lt_succ_self _) (by omega) (by omega) rfl hR
theorem fee_rng {p : Int} {w : Mm} (hp : 0 ≤ p) : 0 ≤ m_fee p w ∧ m_fee p w ≤ p := by
  have key : ∀ n : Nat, sumN (fun k => bi (w 200 0 k = 10)) n ≤ n := fun n => by
    induction n with
    | zero => exact Int.le_refl _
    | succ n ih =>
      have : bi (w 200 0 n = 10) ≤ 1 := by unfold bi; split <;> omega
      simp only [sumN]; omega
  have h1 := key p.toNat
  have h2 := sumN_nn (f := fun k => bi (w 200 0 k = 10)) (fun _ => bi_n) p.toNat
  unfold m_fee; omega
theorem fee_cong {p : Int} {w w' : Mm} (h : ∀ i, w' 200 0 i = w 200 0 i) : m_fee p w' = m_fee p w := by
  unfold m_fee; congr 1; funext k; rw [h]
theorem fee_up {p : Int} {w : Mm} {c : Nat} {a i v : Int} (h : c ≠ 200) : m_fee p (up w c a i v) = m_fee p w := fee_cong fun j => up_k _ (by omega) _ _ _ _ _
def m_lns (l : Int) (w : Mm) : Int := fnd (fun p => bi (m_fee p w ≥ l)) 1 (w 201 0 0 + 1).toNat 0
def o_lines (μ : MU)  (w : Mm) : Int × Mm := (m_fee (w 201 0 0) w + 1, m_th μ 0 w)
theorem dX13_lines_0 : decode cX13_lines 0 = .ok (.aload_n 0, 1) := by decide +kernel
theorem dX13_lines_1 : decode cX13_lines 1 = .ok (.iconst 0, 1) := by decide +kernel
theorem dX13_lines_2 : decode cX13_lines 2 = .ok (.putfield 171, 3) := by decide +kernel
theorem dX13_lines_5 : decode cX13_lines 5 = .ok (.aload_n 0, 1) := by decide +kernel
theorem dX13_lines_6 : decode cX13_lines 6 = .ok (.aload_n 0, 1) := by decide +kernel
theorem dX13_lines_7 : decode cX13_lines 7 = .ok (.getfield 13, 3) := by decide +kernel
theorem dX13_lines_10 : decode cX13_lines 10 = .ok (.iconst 0, 1) := by decide +kernel
theorem dX13_lines_11 : decode cX13_lines 11 = .ok (.iaload, 1) := by decide +kernel
theorem dX13_lines_12 : decode cX13_lines 12 = .ok (.invokevirtual 439, 3) := by decide +kernel
theorem dX13_lines_15 : decode cX13_lines 15 = .ok (.iconst 1, 1) := by decide +kernel
theorem dX13_lines_16 : decode cX13_lines 16 = .ok (.iadd, 1) := by decide +kernel
theorem dX13_lines_17 : decode cX13_lines 17 = .ok (.ireturn, 1) := by decide +kernel
set_option maxRecDepth 4000 in
theorem c_lines (γ : LC) (μ : MU) (w : Mm)  (S P M : Int)  (hR0 : RB μ S P M w) (hS : S ≤ 28900) (hP : P ≤ 500000) (hM : M ≤ 590) : CMi γ μ 1 mX13_lines [] w (fun r w' => r = (o_lines μ  w).1 ∧ w' = (o_lines μ  w).2) := by
  refine CMi_of rfl (by simp [rv_cat, Value.category]) rfl ?_
  rintro κ hO hF rfl hR
  have hD := hF.dp
  show X κ 0 0 w 0 [some (rv μ.1)] []
  have hl0 := hR0.1.1.1
  unfold bL1 at hl0
  have g1 := fee_rng (p := w 201 0 0) (w := w) (by omega)
  have hL := hR0.1
  obtain ⟨f1, f2, f3, f4, f5⟩ := hR0.1.f
  obtain ⟨t1, t2, t3, t4, t5, t6, t7⟩ := hR0.2.1.2.2.2.1
  refine X_aload_n 1 hO dX13_lines_0 rfl rfl ?_
  refine X_iconst 2 hO dX13_lines_1 rfl ?_
  refine pa_171 5 hO hR dX13_lines_2 rfl (by omega) (fun hR => ?_)
  refine X_aload_n 6 hO dX13_lines_5 rfl rfl ?_
  refine X_aload_n 7 hO dX13_lines_6 rfl rfl ?_
  refine ga_13 10 hO hR dX13_lines_7 rfl ?_
  refine X_iconst 11 hO dX13_lines_10 rfl ?_
  refine ma_ld (L := 4) (c := 201) 12 hO hR rfl rfl rfl dX13_lines_11 rfl (by omega) (by omega) (fun hi_11 => ?_)
  try simp (disch := decide) only [up_k, up_s, step_at, pool_at, poolN_at, opens_at, closes_at, fl_at, del_at, ins_at, rep_at, psh_at, trn_at, tak_at, pEn_at, cpQ_at, cpP_at, cpT_at, ti_at, th_at] at hi_11 ⊢
  refine XM_callVi 15 hO hD hR lX13_439 [_] rfl dX13_lines_12 rfl (c_feeds _ _ _ _ (by omega)) (by decide) (by simp only [List.map_cons, List.map_nil, rv_cat]; exact Nat.le_of_ble_eq_true rfl) (fun r_12 w_12 hr_12 hp_12 hR => ?_)
  obtain ⟨e1_12, e2_12⟩ := hp_12
  subst e1_12
  subst e2_12
  rw [fee_up (by decide)]
  refine X_iconst 16 hO dX13_lines_15 rfl ?_
  refine X_iadd 17 hO dX13_lines_16 rfl ?_
  exact XM_iret hO hF hR rfl (by first | exact Or.inl rfl | exact Or.inr ⟨rfl, bi_01 _⟩ | exact Or.inr ⟨rfl, by omega⟩) dX13_lines_17 (by first | assumption | omega | exact I_rng _) (by first | (exfalso; omega) | (unfold o_lines ; (try unfold m_ti); (try unfold m_th); (repeat (first | rw [if_pos (by omega)] | rw [if_neg (by omega)])); exact ⟨rfl, rfl⟩))
def o_lineOf (μ : MU) (c : Int) (w : Mm) : Int × Mm := if 0 ≤ c ∧ c ≤ w 201 0 0 then (m_fee c w, m_th μ 0 w) else (0, m_th μ 1 w)
theorem dX13_lineOf_0 : decode cX13_lineOf 0 = .ok (.aload_n 0, 1) := by decide +kernel
theorem dX13_lineOf_1 : decode cX13_lineOf 1 = .ok (.iload_n 1, 1) := by decide +kernel
theorem dX13_lineOf_2 : decode cX13_lineOf 2 = .ok (.iconst 0, 1) := by decide +kernel
theorem dX13_lineOf_3 : decode cX13_lineOf 3 = .ok (.aload_n 0, 1) := by decide +kernel
theorem dX13_lineOf_4 : decode cX13_lineOf 4 = .ok (.getfield 13, 3) := by decide +kernel
theorem dX13_lineOf_7 : decode cX13_lineOf 7 = .ok (.iconst 0, 1) := by decide +kernel
theorem dX13_lineOf_8 : decode cX13_lineOf 8 = .ok (.iaload, 1) := by decide +kernel
theorem dX13_lineOf_9 : decode cX13_lineOf 9 = .ok (.invokestatic 174, 3) := by decide +kernel
theorem dX13_lineOf_12 : decode cX13_lineOf 12 = .ok (.ifCond .eq 7, 3) := by decide +kernel
theorem dX13_lineOf_15 : decode cX13_lineOf 15 = .ok (.iconst 0, 1) := by decide +kernel
theorem dX13_lineOf_16 : decode cX13_lineOf 16 = .ok (.goto 4, 3) := by decide +kernel
theorem dX13_lineOf_19 : decode cX13_lineOf 19 = .ok (.iconst 1, 1) := by decide +kernel
theorem dX13_lineOf_20 : decode cX13_lineOf 20 = .ok (.putfield 171, 3) := by decide +kernel
theorem dX13_lineOf_23 : decode cX13_lineOf 23 = .ok (.aload_n 0, 1) := by decide +kernel
theorem dX13_lineOf_24 : decode cX13_lineOf 24 = .ok (.getfield 171, 3) := by decide +kernel
theorem dX13_lineOf_27 : decode cX13_lineOf 27 = .ok (.ifCond .ne 11, 3) := by decide +kernel
theorem dX13_lineOf_30 : decode cX13_lineOf 30 = .ok (.aload_n 0, 1) := by decide +kernel
theorem dX13_lineOf_31 : decode cX13_lineOf 31 = .ok (.iload_n 1, 1) := by decide +kernel
theorem dX13_lineOf_32 : decode cX13_lineOf 32 = .ok (.invokevirtual 439, 3) := by decide +kernel
theorem dX13_lineOf_35 : decode cX13_lineOf 35 = .ok (.goto 4, 3) := by decide +kernel
theorem dX13_lineOf_38 : decode cX13_lineOf 38 = .ok (.iconst 0, 1) := by decide +kernel
theorem dX13_lineOf_39 : decode cX13_lineOf 39 = .ok (.ireturn, 1) := by decide +kernel
set_option maxRecDepth 4000 in
theorem c_lineOf (γ : LC) (μ : MU) (w : Mm) (c : Int) (S P M : Int) (hc : IR c) (hR0 : RB μ S P M w) (hS : S ≤ 28900) (hP : P ≤ 500000) (hM : M ≤ 590) : CMi γ μ 1 mX13_lineOf [.int (I c)] w (fun r w' => r = (o_lineOf μ c w).1 ∧ w' = (o_lineOf μ c w).2) := by
  refine CMi_of rfl (by simp [rv_cat, Value.category]) rfl ?_
  rintro κ hO hF rfl hR
  have hD := hF.dp
  show X κ 0 0 w 0 [some (rv μ.1), some (.int (I c))] []
  have hL := hR0.1
  obtain ⟨f1, f2, f3, f4, f5⟩ := hR0.1.f
  obtain ⟨t1, t2, t3, t4, t5, t6, t7⟩ := hR0.2.1.2.2.2.1
  refine X_aload_n 1 hO dX13_lineOf_0 rfl rfl ?_
  refine X_iload_n 2 hO dX13_lineOf_1 rfl rfl ?_
  refine X_iconst 3 hO dX13_lineOf_2 rfl ?_
  refine X_aload_n 4 hO dX13_lineOf_3 rfl rfl ?_
  refine ga_13 7 hO hR dX13_lineOf_4 rfl ?_
  refine X_iconst 8 hO dX13_lineOf_7 rfl ?_
  refine ma_ld (L := 4) (c := 201) 9 hO hR rfl rfl rfl dX13_lineOf_8 rfl (by omega) (by omega) (fun hi_8 => ?_)
  try simp (disch := decide) only [up_k, up_s, step_at, pool_at, poolN_at, opens_at, closes_at, fl_at, del_at, ins_at, rep_at, psh_at, trn_at, tak_at, pEn_at, cpQ_at, cpP_at, cpT_at, ti_at, th_at] at hi_8 ⊢
  refine XM_callSi 12 hO hD lX13_174 [_, _, _] rfl dX13_lineOf_9 rfl (c_in _ _ _ _ _ (by omega) (by omega) (by omega)) (by decide) (by simp only [List.map_cons, List.map_nil, rv_cat]; exact Nat.le_of_ble_eq_true rfl) (fun r_9 hr_9 hp_9 => ?_)
  subst hp_9
  refine X_if_eq 15 19 hO dX13_lineOf_12 rfl rfl (by omega) (fun hc_12 => ?_) (fun hc_12 => ?_)
  ·
    try simp only [bi_0, bi_ne, ne_eq, Classical.not_not] at hc_12
    refine X_iconst 20 hO dX13_lineOf_19 rfl ?_
    refine pa_171 23 hO hR dX13_lineOf_20 rfl (by omega) (fun hR => ?_)
    refine X_aload_n 24 hO dX13_lineOf_23 rfl rfl ?_
    refine ga_171 27 hO hR dX13_lineOf_24 rfl (fun hi_24 => ?_)
    try simp (disch := decide) only [up_k, up_s, step_at, pool_at, poolN_at, opens_at, closes_at, fl_at, del_at, ins_at, rep_at, psh_at, trn_at, tak_at, pEn_at, cpQ_at, cpP_at, cpT_at, ti_at, th_at] at hi_24 ⊢
    refine X_if_ne 30 38 hO dX13_lineOf_27 rfl rfl (by omega) (fun hc_27 => ?_) (fun hc_27 => ?_)
    ·
      refine X_iconst 39 hO dX13_lineOf_38 rfl ?_
      exact XM_iret hO hF hR rfl (by first | exact Or.inl rfl | exact Or.inr ⟨rfl, bi_01 _⟩ | exact Or.inr ⟨rfl, by omega⟩) dX13_lineOf_39 (by first | assumption | omega | exact I_rng _) (by first | (exfalso; omega) | (unfold o_lineOf ; (try unfold m_ti); (try unfold m_th); (repeat (first | rw [if_pos (by omega)] | rw [if_neg (by omega)])); exact ⟨rfl, rfl⟩))
    ·
      refine X_aload_n 31 hO dX13_lineOf_30 rfl rfl ?_
      refine X_iload_n 32 hO dX13_lineOf_31 rfl rfl ?_
      refine XM_callVi 35 hO hD hR lX13_439 [_] rfl dX13_lineOf_32 rfl (c_feeds _ _ _ _ (by omega)) (by decide) (by simp only [List.map_cons, List.map_nil, rv_cat]; exact Nat.le_of_ble_eq_true rfl) (fun r_32 w_32 hr_32 hp_32 hR => ?_)
      obtain ⟨e1_32, e2_32⟩ := hp_32
      subst e1_32
      subst e2_32
      rw [fee_up (by decide)]
      have g2 := fee_rng (p := c) (w := w) (by omega)
      refine X_goto hO dX13_lineOf_35 (tgt := 39) rfl ?_
      exact XM_iret hO hF hR rfl (by first | exact Or.inl rfl | exact Or.inr ⟨rfl, bi_01 _⟩ | exact Or.inr ⟨rfl, by omega⟩) dX13_lineOf_39 (by first | assumption | omega | exact I_rng _) (by first | (exfalso; omega) | (unfold o_lineOf ; (try unfold m_ti); (try unfold m_th); (repeat (first | rw [if_pos (by omega)] | rw [if_neg (by omega)])); exact ⟨rfl, rfl⟩))
  ·
    try simp only [bi_0, bi_ne, ne_eq, Classical.not_not] at hc_12
    refine X_iconst 16 hO dX13_lineOf_15 rfl ?_
    refine X_goto hO dX13_lineOf_16 (tgt := 20) rfl ?_
    refine pa_171 23 hO hR dX13_lineOf_20 rfl (by omega) (fun hR => ?_)
    refine X_aload_n 24 hO dX13_lineOf_23 rfl rfl ?_
    refine ga_171 27 hO hR dX13_lineOf_24 rfl (fun hi_24 => ?_)
    try simp (disch := decide) only [up_k, up_s, step_at, pool_at, poolN_at, opens_at, closes_at, fl_at, del_at, ins_at, rep_at, psh_at, trn_at, tak_at, pEn_at, cpQ_at, cpP_at, cpT_at, ti_at, th_at] at hi_24 ⊢
    refine X_if_ne 30 38 hO dX13_lineOf_27 rfl rfl (by omega) (fun hc_27 => ?_) (fun hc_27 => ?_)
    ·
      refine X_iconst 39 hO dX13_lineOf_38 rfl ?_
      exact XM_iret hO hF hR rfl (by first | exact Or.inl rfl | exact Or.inr ⟨rfl, bi_01 _⟩ | exact Or.inr ⟨rfl, by omega⟩) dX13_lineOf_39 (by first | assumption | omega | exact I_rng _) (by first | (exfalso; omega) | (unfold o_lineOf ; (try unfold m_ti); (try unfold m_th); (repeat (first | rw [if_pos (by omega)] | rw [if_neg (by omega)])); exact ⟨rfl, rfl⟩))
    ·
      refine X_aload_n 31 hO dX13_lineOf_30 rfl rfl ?_
      refine X_iload_n 32 hO dX13_lineOf_31 rfl rfl ?_
      refine XM_callVi 35 hO hD hR lX13_439 [_] rfl dX13_lineOf_32 rfl (c_feeds _ _ _ _ (by omega)) (by decide) (by simp only [List.map_cons, List.map_nil, rv_cat]; exact Nat.le_of_ble_eq_true rfl) (fun r_32 w_32 hr_32 hp_32 hR => ?_)
      obtain ⟨e1_32, e2_32⟩ := hp_32
      subst e1_32
      subst e2_32
      rw [fee_up (by decide)]
      have g2 := fee_rng (p := c) (w := w) (by omega)
      refine X_goto hO dX13_lineOf_35 (tgt := 39) rfl ?_
      exact XM_iret hO hF hR rfl (by first | exact Or.inl rfl | exact Or.inr ⟨rfl, bi_01 _⟩ | exact Or.inr ⟨rfl, by omega⟩) dX13_lineOf_39 (by first | assumption | omega | exact I_rng _) (by first | (exfalso; omega) | (unfold o_lineOf ; (try unfold m_ti); (try unfold m_th); (repeat (first | rw [if_pos (by omega)] | rw [if_neg (by omega)])); exact ⟨rfl, rfl⟩))
def o_markAt (μ : MU) (c : Int) (w : Mm) : Int × Mm := if 0 ≤ c ∧ c ≤ 5 then (w 202 0 c, m_ti μ (0 ≤ c ∧ c ≤ 5) w) else (0, m_ti μ (0 ≤ c ∧ c ≤ 5) w)
theorem dX13_markAt_0 : decode cX13_markAt 0 = .ok (.aload_n 0, 1) := by decide +kernel
theorem dX13_markAt_1 : decode cX13_markAt 1 = .ok (.iload_n 1, 1) := by decide +kernel
theorem dX13_markAt_2 : decode cX13_markAt 2 = .ok (.invokevirtual 379, 3) := by decide +kernel
theorem dX13_markAt_5 : decode cX13_markAt 5 = .ok (.ifCond .eq 12, 3) := by decide +kernel
theorem dX13_markAt_8 : decode cX13_markAt 8 = .ok (.aload_n 0, 1) := by decide +kernel
theorem dX13_markAt_9 : decode cX13_markAt 9 = .ok (.getfield 16, 3) := by decide +kernel
theorem dX13_markAt_12 : decode cX13_markAt 12 = .ok (.iload_n 1, 1) := by decide +kernel
theorem dX13_markAt_13 : decode cX13_markAt 13 = .ok (.iaload, 1) := by decide +kernel
theorem dX13_markAt_14 : decode cX13_markAt 14 = .ok (.goto 4, 3) := by decide +kernel
theorem dX13_markAt_17 : decode cX13_markAt 17 = .ok (.iconst 0, 1) := by decide +kernel
theorem dX13_markAt_18 : decode cX13_markAt 18 = .ok (.ireturn, 1) := by decide +kernel
set_option maxRecDepth 4000 in
theorem c_markAt (γ : LC) (μ : MU) (w : Mm) (c : Int) (S P M : Int) (hc : IR c) (hR0 : RB μ S P M w) (hS : S ≤ 28900) (hP : P ≤ 500000) (hM : M ≤ 590) : CMi γ μ 2 mX13_markAt [.int (I c)] w (fun r w' => r = (o_markAt μ c w).1 ∧ w' = (o_markAt μ c w).2) := by
  refine CMi_of rfl (by simp [rv_cat, Value.category]) rfl ?_
  rintro κ hO hF rfl hR
  have hD := hF.dp
  show X κ 0 0 w 0 [some (rv μ.1), some (.int (I c))] []
  have hL := hR0.1
  obtain ⟨f1, f2, f3, f4, f5⟩ := hR0.1.f
  obtain ⟨t1, t2, t3, t4, t5, t6, t7⟩ := hR0.2.1.2.2.2.1
  refine X_aload_n 1 hO dX13_markAt_0 rfl rfl ?_
  refine X_iload_n 2 hO dX13_markAt_1 rfl rfl ?_
  refine XM_callVi 5 hO hD hR lX13_379 [_] rfl dX13_markAt_2 rfl (c_isMark _ _ _ _ _ _ _ (by omega) hR0 hS hP hM) (by decide) (by simp only [List.map_cons, List.map_nil, rv_cat]; exact Nat.le_of_ble_eq_true rfl) (fun r_2 w_2 hr_2 hp_2 hR => ?_)
  obtain ⟨e1_2, e2_2⟩ := hp_2
  subst e1_2
  subst e2_2
  refine X_if_eq 8 17 hO dX13_markAt_5 rfl rfl (by omega) (fun hc_5 => ?_) (fun hc_5 => ?_)
  ·
    try simp only [bi_0, bi_ne, ne_eq, Classical.not_not] at hc_5
    refine X_iconst 18 hO dX13_markAt_17 rfl ?_
    exact XM_iret hO hF hR rfl (by first | exact Or.inl rfl | exact Or.inr ⟨rfl, bi_01 _⟩ | exact Or.inr ⟨rfl, by omega⟩) dX13_markAt_18 (by first | assumption | omega | exact I_rng _) (by first | (exfalso; omega) | (unfold o_markAt ; (try unfold m_ti); (try unfold m_th); (repeat (first | rw [if_pos (by omega)] | rw [if_neg (by omega)])); exact ⟨rfl, rfl⟩))
  ·
    try simp only [bi_0, bi_ne, ne_eq, Classical.not_not] at hc_5
    refine X_aload_n 9 hO dX13_markAt_8 rfl rfl ?_
    refine ga_16 12 hO hR dX13_markAt_9 rfl ?_
    refine X_iload_n 13 hO dX13_markAt_12 rfl rfl ?_
    refine ma_ld (L := 24) (c := 202) 14 hO hR rfl rfl rfl dX13_markAt_13 rfl (by omega) (by omega) (fun hi_13 => ?_)
    try simp (disch := decide) only [up_k, up_s, step_at, pool_at, poolN_at, opens_at, closes_at, fl_at, del_at, ins_at, rep_at, psh_at, trn_at, tak_at, pEn_at, cpQ_at, cpP_at, cpT_at, ti_at, th_at] at hi_13 ⊢
    refine X_goto hO dX13_markAt_14 (tgt := 18) rfl ?_
    exact XM_iret hO hF hR rfl (by first | exact Or.inl rfl | exact Or.inr ⟨rfl, bi_01 _⟩ | exact Or.inr ⟨rfl, by omega⟩) dX13_markAt_18 (by first | assumption | omega | exact I_rng _) (by first | (exfalso; omega) | (unfold o_markAt ; (try unfold m_ti); (try unfold m_th); (repeat (first | rw [if_pos (by omega)] | rw [if_neg (by omega)])); exact ⟨rfl, rfl⟩))
theorem th_vF {μ : MU} {k : Int} {w : Mm} : m_vF (up w 139 μ.1 0 k) = m_vF w := up_vF (by decide)
theorem th_vT {μ : MU} {k : Int} {w : Mm} : m_vT (up w 139 μ.1 0 k) = m_vT w := up_vT (by decide)
def o_viewStart (μ : MU)  (w : Mm) : Int × Mm := (m_vF w, m_th μ 0 w)
theorem dX13_viewStart_0 : decode cX13_viewStart 0 = .ok (.aload_n 0, 1) := by decide +kernel
theorem dX13_viewStart_1 : decode cX13_viewStart 1 = .ok (.iconst 0, 1) := by decide +kernel
theorem dX13_viewStart_2 : decode cX13_viewStart 2 = .ok (.putfield 171, 3) := by decide +kernel
theorem dX13_viewStart_5 : decode cX13_viewStart 5 = .ok (.aload_n 0, 1) := by decide +kernel
theorem dX13_viewStart_6 : decode cX13_viewStart 6 = .ok (.invokevirtual 294, 3) := by decide +kernel
theorem dX13_viewStart_9 : decode cX13_viewStart 9 = .ok (.ireturn, 1) := by decide +kernel
set_option maxRecDepth 4000 in
theorem c_viewStart (γ : LC) (μ : MU) (w : Mm)  (S P M : Int)  (hR0 : RB μ S P M w) (hS : S ≤ 28900) (hP : P ≤ 500000) (hM : M ≤ 590) : CMi γ μ 1 mX13_viewStart [] w (fun r w' => r = (o_viewStart μ  w).1 ∧ w' = (o_viewStart μ  w).2) := by
  refine CMi_of rfl (by simp [rv_cat, Value.category]) rfl ?_
  rintro κ hO hF rfl hR
  have hD := hF.dp
  show X κ 0 0 w 0 [some (rv μ.1)] []
  have hL := hR0.1
  obtain ⟨f1, f2, f3, f4, f5⟩ := hR0.1.f
  obtain ⟨t1, t2, t3, t4, t5, t6, t7⟩ := hR0.2.1.2.2.2.1
  refine X_aload_n 1 hO dX13_viewStart_0 rfl rfl ?_
  refine X_iconst 2 hO dX13_viewStart_1 rfl ?_
  refine pa_171 5 hO hR dX13_viewStart_2 rfl (by omega) (fun hR => ?_)
  refine X_aload_n 6 hO dX13_viewStart_5 rfl rfl ?_
  refine XM_callVi 9 hO hD hR lX13_294 [] rfl dX13_viewStart_6 rfl (c_viewFrom _ _ _ (by rw [up_k _ (by decide)]; omega)) (by decide) (by simp only [List.map_cons, List.map_nil, rv_cat]; exact Nat.le_of_ble_eq_true rfl) (fun r_6 w_6 hr_6 hp_6 hR => ?_)
  obtain ⟨e1_6, e2_6⟩ := hp_6
  subst e1_6
  subst e2_6
  rw [th_vF]
  exact XM_iret hO hF hR rfl (by first | exact Or.inl rfl | exact Or.inr ⟨rfl, bi_01 _⟩ | exact Or.inr ⟨rfl, by omega⟩) dX13_viewStart_9 (by omega) (by first | (exfalso; omega) | (unfold o_viewStart ; (try unfold m_ti); (try unfold m_th); (repeat (first | rw [if_pos (by omega)] | rw [if_neg (by omega)])); exact ⟨rfl, rfl⟩))
def o_viewEnd (μ : MU)  (w : Mm) : Int × Mm := (m_vT w, m_th μ 0 w)
theorem dX13_viewEnd_0 : decode cX13_viewEnd 0 = .ok (.aload_n 0, 1) := by decide +kernel
theorem dX13_viewEnd_1 : decode cX13_viewEnd 1 = .ok (.iconst 0, 1) := by decide +kernel
theorem dX13_viewEnd_2 : decode cX13_viewEnd 2 = .ok (.putfield 171, 3) := by decide +kernel
theorem dX13_viewEnd_5 : decode cX13_viewEnd 5 = .ok (.aload_n 0, 1) := by decide +kernel
theorem dX13_viewEnd_6 : decode cX13_viewEnd 6 = .ok (.invokevirtual 297, 3) := by decide +kernel
theorem dX13_viewEnd_9 : decode cX13_viewEnd 9 = .ok (.ireturn, 1) := by decide +kernel
set_option maxRecDepth 4000 in
theorem c_viewEnd (γ : LC) (μ : MU) (w : Mm)  (S P M : Int)  (hR0 : RB μ S P M w) (hS : S ≤ 28900) (hP : P ≤ 500000) (hM : M ≤ 590) : CMi γ μ 1 mX13_viewEnd [] w (fun r w' => r = (o_viewEnd μ  w).1 ∧ w' = (o_viewEnd μ  w).2) := by
  refine CMi_of rfl (by simp [rv_cat, Value.category]) rfl ?_
  rintro κ hO hF rfl hR
  have hD := hF.dp
  show X κ 0 0 w 0 [some (rv μ.1)] []
  have hL := hR0.1
  obtain ⟨f1, f2, f3, f4, f5⟩ := hR0.1.f
  obtain ⟨t1, t2, t3, t4, t5, t6, t7⟩ := hR0.2.1.2.2.2.1
  refine X_aload_n 1 hO dX13_viewEnd_0 rfl rfl ?_
  refine X_iconst 2 hO dX13_viewEnd_1 rfl ?_
  refine pa_171 5 hO hR dX13_viewEnd_2 rfl (by omega) (fun hR => ?_)
  refine X_aload_n 6 hO dX13_viewEnd_5 rfl rfl ?_
  refine XM_callVi 9 hO hD hR lX13_297 [] rfl dX13_viewEnd_6 rfl (c_viewTo _ _ _ (by rw [up_k _ (by decide)]; omega)) (by decide) (by simp only [List.map_cons, List.map_nil, rv_cat]; exact Nat.le_of_ble_eq_true rfl) (fun r_6 w_6 hr_6 hp_6 hR => ?_)
  obtain ⟨e1_6, e2_6⟩ := hp_6
  subst e1_6
  subst e2_6
  rw [th_vT]
  exact XM_iret hO hF hR rfl (by first | exact Or.inl rfl | exact Or.inr ⟨rfl, bi_01 _⟩ | exact Or.inr ⟨rfl, by omega⟩) dX13_viewEnd_9 (by omega) (by first | (exfalso; omega) | (unfold o_viewEnd ; (try unfold m_ti); (try unfold m_th); (repeat (first | rw [if_pos (by omega)] | rw [if_neg (by omega)])); exact ⟨rfl, rfl⟩))
def o_now (μ : MU)  (w : Mm) : Int × Mm := (w 126 μ.1 0, m_th μ 0 w)
theorem dX13_now_0 : decode cX13_now 0 = .ok (.aload_n 0, 1) := by decide +kernel
theorem dX13_now_1 : decode cX13_now 1 = .ok (.iconst 0, 1) := by decide +kernel
theorem dX13_now_2 : decode cX13_now 2 = .ok (.putfield 171, 3) := by decide +kernel
theorem dX13_now_5 : decode cX13_now 5 = .ok (.aload_n 0, 1) := by decide +kernel
theorem dX13_now_6 : decode cX13_now 6 = .ok (.getfield 258, 3) := by decide +kernel
theorem dX13_now_9 : decode cX13_now 9 = .ok (.ireturn, 1) := by decide +kernel
set_option maxRecDepth 4000 in
theorem c_now (γ : LC) (μ : MU) (w : Mm)  (S P M : Int)  (hR0 : RB μ S P M w) (hS : S ≤ 28900) (hP : P ≤ 500000) (hM : M ≤ 590) : CMi γ μ 0 mX13_now [] w (fun r w' => r = (o_now μ  w).1 ∧ w' = (o_now μ  w).2) := by
  refine CMi_of rfl (by simp [rv_cat, Value.category]) rfl ?_
  rintro κ hO hF rfl hR
  have hD := hF.dp
  show X κ 0 0 w 0 [some (rv μ.1)] []
  have hL := hR0.1
  obtain ⟨f1, f2, f3, f4, f5⟩ := hR0.1.f
  obtain ⟨t1, t2, t3, t4, t5, t6, t7⟩ := hR0.2.1.2.2.2.1
  refine X_aload_n 1 hO dX13_now_0 rfl rfl ?_
  refine X_iconst 2 hO dX13_now_1 rfl ?_
  refine pa_171 5 hO hR dX13_now_2 rfl (by omega) (fun hR => ?_)
  refine X_aload_n 6 hO dX13_now_5 rfl rfl ?_
  refine ga_258 9 hO hR dX13_now_6 rfl (fun hi_6 => ?_)
  try simp (disch := decide) only [up_k, up_s, step_at, pool_at, poolN_at, opens_at, closes_at, fl_at, del_at, ins_at, rep_at, psh_at, trn_at, tak_at, pEn_at, cpQ_at, cpP_at, cpT_at, ti_at, th_at] at hi_6 ⊢
  exact XM_iret hO hF hR rfl (by first | exact Or.inl rfl | exact Or.inr ⟨rfl, bi_01 _⟩ | exact Or.inr ⟨rfl, by omega⟩) dX13_now_9 (by first | assumption | omega | exact I_rng _) (by first | (exfalso; omega) | (unfold o_now ; (try unfold m_ti); (try unfold m_th); (repeat (first | rw [if_pos (by omega)] | rw [if_neg (by omega)])); exact ⟨rfl, rfl⟩))
def o_nodes (μ : MU)  (w : Mm) : Int × Mm := (w 125 μ.1 0, m_th μ 0 w)
theorem dX13_nodes_0 : decode cX13_nodes 0 = .ok (.aload_n 0, 1) := by decide +kernel
theorem dX13_nodes_1 : decode cX13_nodes 1 = .ok (.iconst 0, 1) := by decide +kernel
theorem dX13_nodes_2 : decode cX13_nodes 2 = .ok (.putfield 171, 3) := by decide +kernel
theorem dX13_nodes_5 : decode cX13_nodes 5 = .ok (.aload_n 0, 1) := by decide +kernel
theorem dX13_nodes_6 : decode cX13_nodes 6 = .ok (.getfield 63, 3) := by decide +kernel
theorem dX13_nodes_9 : decode cX13_nodes 9 = .ok (.ireturn, 1) := by decide +kernel
set_option maxRecDepth 4000 in
theorem c_nodes (γ : LC) (μ : MU) (w : Mm)  (S P M : Int)  (hR0 : RB μ S P M w) (hS : S ≤ 28900) (hP : P ≤ 500000) (hM : M ≤ 590) : CMi γ μ 0 mX13_nodes [] w (fun r w' => r = (o_nodes μ  w).1 ∧ w' = (o_nodes μ  w).2) := by
  refine CMi_of rfl (by simp [rv_cat, Value.category]) rfl ?_
  rintro κ hO hF rfl hR
  have hD := hF.dp
  show X κ 0 0 w 0 [some (rv μ.1)] []
  have hL := hR0.1
  obtain ⟨f1, f2, f3, f4, f5⟩ := hR0.1.f
  obtain ⟨t1, t2, t3, t4, t5, t6, t7⟩ := hR0.2.1.2.2.2.1
  refine X_aload_n 1 hO dX13_nodes_0 rfl rfl ?_
  refine X_iconst 2 hO dX13_nodes_1 rfl ?_
  refine pa_171 5 hO hR dX13_nodes_2 rfl (by omega) (fun hR => ?_)
  refine X_aload_n 6 hO dX13_nodes_5 rfl rfl ?_
  refine ga_63 9 hO hR dX13_nodes_6 rfl (fun hi_6 => ?_)
  try simp (disch := decide) only [up_k, up_s, step_at, pool_at, poolN_at, opens_at, closes_at, fl_at, del_at, ins_at, rep_at, psh_at, trn_at, tak_at, pEn_at, cpQ_at, cpP_at, cpT_at, ti_at, th_at] at hi_6 ⊢
  exact XM_iret hO hF hR rfl (by first | exact Or.inl rfl | exact Or.inr ⟨rfl, bi_01 _⟩ | exact Or.inr ⟨rfl, by omega⟩) dX13_nodes_9 (by first | assumption | omega | exact I_rng _) (by first | (exfalso; omega) | (unfold o_nodes ; (try unfold m_ti); (try unfold m_th); (repeat (first | rw [if_pos (by omega)] | rw [if_neg (by omega)])); exact ⟨rfl, rfl⟩))
def o_parentOf (μ : MU) (c : Int) (w : Mm) : Int × Mm := if isN μ c w then (w 217 0 c, m_ti μ (isN μ c w) w) else (0, m_ti μ (isN μ c w) w)
theorem dX13_parentOf_0 : decode cX13_parentOf 0 = .ok (.aload_n 0, 1) := by decide +kernel
theorem dX13_parentOf_1 : decode cX13_parentOf 1 = .ok (.iload_n 1, 1) := by decide +kernel
theorem dX13_parentOf_2 : decode cX13_parentOf 2 = .ok (.invokevirtual 442, 3) := by decide +kernel
theorem dX13_parentOf_5 : decode cX13_parentOf 5 = .ok (.ifCond .eq 12, 3) := by decide +kernel
theorem dX13_parentOf_8 : decode cX13_parentOf 8 = .ok (.aload_n 0, 1) := by decide +kernel
theorem dX13_parentOf_9 : decode cX13_parentOf 9 = .ok (.getfield 69, 3) := by decide +kernel
theorem dX13_parentOf_12 : decode cX13_parentOf 12 = .ok (.iload_n 1, 1) := by decide +kernel
theorem dX13_parentOf_13 : decode cX13_parentOf 13 = .ok (.iaload, 1) := by decide +kernel
theorem dX13_parentOf_14 : decode cX13_parentOf 14 = .ok (.goto 4, 3) := by decide +kernel
theorem dX13_parentOf_17 : decode cX13_parentOf 17 = .ok (.iconst 0, 1) := by decide +kernel
theorem dX13_parentOf_18 : decode cX13_parentOf 18 = .ok (.ireturn, 1) := by decide +kernel
set_option maxRecDepth 4000 in
theorem c_parentOf (γ : LC) (μ : MU) (w : Mm) (c : Int) (S P M : Int) (hc : IR c) (hR0 : RB μ S P M w) (hS : S ≤ 28900) (hP : P ≤ 500000) (hM : M ≤ 590) : CMi γ μ 3 mX13_parentOf [.int (I c)] w (fun r w' => r = (o_parentOf μ c w).1 ∧ w' = (o_parentOf μ c w).2) := by
  refine CMi_of rfl (by simp [rv_cat, Value.category]) rfl ?_
  rintro κ hO hF rfl hR
  have hD := hF.dp
  show X κ 0 0 w 0 [some (rv μ.1), some (.int (I c))] []
  have hL := hR0.1
  obtain ⟨f1, f2, f3, f4, f5⟩ := hR0.1.f
  obtain ⟨t1, t2, t3, t4, t5, t6, t7⟩ := hR0.2.1.2.2.2.1
  refine X_aload_n 1 hO dX13_parentOf_0 rfl rfl ?_
  refine X_iload_n 2 hO dX13_parentOf_1 rfl rfl ?_
  refine XM_callVi 5 hO hD hR lX13_442 [_] rfl dX13_parentOf_2 rfl (c_hasNode _ _ _ _ _ _ _ (by omega) hR0 hS hP hM) (by decide) (by simp only [List.map_cons, List.map_nil, rv_cat]; exact Nat.le_of_ble_eq_true rfl) (fun r_2 w_2 hr_2 hp_2 hR => ?_)
  obtain ⟨e1_2, e2_2⟩ := hp_2
  subst e1_2
  subst e2_2
  refine X_if_eq 8 17 hO dX13_parentOf_5 rfl rfl (by omega) (fun hc_5 => ?_) (fun hc_5 => ?_)
  ·
    try simp only [bi_0, bi_ne, ne_eq, Classical.not_not] at hc_5
    refine X_iconst 18 hO dX13_parentOf_17 rfl ?_
    exact XM_iret hO hF hR rfl (by first | exact Or.inl rfl | exact Or.inr ⟨rfl, bi_01 _⟩ | exact Or.inr ⟨rfl, by omega⟩) dX13_parentOf_18 (by first | assumption | omega | exact I_rng _) (by first | (exfalso; omega) | (unfold o_parentOf ; (try unfold m_ti); (try unfold m_th); (repeat (first | rw [if_pos (by omega)] | rw [if_neg (by omega)])); exact ⟨rfl, rfl⟩))
  ·
    try simp only [bi_0, bi_ne, ne_eq, Classical.not_not] at hc_5
    refine X_aload_n 9 hO dX13_parentOf_8 rfl rfl ?_
    refine ga_69 12 hO hR dX13_parentOf_9 rfl ?_
    refine X_iload_n 13 hO dX13_parentOf_12 rfl rfl ?_
    refine ma_ld (L := 640) (c := 217) 14 hO hR rfl rfl rfl dX13_parentOf_13 rfl (by omega) (by omega) (fun hi_13 => ?_)
    try simp (disch := decide) only [up_k, up_s, step_at, pool_at, poolN_at, opens_at, closes_at, fl_at, del_at, ins_at, rep_at, psh_at, trn_at, tak_at, pEn_at, cpQ_at, cpP_at, cpT_at, ti_at, th_at] at hi_13 ⊢
    refine X_goto hO dX13_parentOf_14 (tgt := 18) rfl ?_
    exact XM_iret hO hF hR rfl (by first | exact Or.inl rfl | exact Or.inr ⟨rfl, bi_01 _⟩ | exact Or.inr ⟨rfl, by omega⟩) dX13_parentOf_18 (by first | assumption | omega | exact I_rng _) (by first | (exfalso; omega) | (unfold o_parentOf ; (try unfold m_ti); (try unfold m_th); (repeat (first | rw [if_pos (by omega)] | rw [if_neg (by omega)])); exact ⟨rfl, rfl⟩))
def o_bookmarkAt (μ : MU) (c : Int) (w : Mm) : Int × Mm := if 0 ≤ c ∧ c ≤ 4 then (w 227 0 c, m_ti μ (0 ≤ c ∧ c ≤ 4) w) else (0, m_ti μ (0 ≤ c ∧ c ≤ 4) w)
theorem dX13_bookmarkAt_0 : decode cX13_bookmarkAt 0 = .ok (.aload_n 0, 1) := by decide +kernel
theorem dX13_bookmarkAt_1 : decode cX13_bookmarkAt 1 = .ok (.iload_n 1, 1) := by decide +kernel
theorem dX13_bookmarkAt_2 : decode cX13_bookmarkAt 2 = .ok (.invokevirtual 433, 3) := by decide +kernel
theorem dX13_bookmarkAt_5 : decode cX13_bookmarkAt 5 = .ok (.ifCond .eq 12, 3) := by decide +kernel
theorem dX13_bookmarkAt_8 : decode cX13_bookmarkAt 8 = .ok (.aload_n 0, 1) := by decide +kernel
theorem dX13_bookmarkAt_9 : decode cX13_bookmarkAt 9 = .ok (.getfield 99, 3) := by decide +kernel
theorem dX13_bookmarkAt_12 : decode cX13_bookmarkAt 12 = .ok (.iload_n 1, 1) := by decide +kernel
theorem dX13_bookmarkAt_13 : decode cX13_bookmarkAt 13 = .ok (.iaload, 1) := by decide +kernel
theorem dX13_bookmarkAt_14 : decode cX13_bookmarkAt 14 = .ok (.goto 4, 3) := by decide +kernel
theorem dX13_bookmarkAt_17 : decode cX13_bookmarkAt 17 = .ok (.iconst 0, 1) := by decide +kernel
theorem dX13_bookmarkAt_18 : decode cX13_bookmarkAt 18 = .ok (.ireturn, 1) := by decide +kernel
set_option maxRecDepth 4000 in
theorem c_bookmarkAt (γ : LC) (μ : MU) (w : Mm) (c : Int) (S P M : Int) (hc : IR c) (hR0 : RB μ S P M w) (hS : S ≤ 28900) (hP : P ≤ 500000) (hM : M ≤ 590) : CMi γ μ 2 mX13_bookmarkAt [.int (I c)] w (fun r w' => r = (o_bookmarkAt μ c w).1 ∧ w' = (o_bookmarkAt μ c w).2) := by
  refine CMi_of rfl (by simp [rv_cat, Value.category]) rfl ?_
  rintro κ hO hF rfl hR
  have hD := hF.dp
  show X κ 0 0 w 0 [some (rv μ.1), some (.int (I c))] []
  have hL := hR0.1
  obtain ⟨f1, f2, f3, f4, f5⟩ := hR0.1.f
  obtain ⟨t1, t2, t3, t4, t5, t6, t7⟩ := hR0.2.1.2.2.2.1
  refine X_aload_n 1 hO dX13_bookmarkAt_0 rfl rfl ?_
  refine X_iload_n 2 hO dX13_bookmarkAt_1 rfl rfl ?_
  refine XM_callVi 5 hO hD hR lX13_433 [_] rfl dX13_bookmarkAt_2 rfl (c_isBookmark _ _ _ _ _ _ _ (by omega) hR0 hS hP hM) (by decide) (by simp only [List.map_cons, List.map_nil, rv_cat]; exact Nat.le_of_ble_eq_true rfl) (fun r_2 w_2 hr_2 hp_2 hR => ?_)
  obtain ⟨e1_2, e2_2⟩ := hp_2
  subst e1_2
  subst e2_2
  refine X_if_eq 8 17 hO dX13_bookmarkAt_5 rfl rfl (by omega) (fun hc_5 => ?_) (fun hc_5 => ?_)
  ·
    try simp only [bi_0, bi_ne, ne_eq, Classical.not_not] at hc_5
    refine X_iconst 18 hO dX13_bookmarkAt_17 rfl ?_
    exact XM_iret hO hF hR rfl (by first | exact Or.inl rfl | exact Or.inr ⟨rfl, bi_01 _⟩ | exact Or.inr ⟨rfl, by omega⟩) dX13_bookmarkAt_18 (by first | assumption | omega | exact I_rng _) (by first | (exfalso; omega) | (unfold o_bookmarkAt ; (try unfold m_ti); (try unfold m_th); (repeat (first | rw [if_pos (by omega)] | rw [if_neg (by omega)])); exact ⟨rfl, rfl⟩))
  ·
    try simp only [bi_0, bi_ne, ne_eq, Classical.not_not] at hc_5
    refine X_aload_n 9 hO dX13_bookmarkAt_8 rfl rfl ?_
    refine ga_99 12 hO hR dX13_bookmarkAt_9 rfl ?_
    refine X_iload_n 13 hO dX13_bookmarkAt_12 rfl rfl ?_
    refine ma_ld (L := 5) (c := 227) 14 hO hR rfl rfl rfl dX13_bookmarkAt_13 rfl (by omega) (by omega) (fun hi_13 => ?_)
    try simp (disch := decide) only [up_k, up_s, step_at, pool_at, poolN_at, opens_at, closes_at, fl_at, del_at, ins_at, rep_at, psh_at, trn_at, tak_at, pEn_at, cpQ_at, cpP_at, cpT_at, ti_at, th_at] at hi_13 ⊢
    refine X_goto hO dX13_bookmarkAt_14 (tgt := 18) rfl ?_
    exact XM_iret hO hF hR rfl (by first | exact Or.inl rfl | exact Or.inr ⟨rfl, bi_01 _⟩ | exact Or.inr ⟨rfl, by omega⟩) dX13_bookmarkAt_18 (by first | assumption | omega | exact I_rng _) (by first | (exfalso; omega) | (unfold o_bookmarkAt ; (try unfold m_ti); (try unfold m_th); (repeat (first | rw [if_pos (by omega)] | rw [if_neg (by omega)])); exact ⟨rfl, rfl⟩))
def o_entries (μ : MU) (c : Int) (w : Mm) : Int × Mm := if 0 ≤ c ∧ c ≤ 4 then (w 204 0 c, m_ti μ (0 ≤ c ∧ c ≤ 4) w) else (0, m_ti μ (0 ≤ c ∧ c ≤ 4) w)
theorem dX13_entries_0 : decode cX13_entries 0 = .ok (.aload_n 0, 1) := by decide +kernel
theorem dX13_entries_1 : decode cX13_entries 1 = .ok (.iload_n 1, 1) := by decide +kernel
theorem dX13_entries_2 : decode cX13_entries 2 = .ok (.invokevirtual 445, 3) := by decide +kernel
theorem dX13_entries_5 : decode cX13_entries 5 = .ok (.ifCond .eq 12, 3) := by decide +kernel
theorem dX13_entries_8 : decode cX13_entries 8 = .ok (.aload_n 0, 1) := by decide +kernel
theorem dX13_entries_9 : decode cX13_entries 9 = .ok (.getfield 22, 3) := by decide +kernel
theorem dX13_entries_12 : decode cX13_entries 12 = .ok (.iload_n 1, 1) := by decide +kernel
theorem dX13_entries_13 : decode cX13_entries 13 = .ok (.iaload, 1) := by decide +kernel
theorem dX13_entries_14 : decode cX13_entries 14 = .ok (.goto 4, 3) := by decide +kernel
theorem dX13_entries_17 : decode cX13_entries 17 = .ok (.iconst 0, 1) := by decide +kernel
theorem dX13_entries_18 : decode cX13_entries 18 = .ok (.ireturn, 1) := by decide +kernel
set_option maxRecDepth 4000 in
theorem c_entries (γ : LC) (μ : MU) (w : Mm) (c : Int) (S P M : Int) (hc : IR c) (hR0 : RB μ S P M w) (hS : S ≤ 28900) (hP : P ≤ 500000) (hM : M ≤ 590) : CMi γ μ 2 mX13_entries [.int (I c)] w (fun r w' => r = (o_entries μ c w).1 ∧ w' = (o_entries μ c w).2) := by
  refine CMi_of rfl (by simp [rv_cat, Value.category]) rfl ?_
  rintro κ hO hF rfl hR
  have hD := hF.dp
  show X κ 0 0 w 0 [some (rv μ.1), some (.int (I c))] []
  have hL := hR0.1
  obtain ⟨f1, f2, f3, f4, f5⟩ := hR0.1.f
  obtain ⟨t1, t2, t3, t4, t5, t6, t7⟩ := hR0.2.1.2.2.2.1
  refine X_aload_n 1 hO dX13_entries_0 rfl rfl ?_
  refine X_iload_n 2 hO dX13_entries_1 rfl rfl ?_
  refine XM_callVi 5 hO hD hR lX13_445 [_] rfl dX13_entries_2 rfl (c_isStore _ _ _ _ _ _ _ (by omega) hR0 hS hP hM) (by decide) (by simp only [List.map_cons, List.map_nil, rv_cat]; exact Nat.le_of_ble_eq_true rfl) (fun r_2 w_2 hr_2 hp_2 hR => ?_)
  obtain ⟨e1_2, e2_2⟩ := hp_2
  subst e1_2
  subst e2_2
  refine X_if_eq 8 17 hO dX13_entries_5 rfl rfl (by omega) (fun hc_5 => ?_) (fun hc_5 => ?_)
  ·
    try simp only [bi_0, bi_ne, ne_eq, Classical.not_not] at hc_5
    refine X_iconst 18 hO dX13_entries_17 rfl ?_
    exact XM_iret hO hF hR rfl (by first | exact Or.inl rfl | exact Or.inr ⟨rfl, bi_01 _⟩ | exact Or.inr ⟨rfl, by omega⟩) dX13_entries_18 (by first | assumption | omega | exact I_rng _) (by first | (exfalso; omega) | (unfold o_entries ; (try unfold m_ti); (try unfold m_th); (repeat (first | rw [if_pos (by omega)] | rw [if_neg (by omega)])); exact ⟨rfl, rfl⟩))
  ·
    try simp only [bi_0, bi_ne, ne_eq, Classical.not_not] at hc_5
    refine X_aload_n 9 hO dX13_entries_8 rfl rfl ?_
    refine ga_22 12 hO hR dX13_entries_9 rfl ?_
    refine X_iload_n 13 hO dX13_entries_12 rfl rfl ?_
    refine ma_ld (L := 20) (c := 204) 14 hO hR rfl rfl rfl dX13_entries_13 rfl (by omega) (by omega) (fun hi_13 => ?_)
    try simp (disch := decide) only [up_k, up_s, step_at, pool_at, poolN_at, opens_at, closes_at, fl_at, del_at, ins_at, rep_at, psh_at, trn_at, tak_at, pEn_at, cpQ_at, cpP_at, cpT_at, ti_at, th_at] at hi_13 ⊢
    refine X_goto hO dX13_entries_14 (tgt := 18) rfl ?_
    exact XM_iret hO hF hR rfl (by first | exact Or.inl rfl | exact Or.inr ⟨rfl, bi_01 _⟩ | exact Or.inr ⟨rfl, by omega⟩) dX13_entries_18 (by first | assumption | omega | exact I_rng _) (by first | (exfalso; omega) | (unfold o_entries ; (try unfold m_ti); (try unfold m_th); (repeat (first | rw [if_pos (by omega)] | rw [if_neg (by omega)])); exact ⟨rfl, rfl⟩))
def o_entryLength (μ : MU) (s e : Int) (w : Mm) : Int × Mm := if isE s e w then (w 205 0 (4 * s + e), m_ti μ (isE s e w) w) else (0, m_ti μ (isE s e w) w)
theorem dX13_entryLength_0 : decode cX13_entryLength 0 = .ok (.aload_n 0, 1) := by decide +kernel
theorem dX13_entryLength_1 : decode cX13_entryLength 1 = .ok (.iload_n 1, 1) := by decide +kernel
theorem dX13_entryLength_2 : decode cX13_entryLength 2 = .ok (.iload_n 2, 1) := by decide +kernel
theorem dX13_entryLength_3 : decode cX13_entryLength 3 = .ok (.invokevirtual 448, 3) := by decide +kernel
theorem dX13_entryLength_6 : decode cX13_entryLength 6 = .ok (.ifCond .eq 16, 3) := by decide +kernel
theorem dX13_entryLength_9 : decode cX13_entryLength 9 = .ok (.aload_n 0, 1) := by decide +kernel
theorem dX13_entryLength_10 : decode cX13_entryLength 10 = .ok (.getfield 25, 3) := by decide +kernel
theorem dX13_entryLength_13 : decode cX13_entryLength 13 = .ok (.iconst 4, 1) := by decide +kernel
theorem dX13_entryLength_14 : decode cX13_entryLength 14 = .ok (.iload_n 1, 1) := by decide +kernel
theorem dX13_entryLength_15 : decode cX13_entryLength 15 = .ok (.imul, 1) := by decide +kernel
theorem dX13_entryLength_16 : decode cX13_entryLength 16 = .ok (.iload_n 2, 1) := by decide +kernel
theorem dX13_entryLength_17 : decode cX13_entryLength 17 = .ok (.iadd, 1) := by decide +kernel
theorem dX13_entryLength_18 : decode cX13_entryLength 18 = .ok (.iaload, 1) := by decide +kernel
theorem dX13_entryLength_19 : decode cX13_entryLength 19 = .ok (.goto 4, 3) := by decide +kernel
theorem dX13_entryLength_22 : decode cX13_entryLength 22 = .ok (.iconst 0, 1) := by decide +kernel
theorem dX13_entryLength_23 : decode cX13_entryLength 23 = .ok (.ireturn, 1) := by decide +kernel
set_option maxRecDepth 4000 in
theorem c_entryLength (γ : LC) (μ : MU) (w : Mm) (s e : Int) (S P M : Int) (hs : IR s) (he : IR e) (hR0 : RB μ S P M w) (hS : S ≤ 28900) (hP : P ≤ 500000) (hM : M ≤ 590) : CMi γ μ 2 mX13_entryLength [.int (I s), .int (I e)] w (fun r w' => r = (o_entryLength μ s e w).1 ∧ w' = (o_entryLength μ s e w).2) := by
  refine CMi_of rfl (by simp [rv_cat, Value.category]) rfl ?_
  rintro κ hO hF rfl hR
  have hD := hF.dp
  show X κ 0 0 w 0 [some (rv μ.1), some (.int (I s)), some (.int (I e))] []
  have hL := hR0.1
  obtain ⟨f1, f2, f3, f4, f5⟩ := hR0.1.f
  obtain ⟨t1, t2, t3, t4, t5, t6, t7⟩ := hR0.2.1.2.2.2.1
  refine X_aload_n 1 hO dX13_entryLength_0 rfl rfl ?_
  refine X_iload_n 2 hO dX13_entryLength_1 rfl rfl ?_
  refine X_iload_n 3 hO dX13_entryLength_2 rfl rfl ?_
  refine XM_callVi 6 hO hD hR lX13_448 [_, _] rfl dX13_entryLength_3 rfl (c_isEntry _ _ _ _ _ _ _ _ (by omega) (by omega) hR0 hS hP hM) (by decide) (by simp only [List.map_cons, List.map_nil, rv_cat]; exact Nat.le_of_ble_eq_true rfl) (fun r_3 w_3 hr_3 hp_3 hR => ?_)
  obtain ⟨e1_3, e2_3⟩ := hp_3
  subst e1_3
  subst e2_3
  refine X_if_eq 9 22 hO dX13_entryLength_6 rfl rfl (by omega) (fun hc_6 => ?_) (fun hc_6 => ?_)
  ·
    try simp only [bi_0, bi_ne, ne_eq, Classical.not_not] at hc_6
    refine X_iconst 23 hO dX13_entryLength_22 rfl ?_
    exact XM_iret hO hF hR rfl (by first | exact Or.inl rfl | exact Or.inr ⟨rfl, bi_01 _⟩ | exact Or.inr ⟨rfl, by omega⟩) dX13_entryLength_23 (by first | assumption | omega | exact I_rng _) (by first | (exfalso; omega) | (unfold o_entryLength ; (try unfold m_ti); (try unfold m_th); (repeat (first | rw [if_pos (by omega)] | rw [if_neg (by omega)])); exact ⟨rfl, rfl⟩))
  ·
    try simp only [bi_0, bi_ne, ne_eq, Classical.not_not] at hc_6
    have hcn := hL.cn (s := s) (by omega)
    refine X_aload_n 10 hO dX13_entryLength_9 rfl rfl ?_
    refine ga_25 13 hO hR dX13_entryLength_10 rfl ?_
    refine X_iconst 14 hO dX13_entryLength_13 rfl ?_
    refine X_iload_n 15 hO dX13_entryLength_14 rfl rfl ?_
    refine X_imul 16 hO dX13_entryLength_15 rfl ?_
    refine X_iload_n 17 hO dX13_entryLength_16 rfl rfl ?_
    refine X_iadd 18 hO dX13_entryLength_17 rfl ?_
    refine ma_ld (L := 80) (c := 205) 19 hO hR rfl rfl rfl dX13_entryLength_18 rfl (by omega) (by omega) (fun hi_18 => ?_)
    try simp (disch := decide) only [up_k, up_s, step_at, pool_at, poolN_at, opens_at, closes_at, fl_at, del_at, ins_at, rep_at, psh_at, trn_at, tak_at, pEn_at, cpQ_at, cpP_at, cpT_at, ti_at, th_at] at hi_18 ⊢
    refine X_goto hO dX13_entryLength_19 (tgt := 23) rfl ?_
    exact XM_iret hO hF hR rfl (by first | exact Or.inl rfl | exact Or.inr ⟨rfl, bi_01 _⟩ | exact Or.inr ⟨rfl, by omega⟩) dX13_entryLength_23 (by first | assumption | omega | exact I_rng _) (by first | (exfalso; omega) | (unfold o_entryLength ; (try unfold m_ti); (try unfold m_th); (repeat (first | rw [if_pos (by omega)] | rw [if_neg (by omega)])); exact ⟨rfl, rfl⟩))
def o_entryChar (μ : MU) (s e k : Int) (w : Mm) : Int × Mm := if isE s e w then (if 0 ≤ k ∧ k ≤ w 205 0 (4 * s + e) - 1 then (w 206 0 (80 * s + 20 * e + k), m_th μ 0 (m_ti μ (isE s e w) w)) else (0, m_th μ 1 (m_ti μ (isE s e w) w))) else (0, m_ti μ (isE s e w) w)
theorem dX13_entryChar_0 : decode cX13_entryChar 0 = .ok (.aload_n 0, 1) := by decide +kernel
theorem dX13_entryChar_1 : decode cX13_entryChar 1 = .ok (.iload_n 1, 1) := by decide +kernel
theorem dX13_entryChar_2 : decode cX13_entryChar 2 = .ok (.iload_n 2, 1) := by decide +kernel
theorem dX13_entryChar_3 : decode cX13_entryChar 3 = .ok (.invokevirtual 448, 3) := by decide +kernel
theorem dX13_entryChar_6 : decode cX13_entryChar 6 = .ok (.ifCond .ne 5, 3) := by decide +kernel
theorem dX13_entryChar_9 : decode cX13_entryChar 9 = .ok (.iconst 0, 1) := by decide +kernel
theorem dX13_entryChar_10 : decode cX13_entryChar 10 = .ok (.ireturn, 1) := by decide +kernel
theorem dX13_entryChar_11 : decode cX13_entryChar 11 = .ok (.aload_n 0, 1) := by decide +kernel
theorem dX13_entryChar_12 : decode cX13_entryChar 12 = .ok (.iload_n 3, 1) := by decide +kernel
theorem dX13_entryChar_13 : decode cX13_entryChar 13 = .ok (.iconst 0, 1) := by decide +kernel
theorem dX13_entryChar_14 : decode cX13_entryChar 14 = .ok (.aload_n 0, 1) := by decide +kernel
theorem dX13_entryChar_15 : decode cX13_entryChar 15 = .ok (.getfield 25, 3) := by decide +kernel
theorem dX13_entryChar_18 : decode cX13_entryChar 18 = .ok (.iconst 4, 1) := by decide +kernel
theorem dX13_entryChar_19 : decode cX13_entryChar 19 = .ok (.iload_n 1, 1) := by decide +kernel
theorem dX13_entryChar_20 : decode cX13_entryChar 20 = .ok (.imul, 1) := by decide +kernel
theorem dX13_entryChar_21 : decode cX13_entryChar 21 = .ok (.iload_n 2, 1) := by decide +kernel
theorem dX13_entryChar_22 : decode cX13_entryChar 22 = .ok (.iadd, 1) := by decide +kernel
theorem dX13_entryChar_23 : decode cX13_entryChar 23 = .ok (.iaload, 1) := by decide +kernel
theorem dX13_entryChar_24 : decode cX13_entryChar 24 = .ok (.iconst 1, 1) := by decide +kernel
theorem dX13_entryChar_25 : decode cX13_entryChar 25 = .ok (.isub, 1) := by decide +kernel
theorem dX13_entryChar_26 : decode cX13_entryChar 26 = .ok (.invokestatic 174, 3) := by decide +kernel
theorem dX13_entryChar_29 : decode cX13_entryChar 29 = .ok (.ifCond .eq 7, 3) := by decide +kernel
theorem dX13_entryChar_32 : decode cX13_entryChar 32 = .ok (.iconst 0, 1) := by decide +kernel
theorem dX13_entryChar_33 : decode cX13_entryChar 33 = .ok (.goto 4, 3) := by decide +kernel
theorem dX13_entryChar_36 : decode cX13_entryChar 36 = .ok (.iconst 1, 1) := by decide +kernel
theorem dX13_entryChar_37 : decode cX13_entryChar 37 = .ok (.putfield 171, 3) := by decide +kernel
theorem dX13_entryChar_40 : decode cX13_entryChar 40 = .ok (.aload_n 0, 1) := by decide +kernel
theorem dX13_entryChar_41 : decode cX13_entryChar 41 = .ok (.getfield 171, 3) := by decide +kernel
theorem dX13_entryChar_44 : decode cX13_entryChar 44 = .ok (.ifCond .ne 22, 3) := by decide +kernel
theorem dX13_entryChar_47 : decode cX13_entryChar 47 = .ok (.aload_n 0, 1) := by decide +kernel
theorem dX13_entryChar_48 : decode cX13_entryChar 48 = .ok (.getfield 28, 3) := by decide +kernel
theorem dX13_entryChar_51 : decode cX13_entryChar 51 = .ok (.bipush 80, 2) := by decide +kernel
theorem dX13_entryChar_53 : decode cX13_entryChar 53 = .ok (.iload_n 1, 1) := by decide +kernel
theorem dX13_entryChar_54 : decode cX13_entryChar 54 = .ok (.imul, 1) := by decide +kernel
theorem dX13_entryChar_55 : decode cX13_entryChar 55 = .ok (.bipush 20, 2) := by decide +kernel
theorem dX13_entryChar_57 : decode cX13_entryChar 57 = .ok (.iload_n 2, 1) := by decide +kernel
theorem dX13_entryChar_58 : decode cX13_entryChar 58 = .ok (.imul, 1) := by decide +kernel
theorem dX13_entryChar_59 : decode cX13_entryChar 59 = .ok (.iadd, 1) := by decide +kernel
theorem dX13_entryChar_60 : decode cX13_entryChar 60 = .ok (.iload_n 3, 1) := by decide +kernel
theorem dX13_entryChar_61 : decode cX13_entryChar 61 = .ok (.iadd, 1) := by decide +kernel
theorem dX13_entryChar_62 : decode cX13_entryChar 62 = .ok (.iaload, 1) := by decide +kernel
theorem dX13_entryChar_63 : decode cX13_entryChar 63 = .ok (.goto 4, 3) := by decide +kernel
theorem dX13_entryChar_66 : decode cX13_entryChar 66 = .ok (.iconst 0, 1) := by decide +kernel
theorem dX13_entryChar_67 : decode cX13_entryChar 67 = .ok (.ireturn, 1) := by decide +kernel
set_option maxRecDepth 4000 in
theorem c_entryChar (γ : LC) (μ : MU) (w : Mm) (s e k : Int) (S P M : Int) (hs : IR s) (he : IR e) (hk : IR k) (hR0 : RB μ S P M w) (hS : S ≤ 28900) (hP : P ≤ 500000) (hM : M ≤ 590) : CMi γ μ 2 mX13_entryChar [.int (I s), .int (I e), .int (I k)] w (fun r w' => r = (o_entryChar μ s e k w).1 ∧ w' = (o_entryChar μ s e k w).2) := by
  refine CMi_of rfl (by simp [rv_cat, Value.category]) rfl ?_
  rintro κ hO hF rfl hR
  have hD := hF.dp
  show X κ 0 0 w 0 [some (rv μ.1), some (.int (I s)), some (.int (I e)), some (.int (I k))] []
  have hL := hR0.1
  obtain ⟨f1, f2, f3, f4, f5⟩ := hR0.1.f
  obtain ⟨t1, t2, t3, t4, t5, t6, t7⟩ := hR0.2.1.2.2.2.1
  refine X_aload_n 1 hO dX13_entryChar_0 rfl rfl ?_
  refine X_iload_n 2 hO dX13_entryChar_1 rfl rfl ?_
  refine X_iload_n 3 hO dX13_entryChar_2 rfl rfl ?_
  refine XM_callVi 6 hO hD hR lX13_448 [_, _] rfl dX13_entryChar_3 rfl (c_isEntry _ _ _ _ _ _ _ _ (by omega) (by omega) hR0 hS hP hM) (by decide) (by simp only [List.map_cons, List.map_nil, rv_cat]; exact Nat.le_of_ble_eq_true rfl) (fun r_3 w_3 hr_3 hp_3 hR => ?_)
  obtain ⟨e1_3, e2_3⟩ := hp_3
  subst e1_3
  subst e2_3
  refine X_if_ne 9 11 hO dX13_entryChar_6 rfl rfl (by omega) (fun hc_6 => ?_) (fun hc_6 => ?_)
  ·
    try simp only [bi_0, bi_ne, ne_eq, Classical.not_not] at hc_6
    have hcn := hL.cn (s := s) (by omega)
    have hel := hL.el (i := 4 * s + e) (by omega)
    refine X_aload_n 12 hO dX13_entryChar_11 rfl rfl ?_
    refine X_iload_n 13 hO dX13_entryChar_12 rfl rfl ?_
    refine X_iconst 14 hO dX13_entryChar_13 rfl ?_
    refine X_aload_n 15 hO dX13_entryChar_14 rfl rfl ?_
    refine ga_25 18 hO hR dX13_entryChar_15 rfl ?_
    refine X_iconst 19 hO dX13_entryChar_18 rfl ?_
    refine X_iload_n 20 hO dX13_entryChar_19 rfl rfl ?_
    refine X_imul 21 hO dX13_entryChar_20 rfl ?_
    refine X_iload_n 22 hO dX13_entryChar_21 rfl rfl ?_
    refine X_iadd 23 hO dX13_entryChar_22 rfl ?_
    refine ma_ld (L := 80) (c := 205) 24 hO hR rfl rfl rfl dX13_entryChar_23 rfl (by omega) (by omega) (fun hi_23 => ?_)
    try simp (disch := decide) only [up_k, up_s, step_at, pool_at, poolN_at, opens_at, closes_at, fl_at, del_at, ins_at, rep_at, psh_at, trn_at, tak_at, pEn_at, cpQ_at, cpP_at, cpT_at, ti_at, th_at] at hi_23 ⊢
    refine X_iconst 25 hO dX13_entryChar_24 rfl ?_
    refine X_isub 26 hO dX13_entryChar_25 rfl ?_
    refine XM_callSi 29 hO hD lX13_174 [_, _, _] rfl dX13_entryChar_26 rfl (c_in _ _ _ _ _ (by omega) (by omega) (by omega)) (by decide) (by simp only [List.map_cons, List.map_nil, rv_cat]; exact Nat.le_of_ble_eq_true rfl) (fun r_26 hr_26 hp_26 => ?_)
    subst hp_26
    refine X_if_eq 32 36 hO dX13_entryChar_29 rfl rfl (by omega) (fun hc_29 => ?_) (fun hc_29 => ?_)
    ·
      try simp only [bi_0, bi_ne, ne_eq, Classical.not_not] at hc_29
      refine X_iconst 37 hO dX13_entryChar_36 rfl ?_
      refine pa_171 40 hO hR dX13_entryChar_37 rfl (by omega) (fun hR => ?_)
      refine X_aload_n 41 hO dX13_entryChar_40 rfl rfl ?_
      refine ga_171 44 hO hR dX13_entryChar_41 rfl (fun hi_41 => ?_)
      try simp (disch := decide) only [up_k, up_s, step_at, pool_at, poolN_at, opens_at, closes_at, fl_at, del_at, ins_at, rep_at, psh_at, trn_at, tak_at, pEn_at, cpQ_at, cpP_at, cpT_at, ti_at, th_at] at hi_41 ⊢
      refine X_if_ne 47 66 hO dX13_entryChar_44 rfl rfl (by omega) (fun hc_44 => ?_) (fun hc_44 => ?_)
      ·
        refine X_iconst 67 hO dX13_entryChar_66 rfl ?_
        exact XM_iret hO hF hR rfl (by first | exact Or.inl rfl | exact Or.inr ⟨rfl, bi_01 _⟩ | exact Or.inr ⟨rfl, by omega⟩) dX13_entryChar_67 (by first | assumption | omega | exact I_rng _) (by first | (exfalso; omega) | (unfold o_entryChar ; (try unfold m_ti); (try unfold m_th); (repeat (first | rw [if_pos (by omega)] | rw [if_neg (by omega)])); exact ⟨rfl, rfl⟩))
      ·
        refine X_aload_n 48 hO dX13_entryChar_47 rfl rfl ?_
        refine ga_28 51 hO hR dX13_entryChar_48 rfl ?_
        refine X_bipush 53 hO dX13_entryChar_51 rfl (by decide) ?_
        refine X_iload_n 54 hO dX13_entryChar_53 rfl rfl ?_
        refine X_imul 55 hO dX13_entryChar_54 rfl ?_
        refine X_bipush 57 hO dX13_entryChar_55 rfl (by decide) ?_
        refine X_iload_n 58 hO dX13_entryChar_57 rfl rfl ?_
        refine X_imul 59 hO dX13_entryChar_58 rfl ?_
        refine X_iadd 60 hO dX13_entryChar_59 rfl ?_
        refine X_iload_n 61 hO dX13_entryChar_60 rfl rfl ?_
        refine X_iadd 62 hO dX13_entryChar_61 rfl ?_
        refine ma_ld (L := 1600) (c := 206) 63 hO hR rfl rfl rfl dX13_entryChar_62 rfl (by omega) (by omega) (fun hi_62 => ?_)
        try simp (disch := decide) only [up_k, up_s, step_at, pool_at, poolN_at, opens_at, closes_at, fl_at, del_at, ins_at, rep_at, psh_at, trn_at, tak_at, pEn_at, cpQ_at, cpP_at, cpT_at, ti_at, th_at] at hi_62 ⊢
        refine X_goto hO dX13_entryChar_63 (tgt := 67) rfl ?_
        exact XM_iret hO hF hR rfl (by first | exact Or.inl rfl | exact Or.inr ⟨rfl, bi_01 _⟩ | exact Or.inr ⟨rfl, by omega⟩) dX13_entryChar_67 (by first | assumption | omega | exact I_rng _) (by first | (exfalso; omega) | (unfold o_entryChar ; (try unfold m_ti); (try unfold m_th); (repeat (first | rw [if_pos (by omega)] | rw [if_neg (by omega)])); exact ⟨rfl, rfl⟩))
    ·
      try simp only [bi_0, bi_ne, ne_eq, Classical.not_not] at hc_29
      refine X_iconst 33 hO dX13_entryChar_32 rfl ?_
      refine X_goto hO dX13_entryChar_33 (tgt := 37) rfl ?_
      refine pa_171 40 hO hR dX13_entryChar_37 rfl (by omega) (fun hR => ?_)
      refine X_aload_n 41 hO dX13_entryChar_40 rfl rfl ?_
      refine ga_171 44 hO hR dX13_entryChar_41 rfl (fun hi_41 => ?_)
      try simp (disch := decide) only [up_k, up_s, step_at, pool_at, poolN_at, opens_at, closes_at, fl_at, del_at, ins_at, rep_at, psh_at, trn_at, tak_at, pEn_at, cpQ_at, cpP_at, cpT_at, ti_at, th_at] at hi_41 ⊢
      refine X_if_ne 47 66 hO dX13_entryChar_44 rfl rfl (by omega) (fun hc_44 => ?_) (fun hc_44 => ?_)
      ·
        refine X_iconst 67 hO dX13_entryChar_66 rfl ?_
        exact XM_iret hO hF hR rfl (by first | exact Or.inl rfl | exact Or.inr ⟨rfl, bi_01 _⟩ | exact Or.inr ⟨rfl, by omega⟩) dX13_entryChar_67 (by first | assumption | omega | exact I_rng _) (by first | (exfalso; omega) | (unfold o_entryChar ; (try unfold m_ti); (try unfold m_th); (repeat (first | rw [if_pos (by omega)] | rw [if_neg (by omega)])); exact ⟨rfl, rfl⟩))
      ·
        refine X_aload_n 48 hO dX13_entryChar_47 rfl rfl ?_
        refine ga_28 51 hO hR dX13_entryChar_48 rfl ?_
        refine X_bipush 53 hO dX13_entryChar_51 rfl (by decide) ?_
        refine X_iload_n 54 hO dX13_entryChar_53 rfl rfl ?_
        refine X_imul 55 hO dX13_entryChar_54 rfl ?_
        refine X_bipush 57 hO dX13_entryChar_55 rfl (by decide) ?_
        refine X_iload_n 58 hO dX13_entryChar_57 rfl rfl ?_
        refine X_imul 59 hO dX13_entryChar_58 rfl ?_
        refine X_iadd 60 hO dX13_entryChar_59 rfl ?_
        refine X_iload_n 61 hO dX13_entryChar_60 rfl rfl ?_
        refine X_iadd 62 hO dX13_entryChar_61 rfl ?_
        refine ma_ld (L := 1600) (c := 206) 63 hO hR rfl rfl rfl dX13_entryChar_62 rfl (by omega) (by omega) (fun hi_62 => ?_)
        try simp (disch := decide) only [up_k, up_s, step_at, pool_at, poolN_at, opens_at, closes_at, fl_at, del_at, ins_at, rep_at, psh_at, trn_at, tak_at, pEn_at, cpQ_at, cpP_at, cpT_at, ti_at, th_at] at hi_62 ⊢
        refine X_goto hO dX13_entryChar_63 (tgt := 67) rfl ?_
        exact XM_iret hO hF hR rfl (by first | exact Or.inl rfl | exact Or.inr ⟨rfl, bi_01 _⟩ | exact Or.inr ⟨rfl, by omega⟩) dX13_entryChar_67 (by first | assumption | omega | exact I_rng _) (by first | (exfalso; omega) | (unfold o_entryChar ; (try unfold m_ti); (try unfold m_th); (repeat (first | rw [if_pos (by omega)] | rw [if_neg (by omega)])); exact ⟨rfl, rfl⟩))
  ·
    try simp only [bi_0, bi_ne, ne_eq, Classical.not_not] at hc_6
    refine X_iconst 10 hO dX13_entryChar_9 rfl ?_
    exact XM_iret hO hF hR rfl (by first | exact Or.inl rfl | exact Or.inr ⟨rfl, bi_01 _⟩ | exact Or.inr ⟨rfl, by omega⟩) dX13_entryChar_10 (by first | assumption | omega | exact I_rng _) (by first | (exfalso; omega) | (unfold o_entryChar ; (try unfold m_ti); (try unfold m_th); (repeat (first | rw [if_pos (by omega)] | rw [if_neg (by omega)])); exact ⟨rfl, rfl⟩))
def o_commands (μ : MU) (c : Int) (w : Mm) : Int × Mm := if 0 ≤ c ∧ c ≤ 3 then (w 236 0 c, m_th μ 0 w) else (0, m_th μ 1 w)
theorem dX13_commands_0 : decode cX13_commands 0 = .ok (.aload_n 0, 1) := by decide +kernel
theorem dX13_commands_1 : decode cX13_commands 1 = .ok (.iload_n 1, 1) := by decide +kernel
theorem dX13_commands_2 : decode cX13_commands 2 = .ok (.iconst 0, 1) := by decide +kernel
theorem dX13_commands_3 : decode cX13_commands 3 = .ok (.iconst 3, 1) := by decide +kernel
theorem dX13_commands_4 : decode cX13_commands 4 = .ok (.invokestatic 174, 3) := by decide +kernel
theorem dX13_commands_7 : decode cX13_commands 7 = .ok (.ifCond .eq 7, 3) := by decide +kernel
theorem dX13_commands_10 : decode cX13_commands 10 = .ok (.iconst 0, 1) := by decide +kernel
theorem dX13_commands_11 : decode cX13_commands 11 = .ok (.goto 4, 3) := by decide +kernel
theorem dX13_commands_14 : decode cX13_commands 14 = .ok (.iconst 1, 1) := by decide +kernel
theorem dX13_commands_15 : decode cX13_commands 15 = .ok (.putfield 171, 3) := by decide +kernel
theorem dX13_commands_18 : decode cX13_commands 18 = .ok (.aload_n 0, 1) := by decide +kernel
theorem dX13_commands_19 : decode cX13_commands 19 = .ok (.getfield 171, 3) := by decide +kernel
theorem dX13_commands_22 : decode cX13_commands 22 = .ok (.ifCond .ne 12, 3) := by decide +kernel
theorem dX13_commands_25 : decode cX13_commands 25 = .ok (.aload_n 0, 1) := by decide +kernel
theorem dX13_commands_26 : decode cX13_commands 26 = .ok (.getfield 132, 3) := by decide +kernel
theorem dX13_commands_29 : decode cX13_commands 29 = .ok (.iload_n 1, 1) := by decide +kernel
theorem dX13_commands_30 : decode cX13_commands 30 = .ok (.iaload, 1) := by decide +kernel
theorem dX13_commands_31 : decode cX13_commands 31 = .ok (.goto 4, 3) := by decide +kernel
theorem dX13_commands_34 : decode cX13_commands 34 = .ok (.iconst 0, 1) := by decide +kernel
theorem dX13_commands_35 : decode cX13_commands 35 = .ok (.ireturn, 1) := by decide +kernel
set_option maxRecDepth 4000 in
theorem c_commands (γ : LC) (μ : MU) (w : Mm) (c : Int) (S P M : Int) (hc : IR c) (hR0 : RB μ S P M w) (hS : S ≤ 28900) (hP : P ≤ 500000) (hM : M ≤ 590) : CMi γ μ 1 mX13_commands [.int (I c)] w (fun r w' => r = (o_commands μ c w).1 ∧ w' = (o_commands μ c w).2) := by
  refine CMi_of rfl (by simp [rv_cat, Value.category]) rfl ?_
  rintro κ hO hF rfl hR
  have hD := hF.dp
  show X κ 0 0 w 0 [some (rv μ.1), some (.int (I c))] []
  have hL := hR0.1
  obtain ⟨f1, f2, f3, f4, f5⟩ := hR0.1.f
  obtain ⟨t1, t2, t3, t4, t5, t6, t7⟩ := hR0.2.1.2.2.2.1
  refine X_aload_n 1 hO dX13_commands_0 rfl rfl ?_
  refine X_iload_n 2 hO dX13_commands_1 rfl rfl ?_
  refine X_iconst 3 hO dX13_commands_2 rfl ?_
  refine X_iconst 4 hO dX13_commands_3 rfl ?_
  refine XM_callSi 7 hO hD lX13_174 [_, _, _] rfl dX13_commands_4 rfl (c_in _ _ _ _ _ (by omega) (by omega) (by omega)) (by decide) (by simp only [List.map_cons, List.map_nil, rv_cat]; exact Nat.le_of_ble_eq_true rfl) (fun r_4 hr_4 hp_4 => ?_)
  subst hp_4
  refine X_if_eq 10 14 hO dX13_commands_7 rfl rfl (by omega) (fun hc_7 => ?_) (fun hc_7 => ?_)
  ·
    try simp only [bi_0, bi_ne, ne_eq, Classical.not_not] at hc_7
    refine X_iconst 15 hO dX13_commands_14 rfl ?_
    refine pa_171 18 hO hR dX13_commands_15 rfl (by omega) (fun hR => ?_)
    refine X_aload_n 19 hO dX13_commands_18 rfl rfl ?_
    refine ga_171 22 hO hR dX13_commands_19 rfl (fun hi_19 => ?_)
    try simp (disch := decide) only [up_k, up_s, step_at, pool_at, poolN_at, opens_at, closes_at, fl_at, del_at, ins_at, rep_at, psh_at, trn_at, tak_at, pEn_at, cpQ_at, cpP_at, cpT_at, ti_at, th_at] at hi_19 ⊢
    refine X_if_ne 25 34 hO dX13_commands_22 rfl rfl (by omega) (fun hc_22 => ?_) (fun hc_22 => ?_)
    ·
      refine X_iconst 35 hO dX13_commands_34 rfl ?_
      exact XM_iret hO hF hR rfl (by first | exact Or.inl rfl | exact Or.inr ⟨rfl, bi_01 _⟩ | exact Or.inr ⟨rfl, by omega⟩) dX13_commands_35 (by first | assumption | omega | exact I_rng _) (by first | (exfalso; omega) | (unfold o_commands ; (try unfold m_ti); (try unfold m_th); (repeat (first | rw [if_pos (by omega)] | rw [if_neg (by omega)])); exact ⟨rfl, rfl⟩))
    ·
      refine X_aload_n 26 hO dX13_commands_25 rfl rfl ?_
      refine ga_132 29 hO hR dX13_commands_26 rfl ?_
      refine X_iload_n 30 hO dX13_commands_29 rfl rfl ?_
      refine ma_ld (L := 5) (c := 236) 31 hO hR rfl rfl rfl dX13_commands_30 rfl (by omega) (by omega) (fun hi_30 => ?_)
      try simp (disch := decide) only [up_k, up_s, step_at, pool_at, poolN_at, opens_at, closes_at, fl_at, del_at, ins_at, rep_at, psh_at, trn_at, tak_at, pEn_at, cpQ_at, cpP_at, cpT_at, ti_at, th_at] at hi_30 ⊢
      refine X_goto hO dX13_commands_31 (tgt := 35) rfl ?_
      exact XM_iret hO hF hR rfl (by first | exact Or.inl rfl | exact Or.inr ⟨rfl, bi_01 _⟩ | exact Or.inr ⟨rfl, by omega⟩) dX13_commands_35 (by first | assumption | omega | exact I_rng _) (by first | (exfalso; omega) | (unfold o_commands ; (try unfold m_ti); (try unfold m_th); (repeat (first | rw [if_pos (by omega)] | rw [if_neg (by omega)])); exact ⟨rfl, rfl⟩))
  ·
    try simp only [bi_0, bi_ne, ne_eq, Classical.not_not] at hc_7
    refine X_iconst 11 hO dX13_commands_10 rfl ?_
    refine X_goto hO dX13_commands_11 (tgt := 15) rfl ?_
    refine pa_171 18 hO hR dX13_commands_15 rfl (by omega) (fun hR => ?_)
    refine X_aload_n 19 hO dX13_commands_18 rfl rfl ?_
    refine ga_171 22 hO hR dX13_commands_19 rfl (fun hi_19 => ?_)
    try simp (disch := decide) only [up_k, up_s, step_at, pool_at, poolN_at, opens_at, closes_at, fl_at, del_at, ins_at, rep_at, psh_at, trn_at, tak_at, pEn_at, cpQ_at, cpP_at, cpT_at, ti_at, th_at] at hi_19 ⊢
    refine X_if_ne 25 34 hO dX13_commands_22 rfl rfl (by omega) (fun hc_22 => ?_) (fun hc_22 => ?_)
    ·
      refine X_iconst 35 hO dX13_commands_34 rfl ?_
      exact XM_iret hO hF hR rfl (by first | exact Or.inl rfl | exact Or.inr ⟨rfl, bi_01 _⟩ | exact Or.inr ⟨rfl, by omega⟩) dX13_commands_35 (by first | assumption | omega | exact I_rng _) (by first | (exfalso; omega) | (unfold o_commands ; (try unfold m_ti); (try unfold m_th); (repeat (first | rw [if_pos (by omega)] | rw [if_neg (by omega)])); exact ⟨rfl, rfl⟩))
    ·
      refine X_aload_n 26 hO dX13_commands_25 rfl rfl ?_
      refine ga_132 29 hO hR dX13_commands_26 rfl ?_
      refine X_iload_n 30 hO dX13_commands_29 rfl rfl ?_
      refine ma_ld (L := 5) (c := 236) 31 hO hR rfl rfl rfl dX13_commands_30 rfl (by omega) (by omega) (fun hi_30 => ?_)
      try simp (disch := decide) only [up_k, up_s, step_at, pool_at, poolN_at, opens_at, closes_at, fl_at, del_at, ins_at, rep_at, psh_at, trn_at, tak_at, pEn_at, cpQ_at, cpP_at, cpT_at, ti_at, th_at] at hi_30 ⊢
      refine X_goto hO dX13_commands_31 (tgt := 35) rfl ?_
      exact XM_iret hO hF hR rfl (by first | exact Or.inl rfl | exact Or.inr ⟨rfl, bi_01 _⟩ | exact Or.inr ⟨rfl, by omega⟩) dX13_commands_35 (by first | assumption | omega | exact I_rng _) (by first | (exfalso; omega) | (unfold o_commands ; (try unfold m_ti); (try unfold m_th); (repeat (first | rw [if_pos (by omega)] | rw [if_neg (by omega)])); exact ⟨rfl, rfl⟩))
def o_failureReason (μ : MU)  (w : Mm) : Int × Mm := (w 134 μ.1 0, m_th μ 0 w)
theorem dX13_failureReason_0 : decode cX13_failureReason 0 = .ok (.aload_n 0, 1) := by decide +kernel
theorem dX13_failureReason_1 : decode cX13_failureReason 1 = .ok (.iconst 0, 1) := by decide +kernel
theorem dX13_failureReason_2 : decode cX13_failureReason 2 = .ok (.putfield 171, 3) := by decide +kernel
theorem dX13_failureReason_5 : decode cX13_failureReason 5 = .ok (.aload_n 0, 1) := by decide +kernel
theorem dX13_failureReason_6 : decode cX13_failureReason 6 = .ok (.getfield 382, 3) := by decide +kernel
theorem dX13_failureReason_9 : decode cX13_failureReason 9 = .ok (.ireturn, 1) := by decide +kernel
set_option maxRecDepth 4000 in
theorem c_failureReason (γ : LC) (μ : MU) (w : Mm)  (S P M : Int)  (hR0 : RB μ S P M w) (hS : S ≤ 28900) (hP : P ≤ 500000) (hM : M ≤ 590) : CMi γ μ 0 mX13_failureReason [] w (fun r w' => r = (o_failureReason μ  w).1 ∧ w' = (o_failureReason μ  w).2) := by
  refine CMi_of rfl (by simp [rv_cat, Value.category]) rfl ?_
  rintro κ hO hF rfl hR
  have hD := hF.dp
  show X κ 0 0 w 0 [some (rv μ.1)] []
  have hL := hR0.1
  obtain ⟨f1, f2, f3, f4, f5⟩ := hR0.1.f
  obtain ⟨t1, t2, t3, t4, t5, t6, t7⟩ := hR0.2.1.2.2.2.1
  refine X_aload_n 1 hO dX13_failureReason_0 rfl rfl ?_
  refine X_iconst 2 hO dX13_failureReason_1 rfl ?_
  refine pa_171 5 hO hR dX13_failureReason_2 rfl (by omega) (fun hR => ?_)
  refine X_aload_n 6 hO dX13_failureReason_5 rfl rfl ?_
  refine ga_382 9 hO hR dX13_failureReason_6 rfl (fun hi_6 => ?_)
  try simp (disch := decide) only [up_k, up_s, step_at, pool_at, poolN_at, opens_at, closes_at, fl_at, del_at, ins_at, rep_at, psh_at, trn_at, tak_at, pEn_at, cpQ_at, cpP_at, cpT_at, ti_at, th_at] at hi_6 ⊢
  exact XM_iret hO hF hR rfl (by first | exact Or.inl rfl | exact Or.inr ⟨rfl, bi_01 _⟩ | exact Or.inr ⟨rfl, by omega⟩) dX13_failureReason_9 (by first | assumption | omega | exact I_rng _) (by first | (exfalso; omega) | (unfold o_failureReason ; (try unfold m_ti); (try unfold m_th); (repeat (first | rw [if_pos (by omega)] | rw [if_neg (by omega)])); exact ⟨rfl, rfl⟩))
def o_failureCommand (μ : MU)  (w : Mm) : Int × Mm := (w 135 μ.1 0, m_th μ 0 w)
theorem dX13_failureCommand_0 : decode cX13_failureCommand 0 = .ok (.aload_n 0, 1) := by decide +kernel
theorem dX13_failureCommand_1 : decode cX13_failureCommand 1 = .ok (.iconst 0, 1) := by decide +kernel
theorem dX13_failureCommand_2 : decode cX13_failureCommand 2 = .ok (.putfield 171, 3) := by decide +kernel
theorem dX13_failureCommand_5 : decode cX13_failureCommand 5 = .ok (.aload_n 0, 1) := by decide +kernel
theorem dX13_failureCommand_6 : decode cX13_failureCommand 6 = .ok (.getfield 147, 3) := by decide +kernel
theorem dX13_failureCommand_9 : decode cX13_failureCommand 9 = .ok (.ireturn, 1) := by decide +kernel
set_option maxRecDepth 4000 in
theorem c_failureCommand (γ : LC) (μ : MU) (w : Mm)  (S P M : Int)  (hR0 : RB μ S P M w) (hS : S ≤ 28900) (hP : P ≤ 500000) (hM : M ≤ 590) : CMi γ μ 0 mX13_failureCommand [] w (fun r w' => r = (o_failureCommand μ  w).1 ∧ w' = (o_failureCommand μ  w).2) := by
  refine CMi_of rfl (by simp [rv_cat, Value.category]) rfl ?_
  rintro κ hO hF rfl hR
  have hD := hF.dp
  show X κ 0 0 w 0 [some (rv μ.1)] []
  have hL := hR0.1
  obtain ⟨f1, f2, f3, f4, f5⟩ := hR0.1.f
  obtain ⟨t1, t2, t3, t4, t5, t6, t7⟩ := hR0.2.1.2.2.2.1
  refine X_aload_n 1 hO dX13_failureCommand_0 rfl rfl ?_
  refine X_iconst 2 hO dX13_failureCommand_1 rfl ?_
  refine pa_171 5 hO hR dX13_failureCommand_2 rfl (by omega) (fun hR => ?_)
  refine X_aload_n 6 hO dX13_failureCommand_5 rfl rfl ?_
  refine ga_147 9 hO hR dX13_failureCommand_6 rfl (fun hi_6 => ?_)
  try simp (disch := decide) only [up_k, up_s, step_at, pool_at, poolN_at, opens_at, closes_at, fl_at, del_at, ins_at, rep_at, psh_at, trn_at, tak_at, pEn_at, cpQ_at, cpP_at, cpT_at, ti_at, th_at] at hi_6 ⊢
  exact XM_iret hO hF hR rfl (by first | exact Or.inl rfl | exact Or.inr ⟨rfl, bi_01 _⟩ | exact Or.inr ⟨rfl, by omega⟩) dX13_failureCommand_9 (by first | assumption | omega | exact I_rng _) (by first | (exfalso; omega) | (unfold o_failureCommand ; (try unfold m_ti); (try unfold m_th); (repeat (first | rw [if_pos (by omega)] | rw [if_neg (by omega)])); exact ⟨rfl, rfl⟩))
def o_listenerChain (μ : MU) (c : Int) (w : Mm) : Int × Mm := if 0 ≤ c ∧ c ≤ 7 then (w 232 0 c, m_th μ 0 w) else (0, m_th μ 1 w)
theorem dX13_listenerChain_0 : decode cX13_listenerChain 0 = .ok (.aload_n 0, 1) := by decide +kernel
theorem dX13_listenerChain_1 : decode cX13_listenerChain 1 = .ok (.iload_n 1, 1) := by decide +kernel
theorem dX13_listenerChain_2 : decode cX13_listenerChain 2 = .ok (.iconst 0, 1) := by decide +kernel
theorem dX13_listenerChain_3 : decode cX13_listenerChain 3 = .ok (.bipush 7, 2) := by decide +kernel
theorem dX13_listenerChain_5 : decode cX13_listenerChain 5 = .ok (.invokestatic 174, 3) := by decide +kernel
theorem dX13_listenerChain_8 : decode cX13_listenerChain 8 = .ok (.ifCond .eq 7, 3) := by decide +kernel
theorem dX13_listenerChain_11 : decode cX13_listenerChain 11 = .ok (.iconst 0, 1) := by decide +kernel
theorem dX13_listenerChain_12 : decode cX13_listenerChain 12 = .ok (.goto 4, 3) := by decide +kernel
theorem dX13_listenerChain_15 : decode cX13_listenerChain 15 = .ok (.iconst 1, 1) := by decide +kernel
theorem dX13_listenerChain_16 : decode cX13_listenerChain 16 = .ok (.putfield 171, 3) := by decide +kernel
theorem dX13_listenerChain_19 : decode cX13_listenerChain 19 = .ok (.aload_n 0, 1) := by decide +kernel
theorem dX13_listenerChain_20 : decode cX13_listenerChain 20 = .ok (.getfield 171, 3) := by decide +kernel
theorem dX13_listenerChain_23 : decode cX13_listenerChain 23 = .ok (.ifCond .ne 12, 3) := by decide +kernel
theorem dX13_listenerChain_26 : decode cX13_listenerChain 26 = .ok (.aload_n 0, 1) := by decide +kernel
theorem dX13_listenerChain_27 : decode cX13_listenerChain 27 = .ok (.getfield 120, 3) := by decide +kernel
theorem dX13_listenerChain_30 : decode cX13_listenerChain 30 = .ok (.iload_n 1, 1) := by decide +kernel
theorem dX13_listenerChain_31 : decode cX13_listenerChain 31 = .ok (.iaload, 1) := by decide +kernel
theorem dX13_listenerChain_32 : decode cX13_listenerChain 32 = .ok (.goto 4, 3) := by decide +kernel
theorem dX13_listenerChain_35 : decode cX13_listenerChain 35 = .ok (.iconst 0, 1) := by decide +kernel
theorem dX13_listenerChain_36 : decode cX13_listenerChain 36 = .ok (.ireturn, 1) := by decide +kernel
set_option maxRecDepth 4000 in
theorem c_listenerChain (γ : LC) (μ : MU) (w : Mm) (c : Int) (S P M : Int) (hc : IR c) (hR0 : RB μ S P M w) (hS : S ≤ 28900) (hP : P ≤ 500000) (hM : M ≤ 590) : CMi γ μ 1 mX13_listenerChain [.int (I c)] w (fun r w' => r = (o_listenerChain μ c w).1 ∧ w' = (o_listenerChain μ c w).2) := by
  refine CMi_of rfl (by simp [rv_cat, Value.category]) rfl ?_
  rintro κ hO hF rfl hR
  have hD := hF.dp
  show X κ 0 0 w 0 [some (rv μ.1), some (.int (I c))] []
  have hL := hR0.1
  obtain ⟨f1, f2, f3, f4, f5⟩ := hR0.1.f
  obtain ⟨t1, t2, t3, t4, t5, t6, t7⟩ := hR0.2.1.2.2.2.1
  refine X_aload_n 1 hO dX13_listenerChain_0 rfl rfl ?_
  refine X_iload_n 2 hO dX13_listenerChain_1 rfl rfl ?_
  refine X_iconst 3 hO dX13_listenerChain_2 rfl ?_
  refine X_bipush 5 hO dX13_listenerChain_3 rfl (by decide) ?_
  refine XM_callSi 8 hO hD lX13_174 [_, _, _] rfl dX13_listenerChain_5 rfl (c_in _ _ _ _ _ (by omega) (by omega) (by omega)) (by decide) (by simp only [List.map_cons, List.map_nil, rv_cat]; exact Nat.le_of_ble_eq_true rfl) (fun r_5 hr_5 hp_5 => ?_)
  subst hp_5
  refine X_if_eq 11 15 hO dX13_listenerChain_8 rfl rfl (by omega) (fun hc_8 => ?_) (fun hc_8 => ?_)
  ·
    try simp only [bi_0, bi_ne, ne_eq, Classical.not_not] at hc_8
    refine X_iconst 16 hO dX13_listenerChain_15 rfl ?_
    refine pa_171 19 hO hR dX13_listenerChain_16 rfl (by omega) (fun hR => ?_)
    refine X_aload_n 20 hO dX13_listenerChain_19 rfl rfl ?_
    refine ga_171 23 hO hR dX13_listenerChain_20 rfl (fun hi_20 => ?_)
    try simp (disch := decide) only [up_k, up_s, step_at, pool_at, poolN_at, opens_at, closes_at, fl_at, del_at, ins_at, rep_at, psh_at, trn_at, tak_at, pEn_at, cpQ_at, cpP_at, cpT_at, ti_at, th_at] at hi_20 ⊢
    refine X_if_ne 26 35 hO dX13_listenerChain_23 rfl rfl (by omega) (fun hc_23 => ?_) (fun hc_23 => ?_)
    ·
      refine X_iconst 36 hO dX13_listenerChain_35 rfl ?_
      exact XM_iret hO hF hR rfl (by first | exact Or.inl rfl | exact Or.inr ⟨rfl, bi_01 _⟩ | exact Or.inr ⟨rfl, by omega⟩) dX13_listenerChain_36 (by first | assumption | omega | exact I_rng _) (by first | (exfalso; omega) | (unfold o_listenerChain ; (try unfold m_ti); (try unfold m_th); (repeat (first | rw [if_pos (by omega)] | rw [if_neg (by omega)])); exact ⟨rfl, rfl⟩))
    ·
      refine X_aload_n 27 hO dX13_listenerChain_26 rfl rfl ?_
      refine ga_120 30 hO hR dX13_listenerChain_27 rfl ?_
      refine X_iload_n 31 hO dX13_listenerChain_30 rfl rfl ?_
      refine ma_ld (L := 8) (c := 232) 32 hO hR rfl rfl rfl dX13_listenerChain_31 rfl (by omega) (by omega) (fun hi_31 => ?_)
      try simp (disch := decide) only [up_k, up_s, step_at, pool_at, poolN_at, opens_at, closes_at, fl_at, del_at, ins_at, rep_at, psh_at, trn_at, tak_at, pEn_at, cpQ_at, cpP_at, cpT_at, ti_at, th_at] at hi_31 ⊢
      refine X_goto hO dX13_listenerChain_32 (tgt := 36) rfl ?_
      exact XM_iret hO hF hR rfl (by first | exact Or.inl rfl | exact Or.inr ⟨rfl, bi_01 _⟩ | exact Or.inr ⟨rfl, by omega⟩) dX13_listenerChain_36 (by first | assumption | omega | exact I_rng _) (by first | (exfalso; omega) | (unfold o_listenerChain ; (try unfold m_ti); (try unfold m_th); (repeat (first | rw [if_pos (by omega)] | rw [if_neg (by omega)])); exact ⟨rfl, rfl⟩))
  ·
    try simp only [bi_0, bi_ne, ne_eq, Classical.not_not] at hc_8
    refine X_iconst 12 hO dX13_listenerChain_11 rfl ?_
    refine X_goto hO dX13_listenerChain_12 (tgt := 16) rfl ?_
    refine pa_171 19 hO hR dX13_listenerChain_16 rfl (by omega) (fun hR => ?_)
    refine X_aload_n 20 hO dX13_listenerChain_19 rfl rfl ?_
    refine ga_171 23 hO hR dX13_listenerChain_20 rfl (fun hi_20 => ?_)
    try simp (disch := decide) only [up_k, up_s, step_at, pool_at, poolN_at, opens_at, closes_at, fl_at, del_at, ins_at, rep_at, psh_at, trn_at, tak_at, pEn_at, cpQ_at, cpP_at, cpT_at, ti_at, th_at] at hi_20 ⊢
    refine X_if_ne 26 35 hO dX13_listenerChain_23 rfl rfl (by omega) (fun hc_23 => ?_) (fun hc_23 => ?_)
    ·
      refine X_iconst 36 hO dX13_listenerChain_35 rfl ?_
      exact XM_iret hO hF hR rfl (by first | exact Or.inl rfl | exact Or.inr ⟨rfl, bi_01 _⟩ | exact Or.inr ⟨rfl, by omega⟩) dX13_listenerChain_36 (by first | assumption | omega | exact I_rng _) (by first | (exfalso; omega) | (unfold o_listenerChain ; (try unfold m_ti); (try unfold m_th); (repeat (first | rw [if_pos (by omega)] | rw [if_neg (by omega)])); exact ⟨rfl, rfl⟩))
    ·
      refine X_aload_n 27 hO dX13_listenerChain_26 rfl rfl ?_
      refine ga_120 30 hO hR dX13_listenerChain_27 rfl ?_
      refine X_iload_n 31 hO dX13_listenerChain_30 rfl rfl ?_
      refine ma_ld (L := 8) (c := 232) 32 hO hR rfl rfl rfl dX13_listenerChain_31 rfl (by omega) (by omega) (fun hi_31 => ?_)
      try simp (disch := decide) only [up_k, up_s, step_at, pool_at, poolN_at, opens_at, closes_at, fl_at, del_at, ins_at, rep_at, psh_at, trn_at, tak_at, pEn_at, cpQ_at, cpP_at, cpT_at, ti_at, th_at] at hi_31 ⊢
      refine X_goto hO dX13_listenerChain_32 (tgt := 36) rfl ?_
      exact XM_iret hO hF hR rfl (by first | exact Or.inl rfl | exact Or.inr ⟨rfl, bi_01 _⟩ | exact Or.inr ⟨rfl, by omega⟩) dX13_listenerChain_36 (by first | assumption | omega | exact I_rng _) (by first | (exfalso; omega) | (unfold o_listenerChain ; (try unfold m_ti); (try unfold m_th); (repeat (first | rw [if_pos (by omega)] | rw [if_neg (by omega)])); exact ⟨rfl, rfl⟩))
