def m_fmv (μ : MU) (w : Mm) : Prop := w 122 μ.1 0 ≤ w 120 μ.1 0
theorem ntf_lk {μ : MU} {w : Mm} (h : bPo w) : m_nrun μ 100 1 (up w 234 0 1 0) = some (m_ntf μ w) := by
  obtain ⟨g, h1, _, _⟩ := ntf_ok (μ := μ) h
  exact h1
theorem ntf_ni {μ : MU} {S P : Int} {w : Mm} (hL : LB μ S P w) (hp : bPo w) (ho : bOt w) : NI μ S P 1 (up w 234 0 1 0) :=
  ⟨hL.up_o (by decide), bPo.u hp (by decide), fun i a b => by
    have : i = 1 := by omega
    subst this; rw [up_s]; decide, ho.cong fun i => up_k _ (by decide) _ _ _ _ _, by decide⟩
theorem dX13_ends_0 : decode cX13_ends 0 = .ok (.aload_n 0, 1) := by decide +kernel
theorem dX13_ends_1 : decode cX13_ends 1 = .ok (.getfield 280, 3) := by decide +kernel
theorem dX13_ends_4 : decode cX13_ends 4 = .ok (.iconst 1, 1) := by decide +kernel
theorem dX13_ends_5 : decode cX13_ends 5 = .ok (.if_icmp .eq 14, 3) := by decide +kernel
theorem dX13_ends_8 : decode cX13_ends 8 = .ok (.aload_n 0, 1) := by decide +kernel
theorem dX13_ends_9 : decode cX13_ends 9 = .ok (.getfield 189, 3) := by decide +kernel
theorem dX13_ends_12 : decode cX13_ends 12 = .ok (.aload_n 0, 1) := by decide +kernel
theorem dX13_ends_13 : decode cX13_ends 13 = .ok (.getfield 271, 3) := by decide +kernel
theorem dX13_ends_16 : decode cX13_ends 16 = .ok (.if_icmp .ne 5, 3) := by decide +kernel
theorem dX13_ends_19 : decode cX13_ends 19 = .ok (.iconst 1, 1) := by decide +kernel
theorem dX13_ends_20 : decode cX13_ends 20 = .ok (.ireturn, 1) := by decide +kernel
theorem dX13_ends_21 : decode cX13_ends 21 = .ok (.aload_n 0, 1) := by decide +kernel
theorem dX13_ends_22 : decode cX13_ends 22 = .ok (.invokevirtual 283, 3) := by decide +kernel
theorem dX13_ends_25 : decode cX13_ends 25 = .ok (.ifCond .ne 11, 3) := by decide +kernel
theorem dX13_ends_28 : decode cX13_ends 28 = .ok (.aload_n 0, 1) := by decide +kernel
theorem dX13_ends_29 : decode cX13_ends 29 = .ok (.iconst 2, 1) := by decide +kernel
theorem dX13_ends_30 : decode cX13_ends 30 = .ok (.iconst 1, 1) := by decide +kernel
theorem dX13_ends_31 : decode cX13_ends 31 = .ok (.invokevirtual 287, 3) := by decide +kernel
theorem dX13_ends_34 : decode cX13_ends 34 = .ok (.iconst 0, 1) := by decide +kernel
theorem dX13_ends_35 : decode cX13_ends 35 = .ok (.ireturn, 1) := by decide +kernel
theorem dX13_ends_36 : decode cX13_ends 36 = .ok (.aload_n 0, 1) := by decide +kernel
theorem dX13_ends_37 : decode cX13_ends 37 = .ok (.iload_n 1, 1) := by decide +kernel
theorem dX13_ends_38 : decode cX13_ends 38 = .ok (.invokevirtual 291, 3) := by decide +kernel
theorem dX13_ends_41 : decode cX13_ends 41 = .ok (.iconst 1, 1) := by decide +kernel
theorem dX13_ends_42 : decode cX13_ends 42 = .ok (.ireturn, 1) := by decide +kernel
set_option maxRecDepth 4000 in
theorem c_ends (γ : LC) (μ : MU) (w : Mm) (g S P M : Int) (hg : 0 ≤ g ∧ g ≤ 1) (hz : w 122 μ.1 0 ≤ w 120 μ.1 0) (hB : LB μ S P w) (hK : RK μ S P M w) (hS : S ≤ 29000) (hP : P ≤ 520000) (hM : M ≤ 598) : CMi γ μ 4 mX13_ends [.int (I g)] w (fun r w' => r = (m_ends μ g w).1 ∧ w' = (m_ends μ g w).2) := by
  refine CMi_of rfl (by simp [rv_cat, Value.category]) rfl ?_
  rintro κ hO hF rfl hR
  have hD := hF.dp
  show X κ 0 0 w 0 [some (rv μ.1), some (.int (I g))] []
  obtain ⟨f1, f2, f3, f4, f5⟩ := hB.f
  obtain ⟨n1, n2, n3, n4⟩ := ntf_rk (μ := μ) hB hK
  obtain ⟨l1, l2, l3, l4, l5⟩ := n2.f
  have e122 : (m_ntf μ w).2 122 μ.1 0 = w 122 μ.1 0 := n1.2 _ _ _ (by decide) (by decide) (by decide) (by decide) (by decide) (by decide)
  have e120 : w 120 μ.1 0 ≤ (m_ntf μ w).2 120 μ.1 0 := ntf_120 hB hK
  refine X_aload_n 1 hO dX13_ends_0 rfl rfl ?_
  refine ga_280 4 hO hR dX13_ends_1 rfl (fun hi_1 => ?_)
  refine X_iconst 5 hO dX13_ends_4 rfl ?_
  refine X_icmp_eq 8 19 hO dX13_ends_5 rfl rfl (by omega) (by omega) (fun hc_5 => ?_) (fun hc_5 => ?_)
  ·
    refine X_iconst 20 hO dX13_ends_19 rfl ?_
    exact XM_iret hO hF hR rfl (by first | exact Or.inl rfl | exact Or.inr ⟨rfl, bi_01 _⟩ | exact Or.inr ⟨rfl, by omega⟩) dX13_ends_20 (by omega) (by first | (exfalso; omega) | (unfold m_ends; (repeat (first | rw [if_pos (by omega)] | rw [if_neg (by omega)])); exact ⟨rfl, rfl⟩))
  ·
    refine X_aload_n 9 hO dX13_ends_8 rfl rfl ?_
    refine ga_189 12 hO hR dX13_ends_9 rfl (fun hi_9 => ?_)
    refine X_aload_n 13 hO dX13_ends_12 rfl rfl ?_
    refine ga_271 16 hO hR dX13_ends_13 rfl (fun hi_13 => ?_)
    refine X_icmp_ne 19 21 hO dX13_ends_16 rfl rfl (by omega) (by omega) (fun hc_16 => ?_) (fun hc_16 => ?_)
    ·
      refine X_aload_n 22 hO dX13_ends_21 rfl rfl ?_
      refine XM_callVi 25 hO hD hR lX13_283 [] rfl dX13_ends_22 rfl (c_notifies _ _ _ S P _ (ntf_ni hB hK.2.2.2.2.1 hK.2.2.2.2.2.1) (ntf_lk hK.2.2.2.2.1) (by omega) (by omega)) (by decide) (by simp only [List.map_cons, List.map_nil, rv_cat]; exact Nat.le_of_ble_eq_true rfl) (fun r_22 w_22 hr_22 hp_22 hR => ?_)
      obtain ⟨e1_22, e2_22⟩ := hp_22
      subst e1_22
      subst e2_22
      refine X_if_ne 28 36 hO dX13_ends_25 rfl rfl (by omega) (fun hc_25 => ?_) (fun hc_25 => ?_)
      ·
        try simp only [bi_0, bi_ne, ne_eq, Classical.not_not] at hc_25
        refine X_aload_n 37 hO dX13_ends_36 rfl rfl ?_
        refine X_iload_n 38 hO dX13_ends_37 rfl rfl ?_
        refine XM_callVv 41 hO hD hR lX13_291 [_] rfl dX13_ends_38 rfl (c_makes _ _ _ _ _ (by omega) n3.2.2.2.1 (by omega) (by omega) (by omega) (by omega)) (by decide) (by simp only [List.map_cons, List.map_nil, rv_cat]; exact Nat.le_of_ble_eq_true rfl) (fun w_38 hp_38 hR => ?_)
        subst hp_38
        refine X_iconst 42 hO dX13_ends_41 rfl ?_
        exact XM_iret hO hF hR rfl (by first | exact Or.inl rfl | exact Or.inr ⟨rfl, bi_01 _⟩ | exact Or.inr ⟨rfl, by omega⟩) dX13_ends_42 (by omega) (by unfold m_ends m_en2; (repeat (first | rw [if_pos (by omega)] | rw [if_neg (by omega)])); exact ⟨rfl, rfl⟩)
      ·
        try simp only [bi_0, bi_ne, ne_eq, Classical.not_not] at hc_25
        refine X_aload_n 29 hO dX13_ends_28 rfl rfl ?_
        refine X_iconst 30 hO dX13_ends_29 rfl ?_
        refine X_iconst 31 hO dX13_ends_30 rfl ?_
        refine XM_callVv 34 hO hD hR lX13_287 [_, _] rfl dX13_ends_31 rfl (c_restores _ _ _ _ _ (by omega) (by omega) n3.1.1.1) (by decide) (by simp only [List.map_cons, List.map_nil, rv_cat]; exact Nat.le_of_ble_eq_true rfl) (fun w_31 hp_31 hR => ?_)
        subst hp_31
        refine X_iconst 35 hO dX13_ends_34 rfl ?_
        exact XM_iret hO hF hR rfl (by first | exact Or.inl rfl | exact Or.inr ⟨rfl, bi_01 _⟩ | exact Or.inr ⟨rfl, by omega⟩) dX13_ends_35 (by omega) (by unfold m_ends m_en2; (repeat (first | rw [if_pos (by omega)] | rw [if_neg (by omega)])); exact ⟨rfl, rfl⟩)
    ·
      refine X_iconst 20 hO dX13_ends_19 rfl ?_
      exact XM_iret hO hF hR rfl (by first | exact Or.inl rfl | exact Or.inr ⟨rfl, bi_01 _⟩ | exact Or.inr ⟨rfl, by omega⟩) dX13_ends_20 (by omega) (by first | (exfalso; omega) | (unfold m_ends; (repeat (first | rw [if_pos (by omega)] | rw [if_neg (by omega)])); exact ⟨rfl, rfl⟩))
