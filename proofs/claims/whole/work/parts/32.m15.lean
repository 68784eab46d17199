def m_in3 (μ : MU) (c : Int) (w : Mm) : Int × Mm := (w 201 0 0, up (up w 130 μ.1 0 0) 131 μ.1 0 c)
def m_in1 (μ : MU) (c : Int) (q : Int × Mm) : Int × Mm := if q.1 = 0 then (0, up q.2 139 μ.1 0 2) else m_in3 μ c (m_rec μ 0 c 0 (up q.2 139 μ.1 0 0))
def m_in2 (μ : MU) (c had : Int) (w : Mm) : Int × Mm := if w 139 μ.1 0 > 0 then (0, w) else m_in3 μ c (up w 129 μ.1 0 (if w 124 μ.1 0 > had ∧ w 220 0 (w 126 μ.1 0) = 1 ∧ w 225 0 (w 126 μ.1 0) = 0 then w 126 μ.1 0 else -1))
theorem cty_up {μ : MU} {c k : Int} {w : Mm} : m_cty μ c (up w 139 μ.1 0 k) ↔ m_cty μ c w := by unfold m_cty; simp (disch := decide) only [up_k]
def o_insert (μ : MU) (c : Int) (w : Mm) : Int × Mm := if isC c then (if m_cty μ c w then (if m_full μ w then m_in2 μ c (w 124 μ.1 0) (m_cal μ 0 c 0 2 (m_ti μ (isC c) w)).2 else if w 201 0 0 < 400 then m_in1 μ c (m_ext μ c (m_ti μ (isC c) w)) else m_in2 μ c (w 124 μ.1 0) (m_cal μ 0 c 0 2 (m_ti μ (isC c) w)).2) else m_in2 μ c (w 124 μ.1 0) (m_cal μ 0 c 0 2 (m_ti μ (isC c) w)).2) else (0, m_ti μ (isC c) w)
theorem dX13_insert_0 : decode cX13_insert 0 = .ok (.aload_n 0, 1) := by decide +kernel
theorem dX13_insert_1 : decode cX13_insert 1 = .ok (.iload_n 1, 1) := by decide +kernel
theorem dX13_insert_2 : decode cX13_insert 2 = .ok (.invokestatic 366, 3) := by decide +kernel
theorem dX13_insert_5 : decode cX13_insert 5 = .ok (.ifCond .eq 7, 3) := by decide +kernel
theorem dX13_insert_8 : decode cX13_insert 8 = .ok (.iconst 0, 1) := by decide +kernel
theorem dX13_insert_9 : decode cX13_insert 9 = .ok (.goto 4, 3) := by decide +kernel
theorem dX13_insert_12 : decode cX13_insert 12 = .ok (.iconst 1, 1) := by decide +kernel
theorem dX13_insert_13 : decode cX13_insert 13 = .ok (.putfield 171, 3) := by decide +kernel
theorem dX13_insert_16 : decode cX13_insert 16 = .ok (.aload_n 0, 1) := by decide +kernel
theorem dX13_insert_17 : decode cX13_insert 17 = .ok (.getfield 171, 3) := by decide +kernel
theorem dX13_insert_20 : decode cX13_insert 20 = .ok (.ifCond .le 5, 3) := by decide +kernel
theorem dX13_insert_23 : decode cX13_insert 23 = .ok (.iconst 0, 1) := by decide +kernel
theorem dX13_insert_24 : decode cX13_insert 24 = .ok (.ireturn, 1) := by decide +kernel
theorem dX13_insert_25 : decode cX13_insert 25 = .ok (.aload_n 0, 1) := by decide +kernel
theorem dX13_insert_26 : decode cX13_insert 26 = .ok (.iload_n 1, 1) := by decide +kernel
theorem dX13_insert_27 : decode cX13_insert 27 = .ok (.invokevirtual 369, 3) := by decide +kernel
theorem dX13_insert_30 : decode cX13_insert 30 = .ok (.ifCond .eq 58, 3) := by decide +kernel
theorem dX13_insert_33 : decode cX13_insert 33 = .ok (.aload_n 0, 1) := by decide +kernel
theorem dX13_insert_34 : decode cX13_insert 34 = .ok (.invokevirtual 346, 3) := by decide +kernel
theorem dX13_insert_37 : decode cX13_insert 37 = .ok (.ifCond .ne 51, 3) := by decide +kernel
theorem dX13_insert_40 : decode cX13_insert 40 = .ok (.aload_n 0, 1) := by decide +kernel
theorem dX13_insert_41 : decode cX13_insert 41 = .ok (.getfield 13, 3) := by decide +kernel
theorem dX13_insert_44 : decode cX13_insert 44 = .ok (.iconst 0, 1) := by decide +kernel
theorem dX13_insert_45 : decode cX13_insert 45 = .ok (.iaload, 1) := by decide +kernel
theorem dX13_insert_46 : decode cX13_insert 46 = .ok (.sipush 400, 3) := by decide +kernel
theorem dX13_insert_49 : decode cX13_insert 49 = .ok (.if_icmp .ge 39, 3) := by decide +kernel
theorem dX13_insert_52 : decode cX13_insert 52 = .ok (.aload_n 0, 1) := by decide +kernel
theorem dX13_insert_53 : decode cX13_insert 53 = .ok (.aload_n 0, 1) := by decide +kernel
theorem dX13_insert_54 : decode cX13_insert 54 = .ok (.iload_n 1, 1) := by decide +kernel
theorem dX13_insert_55 : decode cX13_insert 55 = .ok (.invokevirtual 372, 3) := by decide +kernel
theorem dX13_insert_58 : decode cX13_insert 58 = .ok (.ifCond .eq 7, 3) := by decide +kernel
theorem dX13_insert_61 : decode cX13_insert 61 = .ok (.iconst 0, 1) := by decide +kernel
theorem dX13_insert_62 : decode cX13_insert 62 = .ok (.goto 4, 3) := by decide +kernel
theorem dX13_insert_65 : decode cX13_insert 65 = .ok (.iconst 2, 1) := by decide +kernel
theorem dX13_insert_66 : decode cX13_insert 66 = .ok (.putfield 171, 3) := by decide +kernel
theorem dX13_insert_69 : decode cX13_insert 69 = .ok (.aload_n 0, 1) := by decide +kernel
theorem dX13_insert_70 : decode cX13_insert 70 = .ok (.getfield 171, 3) := by decide +kernel
theorem dX13_insert_73 : decode cX13_insert 73 = .ok (.ifCond .le 5, 3) := by decide +kernel
theorem dX13_insert_76 : decode cX13_insert 76 = .ok (.iconst 0, 1) := by decide +kernel
theorem dX13_insert_77 : decode cX13_insert 77 = .ok (.ireturn, 1) := by decide +kernel
theorem dX13_insert_78 : decode cX13_insert 78 = .ok (.aload_n 0, 1) := by decide +kernel
theorem dX13_insert_79 : decode cX13_insert 79 = .ok (.iconst 0, 1) := by decide +kernel
theorem dX13_insert_80 : decode cX13_insert 80 = .ok (.iload_n 1, 1) := by decide +kernel
theorem dX13_insert_81 : decode cX13_insert 81 = .ok (.iconst 0, 1) := by decide +kernel
theorem dX13_insert_82 : decode cX13_insert 82 = .ok (.invokevirtual 354, 3) := by decide +kernel
theorem dX13_insert_85 : decode cX13_insert 85 = .ok (.goto 71, 3) := by decide +kernel
theorem dX13_insert_88 : decode cX13_insert 88 = .ok (.aload_n 0, 1) := by decide +kernel
theorem dX13_insert_89 : decode cX13_insert 89 = .ok (.getfield 59, 3) := by decide +kernel
theorem dX13_insert_92 : decode cX13_insert 92 = .ok (.istore_n 2, 1) := by decide +kernel
theorem dX13_insert_93 : decode cX13_insert 93 = .ok (.aload_n 0, 1) := by decide +kernel
theorem dX13_insert_94 : decode cX13_insert 94 = .ok (.iconst 0, 1) := by decide +kernel
theorem dX13_insert_95 : decode cX13_insert 95 = .ok (.iload_n 1, 1) := by decide +kernel
theorem dX13_insert_96 : decode cX13_insert 96 = .ok (.iconst 0, 1) := by decide +kernel
theorem dX13_insert_97 : decode cX13_insert 97 = .ok (.iconst 2, 1) := by decide +kernel
theorem dX13_insert_98 : decode cX13_insert 98 = .ok (.invokevirtual 375, 3) := by decide +kernel
theorem dX13_insert_101 : decode cX13_insert 101 = .ok (.pop, 1) := by decide +kernel
theorem dX13_insert_102 : decode cX13_insert 102 = .ok (.aload_n 0, 1) := by decide +kernel
theorem dX13_insert_103 : decode cX13_insert 103 = .ok (.getfield 171, 3) := by decide +kernel
theorem dX13_insert_106 : decode cX13_insert 106 = .ok (.ifCond .le 5, 3) := by decide +kernel
theorem dX13_insert_109 : decode cX13_insert 109 = .ok (.iconst 0, 1) := by decide +kernel
theorem dX13_insert_110 : decode cX13_insert 110 = .ok (.ireturn, 1) := by decide +kernel
theorem dX13_insert_111 : decode cX13_insert 111 = .ok (.aload_n 0, 1) := by decide +kernel
theorem dX13_insert_112 : decode cX13_insert 112 = .ok (.aload_n 0, 1) := by decide +kernel
theorem dX13_insert_113 : decode cX13_insert 113 = .ok (.getfield 59, 3) := by decide +kernel
theorem dX13_insert_116 : decode cX13_insert 116 = .ok (.iload_n 2, 1) := by decide +kernel
theorem dX13_insert_117 : decode cX13_insert 117 = .ok (.if_icmp .le 35, 3) := by decide +kernel
theorem dX13_insert_120 : decode cX13_insert 120 = .ok (.aload_n 0, 1) := by decide +kernel
theorem dX13_insert_121 : decode cX13_insert 121 = .ok (.getfield 78, 3) := by decide +kernel
theorem dX13_insert_124 : decode cX13_insert 124 = .ok (.aload_n 0, 1) := by decide +kernel
theorem dX13_insert_125 : decode cX13_insert 125 = .ok (.getfield 258, 3) := by decide +kernel
theorem dX13_insert_128 : decode cX13_insert 128 = .ok (.iaload, 1) := by decide +kernel
theorem dX13_insert_129 : decode cX13_insert 129 = .ok (.iconst 1, 1) := by decide +kernel
theorem dX13_insert_130 : decode cX13_insert 130 = .ok (.if_icmp .ne 22, 3) := by decide +kernel
theorem dX13_insert_133 : decode cX13_insert 133 = .ok (.aload_n 0, 1) := by decide +kernel
theorem dX13_insert_134 : decode cX13_insert 134 = .ok (.getfield 93, 3) := by decide +kernel
theorem dX13_insert_137 : decode cX13_insert 137 = .ok (.aload_n 0, 1) := by decide +kernel
theorem dX13_insert_138 : decode cX13_insert 138 = .ok (.getfield 258, 3) := by decide +kernel
theorem dX13_insert_141 : decode cX13_insert 141 = .ok (.iaload, 1) := by decide +kernel
theorem dX13_insert_142 : decode cX13_insert 142 = .ok (.ifCond .ne 10, 3) := by decide +kernel
theorem dX13_insert_145 : decode cX13_insert 145 = .ok (.aload_n 0, 1) := by decide +kernel
theorem dX13_insert_146 : decode cX13_insert 146 = .ok (.getfield 258, 3) := by decide +kernel
theorem dX13_insert_149 : decode cX13_insert 149 = .ok (.goto 4, 3) := by decide +kernel
theorem dX13_insert_152 : decode cX13_insert 152 = .ok (.iconst (-1), 1) := by decide +kernel
theorem dX13_insert_153 : decode cX13_insert 153 = .ok (.putfield 105, 3) := by decide +kernel
theorem dX13_insert_156 : decode cX13_insert 156 = .ok (.aload_n 0, 1) := by decide +kernel
theorem dX13_insert_157 : decode cX13_insert 157 = .ok (.iconst 0, 1) := by decide +kernel
theorem dX13_insert_158 : decode cX13_insert 158 = .ok (.putfield 357, 3) := by decide +kernel
theorem dX13_insert_161 : decode cX13_insert 161 = .ok (.aload_n 0, 1) := by decide +kernel
theorem dX13_insert_162 : decode cX13_insert 162 = .ok (.iload_n 1, 1) := by decide +kernel
theorem dX13_insert_163 : decode cX13_insert 163 = .ok (.putfield 363, 3) := by decide +kernel
theorem dX13_insert_166 : decode cX13_insert 166 = .ok (.aload_n 0, 1) := by decide +kernel
theorem dX13_insert_167 : decode cX13_insert 167 = .ok (.getfield 13, 3) := by decide +kernel
theorem dX13_insert_170 : decode cX13_insert 170 = .ok (.iconst 0, 1) := by decide +kernel
theorem dX13_insert_171 : decode cX13_insert 171 = .ok (.iaload, 1) := by decide +kernel
theorem dX13_insert_172 : decode cX13_insert 172 = .ok (.ireturn, 1) := by decide +kernel
set_option maxRecDepth 4000 in
theorem c_insert (γ : LC) (μ : MU) (w : Mm) (c : Int) (S P M : Int) (hc : IR c) (hR0 : RB μ S P M w) (hS : S ≤ 28900) (hP : P ≤ 500000) (hM : M ≤ 590) : CMi γ μ 7 mX13_insert [.int (I c)] w (fun r w' => r = (o_insert μ c w).1 ∧ w' = (o_insert μ c w).2) := by
  refine CMi_of rfl (by simp [rv_cat, Value.category]) rfl ?_
  rintro κ hO hF rfl hR
  have hD := hF.dp
  show X κ 0 0 w 0 [some (rv μ.1), some (.int (I c)), none] []
  have hL := hR0.1
  obtain ⟨f1, f2, f3, f4, f5⟩ := hR0.1.f
  obtain ⟨t1, t2, t3, t4, t5, t6, t7⟩ := hR0.2.1.2.2.2.1
  refine X_aload_n 1 hO dX13_insert_0 rfl rfl ?_
  refine X_iload_n 2 hO dX13_insert_1 rfl rfl ?_
  refine XM_callSi 5 hO hD lX13_366 [_] rfl dX13_insert_2 rfl (c_isCharacter _ _ _ (by omega)) (by decide) (by simp only [List.map_cons, List.map_nil, rv_cat]; exact Nat.le_of_ble_eq_true rfl) (fun r_2 hr_2 hp_2 => ?_)
  subst hp_2
  have JP25 : (isC c) → (RM (up w 139 μ.1 0 0) μ) → X κ 0 0 (up w 139 μ.1 0 0) 25 [some (rv μ.1), some (.int (I c)), none] [] := by
    intro  hCc hR
    have hT : RB μ S P M (up w 139 μ.1 0 0) := hR0.fld (by decide)
    have e201 : up w 139 μ.1 0 0 201 0 0 = w 201 0 0 := up_k _ (by decide) _ _ _ _ _
    have e133 : up w 139 μ.1 0 0 133 μ.1 0 = w 133 μ.1 0 := up_k _ (by decide) _ _ _ _ _
    have e236 : up w 139 μ.1 0 0 236 0 4 = w 236 0 4 := up_k _ (by decide) _ _ _ _ _
    have e129 : up w 139 μ.1 0 0 129 μ.1 0 = w 129 μ.1 0 := up_k _ (by decide) _ _ _ _ _
    have e126 : up w 139 μ.1 0 0 126 μ.1 0 = w 126 μ.1 0 := up_k _ (by decide) _ _ _ _ _
    have hcn := (hR0.2.1.2.2.2.2.2.2 4 (by decide) (by decide)).1
    have hC := RB.cal (c := 0) (a := c) (b := 0) (sort := 2) hT (by unfold CV; omega) (by decide) (by omega) (by omega)
    obtain ⟨u1, u2, u3, u4, u5, u6, u7⟩ := hC.2.1.2.2.2.1
    obtain ⟨v1, v2, v3, v4, v5⟩ := hC.1.f
    have hc126 : 0 ≤ c ∧ c ≤ 126 := by omega
    have JP88 : ((if m_cty μ c w then (if m_full μ w then m_in2 μ c (w 124 μ.1 0) (m_cal μ 0 c 0 2 (m_ti μ (isC c) w)).2 else if w 201 0 0 < 400 then m_in1 μ c (m_ext μ c (m_ti μ (isC c) w)) else m_in2 μ c (w 124 μ.1 0) (m_cal μ 0 c 0 2 (m_ti μ (isC c) w)).2) else m_in2 μ c (w 124 μ.1 0) (m_cal μ 0 c 0 2 (m_ti μ (isC c) w)).2) = m_in2 μ c (w 124 μ.1 0) (m_cal μ 0 c 0 2 (m_ti μ (isC c) w)).2) → X κ 0 0 (up w 139 μ.1 0 0) 88 [some (rv μ.1), some (.int (I c)), none] [] := by
      intro  hEq
      refine X_aload_n 89 hO dX13_insert_88 rfl rfl ?_
      refine ga_59 92 hO hR dX13_insert_89 rfl (fun hi_89 => ?_)
      try simp (disch := decide) only [up_k, up_s, step_at, pool_at, poolN_at, opens_at, closes_at, fl_at, del_at, ins_at, rep_at, psh_at, trn_at, tak_at, pEn_at, cpQ_at, cpP_at, cpT_at, ti_at, th_at, rec_at] at hi_89 ⊢
      refine X_istore_n 93 hO dX13_insert_92 rfl rfl ?_
      refine X_aload_n 94 hO dX13_insert_93 rfl rfl ?_
      refine X_iconst 95 hO dX13_insert_94 rfl ?_
      refine X_iload_n 96 hO dX13_insert_95 rfl rfl ?_
      refine X_iconst 97 hO dX13_insert_96 rfl ?_
      refine X_iconst 98 hO dX13_insert_97 rfl ?_
      refine XM_callVi 101 hO hD hR lX13_375 [_, _, _, _] rfl dX13_insert_98 rfl (c_called _ _ _ _ _ _ _ S P M (by unfold CV; omega) (by omega) (by omega) hT hS hP hM) (by decide) (by simp only [List.map_cons, List.map_nil, rv_cat]; exact Nat.le_of_ble_eq_true rfl) (fun r_98 w_98 hr_98 hp_98 hR => ?_)
      obtain ⟨e1_98, e2_98⟩ := hp_98
      subst e1_98
      subst e2_98
      refine X_pop 102 hO dX13_insert_101 rfl (by first | rfl | exact rv_cat _) ?_
      refine X_aload_n 103 hO dX13_insert_102 rfl rfl ?_
      refine ga_171 106 hO hR dX13_insert_103 rfl (fun hi_103 => ?_)
      try simp (disch := decide) only [up_k, up_s, step_at, pool_at, poolN_at, opens_at, closes_at, fl_at, del_at, ins_at, rep_at, psh_at, trn_at, tak_at, pEn_at, cpQ_at, cpP_at, cpT_at, ti_at, th_at, rec_at] at hi_103 ⊢
      refine X_if_le 109 111 hO dX13_insert_106 rfl rfl (by omega) (fun hc_106 => ?_) (fun hc_106 => ?_)
      ·
        refine X_aload_n 112 hO dX13_insert_111 rfl rfl ?_
        refine X_aload_n 113 hO dX13_insert_112 rfl rfl ?_
        refine ga_59 116 hO hR dX13_insert_113 rfl (fun hi_113 => ?_)
        try simp (disch := decide) only [up_k, up_s, step_at, pool_at, poolN_at, opens_at, closes_at, fl_at, del_at, ins_at, rep_at, psh_at, trn_at, tak_at, pEn_at, cpQ_at, cpP_at, cpT_at, ti_at, th_at, rec_at] at hi_113 ⊢
        refine X_iload_n 117 hO dX13_insert_116 rfl rfl ?_
        refine X_icmp_le 120 152 hO dX13_insert_117 rfl rfl (by omega) (by omega) (fun hc_117 => ?_) (fun hc_117 => ?_)
        ·
          refine X_iconst 153 hO dX13_insert_152 rfl ?_
          refine pa_105 156 hO hR dX13_insert_153 rfl (by omega) (fun hR => ?_)
          refine X_aload_n 157 hO dX13_insert_156 rfl rfl ?_
          refine X_iconst 158 hO dX13_insert_157 rfl ?_
          refine pa_357 161 hO hR dX13_insert_158 rfl (by omega) (fun hR => ?_)
          refine X_aload_n 162 hO dX13_insert_161 rfl rfl ?_
          refine X_iload_n 163 hO dX13_insert_162 rfl rfl ?_
          refine pa_363 166 hO hR dX13_insert_163 rfl (by omega) (fun hR => ?_)
          refine X_aload_n 167 hO dX13_insert_166 rfl rfl ?_
          refine ga_13 170 hO hR dX13_insert_167 rfl ?_
          refine X_iconst 171 hO dX13_insert_170 rfl ?_
          refine ma_ld (L := 4) (c := 201) 172 hO hR rfl rfl rfl dX13_insert_171 rfl (by omega) (by omega) (fun hi_171 => ?_)
          try simp (disch := decide) only [up_k, up_s, step_at, pool_at, poolN_at, opens_at, closes_at, fl_at, del_at, ins_at, rep_at, psh_at, trn_at, tak_at, pEn_at, cpQ_at, cpP_at, cpT_at, ti_at, th_at, rec_at] at hi_171 ⊢
          exact XM_iret hO hF hR rfl (by first | exact Or.inl rfl | exact Or.inr ⟨rfl, bi_01 _⟩ | exact Or.inr ⟨rfl, by omega⟩) dX13_insert_172 (by first | assumption | omega | exact I_rng _) (by first | (exfalso; omega) | (unfold o_insert; rw [if_pos hCc, hEq]; unfold m_ti m_in2 m_in3; rw [if_pos hCc]; (repeat (first | rw [if_pos (by omega)] | rw [if_neg (by omega)])); (first | exact ⟨rfl, rfl⟩ | (refine ⟨?_, rfl⟩; simp (disch := decide) only [rec_at, up_k]))) | (unfold o_insert; rw [if_pos hCc, if_pos hq1, if_neg (by omega), if_pos (by omega)]; unfold m_ti m_in1 m_in3; rw [if_pos hCc]; (repeat (first | rw [if_pos (by omega)] | rw [if_neg (by omega)])); (first | exact ⟨rfl, rfl⟩ | (refine ⟨?_, rfl⟩; simp (disch := decide) only [rec_at, up_k]))))
        ·
          refine X_aload_n 121 hO dX13_insert_120 rfl rfl ?_
          refine ga_78 124 hO hR dX13_insert_121 rfl ?_
          refine X_aload_n 125 hO dX13_insert_124 rfl rfl ?_
          refine ga_258 128 hO hR dX13_insert_125 rfl (fun hi_125 => ?_)
          try simp (disch := decide) only [up_k, up_s, step_at, pool_at, poolN_at, opens_at, closes_at, fl_at, del_at, ins_at, rep_at, psh_at, trn_at, tak_at, pEn_at, cpQ_at, cpP_at, cpT_at, ti_at, th_at, rec_at] at hi_125 ⊢
          refine ma_ld (L := 640) (c := 220) 129 hO hR rfl rfl rfl dX13_insert_128 rfl (by omega) (by omega) (fun hi_128 => ?_)
          try simp (disch := decide) only [up_k, up_s, step_at, pool_at, poolN_at, opens_at, closes_at, fl_at, del_at, ins_at, rep_at, psh_at, trn_at, tak_at, pEn_at, cpQ_at, cpP_at, cpT_at, ti_at, th_at, rec_at] at hi_128 ⊢
          refine X_iconst 130 hO dX13_insert_129 rfl ?_
          refine X_icmp_ne 133 152 hO dX13_insert_130 rfl rfl (by omega) (by omega) (fun hc_130 => ?_) (fun hc_130 => ?_)
          ·
            refine X_iconst 153 hO dX13_insert_152 rfl ?_
            refine pa_105 156 hO hR dX13_insert_153 rfl (by omega) (fun hR => ?_)
            refine X_aload_n 157 hO dX13_insert_156 rfl rfl ?_
            refine X_iconst 158 hO dX13_insert_157 rfl ?_
            refine pa_357 161 hO hR dX13_insert_158 rfl (by omega) (fun hR => ?_)
            refine X_aload_n 162 hO dX13_insert_161 rfl rfl ?_
            refine X_iload_n 163 hO dX13_insert_162 rfl rfl ?_
            refine pa_363 166 hO hR dX13_insert_163 rfl (by omega) (fun hR => ?_)
            refine X_aload_n 167 hO dX13_insert_166 rfl rfl ?_
            refine ga_13 170 hO hR dX13_insert_167 rfl ?_
            refine X_iconst 171 hO dX13_insert_170 rfl ?_
            refine ma_ld (L := 4) (c := 201) 172 hO hR rfl rfl rfl dX13_insert_171 rfl (by omega) (by omega) (fun hi_171 => ?_)
            try simp (disch := decide) only [up_k, up_s, step_at, pool_at, poolN_at, opens_at, closes_at, fl_at, del_at, ins_at, rep_at, psh_at, trn_at, tak_at, pEn_at, cpQ_at, cpP_at, cpT_at, ti_at, th_at, rec_at] at hi_171 ⊢
            exact XM_iret hO hF hR rfl (by first | exact Or.inl rfl | exact Or.inr ⟨rfl, bi_01 _⟩ | exact Or.inr ⟨rfl, by omega⟩) dX13_insert_172 (by first | assumption | omega | exact I_rng _) (by first | (exfalso; omega) | (unfold o_insert; rw [if_pos hCc, hEq]; unfold m_ti m_in2 m_in3; rw [if_pos hCc]; (repeat (first | rw [if_pos (by omega)] | rw [if_neg (by omega)])); (first | exact ⟨rfl, rfl⟩ | (refine ⟨?_, rfl⟩; simp (disch := decide) only [rec_at, up_k]))) | (unfold o_insert; rw [if_pos hCc, if_pos hq1, if_neg (by omega), if_pos (by omega)]; unfold m_ti m_in1 m_in3; rw [if_pos hCc]; (repeat (first | rw [if_pos (by omega)] | rw [if_neg (by omega)])); (first | exact ⟨rfl, rfl⟩ | (refine ⟨?_, rfl⟩; simp (disch := decide) only [rec_at, up_k]))))
          ·
            refine X_aload_n 134 hO dX13_insert_133 rfl rfl ?_
            refine ga_93 137 hO hR dX13_insert_134 rfl ?_
            refine X_aload_n 138 hO dX13_insert_137 rfl rfl ?_
            refine ga_258 141 hO hR dX13_insert_138 rfl (fun hi_138 => ?_)
            try simp (disch := decide) only [up_k, up_s, step_at, pool_at, poolN_at, opens_at, closes_at, fl_at, del_at, ins_at, rep_at, psh_at, trn_at, tak_at, pEn_at, cpQ_at, cpP_at, cpT_at, ti_at, th_at, rec_at] at hi_138 ⊢
            refine ma_ld (L := 640) (c := 225) 142 hO hR rfl rfl rfl dX13_insert_141 rfl (by omega) (by omega) (fun hi_141 => ?_)
            try simp (disch := decide) only [up_k, up_s, step_at, pool_at, poolN_at, opens_at, closes_at, fl_at, del_at, ins_at, rep_at, psh_at, trn_at, tak_at, pEn_at, cpQ_at, cpP_at, cpT_at, ti_at, th_at, rec_at] at hi_141 ⊢
            refine X_if_ne 145 152 hO dX13_insert_142 rfl rfl (by omega) (fun hc_142 => ?_) (fun hc_142 => ?_)
            ·
              refine X_iconst 153 hO dX13_insert_152 rfl ?_
              refine pa_105 156 hO hR dX13_insert_153 rfl (by omega) (fun hR => ?_)
              refine X_aload_n 157 hO dX13_insert_156 rfl rfl ?_
              refine X_iconst 158 hO dX13_insert_157 rfl ?_
              refine pa_357 161 hO hR dX13_insert_158 rfl (by omega) (fun hR => ?_)
              refine X_aload_n 162 hO dX13_insert_161 rfl rfl ?_
              refine X_iload_n 163 hO dX13_insert_162 rfl rfl ?_
              refine pa_363 166 hO hR dX13_insert_163 rfl (by omega) (fun hR => ?_)
              refine X_aload_n 167 hO dX13_insert_166 rfl rfl ?_
              refine ga_13 170 hO hR dX13_insert_167 rfl ?_
              refine X_iconst 171 hO dX13_insert_170 rfl ?_
              refine ma_ld (L := 4) (c := 201) 172 hO hR rfl rfl rfl dX13_insert_171 rfl (by omega) (by omega) (fun hi_171 => ?_)
              try simp (disch := decide) only [up_k, up_s, step_at, pool_at, poolN_at, opens_at, closes_at, fl_at, del_at, ins_at, rep_at, psh_at, trn_at, tak_at, pEn_at, cpQ_at, cpP_at, cpT_at, ti_at, th_at, rec_at] at hi_171 ⊢
              exact XM_iret hO hF hR rfl (by first | exact Or.inl rfl | exact Or.inr ⟨rfl, bi_01 _⟩ | exact Or.inr ⟨rfl, by omega⟩) dX13_insert_172 (by first | assumption | omega | exact I_rng _) (by first | (exfalso; omega) | (unfold o_insert; rw [if_pos hCc, hEq]; unfold m_ti m_in2 m_in3; rw [if_pos hCc]; (repeat (first | rw [if_pos (by omega)] | rw [if_neg (by omega)])); (first | exact ⟨rfl, rfl⟩ | (refine ⟨?_, rfl⟩; simp (disch := decide) only [rec_at, up_k]))) | (unfold o_insert; rw [if_pos hCc, if_pos hq1, if_neg (by omega), if_pos (by omega)]; unfold m_ti m_in1 m_in3; rw [if_pos hCc]; (repeat (first | rw [if_pos (by omega)] | rw [if_neg (by omega)])); (first | exact ⟨rfl, rfl⟩ | (refine ⟨?_, rfl⟩; simp (disch := decide) only [rec_at, up_k]))))
            ·
              refine X_aload_n 146 hO dX13_insert_145 rfl rfl ?_
              refine ga_258 149 hO hR dX13_insert_146 rfl (fun hi_146 => ?_)
              try simp (disch := decide) only [up_k, up_s, step_at, pool_at, poolN_at, opens_at, closes_at, fl_at, del_at, ins_at, rep_at, psh_at, trn_at, tak_at, pEn_at, cpQ_at, cpP_at, cpT_at, ti_at, th_at, rec_at] at hi_146 ⊢
              refine X_goto hO dX13_insert_149 (tgt := 153) rfl ?_
              refine pa_105 156 hO hR dX13_insert_153 rfl (by omega) (fun hR => ?_)
              refine X_aload_n 157 hO dX13_insert_156 rfl rfl ?_
              refine X_iconst 158 hO dX13_insert_157 rfl ?_
              refine pa_357 161 hO hR dX13_insert_158 rfl (by omega) (fun hR => ?_)
              refine X_aload_n 162 hO dX13_insert_161 rfl rfl ?_
              refine X_iload_n 163 hO dX13_insert_162 rfl rfl ?_
              refine pa_363 166 hO hR dX13_insert_163 rfl (by omega) (fun hR => ?_)
              refine X_aload_n 167 hO dX13_insert_166 rfl rfl ?_
              refine ga_13 170 hO hR dX13_insert_167 rfl ?_
              refine X_iconst 171 hO dX13_insert_170 rfl ?_
              refine ma_ld (L := 4) (c := 201) 172 hO hR rfl rfl rfl dX13_insert_171 rfl (by omega) (by omega) (fun hi_171 => ?_)
              try simp (disch := decide) only [up_k, up_s, step_at, pool_at, poolN_at, opens_at, closes_at, fl_at, del_at, ins_at, rep_at, psh_at, trn_at, tak_at, pEn_at, cpQ_at, cpP_at, cpT_at, ti_at, th_at, rec_at] at hi_171 ⊢
              exact XM_iret hO hF hR rfl (by first | exact Or.inl rfl | exact Or.inr ⟨rfl, bi_01 _⟩ | exact Or.inr ⟨rfl, by omega⟩) dX13_insert_172 (by first | assumption | omega | exact I_rng _) (by first | (exfalso; omega) | (unfold o_insert; rw [if_pos hCc, hEq]; unfold m_ti m_in2 m_in3; rw [if_pos hCc]; (repeat (first | rw [if_pos (by omega)] | rw [if_neg (by omega)])); (first | exact ⟨rfl, rfl⟩ | (refine ⟨?_, rfl⟩; simp (disch := decide) only [rec_at, up_k]))) | (unfold o_insert; rw [if_pos hCc, if_pos hq1, if_neg (by omega), if_pos (by omega)]; unfold m_ti m_in1 m_in3; rw [if_pos hCc]; (repeat (first | rw [if_pos (by omega)] | rw [if_neg (by omega)])); (first | exact ⟨rfl, rfl⟩ | (refine ⟨?_, rfl⟩; simp (disch := decide) only [rec_at, up_k]))))
      ·
        refine X_iconst 110 hO dX13_insert_109 rfl ?_
        exact XM_iret hO hF hR rfl (by first | exact Or.inl rfl | exact Or.inr ⟨rfl, bi_01 _⟩ | exact Or.inr ⟨rfl, by omega⟩) dX13_insert_110 (by first | assumption | omega | exact I_rng _) (by unfold o_insert; rw [if_pos hCc, hEq]; unfold m_ti m_in2; rw [if_pos hCc]; (repeat (first | rw [if_pos (by omega)] | rw [if_neg (by omega)])); exact ⟨rfl, rfl⟩)
    refine X_aload_n 26 hO dX13_insert_25 rfl rfl ?_
    refine X_iload_n 27 hO dX13_insert_26 rfl rfl ?_
    refine XM_callVi 30 hO hD hR lX13_369 [_] rfl dX13_insert_27 rfl (c_canType _ _ _ _ S P M (by omega) hT hS hP hM) (by decide) (by simp only [List.map_cons, List.map_nil, rv_cat]; exact Nat.le_of_ble_eq_true rfl) (fun r_27 w_27 hr_27 hp_27 hR => ?_)
    obtain ⟨e1_27, e2_27⟩ := hp_27
    subst e1_27
    subst e2_27
    refine X_if_eq 33 88 hO dX13_insert_30 rfl rfl (by omega) (fun hc_30 => ?_) (fun hc_30 => ?_)
    ·
      try simp only [bi_0, bi_ne, ne_eq, Classical.not_not] at hc_30
      have hq1 : ¬ m_cty μ c w := fun hh => hc_30 (cty_up.mpr hh)
      clear hc_30
      exact JP88 (by first | rw [if_neg hq1] | (rw [if_pos hq1]; (repeat (first | rw [if_pos (by omega)] | rw [if_neg (by omega)]))))
    ·
      try simp only [bi_0, bi_ne, ne_eq, Classical.not_not] at hc_30
      have hq1 := cty_up.mp hc_30
      have hq2 := hq1.2.1
      have hq3 := hq1.2.2.1
      clear hc_30
      refine X_aload_n 34 hO dX13_insert_33 rfl rfl ?_
      refine XM_callVi 37 hO hD hR lX13_346 [] rfl dX13_insert_34 rfl (c_isFull _ _ _) (by decide) (by simp only [List.map_cons, List.map_nil, rv_cat]; exact Nat.le_of_ble_eq_true rfl) (fun r_34 w_34 hr_34 hp_34 hR => ?_)
      obtain ⟨e1_34, e2_34⟩ := hp_34
      subst e1_34
      subst e2_34
      refine X_if_ne 40 88 hO dX13_insert_37 rfl rfl (by omega) (fun hc_37 => ?_) (fun hc_37 => ?_)
      ·
        try simp only [bi_0, bi_ne, ne_eq, Classical.not_not] at hc_37
        exact JP88 (by first | rw [if_neg hq1] | (rw [if_pos hq1]; (repeat (first | rw [if_pos (by omega)] | rw [if_neg (by omega)]))))
      ·
        try simp only [bi_0, bi_ne, ne_eq, Classical.not_not] at hc_37
        refine X_aload_n 41 hO dX13_insert_40 rfl rfl ?_
        refine ga_13 44 hO hR dX13_insert_41 rfl ?_
        refine X_iconst 45 hO dX13_insert_44 rfl ?_
        refine ma_ld (L := 4) (c := 201) 46 hO hR rfl rfl rfl dX13_insert_45 rfl (by omega) (by omega) (fun hi_45 => ?_)
        try simp (disch := decide) only [up_k, up_s, step_at, pool_at, poolN_at, opens_at, closes_at, fl_at, del_at, ins_at, rep_at, psh_at, trn_at, tak_at, pEn_at, cpQ_at, cpP_at, cpT_at, ti_at, th_at, rec_at] at hi_45 ⊢
        refine X_sipush 49 hO dX13_insert_46 rfl (by decide) ?_
        refine X_icmp_ge 52 88 hO dX13_insert_49 rfl rfl (by omega) (by omega) (fun hc_49 => ?_) (fun hc_49 => ?_)
        ·
          exact JP88 (by first | rw [if_neg hq1] | (rw [if_pos hq1]; (repeat (first | rw [if_pos (by omega)] | rw [if_neg (by omega)]))))
        ·
          obtain ⟨x1, x2, x3⟩ := RB.ext (c := c) hc126 (by omega) (by rw [e129, e126]; exact ⟨hq2, hq3⟩) hT (by omega) (by omega)
          have y133 := x2 133 μ.1 0 (by decide) (by decide) (by decide) (by decide) (by decide) (by decide) (by decide)
          have y236 := x2 236 0 4 (by decide) (by decide) (by decide) (by decide) (by decide) (by decide) (by decide)
          obtain ⟨z1, z2, z3, z4, z5⟩ := x1.1.f
          refine X_aload_n 53 hO dX13_insert_52 rfl rfl ?_
          refine X_aload_n 54 hO dX13_insert_53 rfl rfl ?_
          refine X_iload_n 55 hO dX13_insert_54 rfl rfl ?_
          refine XM_callVi 58 hO hD hR lX13_372 [_] rfl dX13_insert_55 rfl (c_extendsIt _ _ _ _ S P M hc126 (by omega) (by rw [e129, e126]; exact ⟨hq2, hq3⟩) hT hS hP hM) (by decide) (by simp only [List.map_cons, List.map_nil, rv_cat]; exact Nat.le_of_ble_eq_true rfl) (fun r_55 w_55 hr_55 hp_55 hR => ?_)
          obtain ⟨e1_55, e2_55⟩ := hp_55
          subst e1_55
          subst e2_55
          refine X_if_eq 61 65 hO dX13_insert_58 rfl rfl (by omega) (fun hc_58 => ?_) (fun hc_58 => ?_)
          ·
            try simp only [bi_0, bi_ne, ne_eq, Classical.not_not] at hc_58
            refine X_iconst 66 hO dX13_insert_65 rfl ?_
            refine pa_171 69 hO hR dX13_insert_66 rfl (by omega) (fun hR => ?_)
            refine X_aload_n 70 hO dX13_insert_69 rfl rfl ?_
            refine ga_171 73 hO hR dX13_insert_70 rfl (fun hi_70 => ?_)
            try simp (disch := decide) only [up_k, up_s, step_at, pool_at, poolN_at, opens_at, closes_at, fl_at, del_at, ins_at, rep_at, psh_at, trn_at, tak_at, pEn_at, cpQ_at, cpP_at, cpT_at, ti_at, th_at, rec_at] at hi_70 ⊢
            refine X_if_le 76 78 hO dX13_insert_73 rfl rfl (by omega) (fun hc_73 => ?_) (fun hc_73 => ?_)
            ·
              refine X_aload_n 79 hO dX13_insert_78 rfl rfl ?_
              refine X_iconst 80 hO dX13_insert_79 rfl ?_
              refine X_iload_n 81 hO dX13_insert_80 rfl rfl ?_
              refine X_iconst 82 hO dX13_insert_81 rfl ?_
              refine XM_callVv 85 hO hD hR lX13_354 [_, _, _] rfl dX13_insert_82 rfl (c_records _ _ _ _ _ _ (by rw [up_k _ (by decide), up_k _ (by decide)]; omega) (by omega) (by omega) (by omega)) (by decide) (by simp only [List.map_cons, List.map_nil, rv_cat]; exact Nat.le_of_ble_eq_true rfl) (fun w_82 hp_82 hR => ?_)
              subst hp_82
              refine X_goto hO dX13_insert_85 (tgt := 156) rfl ?_
              refine X_aload_n 157 hO dX13_insert_156 rfl rfl ?_
              refine X_iconst 158 hO dX13_insert_157 rfl ?_
              refine pa_357 161 hO hR dX13_insert_158 rfl (by omega) (fun hR => ?_)
              refine X_aload_n 162 hO dX13_insert_161 rfl rfl ?_
              refine X_iload_n 163 hO dX13_insert_162 rfl rfl ?_
              refine pa_363 166 hO hR dX13_insert_163 rfl (by omega) (fun hR => ?_)
              refine X_aload_n 167 hO dX13_insert_166 rfl rfl ?_
              refine ga_13 170 hO hR dX13_insert_167 rfl ?_
              refine X_iconst 171 hO dX13_insert_170 rfl ?_
              refine ma_ld (L := 4) (c := 201) 172 hO hR rfl rfl rfl dX13_insert_171 rfl (by omega) (by omega) (fun hi_171 => ?_)
              try simp (disch := decide) only [up_k, up_s, step_at, pool_at, poolN_at, opens_at, closes_at, fl_at, del_at, ins_at, rep_at, psh_at, trn_at, tak_at, pEn_at, cpQ_at, cpP_at, cpT_at, ti_at, th_at, rec_at] at hi_171 ⊢
              exact XM_iret hO hF hR rfl (by first | exact Or.inl rfl | exact Or.inr ⟨rfl, bi_01 _⟩ | exact Or.inr ⟨rfl, by omega⟩) dX13_insert_172 (by first | assumption | omega | exact I_rng _) (by first | (exfalso; omega) | (unfold o_insert; rw [if_pos hCc, hEq]; unfold m_ti m_in2 m_in3; rw [if_pos hCc]; (repeat (first | rw [if_pos (by omega)] | rw [if_neg (by omega)])); (first | exact ⟨rfl, rfl⟩ | (refine ⟨?_, rfl⟩; simp (disch := decide) only [rec_at, up_k]))) | (unfold o_insert; rw [if_pos hCc, if_pos hq1, if_neg (by omega), if_pos (by omega)]; unfold m_ti m_in1 m_in3; rw [if_pos hCc]; (repeat (first | rw [if_pos (by omega)] | rw [if_neg (by omega)])); (first | exact ⟨rfl, rfl⟩ | (refine ⟨?_, rfl⟩; simp (disch := decide) only [rec_at, up_k]))))
            ·
              refine X_iconst 77 hO dX13_insert_76 rfl ?_
              exact XM_iret hO hF hR rfl (by first | exact Or.inl rfl | exact Or.inr ⟨rfl, bi_01 _⟩ | exact Or.inr ⟨rfl, by omega⟩) dX13_insert_77 (by first | assumption | omega | exact I_rng _) (by first | (exfalso; omega) | (unfold o_insert; rw [if_pos hCc, if_pos hq1, if_neg (by omega), if_pos (by omega)]; unfold m_ti m_in1; rw [if_pos hCc]; (repeat (first | rw [if_pos (by omega)] | rw [if_neg (by omega)])); exact ⟨rfl, rfl⟩))
          ·
            try simp only [bi_0, bi_ne, ne_eq, Classical.not_not] at hc_58
            refine X_iconst 62 hO dX13_insert_61 rfl ?_
            refine X_goto hO dX13_insert_62 (tgt := 66) rfl ?_
            refine pa_171 69 hO hR dX13_insert_66 rfl (by omega) (fun hR => ?_)
            refine X_aload_n 70 hO dX13_insert_69 rfl rfl ?_
            refine ga_171 73 hO hR dX13_insert_70 rfl (fun hi_70 => ?_)
            try simp (disch := decide) only [up_k, up_s, step_at, pool_at, poolN_at, opens_at, closes_at, fl_at, del_at, ins_at, rep_at, psh_at, trn_at, tak_at, pEn_at, cpQ_at, cpP_at, cpT_at, ti_at, th_at, rec_at] at hi_70 ⊢
            refine X_if_le 76 78 hO dX13_insert_73 rfl rfl (by omega) (fun hc_73 => ?_) (fun hc_73 => ?_)
            ·
              refine X_aload_n 79 hO dX13_insert_78 rfl rfl ?_
              refine X_iconst 80 hO dX13_insert_79 rfl ?_
              refine X_iload_n 81 hO dX13_insert_80 rfl rfl ?_
              refine X_iconst 82 hO dX13_insert_81 rfl ?_
              refine XM_callVv 85 hO hD hR lX13_354 [_, _, _] rfl dX13_insert_82 rfl (c_records _ _ _ _ _ _ (by rw [up_k _ (by decide), up_k _ (by decide)]; omega) (by omega) (by omega) (by omega)) (by decide) (by simp only [List.map_cons, List.map_nil, rv_cat]; exact Nat.le_of_ble_eq_true rfl) (fun w_82 hp_82 hR => ?_)
              subst hp_82
              refine X_goto hO dX13_insert_85 (tgt := 156) rfl ?_
              refine X_aload_n 157 hO dX13_insert_156 rfl rfl ?_
              refine X_iconst 158 hO dX13_insert_157 rfl ?_
              refine pa_357 161 hO hR dX13_insert_158 rfl (by omega) (fun hR => ?_)
              refine X_aload_n 162 hO dX13_insert_161 rfl rfl ?_
              refine X_iload_n 163 hO dX13_insert_162 rfl rfl ?_
              refine pa_363 166 hO hR dX13_insert_163 rfl (by omega) (fun hR => ?_)
              refine X_aload_n 167 hO dX13_insert_166 rfl rfl ?_
              refine ga_13 170 hO hR dX13_insert_167 rfl ?_
              refine X_iconst 171 hO dX13_insert_170 rfl ?_
              refine ma_ld (L := 4) (c := 201) 172 hO hR rfl rfl rfl dX13_insert_171 rfl (by omega) (by omega) (fun hi_171 => ?_)
              try simp (disch := decide) only [up_k, up_s, step_at, pool_at, poolN_at, opens_at, closes_at, fl_at, del_at, ins_at, rep_at, psh_at, trn_at, tak_at, pEn_at, cpQ_at, cpP_at, cpT_at, ti_at, th_at, rec_at] at hi_171 ⊢
              exact XM_iret hO hF hR rfl (by first | exact Or.inl rfl | exact Or.inr ⟨rfl, bi_01 _⟩ | exact Or.inr ⟨rfl, by omega⟩) dX13_insert_172 (by first | assumption | omega | exact I_rng _) (by first | (exfalso; omega) | (unfold o_insert; rw [if_pos hCc, hEq]; unfold m_ti m_in2 m_in3; rw [if_pos hCc]; (repeat (first | rw [if_pos (by omega)] | rw [if_neg (by omega)])); (first | exact ⟨rfl, rfl⟩ | (refine ⟨?_, rfl⟩; simp (disch := decide) only [rec_at, up_k]))) | (unfold o_insert; rw [if_pos hCc, if_pos hq1, if_neg (by omega), if_pos (by omega)]; unfold m_ti m_in1 m_in3; rw [if_pos hCc]; (repeat (first | rw [if_pos (by omega)] | rw [if_neg (by omega)])); (first | exact ⟨rfl, rfl⟩ | (refine ⟨?_, rfl⟩; simp (disch := decide) only [rec_at, up_k]))))
            ·
              refine X_iconst 77 hO dX13_insert_76 rfl ?_
              exact XM_iret hO hF hR rfl (by first | exact Or.inl rfl | exact Or.inr ⟨rfl, bi_01 _⟩ | exact Or.inr ⟨rfl, by omega⟩) dX13_insert_77 (by first | assumption | omega | exact I_rng _) (by first | (exfalso; omega) | (unfold o_insert; rw [if_pos hCc, if_pos hq1, if_neg (by omega), if_pos (by omega)]; unfold m_ti m_in1; rw [if_pos hCc]; (repeat (first | rw [if_pos (by omega)] | rw [if_neg (by omega)])); exact ⟨rfl, rfl⟩))
  refine X_if_eq 8 12 hO dX13_insert_5 rfl rfl (by omega) (fun hc_5 => ?_) (fun hc_5 => ?_)
  ·
    try simp only [bi_0, bi_ne, ne_eq, Classical.not_not] at hc_5
    refine X_iconst 13 hO dX13_insert_12 rfl ?_
    refine pa_171 16 hO hR dX13_insert_13 rfl (by omega) (fun hR => ?_)
    refine X_aload_n 17 hO dX13_insert_16 rfl rfl ?_
    refine ga_171 20 hO hR dX13_insert_17 rfl (fun hi_17 => ?_)
    try simp (disch := decide) only [up_k, up_s, step_at, pool_at, poolN_at, opens_at, closes_at, fl_at, del_at, ins_at, rep_at, psh_at, trn_at, tak_at, pEn_at, cpQ_at, cpP_at, cpT_at, ti_at, th_at, rec_at] at hi_17 ⊢
    refine X_if_le 23 25 hO dX13_insert_20 rfl rfl (by omega) (fun hc_20 => ?_) (fun hc_20 => ?_)
    ·
      first | (exfalso; omega) | exact JP25 (by omega) hR
    ·
      refine X_iconst 24 hO dX13_insert_23 rfl ?_
      exact XM_iret hO hF hR rfl (by first | exact Or.inl rfl | exact Or.inr ⟨rfl, bi_01 _⟩ | exact Or.inr ⟨rfl, by omega⟩) dX13_insert_24 (by first | assumption | omega | exact I_rng _) (by first | (exfalso; omega) | (unfold o_insert m_ti; (repeat (first | rw [if_pos (by omega)] | rw [if_neg (by omega)])); exact ⟨rfl, rfl⟩))
  ·
    try simp only [bi_0, bi_ne, ne_eq, Classical.not_not] at hc_5
    refine X_iconst 9 hO dX13_insert_8 rfl ?_
    refine X_goto hO dX13_insert_9 (tgt := 13) rfl ?_
    refine pa_171 16 hO hR dX13_insert_13 rfl (by omega) (fun hR => ?_)
    refine X_aload_n 17 hO dX13_insert_16 rfl rfl ?_
    refine ga_171 20 hO hR dX13_insert_17 rfl (fun hi_17 => ?_)
    try simp (disch := decide) only [up_k, up_s, step_at, pool_at, poolN_at, opens_at, closes_at, fl_at, del_at, ins_at, rep_at, psh_at, trn_at, tak_at, pEn_at, cpQ_at, cpP_at, cpT_at, ti_at, th_at, rec_at] at hi_17 ⊢
    refine X_if_le 23 25 hO dX13_insert_20 rfl rfl (by omega) (fun hc_20 => ?_) (fun hc_20 => ?_)
    ·
      first | (exfalso; omega) | exact JP25 (by omega) hR
    ·
      refine X_iconst 24 hO dX13_insert_23 rfl ?_
      exact XM_iret hO hF hR rfl (by first | exact Or.inl rfl | exact Or.inr ⟨rfl, bi_01 _⟩ | exact Or.inr ⟨rfl, by omega⟩) dX13_insert_24 (by first | assumption | omega | exact I_rng _) (by first | (exfalso; omega) | (unfold o_insert m_ti; (repeat (first | rw [if_pos (by omega)] | rw [if_neg (by omega)])); exact ⟨rfl, rfl⟩))
