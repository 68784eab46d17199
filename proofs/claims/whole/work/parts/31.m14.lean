abbrev isLt (c : Int) : Prop := (48 ≤ c ∧ c ≤ 57) ∨ (65 ≤ c ∧ c ≤ 90) ∨ (97 ≤ c ∧ c ≤ 122)
abbrev m_cty (μ : MU) (c : Int) (w : Mm) : Prop := w 132 μ.1 0 = 0 ∧ w 129 μ.1 0 = w 126 μ.1 0 ∧ w 129 μ.1 0 ≠ -1 ∧ w 130 μ.1 0 < 4 ∧ bi (isLt c) = bi (isLt (w 131 μ.1 0))
def m_ex1 (μ : MU) (c : Int) (w : Mm) : Mm := m_pool μ c (up (up (up (m_opens 0 (w 207 0 0) 1 w) 200 0 (w 207 0 0) c) 207 0 0 (w 207 0 0 + 1)) 212 0 (w 120 μ.1 0 - 1) (w 212 0 (w 120 μ.1 0 - 1) + 4096))
def m_ex2 (μ : MU) (had : Int) (w : Mm) : Mm := up (up (up (up (up w 220 0 (w 126 μ.1 0) (w 220 0 (w 126 μ.1 0) + (w 120 μ.1 0 - had))) 224 0 (w 126 μ.1 0) (w 207 0 0)) 122 μ.1 0 (w 120 μ.1 0)) 123 μ.1 0 (w 121 μ.1 0)) 129 μ.1 0 (if w 120 μ.1 0 = had then w 126 μ.1 0 else -1)
def m_ex3 (μ : MU) (last : Int) (w : Mm) : Mm := up w 212 0 (w 120 μ.1 0 - 1) last
def m_ex4 (μ : MU) (had last : Int) (q : Int × Mm) : Int × Mm := if q.1 = 0 then (0, m_ex3 μ last (m_rest μ 2 1 q.2)) else (1, m_ex2 μ had q.2)
def m_ext (μ : MU) (c : Int) (w : Mm) : Int × Mm := m_ex4 μ (m_saves μ 2 w 120 μ.1 0) (m_saves μ 2 w 212 0 (m_saves μ 2 w 120 μ.1 0 - 1)) (m_ntf μ (m_ex1 μ c (m_saves μ 2 w)))
theorem LB.ex1 {μ : MU} {S P c : Int} {w : Mm} (h : LB μ S P w) (hc : 0 ≤ c ∧ c ≤ 126) (hl : w 201 0 0 < 400) : LB μ S (P + 1) (m_ex1 μ c w) := by
  obtain ⟨f1, f2, f3, f4, f5⟩ := h.f
  have h1 := h.w.opens (q := w 207 0 0) (k := 1) (by omega) (by omega)
  have h2 := h1.txt (lo := w 207 0 0) (n := 1) (f := fun _ => c) (fun _ _ _ => hc)
  rw [← up_fl1] at h2
  refine LB.pool (LB.up_o (h2.pt ?_) (by decide))
  have e1 : m_vF (up (m_opens 0 (w 207 0 0) 1 w) 200 0 (w 207 0 0) c) = m_vF (m_opens 0 (w 207 0 0) 1 w) := up_vF (by decide)
  have e2 : m_vT (up (m_opens 0 (w 207 0 0) 1 w) 200 0 (w 207 0 0) c) = m_vT (m_opens 0 (w 207 0 0) 1 w) := up_vT (by decide)
  rw [e1, e2, vF_opens (by omega) (by omega), vT_opens (by omega) (by omega), if_neg (by omega), if_pos (by omega)]
  omega
theorem LO.ex1 {μ : MU} {S P c : Int} {w : Mm} (h : LB μ S P w) (hl : w 201 0 0 < 400) : LO w (m_ex1 μ c w) := by
  obtain ⟨f1, f2, f3, f4, f5⟩ := h.f
  exact LO.pool (LO.u (LO.u (LO.u (LO.opens LO.r (by omega) (by omega)) (Or.inr ⟨by decide, by decide, by simp [st0]; omega⟩)) (Or.inr ⟨by decide, by decide, by decide⟩)) (Or.inl rfl))
theorem dX13_canType_0 : decode cX13_canType 0 = .ok (.aload_n 0, 1) := by decide +kernel
theorem dX13_canType_1 : decode cX13_canType 1 = .ok (.getfield 280, 3) := by decide +kernel
theorem dX13_canType_4 : decode cX13_canType 4 = .ok (.ifCond .ne 48, 3) := by decide +kernel
theorem dX13_canType_7 : decode cX13_canType 7 = .ok (.aload_n 0, 1) := by decide +kernel
theorem dX13_canType_8 : decode cX13_canType 8 = .ok (.getfield 105, 3) := by decide +kernel
theorem dX13_canType_11 : decode cX13_canType 11 = .ok (.aload_n 0, 1) := by decide +kernel
theorem dX13_canType_12 : decode cX13_canType 12 = .ok (.getfield 258, 3) := by decide +kernel
theorem dX13_canType_15 : decode cX13_canType 15 = .ok (.if_icmp .ne 37, 3) := by decide +kernel
theorem dX13_canType_18 : decode cX13_canType 18 = .ok (.aload_n 0, 1) := by decide +kernel
theorem dX13_canType_19 : decode cX13_canType 19 = .ok (.getfield 105, 3) := by decide +kernel
theorem dX13_canType_22 : decode cX13_canType 22 = .ok (.iconst (-1), 1) := by decide +kernel
theorem dX13_canType_23 : decode cX13_canType 23 = .ok (.if_icmp .eq 29, 3) := by decide +kernel
theorem dX13_canType_26 : decode cX13_canType 26 = .ok (.aload_n 0, 1) := by decide +kernel
theorem dX13_canType_27 : decode cX13_canType 27 = .ok (.getfield 357, 3) := by decide +kernel
theorem dX13_canType_30 : decode cX13_canType 30 = .ok (.iconst 4, 1) := by decide +kernel
theorem dX13_canType_31 : decode cX13_canType 31 = .ok (.if_icmp .ge 21, 3) := by decide +kernel
theorem dX13_canType_34 : decode cX13_canType 34 = .ok (.iload_n 1, 1) := by decide +kernel
theorem dX13_canType_35 : decode cX13_canType 35 = .ok (.invokestatic 360, 3) := by decide +kernel
theorem dX13_canType_38 : decode cX13_canType 38 = .ok (.aload_n 0, 1) := by decide +kernel
theorem dX13_canType_39 : decode cX13_canType 39 = .ok (.getfield 363, 3) := by decide +kernel
theorem dX13_canType_42 : decode cX13_canType 42 = .ok (.invokestatic 360, 3) := by decide +kernel
theorem dX13_canType_45 : decode cX13_canType 45 = .ok (.if_icmp .ne 7, 3) := by decide +kernel
theorem dX13_canType_48 : decode cX13_canType 48 = .ok (.iconst 1, 1) := by decide +kernel
theorem dX13_canType_49 : decode cX13_canType 49 = .ok (.goto 4, 3) := by decide +kernel
theorem dX13_canType_52 : decode cX13_canType 52 = .ok (.iconst 0, 1) := by decide +kernel
theorem dX13_canType_53 : decode cX13_canType 53 = .ok (.ireturn, 1) := by decide +kernel
set_option maxRecDepth 4000 in
theorem c_canType (γ : LC) (μ : MU) (w : Mm) (c S P M : Int) (hc : IR c) (hR0 : RB μ S P M w) (hS : S ≤ 28900) (hP : P ≤ 500000) (hM : M ≤ 590) : CMi γ μ 2 mX13_canType [.int (I c)] w (fun r w' => r = bi (m_cty μ c w) ∧ w = w') := by
  refine CMi_of rfl (by simp [rv_cat, Value.category]) rfl ?_
  rintro κ hO hF rfl hR
  have hD := hF.dp
  show X κ 0 0 w 0 [some (rv μ.1), some (.int (I c))] []
  refine X_aload_n 1 hO dX13_canType_0 rfl rfl ?_
  refine ga_280 4 hO hR dX13_canType_1 rfl (fun hi_1 => ?_)
  refine X_if_ne 7 52 hO dX13_canType_4 rfl rfl (by omega) (fun hc_4 => ?_) (fun hc_4 => ?_)
  ·
    refine X_iconst 53 hO dX13_canType_52 rfl ?_
    exact XM_iret hO hF hR rfl (by first | exact Or.inl rfl | exact Or.inr ⟨rfl, bi_01 _⟩ | exact Or.inr ⟨rfl, by omega⟩) dX13_canType_53 (by omega) ⟨by first | (exfalso; omega) | exact bi_t (by unfold m_cty isLt; omega) | exact bi_f (by unfold m_cty isLt; omega), rfl⟩
  ·
    refine X_aload_n 8 hO dX13_canType_7 rfl rfl ?_
    refine ga_105 11 hO hR dX13_canType_8 rfl (fun hi_8 => ?_)
    refine X_aload_n 12 hO dX13_canType_11 rfl rfl ?_
    refine ga_258 15 hO hR dX13_canType_12 rfl (fun hi_12 => ?_)
    refine X_icmp_ne 18 52 hO dX13_canType_15 rfl rfl (by omega) (by omega) (fun hc_15 => ?_) (fun hc_15 => ?_)
    ·
      refine X_iconst 53 hO dX13_canType_52 rfl ?_
      exact XM_iret hO hF hR rfl (by first | exact Or.inl rfl | exact Or.inr ⟨rfl, bi_01 _⟩ | exact Or.inr ⟨rfl, by omega⟩) dX13_canType_53 (by omega) ⟨by first | (exfalso; omega) | exact bi_t (by unfold m_cty isLt; omega) | exact bi_f (by unfold m_cty isLt; omega), rfl⟩
    ·
      refine X_aload_n 19 hO dX13_canType_18 rfl rfl ?_
      refine ga_105 22 hO hR dX13_canType_19 rfl (fun hi_19 => ?_)
      refine X_iconst 23 hO dX13_canType_22 rfl ?_
      refine X_icmp_eq 26 52 hO dX13_canType_23 rfl rfl (by omega) (by omega) (fun hc_23 => ?_) (fun hc_23 => ?_)
      ·
        refine X_iconst 53 hO dX13_canType_52 rfl ?_
        exact XM_iret hO hF hR rfl (by first | exact Or.inl rfl | exact Or.inr ⟨rfl, bi_01 _⟩ | exact Or.inr ⟨rfl, by omega⟩) dX13_canType_53 (by omega) ⟨by first | (exfalso; omega) | exact bi_t (by unfold m_cty isLt; omega) | exact bi_f (by unfold m_cty isLt; omega), rfl⟩
      ·
        refine X_aload_n 27 hO dX13_canType_26 rfl rfl ?_
        refine ga_357 30 hO hR dX13_canType_27 rfl (fun hi_27 => ?_)
        refine X_iconst 31 hO dX13_canType_30 rfl ?_
        refine X_icmp_ge 34 52 hO dX13_canType_31 rfl rfl (by omega) (by omega) (fun hc_31 => ?_) (fun hc_31 => ?_)
        ·
          refine X_iconst 53 hO dX13_canType_52 rfl ?_
          exact XM_iret hO hF hR rfl (by first | exact Or.inl rfl | exact Or.inr ⟨rfl, bi_01 _⟩ | exact Or.inr ⟨rfl, by omega⟩) dX13_canType_53 (by omega) ⟨by first | (exfalso; omega) | exact bi_t (by unfold m_cty isLt; omega) | exact bi_f (by unfold m_cty isLt; omega), rfl⟩
        ·
          refine X_iload_n 35 hO dX13_canType_34 rfl rfl ?_
          refine XM_callSi 38 hO hD lX13_360 [_] rfl dX13_canType_35 rfl (c_isLetter _ _ _ (by omega)) (by decide) (by simp only [List.map_cons, List.map_nil, rv_cat]; exact Nat.le_of_ble_eq_true rfl) (fun r_35 hr_35 hp_35 => ?_)
          subst hp_35
          refine X_aload_n 39 hO dX13_canType_38 rfl rfl ?_
          refine ga_363 42 hO hR dX13_canType_39 rfl (fun hi_39 => ?_)
          refine XM_callSi 45 hO hD lX13_360 [_] rfl dX13_canType_42 rfl (c_isLetter _ _ _ (by omega)) (by decide) (by simp only [List.map_cons, List.map_nil, rv_cat]; exact Nat.le_of_ble_eq_true rfl) (fun r_42 hr_42 hp_42 => ?_)
          subst hp_42
          refine X_icmp_ne 48 52 hO dX13_canType_45 rfl rfl (by omega) (by omega) (fun hc_45 => ?_) (fun hc_45 => ?_)
          ·
            refine X_iconst 53 hO dX13_canType_52 rfl ?_
            exact XM_iret hO hF hR rfl (by first | exact Or.inl rfl | exact Or.inr ⟨rfl, bi_01 _⟩ | exact Or.inr ⟨rfl, by omega⟩) dX13_canType_53 (by omega) ⟨by first | (exfalso; omega) | exact bi_t (by unfold m_cty isLt; omega) | exact bi_f (by unfold m_cty isLt; omega), rfl⟩
          ·
            refine X_iconst 49 hO dX13_canType_48 rfl ?_
            refine X_goto hO dX13_canType_49 (tgt := 53) rfl ?_
            exact XM_iret hO hF hR rfl (by first | exact Or.inl rfl | exact Or.inr ⟨rfl, bi_01 _⟩ | exact Or.inr ⟨rfl, by omega⟩) dX13_canType_53 (by omega) ⟨by first | (exfalso; omega) | exact bi_t (by unfold m_cty isLt; omega) | exact bi_f (by unfold m_cty isLt; omega), rfl⟩
theorem dX13_extendsIt_0 : decode cX13_extendsIt 0 = .ok (.aload_n 0, 1) := by decide +kernel
theorem dX13_extendsIt_1 : decode cX13_extendsIt 1 = .ok (.iconst 2, 1) := by decide +kernel
theorem dX13_extendsIt_2 : decode cX13_extendsIt 2 = .ok (.invokevirtual 343, 3) := by decide +kernel
theorem dX13_extendsIt_5 : decode cX13_extendsIt 5 = .ok (.aload_n 0, 1) := by decide +kernel
theorem dX13_extendsIt_6 : decode cX13_extendsIt 6 = .ok (.getfield 46, 3) := by decide +kernel
theorem dX13_extendsIt_9 : decode cX13_extendsIt 9 = .ok (.aload_n 0, 1) := by decide +kernel
theorem dX13_extendsIt_10 : decode cX13_extendsIt 10 = .ok (.getfield 189, 3) := by decide +kernel
theorem dX13_extendsIt_13 : decode cX13_extendsIt 13 = .ok (.iconst 1, 1) := by decide +kernel
theorem dX13_extendsIt_14 : decode cX13_extendsIt 14 = .ok (.isub, 1) := by decide +kernel
theorem dX13_extendsIt_15 : decode cX13_extendsIt 15 = .ok (.iaload, 1) := by decide +kernel
theorem dX13_extendsIt_16 : decode cX13_extendsIt 16 = .ok (.istore_n 2, 1) := by decide +kernel
theorem dX13_extendsIt_17 : decode cX13_extendsIt 17 = .ok (.aload_n 0, 1) := by decide +kernel
theorem dX13_extendsIt_18 : decode cX13_extendsIt 18 = .ok (.getfield 31, 3) := by decide +kernel
theorem dX13_extendsIt_21 : decode cX13_extendsIt 21 = .ok (.iconst 0, 1) := by decide +kernel
theorem dX13_extendsIt_22 : decode cX13_extendsIt 22 = .ok (.iaload, 1) := by decide +kernel
theorem dX13_extendsIt_23 : decode cX13_extendsIt 23 = .ok (.istore_n 3, 1) := by decide +kernel
theorem dX13_extendsIt_24 : decode cX13_extendsIt 24 = .ok (.aload_n 0, 1) := by decide +kernel
theorem dX13_extendsIt_25 : decode cX13_extendsIt 25 = .ok (.iconst 0, 1) := by decide +kernel
theorem dX13_extendsIt_26 : decode cX13_extendsIt 26 = .ok (.iload_n 3, 1) := by decide +kernel
theorem dX13_extendsIt_27 : decode cX13_extendsIt 27 = .ok (.iconst 1, 1) := by decide +kernel
theorem dX13_extendsIt_28 : decode cX13_extendsIt 28 = .ok (.invokevirtual 203, 3) := by decide +kernel
theorem dX13_extendsIt_31 : decode cX13_extendsIt 31 = .ok (.aload_n 0, 1) := by decide +kernel
theorem dX13_extendsIt_32 : decode cX13_extendsIt 32 = .ok (.getfield 7, 3) := by decide +kernel
theorem dX13_extendsIt_35 : decode cX13_extendsIt 35 = .ok (.iload_n 3, 1) := by decide +kernel
theorem dX13_extendsIt_36 : decode cX13_extendsIt 36 = .ok (.iload_n 1, 1) := by decide +kernel
theorem dX13_extendsIt_37 : decode cX13_extendsIt 37 = .ok (.iastore, 1) := by decide +kernel
theorem dX13_extendsIt_38 : decode cX13_extendsIt 38 = .ok (.aload_n 0, 1) := by decide +kernel
theorem dX13_extendsIt_39 : decode cX13_extendsIt 39 = .ok (.getfield 31, 3) := by decide +kernel
theorem dX13_extendsIt_42 : decode cX13_extendsIt 42 = .ok (.iconst 0, 1) := by decide +kernel
theorem dX13_extendsIt_43 : decode cX13_extendsIt 43 = .ok (.dup2, 1) := by decide +kernel
theorem dX13_extendsIt_44 : decode cX13_extendsIt 44 = .ok (.iaload, 1) := by decide +kernel
theorem dX13_extendsIt_45 : decode cX13_extendsIt 45 = .ok (.iconst 1, 1) := by decide +kernel
theorem dX13_extendsIt_46 : decode cX13_extendsIt 46 = .ok (.iadd, 1) := by decide +kernel
theorem dX13_extendsIt_47 : decode cX13_extendsIt 47 = .ok (.iastore, 1) := by decide +kernel
theorem dX13_extendsIt_48 : decode cX13_extendsIt 48 = .ok (.aload_n 0, 1) := by decide +kernel
theorem dX13_extendsIt_49 : decode cX13_extendsIt 49 = .ok (.getfield 46, 3) := by decide +kernel
theorem dX13_extendsIt_52 : decode cX13_extendsIt 52 = .ok (.aload_n 0, 1) := by decide +kernel
theorem dX13_extendsIt_53 : decode cX13_extendsIt 53 = .ok (.getfield 189, 3) := by decide +kernel
theorem dX13_extendsIt_56 : decode cX13_extendsIt 56 = .ok (.iconst 1, 1) := by decide +kernel
theorem dX13_extendsIt_57 : decode cX13_extendsIt 57 = .ok (.isub, 1) := by decide +kernel
theorem dX13_extendsIt_58 : decode cX13_extendsIt 58 = .ok (.dup2, 1) := by decide +kernel
theorem dX13_extendsIt_59 : decode cX13_extendsIt 59 = .ok (.iaload, 1) := by decide +kernel
theorem dX13_extendsIt_60 : decode cX13_extendsIt 60 = .ok (.sipush 4096, 3) := by decide +kernel
theorem dX13_extendsIt_63 : decode cX13_extendsIt 63 = .ok (.iadd, 1) := by decide +kernel
theorem dX13_extendsIt_64 : decode cX13_extendsIt 64 = .ok (.iastore, 1) := by decide +kernel
theorem dX13_extendsIt_65 : decode cX13_extendsIt 65 = .ok (.aload_n 0, 1) := by decide +kernel
theorem dX13_extendsIt_66 : decode cX13_extendsIt 66 = .ok (.iload_n 1, 1) := by decide +kernel
theorem dX13_extendsIt_67 : decode cX13_extendsIt 67 = .ok (.invokevirtual 208, 3) := by decide +kernel
theorem dX13_extendsIt_70 : decode cX13_extendsIt 70 = .ok (.aload_n 0, 1) := by decide +kernel
theorem dX13_extendsIt_71 : decode cX13_extendsIt 71 = .ok (.getfield 189, 3) := by decide +kernel
theorem dX13_extendsIt_74 : decode cX13_extendsIt 74 = .ok (.istore 4, 2) := by decide +kernel
theorem dX13_extendsIt_76 : decode cX13_extendsIt 76 = .ok (.aload_n 0, 1) := by decide +kernel
theorem dX13_extendsIt_77 : decode cX13_extendsIt 77 = .ok (.invokevirtual 283, 3) := by decide +kernel
theorem dX13_extendsIt_80 : decode cX13_extendsIt 80 = .ok (.ifCond .ne 23, 3) := by decide +kernel
theorem dX13_extendsIt_83 : decode cX13_extendsIt 83 = .ok (.aload_n 0, 1) := by decide +kernel
theorem dX13_extendsIt_84 : decode cX13_extendsIt 84 = .ok (.iconst 2, 1) := by decide +kernel
theorem dX13_extendsIt_85 : decode cX13_extendsIt 85 = .ok (.iconst 1, 1) := by decide +kernel
theorem dX13_extendsIt_86 : decode cX13_extendsIt 86 = .ok (.invokevirtual 287, 3) := by decide +kernel
theorem dX13_extendsIt_89 : decode cX13_extendsIt 89 = .ok (.aload_n 0, 1) := by decide +kernel
theorem dX13_extendsIt_90 : decode cX13_extendsIt 90 = .ok (.getfield 46, 3) := by decide +kernel
theorem dX13_extendsIt_93 : decode cX13_extendsIt 93 = .ok (.aload_n 0, 1) := by decide +kernel
theorem dX13_extendsIt_94 : decode cX13_extendsIt 94 = .ok (.getfield 189, 3) := by decide +kernel
theorem dX13_extendsIt_97 : decode cX13_extendsIt 97 = .ok (.iconst 1, 1) := by decide +kernel
theorem dX13_extendsIt_98 : decode cX13_extendsIt 98 = .ok (.isub, 1) := by decide +kernel
theorem dX13_extendsIt_99 : decode cX13_extendsIt 99 = .ok (.iload_n 2, 1) := by decide +kernel
theorem dX13_extendsIt_100 : decode cX13_extendsIt 100 = .ok (.iastore, 1) := by decide +kernel
theorem dX13_extendsIt_101 : decode cX13_extendsIt 101 = .ok (.iconst 0, 1) := by decide +kernel
theorem dX13_extendsIt_102 : decode cX13_extendsIt 102 = .ok (.ireturn, 1) := by decide +kernel
theorem dX13_extendsIt_103 : decode cX13_extendsIt 103 = .ok (.aload_n 0, 1) := by decide +kernel
theorem dX13_extendsIt_104 : decode cX13_extendsIt 104 = .ok (.getfield 78, 3) := by decide +kernel
theorem dX13_extendsIt_107 : decode cX13_extendsIt 107 = .ok (.aload_n 0, 1) := by decide +kernel
theorem dX13_extendsIt_108 : decode cX13_extendsIt 108 = .ok (.getfield 258, 3) := by decide +kernel
theorem dX13_extendsIt_111 : decode cX13_extendsIt 111 = .ok (.dup2, 1) := by decide +kernel
theorem dX13_extendsIt_112 : decode cX13_extendsIt 112 = .ok (.iaload, 1) := by decide +kernel
theorem dX13_extendsIt_113 : decode cX13_extendsIt 113 = .ok (.aload_n 0, 1) := by decide +kernel
theorem dX13_extendsIt_114 : decode cX13_extendsIt 114 = .ok (.getfield 189, 3) := by decide +kernel
theorem dX13_extendsIt_117 : decode cX13_extendsIt 117 = .ok (.iload 4, 2) := by decide +kernel
theorem dX13_extendsIt_119 : decode cX13_extendsIt 119 = .ok (.isub, 1) := by decide +kernel
theorem dX13_extendsIt_120 : decode cX13_extendsIt 120 = .ok (.iadd, 1) := by decide +kernel
theorem dX13_extendsIt_121 : decode cX13_extendsIt 121 = .ok (.iastore, 1) := by decide +kernel
theorem dX13_extendsIt_122 : decode cX13_extendsIt 122 = .ok (.aload_n 0, 1) := by decide +kernel
theorem dX13_extendsIt_123 : decode cX13_extendsIt 123 = .ok (.getfield 90, 3) := by decide +kernel
theorem dX13_extendsIt_126 : decode cX13_extendsIt 126 = .ok (.aload_n 0, 1) := by decide +kernel
theorem dX13_extendsIt_127 : decode cX13_extendsIt 127 = .ok (.getfield 258, 3) := by decide +kernel
theorem dX13_extendsIt_130 : decode cX13_extendsIt 130 = .ok (.aload_n 0, 1) := by decide +kernel
theorem dX13_extendsIt_131 : decode cX13_extendsIt 131 = .ok (.getfield 31, 3) := by decide +kernel
theorem dX13_extendsIt_134 : decode cX13_extendsIt 134 = .ok (.iconst 0, 1) := by decide +kernel
theorem dX13_extendsIt_135 : decode cX13_extendsIt 135 = .ok (.iaload, 1) := by decide +kernel
theorem dX13_extendsIt_136 : decode cX13_extendsIt 136 = .ok (.iastore, 1) := by decide +kernel
theorem dX13_extendsIt_137 : decode cX13_extendsIt 137 = .ok (.aload_n 0, 1) := by decide +kernel
theorem dX13_extendsIt_138 : decode cX13_extendsIt 138 = .ok (.aload_n 0, 1) := by decide +kernel
theorem dX13_extendsIt_139 : decode cX13_extendsIt 139 = .ok (.getfield 189, 3) := by decide +kernel
theorem dX13_extendsIt_142 : decode cX13_extendsIt 142 = .ok (.putfield 271, 3) := by decide +kernel
theorem dX13_extendsIt_145 : decode cX13_extendsIt 145 = .ok (.aload_n 0, 1) := by decide +kernel
theorem dX13_extendsIt_146 : decode cX13_extendsIt 146 = .ok (.aload_n 0, 1) := by decide +kernel
theorem dX13_extendsIt_147 : decode cX13_extendsIt 147 = .ok (.getfield 192, 3) := by decide +kernel
theorem dX13_extendsIt_150 : decode cX13_extendsIt 150 = .ok (.putfield 274, 3) := by decide +kernel
theorem dX13_extendsIt_153 : decode cX13_extendsIt 153 = .ok (.aload_n 0, 1) := by decide +kernel
theorem dX13_extendsIt_154 : decode cX13_extendsIt 154 = .ok (.aload_n 0, 1) := by decide +kernel
theorem dX13_extendsIt_155 : decode cX13_extendsIt 155 = .ok (.getfield 189, 3) := by decide +kernel
theorem dX13_extendsIt_158 : decode cX13_extendsIt 158 = .ok (.iload 4, 2) := by decide +kernel
theorem dX13_extendsIt_160 : decode cX13_extendsIt 160 = .ok (.if_icmp .ne 10, 3) := by decide +kernel
theorem dX13_extendsIt_163 : decode cX13_extendsIt 163 = .ok (.aload_n 0, 1) := by decide +kernel
theorem dX13_extendsIt_164 : decode cX13_extendsIt 164 = .ok (.getfield 258, 3) := by decide +kernel
theorem dX13_extendsIt_167 : decode cX13_extendsIt 167 = .ok (.goto 4, 3) := by decide +kernel
theorem dX13_extendsIt_170 : decode cX13_extendsIt 170 = .ok (.iconst (-1), 1) := by decide +kernel
theorem dX13_extendsIt_171 : decode cX13_extendsIt 171 = .ok (.putfield 105, 3) := by decide +kernel
theorem dX13_extendsIt_174 : decode cX13_extendsIt 174 = .ok (.iconst 1, 1) := by decide +kernel
theorem dX13_extendsIt_175 : decode cX13_extendsIt 175 = .ok (.ireturn, 1) := by decide +kernel
set_option maxRecDepth 4000 in
theorem c_extendsIt (γ : LC) (μ : MU) (w : Mm) (c S P M : Int) (hc : 0 ≤ c ∧ c ≤ 126) (hl : w 201 0 0 < 400) (hty : w 129 μ.1 0 = w 126 μ.1 0 ∧ w 129 μ.1 0 ≠ -1) (hR0 : RB μ S P M w) (hS : S ≤ 28900) (hP : P ≤ 500000) (hM : M ≤ 590) : CMi γ μ 3 mX13_extendsIt [.int (I c)] w (fun r w' => r = (m_ext μ c w).1 ∧ w' = (m_ext μ c w).2) := by
  refine CMi_of rfl (by simp [rv_cat, Value.category]) rfl ?_
  rintro κ hO hF rfl hR
  have hD := hF.dp
  show X κ 0 0 w 0 [some (rv μ.1), some (.int (I c)), none, none, none] []
  obtain ⟨p1, p2, p3⟩ := cal_pre hR0
  obtain ⟨f1, f2, f3, f4, f5⟩ := p1.f
  obtain ⟨g1, g2, g3, g4, g5⟩ := hR0.1.f
  have hy := hR0.2.2.2
  unfold bY at hy
  have hy := hy (by omega)
  have e120 := p3 120 μ.1 0 (by decide)
  have e212 := p3 212 0 (w 120 μ.1 0 - 1) (by decide)
  have e212b : m_saves μ 2 w 212 0 (m_saves μ 2 w 120 μ.1 0 - 1) = w 212 0 (w 120 μ.1 0 - 1) := by rw [e120, e212]
  have e201 : m_saves μ 2 w 201 0 0 = w 201 0 0 := by rw [saves_201, if_neg (by decide)]
  have e126 := p3 126 μ.1 0 (by decide)
  have h1 := p1.ex1 (c := c) hc (by omega)
  have hL := LO.ex1 (c := c) p1 (by omega)
  have h2 := p2.lo hL
  obtain ⟨n1, n2, n3, n4⟩ := ntf_rk (μ := μ) h1 (h2.mono (Int.le_refl S) (show P ≤ P + 1 by omega))
  obtain ⟨l1, l2, l3, l4, l5⟩ := n2.f
  have l120 := ntf_120 h1 (h2.mono (Int.le_refl S) (show P ≤ P + 1 by omega))
  have a120 : m_ex1 μ c (m_saves μ 2 w) 120 μ.1 0 = m_saves μ 2 w 120 μ.1 0 := by unfold m_ex1; rw [pool_at (by decide), up_k _ (by decide), up_k _ (by decide), up_k _ (by decide), opens_at (by decide)]
  obtain ⟨t1, t2, t3, t4, t5, t6, t7⟩ := n3.2.2.2.1
  have tc := t7 ((m_ntf μ (m_ex1 μ c (m_saves μ 2 w))).2 126 μ.1 0) (by omega) (by omega)
  have r120 := (rest_120 (μ := μ) (b := 2) (all := 1) (w := (m_ntf μ (m_ex1 μ c (m_saves μ 2 w))).2)).1
  have r214 : (m_ntf μ (m_ex1 μ c (m_saves μ 2 w))).2 214 0 2 = w 120 μ.1 0 := by
    rw [n1.2 _ _ _ (by decide) (by decide) (by decide) (by decide) (by decide) (by decide), hL.2 _ _ _ (by decide) (by decide), saves_214.1]
  refine X_aload_n 1 hO dX13_extendsIt_0 rfl rfl ?_
  refine X_iconst 2 hO dX13_extendsIt_1 rfl ?_
  refine XM_callVv 5 hO hD hR lX13_343 [_] rfl dX13_extendsIt_2 rfl (c_saves _ _ _ _ (by omega) (by omega)) (by decide) (by simp only [List.map_cons, List.map_nil, rv_cat]; exact Nat.le_of_ble_eq_true rfl) (fun w_2 hp_2 hR => ?_)
  subst hp_2
  refine X_aload_n 6 hO dX13_extendsIt_5 rfl rfl ?_
  refine ga_46 9 hO hR dX13_extendsIt_6 rfl ?_
  refine X_aload_n 10 hO dX13_extendsIt_9 rfl rfl ?_
  refine ga_189 13 hO hR dX13_extendsIt_10 rfl (fun hi_10 => ?_)
  try simp (disch := decide) only [up_k, up_s, step_at, pool_at, poolN_at, opens_at, closes_at, fl_at, del_at, ins_at, rep_at, psh_at, trn_at, tak_at, pEn_at, cpQ_at, cpP_at, cpT_at, ti_at, th_at] at hi_10 ⊢
  refine X_iconst 14 hO dX13_extendsIt_13 rfl ?_
  refine X_isub 15 hO dX13_extendsIt_14 rfl ?_
  refine ma_ld (L := 30000) (c := 212) 16 hO hR rfl rfl rfl dX13_extendsIt_15 rfl (by omega) (by omega) (fun hi_15 => ?_)
  try simp (disch := decide) only [up_k, up_s, step_at, pool_at, poolN_at, opens_at, closes_at, fl_at, del_at, ins_at, rep_at, psh_at, trn_at, tak_at, pEn_at, cpQ_at, cpP_at, cpT_at, ti_at, th_at] at hi_15 ⊢
  refine X_istore_n 17 hO dX13_extendsIt_16 rfl rfl ?_
  refine X_aload_n 18 hO dX13_extendsIt_17 rfl rfl ?_
  refine ga_31 21 hO hR dX13_extendsIt_18 rfl ?_
  refine X_iconst 22 hO dX13_extendsIt_21 rfl ?_
  refine ma_ld (L := 4) (c := 207) 23 hO hR rfl rfl rfl dX13_extendsIt_22 rfl (by omega) (by omega) (fun hi_22 => ?_)
  try simp (disch := decide) only [up_k, up_s, step_at, pool_at, poolN_at, opens_at, closes_at, fl_at, del_at, ins_at, rep_at, psh_at, trn_at, tak_at, pEn_at, cpQ_at, cpP_at, cpT_at, ti_at, th_at] at hi_22 ⊢
  refine X_istore_n 24 hO dX13_extendsIt_23 rfl rfl ?_
  refine X_aload_n 25 hO dX13_extendsIt_24 rfl rfl ?_
  refine X_iconst 26 hO dX13_extendsIt_25 rfl ?_
  refine X_iload_n 27 hO dX13_extendsIt_26 rfl rfl ?_
  refine X_iconst 28 hO dX13_extendsIt_27 rfl ?_
  refine XM_callVv 31 hO hD hR lX13_203 [_, _, _] rfl dX13_extendsIt_28 rfl (c_opens _ _ _ _ _ _ (Or.inl rfl) (by omega) (by omega) (SB.m (s := 0) p1.1) (by omega) p1.2.1.e) (by decide) (by simp only [List.map_cons, List.map_nil, rv_cat]; exact Nat.le_of_ble_eq_true rfl) (fun w_28 hp_28 hR => ?_)
  subst hp_28
  refine X_aload_n 32 hO dX13_extendsIt_31 rfl rfl ?_
  refine ga_7 35 hO hR dX13_extendsIt_32 rfl ?_
  refine X_iload_n 36 hO dX13_extendsIt_35 rfl rfl ?_
  refine X_iload_n 37 hO dX13_extendsIt_36 rfl rfl ?_
  refine ma_st (L := 1600) (c := 200) 38 hO hR rfl rfl rfl dX13_extendsIt_37 rfl (by omega) (by omega) (by omega) (fun hR => ?_)
  refine X_aload_n 39 hO dX13_extendsIt_38 rfl rfl ?_
  refine ga_31 42 hO hR dX13_extendsIt_39 rfl ?_
  refine X_iconst 43 hO dX13_extendsIt_42 rfl ?_
  refine X_dup2 44 hO dX13_extendsIt_43 rfl (by first | rfl | exact rv_cat _) (by first | rfl | exact rv_cat _) ?_
  refine ma_ld (L := 4) (c := 207) 45 hO hR rfl rfl rfl dX13_extendsIt_44 rfl (by omega) (by omega) (fun hi_44 => ?_)
  try simp (disch := decide) only [up_k, up_s, step_at, pool_at, poolN_at, opens_at, closes_at, fl_at, del_at, ins_at, rep_at, psh_at, trn_at, tak_at, pEn_at, cpQ_at, cpP_at, cpT_at, ti_at, th_at] at hi_44 ⊢
  refine X_iconst 46 hO dX13_extendsIt_45 rfl ?_
  refine X_iadd 47 hO dX13_extendsIt_46 rfl ?_
  refine ma_st (L := 4) (c := 207) 48 hO hR rfl rfl rfl dX13_extendsIt_47 rfl (by omega) (by omega) (by omega) (fun hR => ?_)
  refine X_aload_n 49 hO dX13_extendsIt_48 rfl rfl ?_
  refine ga_46 52 hO hR dX13_extendsIt_49 rfl ?_
  refine X_aload_n 53 hO dX13_extendsIt_52 rfl rfl ?_
  refine ga_189 56 hO hR dX13_extendsIt_53 rfl (fun hi_53 => ?_)
  try simp (disch := decide) only [up_k, up_s, step_at, pool_at, poolN_at, opens_at, closes_at, fl_at, del_at, ins_at, rep_at, psh_at, trn_at, tak_at, pEn_at, cpQ_at, cpP_at, cpT_at, ti_at, th_at] at hi_53 ⊢
  refine X_iconst 57 hO dX13_extendsIt_56 rfl ?_
  refine X_isub 58 hO dX13_extendsIt_57 rfl ?_
  refine X_dup2 59 hO dX13_extendsIt_58 rfl (by first | rfl | exact rv_cat _) (by first | rfl | exact rv_cat _) ?_
  refine ma_ld (L := 30000) (c := 212) 60 hO hR rfl rfl rfl dX13_extendsIt_59 rfl (by omega) (by omega) (fun hi_59 => ?_)
  try simp (disch := decide) only [up_k, up_s, step_at, pool_at, poolN_at, opens_at, closes_at, fl_at, del_at, ins_at, rep_at, psh_at, trn_at, tak_at, pEn_at, cpQ_at, cpP_at, cpT_at, ti_at, th_at] at hi_59 ⊢
  refine X_sipush 63 hO dX13_extendsIt_60 rfl (by decide) ?_
  refine X_iadd 64 hO dX13_extendsIt_63 rfl ?_
  refine ma_st (L := 30000) (c := 212) 65 hO hR rfl rfl rfl dX13_extendsIt_64 rfl (by omega) (by omega) (by omega) (fun hR => ?_)
  refine X_aload_n 66 hO dX13_extendsIt_65 rfl rfl ?_
  refine X_iload_n 67 hO dX13_extendsIt_66 rfl rfl ?_
  refine XM_callVv 70 hO hD hR lX13_208 [_] rfl dX13_extendsIt_67 rfl (c_pools _ _ _ _ (by simp (disch := decide) only [up_k, opens_at]; omega)) (by decide) (by simp only [List.map_cons, List.map_nil, rv_cat]; exact Nat.le_of_ble_eq_true rfl) (fun w_67 hp_67 hR => ?_)
  subst hp_67
  rw [show m_pool μ c (up (up (up (m_opens 0 (m_saves μ 2 w 207 0 0) 1 (m_saves μ 2 w)) 200 0 (m_saves μ 2 w 207 0 0) c) 207 0 0 (m_saves μ 2 w 207 0 0 + 1)) 212 0 (m_saves μ 2 w 120 μ.1 0 - 1) (m_saves μ 2 w 212 0 (m_saves μ 2 w 120 μ.1 0 - 1) + 4096)) = m_ex1 μ c (m_saves μ 2 w) from rfl] at hR ⊢
  refine X_aload_n 71 hO dX13_extendsIt_70 rfl rfl ?_
  refine ga_189 74 hO hR dX13_extendsIt_71 rfl (fun hi_71 => ?_)
  try simp (disch := decide) only [up_k, up_s, step_at, pool_at, poolN_at, opens_at, closes_at, fl_at, del_at, ins_at, rep_at, psh_at, trn_at, tak_at, pEn_at, cpQ_at, cpP_at, cpT_at, ti_at, th_at] at hi_71 ⊢
  rw [a120]
  refine X_istore 76 hO dX13_extendsIt_74 rfl rfl ?_
  refine X_aload_n 77 hO dX13_extendsIt_76 rfl rfl ?_
  refine XM_callVi 80 hO hD hR lX13_283 [] rfl dX13_extendsIt_77 rfl (c_notifies _ _ _ S (P + 1) _ (ntf_ni h1 h2.2.2.2.2.1 h2.2.2.2.2.2.1) (ntf_lk h2.2.2.2.2.1) (by omega) (by omega)) (by decide) (by simp only [List.map_cons, List.map_nil, rv_cat]; exact Nat.le_of_ble_eq_true rfl) (fun r_77 w_77 hr_77 hp_77 hR => ?_)
  obtain ⟨e1_77, e2_77⟩ := hp_77
  subst e1_77
  subst e2_77
  refine X_if_ne 83 103 hO dX13_extendsIt_80 rfl rfl (by omega) (fun hc_80 => ?_) (fun hc_80 => ?_)
  ·
    try simp only [bi_0, bi_ne, ne_eq, Classical.not_not] at hc_80
    refine X_aload_n 104 hO dX13_extendsIt_103 rfl rfl ?_
    refine ga_78 107 hO hR dX13_extendsIt_104 rfl ?_
    refine X_aload_n 108 hO dX13_extendsIt_107 rfl rfl ?_
    refine ga_258 111 hO hR dX13_extendsIt_108 rfl (fun hi_108 => ?_)
    try simp (disch := decide) only [up_k, up_s, step_at, pool_at, poolN_at, opens_at, closes_at, fl_at, del_at, ins_at, rep_at, psh_at, trn_at, tak_at, pEn_at, cpQ_at, cpP_at, cpT_at, ti_at, th_at] at hi_108 ⊢
    refine X_dup2 112 hO dX13_extendsIt_111 rfl (by first | rfl | exact rv_cat _) (by first | rfl | exact rv_cat _) ?_
    refine ma_ld (L := 640) (c := 220) 113 hO hR rfl rfl rfl dX13_extendsIt_112 rfl (by omega) (by omega) (fun hi_112 => ?_)
    try simp (disch := decide) only [up_k, up_s, step_at, pool_at, poolN_at, opens_at, closes_at, fl_at, del_at, ins_at, rep_at, psh_at, trn_at, tak_at, pEn_at, cpQ_at, cpP_at, cpT_at, ti_at, th_at] at hi_112 ⊢
    refine X_aload_n 114 hO dX13_extendsIt_113 rfl rfl ?_
    refine ga_189 117 hO hR dX13_extendsIt_114 rfl (fun hi_114 => ?_)
    try simp (disch := decide) only [up_k, up_s, step_at, pool_at, poolN_at, opens_at, closes_at, fl_at, del_at, ins_at, rep_at, psh_at, trn_at, tak_at, pEn_at, cpQ_at, cpP_at, cpT_at, ti_at, th_at] at hi_114 ⊢
    refine X_iload 119 hO dX13_extendsIt_117 rfl rfl ?_
    refine X_isub 120 hO dX13_extendsIt_119 rfl ?_
    refine X_iadd 121 hO dX13_extendsIt_120 rfl ?_
    refine ma_st (L := 640) (c := 220) 122 hO hR rfl rfl rfl dX13_extendsIt_121 rfl (by omega) (by omega) (by omega) (fun hR => ?_)
    refine X_aload_n 123 hO dX13_extendsIt_122 rfl rfl ?_
    refine ga_90 126 hO hR dX13_extendsIt_123 rfl ?_
    refine X_aload_n 127 hO dX13_extendsIt_126 rfl rfl ?_
    refine ga_258 130 hO hR dX13_extendsIt_127 rfl (fun hi_127 => ?_)
    try simp (disch := decide) only [up_k, up_s, step_at, pool_at, poolN_at, opens_at, closes_at, fl_at, del_at, ins_at, rep_at, psh_at, trn_at, tak_at, pEn_at, cpQ_at, cpP_at, cpT_at, ti_at, th_at] at hi_127 ⊢
    refine X_aload_n 131 hO dX13_extendsIt_130 rfl rfl ?_
    refine ga_31 134 hO hR dX13_extendsIt_131 rfl ?_
    refine X_iconst 135 hO dX13_extendsIt_134 rfl ?_
    refine ma_ld (L := 4) (c := 207) 136 hO hR rfl rfl rfl dX13_extendsIt_135 rfl (by omega) (by omega) (fun hi_135 => ?_)
    try simp (disch := decide) only [up_k, up_s, step_at, pool_at, poolN_at, opens_at, closes_at, fl_at, del_at, ins_at, rep_at, psh_at, trn_at, tak_at, pEn_at, cpQ_at, cpP_at, cpT_at, ti_at, th_at] at hi_135 ⊢
    refine ma_st (L := 640) (c := 224) 137 hO hR rfl rfl rfl dX13_extendsIt_136 rfl (by omega) (by omega) (by omega) (fun hR => ?_)
    refine X_aload_n 138 hO dX13_extendsIt_137 rfl rfl ?_
    refine X_aload_n 139 hO dX13_extendsIt_138 rfl rfl ?_
    refine ga_189 142 hO hR dX13_extendsIt_139 rfl (fun hi_139 => ?_)
    try simp (disch := decide) only [up_k, up_s, step_at, pool_at, poolN_at, opens_at, closes_at, fl_at, del_at, ins_at, rep_at, psh_at, trn_at, tak_at, pEn_at, cpQ_at, cpP_at, cpT_at, ti_at, th_at] at hi_139 ⊢
    refine pa_271 145 hO hR dX13_extendsIt_142 rfl (by omega) (fun hR => ?_)
    refine X_aload_n 146 hO dX13_extendsIt_145 rfl rfl ?_
    refine X_aload_n 147 hO dX13_extendsIt_146 rfl rfl ?_
    refine ga_192 150 hO hR dX13_extendsIt_147 rfl (fun hi_147 => ?_)
    try simp (disch := decide) only [up_k, up_s, step_at, pool_at, poolN_at, opens_at, closes_at, fl_at, del_at, ins_at, rep_at, psh_at, trn_at, tak_at, pEn_at, cpQ_at, cpP_at, cpT_at, ti_at, th_at] at hi_147 ⊢
    refine pa_274 153 hO hR dX13_extendsIt_150 rfl (by omega) (fun hR => ?_)
    refine X_aload_n 154 hO dX13_extendsIt_153 rfl rfl ?_
    refine X_aload_n 155 hO dX13_extendsIt_154 rfl rfl ?_
    refine ga_189 158 hO hR dX13_extendsIt_155 rfl (fun hi_155 => ?_)
    try simp (disch := decide) only [up_k, up_s, step_at, pool_at, poolN_at, opens_at, closes_at, fl_at, del_at, ins_at, rep_at, psh_at, trn_at, tak_at, pEn_at, cpQ_at, cpP_at, cpT_at, ti_at, th_at] at hi_155 ⊢
    refine X_iload 160 hO dX13_extendsIt_158 rfl rfl ?_
    refine X_icmp_ne 163 170 hO dX13_extendsIt_160 rfl rfl (by omega) (by omega) (fun hc_160 => ?_) (fun hc_160 => ?_)
    ·
      refine X_iconst 171 hO dX13_extendsIt_170 rfl ?_
      refine pa_105 174 hO hR dX13_extendsIt_171 rfl (by omega) (fun hR => ?_)
      refine X_iconst 175 hO dX13_extendsIt_174 rfl ?_
      exact XM_iret hO hF hR rfl (by first | exact Or.inl rfl | exact Or.inr ⟨rfl, bi_01 _⟩ | exact Or.inr ⟨rfl, by omega⟩) dX13_extendsIt_175 (by omega) (by unfold m_ext m_ex4 m_ex3 m_ex2; (repeat (first | rw [if_pos (by omega)] | rw [if_neg (by omega)])); exact ⟨rfl, rfl⟩)
    ·
      refine X_aload_n 164 hO dX13_extendsIt_163 rfl rfl ?_
      refine ga_258 167 hO hR dX13_extendsIt_164 rfl (fun hi_164 => ?_)
      try simp (disch := decide) only [up_k, up_s, step_at, pool_at, poolN_at, opens_at, closes_at, fl_at, del_at, ins_at, rep_at, psh_at, trn_at, tak_at, pEn_at, cpQ_at, cpP_at, cpT_at, ti_at, th_at] at hi_164 ⊢
      refine X_goto hO dX13_extendsIt_167 (tgt := 171) rfl ?_
      refine pa_105 174 hO hR dX13_extendsIt_171 rfl (by omega) (fun hR => ?_)
      refine X_iconst 175 hO dX13_extendsIt_174 rfl ?_
      exact XM_iret hO hF hR rfl (by first | exact Or.inl rfl | exact Or.inr ⟨rfl, bi_01 _⟩ | exact Or.inr ⟨rfl, by omega⟩) dX13_extendsIt_175 (by omega) (by unfold m_ext m_ex4 m_ex3 m_ex2; (repeat (first | rw [if_pos (by omega)] | rw [if_neg (by omega)])); exact ⟨rfl, rfl⟩)
  ·
    try simp only [bi_0, bi_ne, ne_eq, Classical.not_not] at hc_80
    refine X_aload_n 84 hO dX13_extendsIt_83 rfl rfl ?_
    refine X_iconst 85 hO dX13_extendsIt_84 rfl ?_
    refine X_iconst 86 hO dX13_extendsIt_85 rfl ?_
    refine XM_callVv 89 hO hD hR lX13_287 [_, _] rfl dX13_extendsIt_86 rfl (c_restores _ _ _ _ _ (by omega) (by omega) n3.1.1.1) (by decide) (by simp only [List.map_cons, List.map_nil, rv_cat]; exact Nat.le_of_ble_eq_true rfl) (fun w_86 hp_86 hR => ?_)
    subst hp_86
    refine X_aload_n 90 hO dX13_extendsIt_89 rfl rfl ?_
    refine ga_46 93 hO hR dX13_extendsIt_90 rfl ?_
    refine X_aload_n 94 hO dX13_extendsIt_93 rfl rfl ?_
    refine ga_189 97 hO hR dX13_extendsIt_94 rfl (fun hi_94 => ?_)
    try simp (disch := decide) only [up_k, up_s, step_at, pool_at, poolN_at, opens_at, closes_at, fl_at, del_at, ins_at, rep_at, psh_at, trn_at, tak_at, pEn_at, cpQ_at, cpP_at, cpT_at, ti_at, th_at] at hi_94 ⊢
    refine X_iconst 98 hO dX13_extendsIt_97 rfl ?_
    refine X_isub 99 hO dX13_extendsIt_98 rfl ?_
    refine X_iload_n 100 hO dX13_extendsIt_99 rfl rfl ?_
    refine ma_st (L := 30000) (c := 212) 101 hO hR rfl rfl rfl dX13_extendsIt_100 rfl (by omega) (by omega) (by omega) (fun hR => ?_)
    refine X_iconst 102 hO dX13_extendsIt_101 rfl ?_
    exact XM_iret hO hF hR rfl (by first | exact Or.inl rfl | exact Or.inr ⟨rfl, bi_01 _⟩ | exact Or.inr ⟨rfl, by omega⟩) dX13_extendsIt_102 (by omega) (by unfold m_ext m_ex4 m_ex3 m_ex2; (repeat (first | rw [if_pos (by omega)] | rw [if_neg (by omega)])); exact ⟨rfl, rfl⟩)
theorem TB.ex2 {μ : MU} {M had : Int} {w : Mm} (h : TB μ M w) (h1 : 0 ≤ w 120 μ.1 0 - had ∧ w 120 μ.1 0 - had ≤ 8) (h2 : 0 ≤ w 120 μ.1 0 ∧ w 120 μ.1 0 ≤ 30000) (h3 : 0 ≤ w 121 μ.1 0 ∧ w 121 μ.1 0 ≤ 524288) (h7 : 0 ≤ w 207 0 0 ∧ w 207 0 0 ≤ 400) : TB μ (M + 1) (m_ex2 μ had w) := by
  obtain ⟨t1, t2, t3, t4, t5, t6, t7⟩ := h
  unfold m_ex2
  refine ⟨?_, ?_, ?_, ?_, ?_, ?_, ?_⟩
  · simp (disch := decide) only [up_k]; omega
  · simp (disch := decide) only [up_k]; exact t2
  · simp (disch := decide) only [up_k]; exact t3
  · simp (disch := decide) only [up_k]; exact t4
  · simp (disch := decide) only [up_k, up_s]; omega
  · simp (disch := decide) only [up_k, up_s]; omega
  · intro k k1 k2
    simp (disch := decide) only [up_k] at k2
    simp (disch := decide) only [up_k, up_ii]
    have hK := t7 k k1 k2
    have hC := t7 (w 126 μ.1 0) (by omega) (by omega)
    refine ⟨hK.1, hK.2.1, hK.2.2.1, hK.2.2.2.1, hK.2.2.2.2.1, hK.2.2.2.2.2.1, hK.2.2.2.2.2.2.1, ?_, ⟨by omega, ?_⟩, by omega⟩
    · split <;> omega
    · split <;> omega
theorem nice_120u {μ : MU} : ∀ (j : Nat) (d : Int) (w : Mm), (m_nice μ j d w).2 120 μ.1 0 ≤ w 120 μ.1 0 + j
  | 0, d, w => by show w 120 μ.1 0 ≤ w 120 μ.1 0 + 0; omega
  | j + 1, d, w => by
    unfold m_nice
    split
    · show w 120 μ.1 0 ≤ _; omega
    · split
      · dsimp only; rw [fl_at (by decide), up_k _ (by decide)]; omega
      · have := nice_120u (μ := μ) j (d + 1) (m_rep μ (m_pof (w 229 0 (m_ff w)) w) (w 230 0 (m_ff w)) (up w 233 0 d (m_ff w)))
        rw [rep_120, up_k _ (by decide)] at this
        omega
theorem ntf_120u {μ : MU} {w : Mm} (h : bPo w) : (m_ntf μ w).2 120 μ.1 0 ≤ w 120 μ.1 0 + 8 := by
  obtain ⟨g, _, h2, _⟩ := ntf_ok (μ := μ) h
  rw [h2]; dsimp only; rw [ux_k (by decide)]; exact nice_120u _ _ _
theorem RB.ext {μ : MU} {S P M c : Int} {w : Mm} (hc : 0 ≤ c ∧ c ≤ 126) (hl : w 201 0 0 < 400) (hty : w 129 μ.1 0 = w 126 μ.1 0 ∧ w 129 μ.1 0 ≠ -1) (hR0 : RB μ S P M w) (hS : S ≤ 28900) (hP : P ≤ 500000) : RB μ (S + 8) (P + 1) (M + 1) (m_ext μ c w).2 ∧ (∀ c' a i, enK c' = false → c' ≠ 129 → c' ≠ 214 → c' ≠ 215 → c' ≠ 213 → c' ≠ 240 → c' ≠ 136 → (m_ext μ c w).2 c' a i = w c' a i) ∧ ((m_ext μ c w).1 = 0 ∨ (m_ext μ c w).1 = 1) := by
  obtain ⟨p1, p2, p3⟩ := cal_pre hR0
  obtain ⟨f1, f2, f3, f4, f5⟩ := p1.f
  have hy0 := hR0.2.2.2
  unfold bY at hy0
  have hy := hy0 (by omega)
  have hz := hR0.2.2.1
  unfold bZ at hz
  have e201 : m_saves μ 2 w 201 0 0 = w 201 0 0 := by rw [saves_201, if_neg (by decide)]
  have e2012 : m_saves μ 2 w 201 0 2 = w 201 0 0 := by rw [saves_201, if_pos rfl]
  have h1 := p1.ex1 (c := c) hc (by omega)
  have hL := LO.ex1 (c := c) p1 (by omega)
  have h2 := (p2.lo hL).mono (Int.le_refl S) (show P ≤ P + 1 by omega)
  obtain ⟨n1, n2, n3, n4⟩ := ntf_rk (μ := μ) h1 h2
  obtain ⟨l1, l2, l3, l4, l5⟩ := n2.f
  have lA := AP.ntf (μ := μ) h2.2.2.2.2.1
  have a120 : m_ex1 μ c (m_saves μ 2 w) 120 μ.1 0 = w 120 μ.1 0 := by unfold m_ex1; rw [pool_at (by decide), up_k _ (by decide), up_k _ (by decide), up_k _ (by decide), opens_at (by decide), p3 _ _ _ (by decide)]
  have a212 : m_ex1 μ c (m_saves μ 2 w) 212 0 (w 120 μ.1 0 - 1) = w 212 0 (w 120 μ.1 0 - 1) + 4096 := by
    unfold m_ex1; rw [pool_at (by decide), p3 120 _ _ (by decide), up_s, p3 _ _ _ (by decide)]
  have a201 : m_ex1 μ c (m_saves μ 2 w) 201 0 0 = w 201 0 0 + 1 := by
    unfold m_ex1; rw [pool_at (by decide), up_k _ (by decide), up_k _ (by decide), up_k _ (by decide), opens_201, if_pos rfl, e201]
  have u120 := ntf_120u (μ := μ) h2.2.2.2.2.1
  rw [a120] at u120
  have s120 := p3 120 μ.1 0 (by decide)
  have s212 := p3 212 0 (w 120 μ.1 0 - 1) (by decide)
  have q : ∀ c' a i, enK c' = false → c' ≠ 214 → c' ≠ 215 → c' ≠ 213 → c' ≠ 240 → c' ≠ 136 → (m_ntf μ (m_ex1 μ c (m_saves μ 2 w))).2 c' a i = w c' a i := fun c' a i h x1 x2 x3 x4 x5 => by
    have h := of_decide_eq_false h
    rw [n1.2 _ _ _ (by omega) (by omega) (by omega) (by omega) (by omega) (by omega), hL.2 _ _ _ (by omega) (by unfold LOk; simp; omega), p3 _ _ _ (by omega)]
  have q122 : (m_ntf μ (m_ex1 μ c (m_saves μ 2 w))).2 122 μ.1 0 = w 122 μ.1 0 := by rw [n1.2 _ _ _ (by decide) (by decide) (by decide) (by decide) (by decide) (by decide), hL.2 _ _ _ (by decide) (by decide), p3 _ _ _ (by decide)]
  have q123 : (m_ntf μ (m_ex1 μ c (m_saves μ 2 w))).2 123 μ.1 0 = w 123 μ.1 0 := by rw [n1.2 _ _ _ (by decide) (by decide) (by decide) (by decide) (by decide) (by decide), hL.2 _ _ _ (by decide) (by decide), p3 _ _ _ (by decide)]
  have q214 : (m_ntf μ (m_ex1 μ c (m_saves μ 2 w))).2 214 0 2 = w 120 μ.1 0 := by rw [n1.2 _ _ _ (by decide) (by decide) (by decide) (by decide) (by decide) (by decide), hL.2 _ _ _ (by decide) (by decide), saves_214.1]
  have q215 : (m_ntf μ (m_ex1 μ c (m_saves μ 2 w))).2 215 0 2 = w 121 μ.1 0 := by rw [n1.2 _ _ _ (by decide) (by decide) (by decide) (by decide) (by decide) (by decide), hL.2 _ _ _ (by decide) (by decide), saves_214.2]
  have q2012 : (m_ntf μ (m_ex1 μ c (m_saves μ 2 w))).2 201 0 2 = w 201 0 0 := by rw [n1.2 _ _ _ (by decide) (by decide) (by decide) (by decide) (by decide) (by decide), hL.1 _ _ _ (by decide) (by decide) (by decide), e2012]
  have q2010 : (m_ntf μ (m_ex1 μ c (m_saves μ 2 w))).2 201 0 0 = w 201 0 0 + 1 := by rw [n1.2 _ _ _ (by decide) (by decide) (by decide) (by decide) (by decide) (by decide), a201]
  have b120 := lA.1
  have b121 := lA.2.1
  rw [a120] at b120
  have c121 : w 121 μ.1 0 ≤ m_ex1 μ c (m_saves μ 2 w) 121 μ.1 0 := by
    unfold m_ex1; rw [pool_n, up_k _ (by decide), up_k _ (by decide), up_k _ (by decide), opens_at (by decide), p3 _ _ _ (by decide)]; omega
  have q212 : w 120 μ.1 0 = (m_ntf μ (m_ex1 μ c (m_saves μ 2 w))).2 120 μ.1 0 → (m_ntf μ (m_ex1 μ c (m_saves μ 2 w))).2 212 0 ((m_ntf μ (m_ex1 μ c (m_saves μ 2 w))).2 120 μ.1 0 - 1) = w 212 0 (w 120 μ.1 0 - 1) + 4096 := fun e => by
    rw [← e, lA.2.2.1 _ (by omega) (by rw [a120]; omega), a212]
  unfold m_ext
  rw [s120, s212]
  generalize m_ntf μ (m_ex1 μ c (m_saves μ 2 w)) = Q at *
  obtain ⟨Q1, Q2⟩ := Q
  dsimp only at *
  unfold m_ex4
  dsimp only
  split
  · refine ⟨⟨(LB.up_o (LB.rest n2 n3.1) (by decide)).mono (by omega) (by omega), (((n3.rest (b := 2) (all := 1) (Or.inl rfl)).up_o (by decide)).nodes (by omega)).mono (by omega) (by omega), ?_, ?_⟩, fun c' a i h x1 x2 x3 x4 x5 x6 => ?_, Or.inl rfl⟩
    · unfold bZ m_ex3
      simp (disch := decide) only [up_k, rest_at]
      rw [rest_120.1, rest_120.2, q214, q215, q122, q123, q 132 _ _ (by decide) (by decide) (by decide) (by decide) (by decide) (by decide), q 133 _ _ (by decide) (by decide) (by decide) (by decide) (by decide) (by decide), q 130 _ _ (by decide) (by decide) (by decide) (by decide) (by decide) (by decide)]
      exact hz
    · unfold bY m_ex3
      simp (disch := decide) only [up_k]
      rw [rest_120.1, q214, up_s, rest_201, if_pos rfl, q2012]
      exact fun _ => ⟨hy.1, hy.2.1, hy.2.2⟩
    · have h' := of_decide_eq_false h
      show m_ex3 μ _ (m_rest μ 2 1 Q2) c' a i = w c' a i
      unfold m_ex3
      rw [up_k _ (by omega), rest_at (by omega)]
      exact q c' a i h x2 x3 x4 x5 x6
  · obtain ⟨k1, k2, k3, k4, k5, k6, k7⟩ := n3
    have eX : ∀ c' a i, c' ≠ 220 → c' ≠ 224 → c' ≠ 122 → c' ≠ 123 → c' ≠ 129 → m_ex2 μ (w 120 μ.1 0) Q2 c' a i = Q2 c' a i := fun c' a i x1 x2 x3 x4 x5 => by
      unfold m_ex2; rw [up_k _ x5, up_k _ x4, up_k _ x3, up_k _ x2, up_k _ x1]
    have hk : RK μ S (P + 1) (M + 1) (m_ex2 μ (w 120 μ.1 0) Q2) := ⟨k1.cong fun c a i _ _ _ _ _ => eX _ _ _ (by omega) (by omega) (by omega) (by omega) (by omega), k2.cong fun c a i _ _ _ _ _ => eX _ _ _ (by omega) (by omega) (by omega) (by omega) (by omega), k3.cong fun c a i _ _ => eX _ _ _ (by omega) (by omega) (by omega) (by omega) (by omega), k4.ex2 (by omega) (by omega) (by omega) (by omega), k5.cong fun i => eX _ _ _ (by decide) (by decide) (by decide) (by decide) (by decide), k6.cong fun i => eX _ _ _ (by decide) (by decide) (by decide) (by decide) (by decide), k7.cong (fun i => eX _ _ _ (by decide) (by decide) (by decide) (by decide) (by decide)) (fun i => eX _ _ _ (by decide) (by decide) (by decide) (by decide) (by decide))⟩
    have hl : LB μ (S + 8) (P + 1) (m_ex2 μ (w 120 μ.1 0) Q2) := n2.cong (fun c a i x y z => eX _ _ _ (by omega) (by omega) (by omega) (by omega) (by omega)) (eX _ _ _ (by decide) (by decide) (by decide) (by decide) (by decide)) (eX _ _ _ (by decide) (by decide) (by decide) (by decide) (by decide))
    refine ⟨⟨hl, hk.mono (by omega) (by omega), ?_, ?_⟩, fun c' a i h x1 x2 x3 x4 x5 x6 => ?_, by omega⟩
    · unfold bZ m_ex2
      simp (disch := decide) only [up_k, up_s]
      rw [q 132 _ _ (by decide) (by decide) (by decide) (by decide) (by decide) (by decide), q 133 _ _ (by decide) (by decide) (by decide) (by decide) (by decide) (by decide), q 130 _ _ (by decide) (by decide) (by decide) (by decide) (by decide) (by decide)]
      exact ⟨hz.1, hz.2.1, ⟨Int.le_refl _, Int.le_refl _⟩, hz.2.2.2.1, fun _ => trivial⟩
    · unfold bY m_ex2
      simp (disch := decide) only [up_k, up_s]
      split
      · next e =>
        intro _
        rw [q212 e.symm, q2010]
        omega
      · intro hh; exact absurd rfl hh
    · have h' := of_decide_eq_false h
      show m_ex2 μ _ Q2 c' a i = w c' a i
      rw [eX _ _ _ (by omega) (by omega) (by omega) (by omega) (by omega)]
      exact q c' a i h x2 x3 x4 x5 x6
