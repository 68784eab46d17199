theorem pln_one {m k : Int} {w : Mm} (h : bPr m w) (h1 : ∀ j, 1 ≤ j → j < m → 0 ≤ w 217 0 j) (hk : 0 ≤ k ∧ k < m) (e : k ≠ 0) : 2 ≤ m_pln w k := by
  have hs := pln_s h hk
  have hp := h k hk.1 hk.2
  have h2 := h1 k (by omega) hk.2
  have := (pln_rng h _ (w 217 0 k) (Nat.le_refl _) (by omega) (by omega)).2.2 h2
  omega
def szL (w : Mm) : List Int → Int
  | [] => 0
  | p :: ps => w 220 0 p + szL w ps
theorem szL_up {w : Mm} {c : Nat} {a i v : Int} (h : c ≠ 220) : ∀ ps, szL (up w c a i v) ps = szL w ps
  | [] => rfl
  | p :: ps => by simp only [szL]; rw [up_k _ (by omega), szL_up h ps]
theorem CHL.up {m : Int} {b : Mm} {p : Int} {ps : List Int} (h : CHL m b p ps) {c : Nat} {a i v : Int} (hc : c < 200) : CHL m (up b c a i v) p ps := h.cong fun c' a' i' h' => up_k _ (by omega) _ _ _ _ _
/-- the parts of a node that is not the root -/
theorem RPk.ch {μ : MU} {PL : Int → List Int} {x : Int} {w : Mm} (g : RPk μ PL x w) (h : 2 ≤ m_pln w x) : CHL 640 w (w 221 0 x) (PL x) ∧ (PL x).length ≤ 640 := by
  have := g.1 0 (by show (0 : Int) < _; omega)
  exact ⟨this.2.1, this.2.2.1⟩
def o_newestChild (μ : MU) (c : Int) (w : Mm) : Int × Mm := if isN μ c w then (m_nwst μ c w, m_ti μ (isN μ c w) w) else (0, m_ti μ (isN μ c w) w)
theorem dX13_newestChild_0 : decode cX13_newestChild 0 = .ok (.aload_n 0, 1) := by decide +kernel
theorem dX13_newestChild_1 : decode cX13_newestChild 1 = .ok (.iload_n 1, 1) := by decide +kernel
theorem dX13_newestChild_2 : decode cX13_newestChild 2 = .ok (.invokevirtual 442, 3) := by decide +kernel
theorem dX13_newestChild_5 : decode cX13_newestChild 5 = .ok (.ifCond .eq 11, 3) := by decide +kernel
theorem dX13_newestChild_8 : decode cX13_newestChild 8 = .ok (.aload_n 0, 1) := by decide +kernel
theorem dX13_newestChild_9 : decode cX13_newestChild 9 = .ok (.iload_n 1, 1) := by decide +kernel
theorem dX13_newestChild_10 : decode cX13_newestChild 10 = .ok (.invokevirtual 268, 3) := by decide +kernel
theorem dX13_newestChild_13 : decode cX13_newestChild 13 = .ok (.goto 4, 3) := by decide +kernel
theorem dX13_newestChild_16 : decode cX13_newestChild 16 = .ok (.iconst 0, 1) := by decide +kernel
theorem dX13_newestChild_17 : decode cX13_newestChild 17 = .ok (.ireturn, 1) := by decide +kernel
set_option maxRecDepth 4000 in
theorem c_newestChild (γ : LC) (μ : MU) (w : Mm) (c : Int) (S P M : Int) (hc : IR c) (hR0 : RB μ S P M w) (hS : S ≤ 28900) (hP : P ≤ 500000) (hM : M ≤ 590) : CMi γ μ 3 mX13_newestChild [.int (I c)] w (fun r w' => r = (o_newestChild μ c w).1 ∧ w' = (o_newestChild μ c w).2) := by
  refine CMi_of rfl (by simp [rv_cat, Value.category]) rfl ?_
  rintro κ hO hF rfl hR
  have hD := hF.dp
  show X κ 0 0 w 0 [some (rv μ.1), some (.int (I c))] []
  have hTB := (hR0.ti (p := isN μ c w)).2.1.2.2.2.1
  have hnw := nwst_rng (μ := μ) (x := c) (w := w) hR0.2.1.2.2.2.1.1.1
  have hL := hR0.1
  obtain ⟨f1, f2, f3, f4, f5⟩ := hR0.1.f
  obtain ⟨t1, t2, t3, t4, t5, t6, t7⟩ := hR0.2.1.2.2.2.1
  refine X_aload_n 1 hO dX13_newestChild_0 rfl rfl ?_
  refine X_iload_n 2 hO dX13_newestChild_1 rfl rfl ?_
  refine XM_callVi 5 hO hD hR lX13_442 [_] rfl dX13_newestChild_2 rfl (c_hasNode _ _ _ _ _ _ _ (by omega) hR0 hS hP hM) (by decide) (by simp only [List.map_cons, List.map_nil, rv_cat]; exact Nat.le_of_ble_eq_true rfl) (fun r_2 w_2 hr_2 hp_2 hR => ?_)
  obtain ⟨e1_2, e2_2⟩ := hp_2
  subst e1_2
  subst e2_2
  refine X_if_eq 8 16 hO dX13_newestChild_5 rfl rfl (by omega) (fun hc_5 => ?_) (fun hc_5 => ?_)
  ·
    try simp only [bi_0, bi_ne, ne_eq, Classical.not_not] at hc_5
    refine X_iconst 17 hO dX13_newestChild_16 rfl ?_
    exact XM_iret hO hF hR rfl (by first | exact Or.inl rfl | exact Or.inr ⟨rfl, bi_01 _⟩ | exact Or.inr ⟨rfl, by omega⟩) dX13_newestChild_17 (by first | assumption | omega | exact I_rng _) (by first | (exfalso; omega) | (unfold o_newestChild ; (try unfold m_ti); (try unfold m_th); (repeat (first | rw [if_pos (by omega)] | rw [if_neg (by omega)])); exact ⟨rfl, rfl⟩))
  ·
    try simp only [bi_0, bi_ne, ne_eq, Classical.not_not] at hc_5
    refine X_aload_n 9 hO dX13_newestChild_8 rfl rfl ?_
    refine X_iload_n 10 hO dX13_newestChild_9 rfl rfl ?_
    refine XM_callVi 13 hO hD hR lX13_268 [_] rfl dX13_newestChild_10 rfl (c_newest _ _ _ _ M (by omega) hTB (by omega)) (by decide) (by simp only [List.map_cons, List.map_nil, rv_cat]; exact Nat.le_of_ble_eq_true rfl) (fun r_10 w_10 hr_10 hp_10 hR => ?_)
    obtain ⟨e1_10, e2_10⟩ := hp_10
    subst e1_10
    subst e2_10
    rw [show m_nwst μ c (m_ti μ (isN μ c w) w) = m_nwst μ c w from nwst_up (by decide)]
    refine X_goto hO dX13_newestChild_13 (tgt := 17) rfl ?_
    exact XM_iret hO hF hR rfl (by first | exact Or.inl rfl | exact Or.inr ⟨rfl, bi_01 _⟩ | exact Or.inr ⟨rfl, by omega⟩) dX13_newestChild_17 (by first | assumption | omega | exact I_rng _) (by first | (exfalso; omega) | (unfold o_newestChild ; (try unfold m_ti); (try unfold m_th); (repeat (first | rw [if_pos (by omega)] | rw [if_neg (by omega)])); exact ⟨rfl, rfl⟩))
def o_walk (μ : MU) (PL : Int → List Int) (c : Int) (w : Mm) : Int × Mm := if isN μ c w then (if w 132 μ.1 0 = 1 then (0, m_th μ 2 w) else (m_dist w (w 126 μ.1 0) c, m_wks μ PL c (m_th μ 0 w))) else (0, m_th μ 1 w)
theorem dX13_walk_0 : decode cX13_walk 0 = .ok (.aload_n 0, 1) := by decide +kernel
theorem dX13_walk_1 : decode cX13_walk 1 = .ok (.aload_n 0, 1) := by decide +kernel
theorem dX13_walk_2 : decode cX13_walk 2 = .ok (.iload_n 1, 1) := by decide +kernel
theorem dX13_walk_3 : decode cX13_walk 3 = .ok (.invokevirtual 400, 3) := by decide +kernel
theorem dX13_walk_6 : decode cX13_walk 6 = .ok (.ifCond .ne 7, 3) := by decide +kernel
theorem dX13_walk_9 : decode cX13_walk 9 = .ok (.iconst 1, 1) := by decide +kernel
theorem dX13_walk_10 : decode cX13_walk 10 = .ok (.goto 16, 3) := by decide +kernel
theorem dX13_walk_13 : decode cX13_walk 13 = .ok (.aload_n 0, 1) := by decide +kernel
theorem dX13_walk_14 : decode cX13_walk 14 = .ok (.getfield 280, 3) := by decide +kernel
theorem dX13_walk_17 : decode cX13_walk 17 = .ok (.iconst 1, 1) := by decide +kernel
theorem dX13_walk_18 : decode cX13_walk 18 = .ok (.if_icmp .ne 7, 3) := by decide +kernel
theorem dX13_walk_21 : decode cX13_walk 21 = .ok (.iconst 2, 1) := by decide +kernel
theorem dX13_walk_22 : decode cX13_walk 22 = .ok (.goto 4, 3) := by decide +kernel
theorem dX13_walk_25 : decode cX13_walk 25 = .ok (.iconst 0, 1) := by decide +kernel
theorem dX13_walk_26 : decode cX13_walk 26 = .ok (.putfield 171, 3) := by decide +kernel
theorem dX13_walk_29 : decode cX13_walk 29 = .ok (.aload_n 0, 1) := by decide +kernel
theorem dX13_walk_30 : decode cX13_walk 30 = .ok (.getfield 171, 3) := by decide +kernel
theorem dX13_walk_33 : decode cX13_walk 33 = .ok (.ifCond .le 5, 3) := by decide +kernel
theorem dX13_walk_36 : decode cX13_walk 36 = .ok (.iconst 0, 1) := by decide +kernel
theorem dX13_walk_37 : decode cX13_walk 37 = .ok (.ireturn, 1) := by decide +kernel
theorem dX13_walk_38 : decode cX13_walk 38 = .ok (.aload_n 0, 1) := by decide +kernel
theorem dX13_walk_39 : decode cX13_walk 39 = .ok (.getfield 258, 3) := by decide +kernel
theorem dX13_walk_42 : decode cX13_walk 42 = .ok (.istore_n 2, 1) := by decide +kernel
theorem dX13_walk_43 : decode cX13_walk 43 = .ok (.iload_n 1, 1) := by decide +kernel
theorem dX13_walk_44 : decode cX13_walk 44 = .ok (.istore_n 3, 1) := by decide +kernel
theorem dX13_walk_45 : decode cX13_walk 45 = .ok (.iconst 0, 1) := by decide +kernel
theorem dX13_walk_46 : decode cX13_walk 46 = .ok (.istore 4, 2) := by decide +kernel
theorem dX13_walk_48 : decode cX13_walk 48 = .ok (.iload_n 2, 1) := by decide +kernel
theorem dX13_walk_49 : decode cX13_walk 49 = .ok (.iload_n 3, 1) := by decide +kernel
theorem dX13_walk_50 : decode cX13_walk 50 = .ok (.if_icmp .eq 61, 3) := by decide +kernel
theorem dX13_walk_53 : decode cX13_walk 53 = .ok (.aload_n 0, 1) := by decide +kernel
theorem dX13_walk_54 : decode cX13_walk 54 = .ok (.iload_n 2, 1) := by decide +kernel
theorem dX13_walk_55 : decode cX13_walk 55 = .ok (.invokevirtual 403, 3) := by decide +kernel
theorem dX13_walk_58 : decode cX13_walk 58 = .ok (.aload_n 0, 1) := by decide +kernel
theorem dX13_walk_59 : decode cX13_walk 59 = .ok (.iload_n 3, 1) := by decide +kernel
theorem dX13_walk_60 : decode cX13_walk 60 = .ok (.invokevirtual 403, 3) := by decide +kernel
theorem dX13_walk_63 : decode cX13_walk 63 = .ok (.if_icmp .lt 7, 3) := by decide +kernel
theorem dX13_walk_66 : decode cX13_walk 66 = .ok (.iconst 1, 1) := by decide +kernel
theorem dX13_walk_67 : decode cX13_walk 67 = .ok (.goto 4, 3) := by decide +kernel
theorem dX13_walk_70 : decode cX13_walk 70 = .ok (.iconst 0, 1) := by decide +kernel
theorem dX13_walk_71 : decode cX13_walk 71 = .ok (.istore 5, 2) := by decide +kernel
theorem dX13_walk_73 : decode cX13_walk 73 = .ok (.iload 5, 2) := by decide +kernel
theorem dX13_walk_75 : decode cX13_walk 75 = .ok (.ifCond .eq 12, 3) := by decide +kernel
theorem dX13_walk_78 : decode cX13_walk 78 = .ok (.aload_n 0, 1) := by decide +kernel
theorem dX13_walk_79 : decode cX13_walk 79 = .ok (.getfield 69, 3) := by decide +kernel
theorem dX13_walk_82 : decode cX13_walk 82 = .ok (.iload_n 2, 1) := by decide +kernel
theorem dX13_walk_83 : decode cX13_walk 83 = .ok (.iaload, 1) := by decide +kernel
theorem dX13_walk_84 : decode cX13_walk 84 = .ok (.goto 4, 3) := by decide +kernel
theorem dX13_walk_87 : decode cX13_walk 87 = .ok (.iload_n 2, 1) := by decide +kernel
theorem dX13_walk_88 : decode cX13_walk 88 = .ok (.istore_n 2, 1) := by decide +kernel
theorem dX13_walk_89 : decode cX13_walk 89 = .ok (.iload 5, 2) := by decide +kernel
theorem dX13_walk_91 : decode cX13_walk 91 = .ok (.ifCond .eq 7, 3) := by decide +kernel
theorem dX13_walk_94 : decode cX13_walk 94 = .ok (.iload_n 3, 1) := by decide +kernel
theorem dX13_walk_95 : decode cX13_walk 95 = .ok (.goto 9, 3) := by decide +kernel
theorem dX13_walk_98 : decode cX13_walk 98 = .ok (.aload_n 0, 1) := by decide +kernel
theorem dX13_walk_99 : decode cX13_walk 99 = .ok (.getfield 69, 3) := by decide +kernel
theorem dX13_walk_102 : decode cX13_walk 102 = .ok (.iload_n 3, 1) := by decide +kernel
theorem dX13_walk_103 : decode cX13_walk 103 = .ok (.iaload, 1) := by decide +kernel
theorem dX13_walk_104 : decode cX13_walk 104 = .ok (.istore_n 3, 1) := by decide +kernel
theorem dX13_walk_105 : decode cX13_walk 105 = .ok (.iinc 4 1, 3) := by decide +kernel
theorem dX13_walk_108 : decode cX13_walk 108 = .ok (.goto (-60), 3) := by decide +kernel
theorem dX13_walk_111 : decode cX13_walk 111 = .ok (.aload_n 0, 1) := by decide +kernel
theorem dX13_walk_112 : decode cX13_walk 112 = .ok (.iload_n 1, 1) := by decide +kernel
theorem dX13_walk_113 : decode cX13_walk 113 = .ok (.invokevirtual 397, 3) := by decide +kernel
theorem dX13_walk_116 : decode cX13_walk 116 = .ok (.iload 4, 2) := by decide +kernel
theorem dX13_walk_118 : decode cX13_walk 118 = .ok (.ireturn, 1) := by decide +kernel
set_option maxRecDepth 4000 in
theorem c_walk (γ : LC) (μ : MU) (w : Mm) (PL : Int → List Int) (c : Int) (S P M : Int) (hc : IR c) (hRA : RPA μ PL w) (hEx : bEx μ w) (hR0 : RB μ S P M w) (hS : S ≤ 28900) (hP : P ≤ 500000) (hM : M ≤ 590) : CMi γ μ 6 mX13_walk [.int (I c)] w (fun r w' => r = (o_walk μ PL c w).1 ∧ w' = (o_walk μ PL c w).2) := by
  refine CMi_of rfl (by simp [rv_cat, Value.category]) rfl ?_
  rintro κ hO hF rfl hR
  have hD := hF.dp
  show X κ 0 0 w 0 [some (rv μ.1), some (.int (I c)), none, none, none, none] []
  have hX : RB μ S P M (up w 139 μ.1 0 0) := hR0.fld (by decide)
  have hXT := hX.2.1.2.2.2.1
  have x124 : up w 139 μ.1 0 0 124 μ.1 0 = w 124 μ.1 0 := up_k _ (by decide) _ _ _ _ _
  have x210 : up w 139 μ.1 0 0 210 0 0 = w 210 0 0 := up_k _ (by decide) _ _ _ _ _
  have hTB := hR0.2.1.2.2.2.1
  have hcu := hTB.2.2.1
  have hp := hTB.pr
  have hp1 : ∀ j, 1 ≤ j → j < w 124 μ.1 0 → 0 ≤ w 217 0 j := fun j a b => (hTB.2.2.2.2.2.2 j (by omega) b).2.2.1 a
  have hL := hR0.1
  obtain ⟨f1, f2, f3, f4, f5⟩ := hR0.1.f
  obtain ⟨t1, t2, t3, t4, t5, t6, t7⟩ := hR0.2.1.2.2.2.1
  have JP38 : (isN μ c w ∧ w 132 μ.1 0 ≠ 1) → (RM (up w 139 μ.1 0 0) μ) → X κ 0 0 ((up w 139 μ.1 0 0)) 38 [some (rv μ.1), some (.int (I c)), none, none, none, none] [] := by
    intro  hnz hR
    refine X_aload_n 39 hO dX13_walk_38 rfl rfl ?_
    refine ga_258 42 hO hR dX13_walk_39 rfl (fun hi_39 => ?_)
    try simp (disch := decide) only [up_k, up_s, step_at, pool_at, poolN_at, opens_at, closes_at, fl_at, del_at, ins_at, rep_at, psh_at, trn_at, tak_at, pEn_at, cpQ_at, cpP_at, cpT_at, ti_at, th_at, rec_at, saves_at] at hi_39 ⊢
    refine X_istore_n 43 hO dX13_walk_42 rfl rfl ?_
    refine X_iload_n 44 hO dX13_walk_43 rfl rfl ?_
    refine X_istore_n 45 hO dX13_walk_44 rfl rfl ?_
    refine X_iconst 46 hO dX13_walk_45 rfl ?_
    refine X_istore 48 hO dX13_walk_46 rfl rfl ?_
    have LP48 : ∀ (n : Nat) (f : Nat) (a b n0 : Int), f < n → (0 ≤ a ∧ a < w 124 μ.1 0) → (0 ≤ b ∧ b < w 124 μ.1 0) → (m_pln w a + m_pln w b ≤ f) → (0 ≤ n0 ∧ n0 + f ≤ 2000) → (m_dist w (w 126 μ.1 0) c = m_dst w f a b n0) → RM ((up w 139 μ.1 0 0)) μ → X κ 0 0 ((up w 139 μ.1 0 0)) 48 [some (rv μ.1), some (.int (I c)), some (.int (I a)), some (.int (I b)), some (.int (I n0)), none] [] := by
      intro n
      induction n with
      | zero => intro f a b n0 hm; exact absurd hm (Nat.not_lt_zero _)
      | succ n ih =>
        intro f a b n0 hm ha hb hf hn hj hR
        have hsa := pln_s hp ha
        have hsb := pln_s hp hb
        have hra := pln_rng hp _ a (Nat.le_refl _) (by omega) (by omega)
        have hrb := pln_rng hp _ b (Nat.le_refl _) (by omega) (by omega)
        have hpa := hp a ha.1 ha.2
        have hpb := hp b hb.1 hb.2
        have hoa := pln_one hp hp1 ha
        have hob := pln_one hp hp1 hb
        have hza : a = 0 → m_pln w a = 1 := fun e => by rw [hsa, show w 217 0 a = -1 by omega]; rfl
        have hzb : b = 0 → m_pln w b = 1 := fun e => by rw [hsb, show w 217 0 b = -1 by omega]; rfl
        refine X_iload_n 49 hO dX13_walk_48 rfl rfl ?_
        refine X_iload_n 50 hO dX13_walk_49 rfl rfl ?_
        refine X_icmp_eq 53 111 hO dX13_walk_50 rfl rfl (by omega) (by omega) (fun hc_50 => ?_) (fun hc_50 => ?_)
        ·
          have hab : a = b := by omega
          have hj1 : m_dst w f a b n0 = n0 := by
            cases f with
            | zero => rfl
            | succ f => show (if a = b then n0 else _) = _; rw [if_pos hab]
          refine X_aload_n 112 hO dX13_walk_111 rfl rfl ?_
          refine X_iload_n 113 hO dX13_walk_112 rfl rfl ?_
          refine XM_callVv 116 hO hD hR lX13_397 [_] rfl dX13_walk_113 rfl (c_walks _ _ _ _ M PL hXT (by omega) (by rw [x124]; omega) hX.2.1.2.2.1 hX.1.2.2.1 (by rw [x210]; omega) hX.1.2.1.e ((hRA c (by omega) (by omega) hnz.1.2).up (by decide))) (by decide) (by simp only [List.map_cons, List.map_nil, rv_cat]; exact Nat.le_of_ble_eq_true rfl) (fun w_113 hp_113 hR => ?_)
          subst hp_113
          refine X_iload 118 hO dX13_walk_116 rfl rfl ?_
          exact XM_iret hO hF hR rfl (by first | exact Or.inl rfl | exact Or.inr ⟨rfl, bi_01 _⟩ | exact Or.inr ⟨rfl, by omega⟩) dX13_walk_118 (by first | assumption | omega | exact I_rng _) (by unfold o_walk; rw [if_pos hnz.1, if_neg hnz.2]; exact ⟨by rw [hj, hj1], rfl⟩)
        ·
          cases f with
          | zero => exfalso; omega
          | succ f =>
          have hj0 : m_dst w (f + 1) a b n0 = if m_pln w a ≥ m_pln w b then m_dst w f (w 217 0 a) b (n0 + 1) else m_dst w f a (w 217 0 b) (n0 + 1) := by
            show (if a = b then n0 else _) = _
            rw [if_neg (by omega)]
          rw [hj0] at hj
          refine X_aload_n 54 hO dX13_walk_53 rfl rfl ?_
          refine X_iload_n 55 hO dX13_walk_54 rfl rfl ?_
          refine XM_callVi 58 hO hD hR lX13_403 [_] rfl dX13_walk_55 rfl (c_depth _ _ _ _ M hXT (by omega) (by rw [x124]; exact ha)) (by decide) (by simp only [List.map_cons, List.map_nil, rv_cat]; exact Nat.le_of_ble_eq_true rfl) (fun r_55 w_55 hr_55 hp_55 hR => ?_)
          obtain ⟨e1_55, e2_55⟩ := hp_55
          subst e1_55
          subst e2_55
          rw [pln_up (by decide)]
          refine X_aload_n 59 hO dX13_walk_58 rfl rfl ?_
          refine X_iload_n 60 hO dX13_walk_59 rfl rfl ?_
          refine XM_callVi 63 hO hD hR lX13_403 [_] rfl dX13_walk_60 rfl (c_depth _ _ _ _ M hXT (by omega) (by rw [x124]; exact hb)) (by decide) (by simp only [List.map_cons, List.map_nil, rv_cat]; exact Nat.le_of_ble_eq_true rfl) (fun r_60 w_60 hr_60 hp_60 hR => ?_)
          obtain ⟨e1_60, e2_60⟩ := hp_60
          subst e1_60
          subst e2_60
          rw [pln_up (by decide)]
          refine X_icmp_lt 66 70 hO dX13_walk_63 rfl rfl (by omega) (by omega) (fun hc_63 => ?_) (fun hc_63 => ?_)
          ·
            rw [if_neg (by omega)] at hj
            refine X_iconst 71 hO dX13_walk_70 rfl ?_
            refine X_istore 73 hO dX13_walk_71 rfl rfl ?_
            refine X_iload 75 hO dX13_walk_73 rfl rfl ?_
            refine X_if_eq 78 87 hO dX13_walk_75 rfl rfl (by omega) (fun hc_75 => ?_) (fun hc_75 => ?_)
            ·
              refine X_iload_n 88 hO dX13_walk_87 rfl rfl ?_
              refine X_istore_n 89 hO dX13_walk_88 rfl rfl ?_
              refine X_iload 91 hO dX13_walk_89 rfl rfl ?_
              refine X_if_eq 94 98 hO dX13_walk_91 rfl rfl (by omega) (fun hc_91 => ?_) (fun hc_91 => ?_)
              ·
                refine X_aload_n 99 hO dX13_walk_98 rfl rfl ?_
                refine ga_69 102 hO hR dX13_walk_99 rfl ?_
                refine X_iload_n 103 hO dX13_walk_102 rfl rfl ?_
                refine ma_ld (L := 640) (c := 217) 104 hO hR rfl rfl rfl dX13_walk_103 rfl (by omega) (by omega) (fun hi_103 => ?_)
                try simp (disch := decide) only [up_k, up_s, step_at, pool_at, poolN_at, opens_at, closes_at, fl_at, del_at, ins_at, rep_at, psh_at, trn_at, tak_at, pEn_at, cpQ_at, cpP_at, cpT_at, ti_at, th_at, rec_at, saves_at] at hi_103 ⊢
                refine X_istore_n 105 hO dX13_walk_104 rfl rfl ?_
                refine X_iinc 108 hO dX13_walk_105 rfl rfl ?_
                refine X_goto hO dX13_walk_108 (tgt := 48) rfl ?_
                (first
                  | (exfalso; omega)
                  | exact X_wk (by simp only [lwk, lset, true_or, or_true, and_self]) (ih f _ b (n0 + 1) (by omega) ⟨hp1 a (by omega) ha.2, by omega⟩ hb (by omega) (by omega) hj hR)
                  | exact X_wk (by simp only [lwk, lset, true_or, or_true, and_self]) (ih f a _ (n0 + 1) (by omega) ha ⟨hp1 b (by omega) hb.2, by omega⟩ (by omega) (by omega) hj hR))
              ·
                refine X_iload_n 95 hO dX13_walk_94 rfl rfl ?_
                refine X_goto hO dX13_walk_95 (tgt := 104) rfl ?_
                refine X_istore_n 105 hO dX13_walk_104 rfl rfl ?_
                refine X_iinc 108 hO dX13_walk_105 rfl rfl ?_
                refine X_goto hO dX13_walk_108 (tgt := 48) rfl ?_
                (first
                  | (exfalso; omega)
                  | exact X_wk (by simp only [lwk, lset, true_or, or_true, and_self]) (ih f _ b (n0 + 1) (by omega) ⟨hp1 a (by omega) ha.2, by omega⟩ hb (by omega) (by omega) hj hR)
                  | exact X_wk (by simp only [lwk, lset, true_or, or_true, and_self]) (ih f a _ (n0 + 1) (by omega) ha ⟨hp1 b (by omega) hb.2, by omega⟩ (by omega) (by omega) hj hR))
            ·
              refine X_aload_n 79 hO dX13_walk_78 rfl rfl ?_
              refine ga_69 82 hO hR dX13_walk_79 rfl ?_
              refine X_iload_n 83 hO dX13_walk_82 rfl rfl ?_
              refine ma_ld (L := 640) (c := 217) 84 hO hR rfl rfl rfl dX13_walk_83 rfl (by omega) (by omega) (fun hi_83 => ?_)
              try simp (disch := decide) only [up_k, up_s, step_at, pool_at, poolN_at, opens_at, closes_at, fl_at, del_at, ins_at, rep_at, psh_at, trn_at, tak_at, pEn_at, cpQ_at, cpP_at, cpT_at, ti_at, th_at, rec_at, saves_at] at hi_83 ⊢
              refine X_goto hO dX13_walk_84 (tgt := 88) rfl ?_
              refine X_istore_n 89 hO dX13_walk_88 rfl rfl ?_
              refine X_iload 91 hO dX13_walk_89 rfl rfl ?_
              refine X_if_eq 94 98 hO dX13_walk_91 rfl rfl (by omega) (fun hc_91 => ?_) (fun hc_91 => ?_)
              ·
                refine X_aload_n 99 hO dX13_walk_98 rfl rfl ?_
                refine ga_69 102 hO hR dX13_walk_99 rfl ?_
                refine X_iload_n 103 hO dX13_walk_102 rfl rfl ?_
                refine ma_ld (L := 640) (c := 217) 104 hO hR rfl rfl rfl dX13_walk_103 rfl (by omega) (by omega) (fun hi_103 => ?_)
                try simp (disch := decide) only [up_k, up_s, step_at, pool_at, poolN_at, opens_at, closes_at, fl_at, del_at, ins_at, rep_at, psh_at, trn_at, tak_at, pEn_at, cpQ_at, cpP_at, cpT_at, ti_at, th_at, rec_at, saves_at] at hi_103 ⊢
                refine X_istore_n 105 hO dX13_walk_104 rfl rfl ?_
                refine X_iinc 108 hO dX13_walk_105 rfl rfl ?_
                refine X_goto hO dX13_walk_108 (tgt := 48) rfl ?_
                (first
                  | (exfalso; omega)
                  | exact X_wk (by simp only [lwk, lset, true_or, or_true, and_self]) (ih f _ b (n0 + 1) (by omega) ⟨hp1 a (by omega) ha.2, by omega⟩ hb (by omega) (by omega) hj hR)
                  | exact X_wk (by simp only [lwk, lset, true_or, or_true, and_self]) (ih f a _ (n0 + 1) (by omega) ha ⟨hp1 b (by omega) hb.2, by omega⟩ (by omega) (by omega) hj hR))
              ·
                refine X_iload_n 95 hO dX13_walk_94 rfl rfl ?_
                refine X_goto hO dX13_walk_95 (tgt := 104) rfl ?_
                refine X_istore_n 105 hO dX13_walk_104 rfl rfl ?_
                refine X_iinc 108 hO dX13_walk_105 rfl rfl ?_
                refine X_goto hO dX13_walk_108 (tgt := 48) rfl ?_
                (first
                  | (exfalso; omega)
                  | exact X_wk (by simp only [lwk, lset, true_or, or_true, and_self]) (ih f _ b (n0 + 1) (by omega) ⟨hp1 a (by omega) ha.2, by omega⟩ hb (by omega) (by omega) hj hR)
                  | exact X_wk (by simp only [lwk, lset, true_or, or_true, and_self]) (ih f a _ (n0 + 1) (by omega) ha ⟨hp1 b (by omega) hb.2, by omega⟩ (by omega) (by omega) hj hR))
          ·
            rw [if_pos (by omega)] at hj
            refine X_iconst 67 hO dX13_walk_66 rfl ?_
            refine X_goto hO dX13_walk_67 (tgt := 71) rfl ?_
            refine X_istore 73 hO dX13_walk_71 rfl rfl ?_
            refine X_iload 75 hO dX13_walk_73 rfl rfl ?_
            refine X_if_eq 78 87 hO dX13_walk_75 rfl rfl (by omega) (fun hc_75 => ?_) (fun hc_75 => ?_)
            ·
              refine X_iload_n 88 hO dX13_walk_87 rfl rfl ?_
              refine X_istore_n 89 hO dX13_walk_88 rfl rfl ?_
              refine X_iload 91 hO dX13_walk_89 rfl rfl ?_
              refine X_if_eq 94 98 hO dX13_walk_91 rfl rfl (by omega) (fun hc_91 => ?_) (fun hc_91 => ?_)
              ·
                refine X_aload_n 99 hO dX13_walk_98 rfl rfl ?_
                refine ga_69 102 hO hR dX13_walk_99 rfl ?_
                refine X_iload_n 103 hO dX13_walk_102 rfl rfl ?_
                refine ma_ld (L := 640) (c := 217) 104 hO hR rfl rfl rfl dX13_walk_103 rfl (by omega) (by omega) (fun hi_103 => ?_)
                try simp (disch := decide) only [up_k, up_s, step_at, pool_at, poolN_at, opens_at, closes_at, fl_at, del_at, ins_at, rep_at, psh_at, trn_at, tak_at, pEn_at, cpQ_at, cpP_at, cpT_at, ti_at, th_at, rec_at, saves_at] at hi_103 ⊢
                refine X_istore_n 105 hO dX13_walk_104 rfl rfl ?_
                refine X_iinc 108 hO dX13_walk_105 rfl rfl ?_
                refine X_goto hO dX13_walk_108 (tgt := 48) rfl ?_
                (first
                  | (exfalso; omega)
                  | exact X_wk (by simp only [lwk, lset, true_or, or_true, and_self]) (ih f _ b (n0 + 1) (by omega) ⟨hp1 a (by omega) ha.2, by omega⟩ hb (by omega) (by omega) hj hR)
                  | exact X_wk (by simp only [lwk, lset, true_or, or_true, and_self]) (ih f a _ (n0 + 1) (by omega) ha ⟨hp1 b (by omega) hb.2, by omega⟩ (by omega) (by omega) hj hR))
              ·
                refine X_iload_n 95 hO dX13_walk_94 rfl rfl ?_
                refine X_goto hO dX13_walk_95 (tgt := 104) rfl ?_
                refine X_istore_n 105 hO dX13_walk_104 rfl rfl ?_
                refine X_iinc 108 hO dX13_walk_105 rfl rfl ?_
                refine X_goto hO dX13_walk_108 (tgt := 48) rfl ?_
                (first
                  | (exfalso; omega)
                  | exact X_wk (by simp only [lwk, lset, true_or, or_true, and_self]) (ih f _ b (n0 + 1) (by omega) ⟨hp1 a (by omega) ha.2, by omega⟩ hb (by omega) (by omega) hj hR)
                  | exact X_wk (by simp only [lwk, lset, true_or, or_true, and_self]) (ih f a _ (n0 + 1) (by omega) ha ⟨hp1 b (by omega) hb.2, by omega⟩ (by omega) (by omega) hj hR))
            ·
              refine X_aload_n 79 hO dX13_walk_78 rfl rfl ?_
              refine ga_69 82 hO hR dX13_walk_79 rfl ?_
              refine X_iload_n 83 hO dX13_walk_82 rfl rfl ?_
              refine ma_ld (L := 640) (c := 217) 84 hO hR rfl rfl rfl dX13_walk_83 rfl (by omega) (by omega) (fun hi_83 => ?_)
              try simp (disch := decide) only [up_k, up_s, step_at, pool_at, poolN_at, opens_at, closes_at, fl_at, del_at, ins_at, rep_at, psh_at, trn_at, tak_at, pEn_at, cpQ_at, cpP_at, cpT_at, ti_at, th_at, rec_at, saves_at] at hi_83 ⊢
              refine X_goto hO dX13_walk_84 (tgt := 88) rfl ?_
              refine X_istore_n 89 hO dX13_walk_88 rfl rfl ?_
              refine X_iload 91 hO dX13_walk_89 rfl rfl ?_
              refine X_if_eq 94 98 hO dX13_walk_91 rfl rfl (by omega) (fun hc_91 => ?_) (fun hc_91 => ?_)
              ·
                refine X_aload_n 99 hO dX13_walk_98 rfl rfl ?_
                refine ga_69 102 hO hR dX13_walk_99 rfl ?_
                refine X_iload_n 103 hO dX13_walk_102 rfl rfl ?_
                refine ma_ld (L := 640) (c := 217) 104 hO hR rfl rfl rfl dX13_walk_103 rfl (by omega) (by omega) (fun hi_103 => ?_)
                try simp (disch := decide) only [up_k, up_s, step_at, pool_at, poolN_at, opens_at, closes_at, fl_at, del_at, ins_at, rep_at, psh_at, trn_at, tak_at, pEn_at, cpQ_at, cpP_at, cpT_at, ti_at, th_at, rec_at, saves_at] at hi_103 ⊢
                refine X_istore_n 105 hO dX13_walk_104 rfl rfl ?_
                refine X_iinc 108 hO dX13_walk_105 rfl rfl ?_
                refine X_goto hO dX13_walk_108 (tgt := 48) rfl ?_
                (first
                  | (exfalso; omega)
                  | exact X_wk (by simp only [lwk, lset, true_or, or_true, and_self]) (ih f _ b (n0 + 1) (by omega) ⟨hp1 a (by omega) ha.2, by omega⟩ hb (by omega) (by omega) hj hR)
                  | exact X_wk (by simp only [lwk, lset, true_or, or_true, and_self]) (ih f a _ (n0 + 1) (by omega) ha ⟨hp1 b (by omega) hb.2, by omega⟩ (by omega) (by omega) hj hR))
              ·
                refine X_iload_n 95 hO dX13_walk_94 rfl rfl ?_
                refine X_goto hO dX13_walk_95 (tgt := 104) rfl ?_
                refine X_istore_n 105 hO dX13_walk_104 rfl rfl ?_
                refine X_iinc 108 hO dX13_walk_105 rfl rfl ?_
                refine X_goto hO dX13_walk_108 (tgt := 48) rfl ?_
                (first
                  | (exfalso; omega)
                  | exact X_wk (by simp only [lwk, lset, true_or, or_true, and_self]) (ih f _ b (n0 + 1) (by omega) ⟨hp1 a (by omega) ha.2, by omega⟩ hb (by omega) (by omega) hj hR)
                  | exact X_wk (by simp only [lwk, lset, true_or, or_true, and_self]) (ih f a _ (n0 + 1) (by omega) ha ⟨hp1 b (by omega) hb.2, by omega⟩ (by omega) (by omega) hj hR))
    have hr1 := pln_rng hp _ (w 126 μ.1 0) (Nat.le_refl _) (by omega) (by omega)
    have hr2 := pln_rng hp _ c (Nat.le_refl _) (by omega) (by omega)
    exact LP48 _ (m_pln w (w 126 μ.1 0) + m_pln w c).toNat (w 126 μ.1 0) c 0 (Nat.lt_succ_self _) (by omega) (by omega) (by omega) (by omega) rfl hR
  refine X_aload_n 1 hO dX13_walk_0 rfl rfl ?_
  refine X_aload_n 2 hO dX13_walk_1 rfl rfl ?_
  refine X_iload_n 3 hO dX13_walk_2 rfl rfl ?_
  refine XM_callVi 6 hO hD hR lX13_400 [_] rfl dX13_walk_3 rfl (c_isNode _ _ _ _ _ _ _ (by omega) hR0 hS hP hM) (by decide) (by simp only [List.map_cons, List.map_nil, rv_cat]; exact Nat.le_of_ble_eq_true rfl) (fun r_3 w_3 hr_3 hp_3 hR => ?_)
  obtain ⟨e1_3, e2_3⟩ := hp_3
  subst e1_3
  subst e2_3
  refine X_if_ne 9 13 hO dX13_walk_6 rfl rfl (by omega) (fun hc_6 => ?_) (fun hc_6 => ?_)
  ·
    try simp only [bi_0, bi_ne, ne_eq, Classical.not_not] at hc_6
    refine X_aload_n 14 hO dX13_walk_13 rfl rfl ?_
    refine ga_280 17 hO hR dX13_walk_14 rfl (fun hi_14 => ?_)
    try simp (disch := decide) only [up_k, up_s, step_at, pool_at, poolN_at, opens_at, closes_at, fl_at, del_at, ins_at, rep_at, psh_at, trn_at, tak_at, pEn_at, cpQ_at, cpP_at, cpT_at, ti_at, th_at, rec_at, saves_at] at hi_14 ⊢
    refine X_iconst 18 hO dX13_walk_17 rfl ?_
    refine X_icmp_ne 21 25 hO dX13_walk_18 rfl rfl (by omega) (by omega) (fun hc_18 => ?_) (fun hc_18 => ?_)
    ·
      refine X_iconst 26 hO dX13_walk_25 rfl ?_
      refine pa_171 29 hO hR dX13_walk_26 rfl (by omega) (fun hR => ?_)
      refine X_aload_n 30 hO dX13_walk_29 rfl rfl ?_
      refine ga_171 33 hO hR dX13_walk_30 rfl (fun hi_30 => ?_)
      try simp (disch := decide) only [up_k, up_s, step_at, pool_at, poolN_at, opens_at, closes_at, fl_at, del_at, ins_at, rep_at, psh_at, trn_at, tak_at, pEn_at, cpQ_at, cpP_at, cpT_at, ti_at, th_at, rec_at, saves_at] at hi_30 ⊢
      refine X_if_le 36 38 hO dX13_walk_33 rfl rfl (by omega) (fun hc_33 => ?_) (fun hc_33 => ?_)
      ·
        first | (exfalso; omega) | exact JP38 (by omega) hR
      ·
        refine X_iconst 37 hO dX13_walk_36 rfl ?_
        exact XM_iret hO hF hR rfl (by first | exact Or.inl rfl | exact Or.inr ⟨rfl, bi_01 _⟩ | exact Or.inr ⟨rfl, by omega⟩) dX13_walk_37 (by first | assumption | omega | exact I_rng _) (by first | (exfalso; omega) | (unfold o_walk m_th; (repeat (first | rw [if_pos (by omega)] | rw [if_neg (by omega)])); exact ⟨rfl, rfl⟩))
    ·
      refine X_iconst 22 hO dX13_walk_21 rfl ?_
      refine X_goto hO dX13_walk_22 (tgt := 26) rfl ?_
      refine pa_171 29 hO hR dX13_walk_26 rfl (by omega) (fun hR => ?_)
      refine X_aload_n 30 hO dX13_walk_29 rfl rfl ?_
      refine ga_171 33 hO hR dX13_walk_30 rfl (fun hi_30 => ?_)
      try simp (disch := decide) only [up_k, up_s, step_at, pool_at, poolN_at, opens_at, closes_at, fl_at, del_at, ins_at, rep_at, psh_at, trn_at, tak_at, pEn_at, cpQ_at, cpP_at, cpT_at, ti_at, th_at, rec_at, saves_at] at hi_30 ⊢
      refine X_if_le 36 38 hO dX13_walk_33 rfl rfl (by omega) (fun hc_33 => ?_) (fun hc_33 => ?_)
      ·
        first | (exfalso; omega) | exact JP38 (by omega) hR
      ·
        refine X_iconst 37 hO dX13_walk_36 rfl ?_
        exact XM_iret hO hF hR rfl (by first | exact Or.inl rfl | exact Or.inr ⟨rfl, bi_01 _⟩ | exact Or.inr ⟨rfl, by omega⟩) dX13_walk_37 (by first | assumption | omega | exact I_rng _) (by first | (exfalso; omega) | (unfold o_walk m_th; (repeat (first | rw [if_pos (by omega)] | rw [if_neg (by omega)])); exact ⟨rfl, rfl⟩))
  ·
    try simp only [bi_0, bi_ne, ne_eq, Classical.not_not] at hc_6
    refine X_iconst 10 hO dX13_walk_9 rfl ?_
    refine X_goto hO dX13_walk_10 (tgt := 26) rfl ?_
    refine pa_171 29 hO hR dX13_walk_26 rfl (by omega) (fun hR => ?_)
    refine X_aload_n 30 hO dX13_walk_29 rfl rfl ?_
    refine ga_171 33 hO hR dX13_walk_30 rfl (fun hi_30 => ?_)
    try simp (disch := decide) only [up_k, up_s, step_at, pool_at, poolN_at, opens_at, closes_at, fl_at, del_at, ins_at, rep_at, psh_at, trn_at, tak_at, pEn_at, cpQ_at, cpP_at, cpT_at, ti_at, th_at, rec_at, saves_at] at hi_30 ⊢
    refine X_if_le 36 38 hO dX13_walk_33 rfl rfl (by omega) (fun hc_33 => ?_) (fun hc_33 => ?_)
    ·
      first | (exfalso; omega) | exact JP38 (by omega) hR
    ·
      refine X_iconst 37 hO dX13_walk_36 rfl ?_
      exact XM_iret hO hF hR rfl (by first | exact Or.inl rfl | exact Or.inr ⟨rfl, bi_01 _⟩ | exact Or.inr ⟨rfl, by omega⟩) dX13_walk_37 (by first | assumption | omega | exact I_rng _) (by first | (exfalso; omega) | (unfold o_walk m_th; (repeat (first | rw [if_pos (by omega)] | rw [if_neg (by omega)])); exact ⟨rfl, rfl⟩))
theorem szL_nn {m : Int} {b : Mm} : ∀ {p : Int} {ps : List Int}, CHL m b p ps → 0 ≤ szL b ps
  | _, [], _ => Int.le_refl _
  | p, x :: xs, h => by
    have h1 := szL_nn h.2.2.2.2.2
    have h2 := h.2.2.1
    simp only [szL]; omega
def o_stepsOf (μ : MU) (PL : Int → List Int) (c : Int) (w : Mm) : Int × Mm := if isN μ c w then (szL w (PL c), m_ti μ (isN μ c w) w) else (0, m_ti μ (isN μ c w) w)
theorem dX13_stepsOf_0 : decode cX13_stepsOf 0 = .ok (.iconst 0, 1) := by decide +kernel
theorem dX13_stepsOf_1 : decode cX13_stepsOf 1 = .ok (.istore_n 2, 1) := by decide +kernel
theorem dX13_stepsOf_2 : decode cX13_stepsOf 2 = .ok (.aload_n 0, 1) := by decide +kernel
theorem dX13_stepsOf_3 : decode cX13_stepsOf 3 = .ok (.iload_n 1, 1) := by decide +kernel
theorem dX13_stepsOf_4 : decode cX13_stepsOf 4 = .ok (.invokevirtual 442, 3) := by decide +kernel
theorem dX13_stepsOf_7 : decode cX13_stepsOf 7 = .ok (.ifCond .eq 12, 3) := by decide +kernel
theorem dX13_stepsOf_10 : decode cX13_stepsOf 10 = .ok (.aload_n 0, 1) := by decide +kernel
theorem dX13_stepsOf_11 : decode cX13_stepsOf 11 = .ok (.getfield 81, 3) := by decide +kernel
theorem dX13_stepsOf_14 : decode cX13_stepsOf 14 = .ok (.iload_n 1, 1) := by decide +kernel
theorem dX13_stepsOf_15 : decode cX13_stepsOf 15 = .ok (.iaload, 1) := by decide +kernel
theorem dX13_stepsOf_16 : decode cX13_stepsOf 16 = .ok (.goto 4, 3) := by decide +kernel
theorem dX13_stepsOf_19 : decode cX13_stepsOf 19 = .ok (.iconst (-1), 1) := by decide +kernel
theorem dX13_stepsOf_20 : decode cX13_stepsOf 20 = .ok (.istore_n 3, 1) := by decide +kernel
theorem dX13_stepsOf_21 : decode cX13_stepsOf 21 = .ok (.iload_n 3, 1) := by decide +kernel
theorem dX13_stepsOf_22 : decode cX13_stepsOf 22 = .ok (.iconst (-1), 1) := by decide +kernel
theorem dX13_stepsOf_23 : decode cX13_stepsOf 23 = .ok (.if_icmp .eq 22, 3) := by decide +kernel
theorem dX13_stepsOf_26 : decode cX13_stepsOf 26 = .ok (.iload_n 2, 1) := by decide +kernel
theorem dX13_stepsOf_27 : decode cX13_stepsOf 27 = .ok (.aload_n 0, 1) := by decide +kernel
theorem dX13_stepsOf_28 : decode cX13_stepsOf 28 = .ok (.getfield 78, 3) := by decide +kernel
theorem dX13_stepsOf_31 : decode cX13_stepsOf 31 = .ok (.iload_n 3, 1) := by decide +kernel
theorem dX13_stepsOf_32 : decode cX13_stepsOf 32 = .ok (.iaload, 1) := by decide +kernel
theorem dX13_stepsOf_33 : decode cX13_stepsOf 33 = .ok (.iadd, 1) := by decide +kernel
theorem dX13_stepsOf_34 : decode cX13_stepsOf 34 = .ok (.istore_n 2, 1) := by decide +kernel
theorem dX13_stepsOf_35 : decode cX13_stepsOf 35 = .ok (.aload_n 0, 1) := by decide +kernel
theorem dX13_stepsOf_36 : decode cX13_stepsOf 36 = .ok (.getfield 87, 3) := by decide +kernel
theorem dX13_stepsOf_39 : decode cX13_stepsOf 39 = .ok (.iload_n 3, 1) := by decide +kernel
theorem dX13_stepsOf_40 : decode cX13_stepsOf 40 = .ok (.iaload, 1) := by decide +kernel
theorem dX13_stepsOf_41 : decode cX13_stepsOf 41 = .ok (.istore_n 3, 1) := by decide +kernel
theorem dX13_stepsOf_42 : decode cX13_stepsOf 42 = .ok (.goto (-21), 3) := by decide +kernel
theorem dX13_stepsOf_45 : decode cX13_stepsOf 45 = .ok (.iload_n 2, 1) := by decide +kernel
theorem dX13_stepsOf_46 : decode cX13_stepsOf 46 = .ok (.ireturn, 1) := by decide +kernel
set_option maxRecDepth 4000 in
theorem c_stepsOf (γ : LC) (μ : MU) (w : Mm) (PL : Int → List Int) (c : Int) (S P M : Int) (hc : IR c) (hRA : RPA μ PL w) (hEx : bEx μ w) (hP0 : PL 0 = []) (hSz : ∀ k, szL w (PL k) ≤ 2000000) (hR0 : RB μ S P M w) (hS : S ≤ 28900) (hP : P ≤ 500000) (hM : M ≤ 590) : CMi γ μ 3 mX13_stepsOf [.int (I c)] w (fun r w' => r = (o_stepsOf μ PL c w).1 ∧ w' = (o_stepsOf μ PL c w).2) := by
  refine CMi_of rfl (by simp [rv_cat, Value.category]) rfl ?_
  rintro κ hO hF rfl hR
  have hD := hF.dp
  show X κ 0 0 w 0 [some (rv μ.1), some (.int (I c)), none, none] []
  have hTB := hR0.2.1.2.2.2.1
  have hp := hTB.pr
  have hp1 : ∀ j, 1 ≤ j → j < w 124 μ.1 0 → 0 ≤ w 217 0 j := fun j a b => (hTB.2.2.2.2.2.2 j (by omega) b).2.2.1 a
  have hch : isN μ c w → CHL 640 w (w 221 0 c) (PL c) := fun h => by
    by_cases e : c = 0
    · rw [e, hP0]; exact hEx.2.2.2
    · exact ((hRA c (by omega) (by omega) h.2).ch (pln_one hp hp1 (by omega) e)).1
  have hL := hR0.1
  obtain ⟨f1, f2, f3, f4, f5⟩ := hR0.1.f
  obtain ⟨t1, t2, t3, t4, t5, t6, t7⟩ := hR0.2.1.2.2.2.1
  refine X_iconst 1 hO dX13_stepsOf_0 rfl ?_
  refine X_istore_n 2 hO dX13_stepsOf_1 rfl rfl ?_
  refine X_aload_n 3 hO dX13_stepsOf_2 rfl rfl ?_
  refine X_iload_n 4 hO dX13_stepsOf_3 rfl rfl ?_
  refine XM_callVi 7 hO hD hR lX13_442 [_] rfl dX13_stepsOf_4 rfl (c_hasNode _ _ _ _ _ _ _ (by omega) hR0 hS hP hM) (by decide) (by simp only [List.map_cons, List.map_nil, rv_cat]; exact Nat.le_of_ble_eq_true rfl) (fun r_4 w_4 hr_4 hp_4 hR => ?_)
  obtain ⟨e1_4, e2_4⟩ := hp_4
  subst e1_4
  subst e2_4
  have JP20 : ∀ (p : Int) (L : List Int), (CHL 640 w p L) → (szL w L = if isN μ c w then szL w (PL c) else 0) → (szL w L ≤ 2000000) → (RM (m_ti μ (isN μ c w) w) μ) → X κ 0 0 (m_ti μ (isN μ c w) w) 20 [some (rv μ.1), some (.int (I c)), some (.int (I 0)), none] [.int (I p)] := by
    intro p L hCL hLt hLs hR
    refine X_istore_n 21 hO dX13_stepsOf_20 rfl rfl ?_
    have LP21 : ∀ (n : Nat) (ps : List Int) (p n0 : Int), ps.length < n → (CHL 640 w p ps) → (n0 + szL w ps = szL w L ∧ 0 ≤ n0) → (0 ≤ szL w ps) → RM (m_ti μ (isN μ c w) w) μ → X κ 0 0 (m_ti μ (isN μ c w) w) 21 [some (rv μ.1), some (.int (I c)), some (.int (I n0)), some (.int (I p))] [] := by
      intro n
      induction n with
      | zero => intro ps p n0 hm; exact absurd hm (Nat.not_lt_zero _)
      | succ n ih =>
        intro ps p n0 hm hCp hn hnn hR
        have hpr : -1 ≤ p ∧ p < 640 := by
          cases ps with
          | nil => have h1 : p = -1 := hCp; omega
          | cons q qs => have h1 := hCp.1; have h2 := hCp.2.1; omega
        refine X_iload_n 22 hO dX13_stepsOf_21 rfl rfl ?_
        refine X_iconst 23 hO dX13_stepsOf_22 rfl ?_
        refine X_icmp_eq 26 45 hO dX13_stepsOf_23 rfl rfl (by omega) (by omega) (fun hc_23 => ?_) (fun hc_23 => ?_)
        ·
          have hps : ps = [] := by
            cases ps with
            | nil => rfl
            | cons q qs => exfalso; have := hCp.1; have := hCp.2.1; omega
          subst hps
          have hz0 : szL w [] = 0 := rfl
          refine X_iload_n 46 hO dX13_stepsOf_45 rfl rfl ?_
          exact XM_iret hO hF hR rfl (by first | exact Or.inl rfl | exact Or.inr ⟨rfl, bi_01 _⟩ | exact Or.inr ⟨rfl, by omega⟩) dX13_stepsOf_46 (by first | assumption | omega | exact I_rng _) (by unfold o_stepsOf; by_cases hcc : isN μ c w; (rw [if_pos hcc] at hLt ⊢; exact ⟨by dsimp only; omega, rfl⟩); (rw [if_neg hcc] at hLt ⊢; exact ⟨by dsimp only; omega, rfl⟩))
        ·
          cases ps with
          | nil => exact absurd hCp (by assumption)
          | cons q qs =>
          obtain ⟨hC1, hC2, hC3, hC4, hC5, hC6⟩ := hCp
          subst hC1
          have hqn := szL_nn hC6
          have hq1 : szL w (p :: qs) = w 220 0 p + szL w qs := rfl
          refine X_iload_n 27 hO dX13_stepsOf_26 rfl rfl ?_
          refine X_aload_n 28 hO dX13_stepsOf_27 rfl rfl ?_
          refine ga_78 31 hO hR dX13_stepsOf_28 rfl ?_
          refine X_iload_n 32 hO dX13_stepsOf_31 rfl rfl ?_
          refine ma_ld (L := 640) (c := 220) 33 hO hR rfl rfl rfl dX13_stepsOf_32 rfl (by omega) (by omega) (fun hi_32 => ?_)
          try simp (disch := decide) only [up_k, up_s, step_at, pool_at, poolN_at, opens_at, closes_at, fl_at, del_at, ins_at, rep_at, psh_at, trn_at, tak_at, pEn_at, cpQ_at, cpP_at, cpT_at, ti_at, th_at, rec_at, saves_at] at hi_32 ⊢
          refine X_iadd 34 hO dX13_stepsOf_33 rfl ?_
          refine X_istore_n 35 hO dX13_stepsOf_34 rfl rfl ?_
          refine X_aload_n 36 hO dX13_stepsOf_35 rfl rfl ?_
          refine ga_87 39 hO hR dX13_stepsOf_36 rfl ?_
          refine X_iload_n 40 hO dX13_stepsOf_39 rfl rfl ?_
          refine ma_ld (L := 640) (c := 223) 41 hO hR rfl rfl rfl dX13_stepsOf_40 rfl (by omega) (by omega) (fun hi_40 => ?_)
          try simp (disch := decide) only [up_k, up_s, step_at, pool_at, poolN_at, opens_at, closes_at, fl_at, del_at, ins_at, rep_at, psh_at, trn_at, tak_at, pEn_at, cpQ_at, cpP_at, cpT_at, ti_at, th_at, rec_at, saves_at] at hi_40 ⊢
          refine X_istore_n 42 hO dX13_stepsOf_41 rfl rfl ?_
          refine X_goto hO dX13_stepsOf_42 (tgt := 21) rfl ?_
          exact ih qs _ _ (by simp only [List.length_cons] at hm; omega) hC6 (by omega) hqn hR
    exact LP21 _ L p 0 (Nat.lt_succ_self _) hCL (by omega) (szL_nn hCL) hR
  refine X_if_eq 10 19 hO dX13_stepsOf_7 rfl rfl (by omega) (fun hc_7 => ?_) (fun hc_7 => ?_)
  ·
    try simp only [bi_0, bi_ne, ne_eq, Classical.not_not] at hc_7
    refine X_iconst 20 hO dX13_stepsOf_19 rfl ?_
    (first | exact JP20 _ [] rfl (by rw [if_neg (by omega)]; rfl) (by show (0 : Int) ≤ 2000000; decide) hR | exact JP20 _ (PL c) (hch (by omega)) (by rw [if_pos (by omega)]) (hSz c) hR)
  ·
    try simp only [bi_0, bi_ne, ne_eq, Classical.not_not] at hc_7
    refine X_aload_n 11 hO dX13_stepsOf_10 rfl rfl ?_
    refine ga_81 14 hO hR dX13_stepsOf_11 rfl ?_
    refine X_iload_n 15 hO dX13_stepsOf_14 rfl rfl ?_
    refine ma_ld (L := 640) (c := 221) 16 hO hR rfl rfl rfl dX13_stepsOf_15 rfl (by omega) (by omega) (fun hi_15 => ?_)
    try simp (disch := decide) only [up_k, up_s, step_at, pool_at, poolN_at, opens_at, closes_at, fl_at, del_at, ins_at, rep_at, psh_at, trn_at, tak_at, pEn_at, cpQ_at, cpP_at, cpT_at, ti_at, th_at, rec_at, saves_at] at hi_15 ⊢
    refine X_goto hO dX13_stepsOf_16 (tgt := 20) rfl ?_
    (first | exact JP20 _ [] rfl (by rw [if_neg (by omega)]; rfl) (by show (0 : Int) ≤ 2000000; decide) hR | exact JP20 _ (PL c) (hch (by omega)) (by rw [if_pos (by omega)]) (hSz c) hR)
