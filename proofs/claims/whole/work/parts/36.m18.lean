def m_rnW (μ : MU) (w : Mm) : Mm := m_saves μ 3 (m_saves μ 2 (m_th μ 0 w))
def m_grR (μ : MU) (m k : Int) (w : Mm) : Int × Int × Int × Mm := (m_grun μ 5000 1 0 0 0 (m_gst μ m k w)).getD (0, 0, 0, w)
def m_rn2 (μ : MU) (m k had hadAt told : Int) (e : Int × Mm) : Int × Mm := if e.1 = 0 then (0, up (up (up e.2 134 μ.1 0 had) 135 μ.1 0 hadAt) 139 μ.1 0 3) else (told, m_rec μ 15 m k (up e.2 129 μ.1 0 (-1)))
def m_rn1 (μ : MU) (m k had hadAt : Int) (q : Int × Mm) : Int × Mm := m_rn2 μ m k had hadAt q.1 (m_ends μ 0 q.2)
theorem rnW_ok {μ : MU} {S P M m k : Int} {w : Mm} (h : RB μ S P M w) (hm : 0 ≤ m ∧ m ≤ 3) (hk : 1 ≤ k ∧ k ≤ 10) : LB μ S P (m_saves μ 2 (m_th μ 0 w)) ∧ GI μ S P M 1 0 (m_gst μ m k (m_rnW μ w)) ∧ m_grun μ 5000 1 0 0 0 (m_gst μ m k (m_rnW μ w)) = some (m_grR μ m k (m_rnW μ w)) ∧ GE μ S P M (m_rnW μ w) (m_grR μ m k (m_rnW μ w)) := by
  obtain ⟨p1, p2, p3⟩ := cal_pre (h.th (k := 0))
  have q1 : LB μ S P (m_rnW μ w) := p1.saves (by decide)
  have q2 : RK μ S P M (m_rnW μ w) := p2.saves p1 (by decide)
  have hc := (q2.2.2.2.2.2.2 m (by omega) (by omega)).1
  have hG : GI μ S P M 1 0 (m_gst μ m k (m_rnW μ w)) := by
    refine ⟨(((((q1.up_o (by decide)).up_o (by decide)).up_o (by decide)).up_o (by decide)).up_o (by decide)).mono (by omega) (by omega), (((((q2.up_o (by decide)).up_o (by decide)).up_o (by decide)).up_o (by decide)).up_o (by decide)).mono (by omega) (by omega), fun i a b => ?_, by omega⟩
    have e : i = 1 := by omega
    subst e
    unfold m_gst
    simp (disch := decide) only [up_k, up_s]
    omega
  have hF : GF μ (m_rnW μ w) (m_gst μ m k (m_rnW μ w)) := by
    have h0 : GF μ (m_rnW μ w) (m_rnW μ w) := ⟨fun _ _ _ _ => rfl, fun _ _ _ _ _ _ => rfl, ⟨rfl, rfl⟩, AP.r, by
      unfold m_rnW; rw [saves_214.1, saves_at (by decide)]; exact Int.le_refl _, by
      unfold m_rnW; rw [saves_214.2, saves_at (by decide)]; exact Int.le_refl _⟩
    exact ((((h0.u (by decide)).u (by decide)).u (by decide)).u (by decide)).u (by decide)
  obtain ⟨R, h1, h2⟩ := grun_ok 5000 1 0 0 0 _ hG hF (by decide) (by decide) (by decide) (by
    unfold gph m_gst
    rw [if_pos rfl]
    show (0 + (up (up (up (up (up (m_rnW μ w) 237 0 1 m) 238 0 1 k) 239 0 1 0) 134 μ.1 0 0) 135 μ.1 0 (-1) 238 0 1 + 1)) + 13 * (24 - 0) + 1 < 5000
    simp (disch := decide) only [up_k, up_s]
    omega)
  refine ⟨p1, hG, ?_, ?_⟩
  · unfold m_grR; rw [h1]; rfl
  · unfold m_grR; rw [h1]; exact h2
theorem gen_ok {μ : MU} {S P M : Int} {w0 : Mm} {R : Int × Int × Int × Mm} (h : GE μ S P M w0 R) (hz : w0 122 μ.1 0 ≤ w0 120 μ.1 0) : LB μ (S + 48) (P + 480) (m_gen μ R).2 ∧ RK μ (S + 48) (P + 480) M (m_gen μ R).2 ∧ (m_gen μ R).2 122 μ.1 0 ≤ (m_gen μ R).2 120 μ.1 0 ∧ (∀ c a i, gfK c = false → (m_gen μ R).2 c a i = w0 c a i) ∧ (0 ≤ (m_gen μ R).1 ∧ (m_gen μ R).1 ≤ 24) ∧ w0 120 μ.1 0 ≤ (m_gen μ R).2 120 μ.1 0 ∧ (∀ i, 0 ≤ i → i < w0 120 μ.1 0 → (m_gen μ R).2 212 0 i = w0 212 0 i) ∧ ((m_gen μ R).2 214 0 2 = w0 214 0 2 ∧ (m_gen μ R).2 215 0 2 = w0 215 0 2 ∧ (m_gen μ R).2 201 0 2 = w0 201 0 2) := by
  obtain ⟨⟨l, h1, h2, h3, h4⟩, ⟨g1, g2, g3, g4, g5, g6⟩, ht, hr⟩ := h
  unfold m_gen
  split
  · dsimp only
    refine ⟨LB.rest h1 (h2.2.1.mono (by omega) (by omega)), (h2.rest (Or.inr rfl)).mono (by omega) (by omega), ?_, fun c a i hc => ?_, ht, ?_, fun i a b => ?_, ?_, ?_, ?_⟩
    · rw [rest_120.1, rest_at (by decide), g1 _ _ _ (by decide)]; omega
    · have hc' := of_decide_eq_false hc
      show m_rest μ 3 0 R.2.2.2 c a i = _
      rw [rest_at (by omega)]; exact g1 c a i hc
    · rw [rest_120.1]; exact g5
    · show m_rest μ 3 0 R.2.2.2 212 0 i = _
      rw [rest_at (by decide)]; exact g4.2.2.1 i a b
    · show m_rest μ 3 0 R.2.2.2 214 0 2 = _
      rw [rest_at (by decide)]; exact g3.1
    · show m_rest μ 3 0 R.2.2.2 215 0 2 = _
      rw [rest_at (by decide)]; exact g3.2
    · show m_rest μ 3 0 R.2.2.2 201 0 2 = _
      rw [rest_201, if_neg (by decide)]; exact g2 201 2 (by decide) (by decide) (by decide) (by decide)
  · refine ⟨h1.mono (by omega) (by omega), h2.mono (by omega) (by omega), ?_, g1, by omega, g4.1, g4.2.2.1, g3.1, g3.2, g2 201 2 (by decide) (by decide) (by decide) (by decide)⟩
    have := g4.1
    show R.2.2.2 122 μ.1 0 ≤ R.2.2.2 120 μ.1 0
    rw [g1 _ _ _ (by decide)]; omega
def o_run (μ : MU) (m k : Int) (w : Mm) : Int × Mm := if 0 ≤ m ∧ m ≤ 3 then (if 1 ≤ k ∧ k ≤ 10 then (if m_full μ w then (0, m_th μ 3 w) else m_rn1 μ m k (w 134 μ.1 0) (w 135 μ.1 0) (m_gen μ (m_grR μ m k (m_rnW μ w)))) else (0, m_th μ 2 w)) else (0, m_th μ 1 w)
theorem dX13_run_0 : decode cX13_run 0 = .ok (.aload_n 0, 1) := by decide +kernel
theorem dX13_run_1 : decode cX13_run 1 = .ok (.iload_n 1, 1) := by decide +kernel
theorem dX13_run_2 : decode cX13_run 2 = .ok (.iconst 0, 1) := by decide +kernel
theorem dX13_run_3 : decode cX13_run 3 = .ok (.iconst 3, 1) := by decide +kernel
theorem dX13_run_4 : decode cX13_run 4 = .ok (.invokestatic 174, 3) := by decide +kernel
theorem dX13_run_7 : decode cX13_run 7 = .ok (.ifCond .ne 7, 3) := by decide +kernel
theorem dX13_run_10 : decode cX13_run 10 = .ok (.iconst 1, 1) := by decide +kernel
theorem dX13_run_11 : decode cX13_run 11 = .ok (.goto 29, 3) := by decide +kernel
theorem dX13_run_14 : decode cX13_run 14 = .ok (.iload_n 2, 1) := by decide +kernel
theorem dX13_run_15 : decode cX13_run 15 = .ok (.iconst 1, 1) := by decide +kernel
theorem dX13_run_16 : decode cX13_run 16 = .ok (.bipush 10, 2) := by decide +kernel
theorem dX13_run_18 : decode cX13_run 18 = .ok (.invokestatic 174, 3) := by decide +kernel
theorem dX13_run_21 : decode cX13_run 21 = .ok (.ifCond .ne 7, 3) := by decide +kernel
theorem dX13_run_24 : decode cX13_run 24 = .ok (.iconst 2, 1) := by decide +kernel
theorem dX13_run_25 : decode cX13_run 25 = .ok (.goto 15, 3) := by decide +kernel
theorem dX13_run_28 : decode cX13_run 28 = .ok (.aload_n 0, 1) := by decide +kernel
theorem dX13_run_29 : decode cX13_run 29 = .ok (.invokevirtual 346, 3) := by decide +kernel
theorem dX13_run_32 : decode cX13_run 32 = .ok (.ifCond .eq 7, 3) := by decide +kernel
theorem dX13_run_35 : decode cX13_run 35 = .ok (.iconst 3, 1) := by decide +kernel
theorem dX13_run_36 : decode cX13_run 36 = .ok (.goto 4, 3) := by decide +kernel
theorem dX13_run_39 : decode cX13_run 39 = .ok (.iconst 0, 1) := by decide +kernel
theorem dX13_run_40 : decode cX13_run 40 = .ok (.putfield 171, 3) := by decide +kernel
theorem dX13_run_43 : decode cX13_run 43 = .ok (.aload_n 0, 1) := by decide +kernel
theorem dX13_run_44 : decode cX13_run 44 = .ok (.getfield 171, 3) := by decide +kernel
theorem dX13_run_47 : decode cX13_run 47 = .ok (.ifCond .le 5, 3) := by decide +kernel
theorem dX13_run_50 : decode cX13_run 50 = .ok (.iconst 0, 1) := by decide +kernel
theorem dX13_run_51 : decode cX13_run 51 = .ok (.ireturn, 1) := by decide +kernel
theorem dX13_run_52 : decode cX13_run 52 = .ok (.aload_n 0, 1) := by decide +kernel
theorem dX13_run_53 : decode cX13_run 53 = .ok (.getfield 382, 3) := by decide +kernel
theorem dX13_run_56 : decode cX13_run 56 = .ok (.istore_n 3, 1) := by decide +kernel
theorem dX13_run_57 : decode cX13_run 57 = .ok (.aload_n 0, 1) := by decide +kernel
theorem dX13_run_58 : decode cX13_run 58 = .ok (.getfield 147, 3) := by decide +kernel
theorem dX13_run_61 : decode cX13_run 61 = .ok (.istore 4, 2) := by decide +kernel
theorem dX13_run_63 : decode cX13_run 63 = .ok (.aload_n 0, 1) := by decide +kernel
theorem dX13_run_64 : decode cX13_run 64 = .ok (.iconst 2, 1) := by decide +kernel
theorem dX13_run_65 : decode cX13_run 65 = .ok (.invokevirtual 343, 3) := by decide +kernel
theorem dX13_run_68 : decode cX13_run 68 = .ok (.aload_n 0, 1) := by decide +kernel
theorem dX13_run_69 : decode cX13_run 69 = .ok (.iconst 3, 1) := by decide +kernel
theorem dX13_run_70 : decode cX13_run 70 = .ok (.invokevirtual 343, 3) := by decide +kernel
theorem dX13_run_73 : decode cX13_run 73 = .ok (.aload_n 0, 1) := by decide +kernel
theorem dX13_run_74 : decode cX13_run 74 = .ok (.iload_n 1, 1) := by decide +kernel
theorem dX13_run_75 : decode cX13_run 75 = .ok (.iload_n 2, 1) := by decide +kernel
theorem dX13_run_76 : decode cX13_run 76 = .ok (.invokevirtual 388, 3) := by decide +kernel
theorem dX13_run_79 : decode cX13_run 79 = .ok (.istore 5, 2) := by decide +kernel
theorem dX13_run_81 : decode cX13_run 81 = .ok (.aload_n 0, 1) := by decide +kernel
theorem dX13_run_82 : decode cX13_run 82 = .ok (.iconst 0, 1) := by decide +kernel
theorem dX13_run_83 : decode cX13_run 83 = .ok (.invokevirtual 352, 3) := by decide +kernel
theorem dX13_run_86 : decode cX13_run 86 = .ok (.ifCond .ne 21, 3) := by decide +kernel
theorem dX13_run_89 : decode cX13_run 89 = .ok (.aload_n 0, 1) := by decide +kernel
theorem dX13_run_90 : decode cX13_run 90 = .ok (.iload_n 3, 1) := by decide +kernel
theorem dX13_run_91 : decode cX13_run 91 = .ok (.putfield 382, 3) := by decide +kernel
theorem dX13_run_94 : decode cX13_run 94 = .ok (.aload_n 0, 1) := by decide +kernel
theorem dX13_run_95 : decode cX13_run 95 = .ok (.iload 4, 2) := by decide +kernel
theorem dX13_run_97 : decode cX13_run 97 = .ok (.putfield 147, 3) := by decide +kernel
theorem dX13_run_100 : decode cX13_run 100 = .ok (.aload_n 0, 1) := by decide +kernel
theorem dX13_run_101 : decode cX13_run 101 = .ok (.iconst 3, 1) := by decide +kernel
theorem dX13_run_102 : decode cX13_run 102 = .ok (.putfield 171, 3) := by decide +kernel
theorem dX13_run_105 : decode cX13_run 105 = .ok (.iconst 0, 1) := by decide +kernel
theorem dX13_run_106 : decode cX13_run 106 = .ok (.ireturn, 1) := by decide +kernel
theorem dX13_run_107 : decode cX13_run 107 = .ok (.aload_n 0, 1) := by decide +kernel
theorem dX13_run_108 : decode cX13_run 108 = .ok (.iconst (-1), 1) := by decide +kernel
theorem dX13_run_109 : decode cX13_run 109 = .ok (.putfield 105, 3) := by decide +kernel
theorem dX13_run_112 : decode cX13_run 112 = .ok (.aload_n 0, 1) := by decide +kernel
theorem dX13_run_113 : decode cX13_run 113 = .ok (.bipush 15, 2) := by decide +kernel
theorem dX13_run_115 : decode cX13_run 115 = .ok (.iload_n 1, 1) := by decide +kernel
theorem dX13_run_116 : decode cX13_run 116 = .ok (.iload_n 2, 1) := by decide +kernel
theorem dX13_run_117 : decode cX13_run 117 = .ok (.invokevirtual 354, 3) := by decide +kernel
theorem dX13_run_120 : decode cX13_run 120 = .ok (.iload 5, 2) := by decide +kernel
theorem dX13_run_122 : decode cX13_run 122 = .ok (.ireturn, 1) := by decide +kernel
set_option maxRecDepth 4000 in
theorem c_run (γ : LC) (μ : MU) (w : Mm) (m k : Int) (S P M : Int) (hm3 : IR m) (hk : IR k) (hR0 : RB μ S P M w) (hS : S ≤ 28900) (hP : P ≤ 500000) (hM : M ≤ 590) : CMi γ μ 7 mX13_run [.int (I m), .int (I k)] w (fun r w' => r = (o_run μ m k w).1 ∧ w' = (o_run μ m k w).2) := by
  refine CMi_of rfl (by simp [rv_cat, Value.category]) rfl ?_
  rintro κ hO hF rfl hR
  have hD := hF.dp
  show X κ 0 0 w 0 [some (rv μ.1), some (.int (I m)), some (.int (I k)), none, none, none] []
  have hL := hR0.1
  obtain ⟨f1, f2, f3, f4, f5⟩ := hR0.1.f
  obtain ⟨t1, t2, t3, t4, t5, t6, t7⟩ := hR0.2.1.2.2.2.1
  have JP52 : ((0 ≤ m ∧ m ≤ 3) ∧ (1 ≤ k ∧ k ≤ 10)) → (¬ (w 133 μ.1 0 ≠ -1 ∧ w 236 0 4 = 16)) → (RM (m_th μ 0 w) μ) → X κ 0 0 (m_th μ 0 w) 52 [some (rv μ.1), some (.int (I m)), some (.int (I k)), none, none, none] [] := by
    intro  hc0 hfl hR
    obtain ⟨r1, r2, r3, r4⟩ := rnW_ok hR0 hc0.1 hc0.2
    have hz := hR0.2.2.1
    unfold bZ at hz
    have z0 : m_rnW μ w 122 μ.1 0 ≤ m_rnW μ w 120 μ.1 0 := by unfold m_rnW; rw [saves_at (by decide), saves_at (by decide), saves_at (by decide), saves_at (by decide), th_at (by decide), th_at (by decide)]; exact hz.2.2.1.1
    obtain ⟨g1, g2, g3, g4, g5, g6, g7, g8⟩ := gen_ok r4 z0
    obtain ⟨e1, e2, e3⟩ := ends_ok (g := 0) g1 g2 g3 (by decide) (by omega) (by omega)
    have e133 := e3 133 μ.1 0 (by decide)
    have e236 := e3 236 0 4 (by decide)
    rw [g4 _ _ _ (by decide)] at e133 e236
    have c133 : m_rnW μ w 133 μ.1 0 = w 133 μ.1 0 := by unfold m_rnW; rw [saves_at (by decide), saves_at (by decide), th_at (by decide)]
    have c236 : m_rnW μ w 236 0 4 = w 236 0 4 := by unfold m_rnW; rw [saves_at (by decide), saves_at (by decide), th_at (by decide)]
    have hcn := (hR0.2.1.2.2.2.2.2.2 4 (by decide) (by decide)).1
    have e21 : m_th μ 0 w 201 0 0 = w 201 0 0 := th_at (by decide)
    obtain ⟨b1, b2, b3, b4, b5⟩ := r1.f
    refine X_aload_n 53 hO dX13_run_52 rfl rfl ?_
    refine ga_382 56 hO hR dX13_run_53 rfl (fun hi_53 => ?_)
    try simp (disch := decide) only [up_k, up_s, step_at, pool_at, poolN_at, opens_at, closes_at, fl_at, del_at, ins_at, rep_at, psh_at, trn_at, tak_at, pEn_at, cpQ_at, cpP_at, cpT_at, ti_at, th_at, rec_at, saves_at] at hi_53 ⊢
    refine X_istore_n 57 hO dX13_run_56 rfl rfl ?_
    refine X_aload_n 58 hO dX13_run_57 rfl rfl ?_
    refine ga_147 61 hO hR dX13_run_58 rfl (fun hi_58 => ?_)
    try simp (disch := decide) only [up_k, up_s, step_at, pool_at, poolN_at, opens_at, closes_at, fl_at, del_at, ins_at, rep_at, psh_at, trn_at, tak_at, pEn_at, cpQ_at, cpP_at, cpT_at, ti_at, th_at, rec_at, saves_at] at hi_58 ⊢
    refine X_istore 63 hO dX13_run_61 rfl rfl ?_
    refine X_aload_n 64 hO dX13_run_63 rfl rfl ?_
    refine X_iconst 65 hO dX13_run_64 rfl ?_
    refine XM_callVv 68 hO hD hR lX13_343 [_] rfl dX13_run_65 rfl (c_saves _ _ _ _ (by omega) (by omega)) (by decide) (by simp only [List.map_cons, List.map_nil, rv_cat]; exact Nat.le_of_ble_eq_true rfl) (fun w_65 hp_65 hR => ?_)
    subst hp_65
    refine X_aload_n 69 hO dX13_run_68 rfl rfl ?_
    refine X_iconst 70 hO dX13_run_69 rfl ?_
    refine XM_callVv 73 hO hD hR lX13_343 [_] rfl dX13_run_70 rfl (c_saves _ _ _ _ (by omega) (by omega)) (by decide) (by simp only [List.map_cons, List.map_nil, rv_cat]; exact Nat.le_of_ble_eq_true rfl) (fun w_70 hp_70 hR => ?_)
    subst hp_70
    rw [show m_saves μ 3 (m_saves μ 2 (m_th μ 0 w)) = m_rnW μ w from rfl] at hR ⊢
    refine X_aload_n 74 hO dX13_run_73 rfl rfl ?_
    refine X_iload_n 75 hO dX13_run_74 rfl rfl ?_
    refine X_iload_n 76 hO dX13_run_75 rfl rfl ?_
    refine XM_callVi 79 hO hD hR lX13_388 [_, _] rfl dX13_run_76 rfl (c_goes _ _ _ _ _ S P M _ hc0.1 hc0.2 r2 r3 hS hP hM) (by decide) (by simp only [List.map_cons, List.map_nil, rv_cat]; exact Nat.le_of_ble_eq_true rfl) (fun r_76 w_76 hr_76 hp_76 hR => ?_)
    obtain ⟨e1_76, e2_76⟩ := hp_76
    subst e1_76
    subst e2_76
    refine X_istore 81 hO dX13_run_79 rfl rfl ?_
    refine X_aload_n 82 hO dX13_run_81 rfl rfl ?_
    refine X_iconst 83 hO dX13_run_82 rfl ?_
    refine XM_callVi 86 hO hD hR lX13_352 [_] rfl dX13_run_83 rfl (c_ends _ _ _ _ (S + 48) (P + 480) M (by decide) g3 g1 g2 (by omega) (by omega) (by omega)) (by decide) (by simp only [List.map_cons, List.map_nil, rv_cat]; exact Nat.le_of_ble_eq_true rfl) (fun r_83 w_83 hr_83 hp_83 hR => ?_)
    obtain ⟨e1_83, e2_83⟩ := hp_83
    subst e1_83
    subst e2_83
    refine X_if_ne 89 107 hO dX13_run_86 rfl rfl (by omega) (fun hc_86 => ?_) (fun hc_86 => ?_)
    ·
      try simp only [bi_0, bi_ne, ne_eq, Classical.not_not] at hc_86
      refine X_aload_n 108 hO dX13_run_107 rfl rfl ?_
      refine X_iconst 109 hO dX13_run_108 rfl ?_
      refine pa_105 112 hO hR dX13_run_109 rfl (by omega) (fun hR => ?_)
      refine X_aload_n 113 hO dX13_run_112 rfl rfl ?_
      refine X_bipush 115 hO dX13_run_113 rfl (by decide) ?_
      refine X_iload_n 116 hO dX13_run_115 rfl rfl ?_
      refine X_iload_n 117 hO dX13_run_116 rfl rfl ?_
      refine XM_callVv 120 hO hD hR lX13_354 [_, _, _] rfl dX13_run_117 rfl (c_records _ _ _ _ _ _ (by rw [up_k _ (by decide), up_k _ (by decide)]; omega) (by omega) (by omega) (by omega)) (by decide) (by simp only [List.map_cons, List.map_nil, rv_cat]; exact Nat.le_of_ble_eq_true rfl) (fun w_117 hp_117 hR => ?_)
      subst hp_117
      refine X_iload 122 hO dX13_run_120 rfl rfl ?_
      exact XM_iret hO hF hR rfl (by first | exact Or.inl rfl | exact Or.inr ⟨rfl, bi_01 _⟩ | exact Or.inr ⟨rfl, by omega⟩) dX13_run_122 (by first | assumption | omega | exact I_rng _) (by first | (exfalso; omega) | (unfold o_run m_rn1 m_rn2; (repeat (first | rw [if_pos (by omega)] | rw [if_neg (by omega)])); exact ⟨rfl, rfl⟩))
    ·
      try simp only [bi_0, bi_ne, ne_eq, Classical.not_not] at hc_86
      refine X_aload_n 90 hO dX13_run_89 rfl rfl ?_
      refine X_iload_n 91 hO dX13_run_90 rfl rfl ?_
      refine pa_382 94 hO hR dX13_run_91 rfl (by omega) (fun hR => ?_)
      refine X_aload_n 95 hO dX13_run_94 rfl rfl ?_
      refine X_iload 97 hO dX13_run_95 rfl rfl ?_
      refine pa_147 100 hO hR dX13_run_97 rfl (by omega) (fun hR => ?_)
      refine X_aload_n 101 hO dX13_run_100 rfl rfl ?_
      refine X_iconst 102 hO dX13_run_101 rfl ?_
      refine pa_171 105 hO hR dX13_run_102 rfl (by omega) (fun hR => ?_)
      refine X_iconst 106 hO dX13_run_105 rfl ?_
      exact XM_iret hO hF hR rfl (by first | exact Or.inl rfl | exact Or.inr ⟨rfl, bi_01 _⟩ | exact Or.inr ⟨rfl, by omega⟩) dX13_run_106 (by first | assumption | omega | exact I_rng _) (by first | (exfalso; omega) | (unfold o_run m_rn1 m_rn2; (repeat (first | rw [if_pos (by omega)] | rw [if_neg (by omega)])); exact ⟨rfl, rfl⟩))
  refine X_aload_n 1 hO dX13_run_0 rfl rfl ?_
  refine X_iload_n 2 hO dX13_run_1 rfl rfl ?_
  refine X_iconst 3 hO dX13_run_2 rfl ?_
  refine X_iconst 4 hO dX13_run_3 rfl ?_
  refine XM_callSi 7 hO hD lX13_174 [_, _, _] rfl dX13_run_4 rfl (c_in _ _ _ _ _ (by omega) (by omega) (by omega)) (by decide) (by simp only [List.map_cons, List.map_nil, rv_cat]; exact Nat.le_of_ble_eq_true rfl) (fun r_4 hr_4 hp_4 => ?_)
  subst hp_4
  refine X_if_ne 10 14 hO dX13_run_7 rfl rfl (by omega) (fun hc_7 => ?_) (fun hc_7 => ?_)
  ·
    try simp only [bi_0, bi_ne, ne_eq, Classical.not_not] at hc_7
    refine X_iload_n 15 hO dX13_run_14 rfl rfl ?_
    refine X_iconst 16 hO dX13_run_15 rfl ?_
    refine X_bipush 18 hO dX13_run_16 rfl (by decide) ?_
    refine XM_callSi 21 hO hD lX13_174 [_, _, _] rfl dX13_run_18 rfl (c_in _ _ _ _ _ (by omega) (by omega) (by omega)) (by decide) (by simp only [List.map_cons, List.map_nil, rv_cat]; exact Nat.le_of_ble_eq_true rfl) (fun r_18 hr_18 hp_18 => ?_)
    subst hp_18
    refine X_if_ne 24 28 hO dX13_run_21 rfl rfl (by omega) (fun hc_21 => ?_) (fun hc_21 => ?_)
    ·
      try simp only [bi_0, bi_ne, ne_eq, Classical.not_not] at hc_21
      refine X_aload_n 29 hO dX13_run_28 rfl rfl ?_
      refine XM_callVi 32 hO hD hR lX13_346 [] rfl dX13_run_29 rfl (c_isFull _ _ _) (by decide) (by simp only [List.map_cons, List.map_nil, rv_cat]; exact Nat.le_of_ble_eq_true rfl) (fun r_29 w_29 hr_29 hp_29 hR => ?_)
      obtain ⟨e1_29, e2_29⟩ := hp_29
      subst e1_29
      subst e2_29
      refine X_if_eq 35 39 hO dX13_run_32 rfl rfl (by omega) (fun hc_32 => ?_) (fun hc_32 => ?_)
      ·
        try simp only [bi_0, bi_ne, ne_eq, Classical.not_not] at hc_32
        refine X_iconst 40 hO dX13_run_39 rfl ?_
        refine pa_171 43 hO hR dX13_run_40 rfl (by omega) (fun hR => ?_)
        refine X_aload_n 44 hO dX13_run_43 rfl rfl ?_
        refine ga_171 47 hO hR dX13_run_44 rfl (fun hi_44 => ?_)
        try simp (disch := decide) only [up_k, up_s, step_at, pool_at, poolN_at, opens_at, closes_at, fl_at, del_at, ins_at, rep_at, psh_at, trn_at, tak_at, pEn_at, cpQ_at, cpP_at, cpT_at, ti_at, th_at, rec_at, saves_at] at hi_44 ⊢
        refine X_if_le 50 52 hO dX13_run_47 rfl rfl (by omega) (fun hc_47 => ?_) (fun hc_47 => ?_)
        ·
          first | (exfalso; omega) | exact JP52 (by omega) (by omega) hR
        ·
          refine X_iconst 51 hO dX13_run_50 rfl ?_
          exact XM_iret hO hF hR rfl (by first | exact Or.inl rfl | exact Or.inr ⟨rfl, bi_01 _⟩ | exact Or.inr ⟨rfl, by omega⟩) dX13_run_51 (by first | assumption | omega | exact I_rng _) (by first | (exfalso; omega) | (unfold o_run m_th; (repeat (first | rw [if_pos (by omega)] | rw [if_neg (by omega)])); exact ⟨rfl, rfl⟩))
      ·
        try simp only [bi_0, bi_ne, ne_eq, Classical.not_not] at hc_32
        refine X_iconst 36 hO dX13_run_35 rfl ?_
        refine X_goto hO dX13_run_36 (tgt := 40) rfl ?_
        refine pa_171 43 hO hR dX13_run_40 rfl (by omega) (fun hR => ?_)
        refine X_aload_n 44 hO dX13_run_43 rfl rfl ?_
        refine ga_171 47 hO hR dX13_run_44 rfl (fun hi_44 => ?_)
        try simp (disch := decide) only [up_k, up_s, step_at, pool_at, poolN_at, opens_at, closes_at, fl_at, del_at, ins_at, rep_at, psh_at, trn_at, tak_at, pEn_at, cpQ_at, cpP_at, cpT_at, ti_at, th_at, rec_at, saves_at] at hi_44 ⊢
        refine X_if_le 50 52 hO dX13_run_47 rfl rfl (by omega) (fun hc_47 => ?_) (fun hc_47 => ?_)
        ·
          first | (exfalso; omega) | exact JP52 (by omega) (by omega) hR
        ·
          refine X_iconst 51 hO dX13_run_50 rfl ?_
          exact XM_iret hO hF hR rfl (by first | exact Or.inl rfl | exact Or.inr ⟨rfl, bi_01 _⟩ | exact Or.inr ⟨rfl, by omega⟩) dX13_run_51 (by first | assumption | omega | exact I_rng _) (by first | (exfalso; omega) | (unfold o_run m_th; (repeat (first | rw [if_pos (by omega)] | rw [if_neg (by omega)])); exact ⟨rfl, rfl⟩))
    ·
      try simp only [bi_0, bi_ne, ne_eq, Classical.not_not] at hc_21
      refine X_iconst 25 hO dX13_run_24 rfl ?_
      refine X_goto hO dX13_run_25 (tgt := 40) rfl ?_
      refine pa_171 43 hO hR dX13_run_40 rfl (by omega) (fun hR => ?_)
      refine X_aload_n 44 hO dX13_run_43 rfl rfl ?_
      refine ga_171 47 hO hR dX13_run_44 rfl (fun hi_44 => ?_)
      try simp (disch := decide) only [up_k, up_s, step_at, pool_at, poolN_at, opens_at, closes_at, fl_at, del_at, ins_at, rep_at, psh_at, trn_at, tak_at, pEn_at, cpQ_at, cpP_at, cpT_at, ti_at, th_at, rec_at, saves_at] at hi_44 ⊢
      refine X_if_le 50 52 hO dX13_run_47 rfl rfl (by omega) (fun hc_47 => ?_) (fun hc_47 => ?_)
      ·
        first | (exfalso; omega) | exact JP52 (by omega) (by omega) hR
      ·
        refine X_iconst 51 hO dX13_run_50 rfl ?_
        exact XM_iret hO hF hR rfl (by first | exact Or.inl rfl | exact Or.inr ⟨rfl, bi_01 _⟩ | exact Or.inr ⟨rfl, by omega⟩) dX13_run_51 (by first | assumption | omega | exact I_rng _) (by first | (exfalso; omega) | (unfold o_run m_th; (repeat (first | rw [if_pos (by omega)] | rw [if_neg (by omega)])); exact ⟨rfl, rfl⟩))
  ·
    try simp only [bi_0, bi_ne, ne_eq, Classical.not_not] at hc_7
    refine X_iconst 11 hO dX13_run_10 rfl ?_
    refine X_goto hO dX13_run_11 (tgt := 40) rfl ?_
    refine pa_171 43 hO hR dX13_run_40 rfl (by omega) (fun hR => ?_)
    refine X_aload_n 44 hO dX13_run_43 rfl rfl ?_
    refine ga_171 47 hO hR dX13_run_44 rfl (fun hi_44 => ?_)
    try simp (disch := decide) only [up_k, up_s, step_at, pool_at, poolN_at, opens_at, closes_at, fl_at, del_at, ins_at, rep_at, psh_at, trn_at, tak_at, pEn_at, cpQ_at, cpP_at, cpT_at, ti_at, th_at, rec_at, saves_at] at hi_44 ⊢
    refine X_if_le 50 52 hO dX13_run_47 rfl rfl (by omega) (fun hc_47 => ?_) (fun hc_47 => ?_)
    ·
      first | (exfalso; omega) | exact JP52 (by omega) (by omega) hR
    ·
      refine X_iconst 51 hO dX13_run_50 rfl ?_
      exact XM_iret hO hF hR rfl (by first | exact Or.inl rfl | exact Or.inr ⟨rfl, bi_01 _⟩ | exact Or.inr ⟨rfl, by omega⟩) dX13_run_51 (by first | assumption | omega | exact I_rng _) (by first | (exfalso; omega) | (unfold o_run m_th; (repeat (first | rw [if_pos (by omega)] | rw [if_neg (by omega)])); exact ⟨rfl, rfl⟩))
def plen (w : Mm) : Nat → Int → Int
  | 0, _ => 0
  | n + 1, k => if k = -1 then 0 else 1 + plen w n (w 217 0 k)
def m_pln (w : Mm) (k : Int) : Int := plen w (k + 1).toNat k
def m_anc (w : Mm) (k : Int) : Nat → Int
  | 0 => k
  | n + 1 => w 217 0 (m_anc w k n)
def bPr (m : Int) (w : Mm) : Prop := ∀ k, 0 ≤ k → k < m → -1 ≤ w 217 0 k ∧ w 217 0 k < k
theorem plen_st {m : Int} {w : Mm} (h : bPr m w) : ∀ (n : Nat) (k : Int), -1 ≤ k → k < m → (k + 1).toNat ≤ n → plen w n k = m_pln w k
  | 0, k, h1, h2, h3 => by
    have : k = -1 := by omega
    subst this; rfl
  | n + 1, k, h1, h2, h3 => by
    by_cases c : k = -1
    · subst c; rfl
    · have hp := h k (by omega) h2
      unfold m_pln
      rw [show (k + 1).toNat = k.toNat + 1 by omega]
      simp only [plen]
      rw [if_neg c, if_neg c, plen_st h n _ hp.1 (by omega) (by omega), plen_st h k.toNat _ hp.1 (by omega) (by omega)]
theorem pln_s {m k : Int} {w : Mm} (h : bPr m w) (hk : 0 ≤ k ∧ k < m) : m_pln w k = 1 + m_pln w (w 217 0 k) := by
  have hp := h k hk.1 hk.2
  conv => lhs; unfold m_pln
  rw [show (k + 1).toNat = k.toNat + 1 by omega]
  simp only [plen]
  rw [if_neg (by omega), plen_st h k.toNat _ hp.1 (by omega) (by omega)]
theorem pln_0 {w : Mm} : m_pln w (-1) = 0 := rfl
theorem pln_rng {m : Int} {w : Mm} (h : bPr m w) : ∀ (n : Nat) (k : Int), (k + 1).toNat ≤ n → -1 ≤ k → k < m → 0 ≤ m_pln w k ∧ m_pln w k ≤ k + 1 ∧ (0 ≤ k → 1 ≤ m_pln w k)
  | 0, k, h1, h2, h3 => by
    have : k = -1 := by omega
    subst this; rw [pln_0]; omega
  | n + 1, k, h1, h2, h3 => by
    by_cases c : k = -1
    · subst c; rw [pln_0]; omega
    · have hp := h k (by omega) h3
      have := pln_rng h n _ (show (w 217 0 k + 1).toNat ≤ n by omega) hp.1 (by omega)
      rw [pln_s h ⟨by omega, h3⟩]; omega
theorem TB.pr {μ : MU} {M : Int} {w : Mm} (h : TB μ M w) : bPr (w 124 μ.1 0) w := fun k a b => (h.2.2.2.2.2.2 k a b).2.1
theorem up_up {w : Mm} {c : Nat} {a i v u : Int} : up (up w c a i v) c a i u = up w c a i u := by
  funext c' a' i'; simp only [up]; split <;> rfl
def m_fin (μ : MU) (k : Int) (w : Mm) : Mm := fl (up w 127 μ.1 0 (m_pln w k)) 226 0 (m_pln w k) (fun i => m_anc w k (m_pln w k - 1 - i).toNat)
theorem dX13_depth_0 : decode cX13_depth 0 = .ok (.iconst 0, 1) := by decide +kernel
theorem dX13_depth_1 : decode cX13_depth 1 = .ok (.istore_n 2, 1) := by decide +kernel
theorem dX13_depth_2 : decode cX13_depth 2 = .ok (.iload_n 1, 1) := by decide +kernel
theorem dX13_depth_3 : decode cX13_depth 3 = .ok (.istore_n 3, 1) := by decide +kernel
theorem dX13_depth_4 : decode cX13_depth 4 = .ok (.iload_n 3, 1) := by decide +kernel
theorem dX13_depth_5 : decode cX13_depth 5 = .ok (.ifCond .eq 16, 3) := by decide +kernel
theorem dX13_depth_8 : decode cX13_depth 8 = .ok (.iinc 2 1, 3) := by decide +kernel
theorem dX13_depth_11 : decode cX13_depth 11 = .ok (.aload_n 0, 1) := by decide +kernel
theorem dX13_depth_12 : decode cX13_depth 12 = .ok (.getfield 69, 3) := by decide +kernel
theorem dX13_depth_15 : decode cX13_depth 15 = .ok (.iload_n 3, 1) := by decide +kernel
theorem dX13_depth_16 : decode cX13_depth 16 = .ok (.iaload, 1) := by decide +kernel
theorem dX13_depth_17 : decode cX13_depth 17 = .ok (.istore_n 3, 1) := by decide +kernel
theorem dX13_depth_18 : decode cX13_depth 18 = .ok (.goto (-14), 3) := by decide +kernel
theorem dX13_depth_21 : decode cX13_depth 21 = .ok (.iload_n 2, 1) := by decide +kernel
theorem dX13_depth_22 : decode cX13_depth 22 = .ok (.ireturn, 1) := by decide +kernel
set_option maxRecDepth 4000 in
theorem c_depth (γ : LC) (μ : MU) (w : Mm) (x M : Int) (hT : TB μ M w) (hM : M ≤ 600) (hx : 0 ≤ x ∧ x < w 124 μ.1 0) : CMi γ μ 0 mX13_depth [.int (I x)] w (fun r w' => r = m_pln w x - 1 ∧ w = w') := by
  refine CMi_of rfl (by simp [rv_cat, Value.category]) rfl ?_
  rintro κ hO hF rfl hR
  have hD := hF.dp
  show X κ 0 0 w 0 [some (rv μ.1), some (.int (I x)), none, none] []
  have hp := hT.pr
  obtain ⟨t1, t2, t3, t4, t5, t6, t7⟩ := hT
  have hx0 := pln_rng hp _ x (Nat.le_refl _) (by omega) (by omega)
  refine X_iconst 1 hO dX13_depth_0 rfl ?_
  refine X_istore_n 2 hO dX13_depth_1 rfl rfl ?_
  refine X_iload_n 3 hO dX13_depth_2 rfl rfl ?_
  refine X_istore_n 4 hO dX13_depth_3 rfl rfl ?_
  have LP4 : ∀ (n : Nat) (k n0 : Int), k.toNat < n → (0 ≤ k ∧ k < w 124 μ.1 0) → (n0 + m_pln w k = m_pln w x ∧ 0 ≤ n0) → RM (w) μ → X κ 0 0 (w) 4 [some (rv μ.1), some (.int (I x)), some (.int (I n0)), some (.int (I k))] [] := by
    intro n
    induction n with
    | zero => intro k n0 hm; exact absurd hm (Nat.not_lt_zero _)
    | succ n ih =>
      intro k n0 hm hk hn hR
      have hs := pln_s hp (k := k) (by omega)
      have hkk := hp k (by omega) (by omega)
      have hk7 := (t7 k (by omega) (by omega)).2.2.1
      have hr1 := pln_rng hp _ k (Nat.le_refl _) (by omega) (by omega)
      refine X_iload_n 5 hO dX13_depth_4 rfl rfl ?_
      refine X_if_eq 8 21 hO dX13_depth_5 rfl rfl (by omega) (fun hc_5 => ?_) (fun hc_5 => ?_)
      ·
        have e5 : w 217 0 k = -1 := by omega
        have e6 : m_pln w (w 217 0 k) = 0 := by rw [e5]; rfl
        refine X_iload_n 22 hO dX13_depth_21 rfl rfl ?_
        exact XM_iret hO hF hR rfl (by first | exact Or.inl rfl | exact Or.inr ⟨rfl, bi_01 _⟩ | exact Or.inr ⟨rfl, by omega⟩) dX13_depth_22 (by omega) ⟨by omega, rfl⟩
      ·
        refine X_iinc 11 hO dX13_depth_8 rfl rfl ?_
        refine X_aload_n 12 hO dX13_depth_11 rfl rfl ?_
        refine ga_69 15 hO hR dX13_depth_12 rfl ?_
        refine X_iload_n 16 hO dX13_depth_15 rfl rfl ?_
        refine ma_ld (L := 640) (c := 217) 17 hO hR rfl rfl rfl dX13_depth_16 rfl (by omega) (by omega) (fun hi_16 => ?_)
        refine X_istore_n 18 hO dX13_depth_17 rfl rfl ?_
        refine X_goto hO dX13_depth_18 (tgt := 4) rfl ?_
        exact ih _ (n0 + 1) (by omega) (by omega) (by omega) hR
  exact LP4 _ x 0 (Nat.lt_succ_self _) (by omega) (by omega) hR
theorem dX13_finds_0 : decode cX13_finds 0 = .ok (.aload_n 0, 1) := by decide +kernel
theorem dX13_finds_1 : decode cX13_finds 1 = .ok (.iconst 0, 1) := by decide +kernel
theorem dX13_finds_2 : decode cX13_finds 2 = .ok (.putfield 235, 3) := by decide +kernel
theorem dX13_finds_5 : decode cX13_finds 5 = .ok (.iload_n 1, 1) := by decide +kernel
theorem dX13_finds_6 : decode cX13_finds 6 = .ok (.istore_n 2, 1) := by decide +kernel
theorem dX13_finds_7 : decode cX13_finds 7 = .ok (.iload_n 2, 1) := by decide +kernel
theorem dX13_finds_8 : decode cX13_finds 8 = .ok (.iconst (-1), 1) := by decide +kernel
theorem dX13_finds_9 : decode cX13_finds 9 = .ok (.if_icmp .eq 23, 3) := by decide +kernel
theorem dX13_finds_12 : decode cX13_finds 12 = .ok (.aload_n 0, 1) := by decide +kernel
theorem dX13_finds_13 : decode cX13_finds 13 = .ok (.dup, 1) := by decide +kernel
theorem dX13_finds_14 : decode cX13_finds 14 = .ok (.getfield 235, 3) := by decide +kernel
theorem dX13_finds_17 : decode cX13_finds 17 = .ok (.iconst 1, 1) := by decide +kernel
theorem dX13_finds_18 : decode cX13_finds 18 = .ok (.iadd, 1) := by decide +kernel
theorem dX13_finds_19 : decode cX13_finds 19 = .ok (.putfield 235, 3) := by decide +kernel
theorem dX13_finds_22 : decode cX13_finds 22 = .ok (.aload_n 0, 1) := by decide +kernel
theorem dX13_finds_23 : decode cX13_finds 23 = .ok (.getfield 69, 3) := by decide +kernel
theorem dX13_finds_26 : decode cX13_finds 26 = .ok (.iload_n 2, 1) := by decide +kernel
theorem dX13_finds_27 : decode cX13_finds 27 = .ok (.iaload, 1) := by decide +kernel
theorem dX13_finds_28 : decode cX13_finds 28 = .ok (.istore_n 2, 1) := by decide +kernel
theorem dX13_finds_29 : decode cX13_finds 29 = .ok (.goto (-22), 3) := by decide +kernel
theorem dX13_finds_32 : decode cX13_finds 32 = .ok (.aload_n 0, 1) := by decide +kernel
theorem dX13_finds_33 : decode cX13_finds 33 = .ok (.getfield 235, 3) := by decide +kernel
theorem dX13_finds_36 : decode cX13_finds 36 = .ok (.istore_n 2, 1) := by decide +kernel
theorem dX13_finds_37 : decode cX13_finds 37 = .ok (.iload_n 1, 1) := by decide +kernel
theorem dX13_finds_38 : decode cX13_finds 38 = .ok (.istore_n 3, 1) := by decide +kernel
theorem dX13_finds_39 : decode cX13_finds 39 = .ok (.iload_n 3, 1) := by decide +kernel
theorem dX13_finds_40 : decode cX13_finds 40 = .ok (.iconst (-1), 1) := by decide +kernel
theorem dX13_finds_41 : decode cX13_finds 41 = .ok (.if_icmp .eq 23, 3) := by decide +kernel
theorem dX13_finds_44 : decode cX13_finds 44 = .ok (.iinc 2 (-1), 3) := by decide +kernel
theorem dX13_finds_47 : decode cX13_finds 47 = .ok (.aload_n 0, 1) := by decide +kernel
theorem dX13_finds_48 : decode cX13_finds 48 = .ok (.getfield 96, 3) := by decide +kernel
theorem dX13_finds_51 : decode cX13_finds 51 = .ok (.iload_n 2, 1) := by decide +kernel
theorem dX13_finds_52 : decode cX13_finds 52 = .ok (.iload_n 3, 1) := by decide +kernel
theorem dX13_finds_53 : decode cX13_finds 53 = .ok (.iastore, 1) := by decide +kernel
theorem dX13_finds_54 : decode cX13_finds 54 = .ok (.aload_n 0, 1) := by decide +kernel
theorem dX13_finds_55 : decode cX13_finds 55 = .ok (.getfield 69, 3) := by decide +kernel
theorem dX13_finds_58 : decode cX13_finds 58 = .ok (.iload_n 3, 1) := by decide +kernel
theorem dX13_finds_59 : decode cX13_finds 59 = .ok (.iaload, 1) := by decide +kernel
theorem dX13_finds_60 : decode cX13_finds 60 = .ok (.istore_n 3, 1) := by decide +kernel
theorem dX13_finds_61 : decode cX13_finds 61 = .ok (.goto (-22), 3) := by decide +kernel
theorem dX13_finds_64 : decode cX13_finds 64 = .ok (.return_, 1) := by decide +kernel
set_option maxRecDepth 4000 in
theorem c_finds (γ : LC) (μ : MU) (w : Mm) (x M : Int) (hT : TB μ M w) (hM : M ≤ 600) (hx : 0 ≤ x ∧ x < w 124 μ.1 0) : CMv γ μ 0 mX13_finds [.int (I x)] w (fun w' => w' = m_fin μ x w) := by
  refine CMv_of rfl (by simp [rv_cat, Value.category]) rfl ?_
  rintro κ hO hF rfl hR
  have hD := hF.dp
  show X κ 0 0 w 0 [some (rv μ.1), some (.int (I x)), none, none] []
  have hp := hT.pr
  obtain ⟨t1, t2, t3, t4, t5, t6, t7⟩ := hT
  have hx0 := pln_rng hp _ x (Nat.le_refl _) (by omega) (by omega)
  refine X_aload_n 1 hO dX13_finds_0 rfl rfl ?_
  refine X_iconst 2 hO dX13_finds_1 rfl ?_
  refine pa_235 5 hO hR dX13_finds_2 rfl (by omega) (fun hR => ?_)
  refine X_iload_n 6 hO dX13_finds_5 rfl rfl ?_
  refine X_istore_n 7 hO dX13_finds_6 rfl rfl ?_
  have LP7 : ∀ (n : Nat) (k c : Int), (k + 1).toNat < n → (-1 ≤ k ∧ k < w 124 μ.1 0) → (c + m_pln w k = m_pln w x ∧ 0 ≤ c) → RM ((up w 127 μ.1 0 c)) μ → X κ 0 0 ((up w 127 μ.1 0 c)) 7 [some (rv μ.1), some (.int (I x)), some (.int (I k)), none] [] := by
    intro n
    induction n with
    | zero => intro k c hm; exact absurd hm (Nat.not_lt_zero _)
    | succ n ih =>
      intro k c hm hk hn hR
      refine X_iload_n 8 hO dX13_finds_7 rfl rfl ?_
      refine X_iconst 9 hO dX13_finds_8 rfl ?_
      refine X_icmp_eq 12 32 hO dX13_finds_9 rfl rfl (by omega) (by omega) (fun hc_9 => ?_) (fun hc_9 => ?_)
      ·
        have e9 : k = -1 := by omega
        have e9b : m_pln w k = 0 := by rw [e9]; rfl
        have e9c : c = m_pln w x := by omega
        subst e9c
        refine X_aload_n 33 hO dX13_finds_32 rfl rfl ?_
        refine ga_235 36 hO hR dX13_finds_33 rfl (fun hi_33 => ?_)
        try simp (disch := decide) only [up_k, up_s, step_at, pool_at, poolN_at, opens_at, closes_at, fl_at, del_at, ins_at, rep_at, psh_at, trn_at, tak_at, pEn_at, cpQ_at, cpP_at, cpT_at, ti_at, th_at, rec_at, saves_at] at hi_33 ⊢
        refine X_istore_n 37 hO dX13_finds_36 rfl rfl ?_
        refine X_iload_n 38 hO dX13_finds_37 rfl rfl ?_
        refine X_istore_n 39 hO dX13_finds_38 rfl rfl ?_
        have LP39 : ∀ (n : Nat) (k a : Int), (k + 1).toNat < n → (-1 ≤ k ∧ k < w 124 μ.1 0) → (a = m_pln w k ∧ a ≤ m_pln w x) → (k = m_anc w x (m_pln w x - a).toNat) → RM ((fl (up w 127 μ.1 0 (m_pln w x)) 226 a (m_pln w x - a) (fun i => m_anc w x (m_pln w x - 1 - i).toNat))) μ → X κ 0 0 ((fl (up w 127 μ.1 0 (m_pln w x)) 226 a (m_pln w x - a) (fun i => m_anc w x (m_pln w x - 1 - i).toNat))) 39 [some (rv μ.1), some (.int (I x)), some (.int (I a)), some (.int (I k))] [] := by
          intro n
          induction n with
          | zero => intro k a hm; exact absurd hm (Nat.not_lt_zero _)
          | succ n ih =>
            intro k a hm hk2 hn2 ha2 hR
            refine X_iload_n 40 hO dX13_finds_39 rfl rfl ?_
            refine X_iconst 41 hO dX13_finds_40 rfl ?_
            refine X_icmp_eq 44 64 hO dX13_finds_41 rfl rfl (by omega) (by omega) (fun hc_41 => ?_) (fun hc_41 => ?_)
            ·
              have e9 : k = -1 := by omega
              have e9b : m_pln w k = 0 := by rw [e9]; rfl
              have e9c : a = 0 := by omega
              subst e9c
              exact XM_vret hO hF hR rfl dX13_finds_64 (by unfold m_fin; rw [show m_pln w x - 0 = m_pln w x by omega])
            ·
              have hs := pln_s hp (k := k) (by omega)
              have hkk := hp k (by omega) (by omega)
              have hr1 := pln_rng hp _ (w 217 0 k) (Nat.le_refl _) (by omega) (by omega)
              refine X_iinc 47 hO dX13_finds_44 rfl rfl ?_
              refine X_aload_n 48 hO dX13_finds_47 rfl rfl ?_
              refine ga_96 51 hO hR dX13_finds_48 rfl ?_
              refine X_iload_n 52 hO dX13_finds_51 rfl rfl ?_
              refine X_iload_n 53 hO dX13_finds_52 rfl rfl ?_
              refine ma_st (L := 640) (c := 226) 54 hO hR rfl rfl rfl dX13_finds_53 rfl (by omega) (by omega) (by omega) (fun hR => ?_)
              refine X_aload_n 55 hO dX13_finds_54 rfl rfl ?_
              refine ga_69 58 hO hR dX13_finds_55 rfl ?_
              refine X_iload_n 59 hO dX13_finds_58 rfl rfl ?_
              refine ma_ld (L := 640) (c := 217) 60 hO hR rfl rfl rfl dX13_finds_59 rfl (by omega) (by omega) (fun hi_59 => ?_)
              try simp (disch := decide) only [up_k, up_s, step_at, pool_at, poolN_at, opens_at, closes_at, fl_at, del_at, ins_at, rep_at, psh_at, trn_at, tak_at, pEn_at, cpQ_at, cpP_at, cpT_at, ti_at, th_at, rec_at, saves_at] at hi_59 ⊢
              refine X_istore_n 61 hO dX13_finds_60 rfl rfl ?_
              refine X_goto hO dX13_finds_61 (tgt := 39) rfl ?_
              exact X_eqR hR (fl_dwn (lo' := a - 1) (n' := m_pln w x - (a - 1)) (by omega) (by omega) (by omega) (by omega) (by show k = m_anc w x _; rw [ha2]; congr 1; omega)) (fun hR => ih _ (a - 1) (by omega) (by omega) (by omega) (by rw [show (m_pln w x - (a - 1)).toNat = (m_pln w x - a).toNat + 1 by omega]; show _ = w 217 0 (m_anc w x (m_pln w x - a).toNat); rw [← ha2]) hR)
        exact X_eqR hR (fl_00 (by omega)) (fun hR => LP39 _ x (m_pln w x) (Nat.lt_succ_self _) (by omega) (by omega) (by rw [show (m_pln w x - m_pln w x).toNat = 0 by omega]; rfl) hR)
      ·
        have hs := pln_s hp (k := k) (by omega)
        have hkk := hp k (by omega) (by omega)
        have hr1 := pln_rng hp _ (w 217 0 k) (Nat.le_refl _) (by omega) (by omega)
        refine X_aload_n 13 hO dX13_finds_12 rfl rfl ?_
        refine X_dup 14 hO dX13_finds_13 rfl (by first | rfl | exact rv_cat _) ?_
        refine ga_235 17 hO hR dX13_finds_14 rfl (fun hi_14 => ?_)
        try simp (disch := decide) only [up_k, up_s, step_at, pool_at, poolN_at, opens_at, closes_at, fl_at, del_at, ins_at, rep_at, psh_at, trn_at, tak_at, pEn_at, cpQ_at, cpP_at, cpT_at, ti_at, th_at, rec_at, saves_at] at hi_14 ⊢
        refine X_iconst 18 hO dX13_finds_17 rfl ?_
        refine X_iadd 19 hO dX13_finds_18 rfl ?_
        refine pa_235 22 hO hR dX13_finds_19 rfl (by omega) (fun hR => ?_)
        refine X_eqR hR (up_up) (fun hR => ?_)
        refine X_aload_n 23 hO dX13_finds_22 rfl rfl ?_
        refine ga_69 26 hO hR dX13_finds_23 rfl ?_
        refine X_iload_n 27 hO dX13_finds_26 rfl rfl ?_
        refine ma_ld (L := 640) (c := 217) 28 hO hR rfl rfl rfl dX13_finds_27 rfl (by omega) (by omega) (fun hi_27 => ?_)
        try simp (disch := decide) only [up_k, up_s, step_at, pool_at, poolN_at, opens_at, closes_at, fl_at, del_at, ins_at, rep_at, psh_at, trn_at, tak_at, pEn_at, cpQ_at, cpP_at, cpT_at, ti_at, th_at, rec_at, saves_at] at hi_27 ⊢
        refine X_istore_n 29 hO dX13_finds_28 rfl rfl ?_
        refine X_goto hO dX13_finds_29 (tgt := 7) rfl ?_
        exact ih _ (c + 1) (by omega) (by omega) (by omega) hR
  exact LP7 _ x 0 (Nat.lt_succ_self _) (by omega) (by omega) hR
