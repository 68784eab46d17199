theorem wks_at {μ : MU} {PL : Int → List Int} {x : Int} {w : Mm} (h1 : SB 1 w) (h2 : bB w) (g : RPk μ PL x w) {c : Nat} {a i : Int} (h : (c < 200 ∨ 210 < c) ∧ c ≠ 240 ∧ c ≠ 127 ∧ c ≠ 226 ∧ c ≠ 126 ∧ c ≠ 129) : m_wks μ PL x w c a i = w c a i := by
  unfold m_wks
  rw [up_k _ (by omega), up_k _ (by omega), up_k _ (by omega), up_k _ (by omega), cpQ_at (by omega), cpT_at (by omega), rpl_at h1 h2 g (by omega)]
theorem wks_126 {μ : MU} {PL : Int → List Int} {x : Int} {w : Mm} : m_wks μ PL x w 126 μ.1 0 = x := by
  unfold m_wks; rw [up_k _ (by decide), up_s]
theorem nwst_up {μ : MU} {x : Int} {w : Mm} {c : Nat} {a i v : Int} (h : c ≠ 124 ∧ c ≠ 216 ∧ c ≠ 217) : m_nwst μ x (up w c a i v) = m_nwst μ x w := by
  unfold m_nwst m_chF
  simp only [up_k w (show 124 ≠ c by omega), up_k w (show 216 ≠ c by omega), up_k w (show 217 ≠ c by omega)]
theorem nwst_rng {μ : MU} {x : Int} {w : Mm} (ht : 1 ≤ w 124 μ.1 0) : m_nwst μ x w = -1 ∨ (1 ≤ m_nwst μ x w ∧ m_nwst μ x w < w 124 μ.1 0 ∧ w 216 0 (m_nwst μ x w) = 1 ∧ w 217 0 (m_nwst μ x w) = x) := by
  rcases lst_spec (m_chF x w) (w 124 μ.1 0).toNat with h | ⟨h1, h2, h3, h4⟩
  · exact Or.inl h.1
  · have h5 := bi_o h3
    have h6 : lst (m_chF x w) (w 124 μ.1 0).toNat = m_nwst μ x w := rfl
    rw [h6] at h1 h2 h5
    exact Or.inr ⟨h5.1, by omega, h5.2.1, h5.2.2⟩
/-- how many changes lie between two nodes, by the way the reference goes -/
def m_dst (w : Mm) : Nat → Int → Int → Int → Int
  | 0, _, _, n => n
  | f + 1, a, b, n => if a = b then n else if m_pln w a ≥ m_pln w b then m_dst w f (w 217 0 a) b (n + 1) else m_dst w f a (w 217 0 b) (n + 1)
def m_dist (w : Mm) (a b : Int) : Int := m_dst w (m_pln w a + m_pln w b).toNat a b 0
theorem pln_up {w : Mm} {c : Nat} {a i v k : Int} (h : c ≠ 217) : m_pln (up w c a i v) k = m_pln w k := pln_cong (fun a' i' => up_k _ (by omega) _ _ _ _ _) k
def o_undo (μ : MU) (PL : Int → List Int) (w : Mm) : Int × Mm := if w 132 μ.1 0 = 1 ∨ w 126 μ.1 0 = 0 then (0, m_th μ 1 w) else (w 217 0 (w 126 μ.1 0), m_wks μ PL (w 217 0 (w 126 μ.1 0)) (m_th μ 0 w))
theorem dX13_undo_0 : decode cX13_undo 0 = .ok (.aload_n 0, 1) := by decide +kernel
theorem dX13_undo_1 : decode cX13_undo 1 = .ok (.aload_n 0, 1) := by decide +kernel
theorem dX13_undo_2 : decode cX13_undo 2 = .ok (.getfield 280, 3) := by decide +kernel
theorem dX13_undo_5 : decode cX13_undo 5 = .ok (.iconst 1, 1) := by decide +kernel
theorem dX13_undo_6 : decode cX13_undo 6 = .ok (.if_icmp .eq 10, 3) := by decide +kernel
theorem dX13_undo_9 : decode cX13_undo 9 = .ok (.aload_n 0, 1) := by decide +kernel
theorem dX13_undo_10 : decode cX13_undo 10 = .ok (.getfield 258, 3) := by decide +kernel
theorem dX13_undo_13 : decode cX13_undo 13 = .ok (.ifCond .ne 7, 3) := by decide +kernel
theorem dX13_undo_16 : decode cX13_undo 16 = .ok (.iconst 1, 1) := by decide +kernel
theorem dX13_undo_17 : decode cX13_undo 17 = .ok (.goto 4, 3) := by decide +kernel
theorem dX13_undo_20 : decode cX13_undo 20 = .ok (.iconst 0, 1) := by decide +kernel
theorem dX13_undo_21 : decode cX13_undo 21 = .ok (.putfield 171, 3) := by decide +kernel
theorem dX13_undo_24 : decode cX13_undo 24 = .ok (.aload_n 0, 1) := by decide +kernel
theorem dX13_undo_25 : decode cX13_undo 25 = .ok (.getfield 171, 3) := by decide +kernel
theorem dX13_undo_28 : decode cX13_undo 28 = .ok (.ifCond .ne 16, 3) := by decide +kernel
theorem dX13_undo_31 : decode cX13_undo 31 = .ok (.aload_n 0, 1) := by decide +kernel
theorem dX13_undo_32 : decode cX13_undo 32 = .ok (.aload_n 0, 1) := by decide +kernel
theorem dX13_undo_33 : decode cX13_undo 33 = .ok (.getfield 69, 3) := by decide +kernel
theorem dX13_undo_36 : decode cX13_undo 36 = .ok (.aload_n 0, 1) := by decide +kernel
theorem dX13_undo_37 : decode cX13_undo 37 = .ok (.getfield 258, 3) := by decide +kernel
theorem dX13_undo_40 : decode cX13_undo 40 = .ok (.iaload, 1) := by decide +kernel
theorem dX13_undo_41 : decode cX13_undo 41 = .ok (.invokevirtual 397, 3) := by decide +kernel
theorem dX13_undo_44 : decode cX13_undo 44 = .ok (.aload_n 0, 1) := by decide +kernel
theorem dX13_undo_45 : decode cX13_undo 45 = .ok (.getfield 171, 3) := by decide +kernel
theorem dX13_undo_48 : decode cX13_undo 48 = .ok (.ifCond .ne 10, 3) := by decide +kernel
theorem dX13_undo_51 : decode cX13_undo 51 = .ok (.aload_n 0, 1) := by decide +kernel
theorem dX13_undo_52 : decode cX13_undo 52 = .ok (.getfield 258, 3) := by decide +kernel
theorem dX13_undo_55 : decode cX13_undo 55 = .ok (.goto 4, 3) := by decide +kernel
theorem dX13_undo_58 : decode cX13_undo 58 = .ok (.iconst 0, 1) := by decide +kernel
theorem dX13_undo_59 : decode cX13_undo 59 = .ok (.ireturn, 1) := by decide +kernel
set_option maxRecDepth 4000 in
theorem c_undo (γ : LC) (μ : MU) (w : Mm) (PL : Int → List Int) (S P M : Int) (hRA : RPA μ PL w) (hEx : bEx μ w) (hR0 : RB μ S P M w) (hS : S ≤ 28900) (hP : P ≤ 500000) (hM : M ≤ 590) : CMi γ μ 6 mX13_undo [] w (fun r w' => r = (o_undo μ PL w).1 ∧ w' = (o_undo μ PL w).2) := by
  refine CMi_of rfl (by simp [rv_cat, Value.category]) rfl ?_
  rintro κ hO hF rfl hR
  have hD := hF.dp
  show X κ 0 0 w 0 [some (rv μ.1)] []
  have hX : RB μ S P M (up w 139 μ.1 0 0) := hR0.fld (by decide)
  have hXT := hX.2.1.2.2.2.1
  have x124 : up w 139 μ.1 0 0 124 μ.1 0 = w 124 μ.1 0 := up_k _ (by decide) _ _ _ _ _
  have x210 : up w 139 μ.1 0 0 210 0 0 = w 210 0 0 := up_k _ (by decide) _ _ _ _ _
  have hTB := hR0.2.1.2.2.2.1
  have hcu := hTB.2.2.1
  have hc7 := hTB.2.2.2.2.2.2 (w 126 μ.1 0) hcu.1 hcu.2
  have hpx : w 126 μ.1 0 ≠ 0 → w 216 0 (w 217 0 (w 126 μ.1 0)) = 1 := fun h => hEx.2.2.1 (w 126 μ.1 0) (by omega) hcu.2 hEx.2.1
  have hL := hR0.1
  obtain ⟨f1, f2, f3, f4, f5⟩ := hR0.1.f
  obtain ⟨t1, t2, t3, t4, t5, t6, t7⟩ := hR0.2.1.2.2.2.1
  have JP31 : (w 132 μ.1 0 ≠ 1 ∧ w 126 μ.1 0 ≠ 0) → (RM (up w 139 μ.1 0 0) μ) → X κ 0 0 (up w 139 μ.1 0 0) 31 [some (rv μ.1)] [] := by
    intro  hnz hR
    refine X_aload_n 32 hO dX13_undo_31 rfl rfl ?_
    refine X_aload_n 33 hO dX13_undo_32 rfl rfl ?_
    refine ga_69 36 hO hR dX13_undo_33 rfl ?_
    refine X_aload_n 37 hO dX13_undo_36 rfl rfl ?_
    refine ga_258 40 hO hR dX13_undo_37 rfl (fun hi_37 => ?_)
    try simp (disch := decide) only [up_k, up_s, step_at, pool_at, poolN_at, opens_at, closes_at, fl_at, del_at, ins_at, rep_at, psh_at, trn_at, tak_at, pEn_at, cpQ_at, cpP_at, cpT_at, ti_at, th_at, rec_at, saves_at] at hi_37 ⊢
    refine ma_ld (L := 640) (c := 217) 41 hO hR rfl rfl rfl dX13_undo_40 rfl (by omega) (by omega) (fun hi_40 => ?_)
    try simp (disch := decide) only [up_k, up_s, step_at, pool_at, poolN_at, opens_at, closes_at, fl_at, del_at, ins_at, rep_at, psh_at, trn_at, tak_at, pEn_at, cpQ_at, cpP_at, cpT_at, ti_at, th_at, rec_at, saves_at] at hi_40 ⊢
    refine XM_callVv 44 hO hD hR lX13_397 [_] rfl dX13_undo_41 rfl (c_walks _ _ _ _ M PL hXT (by omega) (by rw [x124]; omega) hX.2.1.2.2.1 hX.1.2.2.1 (by rw [x210]; omega) hX.1.2.1.e ((hRA (w 217 0 (w 126 μ.1 0)) (by omega) (by omega) (hpx (by omega))).up (by decide))) (by decide) (by simp only [List.map_cons, List.map_nil, rv_cat]; exact Nat.le_of_ble_eq_true rfl) (fun w_41 hp_41 hR => ?_)
    subst hp_41
    have hRPx : RPk μ PL ((w 217 0 (w 126 μ.1 0))) (up w 139 μ.1 0 0) := (hRA ((w 217 0 (w 126 μ.1 0))) (by omega) (by omega) (hpx (by omega))).up (by decide)
    have e139 : m_wks μ PL ((w 217 0 (w 126 μ.1 0))) (up w 139 μ.1 0 0) 139 μ.1 0 = 0 := by rw [wks_at hX.2.1.2.2.1 hX.1.2.2.1 hRPx (by decide), up_s]
    have e126 := wks_126 (μ := μ) (PL := PL) (x := (w 217 0 (w 126 μ.1 0))) (w := up w 139 μ.1 0 0)
    refine X_aload_n 45 hO dX13_undo_44 rfl rfl ?_
    refine ga_171 48 hO hR dX13_undo_45 rfl (fun hi_45 => ?_)
    try simp (disch := decide) only [up_k, up_s, step_at, pool_at, poolN_at, opens_at, closes_at, fl_at, del_at, ins_at, rep_at, psh_at, trn_at, tak_at, pEn_at, cpQ_at, cpP_at, cpT_at, ti_at, th_at, rec_at, saves_at] at hi_45 ⊢
    try rw [e139]
    refine X_if_ne 51 58 hO dX13_undo_48 rfl rfl (by omega) (fun hc_48 => ?_) (fun hc_48 => ?_)
    ·
      refine X_iconst 59 hO dX13_undo_58 rfl ?_
      exact XM_iret hO hF hR rfl (by first | exact Or.inl rfl | exact Or.inr ⟨rfl, bi_01 _⟩ | exact Or.inr ⟨rfl, by omega⟩) dX13_undo_59 (by first | assumption | omega | exact I_rng _) (by first | (exfalso; omega) | (unfold o_undo ; (try unfold m_ti); (try unfold m_th); (repeat (first | rw [if_pos (by omega)] | rw [if_neg (by omega)])); exact ⟨rfl, rfl⟩))
    ·
      refine X_aload_n 52 hO dX13_undo_51 rfl rfl ?_
      refine ga_258 55 hO hR dX13_undo_52 rfl (fun hi_52 => ?_)
      try simp (disch := decide) only [up_k, up_s, step_at, pool_at, poolN_at, opens_at, closes_at, fl_at, del_at, ins_at, rep_at, psh_at, trn_at, tak_at, pEn_at, cpQ_at, cpP_at, cpT_at, ti_at, th_at, rec_at, saves_at] at hi_52 ⊢
      try rw [e126]
      refine X_goto hO dX13_undo_55 (tgt := 59) rfl ?_
      exact XM_iret hO hF hR rfl (by first | exact Or.inl rfl | exact Or.inr ⟨rfl, bi_01 _⟩ | exact Or.inr ⟨rfl, by omega⟩) dX13_undo_59 (by first | assumption | omega | exact I_rng _) (by first | (exfalso; omega) | (unfold o_undo ; (try unfold m_ti); (try unfold m_th); (repeat (first | rw [if_pos (by omega)] | rw [if_neg (by omega)])); exact ⟨rfl, rfl⟩))
  refine X_aload_n 1 hO dX13_undo_0 rfl rfl ?_
  refine X_aload_n 2 hO dX13_undo_1 rfl rfl ?_
  refine ga_280 5 hO hR dX13_undo_2 rfl (fun hi_2 => ?_)
  try simp (disch := decide) only [up_k, up_s, step_at, pool_at, poolN_at, opens_at, closes_at, fl_at, del_at, ins_at, rep_at, psh_at, trn_at, tak_at, pEn_at, cpQ_at, cpP_at, cpT_at, ti_at, th_at, rec_at, saves_at] at hi_2 ⊢
  refine X_iconst 6 hO dX13_undo_5 rfl ?_
  refine X_icmp_eq 9 16 hO dX13_undo_6 rfl rfl (by omega) (by omega) (fun hc_6 => ?_) (fun hc_6 => ?_)
  ·
    refine X_iconst 17 hO dX13_undo_16 rfl ?_
    refine X_goto hO dX13_undo_17 (tgt := 21) rfl ?_
    refine pa_171 24 hO hR dX13_undo_21 rfl (by omega) (fun hR => ?_)
    refine X_aload_n 25 hO dX13_undo_24 rfl rfl ?_
    refine ga_171 28 hO hR dX13_undo_25 rfl (fun hi_25 => ?_)
    try simp (disch := decide) only [up_k, up_s, step_at, pool_at, poolN_at, opens_at, closes_at, fl_at, del_at, ins_at, rep_at, psh_at, trn_at, tak_at, pEn_at, cpQ_at, cpP_at, cpT_at, ti_at, th_at, rec_at, saves_at] at hi_25 ⊢
    refine X_if_ne 31 44 hO dX13_undo_28 rfl rfl (by omega) (fun hc_28 => ?_) (fun hc_28 => ?_)
    ·
      refine X_aload_n 45 hO dX13_undo_44 rfl rfl ?_
      refine ga_171 48 hO hR dX13_undo_45 rfl (fun hi_45 => ?_)
      try simp (disch := decide) only [up_k, up_s, step_at, pool_at, poolN_at, opens_at, closes_at, fl_at, del_at, ins_at, rep_at, psh_at, trn_at, tak_at, pEn_at, cpQ_at, cpP_at, cpT_at, ti_at, th_at, rec_at, saves_at] at hi_45 ⊢
      try rw [e139]
      refine X_if_ne 51 58 hO dX13_undo_48 rfl rfl (by omega) (fun hc_48 => ?_) (fun hc_48 => ?_)
      ·
        refine X_iconst 59 hO dX13_undo_58 rfl ?_
        exact XM_iret hO hF hR rfl (by first | exact Or.inl rfl | exact Or.inr ⟨rfl, bi_01 _⟩ | exact Or.inr ⟨rfl, by omega⟩) dX13_undo_59 (by first | assumption | omega | exact I_rng _) (by first | (exfalso; omega) | (unfold o_undo ; (try unfold m_ti); (try unfold m_th); (repeat (first | rw [if_pos (by omega)] | rw [if_neg (by omega)])); exact ⟨rfl, rfl⟩))
      ·
        refine X_aload_n 52 hO dX13_undo_51 rfl rfl ?_
        refine ga_258 55 hO hR dX13_undo_52 rfl (fun hi_52 => ?_)
        try simp (disch := decide) only [up_k, up_s, step_at, pool_at, poolN_at, opens_at, closes_at, fl_at, del_at, ins_at, rep_at, psh_at, trn_at, tak_at, pEn_at, cpQ_at, cpP_at, cpT_at, ti_at, th_at, rec_at, saves_at] at hi_52 ⊢
        try rw [e126]
        refine X_goto hO dX13_undo_55 (tgt := 59) rfl ?_
        exact XM_iret hO hF hR rfl (by first | exact Or.inl rfl | exact Or.inr ⟨rfl, bi_01 _⟩ | exact Or.inr ⟨rfl, by omega⟩) dX13_undo_59 (by first | assumption | omega | exact I_rng _) (by first | (exfalso; omega) | (unfold o_undo ; (try unfold m_ti); (try unfold m_th); (repeat (first | rw [if_pos (by omega)] | rw [if_neg (by omega)])); exact ⟨rfl, rfl⟩))
    ·
      first | (exfalso; omega) | exact JP31 (by omega) hR
  ·
    refine X_aload_n 10 hO dX13_undo_9 rfl rfl ?_
    refine ga_258 13 hO hR dX13_undo_10 rfl (fun hi_10 => ?_)
    try simp (disch := decide) only [up_k, up_s, step_at, pool_at, poolN_at, opens_at, closes_at, fl_at, del_at, ins_at, rep_at, psh_at, trn_at, tak_at, pEn_at, cpQ_at, cpP_at, cpT_at, ti_at, th_at, rec_at, saves_at] at hi_10 ⊢
    refine X_if_ne 16 20 hO dX13_undo_13 rfl rfl (by omega) (fun hc_13 => ?_) (fun hc_13 => ?_)
    ·
      refine X_iconst 21 hO dX13_undo_20 rfl ?_
      refine pa_171 24 hO hR dX13_undo_21 rfl (by omega) (fun hR => ?_)
      refine X_aload_n 25 hO dX13_undo_24 rfl rfl ?_
      refine ga_171 28 hO hR dX13_undo_25 rfl (fun hi_25 => ?_)
      try simp (disch := decide) only [up_k, up_s, step_at, pool_at, poolN_at, opens_at, closes_at, fl_at, del_at, ins_at, rep_at, psh_at, trn_at, tak_at, pEn_at, cpQ_at, cpP_at, cpT_at, ti_at, th_at, rec_at, saves_at] at hi_25 ⊢
      refine X_if_ne 31 44 hO dX13_undo_28 rfl rfl (by omega) (fun hc_28 => ?_) (fun hc_28 => ?_)
      ·
        refine X_aload_n 45 hO dX13_undo_44 rfl rfl ?_
        refine ga_171 48 hO hR dX13_undo_45 rfl (fun hi_45 => ?_)
        try simp (disch := decide) only [up_k, up_s, step_at, pool_at, poolN_at, opens_at, closes_at, fl_at, del_at, ins_at, rep_at, psh_at, trn_at, tak_at, pEn_at, cpQ_at, cpP_at, cpT_at, ti_at, th_at, rec_at, saves_at] at hi_45 ⊢
        try rw [e139]
        refine X_if_ne 51 58 hO dX13_undo_48 rfl rfl (by omega) (fun hc_48 => ?_) (fun hc_48 => ?_)
        ·
          refine X_iconst 59 hO dX13_undo_58 rfl ?_
          exact XM_iret hO hF hR rfl (by first | exact Or.inl rfl | exact Or.inr ⟨rfl, bi_01 _⟩ | exact Or.inr ⟨rfl, by omega⟩) dX13_undo_59 (by first | assumption | omega | exact I_rng _) (by first | (exfalso; omega) | (unfold o_undo ; (try unfold m_ti); (try unfold m_th); (repeat (first | rw [if_pos (by omega)] | rw [if_neg (by omega)])); exact ⟨rfl, rfl⟩))
        ·
          refine X_aload_n 52 hO dX13_undo_51 rfl rfl ?_
          refine ga_258 55 hO hR dX13_undo_52 rfl (fun hi_52 => ?_)
          try simp (disch := decide) only [up_k, up_s, step_at, pool_at, poolN_at, opens_at, closes_at, fl_at, del_at, ins_at, rep_at, psh_at, trn_at, tak_at, pEn_at, cpQ_at, cpP_at, cpT_at, ti_at, th_at, rec_at, saves_at] at hi_52 ⊢
          try rw [e126]
          refine X_goto hO dX13_undo_55 (tgt := 59) rfl ?_
          exact XM_iret hO hF hR rfl (by first | exact Or.inl rfl | exact Or.inr ⟨rfl, bi_01 _⟩ | exact Or.inr ⟨rfl, by omega⟩) dX13_undo_59 (by first | assumption | omega | exact I_rng _) (by first | (exfalso; omega) | (unfold o_undo ; (try unfold m_ti); (try unfold m_th); (repeat (first | rw [if_pos (by omega)] | rw [if_neg (by omega)])); exact ⟨rfl, rfl⟩))
      ·
        first | (exfalso; omega) | exact JP31 (by omega) hR
    ·
      refine X_iconst 17 hO dX13_undo_16 rfl ?_
      refine X_goto hO dX13_undo_17 (tgt := 21) rfl ?_
      refine pa_171 24 hO hR dX13_undo_21 rfl (by omega) (fun hR => ?_)
      refine X_aload_n 25 hO dX13_undo_24 rfl rfl ?_
      refine ga_171 28 hO hR dX13_undo_25 rfl (fun hi_25 => ?_)
      try simp (disch := decide) only [up_k, up_s, step_at, pool_at, poolN_at, opens_at, closes_at, fl_at, del_at, ins_at, rep_at, psh_at, trn_at, tak_at, pEn_at, cpQ_at, cpP_at, cpT_at, ti_at, th_at, rec_at, saves_at] at hi_25 ⊢
      refine X_if_ne 31 44 hO dX13_undo_28 rfl rfl (by omega) (fun hc_28 => ?_) (fun hc_28 => ?_)
      ·
        refine X_aload_n 45 hO dX13_undo_44 rfl rfl ?_
        refine ga_171 48 hO hR dX13_undo_45 rfl (fun hi_45 => ?_)
        try simp (disch := decide) only [up_k, up_s, step_at, pool_at, poolN_at, opens_at, closes_at, fl_at, del_at, ins_at, rep_at, psh_at, trn_at, tak_at, pEn_at, cpQ_at, cpP_at, cpT_at, ti_at, th_at, rec_at, saves_at] at hi_45 ⊢
        try rw [e139]
        refine X_if_ne 51 58 hO dX13_undo_48 rfl rfl (by omega) (fun hc_48 => ?_) (fun hc_48 => ?_)
        ·
          refine X_iconst 59 hO dX13_undo_58 rfl ?_
          exact XM_iret hO hF hR rfl (by first | exact Or.inl rfl | exact Or.inr ⟨rfl, bi_01 _⟩ | exact Or.inr ⟨rfl, by omega⟩) dX13_undo_59 (by first | assumption | omega | exact I_rng _) (by first | (exfalso; omega) | (unfold o_undo ; (try unfold m_ti); (try unfold m_th); (repeat (first | rw [if_pos (by omega)] | rw [if_neg (by omega)])); exact ⟨rfl, rfl⟩))
        ·
          refine X_aload_n 52 hO dX13_undo_51 rfl rfl ?_
          refine ga_258 55 hO hR dX13_undo_52 rfl (fun hi_52 => ?_)
          try simp (disch := decide) only [up_k, up_s, step_at, pool_at, poolN_at, opens_at, closes_at, fl_at, del_at, ins_at, rep_at, psh_at, trn_at, tak_at, pEn_at, cpQ_at, cpP_at, cpT_at, ti_at, th_at, rec_at, saves_at] at hi_52 ⊢
          try rw [e126]
          refine X_goto hO dX13_undo_55 (tgt := 59) rfl ?_
          exact XM_iret hO hF hR rfl (by first | exact Or.inl rfl | exact Or.inr ⟨rfl, bi_01 _⟩ | exact Or.inr ⟨rfl, by omega⟩) dX13_undo_59 (by first | assumption | omega | exact I_rng _) (by first | (exfalso; omega) | (unfold o_undo ; (try unfold m_ti); (try unfold m_th); (repeat (first | rw [if_pos (by omega)] | rw [if_neg (by omega)])); exact ⟨rfl, rfl⟩))
      ·
        first | (exfalso; omega) | exact JP31 (by omega) hR
def o_redo (μ : MU) (PL : Int → List Int) (w : Mm) : Int × Mm := if w 132 μ.1 0 = 1 ∨ m_nwst μ (w 126 μ.1 0) w = -1 then (0, m_th μ 1 w) else (m_nwst μ (w 126 μ.1 0) w, m_wks μ PL (m_nwst μ (w 126 μ.1 0) w) (m_th μ 0 w))
theorem dX13_redo_0 : decode cX13_redo 0 = .ok (.aload_n 0, 1) := by decide +kernel
theorem dX13_redo_1 : decode cX13_redo 1 = .ok (.aload_n 0, 1) := by decide +kernel
theorem dX13_redo_2 : decode cX13_redo 2 = .ok (.getfield 280, 3) := by decide +kernel
theorem dX13_redo_5 : decode cX13_redo 5 = .ok (.iconst 1, 1) := by decide +kernel
theorem dX13_redo_6 : decode cX13_redo 6 = .ok (.if_icmp .eq 15, 3) := by decide +kernel
theorem dX13_redo_9 : decode cX13_redo 9 = .ok (.aload_n 0, 1) := by decide +kernel
theorem dX13_redo_10 : decode cX13_redo 10 = .ok (.aload_n 0, 1) := by decide +kernel
theorem dX13_redo_11 : decode cX13_redo 11 = .ok (.getfield 258, 3) := by decide +kernel
theorem dX13_redo_14 : decode cX13_redo 14 = .ok (.invokevirtual 268, 3) := by decide +kernel
theorem dX13_redo_17 : decode cX13_redo 17 = .ok (.iconst (-1), 1) := by decide +kernel
theorem dX13_redo_18 : decode cX13_redo 18 = .ok (.if_icmp .ne 7, 3) := by decide +kernel
theorem dX13_redo_21 : decode cX13_redo 21 = .ok (.iconst 1, 1) := by decide +kernel
theorem dX13_redo_22 : decode cX13_redo 22 = .ok (.goto 4, 3) := by decide +kernel
theorem dX13_redo_25 : decode cX13_redo 25 = .ok (.iconst 0, 1) := by decide +kernel
theorem dX13_redo_26 : decode cX13_redo 26 = .ok (.putfield 171, 3) := by decide +kernel
theorem dX13_redo_29 : decode cX13_redo 29 = .ok (.aload_n 0, 1) := by decide +kernel
theorem dX13_redo_30 : decode cX13_redo 30 = .ok (.getfield 171, 3) := by decide +kernel
theorem dX13_redo_33 : decode cX13_redo 33 = .ok (.ifCond .ne 15, 3) := by decide +kernel
theorem dX13_redo_36 : decode cX13_redo 36 = .ok (.aload_n 0, 1) := by decide +kernel
theorem dX13_redo_37 : decode cX13_redo 37 = .ok (.aload_n 0, 1) := by decide +kernel
theorem dX13_redo_38 : decode cX13_redo 38 = .ok (.aload_n 0, 1) := by decide +kernel
theorem dX13_redo_39 : decode cX13_redo 39 = .ok (.getfield 258, 3) := by decide +kernel
theorem dX13_redo_42 : decode cX13_redo 42 = .ok (.invokevirtual 268, 3) := by decide +kernel
theorem dX13_redo_45 : decode cX13_redo 45 = .ok (.invokevirtual 397, 3) := by decide +kernel
theorem dX13_redo_48 : decode cX13_redo 48 = .ok (.aload_n 0, 1) := by decide +kernel
theorem dX13_redo_49 : decode cX13_redo 49 = .ok (.getfield 171, 3) := by decide +kernel
theorem dX13_redo_52 : decode cX13_redo 52 = .ok (.ifCond .ne 10, 3) := by decide +kernel
theorem dX13_redo_55 : decode cX13_redo 55 = .ok (.aload_n 0, 1) := by decide +kernel
theorem dX13_redo_56 : decode cX13_redo 56 = .ok (.getfield 258, 3) := by decide +kernel
theorem dX13_redo_59 : decode cX13_redo 59 = .ok (.goto 4, 3) := by decide +kernel
theorem dX13_redo_62 : decode cX13_redo 62 = .ok (.iconst 0, 1) := by decide +kernel
theorem dX13_redo_63 : decode cX13_redo 63 = .ok (.ireturn, 1) := by decide +kernel
set_option maxRecDepth 4000 in
theorem c_redo (γ : LC) (μ : MU) (w : Mm) (PL : Int → List Int) (S P M : Int) (hRA : RPA μ PL w) (hEx : bEx μ w) (hR0 : RB μ S P M w) (hS : S ≤ 28900) (hP : P ≤ 500000) (hM : M ≤ 590) : CMi γ μ 6 mX13_redo [] w (fun r w' => r = (o_redo μ PL w).1 ∧ w' = (o_redo μ PL w).2) := by
  refine CMi_of rfl (by simp [rv_cat, Value.category]) rfl ?_
  rintro κ hO hF rfl hR
  have hD := hF.dp
  show X κ 0 0 w 0 [some (rv μ.1)] []
  have hX : RB μ S P M (up w 139 μ.1 0 0) := hR0.fld (by decide)
  have hXT := hX.2.1.2.2.2.1
  have x124 : up w 139 μ.1 0 0 124 μ.1 0 = w 124 μ.1 0 := up_k _ (by decide) _ _ _ _ _
  have x210 : up w 139 μ.1 0 0 210 0 0 = w 210 0 0 := up_k _ (by decide) _ _ _ _ _
  have hTB := hR0.2.1.2.2.2.1
  have hcu := hTB.2.2.1
  have hnw := nwst_rng (μ := μ) (x := w 126 μ.1 0) (w := w) hTB.1.1
  have hL := hR0.1
  obtain ⟨f1, f2, f3, f4, f5⟩ := hR0.1.f
  obtain ⟨t1, t2, t3, t4, t5, t6, t7⟩ := hR0.2.1.2.2.2.1
  have JP36 : (w 132 μ.1 0 ≠ 1 ∧ m_nwst μ (w 126 μ.1 0) w ≠ -1) → (RM (up w 139 μ.1 0 0) μ) → X κ 0 0 (up w 139 μ.1 0 0) 36 [some (rv μ.1)] [] := by
    intro  hnz hR
    refine X_aload_n 37 hO dX13_redo_36 rfl rfl ?_
    refine X_aload_n 38 hO dX13_redo_37 rfl rfl ?_
    refine X_aload_n 39 hO dX13_redo_38 rfl rfl ?_
    refine ga_258 42 hO hR dX13_redo_39 rfl (fun hi_39 => ?_)
    try simp (disch := decide) only [up_k, up_s, step_at, pool_at, poolN_at, opens_at, closes_at, fl_at, del_at, ins_at, rep_at, psh_at, trn_at, tak_at, pEn_at, cpQ_at, cpP_at, cpT_at, ti_at, th_at, rec_at, saves_at] at hi_39 ⊢
    refine XM_callVi 45 hO hD hR lX13_268 [_] rfl dX13_redo_42 rfl (c_newest _ _ _ _ M (by omega) hXT (by omega)) (by decide) (by simp only [List.map_cons, List.map_nil, rv_cat]; exact Nat.le_of_ble_eq_true rfl) (fun r_42 w_42 hr_42 hp_42 hR => ?_)
    obtain ⟨e1_42, e2_42⟩ := hp_42
    subst e1_42
    subst e2_42
    rw [nwst_up (by decide)]
    refine XM_callVv 48 hO hD hR lX13_397 [_] rfl dX13_redo_45 rfl (c_walks _ _ _ _ M PL hXT (by omega) (by rw [x124]; omega) hX.2.1.2.2.1 hX.1.2.2.1 (by rw [x210]; omega) hX.1.2.1.e ((hRA (m_nwst μ (w 126 μ.1 0) w) (by omega) (by omega) (by omega)).up (by decide))) (by decide) (by simp only [List.map_cons, List.map_nil, rv_cat]; exact Nat.le_of_ble_eq_true rfl) (fun w_45 hp_45 hR => ?_)
    subst hp_45
    have hRPx : RPk μ PL ((m_nwst μ (w 126 μ.1 0) w)) (up w 139 μ.1 0 0) := (hRA ((m_nwst μ (w 126 μ.1 0) w)) (by omega) (by omega) (by omega)).up (by decide)
    have e139 : m_wks μ PL ((m_nwst μ (w 126 μ.1 0) w)) (up w 139 μ.1 0 0) 139 μ.1 0 = 0 := by rw [wks_at hX.2.1.2.2.1 hX.1.2.2.1 hRPx (by decide), up_s]
    have e126 := wks_126 (μ := μ) (PL := PL) (x := (m_nwst μ (w 126 μ.1 0) w)) (w := up w 139 μ.1 0 0)
    refine X_aload_n 49 hO dX13_redo_48 rfl rfl ?_
    refine ga_171 52 hO hR dX13_redo_49 rfl (fun hi_49 => ?_)
    try simp (disch := decide) only [up_k, up_s, step_at, pool_at, poolN_at, opens_at, closes_at, fl_at, del_at, ins_at, rep_at, psh_at, trn_at, tak_at, pEn_at, cpQ_at, cpP_at, cpT_at, ti_at, th_at, rec_at, saves_at] at hi_49 ⊢
    try rw [e139]
    refine X_if_ne 55 62 hO dX13_redo_52 rfl rfl (by omega) (fun hc_52 => ?_) (fun hc_52 => ?_)
    ·
      refine X_iconst 63 hO dX13_redo_62 rfl ?_
      exact XM_iret hO hF hR rfl (by first | exact Or.inl rfl | exact Or.inr ⟨rfl, bi_01 _⟩ | exact Or.inr ⟨rfl, by omega⟩) dX13_redo_63 (by first | assumption | omega | exact I_rng _) (by first | (exfalso; omega) | (unfold o_redo ; (try unfold m_ti); (try unfold m_th); (repeat (first | rw [if_pos (by omega)] | rw [if_neg (by omega)])); exact ⟨rfl, rfl⟩))
    ·
      refine X_aload_n 56 hO dX13_redo_55 rfl rfl ?_
      refine ga_258 59 hO hR dX13_redo_56 rfl (fun hi_56 => ?_)
      try simp (disch := decide) only [up_k, up_s, step_at, pool_at, poolN_at, opens_at, closes_at, fl_at, del_at, ins_at, rep_at, psh_at, trn_at, tak_at, pEn_at, cpQ_at, cpP_at, cpT_at, ti_at, th_at, rec_at, saves_at] at hi_56 ⊢
      try rw [e126]
      refine X_goto hO dX13_redo_59 (tgt := 63) rfl ?_
      exact XM_iret hO hF hR rfl (by first | exact Or.inl rfl | exact Or.inr ⟨rfl, bi_01 _⟩ | exact Or.inr ⟨rfl, by omega⟩) dX13_redo_63 (by first | assumption | omega | exact I_rng _) (by first | (exfalso; omega) | (unfold o_redo ; (try unfold m_ti); (try unfold m_th); (repeat (first | rw [if_pos (by omega)] | rw [if_neg (by omega)])); exact ⟨rfl, rfl⟩))
  refine X_aload_n 1 hO dX13_redo_0 rfl rfl ?_
  refine X_aload_n 2 hO dX13_redo_1 rfl rfl ?_
  refine ga_280 5 hO hR dX13_redo_2 rfl (fun hi_2 => ?_)
  try simp (disch := decide) only [up_k, up_s, step_at, pool_at, poolN_at, opens_at, closes_at, fl_at, del_at, ins_at, rep_at, psh_at, trn_at, tak_at, pEn_at, cpQ_at, cpP_at, cpT_at, ti_at, th_at, rec_at, saves_at] at hi_2 ⊢
  refine X_iconst 6 hO dX13_redo_5 rfl ?_
  refine X_icmp_eq 9 21 hO dX13_redo_6 rfl rfl (by omega) (by omega) (fun hc_6 => ?_) (fun hc_6 => ?_)
  ·
    refine X_iconst 22 hO dX13_redo_21 rfl ?_
    refine X_goto hO dX13_redo_22 (tgt := 26) rfl ?_
    refine pa_171 29 hO hR dX13_redo_26 rfl (by omega) (fun hR => ?_)
    refine X_aload_n 30 hO dX13_redo_29 rfl rfl ?_
    refine ga_171 33 hO hR dX13_redo_30 rfl (fun hi_30 => ?_)
    try simp (disch := decide) only [up_k, up_s, step_at, pool_at, poolN_at, opens_at, closes_at, fl_at, del_at, ins_at, rep_at, psh_at, trn_at, tak_at, pEn_at, cpQ_at, cpP_at, cpT_at, ti_at, th_at, rec_at, saves_at] at hi_30 ⊢
    refine X_if_ne 36 48 hO dX13_redo_33 rfl rfl (by omega) (fun hc_33 => ?_) (fun hc_33 => ?_)
    ·
      refine X_aload_n 49 hO dX13_redo_48 rfl rfl ?_
      refine ga_171 52 hO hR dX13_redo_49 rfl (fun hi_49 => ?_)
      try simp (disch := decide) only [up_k, up_s, step_at, pool_at, poolN_at, opens_at, closes_at, fl_at, del_at, ins_at, rep_at, psh_at, trn_at, tak_at, pEn_at, cpQ_at, cpP_at, cpT_at, ti_at, th_at, rec_at, saves_at] at hi_49 ⊢
      try rw [e139]
      refine X_if_ne 55 62 hO dX13_redo_52 rfl rfl (by omega) (fun hc_52 => ?_) (fun hc_52 => ?_)
      ·
        refine X_iconst 63 hO dX13_redo_62 rfl ?_
        exact XM_iret hO hF hR rfl (by first | exact Or.inl rfl | exact Or.inr ⟨rfl, bi_01 _⟩ | exact Or.inr ⟨rfl, by omega⟩) dX13_redo_63 (by first | assumption | omega | exact I_rng _) (by first | (exfalso; omega) | (unfold o_redo ; (try unfold m_ti); (try unfold m_th); (repeat (first | rw [if_pos (by omega)] | rw [if_neg (by omega)])); exact ⟨rfl, rfl⟩))
      ·
        refine X_aload_n 56 hO dX13_redo_55 rfl rfl ?_
        refine ga_258 59 hO hR dX13_redo_56 rfl (fun hi_56 => ?_)
        try simp (disch := decide) only [up_k, up_s, step_at, pool_at, poolN_at, opens_at, closes_at, fl_at, del_at, ins_at, rep_at, psh_at, trn_at, tak_at, pEn_at, cpQ_at, cpP_at, cpT_at, ti_at, th_at, rec_at, saves_at] at hi_56 ⊢
        try rw [e126]
        refine X_goto hO dX13_redo_59 (tgt := 63) rfl ?_
        exact XM_iret hO hF hR rfl (by first | exact Or.inl rfl | exact Or.inr ⟨rfl, bi_01 _⟩ | exact Or.inr ⟨rfl, by omega⟩) dX13_redo_63 (by first | assumption | omega | exact I_rng _) (by first | (exfalso; omega) | (unfold o_redo ; (try unfold m_ti); (try unfold m_th); (repeat (first | rw [if_pos (by omega)] | rw [if_neg (by omega)])); exact ⟨rfl, rfl⟩))
    ·
      first | (exfalso; omega) | exact JP36 (by omega) hR
  ·
    refine X_aload_n 10 hO dX13_redo_9 rfl rfl ?_
    refine X_aload_n 11 hO dX13_redo_10 rfl rfl ?_
    refine ga_258 14 hO hR dX13_redo_11 rfl (fun hi_11 => ?_)
    try simp (disch := decide) only [up_k, up_s, step_at, pool_at, poolN_at, opens_at, closes_at, fl_at, del_at, ins_at, rep_at, psh_at, trn_at, tak_at, pEn_at, cpQ_at, cpP_at, cpT_at, ti_at, th_at, rec_at, saves_at] at hi_11 ⊢
    refine XM_callVi 17 hO hD hR lX13_268 [_] rfl dX13_redo_14 rfl (c_newest _ _ _ _ M (by omega) hTB (by omega)) (by decide) (by simp only [List.map_cons, List.map_nil, rv_cat]; exact Nat.le_of_ble_eq_true rfl) (fun r_14 w_14 hr_14 hp_14 hR => ?_)
    obtain ⟨e1_14, e2_14⟩ := hp_14
    subst e1_14
    subst e2_14
    refine X_iconst 18 hO dX13_redo_17 rfl ?_
    refine X_icmp_ne 21 25 hO dX13_redo_18 rfl rfl (by omega) (by omega) (fun hc_18 => ?_) (fun hc_18 => ?_)
    ·
      refine X_iconst 26 hO dX13_redo_25 rfl ?_
      refine pa_171 29 hO hR dX13_redo_26 rfl (by omega) (fun hR => ?_)
      refine X_aload_n 30 hO dX13_redo_29 rfl rfl ?_
      refine ga_171 33 hO hR dX13_redo_30 rfl (fun hi_30 => ?_)
      try simp (disch := decide) only [up_k, up_s, step_at, pool_at, poolN_at, opens_at, closes_at, fl_at, del_at, ins_at, rep_at, psh_at, trn_at, tak_at, pEn_at, cpQ_at, cpP_at, cpT_at, ti_at, th_at, rec_at, saves_at] at hi_30 ⊢
      refine X_if_ne 36 48 hO dX13_redo_33 rfl rfl (by omega) (fun hc_33 => ?_) (fun hc_33 => ?_)
      ·
        refine X_aload_n 49 hO dX13_redo_48 rfl rfl ?_
        refine ga_171 52 hO hR dX13_redo_49 rfl (fun hi_49 => ?_)
        try simp (disch := decide) only [up_k, up_s, step_at, pool_at, poolN_at, opens_at, closes_at, fl_at, del_at, ins_at, rep_at, psh_at, trn_at, tak_at, pEn_at, cpQ_at, cpP_at, cpT_at, ti_at, th_at, rec_at, saves_at] at hi_49 ⊢
        try rw [e139]
        refine X_if_ne 55 62 hO dX13_redo_52 rfl rfl (by omega) (fun hc_52 => ?_) (fun hc_52 => ?_)
        ·
          refine X_iconst 63 hO dX13_redo_62 rfl ?_
          exact XM_iret hO hF hR rfl (by first | exact Or.inl rfl | exact Or.inr ⟨rfl, bi_01 _⟩ | exact Or.inr ⟨rfl, by omega⟩) dX13_redo_63 (by first | assumption | omega | exact I_rng _) (by first | (exfalso; omega) | (unfold o_redo ; (try unfold m_ti); (try unfold m_th); (repeat (first | rw [if_pos (by omega)] | rw [if_neg (by omega)])); exact ⟨rfl, rfl⟩))
        ·
          refine X_aload_n 56 hO dX13_redo_55 rfl rfl ?_
          refine ga_258 59 hO hR dX13_redo_56 rfl (fun hi_56 => ?_)
          try simp (disch := decide) only [up_k, up_s, step_at, pool_at, poolN_at, opens_at, closes_at, fl_at, del_at, ins_at, rep_at, psh_at, trn_at, tak_at, pEn_at, cpQ_at, cpP_at, cpT_at, ti_at, th_at, rec_at, saves_at] at hi_56 ⊢
          try rw [e126]
          refine X_goto hO dX13_redo_59 (tgt := 63) rfl ?_
          exact XM_iret hO hF hR rfl (by first | exact Or.inl rfl | exact Or.inr ⟨rfl, bi_01 _⟩ | exact Or.inr ⟨rfl, by omega⟩) dX13_redo_63 (by first | assumption | omega | exact I_rng _) (by first | (exfalso; omega) | (unfold o_redo ; (try unfold m_ti); (try unfold m_th); (repeat (first | rw [if_pos (by omega)] | rw [if_neg (by omega)])); exact ⟨rfl, rfl⟩))
      ·
        first | (exfalso; omega) | exact JP36 (by omega) hR
    ·
      refine X_iconst 22 hO dX13_redo_21 rfl ?_
      refine X_goto hO dX13_redo_22 (tgt := 26) rfl ?_
      refine pa_171 29 hO hR dX13_redo_26 rfl (by omega) (fun hR => ?_)
      refine X_aload_n 30 hO dX13_redo_29 rfl rfl ?_
      refine ga_171 33 hO hR dX13_redo_30 rfl (fun hi_30 => ?_)
      try simp (disch := decide) only [up_k, up_s, step_at, pool_at, poolN_at, opens_at, closes_at, fl_at, del_at, ins_at, rep_at, psh_at, trn_at, tak_at, pEn_at, cpQ_at, cpP_at, cpT_at, ti_at, th_at, rec_at, saves_at] at hi_30 ⊢
      refine X_if_ne 36 48 hO dX13_redo_33 rfl rfl (by omega) (fun hc_33 => ?_) (fun hc_33 => ?_)
      ·
        refine X_aload_n 49 hO dX13_redo_48 rfl rfl ?_
        refine ga_171 52 hO hR dX13_redo_49 rfl (fun hi_49 => ?_)
        try simp (disch := decide) only [up_k, up_s, step_at, pool_at, poolN_at, opens_at, closes_at, fl_at, del_at, ins_at, rep_at, psh_at, trn_at, tak_at, pEn_at, cpQ_at, cpP_at, cpT_at, ti_at, th_at, rec_at, saves_at] at hi_49 ⊢
        try rw [e139]
        refine X_if_ne 55 62 hO dX13_redo_52 rfl rfl (by omega) (fun hc_52 => ?_) (fun hc_52 => ?_)
        ·
          refine X_iconst 63 hO dX13_redo_62 rfl ?_
          exact XM_iret hO hF hR rfl (by first | exact Or.inl rfl | exact Or.inr ⟨rfl, bi_01 _⟩ | exact Or.inr ⟨rfl, by omega⟩) dX13_redo_63 (by first | assumption | omega | exact I_rng _) (by first | (exfalso; omega) | (unfold o_redo ; (try unfold m_ti); (try unfold m_th); (repeat (first | rw [if_pos (by omega)] | rw [if_neg (by omega)])); exact ⟨rfl, rfl⟩))
        ·
          refine X_aload_n 56 hO dX13_redo_55 rfl rfl ?_
          refine ga_258 59 hO hR dX13_redo_56 rfl (fun hi_56 => ?_)
          try simp (disch := decide) only [up_k, up_s, step_at, pool_at, poolN_at, opens_at, closes_at, fl_at, del_at, ins_at, rep_at, psh_at, trn_at, tak_at, pEn_at, cpQ_at, cpP_at, cpT_at, ti_at, th_at, rec_at, saves_at] at hi_56 ⊢
          try rw [e126]
          refine X_goto hO dX13_redo_59 (tgt := 63) rfl ?_
          exact XM_iret hO hF hR rfl (by first | exact Or.inl rfl | exact Or.inr ⟨rfl, bi_01 _⟩ | exact Or.inr ⟨rfl, by omega⟩) dX13_redo_63 (by first | assumption | omega | exact I_rng _) (by first | (exfalso; omega) | (unfold o_redo ; (try unfold m_ti); (try unfold m_th); (repeat (first | rw [if_pos (by omega)] | rw [if_neg (by omega)])); exact ⟨rfl, rfl⟩))
      ·
        first | (exfalso; omega) | exact JP36 (by omega) hR
