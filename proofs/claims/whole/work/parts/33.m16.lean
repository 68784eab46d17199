def m_cl1 (μ : MU) (q : Int × Mm) : Int × Mm := if q.1 = 0 then (0, up (up q.2 132 μ.1 0 1) 139 μ.1 0 1) else (q.2 126 μ.1 0, up q.2 129 μ.1 0 (-1))
def m_clW (μ : MU) (w : Mm) : Mm := up (m_saves μ 2 (up w 139 μ.1 0 (1 - w 132 μ.1 0))) 132 μ.1 0 0
theorem clW_ok {μ : MU} {S P M : Int} {w : Mm} (h : RB μ S P M w) : LB μ S P (m_clW μ w) ∧ RK μ S P M (m_clW μ w) ∧ m_clW μ w 122 μ.1 0 ≤ m_clW μ w 120 μ.1 0 := by
  obtain ⟨p1, p2, p3⟩ := cal_pre (h.fld (c := 139) (a := μ.1) (i := 0) (v := 1 - w 132 μ.1 0) (by decide))
  refine ⟨p1.up_o (by decide), p2.up_o (by decide), ?_⟩
  unfold m_clW
  rw [up_k _ (by decide), up_k _ (by decide), p3 _ _ _ (by decide), p3 _ _ _ (by decide), up_k _ (by decide), up_k _ (by decide)]
  have hz := h.2.2.1
  unfold bZ at hz
  exact hz.2.2.1.1
def m_trW (μ : MU) (s : Int) (w : Mm) : Mm := m_tells μ s (up (m_saves μ 2 (m_th μ 0 w)) 211 0 s 1)
def m_tr1 (μ : MU) (s : Int) (q : Int × Mm) : Mm := if q.1 = 0 then up (up q.2 211 0 s 0) 139 μ.1 0 2 else up q.2 129 μ.1 0 (-1)
theorem LB.tr {μ : MU} {S P s v : Int} {w : Mm} (h : LB μ S P w) (hv : v = 0 ∨ v = 1) : LB μ S P (up w 211 0 s v) := by
  obtain ⟨h1, h2, h3, h4, h5⟩ := h
  refine ⟨h1.cong fun c _ _ _ _ => up_k _ (by omega) _ _ _ _ _, h2.cong (fun c _ _ _ _ => up_k _ (by omega) _ _ _ _ _) (up_k _ (by omega) _ _ _ _ _), h3.cong fun i => up_k _ (by omega) _ _ _ _ _, fun i a b => ?_, h5.cong (up_k _ (by omega) _ _ _ _ _) (up_k _ (by omega) _ _ _ _ _)⟩
  rw [up_ii]
  split
  · exact hv
  · exact h4 i a b
theorem LB.tel {μ : MU} {S P s : Int} {b : Mm} (hb : SB 0 b) (hs : 0 ≤ s ∧ s ≤ 4) : ∀ (n : Nat) (w : Mm), n ≤ 4 → LB μ S P w → LB μ S (P + 21 * n) (m_tel μ s b n w)
  | 0, w, _, h => h.mono (by omega) (by omega)
  | n + 1, w, hn, h => by
    have h1 := LB.tel hb hs n w (by omega) h
    exact ((h1.pool).pEn hb (by omega)).mono (by omega) (by omega)
theorem LB.tells {μ : MU} {S P s : Int} {w : Mm} (h : LB μ S P w) (hs : 0 ≤ s ∧ s ≤ 4) : LB μ (S + 1) (P + 85) (m_tells μ s w) := by
  have hc := h.cn hs
  exact (LB.tel h.1 hs (w 204 0 s).toNat _ (by omega) (h.step.pool)).mono (by omega) (by omega)
theorem tells_at {μ : MU} {s : Int} {w : Mm} {c : Nat} {a i : Int} (h : c ≠ 212 ∧ c ≠ 120 ∧ c ≠ 213 ∧ c ≠ 121) : m_tells μ s w c a i = w c a i := by
  unfold m_tells; rw [tel_at ⟨h.2.2.1, h.2.2.2⟩, pool_at ⟨h.2.2.1, h.2.2.2⟩, step_at ⟨h.1, h.2.1⟩]
theorem tells_120 {μ : MU} {s : Int} {w : Mm} : m_tells μ s w 120 μ.1 0 = w 120 μ.1 0 + 1 := by
  unfold m_tells; rw [tel_at (by decide), pool_at (by decide)]; unfold m_step; rw [up_s]
theorem trW_ok {μ : MU} {S P M s : Int} {w : Mm} (hs : 0 ≤ s ∧ s ≤ 4) (h : RB μ S P M w) : LB μ S P (up (m_saves μ 2 (m_th μ 0 w)) 211 0 s 1) ∧ LB μ (S + 1) (P + 85) (m_trW μ s w) ∧ RK μ S P M (m_trW μ s w) ∧ m_trW μ s w 122 μ.1 0 ≤ m_trW μ s w 120 μ.1 0 := by
  obtain ⟨p1, p2, p3⟩ := cal_pre (h.th (k := 0))
  have h1 : LB μ S P (up (m_saves μ 2 (m_th μ 0 w)) 211 0 s 1) := p1.tr (Or.inr rfl)
  refine ⟨h1, h1.tells hs, (p2.up_o (c := 211) (a := 0) (i := s) (v := 1) (by decide)).cong fun c a i hc => tells_at (by omega), ?_⟩
  unfold m_trW
  rw [tells_120, tells_at (by decide), up_k _ (by decide), up_k _ (by decide), p3 _ _ _ (by decide), p3 _ _ _ (by decide), th_at (by decide), th_at (by decide)]
  have hz := h.2.2.1
  unfold bZ at hz
  omega
def m_stW (μ : MU) (m : Int) (w : Mm) : Mm := up (fl w 235 (48 * m) 48 (fun k => w 235 0 (192 + (k - 48 * m)))) 236 0 m (w 236 0 4)
def m_st1 (μ : MU) (m : Int) (w : Mm) : Int × Mm := (w 236 0 4, up (up (m_stW μ m w) 133 μ.1 0 (-1)) 129 μ.1 0 (-1))
def m_fail (μ : MU) (r m p : Int) (w : Mm) : Mm := up (up w 134 μ.1 0 r) 135 μ.1 0 (100 * m + p)
def o_close (μ : MU)  (w : Mm) : Int × Mm := if w 132 μ.1 0 = 0 then (0, m_th μ 1 w) else m_cl1 μ (m_ends μ 0 (m_clW μ w))
theorem dX13_close_0 : decode cX13_close 0 = .ok (.aload_n 0, 1) := by decide +kernel
theorem dX13_close_1 : decode cX13_close 1 = .ok (.iconst 1, 1) := by decide +kernel
theorem dX13_close_2 : decode cX13_close 2 = .ok (.aload_n 0, 1) := by decide +kernel
theorem dX13_close_3 : decode cX13_close 3 = .ok (.getfield 280, 3) := by decide +kernel
theorem dX13_close_6 : decode cX13_close 6 = .ok (.isub, 1) := by decide +kernel
theorem dX13_close_7 : decode cX13_close 7 = .ok (.putfield 171, 3) := by decide +kernel
theorem dX13_close_10 : decode cX13_close 10 = .ok (.aload_n 0, 1) := by decide +kernel
theorem dX13_close_11 : decode cX13_close 11 = .ok (.getfield 171, 3) := by decide +kernel
theorem dX13_close_14 : decode cX13_close 14 = .ok (.ifCond .le 5, 3) := by decide +kernel
theorem dX13_close_17 : decode cX13_close 17 = .ok (.iconst 0, 1) := by decide +kernel
theorem dX13_close_18 : decode cX13_close 18 = .ok (.ireturn, 1) := by decide +kernel
theorem dX13_close_19 : decode cX13_close 19 = .ok (.aload_n 0, 1) := by decide +kernel
theorem dX13_close_20 : decode cX13_close 20 = .ok (.iconst 2, 1) := by decide +kernel
theorem dX13_close_21 : decode cX13_close 21 = .ok (.invokevirtual 343, 3) := by decide +kernel
theorem dX13_close_24 : decode cX13_close 24 = .ok (.aload_n 0, 1) := by decide +kernel
theorem dX13_close_25 : decode cX13_close 25 = .ok (.iconst 0, 1) := by decide +kernel
theorem dX13_close_26 : decode cX13_close 26 = .ok (.putfield 280, 3) := by decide +kernel
theorem dX13_close_29 : decode cX13_close 29 = .ok (.aload_n 0, 1) := by decide +kernel
theorem dX13_close_30 : decode cX13_close 30 = .ok (.iconst 0, 1) := by decide +kernel
theorem dX13_close_31 : decode cX13_close 31 = .ok (.invokevirtual 352, 3) := by decide +kernel
theorem dX13_close_34 : decode cX13_close 34 = .ok (.ifCond .ne 15, 3) := by decide +kernel
theorem dX13_close_37 : decode cX13_close 37 = .ok (.aload_n 0, 1) := by decide +kernel
theorem dX13_close_38 : decode cX13_close 38 = .ok (.iconst 1, 1) := by decide +kernel
theorem dX13_close_39 : decode cX13_close 39 = .ok (.putfield 280, 3) := by decide +kernel
theorem dX13_close_42 : decode cX13_close 42 = .ok (.aload_n 0, 1) := by decide +kernel
theorem dX13_close_43 : decode cX13_close 43 = .ok (.iconst 1, 1) := by decide +kernel
theorem dX13_close_44 : decode cX13_close 44 = .ok (.putfield 171, 3) := by decide +kernel
theorem dX13_close_47 : decode cX13_close 47 = .ok (.iconst 0, 1) := by decide +kernel
theorem dX13_close_48 : decode cX13_close 48 = .ok (.ireturn, 1) := by decide +kernel
theorem dX13_close_49 : decode cX13_close 49 = .ok (.aload_n 0, 1) := by decide +kernel
theorem dX13_close_50 : decode cX13_close 50 = .ok (.iconst (-1), 1) := by decide +kernel
theorem dX13_close_51 : decode cX13_close 51 = .ok (.putfield 105, 3) := by decide +kernel
theorem dX13_close_54 : decode cX13_close 54 = .ok (.aload_n 0, 1) := by decide +kernel
theorem dX13_close_55 : decode cX13_close 55 = .ok (.getfield 258, 3) := by decide +kernel
theorem dX13_close_58 : decode cX13_close 58 = .ok (.ireturn, 1) := by decide +kernel
set_option maxRecDepth 4000 in
theorem c_close (γ : LC) (μ : MU) (w : Mm)  (S P M : Int)  (hR0 : RB μ S P M w) (hS : S ≤ 28900) (hP : P ≤ 500000) (hM : M ≤ 590) : CMi γ μ 5 mX13_close [] w (fun r w' => r = (o_close μ  w).1 ∧ w' = (o_close μ  w).2) := by
  refine CMi_of rfl (by simp [rv_cat, Value.category]) rfl ?_
  rintro κ hO hF rfl hR
  have hD := hF.dp
  show X κ 0 0 w 0 [some (rv μ.1)] []
  have hz := hR0.2.2.1
  unfold bZ at hz
  obtain ⟨q1, q2, q3⟩ := clW_ok hR0
  obtain ⟨p1, p2, p3⟩ := cal_pre (hR0.fld (c := 139) (a := μ.1) (i := 0) (v := 1 - w 132 μ.1 0) (by decide))
  obtain ⟨e1, e2, e3⟩ := ends_ok (g := 0) q1 q2 q3 (by decide) (by omega) (by omega)
  obtain ⟨y1, y2, y3, y4, y5, y6, y7⟩ := e2.2.2.2.1
  have e21 : up w 139 μ.1 0 (1 - w 132 μ.1 0) 201 0 0 = w 201 0 0 := up_k _ (by decide) _ _ _ _ _
  have hL := hR0.1
  obtain ⟨f1, f2, f3, f4, f5⟩ := hR0.1.f
  obtain ⟨t1, t2, t3, t4, t5, t6, t7⟩ := hR0.2.1.2.2.2.1
  refine X_aload_n 1 hO dX13_close_0 rfl rfl ?_
  refine X_iconst 2 hO dX13_close_1 rfl ?_
  refine X_aload_n 3 hO dX13_close_2 rfl rfl ?_
  refine ga_280 6 hO hR dX13_close_3 rfl (fun hi_3 => ?_)
  try simp (disch := decide) only [up_k, up_s, step_at, pool_at, poolN_at, opens_at, closes_at, fl_at, del_at, ins_at, rep_at, psh_at, trn_at, tak_at, pEn_at, cpQ_at, cpP_at, cpT_at, ti_at, th_at, rec_at, saves_at] at hi_3 ⊢
  refine X_isub 7 hO dX13_close_6 rfl ?_
  refine pa_171 10 hO hR dX13_close_7 rfl (by omega) (fun hR => ?_)
  refine X_aload_n 11 hO dX13_close_10 rfl rfl ?_
  refine ga_171 14 hO hR dX13_close_11 rfl (fun hi_11 => ?_)
  try simp (disch := decide) only [up_k, up_s, step_at, pool_at, poolN_at, opens_at, closes_at, fl_at, del_at, ins_at, rep_at, psh_at, trn_at, tak_at, pEn_at, cpQ_at, cpP_at, cpT_at, ti_at, th_at, rec_at, saves_at] at hi_11 ⊢
  refine X_if_le 17 19 hO dX13_close_14 rfl rfl (by omega) (fun hc_14 => ?_) (fun hc_14 => ?_)
  ·
    refine X_aload_n 20 hO dX13_close_19 rfl rfl ?_
    refine X_iconst 21 hO dX13_close_20 rfl ?_
    refine XM_callVv 24 hO hD hR lX13_343 [_] rfl dX13_close_21 rfl (c_saves _ _ _ _ (by omega) (by omega)) (by decide) (by simp only [List.map_cons, List.map_nil, rv_cat]; exact Nat.le_of_ble_eq_true rfl) (fun w_21 hp_21 hR => ?_)
    subst hp_21
    refine X_aload_n 25 hO dX13_close_24 rfl rfl ?_
    refine X_iconst 26 hO dX13_close_25 rfl ?_
    refine pa_280 29 hO hR dX13_close_26 rfl (by omega) (fun hR => ?_)
    rw [show up (m_saves μ 2 (up w 139 μ.1 0 (1 - w 132 μ.1 0))) 132 μ.1 0 0 = m_clW μ w from rfl] at hR ⊢
    refine X_aload_n 30 hO dX13_close_29 rfl rfl ?_
    refine X_iconst 31 hO dX13_close_30 rfl ?_
    refine XM_callVi 34 hO hD hR lX13_352 [_] rfl dX13_close_31 rfl (c_ends _ _ _ _ S P M (by decide) q3 q1 q2 (by omega) (by omega) (by omega)) (by decide) (by simp only [List.map_cons, List.map_nil, rv_cat]; exact Nat.le_of_ble_eq_true rfl) (fun r_31 w_31 hr_31 hp_31 hR => ?_)
    obtain ⟨e1_31, e2_31⟩ := hp_31
    subst e1_31
    subst e2_31
    refine X_if_ne 37 49 hO dX13_close_34 rfl rfl (by omega) (fun hc_34 => ?_) (fun hc_34 => ?_)
    ·
      try simp only [bi_0, bi_ne, ne_eq, Classical.not_not] at hc_34
      refine X_aload_n 50 hO dX13_close_49 rfl rfl ?_
      refine X_iconst 51 hO dX13_close_50 rfl ?_
      refine pa_105 54 hO hR dX13_close_51 rfl (by omega) (fun hR => ?_)
      refine X_aload_n 55 hO dX13_close_54 rfl rfl ?_
      refine ga_258 58 hO hR dX13_close_55 rfl (fun hi_55 => ?_)
      try simp (disch := decide) only [up_k, up_s, step_at, pool_at, poolN_at, opens_at, closes_at, fl_at, del_at, ins_at, rep_at, psh_at, trn_at, tak_at, pEn_at, cpQ_at, cpP_at, cpT_at, ti_at, th_at, rec_at, saves_at] at hi_55 ⊢
      exact XM_iret hO hF hR rfl (by first | exact Or.inl rfl | exact Or.inr ⟨rfl, bi_01 _⟩ | exact Or.inr ⟨rfl, by omega⟩) dX13_close_58 (by first | assumption | omega | exact I_rng _) (by unfold o_close m_cl1; (repeat (first | rw [if_pos (by omega)] | rw [if_neg (by omega)])); exact ⟨rfl, rfl⟩)
    ·
      try simp only [bi_0, bi_ne, ne_eq, Classical.not_not] at hc_34
      refine X_aload_n 38 hO dX13_close_37 rfl rfl ?_
      refine X_iconst 39 hO dX13_close_38 rfl ?_
      refine pa_280 42 hO hR dX13_close_39 rfl (by omega) (fun hR => ?_)
      refine X_aload_n 43 hO dX13_close_42 rfl rfl ?_
      refine X_iconst 44 hO dX13_close_43 rfl ?_
      refine pa_171 47 hO hR dX13_close_44 rfl (by omega) (fun hR => ?_)
      refine X_iconst 48 hO dX13_close_47 rfl ?_
      exact XM_iret hO hF hR rfl (by first | exact Or.inl rfl | exact Or.inr ⟨rfl, bi_01 _⟩ | exact Or.inr ⟨rfl, by omega⟩) dX13_close_48 (by first | assumption | omega | exact I_rng _) (by unfold o_close m_cl1; (repeat (first | rw [if_pos (by omega)] | rw [if_neg (by omega)])); exact ⟨rfl, rfl⟩)
  ·
    refine X_iconst 18 hO dX13_close_17 rfl ?_
    exact XM_iret hO hF hR rfl (by first | exact Or.inl rfl | exact Or.inr ⟨rfl, bi_01 _⟩ | exact Or.inr ⟨rfl, by omega⟩) dX13_close_18 (by first | assumption | omega | exact I_rng _) (by unfold o_close m_th; rw [if_pos (by omega), show 1 - w 132 μ.1 0 = 1 by omega]; exact ⟨rfl, rfl⟩)
def o_track (μ : MU) (s : Int) (w : Mm) : Mm := if 0 ≤ s ∧ s ≤ 4 then (if w 211 0 s = 1 then m_th μ 2 w else m_tr1 μ s (m_ends μ 0 (m_trW μ s w))) else m_th μ 1 w
theorem dX13_track_0 : decode cX13_track 0 = .ok (.aload_n 0, 1) := by decide +kernel
theorem dX13_track_1 : decode cX13_track 1 = .ok (.iload_n 1, 1) := by decide +kernel
theorem dX13_track_2 : decode cX13_track 2 = .ok (.iconst 0, 1) := by decide +kernel
theorem dX13_track_3 : decode cX13_track 3 = .ok (.iconst 4, 1) := by decide +kernel
theorem dX13_track_4 : decode cX13_track 4 = .ok (.invokestatic 174, 3) := by decide +kernel
theorem dX13_track_7 : decode cX13_track 7 = .ok (.ifCond .ne 7, 3) := by decide +kernel
theorem dX13_track_10 : decode cX13_track 10 = .ok (.iconst 1, 1) := by decide +kernel
theorem dX13_track_11 : decode cX13_track 11 = .ok (.goto 18, 3) := by decide +kernel
theorem dX13_track_14 : decode cX13_track 14 = .ok (.aload_n 0, 1) := by decide +kernel
theorem dX13_track_15 : decode cX13_track 15 = .ok (.getfield 43, 3) := by decide +kernel
theorem dX13_track_18 : decode cX13_track 18 = .ok (.iload_n 1, 1) := by decide +kernel
theorem dX13_track_19 : decode cX13_track 19 = .ok (.iaload, 1) := by decide +kernel
theorem dX13_track_20 : decode cX13_track 20 = .ok (.iconst 1, 1) := by decide +kernel
theorem dX13_track_21 : decode cX13_track 21 = .ok (.if_icmp .ne 7, 3) := by decide +kernel
theorem dX13_track_24 : decode cX13_track 24 = .ok (.iconst 2, 1) := by decide +kernel
theorem dX13_track_25 : decode cX13_track 25 = .ok (.goto 4, 3) := by decide +kernel
theorem dX13_track_28 : decode cX13_track 28 = .ok (.iconst 0, 1) := by decide +kernel
theorem dX13_track_29 : decode cX13_track 29 = .ok (.putfield 171, 3) := by decide +kernel
theorem dX13_track_32 : decode cX13_track 32 = .ok (.aload_n 0, 1) := by decide +kernel
theorem dX13_track_33 : decode cX13_track 33 = .ok (.getfield 171, 3) := by decide +kernel
theorem dX13_track_36 : decode cX13_track 36 = .ok (.ifCond .le 4, 3) := by decide +kernel
theorem dX13_track_39 : decode cX13_track 39 = .ok (.return_, 1) := by decide +kernel
theorem dX13_track_40 : decode cX13_track 40 = .ok (.aload_n 0, 1) := by decide +kernel
theorem dX13_track_41 : decode cX13_track 41 = .ok (.iconst 2, 1) := by decide +kernel
theorem dX13_track_42 : decode cX13_track 42 = .ok (.invokevirtual 343, 3) := by decide +kernel
theorem dX13_track_45 : decode cX13_track 45 = .ok (.aload_n 0, 1) := by decide +kernel
theorem dX13_track_46 : decode cX13_track 46 = .ok (.getfield 43, 3) := by decide +kernel
theorem dX13_track_49 : decode cX13_track 49 = .ok (.iload_n 1, 1) := by decide +kernel
theorem dX13_track_50 : decode cX13_track 50 = .ok (.iconst 1, 1) := by decide +kernel
theorem dX13_track_51 : decode cX13_track 51 = .ok (.iastore, 1) := by decide +kernel
theorem dX13_track_52 : decode cX13_track 52 = .ok (.aload_n 0, 1) := by decide +kernel
theorem dX13_track_53 : decode cX13_track 53 = .ok (.iload_n 1, 1) := by decide +kernel
theorem dX13_track_54 : decode cX13_track 54 = .ok (.invokevirtual 391, 3) := by decide +kernel
theorem dX13_track_57 : decode cX13_track 57 = .ok (.aload_n 0, 1) := by decide +kernel
theorem dX13_track_58 : decode cX13_track 58 = .ok (.iconst 0, 1) := by decide +kernel
theorem dX13_track_59 : decode cX13_track 59 = .ok (.invokevirtual 352, 3) := by decide +kernel
theorem dX13_track_62 : decode cX13_track 62 = .ok (.ifCond .ne 16, 3) := by decide +kernel
theorem dX13_track_65 : decode cX13_track 65 = .ok (.aload_n 0, 1) := by decide +kernel
theorem dX13_track_66 : decode cX13_track 66 = .ok (.getfield 43, 3) := by decide +kernel
theorem dX13_track_69 : decode cX13_track 69 = .ok (.iload_n 1, 1) := by decide +kernel
theorem dX13_track_70 : decode cX13_track 70 = .ok (.iconst 0, 1) := by decide +kernel
theorem dX13_track_71 : decode cX13_track 71 = .ok (.iastore, 1) := by decide +kernel
theorem dX13_track_72 : decode cX13_track 72 = .ok (.aload_n 0, 1) := by decide +kernel
theorem dX13_track_73 : decode cX13_track 73 = .ok (.iconst 2, 1) := by decide +kernel
theorem dX13_track_74 : decode cX13_track 74 = .ok (.putfield 171, 3) := by decide +kernel
theorem dX13_track_77 : decode cX13_track 77 = .ok (.return_, 1) := by decide +kernel
theorem dX13_track_78 : decode cX13_track 78 = .ok (.aload_n 0, 1) := by decide +kernel
theorem dX13_track_79 : decode cX13_track 79 = .ok (.iconst (-1), 1) := by decide +kernel
theorem dX13_track_80 : decode cX13_track 80 = .ok (.putfield 105, 3) := by decide +kernel
theorem dX13_track_83 : decode cX13_track 83 = .ok (.return_, 1) := by decide +kernel
set_option maxRecDepth 4000 in
theorem c_track (γ : LC) (μ : MU) (w : Mm) (s : Int) (S P M : Int) (hs : IR s) (hR0 : RB μ S P M w) (hS : S ≤ 28900) (hP : P ≤ 500000) (hM : M ≤ 590) : CMv γ μ 5 mX13_track [.int (I s)] w (fun w' => w' = o_track μ s w) := by
  refine CMv_of rfl (by simp [rv_cat, Value.category]) rfl ?_
  rintro κ hO hF rfl hR
  have hD := hF.dp
  show X κ 0 0 w 0 [some (rv μ.1), some (.int (I s))] []
  have hL := hR0.1
  obtain ⟨f1, f2, f3, f4, f5⟩ := hR0.1.f
  obtain ⟨t1, t2, t3, t4, t5, t6, t7⟩ := hR0.2.1.2.2.2.1
  have JP40 : (0 ≤ s ∧ s ≤ 4) → (w 211 0 s ≠ 1) → (RM (m_th μ 0 w) μ) → X κ 0 0 (m_th μ 0 w) 40 [some (rv μ.1), some (.int (I s))] [] := by
    intro  hs4 ht1 hR
    obtain ⟨b1, b2, b3, b4⟩ := trW_ok hs4 hR0
    obtain ⟨p1, p2, p3⟩ := cal_pre (hR0.th (k := 0))
    obtain ⟨e1, e2, e3⟩ := ends_ok (g := 0) b2 (b3.mono (S' := S + 1) (P' := P + 85) (by omega) (by omega)) b4 (by decide) (by omega) (by omega)
    have e21 : m_th μ 0 w 201 0 0 = w 201 0 0 := th_at (by decide)
    have g4 := b1.cn hs4
    obtain ⟨c1, c2, c3, c4, c5⟩ := b1.f
    have hbl : bL s (up (m_saves μ 2 (m_th μ 0 w)) 211 0 s 1) := fun e x y => b1.el (i := 4 * s + e) (by omega)
    refine X_aload_n 41 hO dX13_track_40 rfl rfl ?_
    refine X_iconst 42 hO dX13_track_41 rfl ?_
    refine XM_callVv 45 hO hD hR lX13_343 [_] rfl dX13_track_42 rfl (c_saves _ _ _ _ (by omega) (by omega)) (by decide) (by simp only [List.map_cons, List.map_nil, rv_cat]; exact Nat.le_of_ble_eq_true rfl) (fun w_42 hp_42 hR => ?_)
    subst hp_42
    refine X_aload_n 46 hO dX13_track_45 rfl rfl ?_
    refine ga_43 49 hO hR dX13_track_46 rfl ?_
    refine X_iload_n 50 hO dX13_track_49 rfl rfl ?_
    refine X_iconst 51 hO dX13_track_50 rfl ?_
    refine ma_st (L := 5) (c := 211) 52 hO hR rfl rfl rfl dX13_track_51 rfl (by omega) (by omega) (by omega) (fun hR => ?_)
    refine X_aload_n 53 hO dX13_track_52 rfl rfl ?_
    refine X_iload_n 54 hO dX13_track_53 rfl rfl ?_
    refine XM_callVv 57 hO hD hR lX13_391 [_] rfl dX13_track_54 rfl (c_tells _ _ _ _ (by omega) (by omega) hbl (by omega) (by omega)) (by decide) (by simp only [List.map_cons, List.map_nil, rv_cat]; exact Nat.le_of_ble_eq_true rfl) (fun w_54 hp_54 hR => ?_)
    subst hp_54
    rw [show m_tells μ s (up (m_saves μ 2 (m_th μ 0 w)) 211 0 s 1) = m_trW μ s w from rfl] at hR ⊢
    refine X_aload_n 58 hO dX13_track_57 rfl rfl ?_
    refine X_iconst 59 hO dX13_track_58 rfl ?_
    refine XM_callVi 62 hO hD hR lX13_352 [_] rfl dX13_track_59 rfl (c_ends _ _ _ _ (S + 1) (P + 85) M (by decide) b4 b2 (b3.mono (by omega) (by omega)) (by omega) (by omega) (by omega)) (by decide) (by simp only [List.map_cons, List.map_nil, rv_cat]; exact Nat.le_of_ble_eq_true rfl) (fun r_59 w_59 hr_59 hp_59 hR => ?_)
    obtain ⟨e1_59, e2_59⟩ := hp_59
    subst e1_59
    subst e2_59
    refine X_if_ne 65 78 hO dX13_track_62 rfl rfl (by omega) (fun hc_62 => ?_) (fun hc_62 => ?_)
    ·
      try simp only [bi_0, bi_ne, ne_eq, Classical.not_not] at hc_62
      refine X_aload_n 79 hO dX13_track_78 rfl rfl ?_
      refine X_iconst 80 hO dX13_track_79 rfl ?_
      refine pa_105 83 hO hR dX13_track_80 rfl (by omega) (fun hR => ?_)
      exact XM_vret hO hF hR rfl dX13_track_83 (by unfold o_track m_tr1; (repeat (first | rfl | rw [if_pos (by omega)] | rw [if_neg (by omega)])))
    ·
      try simp only [bi_0, bi_ne, ne_eq, Classical.not_not] at hc_62
      refine X_aload_n 66 hO dX13_track_65 rfl rfl ?_
      refine ga_43 69 hO hR dX13_track_66 rfl ?_
      refine X_iload_n 70 hO dX13_track_69 rfl rfl ?_
      refine X_iconst 71 hO dX13_track_70 rfl ?_
      refine ma_st (L := 5) (c := 211) 72 hO hR rfl rfl rfl dX13_track_71 rfl (by omega) (by omega) (by omega) (fun hR => ?_)
      refine X_aload_n 73 hO dX13_track_72 rfl rfl ?_
      refine X_iconst 74 hO dX13_track_73 rfl ?_
      refine pa_171 77 hO hR dX13_track_74 rfl (by omega) (fun hR => ?_)
      exact XM_vret hO hF hR rfl dX13_track_77 (by unfold o_track m_tr1; (repeat (first | rfl | rw [if_pos (by omega)] | rw [if_neg (by omega)])))
  refine X_aload_n 1 hO dX13_track_0 rfl rfl ?_
  refine X_iload_n 2 hO dX13_track_1 rfl rfl ?_
  refine X_iconst 3 hO dX13_track_2 rfl ?_
  refine X_iconst 4 hO dX13_track_3 rfl ?_
  refine XM_callSi 7 hO hD lX13_174 [_, _, _] rfl dX13_track_4 rfl (c_in _ _ _ _ _ (by omega) (by omega) (by omega)) (by decide) (by simp only [List.map_cons, List.map_nil, rv_cat]; exact Nat.le_of_ble_eq_true rfl) (fun r_4 hr_4 hp_4 => ?_)
  subst hp_4
  refine X_if_ne 10 14 hO dX13_track_7 rfl rfl (by omega) (fun hc_7 => ?_) (fun hc_7 => ?_)
  ·
    try simp only [bi_0, bi_ne, ne_eq, Classical.not_not] at hc_7
    refine X_aload_n 15 hO dX13_track_14 rfl rfl ?_
    refine ga_43 18 hO hR dX13_track_15 rfl ?_
    refine X_iload_n 19 hO dX13_track_18 rfl rfl ?_
    refine ma_ld (L := 5) (c := 211) 20 hO hR rfl rfl rfl dX13_track_19 rfl (by omega) (by omega) (fun hi_19 => ?_)
    try simp (disch := decide) only [up_k, up_s, step_at, pool_at, poolN_at, opens_at, closes_at, fl_at, del_at, ins_at, rep_at, psh_at, trn_at, tak_at, pEn_at, cpQ_at, cpP_at, cpT_at, ti_at, th_at, rec_at, saves_at] at hi_19 ⊢
    refine X_iconst 21 hO dX13_track_20 rfl ?_
    refine X_icmp_ne 24 28 hO dX13_track_21 rfl rfl (by omega) (by omega) (fun hc_21 => ?_) (fun hc_21 => ?_)
    ·
      refine X_iconst 29 hO dX13_track_28 rfl ?_
      refine pa_171 32 hO hR dX13_track_29 rfl (by omega) (fun hR => ?_)
      refine X_aload_n 33 hO dX13_track_32 rfl rfl ?_
      refine ga_171 36 hO hR dX13_track_33 rfl (fun hi_33 => ?_)
      try simp (disch := decide) only [up_k, up_s, step_at, pool_at, poolN_at, opens_at, closes_at, fl_at, del_at, ins_at, rep_at, psh_at, trn_at, tak_at, pEn_at, cpQ_at, cpP_at, cpT_at, ti_at, th_at, rec_at, saves_at] at hi_33 ⊢
      refine X_if_le 39 40 hO dX13_track_36 rfl rfl (by omega) (fun hc_36 => ?_) (fun hc_36 => ?_)
      ·
        first | (exfalso; omega) | exact JP40 (by omega) (by omega) hR
      ·
        exact XM_vret hO hF hR rfl dX13_track_39 (by first | (exfalso; omega) | (unfold o_track m_th; (repeat (first | rfl | rw [if_pos (by omega)] | rw [if_neg (by omega)]))))
    ·
      refine X_iconst 25 hO dX13_track_24 rfl ?_
      refine X_goto hO dX13_track_25 (tgt := 29) rfl ?_
      refine pa_171 32 hO hR dX13_track_29 rfl (by omega) (fun hR => ?_)
      refine X_aload_n 33 hO dX13_track_32 rfl rfl ?_
      refine ga_171 36 hO hR dX13_track_33 rfl (fun hi_33 => ?_)
      try simp (disch := decide) only [up_k, up_s, step_at, pool_at, poolN_at, opens_at, closes_at, fl_at, del_at, ins_at, rep_at, psh_at, trn_at, tak_at, pEn_at, cpQ_at, cpP_at, cpT_at, ti_at, th_at, rec_at, saves_at] at hi_33 ⊢
      refine X_if_le 39 40 hO dX13_track_36 rfl rfl (by omega) (fun hc_36 => ?_) (fun hc_36 => ?_)
      ·
        first | (exfalso; omega) | exact JP40 (by omega) (by omega) hR
      ·
        exact XM_vret hO hF hR rfl dX13_track_39 (by first | (exfalso; omega) | (unfold o_track m_th; (repeat (first | rfl | rw [if_pos (by omega)] | rw [if_neg (by omega)]))))
  ·
    try simp only [bi_0, bi_ne, ne_eq, Classical.not_not] at hc_7
    refine X_iconst 11 hO dX13_track_10 rfl ?_
    refine X_goto hO dX13_track_11 (tgt := 29) rfl ?_
    refine pa_171 32 hO hR dX13_track_29 rfl (by omega) (fun hR => ?_)
    refine X_aload_n 33 hO dX13_track_32 rfl rfl ?_
    refine ga_171 36 hO hR dX13_track_33 rfl (fun hi_33 => ?_)
    try simp (disch := decide) only [up_k, up_s, step_at, pool_at, poolN_at, opens_at, closes_at, fl_at, del_at, ins_at, rep_at, psh_at, trn_at, tak_at, pEn_at, cpQ_at, cpP_at, cpT_at, ti_at, th_at, rec_at, saves_at] at hi_33 ⊢
    refine X_if_le 39 40 hO dX13_track_36 rfl rfl (by omega) (fun hc_36 => ?_) (fun hc_36 => ?_)
    ·
      first | (exfalso; omega) | exact JP40 (by omega) (by omega) hR
    ·
      exact XM_vret hO hF hR rfl dX13_track_39 (by first | (exfalso; omega) | (unfold o_track m_th; (repeat (first | rfl | rw [if_pos (by omega)] | rw [if_neg (by omega)]))))
theorem TB.bud {μ : MU} {M v : Int} {w : Mm} (h : TB μ M w) (hv : 2 ≤ v ∧ v ≤ 600) : TB μ M (up (up w 128 μ.1 0 v) 129 μ.1 0 (-1)) := by
  obtain ⟨t1, t2, t3, t4, t5, t6, t7⟩ := h
  refine ⟨?_, ?_, ?_, ?_, ?_, ?_, fun k a b => ?_⟩
  · simp (disch := decide) only [up_k]; exact t1
  · simp (disch := decide) only [up_k]; exact t2
  · simp (disch := decide) only [up_k]; exact t3
  · simp (disch := decide) only [up_k, up_s]; exact hv
  · simp (disch := decide) only [up_k]; exact t5
  · simp (disch := decide) only [up_k]; exact t6
  · simp (disch := decide) only [up_k] at b ⊢; exact t7 k a b
def o_setBudget (μ : MU) (c : Int) (w : Mm) : Int × Mm := if 2 ≤ c ∧ c ≤ 600 then m_mrgs μ (up (up (m_th μ 0 w) 128 μ.1 0 c) 129 μ.1 0 (-1)) else (0, m_th μ 1 w)
theorem dX13_setBudget_0 : decode cX13_setBudget 0 = .ok (.aload_n 0, 1) := by decide +kernel
theorem dX13_setBudget_1 : decode cX13_setBudget 1 = .ok (.iload_n 1, 1) := by decide +kernel
theorem dX13_setBudget_2 : decode cX13_setBudget 2 = .ok (.iconst 2, 1) := by decide +kernel
theorem dX13_setBudget_3 : decode cX13_setBudget 3 = .ok (.sipush 600, 3) := by decide +kernel
theorem dX13_setBudget_6 : decode cX13_setBudget 6 = .ok (.invokestatic 174, 3) := by decide +kernel
theorem dX13_setBudget_9 : decode cX13_setBudget 9 = .ok (.ifCond .eq 7, 3) := by decide +kernel
theorem dX13_setBudget_12 : decode cX13_setBudget 12 = .ok (.iconst 0, 1) := by decide +kernel
theorem dX13_setBudget_13 : decode cX13_setBudget 13 = .ok (.goto 4, 3) := by decide +kernel
theorem dX13_setBudget_16 : decode cX13_setBudget 16 = .ok (.iconst 1, 1) := by decide +kernel
theorem dX13_setBudget_17 : decode cX13_setBudget 17 = .ok (.putfield 171, 3) := by decide +kernel
theorem dX13_setBudget_20 : decode cX13_setBudget 20 = .ok (.aload_n 0, 1) := by decide +kernel
theorem dX13_setBudget_21 : decode cX13_setBudget 21 = .ok (.getfield 171, 3) := by decide +kernel
theorem dX13_setBudget_24 : decode cX13_setBudget 24 = .ok (.ifCond .le 5, 3) := by decide +kernel
theorem dX13_setBudget_27 : decode cX13_setBudget 27 = .ok (.iconst 0, 1) := by decide +kernel
theorem dX13_setBudget_28 : decode cX13_setBudget 28 = .ok (.ireturn, 1) := by decide +kernel
theorem dX13_setBudget_29 : decode cX13_setBudget 29 = .ok (.aload_n 0, 1) := by decide +kernel
theorem dX13_setBudget_30 : decode cX13_setBudget 30 = .ok (.iload_n 1, 1) := by decide +kernel
theorem dX13_setBudget_31 : decode cX13_setBudget 31 = .ok (.putfield 102, 3) := by decide +kernel
theorem dX13_setBudget_34 : decode cX13_setBudget 34 = .ok (.aload_n 0, 1) := by decide +kernel
theorem dX13_setBudget_35 : decode cX13_setBudget 35 = .ok (.iconst (-1), 1) := by decide +kernel
theorem dX13_setBudget_36 : decode cX13_setBudget 36 = .ok (.putfield 105, 3) := by decide +kernel
theorem dX13_setBudget_39 : decode cX13_setBudget 39 = .ok (.aload_n 0, 1) := by decide +kernel
theorem dX13_setBudget_40 : decode cX13_setBudget 40 = .ok (.invokevirtual 277, 3) := by decide +kernel
theorem dX13_setBudget_43 : decode cX13_setBudget 43 = .ok (.ireturn, 1) := by decide +kernel
set_option maxRecDepth 4000 in
theorem c_setBudget (γ : LC) (μ : MU) (w : Mm) (c : Int) (S P M : Int) (hc : IR c) (hR0 : RB μ S P M w) (hS : S ≤ 28900) (hP : P ≤ 500000) (hM : M ≤ 590) : CMi γ μ 3 mX13_setBudget [.int (I c)] w (fun r w' => r = (o_setBudget μ c w).1 ∧ w' = (o_setBudget μ c w).2) := by
  refine CMi_of rfl (by simp [rv_cat, Value.category]) rfl ?_
  rintro κ hO hF rfl hR
  have hD := hF.dp
  show X κ 0 0 w 0 [some (rv μ.1), some (.int (I c))] []
  have hL := hR0.1
  obtain ⟨f1, f2, f3, f4, f5⟩ := hR0.1.f
  obtain ⟨t1, t2, t3, t4, t5, t6, t7⟩ := hR0.2.1.2.2.2.1
  refine X_aload_n 1 hO dX13_setBudget_0 rfl rfl ?_
  refine X_iload_n 2 hO dX13_setBudget_1 rfl rfl ?_
  refine X_iconst 3 hO dX13_setBudget_2 rfl ?_
  refine X_sipush 6 hO dX13_setBudget_3 rfl (by decide) ?_
  refine XM_callSi 9 hO hD lX13_174 [_, _, _] rfl dX13_setBudget_6 rfl (c_in _ _ _ _ _ (by omega) (by omega) (by omega)) (by decide) (by simp only [List.map_cons, List.map_nil, rv_cat]; exact Nat.le_of_ble_eq_true rfl) (fun r_6 hr_6 hp_6 => ?_)
  subst hp_6
  refine X_if_eq 12 16 hO dX13_setBudget_9 rfl rfl (by omega) (fun hc_9 => ?_) (fun hc_9 => ?_)
  ·
    try simp only [bi_0, bi_ne, ne_eq, Classical.not_not] at hc_9
    refine X_iconst 17 hO dX13_setBudget_16 rfl ?_
    refine pa_171 20 hO hR dX13_setBudget_17 rfl (by omega) (fun hR => ?_)
    refine X_aload_n 21 hO dX13_setBudget_20 rfl rfl ?_
    refine ga_171 24 hO hR dX13_setBudget_21 rfl (fun hi_21 => ?_)
    try simp (disch := decide) only [up_k, up_s, step_at, pool_at, poolN_at, opens_at, closes_at, fl_at, del_at, ins_at, rep_at, psh_at, trn_at, tak_at, pEn_at, cpQ_at, cpP_at, cpT_at, ti_at, th_at, rec_at, saves_at] at hi_21 ⊢
    refine X_if_le 27 29 hO dX13_setBudget_24 rfl rfl (by omega) (fun hc_24 => ?_) (fun hc_24 => ?_)
    ·
      refine X_aload_n 30 hO dX13_setBudget_29 rfl rfl ?_
      refine X_iload_n 31 hO dX13_setBudget_30 rfl rfl ?_
      refine pa_102 34 hO hR dX13_setBudget_31 rfl (by omega) (fun hR => ?_)
      refine X_aload_n 35 hO dX13_setBudget_34 rfl rfl ?_
      refine X_iconst 36 hO dX13_setBudget_35 rfl ?_
      refine pa_105 39 hO hR dX13_setBudget_36 rfl (by omega) (fun hR => ?_)
      refine X_aload_n 40 hO dX13_setBudget_39 rfl rfl ?_
      refine XM_callVi 43 hO hD hR lX13_277 [] rfl dX13_setBudget_40 rfl (c_merges _ _ _ M (TB.bud (M := M) (hR0.th (μ := μ) (k := 0)).2.1.2.2.2.1 (by omega)) (by omega)) (by decide) (by simp only [List.map_cons, List.map_nil, rv_cat]; exact Nat.le_of_ble_eq_true rfl) (fun r_40 w_40 hr_40 hp_40 hR => ?_)
      obtain ⟨e1_40, e2_40⟩ := hp_40
      subst e1_40
      subst e2_40
      exact XM_iret hO hF hR rfl (by first | exact Or.inl rfl | exact Or.inr ⟨rfl, bi_01 _⟩ | exact Or.inr ⟨rfl, by omega⟩) dX13_setBudget_43 (by first | assumption | omega | exact I_rng _) (by first | (exfalso; omega) | (unfold o_setBudget ; (try unfold m_ti); (try unfold m_th); (repeat (first | rw [if_pos (by omega)] | rw [if_neg (by omega)])); exact ⟨rfl, rfl⟩))
    ·
      refine X_iconst 28 hO dX13_setBudget_27 rfl ?_
      exact XM_iret hO hF hR rfl (by first | exact Or.inl rfl | exact Or.inr ⟨rfl, bi_01 _⟩ | exact Or.inr ⟨rfl, by omega⟩) dX13_setBudget_28 (by first | assumption | omega | exact I_rng _) (by first | (exfalso; omega) | (unfold o_setBudget ; (try unfold m_ti); (try unfold m_th); (repeat (first | rw [if_pos (by omega)] | rw [if_neg (by omega)])); exact ⟨rfl, rfl⟩))
  ·
    try simp only [bi_0, bi_ne, ne_eq, Classical.not_not] at hc_9
    refine X_iconst 13 hO dX13_setBudget_12 rfl ?_
    refine X_goto hO dX13_setBudget_13 (tgt := 17) rfl ?_
    refine pa_171 20 hO hR dX13_setBudget_17 rfl (by omega) (fun hR => ?_)
    refine X_aload_n 21 hO dX13_setBudget_20 rfl rfl ?_
    refine ga_171 24 hO hR dX13_setBudget_21 rfl (fun hi_21 => ?_)
    try simp (disch := decide) only [up_k, up_s, step_at, pool_at, poolN_at, opens_at, closes_at, fl_at, del_at, ins_at, rep_at, psh_at, trn_at, tak_at, pEn_at, cpQ_at, cpP_at, cpT_at, ti_at, th_at, rec_at, saves_at] at hi_21 ⊢
    refine X_if_le 27 29 hO dX13_setBudget_24 rfl rfl (by omega) (fun hc_24 => ?_) (fun hc_24 => ?_)
    ·
      refine X_aload_n 30 hO dX13_setBudget_29 rfl rfl ?_
      refine X_iload_n 31 hO dX13_setBudget_30 rfl rfl ?_
      refine pa_102 34 hO hR dX13_setBudget_31 rfl (by omega) (fun hR => ?_)
      refine X_aload_n 35 hO dX13_setBudget_34 rfl rfl ?_
      refine X_iconst 36 hO dX13_setBudget_35 rfl ?_
      refine pa_105 39 hO hR dX13_setBudget_36 rfl (by omega) (fun hR => ?_)
      refine X_aload_n 40 hO dX13_setBudget_39 rfl rfl ?_
      refine XM_callVi 43 hO hD hR lX13_277 [] rfl dX13_setBudget_40 rfl (c_merges _ _ _ M (TB.bud (M := M) (hR0.th (μ := μ) (k := 0)).2.1.2.2.2.1 (by omega)) (by omega)) (by decide) (by simp only [List.map_cons, List.map_nil, rv_cat]; exact Nat.le_of_ble_eq_true rfl) (fun r_40 w_40 hr_40 hp_40 hR => ?_)
      obtain ⟨e1_40, e2_40⟩ := hp_40
      subst e1_40
      subst e2_40
      exact XM_iret hO hF hR rfl (by first | exact Or.inl rfl | exact Or.inr ⟨rfl, bi_01 _⟩ | exact Or.inr ⟨rfl, by omega⟩) dX13_setBudget_43 (by first | assumption | omega | exact I_rng _) (by first | (exfalso; omega) | (unfold o_setBudget ; (try unfold m_ti); (try unfold m_th); (repeat (first | rw [if_pos (by omega)] | rw [if_neg (by omega)])); exact ⟨rfl, rfl⟩))
    ·
      refine X_iconst 28 hO dX13_setBudget_27 rfl ?_
      exact XM_iret hO hF hR rfl (by first | exact Or.inl rfl | exact Or.inr ⟨rfl, bi_01 _⟩ | exact Or.inr ⟨rfl, by omega⟩) dX13_setBudget_28 (by first | assumption | omega | exact I_rng _) (by first | (exfalso; omega) | (unfold o_setBudget ; (try unfold m_ti); (try unfold m_th); (repeat (first | rw [if_pos (by omega)] | rw [if_neg (by omega)])); exact ⟨rfl, rfl⟩))
def o_stop (μ : MU)  (w : Mm) : Int × Mm := if w 133 μ.1 0 = -1 then (0, m_th μ 1 w) else m_st1 μ (w 133 μ.1 0) (m_th μ 0 w)
theorem dX13_stop_0 : decode cX13_stop 0 = .ok (.aload_n 0, 1) := by decide +kernel
theorem dX13_stop_1 : decode cX13_stop 1 = .ok (.aload_n 0, 1) := by decide +kernel
theorem dX13_stop_2 : decode cX13_stop 2 = .ok (.getfield 135, 3) := by decide +kernel
theorem dX13_stop_5 : decode cX13_stop 5 = .ok (.iconst (-1), 1) := by decide +kernel
theorem dX13_stop_6 : decode cX13_stop 6 = .ok (.if_icmp .ne 7, 3) := by decide +kernel
theorem dX13_stop_9 : decode cX13_stop 9 = .ok (.iconst 1, 1) := by decide +kernel
theorem dX13_stop_10 : decode cX13_stop 10 = .ok (.goto 4, 3) := by decide +kernel
theorem dX13_stop_13 : decode cX13_stop 13 = .ok (.iconst 0, 1) := by decide +kernel
theorem dX13_stop_14 : decode cX13_stop 14 = .ok (.putfield 171, 3) := by decide +kernel
theorem dX13_stop_17 : decode cX13_stop 17 = .ok (.aload_n 0, 1) := by decide +kernel
theorem dX13_stop_18 : decode cX13_stop 18 = .ok (.getfield 171, 3) := by decide +kernel
theorem dX13_stop_21 : decode cX13_stop 21 = .ok (.ifCond .le 5, 3) := by decide +kernel
theorem dX13_stop_24 : decode cX13_stop 24 = .ok (.iconst 0, 1) := by decide +kernel
theorem dX13_stop_25 : decode cX13_stop 25 = .ok (.ireturn, 1) := by decide +kernel
theorem dX13_stop_26 : decode cX13_stop 26 = .ok (.aload_n 0, 1) := by decide +kernel
theorem dX13_stop_27 : decode cX13_stop 27 = .ok (.getfield 135, 3) := by decide +kernel
theorem dX13_stop_30 : decode cX13_stop 30 = .ok (.istore_n 1, 1) := by decide +kernel
theorem dX13_stop_31 : decode cX13_stop 31 = .ok (.iconst 0, 1) := by decide +kernel
theorem dX13_stop_32 : decode cX13_stop 32 = .ok (.istore_n 2, 1) := by decide +kernel
theorem dX13_stop_33 : decode cX13_stop 33 = .ok (.iload_n 2, 1) := by decide +kernel
theorem dX13_stop_34 : decode cX13_stop 34 = .ok (.bipush 48, 2) := by decide +kernel
theorem dX13_stop_36 : decode cX13_stop 36 = .ok (.if_icmp .ge 30, 3) := by decide +kernel
theorem dX13_stop_39 : decode cX13_stop 39 = .ok (.aload_n 0, 1) := by decide +kernel
theorem dX13_stop_40 : decode cX13_stop 40 = .ok (.getfield 129, 3) := by decide +kernel
theorem dX13_stop_43 : decode cX13_stop 43 = .ok (.bipush 48, 2) := by decide +kernel
theorem dX13_stop_45 : decode cX13_stop 45 = .ok (.iload_n 1, 1) := by decide +kernel
theorem dX13_stop_46 : decode cX13_stop 46 = .ok (.imul, 1) := by decide +kernel
theorem dX13_stop_47 : decode cX13_stop 47 = .ok (.iload_n 2, 1) := by decide +kernel
theorem dX13_stop_48 : decode cX13_stop 48 = .ok (.iadd, 1) := by decide +kernel
theorem dX13_stop_49 : decode cX13_stop 49 = .ok (.aload_n 0, 1) := by decide +kernel
theorem dX13_stop_50 : decode cX13_stop 50 = .ok (.getfield 129, 3) := by decide +kernel
theorem dX13_stop_53 : decode cX13_stop 53 = .ok (.sipush 192, 3) := by decide +kernel
theorem dX13_stop_56 : decode cX13_stop 56 = .ok (.iload_n 2, 1) := by decide +kernel
theorem dX13_stop_57 : decode cX13_stop 57 = .ok (.iadd, 1) := by decide +kernel
theorem dX13_stop_58 : decode cX13_stop 58 = .ok (.iaload, 1) := by decide +kernel
theorem dX13_stop_59 : decode cX13_stop 59 = .ok (.iastore, 1) := by decide +kernel
theorem dX13_stop_60 : decode cX13_stop 60 = .ok (.iinc 2 1, 3) := by decide +kernel
theorem dX13_stop_63 : decode cX13_stop 63 = .ok (.goto (-30), 3) := by decide +kernel
theorem dX13_stop_66 : decode cX13_stop 66 = .ok (.aload_n 0, 1) := by decide +kernel
theorem dX13_stop_67 : decode cX13_stop 67 = .ok (.getfield 132, 3) := by decide +kernel
theorem dX13_stop_70 : decode cX13_stop 70 = .ok (.iload_n 1, 1) := by decide +kernel
theorem dX13_stop_71 : decode cX13_stop 71 = .ok (.aload_n 0, 1) := by decide +kernel
theorem dX13_stop_72 : decode cX13_stop 72 = .ok (.getfield 132, 3) := by decide +kernel
theorem dX13_stop_75 : decode cX13_stop 75 = .ok (.iconst 4, 1) := by decide +kernel
theorem dX13_stop_76 : decode cX13_stop 76 = .ok (.iaload, 1) := by decide +kernel
theorem dX13_stop_77 : decode cX13_stop 77 = .ok (.iastore, 1) := by decide +kernel
theorem dX13_stop_78 : decode cX13_stop 78 = .ok (.aload_n 0, 1) := by decide +kernel
theorem dX13_stop_79 : decode cX13_stop 79 = .ok (.iconst (-1), 1) := by decide +kernel
theorem dX13_stop_80 : decode cX13_stop 80 = .ok (.putfield 135, 3) := by decide +kernel
theorem dX13_stop_83 : decode cX13_stop 83 = .ok (.aload_n 0, 1) := by decide +kernel
theorem dX13_stop_84 : decode cX13_stop 84 = .ok (.iconst (-1), 1) := by decide +kernel
theorem dX13_stop_85 : decode cX13_stop 85 = .ok (.putfield 105, 3) := by decide +kernel
theorem dX13_stop_88 : decode cX13_stop 88 = .ok (.aload_n 0, 1) := by decide +kernel
theorem dX13_stop_89 : decode cX13_stop 89 = .ok (.getfield 132, 3) := by decide +kernel
theorem dX13_stop_92 : decode cX13_stop 92 = .ok (.iload_n 1, 1) := by decide +kernel
theorem dX13_stop_93 : decode cX13_stop 93 = .ok (.iaload, 1) := by decide +kernel
theorem dX13_stop_94 : decode cX13_stop 94 = .ok (.ireturn, 1) := by decide +kernel
set_option maxRecDepth 4000 in
theorem c_stop (γ : LC) (μ : MU) (w : Mm)  (S P M : Int)  (hR0 : RB μ S P M w) (hS : S ≤ 28900) (hP : P ≤ 500000) (hM : M ≤ 590) : CMi γ μ 0 mX13_stop [] w (fun r w' => r = (o_stop μ  w).1 ∧ w' = (o_stop μ  w).2) := by
  refine CMi_of rfl (by simp [rv_cat, Value.category]) rfl ?_
  rintro κ hO hF rfl hR
  have hD := hF.dp
  show X κ 0 0 w 0 [some (rv μ.1), none, none] []
  have hz := hR0.2.2.1
  unfold bZ at hz
  have hcn := (hR0.2.1.2.2.2.2.2.2 4 (by decide) (by decide)).1
  have hL := hR0.1
  obtain ⟨f1, f2, f3, f4, f5⟩ := hR0.1.f
  obtain ⟨t1, t2, t3, t4, t5, t6, t7⟩ := hR0.2.1.2.2.2.1
  have JP26 : (w 133 μ.1 0 ≠ -1) → (RM (m_th μ 0 w) μ) → X κ 0 0 (m_th μ 0 w) 26 [some (rv μ.1), none, none] [] := by
    intro  h133 hR
    refine X_aload_n 27 hO dX13_stop_26 rfl rfl ?_
    refine ga_135 30 hO hR dX13_stop_27 rfl (fun hi_27 => ?_)
    try simp (disch := decide) only [up_k, up_s, step_at, pool_at, poolN_at, opens_at, closes_at, fl_at, del_at, ins_at, rep_at, psh_at, trn_at, tak_at, pEn_at, cpQ_at, cpP_at, cpT_at, ti_at, th_at, rec_at, saves_at] at hi_27 ⊢
    refine X_istore_n 31 hO dX13_stop_30 rfl rfl ?_
    refine X_iconst 32 hO dX13_stop_31 rfl ?_
    refine X_istore_n 33 hO dX13_stop_32 rfl rfl ?_
    have LP33 : ∀ (n : Nat) (k : Int), (48 - k).toNat < n → (0 ≤ k ∧ k ≤ 48) → RM ((fl (m_th μ 0 w) 235 (48 * w 133 μ.1 0) k (fun k => m_th μ 0 w 235 0 (192 + (k - 48 * w 133 μ.1 0))))) μ → X κ 0 0 ((fl (m_th μ 0 w) 235 (48 * w 133 μ.1 0) k (fun k => m_th μ 0 w 235 0 (192 + (k - 48 * w 133 μ.1 0))))) 33 [some (rv μ.1), some (.int (I (w 133 μ.1 0))), some (.int (I k))] [] := by
      intro n
      induction n with
      | zero => intro k hm; exact absurd hm (Nat.not_lt_zero _)
      | succ n ih =>
        intro k hm hk hR
        refine X_iload_n 34 hO dX13_stop_33 rfl rfl ?_
        refine X_bipush 36 hO dX13_stop_34 rfl (by decide) ?_
        refine X_icmp_ge 39 66 hO dX13_stop_36 rfl rfl (by omega) (by omega) (fun hc_36 => ?_) (fun hc_36 => ?_)
        ·
          have e36 : k = 48 := by omega
          subst e36
          refine X_aload_n 67 hO dX13_stop_66 rfl rfl ?_
          refine ga_132 70 hO hR dX13_stop_67 rfl ?_
          refine X_iload_n 71 hO dX13_stop_70 rfl rfl ?_
          refine X_aload_n 72 hO dX13_stop_71 rfl rfl ?_
          refine ga_132 75 hO hR dX13_stop_72 rfl ?_
          refine X_iconst 76 hO dX13_stop_75 rfl ?_
          refine ma_ld (L := 5) (c := 236) 77 hO hR rfl rfl rfl dX13_stop_76 rfl (by omega) (by omega) (fun hi_76 => ?_)
          try simp (disch := decide) only [up_k, up_s, step_at, pool_at, poolN_at, opens_at, closes_at, fl_at, del_at, ins_at, rep_at, psh_at, trn_at, tak_at, pEn_at, cpQ_at, cpP_at, cpT_at, ti_at, th_at, rec_at, saves_at] at hi_76 ⊢
          refine ma_st (L := 5) (c := 236) 78 hO hR rfl rfl rfl dX13_stop_77 rfl (by omega) (by omega) (by omega) (fun hR => ?_)
          refine X_aload_n 79 hO dX13_stop_78 rfl rfl ?_
          refine X_iconst 80 hO dX13_stop_79 rfl ?_
          refine pa_135 83 hO hR dX13_stop_80 rfl (by omega) (fun hR => ?_)
          refine X_aload_n 84 hO dX13_stop_83 rfl rfl ?_
          refine X_iconst 85 hO dX13_stop_84 rfl ?_
          refine pa_105 88 hO hR dX13_stop_85 rfl (by omega) (fun hR => ?_)
          refine X_aload_n 89 hO dX13_stop_88 rfl rfl ?_
          refine ga_132 92 hO hR dX13_stop_89 rfl ?_
          refine X_iload_n 93 hO dX13_stop_92 rfl rfl ?_
          refine ma_ld (L := 5) (c := 236) 94 hO hR rfl rfl rfl dX13_stop_93 rfl (by omega) (by omega) (fun hi_93 => ?_)
          try simp (disch := decide) only [up_k, up_s, step_at, pool_at, poolN_at, opens_at, closes_at, fl_at, del_at, ins_at, rep_at, psh_at, trn_at, tak_at, pEn_at, cpQ_at, cpP_at, cpT_at, ti_at, th_at, rec_at, saves_at] at hi_93 ⊢
          exact XM_iret hO hF hR rfl (by first | exact Or.inl rfl | exact Or.inr ⟨rfl, bi_01 _⟩ | exact Or.inr ⟨rfl, by omega⟩) dX13_stop_94 (by first | assumption | omega | exact I_rng _) (by unfold o_stop; rw [if_neg h133]; unfold m_st1 m_stW; refine ⟨?_, ?_⟩ <;> simp (disch := decide) only [th_at, fl_at, up_s, up_k])
        ·
          refine X_aload_n 40 hO dX13_stop_39 rfl rfl ?_
          refine ga_129 43 hO hR dX13_stop_40 rfl ?_
          refine X_bipush 45 hO dX13_stop_43 rfl (by decide) ?_
          refine X_iload_n 46 hO dX13_stop_45 rfl rfl ?_
          refine X_imul 47 hO dX13_stop_46 rfl ?_
          refine X_iload_n 48 hO dX13_stop_47 rfl rfl ?_
          refine X_iadd 49 hO dX13_stop_48 rfl ?_
          refine X_aload_n 50 hO dX13_stop_49 rfl rfl ?_
          refine ga_129 53 hO hR dX13_stop_50 rfl ?_
          refine X_sipush 56 hO dX13_stop_53 rfl (by decide) ?_
          refine X_iload_n 57 hO dX13_stop_56 rfl rfl ?_
          refine X_iadd 58 hO dX13_stop_57 rfl ?_
          refine ma_ld (L := 240) (c := 235) 59 hO hR rfl rfl rfl dX13_stop_58 rfl (by omega) (by omega) (fun hi_58 => ?_)
          try simp (disch := decide) only [up_k, up_s, step_at, pool_at, poolN_at, opens_at, closes_at, fl_at, del_at, ins_at, rep_at, psh_at, trn_at, tak_at, pEn_at, cpQ_at, cpP_at, cpT_at, ti_at, th_at, rec_at, saves_at] at hi_58 ⊢
          have hval : (fl (m_th μ 0 w) 235 (48 * w 133 μ.1 0) k (fun k => m_th μ 0 w 235 0 (192 + (k - 48 * w 133 μ.1 0)))) 235 0 (192 + k) = m_th μ 0 w 235 0 (192 + (48 * w 133 μ.1 0 + k - 48 * w 133 μ.1 0)) := by
            rw [show 192 + (48 * w 133 μ.1 0 + k - 48 * w 133 μ.1 0) = 192 + k by omega]; simp only [fl]; rw [if_neg (by omega)]
          refine ma_st (L := 240) (c := 235) 60 hO hR rfl rfl rfl dX13_stop_59 rfl (by omega) (by omega) (by omega) (fun hR => ?_)
          refine X_iinc 63 hO dX13_stop_60 rfl rfl ?_
          refine X_goto hO dX13_stop_63 (tgt := 33) rfl ?_
          exact X_eqR hR (fl_stp (by omega) rfl (by omega) hval) (fun hR => ih (k + 1) (by omega) (by omega) hR)
    exact X_eqR hR (fl_00 rfl) (fun hR => LP33 _ 0 (Nat.lt_succ_self _) (by omega) hR)
  refine X_aload_n 1 hO dX13_stop_0 rfl rfl ?_
  refine X_aload_n 2 hO dX13_stop_1 rfl rfl ?_
  refine ga_135 5 hO hR dX13_stop_2 rfl (fun hi_2 => ?_)
  try simp (disch := decide) only [up_k, up_s, step_at, pool_at, poolN_at, opens_at, closes_at, fl_at, del_at, ins_at, rep_at, psh_at, trn_at, tak_at, pEn_at, cpQ_at, cpP_at, cpT_at, ti_at, th_at, rec_at, saves_at] at hi_2 ⊢
  refine X_iconst 6 hO dX13_stop_5 rfl ?_
  refine X_icmp_ne 9 13 hO dX13_stop_6 rfl rfl (by omega) (by omega) (fun hc_6 => ?_) (fun hc_6 => ?_)
  ·
    refine X_iconst 14 hO dX13_stop_13 rfl ?_
    refine pa_171 17 hO hR dX13_stop_14 rfl (by omega) (fun hR => ?_)
    refine X_aload_n 18 hO dX13_stop_17 rfl rfl ?_
    refine ga_171 21 hO hR dX13_stop_18 rfl (fun hi_18 => ?_)
    try simp (disch := decide) only [up_k, up_s, step_at, pool_at, poolN_at, opens_at, closes_at, fl_at, del_at, ins_at, rep_at, psh_at, trn_at, tak_at, pEn_at, cpQ_at, cpP_at, cpT_at, ti_at, th_at, rec_at, saves_at] at hi_18 ⊢
    refine X_if_le 24 26 hO dX13_stop_21 rfl rfl (by omega) (fun hc_21 => ?_) (fun hc_21 => ?_)
    ·
      first | (exfalso; omega) | exact JP26 (by omega) hR
    ·
      refine X_iconst 25 hO dX13_stop_24 rfl ?_
      exact XM_iret hO hF hR rfl (by first | exact Or.inl rfl | exact Or.inr ⟨rfl, bi_01 _⟩ | exact Or.inr ⟨rfl, by omega⟩) dX13_stop_25 (by first | assumption | omega | exact I_rng _) (by first | (exfalso; omega) | (unfold o_stop m_th; (repeat (first | rw [if_pos (by omega)] | rw [if_neg (by omega)])); exact ⟨rfl, rfl⟩))
  ·
    refine X_iconst 10 hO dX13_stop_9 rfl ?_
    refine X_goto hO dX13_stop_10 (tgt := 14) rfl ?_
    refine pa_171 17 hO hR dX13_stop_14 rfl (by omega) (fun hR => ?_)
    refine X_aload_n 18 hO dX13_stop_17 rfl rfl ?_
    refine ga_171 21 hO hR dX13_stop_18 rfl (fun hi_18 => ?_)
    try simp (disch := decide) only [up_k, up_s, step_at, pool_at, poolN_at, opens_at, closes_at, fl_at, del_at, ins_at, rep_at, psh_at, trn_at, tak_at, pEn_at, cpQ_at, cpP_at, cpT_at, ti_at, th_at, rec_at, saves_at] at hi_18 ⊢
    refine X_if_le 24 26 hO dX13_stop_21 rfl rfl (by omega) (fun hc_21 => ?_) (fun hc_21 => ?_)
    ·
      first | (exfalso; omega) | exact JP26 (by omega) hR
    ·
      refine X_iconst 25 hO dX13_stop_24 rfl ?_
      exact XM_iret hO hF hR rfl (by first | exact Or.inl rfl | exact Or.inr ⟨rfl, bi_01 _⟩ | exact Or.inr ⟨rfl, by omega⟩) dX13_stop_25 (by first | assumption | omega | exact I_rng _) (by first | (exfalso; omega) | (unfold o_stop m_th; (repeat (first | rw [if_pos (by omega)] | rw [if_neg (by omega)])); exact ⟨rfl, rfl⟩))
def o_lineStart (μ : MU) (l : Int) (w : Mm) : Int × Mm := if 0 ≤ l ∧ l ≤ m_fee (w 201 0 0) w then (m_lns l w, m_th μ 0 w) else (0, m_th μ 1 w)
theorem dX13_lineStart_0 : decode cX13_lineStart 0 = .ok (.aload_n 0, 1) := by decide +kernel
theorem dX13_lineStart_1 : decode cX13_lineStart 1 = .ok (.iload_n 1, 1) := by decide +kernel
theorem dX13_lineStart_2 : decode cX13_lineStart 2 = .ok (.iconst 0, 1) := by decide +kernel
theorem dX13_lineStart_3 : decode cX13_lineStart 3 = .ok (.aload_n 0, 1) := by decide +kernel
theorem dX13_lineStart_4 : decode cX13_lineStart 4 = .ok (.aload_n 0, 1) := by decide +kernel
theorem dX13_lineStart_5 : decode cX13_lineStart 5 = .ok (.getfield 13, 3) := by decide +kernel
theorem dX13_lineStart_8 : decode cX13_lineStart 8 = .ok (.iconst 0, 1) := by decide +kernel
theorem dX13_lineStart_9 : decode cX13_lineStart 9 = .ok (.iaload, 1) := by decide +kernel
theorem dX13_lineStart_10 : decode cX13_lineStart 10 = .ok (.invokevirtual 439, 3) := by decide +kernel
theorem dX13_lineStart_13 : decode cX13_lineStart 13 = .ok (.invokestatic 174, 3) := by decide +kernel
theorem dX13_lineStart_16 : decode cX13_lineStart 16 = .ok (.ifCond .eq 7, 3) := by decide +kernel
theorem dX13_lineStart_19 : decode cX13_lineStart 19 = .ok (.iconst 0, 1) := by decide +kernel
theorem dX13_lineStart_20 : decode cX13_lineStart 20 = .ok (.goto 4, 3) := by decide +kernel
theorem dX13_lineStart_23 : decode cX13_lineStart 23 = .ok (.iconst 1, 1) := by decide +kernel
theorem dX13_lineStart_24 : decode cX13_lineStart 24 = .ok (.putfield 171, 3) := by decide +kernel
theorem dX13_lineStart_27 : decode cX13_lineStart 27 = .ok (.iconst 0, 1) := by decide +kernel
theorem dX13_lineStart_28 : decode cX13_lineStart 28 = .ok (.istore_n 2, 1) := by decide +kernel
theorem dX13_lineStart_29 : decode cX13_lineStart 29 = .ok (.aload_n 0, 1) := by decide +kernel
theorem dX13_lineStart_30 : decode cX13_lineStart 30 = .ok (.getfield 171, 3) := by decide +kernel
theorem dX13_lineStart_33 : decode cX13_lineStart 33 = .ok (.ifCond .ne 18, 3) := by decide +kernel
theorem dX13_lineStart_36 : decode cX13_lineStart 36 = .ok (.aload_n 0, 1) := by decide +kernel
theorem dX13_lineStart_37 : decode cX13_lineStart 37 = .ok (.iload_n 2, 1) := by decide +kernel
theorem dX13_lineStart_38 : decode cX13_lineStart 38 = .ok (.invokevirtual 439, 3) := by decide +kernel
theorem dX13_lineStart_41 : decode cX13_lineStart 41 = .ok (.iload_n 1, 1) := by decide +kernel
theorem dX13_lineStart_42 : decode cX13_lineStart 42 = .ok (.if_icmp .ge 9, 3) := by decide +kernel
theorem dX13_lineStart_45 : decode cX13_lineStart 45 = .ok (.iinc 2 1, 3) := by decide +kernel
theorem dX13_lineStart_48 : decode cX13_lineStart 48 = .ok (.goto (-19), 3) := by decide +kernel
theorem dX13_lineStart_51 : decode cX13_lineStart 51 = .ok (.iload_n 2, 1) := by decide +kernel
theorem dX13_lineStart_52 : decode cX13_lineStart 52 = .ok (.ireturn, 1) := by decide +kernel
set_option maxRecDepth 4000 in
theorem c_lineStart (γ : LC) (μ : MU) (w : Mm) (l : Int) (S P M : Int) (hl : IR l) (hR0 : RB μ S P M w) (hS : S ≤ 28900) (hP : P ≤ 500000) (hM : M ≤ 590) : CMi γ μ 1 mX13_lineStart [.int (I l)] w (fun r w' => r = (o_lineStart μ l w).1 ∧ w' = (o_lineStart μ l w).2) := by
  refine CMi_of rfl (by simp [rv_cat, Value.category]) rfl ?_
  rintro κ hO hF rfl hR
  have hD := hF.dp
  show X κ 0 0 w 0 [some (rv μ.1), some (.int (I l)), none] []
  have hl0 := hR0.1.1.1
  unfold bL1 at hl0
  have g1 := fee_rng (p := w 201 0 0) (w := w) (by omega)
  have hL := hR0.1
  obtain ⟨f1, f2, f3, f4, f5⟩ := hR0.1.f
  obtain ⟨t1, t2, t3, t4, t5, t6, t7⟩ := hR0.2.1.2.2.2.1
  have JP24 : ∀ (z : Int), ((z = 0 ∧ 0 ≤ l ∧ l ≤ m_fee (w 201 0 0) w) ∨ (z = 1 ∧ ¬ (0 ≤ l ∧ l ≤ m_fee (w 201 0 0) w))) → X κ 0 0 (w) 24 [some (rv μ.1), some (.int (I l)), none] [.int (I z), rv μ.1] := by
    intro z hz
    refine pa_171 27 hO hR dX13_lineStart_24 rfl (by omega) (fun hR => ?_)
    refine X_iconst 28 hO dX13_lineStart_27 rfl ?_
    refine X_istore_n 29 hO dX13_lineStart_28 rfl rfl ?_
    have LP29 : ∀ (n : Nat) (p : Int), (w 201 0 0 - p).toNat < n → (0 ≤ p ∧ p ≤ w 201 0 0) → (z = 0 → m_lns l w = fnd (fun p => bi (m_fee p w ≥ l)) 1 (w 201 0 0 + 1 - p).toNat p) → (z = 1 → p = 0) → RM ((up w 139 μ.1 0 z)) μ → X κ 0 0 ((up w 139 μ.1 0 z)) 29 [some (rv μ.1), some (.int (I l)), some (.int (I p))] [] := by
      intro n
      induction n with
      | zero => intro p hm; exact absurd hm (Nat.not_lt_zero _)
      | succ n ih =>
        intro p hm hp hj hp0 hR
        refine X_aload_n 30 hO dX13_lineStart_29 rfl rfl ?_
        refine ga_171 33 hO hR dX13_lineStart_30 rfl (fun hi_30 => ?_)
        try simp (disch := decide) only [up_k, up_s, step_at, pool_at, poolN_at, opens_at, closes_at, fl_at, del_at, ins_at, rep_at, psh_at, trn_at, tak_at, pEn_at, cpQ_at, cpP_at, cpT_at, ti_at, th_at, rec_at, saves_at] at hi_30 ⊢
        refine X_if_ne 36 51 hO dX13_lineStart_33 rfl rfl (by omega) (fun hc_33 => ?_) (fun hc_33 => ?_)
        ·
          refine X_iload_n 52 hO dX13_lineStart_51 rfl rfl ?_
          exact XM_iret hO hF hR rfl (by first | exact Or.inl rfl | exact Or.inr ⟨rfl, bi_01 _⟩ | exact Or.inr ⟨rfl, by omega⟩) dX13_lineStart_52 (by first | assumption | omega | exact I_rng _) (by unfold o_lineStart m_th; rcases hz with ⟨h0, h1⟩ | ⟨h0, h1⟩ <;> first | (exfalso; omega) | (subst h0; rw [if_neg h1]; exact ⟨hp0 rfl, rfl⟩) | (rw [if_pos h1, hj h0, h0, fnd_hit (by omega) (by show bi (m_fee p w ≥ l) = 1; unfold bi; rw [if_pos (by omega)])]; exact ⟨rfl, rfl⟩))
        ·
          refine X_aload_n 37 hO dX13_lineStart_36 rfl rfl ?_
          refine X_iload_n 38 hO dX13_lineStart_37 rfl rfl ?_
          refine XM_callVi 41 hO hD hR lX13_439 [_] rfl dX13_lineStart_38 rfl (c_feeds _ _ _ _ (by omega)) (by decide) (by simp only [List.map_cons, List.map_nil, rv_cat]; exact Nat.le_of_ble_eq_true rfl) (fun r_38 w_38 hr_38 hp_38 hR => ?_)
          obtain ⟨e1_38, e2_38⟩ := hp_38
          subst e1_38
          subst e2_38
          rw [fee_up (by decide)]
          have g2 := fee_rng (p := p) (w := w) (by omega)
          refine X_iload_n 42 hO dX13_lineStart_41 rfl rfl ?_
          refine X_icmp_ge 45 51 hO dX13_lineStart_42 rfl rfl (by omega) (by omega) (fun hc_42 => ?_) (fun hc_42 => ?_)
          ·
            refine X_iload_n 52 hO dX13_lineStart_51 rfl rfl ?_
            exact XM_iret hO hF hR rfl (by first | exact Or.inl rfl | exact Or.inr ⟨rfl, bi_01 _⟩ | exact Or.inr ⟨rfl, by omega⟩) dX13_lineStart_52 (by first | assumption | omega | exact I_rng _) (by unfold o_lineStart m_th; rcases hz with ⟨h0, h1⟩ | ⟨h0, h1⟩ <;> first | (exfalso; omega) | (subst h0; rw [if_neg h1]; exact ⟨hp0 rfl, rfl⟩) | (rw [if_pos h1, hj h0, h0, fnd_hit (by omega) (by show bi (m_fee p w ≥ l) = 1; unfold bi; rw [if_pos (by omega)])]; exact ⟨rfl, rfl⟩))
          ·
            refine X_iinc 48 hO dX13_lineStart_45 rfl rfl ?_
            refine X_goto hO dX13_lineStart_48 (tgt := 29) rfl ?_
            have hpl : p ≠ w 201 0 0 := fun e => by rw [e] at hc_42; omega
            exact ih (p + 1) (by omega) (by omega) (fun h0 => (hj h0).trans (fnd_next (by omega) (by show bi (m_fee p w ≥ l) ≠ 1; unfold bi; rw [if_neg (by omega)]; decide))) (by omega) hR
    exact LP29 _ 0 (Nat.lt_succ_self _) (by omega) (fun _ => by unfold m_lns; rw [show w 201 0 0 + 1 - 0 = w 201 0 0 + 1 by omega]) (fun _ => rfl) hR
  refine X_aload_n 1 hO dX13_lineStart_0 rfl rfl ?_
  refine X_iload_n 2 hO dX13_lineStart_1 rfl rfl ?_
  refine X_iconst 3 hO dX13_lineStart_2 rfl ?_
  refine X_aload_n 4 hO dX13_lineStart_3 rfl rfl ?_
  refine X_aload_n 5 hO dX13_lineStart_4 rfl rfl ?_
  refine ga_13 8 hO hR dX13_lineStart_5 rfl ?_
  refine X_iconst 9 hO dX13_lineStart_8 rfl ?_
  refine ma_ld (L := 4) (c := 201) 10 hO hR rfl rfl rfl dX13_lineStart_9 rfl (by omega) (by omega) (fun hi_9 => ?_)
  try simp (disch := decide) only [up_k, up_s, step_at, pool_at, poolN_at, opens_at, closes_at, fl_at, del_at, ins_at, rep_at, psh_at, trn_at, tak_at, pEn_at, cpQ_at, cpP_at, cpT_at, ti_at, th_at, rec_at, saves_at] at hi_9 ⊢
  refine XM_callVi 13 hO hD hR lX13_439 [_] rfl dX13_lineStart_10 rfl (c_feeds _ _ _ _ (by omega)) (by decide) (by simp only [List.map_cons, List.map_nil, rv_cat]; exact Nat.le_of_ble_eq_true rfl) (fun r_10 w_10 hr_10 hp_10 hR => ?_)
  obtain ⟨e1_10, e2_10⟩ := hp_10
  subst e1_10
  subst e2_10
  refine XM_callSi 16 hO hD lX13_174 [_, _, _] rfl dX13_lineStart_13 rfl (c_in _ _ _ _ _ (by omega) (by omega) (by omega)) (by decide) (by simp only [List.map_cons, List.map_nil, rv_cat]; exact Nat.le_of_ble_eq_true rfl) (fun r_13 hr_13 hp_13 => ?_)
  subst hp_13
  refine X_if_eq 19 23 hO dX13_lineStart_16 rfl rfl (by omega) (fun hc_16 => ?_) (fun hc_16 => ?_)
  ·
    try simp only [bi_0, bi_ne, ne_eq, Classical.not_not] at hc_16
    refine X_iconst 24 hO dX13_lineStart_23 rfl ?_
    exact JP24 _ (by omega)
  ·
    try simp only [bi_0, bi_ne, ne_eq, Classical.not_not] at hc_16
    refine X_iconst 20 hO dX13_lineStart_19 rfl ?_
    refine X_goto hO dX13_lineStart_20 (tgt := 24) rfl ?_
    exact JP24 _ (by omega)
