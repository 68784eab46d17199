/-! a group is closed -/
theorem dX12_close_0 : decode cX12_close 0 = .ok (.aload_n 0, 1) := by decide +kernel
theorem dX12_close_1 : decode cX12_close 1 = .ok (.getfield 87, 3) := by decide +kernel
theorem dX12_close_4 : decode cX12_close 4 = .ok (.ifCond .ne 13, 3) := by decide +kernel
theorem dX12_close_7 : decode cX12_close 7 = .ok (.new 163, 3) := by decide +kernel
theorem dX12_close_10 : decode cX12_close 10 = .ok (.dup, 1) := by decide +kernel
theorem dX12_close_11 : decode cX12_close 11 = .ok (.ldc 179, 2) := by decide +kernel
theorem dX12_close_13 : decode cX12_close 13 = .ok (.invokespecial 167, 3) := by decide +kernel
theorem dX12_close_16 : decode cX12_close 16 = .ok (.athrow, 1) := by decide +kernel
theorem dX12_close_17 : decode cX12_close 17 = .ok (.aload_n 0, 1) := by decide +kernel
theorem dX12_close_18 : decode cX12_close 18 = .ok (.getfield 16, 3) := by decide +kernel
theorem dX12_close_21 : decode cX12_close 21 = .ok (.aload_n 0, 1) := by decide +kernel
theorem dX12_close_22 : decode cX12_close 22 = .ok (.getfield 10, 3) := by decide +kernel
theorem dX12_close_25 : decode cX12_close 25 = .ok (.invokevirtual 136, 3) := by decide +kernel
theorem dX12_close_28 : decode cX12_close 28 = .ok (.aload_n 0, 1) := by decide +kernel
theorem dX12_close_29 : decode cX12_close 29 = .ok (.iconst 0, 1) := by decide +kernel
theorem dX12_close_30 : decode cX12_close 30 = .ok (.invokevirtual 91, 3) := by decide +kernel
theorem dX12_close_33 : decode cX12_close 33 = .ok (.aload_n 0, 1) := by decide +kernel
theorem dX12_close_34 : decode cX12_close 34 = .ok (.iconst 0, 1) := by decide +kernel
theorem dX12_close_35 : decode cX12_close 35 = .ok (.putfield 87, 3) := by decide +kernel
theorem dX12_close_38 : decode cX12_close 38 = .ok (.aload_n 0, 1) := by decide +kernel
theorem dX12_close_39 : decode cX12_close 39 = .ok (.iconst 0, 1) := by decide +kernel
theorem dX12_close_40 : decode cX12_close 40 = .ok (.putfield 113, 3) := by decide +kernel
theorem dX12_close_43 : decode cX12_close 43 = .ok (.aload_n 0, 1) := by decide +kernel
theorem dX12_close_44 : decode cX12_close 44 = .ok (.getfield 29, 3) := by decide +kernel
theorem dX12_close_47 : decode cX12_close 47 = .ok (.getfield 98, 3) := by decide +kernel
theorem dX12_close_50 : decode cX12_close 50 = .ok (.getfield 181, 3) := by decide +kernel
theorem dX12_close_53 : decode cX12_close 53 = .ok (.ireturn, 1) := by decide +kernel
set_option maxRecDepth 4000 in
theorem kX12_close (γ : LC) (w : Mm) (f : Int) (p : RP) (μ : MU) (A : Mm) (S P M : Int) (h : CHB p μ f (lvL p μ A) w A) (hRB : RB μ S P M A) (hS : S ≤ 28900) (hP : P ≤ 500000) (hM : M ≤ 598) (hb28 : ∀ j, 0 ≤ j → j < 3 → A 228 0 j = 0 ∨ A 228 0 j = 1) : KI γ 13 mX12_close [rv f] w (40) (2700) (fun r w' => r = (o_close μ A).1 ∧ (o_close μ A).2 139 μ.1 0 = 0 ∧ RES μ f w w' (o_close μ A).2) (fun E w' => E = "java/lang/IllegalStateException" ∧ (o_close μ A).2 139 μ.1 0 = 1 ∧ RES μ f w w' (o_close μ A).2) := by
  refine MX_of rfl rfl (by simp [rv_cat, int_cat]) rfl ?_
  rintro κ hO hF rfl
  have hD := hF.dp
  show X κ (40) (2700) w 0 [some (rv f)] []
  obtain ⟨hr, hTX, hLV⟩ := id (h.o9 (v := 0) hRB hM)
  have hR0 : RB μ S P M (up A 139 μ.1 0 0) := hRB.o9
  obtain ⟨t0, hFB, t2, -⟩ := hr.toF
  obtain ⟨hB0, hK0, hZ0, hY0⟩ := id hR0
  have hT := hK0.2.2.2.1
  have hl := hLV.b0.1
  have h120 := hB0.2.2.2.2.1
  have hSB := hB0.1
  have hLn : ((lvL p μ (up A 139 μ.1 0 0)).length : Int) ≤ 30000 := by unfold lvL; rw [List.length_map, rng_len]; omega
  obtain ⟨b1, b2, b5⟩ := cal_pre hR0
  have hz1 : A 132 μ.1 0 = 0 ∨ A 132 μ.1 0 = 1 := hRB.2.2.1.1
  have e87 : w 87 f 0 = A 132 μ.1 0 := h.1.1.2.1.2.2.2.2.1
  have hr87 : w 87 f 0 = 0 ∨ w 87 f 0 = 1 := by rw [e87]; exact hz1
  have hq : sqD w f (w 42 f 0) 20 2 := Or.inl ⟨rfl, rfl, rfl⟩
  have hd2 := (hr.1.2.2.1.sq hq).1
  have t42 := hd2.1.1
  obtain ⟨hDA, h67⟩ := hr.DAs hq (by omega)
  have e63 := trivial
  refine X_aload_n 1 hO dX12_close_0 rfl rfl ?_
  refine gX12_87 4 hO dX12_close_1 rfl (by first | assumption | omega | (simp (disch := first | decide | assumption | omega) only [up_k, up_s, up_a, up_i, flA_k, flA_a, flA_n, cpA_k, cpA_a, newO_o, newA_o, newO_t, newA_t, newA_n, cpQ_k, cpQ_a] <;> first | assumption | omega)) (fun hi_1 => ?_)
  try simp (disch := first | decide | assumption | omega) only [up_k, up_s, up_a, up_i, flA_k, flA_a, flA_n, cpA_k, cpA_a, newO_o, newA_o, newO_t, newA_t, newA_n, cpQ_k, cpQ_a, e63] at hi_1 ⊢
  refine X_if_ne 7 17 hO dX12_close_4 rfl rfl (by omega) (fun hc_4 => ?_) (fun hc_4 => ?_)
  ·
    try simp only [bi_0, bi_ne, ne_eq, Classical.not_not] at hc_4
    refine X_aload_n 18 hO dX12_close_17 rfl rfl ?_
    refine gX12_16 21 hO dX12_close_18 rfl (by first | assumption | omega | (simp (disch := first | decide | assumption | omega) only [up_k, up_s, up_a, up_i, flA_k, flA_a, flA_n, cpA_k, cpA_a, newO_o, newA_o, newO_t, newA_t, newA_n, cpQ_k, cpQ_a] <;> first | assumption | omega)) ?_
    try simp (disch := first | decide | assumption | omega) only [up_k, up_s, up_a, up_i, flA_k, flA_a, flA_n, cpA_k, cpA_a, newO_o, newA_o, newO_t, newA_t, newA_n, cpQ_k, cpQ_a, e63]
    refine X_aload_n 22 hO dX12_close_21 rfl rfl ?_
    refine gX12_10 25 hO dX12_close_22 rfl (by first | assumption | omega | (simp (disch := first | decide | assumption | omega) only [up_k, up_s, up_a, up_i, flA_k, flA_a, flA_n, cpA_k, cpA_a, newO_o, newA_o, newO_t, newA_t, newA_n, cpQ_k, cpQ_a] <;> first | assumption | omega)) ?_
    try simp (disch := first | decide | assumption | omega) only [up_k, up_s, up_a, up_i, flA_k, flA_a, flA_n, cpA_k, cpA_a, newO_o, newA_o, newO_t, newA_t, newA_n, cpQ_k, cpQ_a, e63]
    refine X_kVv (t := 2) 28 hO hD lX12_136 rfl (by decide) [_] rfl dX12_close_25 rfl (by first | assumption | omega | (simp (disch := first | decide | assumption | omega) only [up_k, up_s, up_a, up_i, flA_k, flA_a, flA_n, cpA_k, cpA_a, newO_o, newA_o, newO_t, newA_t, newA_n, cpQ_k, cpQ_a] <;> first | assumption | omega)) (kX1_takeAll _ _ _ _ 400 hDA (by omega)) (by decide) (by simp [rv_cat, int_cat]) (by first | decide | exact Nat.zero_le _ | omega) (by first | decide | exact Nat.zero_le _ | omega) (fun w_25 hp_25 => ?_) (fun E w_ hx_ => hx_.elim)
    have h1 : A 132 μ.1 0 = 1 := by omega
    obtain ⟨r1, s2, s3, r3⟩ := hr.saveP hl hSB.2.2.2.2.1 hSB.1.2 hq hp_25
    have n12 : w_25 12 (w 42 f 0) 0 = w 12 (w 42 f 0) 0 := r3.g (by omega) hd2.1.2 (fun z => by unfold SDb at z; omega)
    have f42 : w_25 42 f 0 = w 42 f 0 := ed_fr hr.1.2.1.1 r3 (SDb.std (Or.inr (Or.inl rfl))) hl.1 (by decide)
    have c13 : w_25 0 f 0 = 13 := r1.toF.1
    have g1 : UPG f w w_25 := r3.toG hr.1.2.1.1 hr.1.2.2.2.2.2.1 (fun k z1 z => by unfold SDb at z; omega) (fun k z => by unfold SDb at z; omega)
    have k1 : CHK p μ f w_25 (m_saves μ 2 (up A 139 μ.1 0 0)) := CHK.ini ⟨hr, hTX, hLV⟩ hT (by omega) hK0.2.2.1 hSB r1 (by rw [f42]; exact ⟨s2, by rw [n12]; exact s3⟩)
    have eok := ends_ok (g := 0) (w := up (m_saves μ 2 (up A 139 μ.1 0 0)) 132 μ.1 0 0) (b1.up_o (by decide)) (b2.up_o (by decide)) (by rw [up_k _ (by decide), up_k _ (by decide), b5 _ _ _ (by decide), b5 _ _ _ (by decide)]; exact hl.2) (by decide) (by omega) (by omega)
    obtain ⟨A1, hA1⟩ : ∃ A1, A1 = m_saves μ 2 (up A 139 μ.1 0 0) := ⟨_, rfl⟩
    have ec : o_close μ A = m_cl1 μ (m_ends μ 0 (up A1 132 μ.1 0 0)) := by rw [close_1 h1, hA1]
    have b139 : A1 139 μ.1 0 = 0 := by rw [hA1, b5 _ _ _ (by decide), up_s]
    have b132 : A1 132 μ.1 0 = 1 := by rw [hA1, b5 _ _ _ (by decide), up_k _ (by decide)]; exact h1
    have b123 : A1 123 μ.1 0 ≤ A1 121 μ.1 0 := by rw [hA1, b5 _ _ _ (by decide), b5 _ _ _ (by decide)]; exact hZ0.2.2.1.2
    have b28 : ∀ j, 0 ≤ j → j < 3 → A1 228 0 j = 0 ∨ A1 228 0 j = 1 := fun j j0 j1 => by rw [hA1, b5 _ _ _ (by decide), up_k _ (by decide)]; exact hb28 j j0 j1
    rw [← hA1] at k1 b1 b2 eok
    refine X_aload_n 29 hO dX12_close_28 rfl rfl ?_
    refine X_iconst 30 hO dX12_close_29 rfl ?_
    refine X_kVv (t := 13) 33 hO hD lX12_91 rfl (by decide) [_] rfl dX12_close_30 rfl (by first | assumption | omega | (simp (disch := first | decide | assumption | omega) only [up_k, up_s, up_a, up_i, flA_k, flA_a, flA_n, cpA_k, cpA_a, newO_o, newA_o, newO_t, newA_t, newA_n, cpQ_k, cpQ_a] <;> first | assumption | omega)) (kX12_makeChange _ _ _ 0 p μ A1 S P M k1.1 b1 b2 (by omega) (by omega) hM b123 b28 (Or.inl rfl) (k1.kpb b2.1.1) k1.2.2 k1.2.1.2.2) (by decide) (by simp [rv_cat, int_cat]) (by first | decide | exact Nat.zero_le _ | omega) (by first | decide | exact Nat.zero_le _ | omega) (fun w_30 hp_30 => ?_) (fun E w_ hx_ => (XE_out hO hF (by
  obtain ⟨x1, x2, x3, p3, x4, x5⟩ := hx_
  rw [ends_c1 b1 b2 x2] at eok ec
  have ee : m_en2 μ 0 (m_ntf μ A1) = (0, m_rest μ 2 1 (m_ntf μ A1).2) := by unfold m_en2; rw [if_pos x3]
  rw [ee] at eok ec
  obtain ⟨o1, o2, o3⟩ := eok
  dsimp only at o1 o2 o3
  obtain ⟨o4, o5⟩ := o2.un
  have e1 : (m_rest μ 2 1 (m_ntf μ A1).2) 132 μ.1 0 = 1 := by rw [rest_at (by decide), (ntf_rk b1 b2).1.2 _ _ _ (by decide) (by decide) (by decide) (by decide) (by decide) (by decide)]; exact b132
  have ec2 : o_close μ A = (0, up (up (up (m_rest μ 2 1 (m_ntf μ A1).2) 132 μ.1 0 0) 132 μ.1 0 1) 139 μ.1 0 1) := by rw [ec]; rfl
  rw [ec2]
  exact ⟨x1, up_s _ _ _ _ _, p3, x4.og1 o4 (by omega) o5 e1, g1.trans x5⟩)))
    have hqq : ∃ A3 p3, m_ends μ 0 (up A1 132 μ.1 0 0) = (1, up A3 132 μ.1 0 0) ∧ CHB p3 μ f (lvL p3 μ A3) w_30 A3 ∧ UPG f w_25 w_30 := by
      rcases hp_30 with ⟨y1, y2⟩ | ⟨y1, y2, p3, y3, y4⟩
      · rw [y2]; exact ⟨A1, p, ends_c0 y1, k1.1, UPG.refl⟩
      · refine ⟨_, p3, ?_, y3, y4.gg⟩
        rw [ends_c1 b1 b2 y1]; unfold m_en2; rw [if_neg (by omega)]
    obtain ⟨A3, p3, z1, z2, z3⟩ := hqq
    rw [z1] at eok ec
    obtain ⟨o1, o2, o3⟩ := eok
    dsimp only at o1 o2 o3
    obtain ⟨o4, o5⟩ := o2.un
    have o6 := z2.cur o4
    have c13b : w_30 0 f 0 = 13 := z2.1.toF.1
    have cT : w_30 0 (w_30 45 f 0) 0 = 11 := o6.2.1
    have cC : w_30 0 (w_30 40 (w_30 45 f 0) 0) 0 = 5 := o6.2.2
    clear e63
    have e63 := o6.1
    refine X_aload_n 34 hO dX12_close_33 rfl rfl ?_
    refine X_iconst 35 hO dX12_close_34 rfl ?_
    refine pX12_87 38 hO dX12_close_35 rfl (by first | assumption | omega | (simp (disch := first | decide | assumption | omega) only [up_k, up_s, up_a, up_i, flA_k, flA_a, flA_n, cpA_k, cpA_a, newO_o, newA_o, newO_t, newA_t, newA_n, cpQ_k, cpQ_a] <;> first | assumption | omega)) (by omega) ?_
    refine X_aload_n 39 hO dX12_close_38 rfl rfl ?_
    refine X_iconst 40 hO dX12_close_39 rfl ?_
    refine pX12_113 43 hO dX12_close_40 rfl (by first | assumption | omega | (simp (disch := first | decide | assumption | omega) only [up_k, up_s, up_a, up_i, flA_k, flA_a, flA_n, cpA_k, cpA_a, newO_o, newA_o, newO_t, newA_t, newA_n, cpQ_k, cpQ_a] <;> first | assumption | omega)) (by omega) ?_
    refine X_aload_n 44 hO dX12_close_43 rfl rfl ?_
    refine gX12_29 47 hO dX12_close_44 rfl (by first | assumption | omega | (simp (disch := first | decide | assumption | omega) only [up_k, up_s, up_a, up_i, flA_k, flA_a, flA_n, cpA_k, cpA_a, newO_o, newA_o, newO_t, newA_t, newA_n, cpQ_k, cpQ_a] <;> first | assumption | omega)) ?_
    try simp (disch := first | decide | assumption | omega) only [up_k, up_s, up_a, up_i, flA_k, flA_a, flA_n, cpA_k, cpA_a, newO_o, newA_o, newO_t, newA_t, newA_n, cpQ_k, cpQ_a, e63]
    refine gX12_98 50 hO dX12_close_47 rfl (by first | assumption | omega | (simp (disch := first | decide | assumption | omega) only [up_k, up_s, up_a, up_i, flA_k, flA_a, flA_n, cpA_k, cpA_a, newO_o, newA_o, newO_t, newA_t, newA_n, cpQ_k, cpQ_a] <;> first | assumption | omega)) ?_
    try simp (disch := first | decide | assumption | omega) only [up_k, up_s, up_a, up_i, flA_k, flA_a, flA_n, cpA_k, cpA_a, newO_o, newA_o, newO_t, newA_t, newA_n, cpQ_k, cpQ_a, e63]
    refine gX12_181 53 hO dX12_close_50 rfl (by first | assumption | omega | (simp (disch := first | decide | assumption | omega) only [up_k, up_s, up_a, up_i, flA_k, flA_a, flA_n, cpA_k, cpA_a, newO_o, newA_o, newO_t, newA_t, newA_n, cpQ_k, cpQ_a] <;> first | assumption | omega)) (fun hi_50 => ?_)
    try simp (disch := first | decide | assumption | omega) only [up_k, up_s, up_a, up_i, flA_k, flA_a, flA_n, cpA_k, cpA_a, newO_o, newA_o, newO_t, newA_t, newA_n, cpQ_k, cpQ_a, e63] at hi_50 ⊢
    exact X_iret hO hF rfl (by first | exact Or.inl rfl | exact Or.inr ⟨rfl, bi_01 _⟩ | exact Or.inr ⟨rfl, by omega⟩) dX12_close_53 ⟨_, rfl, (by omega), (by
  have ec2 : o_close μ A = ((up A3 132 μ.1 0 0) 126 μ.1 0, up (up A3 132 μ.1 0 0) 129 μ.1 0 (-1)) := by rw [ec]; unfold m_cl1; rw [if_neg (show ¬ (((1 : Int), up A3 132 μ.1 0 0).1 = 0) from by show ¬ ((1 : Int) = 0); decide)]
  rw [ec2]
  refine ⟨by show _ = up A3 132 μ.1 0 0 126 μ.1 0; rw [up_k _ (by decide)], ?_, p3, z2.og o4 (by omega) o5, (g1.trans z3).trans (z2.1.E86 fun k a i z => ?_)⟩
  · show up (up A3 132 μ.1 0 0) 129 μ.1 0 (-1) 139 μ.1 0 = 0
    rw [up_k _ (by decide), o3 _ _ _ (by decide), up_k _ (by decide)]; exact b139
  · by_cases y : a = f
    · rw [up_k _ (by omega), up_k _ (by omega)]
    · rw [up_a _ _ _ y, up_a _ _ _ y])⟩
  ·
    try simp only [bi_0, bi_ne, ne_eq, Classical.not_not] at hc_4
    exact X_throwISE hO hF (by decide) (text := "no group is open") (by decide) dX12_close_7 dX12_close_10 dX12_close_11 dX12_close_13 dX12_close_16 (by first | exact (by
  have h0 : A 132 μ.1 0 = 0 := by omega
  rw [close_0 h0]
  exact ⟨rfl, up_s _ _ _ _ _, h.r9 hRB hM⟩)) (by first | decide | omega) (by first | decide | omega) (by simp [rv_cat, int_cat])
