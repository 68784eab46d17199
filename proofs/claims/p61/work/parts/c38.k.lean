/-! undoing a change in the class: the opposites -/
theorem OPI.tx {μ : MU} {f S P M n nd t : Int} {κ : Int → Int} {W0 w W : Mm} {p : RP} (h : OPI μ f κ S P n nd W0 (t + 1) p w W) (hH : OPH μ S P M n W0) (ht : 0 ≤ t ∧ t + 1 ≤ n) : TrT w (w 47 f 0) ∧ TrX w (w 47 f 0) ∧ TrBn w (w 47 f 0) t ∧ (w 73 (w 3 (w 37 (w 47 f 0) 0) t) 0 = W 244 0 t ∧ w 36 (w 3 (w 37 (w 47 f 0) 0) t) 0 = ps_ p (κ t)) ∧ (vSp (pc_ p) (ps_ p) (pg_ p) w W (κ t) ∧ W 241 0 t = W 212 0 (κ t) % 8 ∧ W 243 0 t = wsz (W 212 0 (κ t))) := by
  obtain ⟨⟨v1, v2, v3⟩, v4, v5, v6, v7⟩ := h.v hH (by omega)
  obtain ⟨hc, hT1, ⟨u1, u2, u3, u4, u5, u6, u7⟩, -⟩ := h
  have hn := hH.2.1
  obtain ⟨⟨x1, x2⟩, ⟨x3, x4, x5⟩, x6, x7⟩ := hc.1.1.1.2.2.2.2.2.2
  obtain ⟨⟨y1, -, -⟩, -, -, ⟨y2, y3, y4, y5, y6⟩⟩ := hT1 t ht.1 (by omega)
  have l4 : 0 ≤ W 201 0 0 ∧ W 201 0 0 ≤ 400 := v1.1.1
  refine ⟨⟨x1, x3, x4, x7⟩, ⟨fun i i0 i1 => (x6 i i0 i1).1, fun i j i0 i1 j0 j1 ij e => ?_⟩, fun i i0 i1 => ?_, ⟨y1, y2⟩, hc.1.1.2.2.2 (κ t) y6.1 (by omega), y3, y5⟩
  · have z1 := (x6 i i0 i1).2
    have z2 := (x6 j j0 j1).2
    rw [e] at z1; omega
  · obtain ⟨⟨z1, z2, z3⟩, z4, -⟩ := hT1 i i0 (by omega)
    have tv := u4.1 i i0 (by omega)
    dsimp only at tv
    have z1' : w 73 (w 3 (w 37 (w 47 f 0) 0) i) 0 = W 244 0 i := z1
    have z2' : w 74 (w 3 (w 37 (w 47 f 0) 0) i) 0 = W 245 0 i := z2
    exact ⟨by omega, by omega, z4⟩
theorem dX9_doOpposite_0 : decode cX9_doOpposite 0 = .ok (.aload_n 0, 1) := by decide +kernel
theorem dX9_doOpposite_1 : decode cX9_doOpposite 1 = .ok (.getfield 11, 3) := by decide +kernel
theorem dX9_doOpposite_4 : decode cX9_doOpposite 4 = .ok (.iload_n 2, 1) := by decide +kernel
theorem dX9_doOpposite_5 : decode cX9_doOpposite 5 = .ok (.aaload, 1) := by decide +kernel
theorem dX9_doOpposite_6 : decode cX9_doOpposite 6 = .ok (.getfield 104, 3) := by decide +kernel
theorem dX9_doOpposite_9 : decode cX9_doOpposite 9 = .ok (.astore_n 3, 1) := by decide +kernel
theorem dX9_doOpposite_10 : decode cX9_doOpposite 10 = .ok (.aload_n 0, 1) := by decide +kernel
theorem dX9_doOpposite_11 : decode cX9_doOpposite 11 = .ok (.getfield 11, 3) := by decide +kernel
theorem dX9_doOpposite_14 : decode cX9_doOpposite 14 = .ok (.iload_n 2, 1) := by decide +kernel
theorem dX9_doOpposite_15 : decode cX9_doOpposite 15 = .ok (.aaload, 1) := by decide +kernel
theorem dX9_doOpposite_16 : decode cX9_doOpposite 16 = .ok (.getfield 78, 3) := by decide +kernel
theorem dX9_doOpposite_19 : decode cX9_doOpposite 19 = .ok (.istore 4, 2) := by decide +kernel
theorem dX9_doOpposite_21 : decode cX9_doOpposite 21 = .ok (.aload_n 3, 1) := by decide +kernel
theorem dX9_doOpposite_22 : decode cX9_doOpposite 22 = .ok (.getfield 60, 3) := by decide +kernel
theorem dX9_doOpposite_25 : decode cX9_doOpposite 25 = .ok (.iconst 1, 1) := by decide +kernel
theorem dX9_doOpposite_26 : decode cX9_doOpposite 26 = .ok (.if_icmp .ne 34, 3) := by decide +kernel
theorem dX9_doOpposite_29 : decode cX9_doOpposite 29 = .ok (.aload_n 0, 1) := by decide +kernel
theorem dX9_doOpposite_30 : decode cX9_doOpposite 30 = .ok (.iload_n 2, 1) := by decide +kernel
theorem dX9_doOpposite_31 : decode cX9_doOpposite 31 = .ok (.iconst 2, 1) := by decide +kernel
theorem dX9_doOpposite_32 : decode cX9_doOpposite 32 = .ok (.iload 4, 2) := by decide +kernel
theorem dX9_doOpposite_34 : decode cX9_doOpposite 34 = .ok (.aload_n 3, 1) := by decide +kernel
theorem dX9_doOpposite_35 : decode cX9_doOpposite 35 = .ok (.getfield 84, 3) := by decide +kernel
theorem dX9_doOpposite_38 : decode cX9_doOpposite 38 = .ok (.invokevirtual 107, 3) := by decide +kernel
theorem dX9_doOpposite_41 : decode cX9_doOpposite 41 = .ok (.aload_n 1, 1) := by decide +kernel
theorem dX9_doOpposite_42 : decode cX9_doOpposite 42 = .ok (.iload 4, 2) := by decide +kernel
theorem dX9_doOpposite_44 : decode cX9_doOpposite 44 = .ok (.aload_n 3, 1) := by decide +kernel
theorem dX9_doOpposite_45 : decode cX9_doOpposite 45 = .ok (.getfield 84, 3) := by decide +kernel
theorem dX9_doOpposite_48 : decode cX9_doOpposite 48 = .ok (.invokevirtual 111, 3) := by decide +kernel
theorem dX9_doOpposite_51 : decode cX9_doOpposite 51 = .ok (.ifnull 7, 3) := by decide +kernel
theorem dX9_doOpposite_54 : decode cX9_doOpposite 54 = .ok (.iconst 1, 1) := by decide +kernel
theorem dX9_doOpposite_55 : decode cX9_doOpposite 55 = .ok (.goto 4, 3) := by decide +kernel
theorem dX9_doOpposite_58 : decode cX9_doOpposite 58 = .ok (.iconst 0, 1) := by decide +kernel
theorem dX9_doOpposite_59 : decode cX9_doOpposite 59 = .ok (.ireturn, 1) := by decide +kernel
theorem dX9_doOpposite_60 : decode cX9_doOpposite 60 = .ok (.aload_n 3, 1) := by decide +kernel
theorem dX9_doOpposite_61 : decode cX9_doOpposite 61 = .ok (.getfield 117, 3) := by decide +kernel
theorem dX9_doOpposite_64 : decode cX9_doOpposite 64 = .ok (.ifnonnull 5, 3) := by decide +kernel
theorem dX9_doOpposite_67 : decode cX9_doOpposite 67 = .ok (.iconst 0, 1) := by decide +kernel
theorem dX9_doOpposite_68 : decode cX9_doOpposite 68 = .ok (.ireturn, 1) := by decide +kernel
theorem dX9_doOpposite_69 : decode cX9_doOpposite 69 = .ok (.aload_n 3, 1) := by decide +kernel
theorem dX9_doOpposite_70 : decode cX9_doOpposite 70 = .ok (.getfield 60, 3) := by decide +kernel
theorem dX9_doOpposite_73 : decode cX9_doOpposite 73 = .ok (.iconst 2, 1) := by decide +kernel
theorem dX9_doOpposite_74 : decode cX9_doOpposite 74 = .ok (.if_icmp .ne 26, 3) := by decide +kernel
theorem dX9_doOpposite_77 : decode cX9_doOpposite 77 = .ok (.aload_n 0, 1) := by decide +kernel
theorem dX9_doOpposite_78 : decode cX9_doOpposite 78 = .ok (.iload_n 2, 1) := by decide +kernel
theorem dX9_doOpposite_79 : decode cX9_doOpposite 79 = .ok (.iconst 1, 1) := by decide +kernel
theorem dX9_doOpposite_80 : decode cX9_doOpposite 80 = .ok (.iload 4, 2) := by decide +kernel
theorem dX9_doOpposite_82 : decode cX9_doOpposite 82 = .ok (.aload_n 3, 1) := by decide +kernel
theorem dX9_doOpposite_83 : decode cX9_doOpposite 83 = .ok (.getfield 84, 3) := by decide +kernel
theorem dX9_doOpposite_86 : decode cX9_doOpposite 86 = .ok (.invokevirtual 107, 3) := by decide +kernel
theorem dX9_doOpposite_89 : decode cX9_doOpposite 89 = .ok (.aload_n 1, 1) := by decide +kernel
theorem dX9_doOpposite_90 : decode cX9_doOpposite 90 = .ok (.iload 4, 2) := by decide +kernel
theorem dX9_doOpposite_92 : decode cX9_doOpposite 92 = .ok (.aload_n 3, 1) := by decide +kernel
theorem dX9_doOpposite_93 : decode cX9_doOpposite 93 = .ok (.getfield 117, 3) := by decide +kernel
theorem dX9_doOpposite_96 : decode cX9_doOpposite 96 = .ok (.invokevirtual 121, 3) := by decide +kernel
theorem dX9_doOpposite_99 : decode cX9_doOpposite 99 = .ok (.ireturn, 1) := by decide +kernel
theorem dX9_doOpposite_100 : decode cX9_doOpposite 100 = .ok (.aload_n 1, 1) := by decide +kernel
theorem dX9_doOpposite_101 : decode cX9_doOpposite 101 = .ok (.iload 4, 2) := by decide +kernel
theorem dX9_doOpposite_103 : decode cX9_doOpposite 103 = .ok (.aload_n 3, 1) := by decide +kernel
theorem dX9_doOpposite_104 : decode cX9_doOpposite 104 = .ok (.getfield 117, 3) := by decide +kernel
theorem dX9_doOpposite_107 : decode cX9_doOpposite 107 = .ok (.getfield 125, 3) := by decide +kernel
theorem dX9_doOpposite_110 : decode cX9_doOpposite 110 = .ok (.iconst 0, 1) := by decide +kernel
theorem dX9_doOpposite_111 : decode cX9_doOpposite 111 = .ok (.iaload, 1) := by decide +kernel
theorem dX9_doOpposite_112 : decode cX9_doOpposite 112 = .ok (.invokevirtual 131, 3) := by decide +kernel
theorem dX9_doOpposite_115 : decode cX9_doOpposite 115 = .ok (.iconst 1, 1) := by decide +kernel
theorem dX9_doOpposite_116 : decode cX9_doOpposite 116 = .ok (.ireturn, 1) := by decide +kernel
set_option maxRecDepth 4000 in
theorem kX9_doOpposite (γ : LC) (w : Mm) (f T D t : Int) (p : RP) (μ : MU) (kp : Int → Int) (S P M n nd : Int) (W0 W : Mm) (h : OPI μ f kp S P n nd W0 (t + 1) p w W) (hH : OPH μ S P M n W0) (ht : 0 ≤ t ∧ t + 1 ≤ n) (hTe : T = w 47 f 0) (hDe : D = w 41 f 0) : KI γ 7 mX9_doOpposite [rv T, rv D, .int (I t)] w (4) (420) (fun r w' => (r = 1 ∧ (m_opp μ (pl_ p) nd t W).1 = 1 ∧ ∃ p', OPI μ f kp S P n nd W0 t p' w' (m_opp μ (pl_ p) nd t W).2 ∧ UPG f w w' ∧ pl_ p' = pl_ p) ∨ (r = 0 ∧ (m_opp μ (pl_ p) nd t W) = (0, W) ∧ CHK p μ f w' W ∧ UPG f w w')) NX := by
  refine MX_of rfl rfl (by simp [rv_cat, int_cat]) rfl ?_
  rintro κ hO hF rfl
  have hD := hF.dp
  show X κ (4) (420) w 0 [some (rv T), some (rv D), some (.int (I t)), none, none] []
  refine X_wi fun hWI => ?_
  have h00 := hWI.z0
  obtain ⟨tT, tX, tB, ⟨t73, t36⟩, hsp, k1, k3⟩ := h.tx hH ht
  obtain ⟨⟨v1, v2, v3⟩, v4, v5, v6, v7⟩ := h.v hH (by omega)
  obtain ⟨q1, q2, q3, q4, q5, q6⟩ := h.qf hH ht
  have hn8 := hH.2.1
  have hc := h.1
  have hr := hc.1.1
  rw [← hTe] at tT tX tB t73 t36
  obtain ⟨g, hg⟩ : ∃ g, g = ps_ p (kp t) := ⟨_, rfl⟩
  rw [← hg] at t36
  obtain ⟨⟨s1, s2⟩, s3, s4, s5, s6⟩ := hsp
  rw [← hg] at s1 s2 s3 s4 s5 s6
  rw [← k1, ← k3] at s4 s6
  rw [← k1] at s3 s5
  have c10 : w 0 T 0 = 10 := tT.1
  have c26 : w 0 (w 37 T 0) 0 = 26 := tT.2.1
  have c28 : w 2 (w 37 T 0) 0 = 8 := tT.2.2.1
  have c9 : w 0 (w 3 (w 37 T 0) t) 0 = 9 := tX.1 t ht.1 (by omega)
  have c7 : w 0 g 0 = 7 := s1
  have s4' := s4 (by omega)
  have kk : w 68 g 0 = W 241 0 t + 1 := by rw [s3]; unfold kdC; rw [if_pos (by omega)]
  have cD : w 0 D 0 = 2 := by rw [hDe]; exact hr.toF.2.2.1
  have hs := hr.1.2.2.1.1.1
  have hDg : DG w D := by rw [hDe]; exact hr.toDG v1.1.2.2.1 (by have := v6.2.2.2.2.2; omega) q3.2.2
  have low : w 67 (w 11 D 0) 0 = W 201 0 0 := by rw [hDe]; exact hr.low.2.2.2.1
  have e36 := t36
  have e73 := t73
  have e68 := kk
  have e70 := s4'.2
  have e32 := trivial
  refine X_aload_n 1 hO dX9_doOpposite_0 rfl rfl ?_
  refine gX9_11 4 hO dX9_doOpposite_1 rfl (by first | assumption | omega | (simp (disch := first | decide | assumption | omega) only [up_k, up_s, up_a, up_i, flA_k, flA_a, flA_n, cpA_k, cpA_a, newO_o, newA_o, newO_t, newA_t, newA_n, cpQ_k, cpQ_a] <;> first | assumption | omega)) ?_
  try simp (disch := first | decide | assumption | omega) only [up_k, up_s, up_a, up_i, flA_k, flA_a, flA_n, cpA_k, cpA_a, newO_o, newA_o, newO_t, newA_t, newA_n, cpQ_k, cpQ_a, e36, e73, e68, e70, e32]
  refine X_iload_n 5 hO dX9_doOpposite_4 rfl rfl ?_
  refine X_aald (t := 26) (C := "Foldback$Trace") 6 hO rfl (by decide) dX9_doOpposite_5 rfl (by first | assumption | omega | (simp (disch := first | decide | assumption | omega) only [up_k, up_s, up_a, up_i, flA_k, flA_a, flA_n, cpA_k, cpA_a, newO_o, newA_o, newO_t, newA_t, newA_n, cpQ_k, cpQ_a] <;> first | assumption | omega)) (by first | assumption | omega | (simp (disch := first | decide | assumption | omega) only [up_k, up_s, up_a, up_i, flA_k, flA_a, flA_n, cpA_k, cpA_a, newO_o, newA_o, newO_t, newA_t, newA_n, cpQ_k, cpQ_a] <;> first | assumption | omega)) ?_
  try simp (disch := first | decide | assumption | omega) only [up_k, up_s, up_a, up_i, flA_k, flA_a, flA_n, cpA_k, cpA_a, newO_o, newA_o, newO_t, newA_t, newA_n, cpQ_k, cpQ_a, e36, e73, e68, e70, e32]
  refine gX9_104 9 hO dX9_doOpposite_6 rfl (by first | assumption | omega | (simp (disch := first | decide | assumption | omega) only [up_k, up_s, up_a, up_i, flA_k, flA_a, flA_n, cpA_k, cpA_a, newO_o, newA_o, newO_t, newA_t, newA_n, cpQ_k, cpQ_a] <;> first | assumption | omega)) ?_
  try simp (disch := first | decide | assumption | omega) only [up_k, up_s, up_a, up_i, flA_k, flA_a, flA_n, cpA_k, cpA_a, newO_o, newA_o, newO_t, newA_t, newA_n, cpQ_k, cpQ_a, e36, e73, e68, e70, e32]
  refine X_astore_n 10 hO dX9_doOpposite_9 rfl rfl ?_
  refine X_aload_n 11 hO dX9_doOpposite_10 rfl rfl ?_
  refine gX9_11 14 hO dX9_doOpposite_11 rfl (by first | assumption | omega | (simp (disch := first | decide | assumption | omega) only [up_k, up_s, up_a, up_i, flA_k, flA_a, flA_n, cpA_k, cpA_a, newO_o, newA_o, newO_t, newA_t, newA_n, cpQ_k, cpQ_a] <;> first | assumption | omega)) ?_
  try simp (disch := first | decide | assumption | omega) only [up_k, up_s, up_a, up_i, flA_k, flA_a, flA_n, cpA_k, cpA_a, newO_o, newA_o, newO_t, newA_t, newA_n, cpQ_k, cpQ_a, e36, e73, e68, e70, e32]
  refine X_iload_n 15 hO dX9_doOpposite_14 rfl rfl ?_
  refine X_aald (t := 26) (C := "Foldback$Trace") 16 hO rfl (by decide) dX9_doOpposite_15 rfl (by first | assumption | omega | (simp (disch := first | decide | assumption | omega) only [up_k, up_s, up_a, up_i, flA_k, flA_a, flA_n, cpA_k, cpA_a, newO_o, newA_o, newO_t, newA_t, newA_n, cpQ_k, cpQ_a] <;> first | assumption | omega)) (by first | assumption | omega | (simp (disch := first | decide | assumption | omega) only [up_k, up_s, up_a, up_i, flA_k, flA_a, flA_n, cpA_k, cpA_a, newO_o, newA_o, newO_t, newA_t, newA_n, cpQ_k, cpQ_a] <;> first | assumption | omega)) ?_
  try simp (disch := first | decide | assumption | omega) only [up_k, up_s, up_a, up_i, flA_k, flA_a, flA_n, cpA_k, cpA_a, newO_o, newA_o, newO_t, newA_t, newA_n, cpQ_k, cpQ_a, e36, e73, e68, e70, e32]
  refine gX9_78 19 hO dX9_doOpposite_16 rfl (by first | assumption | omega | (simp (disch := first | decide | assumption | omega) only [up_k, up_s, up_a, up_i, flA_k, flA_a, flA_n, cpA_k, cpA_a, newO_o, newA_o, newO_t, newA_t, newA_n, cpQ_k, cpQ_a] <;> first | assumption | omega)) (fun hi_16 => ?_)
  try simp (disch := first | decide | assumption | omega) only [up_k, up_s, up_a, up_i, flA_k, flA_a, flA_n, cpA_k, cpA_a, newO_o, newA_o, newO_t, newA_t, newA_n, cpQ_k, cpQ_a, e36, e73, e68, e70, e32] at hi_16 ⊢
  refine X_istore 21 hO dX9_doOpposite_19 rfl rfl ?_
  refine X_aload_n 22 hO dX9_doOpposite_21 rfl rfl ?_
  refine gX9_60 25 hO dX9_doOpposite_22 rfl (by first | assumption | omega | (simp (disch := first | decide | assumption | omega) only [up_k, up_s, up_a, up_i, flA_k, flA_a, flA_n, cpA_k, cpA_a, newO_o, newA_o, newO_t, newA_t, newA_n, cpQ_k, cpQ_a] <;> first | assumption | omega)) (fun hi_22 => ?_)
  try simp (disch := first | decide | assumption | omega) only [up_k, up_s, up_a, up_i, flA_k, flA_a, flA_n, cpA_k, cpA_a, newO_o, newA_o, newO_t, newA_t, newA_n, cpQ_k, cpQ_a, e36, e73, e68, e70, e32] at hi_22 ⊢
  refine X_iconst 26 hO dX9_doOpposite_25 rfl ?_
  refine X_icmp_ne 29 60 hO dX9_doOpposite_26 rfl rfl (by omega) (by omega) (fun hc_26 => ?_) (fun hc_26 => ?_)
  ·
    have hk12 : W 241 0 t = 1 ∨ W 241 0 t = 2 := by omega
    obtain ⟨⟨d1, d2⟩, ⟨d3, d4⟩, d5, d6⟩ := s6 hk12
    have g32 : w 32 g 0 ≠ 0 := fun e => by rw [e, h00] at d1; exact absurd d1 (by decide)
    refine X_aload_n 61 hO dX9_doOpposite_60 rfl rfl ?_
    refine gX9_117 64 hO dX9_doOpposite_61 rfl (by first | assumption | omega | (simp (disch := first | decide | assumption | omega) only [up_k, up_s, up_a, up_i, flA_k, flA_a, flA_n, cpA_k, cpA_a, newO_o, newA_o, newO_t, newA_t, newA_n, cpQ_k, cpQ_a] <;> first | assumption | omega)) ?_
    try simp (disch := first | decide | assumption | omega) only [up_k, up_s, up_a, up_i, flA_k, flA_a, flA_n, cpA_k, cpA_a, newO_o, newA_o, newO_t, newA_t, newA_n, cpQ_k, cpQ_a, e36, e73, e68, e70, e32]
    refine X_ifnonnull 67 69 hO dX9_doOpposite_64 rfl rfl (fun hc_64 => ?_) (fun hc_64 => ?_)
    ·
      refine X_aload_n 70 hO dX9_doOpposite_69 rfl rfl ?_
      refine gX9_60 73 hO dX9_doOpposite_70 rfl (by first | assumption | omega | (simp (disch := first | decide | assumption | omega) only [up_k, up_s, up_a, up_i, flA_k, flA_a, flA_n, cpA_k, cpA_a, newO_o, newA_o, newO_t, newA_t, newA_n, cpQ_k, cpQ_a] <;> first | assumption | omega)) (fun hi_70 => ?_)
      try simp (disch := first | decide | assumption | omega) only [up_k, up_s, up_a, up_i, flA_k, flA_a, flA_n, cpA_k, cpA_a, newO_o, newA_o, newO_t, newA_t, newA_n, cpQ_k, cpQ_a, e36, e73, e68, e70, e32] at hi_70 ⊢
      refine X_iconst 74 hO dX9_doOpposite_73 rfl ?_
      refine X_icmp_ne 77 100 hO dX9_doOpposite_74 rfl rfl (by omega) (by omega) (fun hc_74 => ?_) (fun hc_74 => ?_)
      ·
        have hk : W 241 0 t = 2 := by omega
        have q5' := q5 hk
        have c1g : w 0 (w 32 g 0) 0 = 1 := d1
        have c20 : w 0 (w 10 (w 32 g 0) 0) 0 = 20 := d3
        have l20 : w 2 (w 10 (w 32 g 0) 0) 0 = 1 := by rw [d5]; exact q5'.1
        refine X_aload_n 101 hO dX9_doOpposite_100 rfl rfl ?_
        refine X_iload 103 hO dX9_doOpposite_101 rfl rfl ?_
        refine X_aload_n 104 hO dX9_doOpposite_103 rfl rfl ?_
        refine gX9_117 107 hO dX9_doOpposite_104 rfl (by first | assumption | omega | (simp (disch := first | decide | assumption | omega) only [up_k, up_s, up_a, up_i, flA_k, flA_a, flA_n, cpA_k, cpA_a, newO_o, newA_o, newO_t, newA_t, newA_n, cpQ_k, cpQ_a] <;> first | assumption | omega)) ?_
        try simp (disch := first | decide | assumption | omega) only [up_k, up_s, up_a, up_i, flA_k, flA_a, flA_n, cpA_k, cpA_a, newO_o, newA_o, newO_t, newA_t, newA_n, cpQ_k, cpQ_a, e36, e73, e68, e70, e32]
        refine gX9_125 110 hO dX9_doOpposite_107 rfl (by first | assumption | omega | (simp (disch := first | decide | assumption | omega) only [up_k, up_s, up_a, up_i, flA_k, flA_a, flA_n, cpA_k, cpA_a, newO_o, newA_o, newO_t, newA_t, newA_n, cpQ_k, cpQ_a] <;> first | assumption | omega)) ?_
        try simp (disch := first | decide | assumption | omega) only [up_k, up_s, up_a, up_i, flA_k, flA_a, flA_n, cpA_k, cpA_a, newO_o, newA_o, newO_t, newA_t, newA_n, cpQ_k, cpQ_a, e36, e73, e68, e70, e32]
        refine X_iconst 111 hO dX9_doOpposite_110 rfl ?_
        refine X_iald 112 hO dX9_doOpposite_111 rfl (by first | assumption | omega | (simp (disch := first | decide | assumption | omega) only [up_k, up_s, up_a, up_i, flA_k, flA_a, flA_n, cpA_k, cpA_a, newO_o, newA_o, newO_t, newA_t, newA_n, cpQ_k, cpQ_a] <;> first | assumption | omega)) (by first | assumption | omega | (simp (disch := first | decide | assumption | omega) only [up_k, up_s, up_a, up_i, flA_k, flA_a, flA_n, cpA_k, cpA_a, newO_o, newA_o, newO_t, newA_t, newA_n, cpQ_k, cpQ_a] <;> first | assumption | omega)) (fun hi_111 => ?_)
        try simp (disch := first | decide | assumption | omega) only [up_k, up_s, up_a, up_i, flA_k, flA_a, flA_n, cpA_k, cpA_a, newO_o, newA_o, newO_t, newA_t, newA_n, cpQ_k, cpQ_a, e36, e73, e68, e70, e32] at hi_111 ⊢
        refine X_kVv (t := 2) 115 hO hD lX9_131 rfl (by decide) [_, _] rfl dX9_doOpposite_112 rfl (by first | assumption | omega | (simp (disch := first | decide | assumption | omega) only [up_k, up_s, up_a, up_i, flA_k, flA_a, flA_n, cpA_k, cpA_a, newO_o, newA_o, newO_t, newA_t, newA_n, cpQ_k, cpQ_a] <;> first | assumption | omega)) (kX1_putInstead _ _ D (W 244 0 t) _ 400 hDg (by unfold IR; omega) (by assumption) (by rw [low]; omega)) (by decide) (by simp [rv_cat, int_cat]) (by first | decide | exact Nat.zero_le _ | omega) (by first | decide | exact Nat.zero_le _ | omega) (fun w_112 hp_112 => ?_) (fun E w_ hx_ => hx_.elim)
        rw [low] at hp_112
        obtain ⟨-, Wc, rr, hN, y, y0, y1, ew2⟩ := hp_112.resolve_left (fun z => z.1 (by omega))
        rw [hDe] at hN ew2
        have hfin := h.k2 hH ht h00 hk (v := w 1 (w 10 (w 32 g 0) 0) 0) (by rw [hg]) hN ⟨y0, y1⟩ ew2
        refine X_iconst 116 hO dX9_doOpposite_115 rfl ?_
        exact X_iret hO hF rfl (by first | exact Or.inl rfl | exact Or.inr ⟨rfl, bi_01 _⟩ | exact Or.inr ⟨rfl, by omega⟩) dX9_doOpposite_116 ⟨_, rfl, (by omega), (Or.inl ⟨rfl, hfin⟩)⟩
      ·
        have hk : W 241 0 t = 1 := by omega
        have p70 : -1000000000 ≤ W 243 0 t ∧ W 243 0 t ≤ 1000000000 := by omega
        have p73 : -1000000000 ≤ W 244 0 t ∧ W 244 0 t ≤ 1000000000 := by omega
        refine X_aload_n 78 hO dX9_doOpposite_77 rfl rfl ?_
        refine X_iload_n 79 hO dX9_doOpposite_78 rfl rfl ?_
        refine X_iconst 80 hO dX9_doOpposite_79 rfl ?_
        refine X_iload 82 hO dX9_doOpposite_80 rfl rfl ?_
        refine X_aload_n 83 hO dX9_doOpposite_82 rfl rfl ?_
        refine gX9_84 86 hO dX9_doOpposite_83 rfl (by first | assumption | omega | (simp (disch := first | decide | assumption | omega) only [up_k, up_s, up_a, up_i, flA_k, flA_a, flA_n, cpA_k, cpA_a, newO_o, newA_o, newO_t, newA_t, newA_n, cpQ_k, cpQ_a] <;> first | assumption | omega)) (fun hi_83 => ?_)
        try simp (disch := first | decide | assumption | omega) only [up_k, up_s, up_a, up_i, flA_k, flA_a, flA_n, cpA_k, cpA_a, newO_o, newA_o, newO_t, newA_t, newA_n, cpQ_k, cpQ_a, e36, e73, e68, e70, e32] at hi_83 ⊢
        refine X_kVv (t := 10) 89 hO hD lX9_107 rfl (by decide) [_, _, _, _] rfl dX9_doOpposite_86 rfl (by first | assumption | omega | (simp (disch := first | decide | assumption | omega) only [up_k, up_s, up_a, up_i, flA_k, flA_a, flA_n, cpA_k, cpA_a, newO_o, newA_o, newO_t, newA_t, newA_n, cpQ_k, cpQ_a] <;> first | assumption | omega)) (kX9_meetOpposite2 _ _ T t 1 (W 244 0 t) (W 243 0 t) tT tX tB (by omega) (by decide) p73 p70) (by decide) (by simp [rv_cat, int_cat]) (by first | decide | exact Nat.zero_le _ | omega) (by first | decide | exact Nat.zero_le _ | omega) (fun w_86 hp_86 => ?_) (fun E w_ hx_ => hx_.elim)
        have ew : w_86 = ts_opp (txT w (w 47 f 0)) t 1 (W 244 0 t) (W 243 0 t) w t.toNat := by rw [hp_86, hTe]
        obtain ⟨⟨hF1, hF2⟩, hc1, -⟩ := h.tr hH ht (g := 1) (w1 := w_86) (by rw [if_neg (by omega)]) (by rw [if_neg (by omega)]; exact ew)
        have hr1 := hc1.1.1
        have o1 : ∀ {K : Nat} {a j : Int}, K ≠ 36 ∧ K ≠ 73 ∧ K ≠ 74 ∧ K ≠ 75 ∧ K ≠ 76 ∧ K ≠ 77 → w_86 K a j = w K a j := fun z => hF1 _ _ _ z.1 z.2.1 z.2.2.1 z.2.2.2.1 z.2.2.2.2.1 z.2.2.2.2.2
        have e41 : D = w_86 41 f 0 := by rw [o1 (by decide)]; exact hDe
        have cD1 : w_86 0 D 0 = 2 := by rw [o1 (by decide)]; exact cD
        have c7_1 : w_86 0 g 0 = 7 := by rw [o1 (by decide)]; exact c7
        have e32 : w_86 32 g 0 = w 32 g 0 := o1 (by decide)
        have hDg1 : DG w_86 D := by rw [e41]; exact hr1.toDG v1.1.2.2.1 (by have := v6.2.2.2.2.2; omega) q3.2.2
        have low1 : w_86 67 (w_86 11 D 0) 0 = W 201 0 0 := by rw [e41]; exact hr1.low.2.2.2.1
        have len1 : w_86 2 (w_86 28 (w_86 11 D 0) 0) 0 = 400 := by rw [e41]; exact hr1.1.2.2.1.1.1.2.2.1
        have b1 : w_86 0 (w 32 g 0) 0 = 1 := by rw [o1 (by decide)]; exact d1
        have b10 : w_86 10 (w 32 g 0) 0 = w 10 (w 32 g 0) 0 := o1 (by decide)
        have b20 : w_86 0 (w_86 10 (w 32 g 0) 0) 0 = 20 := by rw [b10, o1 (by decide)]; exact d3
        have b2 : w_86 2 (w_86 10 (w 32 g 0) 0) 0 = W 243 0 t := by rw [b10, o1 (by decide)]; exact d5
        have bne : w_86 10 (w 32 g 0) 0 ≠ w_86 28 (w_86 11 D 0) 0 := fun e => by
          have z1 : pc_ p (w_86 28 (w_86 11 D 0) 0) = 12 := by rw [e41]; exact hr1.1.2.2.1.1.1.2.1.2.1.2
          rw [← e, b10, d4] at z1
          exact absurd z1 (by decide)
        refine X_aload_n 90 hO dX9_doOpposite_89 rfl rfl ?_
        refine X_iload 92 hO dX9_doOpposite_90 rfl rfl ?_
        refine X_aload_n 93 hO dX9_doOpposite_92 rfl rfl ?_
        refine gX9_117 96 hO dX9_doOpposite_93 rfl (by first | assumption | omega | (simp (disch := first | decide | assumption | omega) only [up_k, up_s, up_a, up_i, flA_k, flA_a, flA_n, cpA_k, cpA_a, newO_o, newA_o, newO_t, newA_t, newA_n, cpQ_k, cpQ_a] <;> first | assumption | omega)) ?_
        try simp (disch := first | decide | assumption | omega) only [up_k, up_s, up_a, up_i, flA_k, flA_a, flA_n, cpA_k, cpA_a, newO_o, newA_o, newO_t, newA_t, newA_n, cpQ_k, cpQ_a, e36, e73, e68, e70, e32]
        refine X_kVi (t := 2) 99 hO hD lX9_121 rfl (by decide) [_, _] rfl dX9_doOpposite_96 rfl (by first | assumption | omega | (simp (disch := first | decide | assumption | omega) only [up_k, up_s, up_a, up_i, flA_k, flA_a, flA_n, cpA_k, cpA_a, newO_o, newA_o, newO_t, newA_t, newA_n, cpQ_k, cpQ_a] <;> first | assumption | omega)) (kX1_putIn _ _ D (W 244 0 t) (w 32 g 0) hDg1 (by unfold IR; omega) b1 b20 bne (by rw [b2]; omega)) (by decide) (by simp [rv_cat, int_cat]) (by first | decide | exact Nat.zero_le _ | omega) (by first | decide | exact Nat.zero_le _ | omega) (fun r_96 w_96 hr_96 hp_96 => ?_) (fun E w_ hx_ => hx_.elim)
        rw [low1, len1, b2] at hp_96
        have hpost : (r_96 = 1 ∧ (m_opp μ (pl_ p) nd t W).1 = 1 ∧ ∃ p', OPI μ f kp S P n nd W0 t p' w_96 (m_opp μ (pl_ p) nd t W).2 ∧ UPG f w w_96 ∧ pl_ p' = pl_ p) ∨ (r_96 = 0 ∧ (m_opp μ (pl_ p) nd t W) = (0, W) ∧ CHK p μ f w_96 W ∧ UPG f w w_96) := by
          rcases hp_96 with ⟨z1, z2, z3⟩ | ⟨z1, z2, y, y0, y1, z3⟩
          · refine Or.inr ⟨z2, ?_, by rw [z3]; exact hc1, by rw [z3]; exact hF2.g hF1 hr.1.2.1.1.1 hr.1.2.2.2.2.2.1.1 h00⟩
            unfold m_opp; rw [if_neg (by omega), if_neg (by omega), if_pos (by omega)]
          · rw [e41] at z3
            exact Or.inl ⟨z2, h.k1 hH ht h00 hk (by omega) ew (b := w_86 10 (w 32 g 0) 0) (by rw [← hg, e32]) ⟨y0, y1⟩ z3⟩
        exact X_iret hO hF rfl (by first | exact Or.inl rfl | exact Or.inr ⟨rfl, bi_01 _⟩ | exact Or.inr ⟨rfl, by omega⟩) dX9_doOpposite_99 ⟨_, rfl, (by omega), hpost⟩
    ·
      refine X_iconst 68 hO dX9_doOpposite_67 rfl ?_
      exact X_iret hO hF rfl (by first | exact Or.inl rfl | exact Or.inr ⟨rfl, bi_01 _⟩ | exact Or.inr ⟨rfl, by omega⟩) dX9_doOpposite_68 ⟨_, rfl, (by omega), (by exfalso; omega)⟩
  ·
    have hk : W 241 0 t = 0 := by omega
    have p70 : -1000000000 ≤ W 243 0 t ∧ W 243 0 t ≤ 1000000000 := by omega
    have p73 : -1000000000 ≤ W 244 0 t ∧ W 244 0 t ≤ 1000000000 := by omega
    refine X_aload_n 30 hO dX9_doOpposite_29 rfl rfl ?_
    refine X_iload_n 31 hO dX9_doOpposite_30 rfl rfl ?_
    refine X_iconst 32 hO dX9_doOpposite_31 rfl ?_
    refine X_iload 34 hO dX9_doOpposite_32 rfl rfl ?_
    refine X_aload_n 35 hO dX9_doOpposite_34 rfl rfl ?_
    refine gX9_84 38 hO dX9_doOpposite_35 rfl (by first | assumption | omega | (simp (disch := first | decide | assumption | omega) only [up_k, up_s, up_a, up_i, flA_k, flA_a, flA_n, cpA_k, cpA_a, newO_o, newA_o, newO_t, newA_t, newA_n, cpQ_k, cpQ_a] <;> first | assumption | omega)) (fun hi_35 => ?_)
    try simp (disch := first | decide | assumption | omega) only [up_k, up_s, up_a, up_i, flA_k, flA_a, flA_n, cpA_k, cpA_a, newO_o, newA_o, newO_t, newA_t, newA_n, cpQ_k, cpQ_a, e36, e73, e68, e70, e32] at hi_35 ⊢
    refine X_kVv (t := 10) 41 hO hD lX9_107 rfl (by decide) [_, _, _, _] rfl dX9_doOpposite_38 rfl (by first | assumption | omega | (simp (disch := first | decide | assumption | omega) only [up_k, up_s, up_a, up_i, flA_k, flA_a, flA_n, cpA_k, cpA_a, newO_o, newA_o, newO_t, newA_t, newA_n, cpQ_k, cpQ_a] <;> first | assumption | omega)) (kX9_meetOpposite2 _ _ T t 2 (W 244 0 t) (W 243 0 t) tT tX tB (by omega) (by decide) p73 p70) (by decide) (by simp [rv_cat, int_cat]) (by first | decide | exact Nat.zero_le _ | omega) (by first | decide | exact Nat.zero_le _ | omega) (fun w_38 hp_38 => ?_) (fun E w_ hx_ => hx_.elim)
    have ew : w_38 = ts_opp (txT w (w 47 f 0)) t 2 (W 244 0 t) (W 243 0 t) w t.toNat := by rw [hp_38, hTe]
    obtain ⟨⟨hF1, hF2⟩, hc1, -⟩ := h.tr hH ht (g := 2) (w1 := w_38) (by rw [if_pos hk]) (by rw [if_neg (by omega)]; exact ew)
    have hr1 := hc1.1.1
    have o1 : ∀ {K : Nat} {a j : Int}, K ≠ 36 ∧ K ≠ 73 ∧ K ≠ 74 ∧ K ≠ 75 ∧ K ≠ 76 ∧ K ≠ 77 → w_38 K a j = w K a j := fun z => hF1 _ _ _ z.1 z.2.1 z.2.2.1 z.2.2.2.1 z.2.2.2.2.1 z.2.2.2.2.2
    have e41 : D = w_38 41 f 0 := by rw [o1 (by decide)]; exact hDe
    have cD1 : w_38 0 D 0 = 2 := by rw [o1 (by decide)]; exact cD
    have c7_1 : w_38 0 g 0 = 7 := by rw [o1 (by decide)]; exact c7
    have e70 : w_38 70 g 0 = W 243 0 t := by rw [o1 (by decide)]; exact s4'.2
    have hDg1 : DG w_38 D := by rw [e41]; exact hr1.toDG v1.1.2.2.1 (by have := v6.2.2.2.2.2; omega) q3.2.2
    have low1 : w_38 67 (w_38 11 D 0) 0 = W 201 0 0 := by rw [e41]; exact hr1.low.2.2.2.1
    refine X_aload_n 42 hO dX9_doOpposite_41 rfl rfl ?_
    refine X_iload 44 hO dX9_doOpposite_42 rfl rfl ?_
    refine X_aload_n 45 hO dX9_doOpposite_44 rfl rfl ?_
    refine gX9_84 48 hO dX9_doOpposite_45 rfl (by first | assumption | omega | (simp (disch := first | decide | assumption | omega) only [up_k, up_s, up_a, up_i, flA_k, flA_a, flA_n, cpA_k, cpA_a, newO_o, newA_o, newO_t, newA_t, newA_n, cpQ_k, cpQ_a] <;> first | assumption | omega)) (fun hi_45 => ?_)
    try simp (disch := first | decide | assumption | omega) only [up_k, up_s, up_a, up_i, flA_k, flA_a, flA_n, cpA_k, cpA_a, newO_o, newA_o, newO_t, newA_t, newA_n, cpQ_k, cpQ_a, e36, e73, e68, e70, e32] at hi_45 ⊢
    refine X_kVr (t := 2) 51 hO hD lX9_111 rfl (by decide) [_, _] rfl dX9_doOpposite_48 rfl (by first | assumption | omega | (simp (disch := first | decide | assumption | omega) only [up_k, up_s, up_a, up_i, flA_k, flA_a, flA_n, cpA_k, cpA_a, newO_o, newA_o, newO_t, newA_t, newA_n, cpQ_k, cpQ_a] <;> first | assumption | omega)) (kX1_takeOut _ _ D (W 244 0 t) (W 243 0 t) 400 hDg1 (by unfold IR; omega) (by unfold IR; omega) (by rw [low1]; unfold IR; omega) (by rw [low1]; omega)) (by decide) (by simp [rv_cat, int_cat]) (by first | decide | exact Nat.zero_le _ | omega) (by first | decide | exact Nat.zero_le _ | omega) (fun r_48 w_48 hp_48 => ?_) (fun E w_ hx_ => hx_.elim)
    have hq4 := q4 hk
    rw [low1] at hp_48
    obtain ⟨-, Wc, hN, y, y0, y1, ew2⟩ := hp_48.resolve_left (fun z => z.1 (by omega))
    rw [e41] at hN ew2
    have hr0 := (NCh_r hN).1
    have hfin := h.k0 hH ht h00 hk ew hN ⟨y0, y1⟩ ew2
    refine X_ifnull 54 58 hO dX9_doOpposite_51 rfl rfl (fun hc_51 => ?_) (fun hc_51 => ?_)
    ·
      refine X_iconst 59 hO dX9_doOpposite_58 rfl ?_
      exact X_iret hO hF rfl (by first | exact Or.inl rfl | exact Or.inr ⟨rfl, bi_01 _⟩ | exact Or.inr ⟨rfl, by omega⟩) dX9_doOpposite_59 ⟨_, rfl, (by omega), (by first | exact Or.inl ⟨rfl, hfin⟩ | (exfalso; omega))⟩
    ·
      refine X_iconst 55 hO dX9_doOpposite_54 rfl ?_
      refine X_goto hO dX9_doOpposite_55 (tgt := 59) rfl ?_
      exact X_iret hO hF rfl (by first | exact Or.inl rfl | exact Or.inr ⟨rfl, bi_01 _⟩ | exact Or.inr ⟨rfl, by omega⟩) dX9_doOpposite_59 ⟨_, rfl, (by omega), (by first | exact Or.inl ⟨rfl, hfin⟩ | (exfalso; omega))⟩
