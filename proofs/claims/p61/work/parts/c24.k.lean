/-! insert in the class -/
theorem in2_2 {μ : MU} {c had : Int} {X : Mm} (h : X 139 μ.1 0 > 0) : m_in2 μ c had X = (0, X) := by unfold m_in2; rw [if_pos h]
theorem dX12_continuesTyping_0 : decode cX12_continuesTyping 0 = .ok (.aload_n 0, 1) := by decide +kernel
theorem dX12_continuesTyping_1 : decode cX12_continuesTyping 1 = .ok (.getfield 113, 3) := by decide +kernel
theorem dX12_continuesTyping_4 : decode cX12_continuesTyping 4 = .ok (.ifCond .eq 29, 3) := by decide +kernel
theorem dX12_continuesTyping_7 : decode cX12_continuesTyping 7 = .ok (.aload_n 0, 1) := by decide +kernel
theorem dX12_continuesTyping_8 : decode cX12_continuesTyping 8 = .ok (.getfield 119, 3) := by decide +kernel
theorem dX12_continuesTyping_11 : decode cX12_continuesTyping 11 = .ok (.iconst 4, 1) := by decide +kernel
theorem dX12_continuesTyping_12 : decode cX12_continuesTyping 12 = .ok (.if_icmp .ge 21, 3) := by decide +kernel
theorem dX12_continuesTyping_15 : decode cX12_continuesTyping 15 = .ok (.aload_n 0, 1) := by decide +kernel
theorem dX12_continuesTyping_16 : decode cX12_continuesTyping 16 = .ok (.getfield 116, 3) := by decide +kernel
theorem dX12_continuesTyping_19 : decode cX12_continuesTyping 19 = .ok (.invokestatic 390, 3) := by decide +kernel
theorem dX12_continuesTyping_22 : decode cX12_continuesTyping 22 = .ok (.iload_n 1, 1) := by decide +kernel
theorem dX12_continuesTyping_23 : decode cX12_continuesTyping 23 = .ok (.invokestatic 390, 3) := by decide +kernel
theorem dX12_continuesTyping_26 : decode cX12_continuesTyping 26 = .ok (.if_icmp .ne 7, 3) := by decide +kernel
theorem dX12_continuesTyping_29 : decode cX12_continuesTyping 29 = .ok (.iconst 1, 1) := by decide +kernel
theorem dX12_continuesTyping_30 : decode cX12_continuesTyping 30 = .ok (.goto 4, 3) := by decide +kernel
theorem dX12_continuesTyping_33 : decode cX12_continuesTyping 33 = .ok (.iconst 0, 1) := by decide +kernel
theorem dX12_continuesTyping_34 : decode cX12_continuesTyping 34 = .ok (.ireturn, 1) := by decide +kernel
set_option maxRecDepth 4000 in
theorem kX12_continuesTyping (γ : LC) (w : Mm) (f c : Int) (t0 : w 0 f 0 = 13) (hc : IR c) : KI γ 2 mX12_continuesTyping [rv f, .int (I c)] w (0) (0) (fun r w' => r = bi ((w 88 f 0 ≠ 0 ∧ w 90 f 0 < 4) ∧ bi (isLt (w 89 f 0)) = bi (isLt c)) ∧ w' = w) NX := by
  refine MX_of rfl rfl (by simp [rv_cat, int_cat]) rfl ?_
  rintro κ hO hF rfl
  have hD := hF.dp
  show X κ (0) (0) w 0 [some (rv f), some (.int (I c))] []
  refine X_aload_n 1 hO dX12_continuesTyping_0 rfl rfl ?_
  refine gX12_113 4 hO dX12_continuesTyping_1 rfl (by first | assumption | omega | (simp (disch := first | decide | assumption | omega) only [up_k, up_s, up_a, up_i, flA_k, flA_a, flA_n, cpA_k, cpA_a, newO_o, newA_o, newO_t, newA_t, newA_n, cpQ_k, cpQ_a] <;> first | assumption | omega)) (fun hi_1 => ?_)
  try simp (disch := first | decide | assumption | omega) only [up_k, up_s, up_a, up_i, flA_k, flA_a, flA_n, cpA_k, cpA_a, newO_o, newA_o, newO_t, newA_t, newA_n, cpQ_k, cpQ_a] at hi_1 ⊢
  refine X_if_eq 7 33 hO dX12_continuesTyping_4 rfl rfl (by omega) (fun hc_4 => ?_) (fun hc_4 => ?_)
  ·
    try simp only [bi_0, bi_ne, ne_eq, Classical.not_not] at hc_4
    refine X_iconst 34 hO dX12_continuesTyping_33 rfl ?_
    exact X_iret hO hF rfl (by first | exact Or.inl rfl | exact Or.inr ⟨rfl, bi_01 _⟩ | exact Or.inr ⟨rfl, by omega⟩) dX12_continuesTyping_34 ⟨_, rfl, (by omega), ⟨by first | exact bi_t (by omega) | exact bi_f (by omega), rfl⟩⟩
  ·
    try simp only [bi_0, bi_ne, ne_eq, Classical.not_not] at hc_4
    refine X_aload_n 8 hO dX12_continuesTyping_7 rfl rfl ?_
    refine gX12_119 11 hO dX12_continuesTyping_8 rfl (by first | assumption | omega | (simp (disch := first | decide | assumption | omega) only [up_k, up_s, up_a, up_i, flA_k, flA_a, flA_n, cpA_k, cpA_a, newO_o, newA_o, newO_t, newA_t, newA_n, cpQ_k, cpQ_a] <;> first | assumption | omega)) (fun hi_8 => ?_)
    try simp (disch := first | decide | assumption | omega) only [up_k, up_s, up_a, up_i, flA_k, flA_a, flA_n, cpA_k, cpA_a, newO_o, newA_o, newO_t, newA_t, newA_n, cpQ_k, cpQ_a] at hi_8 ⊢
    refine X_iconst 12 hO dX12_continuesTyping_11 rfl ?_
    refine X_icmp_ge 15 33 hO dX12_continuesTyping_12 rfl rfl (by omega) (by omega) (fun hc_12 => ?_) (fun hc_12 => ?_)
    ·
      refine X_iconst 34 hO dX12_continuesTyping_33 rfl ?_
      exact X_iret hO hF rfl (by first | exact Or.inl rfl | exact Or.inr ⟨rfl, bi_01 _⟩ | exact Or.inr ⟨rfl, by omega⟩) dX12_continuesTyping_34 ⟨_, rfl, (by omega), ⟨by first | exact bi_t (by omega) | exact bi_f (by omega), rfl⟩⟩
    ·
      refine X_aload_n 16 hO dX12_continuesTyping_15 rfl rfl ?_
      refine gX12_116 19 hO dX12_continuesTyping_16 rfl (by first | assumption | omega | (simp (disch := first | decide | assumption | omega) only [up_k, up_s, up_a, up_i, flA_k, flA_a, flA_n, cpA_k, cpA_a, newO_o, newA_o, newO_t, newA_t, newA_n, cpQ_k, cpQ_a] <;> first | assumption | omega)) (fun hi_16 => ?_)
      try simp (disch := first | decide | assumption | omega) only [up_k, up_s, up_a, up_i, flA_k, flA_a, flA_n, cpA_k, cpA_a, newO_o, newA_o, newO_t, newA_t, newA_n, cpQ_k, cpQ_a] at hi_16 ⊢
      refine X_kSi 22 hO hD lX12_390 [_] rfl dX12_continuesTyping_19 rfl (kX12_isLetterOrDigit _ _ _ (by assumption)) (by decide) (by simp [rv_cat, int_cat]) (by first | decide | exact Nat.zero_le _ | omega) (by first | decide | exact Nat.zero_le _ | omega) (fun r_19 w_19 hr_19 hp_19 => ?_) (fun E w_ hx_ => hx_.elim)
      obtain ⟨e1_19, e2_19⟩ := hp_19
      subst w_19
      have b1 : r_19 = bi (isLt (w 89 f 0)) := e1_19.trans (bi_iff (by constructor <;> intro z <;> omega))
      refine X_iload_n 23 hO dX12_continuesTyping_22 rfl rfl ?_
      refine X_kSi 26 hO hD lX12_390 [_] rfl dX12_continuesTyping_23 rfl (kX12_isLetterOrDigit _ _ _ (by assumption)) (by decide) (by simp [rv_cat, int_cat]) (by first | decide | exact Nat.zero_le _ | omega) (by first | decide | exact Nat.zero_le _ | omega) (fun r_23 w_23 hr_23 hp_23 => ?_) (fun E w_ hx_ => hx_.elim)
      obtain ⟨e1_23, e2_23⟩ := hp_23
      subst w_23
      have b2 : r_23 = bi (isLt c) := e1_23.trans (bi_iff (by constructor <;> intro z <;> omega))
      refine X_icmp_ne 29 33 hO dX12_continuesTyping_26 rfl rfl (by omega) (by omega) (fun hc_26 => ?_) (fun hc_26 => ?_)
      ·
        refine X_iconst 34 hO dX12_continuesTyping_33 rfl ?_
        exact X_iret hO hF rfl (by first | exact Or.inl rfl | exact Or.inr ⟨rfl, bi_01 _⟩ | exact Or.inr ⟨rfl, by omega⟩) dX12_continuesTyping_34 ⟨_, rfl, (by omega), ⟨by first | exact bi_t (by omega) | exact bi_f (by omega), rfl⟩⟩
      ·
        refine X_iconst 30 hO dX12_continuesTyping_29 rfl ?_
        refine X_goto hO dX12_continuesTyping_30 (tgt := 34) rfl ?_
        exact X_iret hO hF rfl (by first | exact Or.inl rfl | exact Or.inr ⟨rfl, bi_01 _⟩ | exact Or.inr ⟨rfl, by omega⟩) dX12_continuesTyping_34 ⟨_, rfl, (by omega), ⟨by first | exact bi_t (by omega) | exact bi_f (by omega), rfl⟩⟩
theorem dX12_insert_0 : decode cX12_insert 0 = .ok (.iload_n 1, 1) := by decide +kernel
theorem dX12_insert_1 : decode cX12_insert 1 = .ok (.invokestatic 69, 3) := by decide +kernel
theorem dX12_insert_4 : decode cX12_insert 4 = .ok (.aload_n 0, 1) := by decide +kernel
theorem dX12_insert_5 : decode cX12_insert 5 = .ok (.invokevirtual 73, 3) := by decide +kernel
theorem dX12_insert_8 : decode cX12_insert 8 = .ok (.aload_n 0, 1) := by decide +kernel
theorem dX12_insert_9 : decode cX12_insert 9 = .ok (.iconst 1, 1) := by decide +kernel
theorem dX12_insert_10 : decode cX12_insert 10 = .ok (.iload_n 1, 1) := by decide +kernel
theorem dX12_insert_11 : decode cX12_insert 11 = .ok (.iconst 0, 1) := by decide +kernel
theorem dX12_insert_12 : decode cX12_insert 12 = .ok (.invokevirtual 76, 3) := by decide +kernel
theorem dX12_insert_15 : decode cX12_insert 15 = .ok (.aload_n 0, 1) := by decide +kernel
theorem dX12_insert_16 : decode cX12_insert 16 = .ok (.iload_n 1, 1) := by decide +kernel
theorem dX12_insert_17 : decode cX12_insert 17 = .ok (.invokevirtual 80, 3) := by decide +kernel
theorem dX12_insert_20 : decode cX12_insert 20 = .ok (.ifCond .eq 10, 3) := by decide +kernel
theorem dX12_insert_23 : decode cX12_insert 23 = .ok (.aload_n 0, 1) := by decide +kernel
theorem dX12_insert_24 : decode cX12_insert 24 = .ok (.invokevirtual 84, 3) := by decide +kernel
theorem dX12_insert_27 : decode cX12_insert 27 = .ok (.goto 15, 3) := by decide +kernel
theorem dX12_insert_30 : decode cX12_insert 30 = .ok (.aload_n 0, 1) := by decide +kernel
theorem dX12_insert_31 : decode cX12_insert 31 = .ok (.getfield 87, 3) := by decide +kernel
theorem dX12_insert_34 : decode cX12_insert 34 = .ok (.ifCond .ne 8, 3) := by decide +kernel
theorem dX12_insert_37 : decode cX12_insert 37 = .ok (.aload_n 0, 1) := by decide +kernel
theorem dX12_insert_38 : decode cX12_insert 38 = .ok (.iconst 0, 1) := by decide +kernel
theorem dX12_insert_39 : decode cX12_insert 39 = .ok (.invokevirtual 91, 3) := by decide +kernel
theorem dX12_insert_42 : decode cX12_insert 42 = .ok (.aload_n 0, 1) := by decide +kernel
theorem dX12_insert_43 : decode cX12_insert 43 = .ok (.iconst 1, 1) := by decide +kernel
theorem dX12_insert_44 : decode cX12_insert 44 = .ok (.iload_n 1, 1) := by decide +kernel
theorem dX12_insert_45 : decode cX12_insert 45 = .ok (.iconst 0, 1) := by decide +kernel
theorem dX12_insert_46 : decode cX12_insert 46 = .ok (.invokevirtual 95, 3) := by decide +kernel
theorem dX12_insert_49 : decode cX12_insert 49 = .ok (.aload_n 0, 1) := by decide +kernel
theorem dX12_insert_50 : decode cX12_insert 50 = .ok (.aload_n 0, 1) := by decide +kernel
theorem dX12_insert_51 : decode cX12_insert 51 = .ok (.getfield 87, 3) := by decide +kernel
theorem dX12_insert_54 : decode cX12_insert 54 = .ok (.ifCond .ne 24, 3) := by decide +kernel
theorem dX12_insert_57 : decode cX12_insert 57 = .ok (.aload_n 0, 1) := by decide +kernel
theorem dX12_insert_58 : decode cX12_insert 58 = .ok (.getfield 29, 3) := by decide +kernel
theorem dX12_insert_61 : decode cX12_insert 61 = .ok (.getfield 98, 3) := by decide +kernel
theorem dX12_insert_64 : decode cX12_insert 64 = .ok (.getfield 102, 3) := by decide +kernel
theorem dX12_insert_67 : decode cX12_insert 67 = .ok (.getfield 108, 3) := by decide +kernel
theorem dX12_insert_70 : decode cX12_insert 70 = .ok (.iconst 1, 1) := by decide +kernel
theorem dX12_insert_71 : decode cX12_insert 71 = .ok (.if_icmp .ne 7, 3) := by decide +kernel
theorem dX12_insert_74 : decode cX12_insert 74 = .ok (.iconst 1, 1) := by decide +kernel
theorem dX12_insert_75 : decode cX12_insert 75 = .ok (.goto 4, 3) := by decide +kernel
theorem dX12_insert_78 : decode cX12_insert 78 = .ok (.iconst 0, 1) := by decide +kernel
theorem dX12_insert_79 : decode cX12_insert 79 = .ok (.putfield 113, 3) := by decide +kernel
theorem dX12_insert_82 : decode cX12_insert 82 = .ok (.aload_n 0, 1) := by decide +kernel
theorem dX12_insert_83 : decode cX12_insert 83 = .ok (.iload_n 1, 1) := by decide +kernel
theorem dX12_insert_84 : decode cX12_insert 84 = .ok (.putfield 116, 3) := by decide +kernel
theorem dX12_insert_87 : decode cX12_insert 87 = .ok (.aload_n 0, 1) := by decide +kernel
theorem dX12_insert_88 : decode cX12_insert 88 = .ok (.iconst 0, 1) := by decide +kernel
theorem dX12_insert_89 : decode cX12_insert 89 = .ok (.putfield 119, 3) := by decide +kernel
theorem dX12_insert_92 : decode cX12_insert 92 = .ok (.aload_n 0, 1) := by decide +kernel
theorem dX12_insert_93 : decode cX12_insert 93 = .ok (.getfield 122, 3) := by decide +kernel
theorem dX12_insert_96 : decode cX12_insert 96 = .ok (.ireturn, 1) := by decide +kernel
set_option maxRecDepth 4000 in
theorem kX12_insert (γ : LC) (w : Mm) (f c : Int) (p : RP) (μ : MU) (A : Mm) (S P M : Int) (h : CHB p μ f (lvL p μ A) w A) (hRB : RB μ S P M A) (hS : S ≤ 28900) (hP : P ≤ 500000) (hM : M ≤ 598) (hb28 : ∀ j, 0 ≤ j → j < 3 → A 228 0 j = 0 ∨ A 228 0 j = 1) (hc : IR c) (hNE : NE μ A) (hTY : TYP μ A) : KI γ 14 mX12_insert [rv f, .int (I c)] w (48) (3300) (fun r w' => r = (o_insert μ c A).1 ∧ (o_insert μ c A).2 139 μ.1 0 = 0 ∧ RES μ f w w' (o_insert μ c A).2) (fun E w' => ((E = "java/lang/IllegalArgumentException" ∧ (o_insert μ c A).2 139 μ.1 0 = 1) ∨ (E = "java/lang/IllegalStateException" ∧ (o_insert μ c A).2 139 μ.1 0 = 2)) ∧ RES μ f w w' (o_insert μ c A).2) := by
  refine MX_of rfl rfl (by simp [rv_cat, int_cat]) rfl ?_
  rintro κ hO hF rfl
  have hD := hF.dp
  show X κ (48) (3300) w 0 [some (rv f), some (.int (I c))] []
  refine X_wi fun hWI => ?_
  have hA0 := h.o9 (v := 0) hRB hM
  obtain ⟨hr, hTX, hLV⟩ := id hA0
  have hR0 : RB μ S P M (up A 139 μ.1 0 0) := hRB.o9
  obtain ⟨t0, hFB, t2, -⟩ := hr.toF
  obtain ⟨hB0, hK0, hZ0, hY0⟩ := id hR0
  have hT := hK0.2.2.2.1
  have hl := hLV.b0.1
  have h120 := hB0.2.2.2.2.1
  have hSB := hB0.1
  have hz236 := hRB.2.1.2.2.2.2.2.2
  have u9 : ∀ {cc : Nat} {x i : Int}, cc ≠ 139 → up A 139 μ.1 0 0 cc x i = A cc x i := fun z => up_k _ z _ _ _ _ _
  have hLn : ((lvL p μ (up A 139 μ.1 0 0)).length : Int) ≤ 30000 := by unfold lvL; rw [List.length_map, rng_len]; omega
  have e1 : ∀ {c : Nat} {x i : Int}, c < 200 ∨ (210 < c ∧ c ≠ 214 ∧ c ≠ 215) → m_saves μ 2 (up A 139 μ.1 0 0) c x i = up A 139 μ.1 0 0 c x i := fun z => saves_at z
  have eL1 : lvL p μ (m_saves μ 2 (up A 139 μ.1 0 0)) = lvL p μ (up A 139 μ.1 0 0) := by unfold lvL; rw [e1 (by decide), e1 (by decide)]
  have e201 : m_saves μ 2 (up A 139 μ.1 0 0) 201 0 0 = A 201 0 0 := by rw [saves_eq, up_k _ (by decide), up_k _ (by decide), cpy_201, if_neg (by decide), u9 (by decide)]
  have e91 := trivial
  refine X_iload_n 1 hO dX12_insert_0 rfl rfl ?_
  have JP42 : ∀ (w5 : Mm), (INJ μ f c w A w5) → X κ 0 0 (w5) 42 [some (rv f), some (.int (I c))] [] := by
    intro w5 hj
    obtain ⟨p5, B5, K, M5, ⟨z1, z2⟩, ⟨z3, z4, z5⟩, z6, z7, z8, z9⟩ := hj
    have c13c : w5 0 f 0 = 13 := z1.1.toF.1
    have hm5 : MT w5 (w5 49 f 0) := z1.1.1.2.2.2.2.1.2.2.1.1
    refine X_aload_n 43 hO dX12_insert_42 rfl rfl ?_
    refine X_iconst 44 hO dX12_insert_43 rfl ?_
    refine X_iload_n 45 hO dX12_insert_44 rfl rfl ?_
    refine X_iconst 46 hO dX12_insert_45 rfl ?_
    refine X_kVv (t := 13) 49 hO hD lX12_95 rfl (by decide) [_, _, _] rfl dX12_insert_46 rfl (by first | assumption | omega | (simp (disch := first | decide | assumption | omega) only [up_k, up_s, up_a, up_i, flA_k, flA_a, flA_n, cpA_k, cpA_a, newO_o, newA_o, newO_t, newA_t, newA_n, cpQ_k, cpQ_a] <;> first | assumption | omega)) (kX12_noteCommand _ _ _ _ _ _ c13c hm5 (by unfold IR; omega) hc (by unfold IR; omega)) (by decide) (by simp [rv_cat, int_cat]) (by first | decide | exact Nat.zero_le _ | omega) (by first | decide | exact Nat.zero_le _ | omega) (fun w_46 hp_46 => ?_) (fun E w_ hx_ => hx_.elim)
    obtain ⟨Bn, hBn⟩ : ∃ Bn, Bn = m_rec μ 0 c 0 (up (up B5 139 μ.1 0 0) 129 μ.1 0 (-1)) := ⟨_, rfl⟩
    obtain ⟨n1, n2, n3⟩ := z1.note (x := 0) (a := c) (b := 0) (k := 0) (w' := w_46) z3 z4 z5 z6 (by rw [hp_46, show (0 : Int) + 1 = 1 by omega])
    rw [← hBn] at n1 z8
    have en : ∀ {cc : Nat} {x i : Int}, cc ≠ 235 ∧ cc ≠ 236 ∧ cc ≠ 139 ∧ cc ≠ 129 → Bn cc x i = B5 cc x i := fun z => by rw [hBn, rec_at ⟨z.1, z.2.1⟩, up_k _ z.2.2.2, up_k _ z.2.2.1]
    have tb : TB μ M5 Bn := z3.cong fun cc a i y => en (by omega)
    have sb : SB 1 Bn := z5.cong fun cc a i y1 y2 => en (by omega)
    obtain ⟨⟨c13d, cT, cX, cQ⟩, e71, e87⟩ := n1.cnt tb
    have eI : ixN Bn (pl_ p5 (Bn 126 μ.1 0)) = ixN B5 (pl_ p5 (B5 126 μ.1 0)) := by rw [en (by decide)]; exact ixN_cgm _ fun q _ => ⟨en (by decide), en (by decide)⟩
    rw [eI] at e71
    rw [en (by decide)] at e87
    have hfin : ∀ v, v = bi (K ≠ -1) → w_46 91 f 0 = (o_insert μ c A).1 ∧ (o_insert μ c A).2 139 μ.1 0 = 0 ∧ RES μ f w (up (up (up w_46 88 f 0 v) 89 f 0 c) 90 f 0 0) (o_insert μ c A).2 := fun v hv => by
      rw [z8]
      refine ⟨?_, ?_, ?_⟩
      · rw [n3, z7]
        show _ = up Bn 129 μ.1 0 K 201 0 0
        rw [up_k _ (by decide), en (by decide)]
      · show up (up (up Bn 129 μ.1 0 K) 130 μ.1 0 0) 131 μ.1 0 c 139 μ.1 0 = 0
        rw [up_k _ (by decide), up_k _ (by decide), up_k _ (by decide), hBn, rec_at (by decide), up_k _ (by decide), up_s]
      · obtain ⟨p', x1, x2⟩ := n1.fin (c := c) tb z4 sb hv
        exact ⟨p', x1, (z2.trans n2).trans x2⟩
    have JP79 : ∀ (v : Int), (v = bi (K ≠ -1)) → X κ 0 0 (w_46) 79 [some (rv f), some (.int (I c))] [.int (I v), rv f] := by
      intro v hv
      have hv1 : v = 0 ∨ v = 1 := by rw [hv]; unfold bi; split <;> omega
      refine pX12_113 82 hO dX12_insert_79 rfl (by first | assumption | omega | (simp (disch := first | decide | assumption | omega) only [up_k, up_s, up_a, up_i, flA_k, flA_a, flA_n, cpA_k, cpA_a, newO_o, newA_o, newO_t, newA_t, newA_n, cpQ_k, cpQ_a] <;> first | assumption | omega)) (by omega) ?_
      refine X_aload_n 83 hO dX12_insert_82 rfl rfl ?_
      refine X_iload_n 84 hO dX12_insert_83 rfl rfl ?_
      refine pX12_116 87 hO dX12_insert_84 rfl (by first | assumption | omega | (simp (disch := first | decide | assumption | omega) only [up_k, up_s, up_a, up_i, flA_k, flA_a, flA_n, cpA_k, cpA_a, newO_o, newA_o, newO_t, newA_t, newA_n, cpQ_k, cpQ_a] <;> first | assumption | omega)) (by omega) ?_
      refine X_aload_n 88 hO dX12_insert_87 rfl rfl ?_
      refine X_iconst 89 hO dX12_insert_88 rfl ?_
      refine pX12_119 92 hO dX12_insert_89 rfl (by first | assumption | omega | (simp (disch := first | decide | assumption | omega) only [up_k, up_s, up_a, up_i, flA_k, flA_a, flA_n, cpA_k, cpA_a, newO_o, newA_o, newO_t, newA_t, newA_n, cpQ_k, cpQ_a] <;> first | assumption | omega)) (by omega) ?_
      refine X_aload_n 93 hO dX12_insert_92 rfl rfl ?_
      refine gX12_122 96 hO dX12_insert_93 rfl (by first | assumption | omega | (simp (disch := first | decide | assumption | omega) only [up_k, up_s, up_a, up_i, flA_k, flA_a, flA_n, cpA_k, cpA_a, newO_o, newA_o, newO_t, newA_t, newA_n, cpQ_k, cpQ_a] <;> first | assumption | omega)) (fun hi_93 => ?_)
      try simp (disch := first | decide | assumption | omega) only [up_k, up_s, up_a, up_i, flA_k, flA_a, flA_n, cpA_k, cpA_a, newO_o, newA_o, newO_t, newA_t, newA_n, cpQ_k, cpQ_a, e91] at hi_93 ⊢
      exact X_iret hO hF rfl (by first | exact Or.inl rfl | exact Or.inr ⟨rfl, bi_01 _⟩ | exact Or.inr ⟨rfl, by omega⟩) dX12_insert_96 ⟨_, rfl, (by omega), (hfin v hv)⟩
    refine X_aload_n 50 hO dX12_insert_49 rfl rfl ?_
    refine X_aload_n 51 hO dX12_insert_50 rfl rfl ?_
    refine gX12_87 54 hO dX12_insert_51 rfl (by first | assumption | omega | (simp (disch := first | decide | assumption | omega) only [up_k, up_s, up_a, up_i, flA_k, flA_a, flA_n, cpA_k, cpA_a, newO_o, newA_o, newO_t, newA_t, newA_n, cpQ_k, cpQ_a] <;> first | assumption | omega)) (fun hi_51 => ?_)
    try simp (disch := first | decide | assumption | omega) only [up_k, up_s, up_a, up_i, flA_k, flA_a, flA_n, cpA_k, cpA_a, newO_o, newA_o, newO_t, newA_t, newA_n, cpQ_k, cpQ_a, e91] at hi_51 ⊢
    refine X_if_ne 57 78 hO dX12_insert_54 rfl rfl (by omega) (fun hc_54 => ?_) (fun hc_54 => ?_)
    ·
      try simp only [bi_0, bi_ne, ne_eq, Classical.not_not] at hc_54
      refine X_iconst 79 hO dX12_insert_78 rfl ?_
      exact JP79 _ (by first | exact bi_t (z9.mpr (by omega)) | exact bi_f (fun z => by have := z9.mp z; omega))
    ·
      try simp only [bi_0, bi_ne, ne_eq, Classical.not_not] at hc_54
      refine X_aload_n 58 hO dX12_insert_57 rfl rfl ?_
      refine gX12_29 61 hO dX12_insert_58 rfl (by first | assumption | omega | (simp (disch := first | decide | assumption | omega) only [up_k, up_s, up_a, up_i, flA_k, flA_a, flA_n, cpA_k, cpA_a, newO_o, newA_o, newO_t, newA_t, newA_n, cpQ_k, cpQ_a] <;> first | assumption | omega)) ?_
      try simp (disch := first | decide | assumption | omega) only [up_k, up_s, up_a, up_i, flA_k, flA_a, flA_n, cpA_k, cpA_a, newO_o, newA_o, newO_t, newA_t, newA_n, cpQ_k, cpQ_a, e91]
      refine gX12_98 64 hO dX12_insert_61 rfl (by first | assumption | omega | (simp (disch := first | decide | assumption | omega) only [up_k, up_s, up_a, up_i, flA_k, flA_a, flA_n, cpA_k, cpA_a, newO_o, newA_o, newO_t, newA_t, newA_n, cpQ_k, cpQ_a] <;> first | assumption | omega)) ?_
      try simp (disch := first | decide | assumption | omega) only [up_k, up_s, up_a, up_i, flA_k, flA_a, flA_n, cpA_k, cpA_a, newO_o, newA_o, newO_t, newA_t, newA_n, cpQ_k, cpQ_a, e91]
      refine gX12_102 67 hO dX12_insert_64 rfl (by first | assumption | omega | (simp (disch := first | decide | assumption | omega) only [up_k, up_s, up_a, up_i, flA_k, flA_a, flA_n, cpA_k, cpA_a, newO_o, newA_o, newO_t, newA_t, newA_n, cpQ_k, cpQ_a] <;> first | assumption | omega)) ?_
      try simp (disch := first | decide | assumption | omega) only [up_k, up_s, up_a, up_i, flA_k, flA_a, flA_n, cpA_k, cpA_a, newO_o, newA_o, newO_t, newA_t, newA_n, cpQ_k, cpQ_a, e91]
      refine gX12_108 70 hO dX12_insert_67 rfl (by first | assumption | omega | (simp (disch := first | decide | assumption | omega) only [up_k, up_s, up_a, up_i, flA_k, flA_a, flA_n, cpA_k, cpA_a, newO_o, newA_o, newO_t, newA_t, newA_n, cpQ_k, cpQ_a] <;> first | assumption | omega)) (fun hi_67 => ?_)
      try simp (disch := first | decide | assumption | omega) only [up_k, up_s, up_a, up_i, flA_k, flA_a, flA_n, cpA_k, cpA_a, newO_o, newA_o, newO_t, newA_t, newA_n, cpQ_k, cpQ_a, e91] at hi_67 ⊢
      refine X_iconst 71 hO dX12_insert_70 rfl ?_
      refine X_icmp_ne 74 78 hO dX12_insert_71 rfl rfl (by omega) (by omega) (fun hc_71 => ?_) (fun hc_71 => ?_)
      ·
        refine X_iconst 79 hO dX12_insert_78 rfl ?_
        exact JP79 _ (by first | exact bi_t (z9.mpr (by omega)) | exact bi_f (fun z => by have := z9.mp z; omega))
      ·
        refine X_iconst 75 hO dX12_insert_74 rfl ?_
        refine X_goto hO dX12_insert_75 (tgt := 79) rfl ?_
        exact JP79 _ (by first | exact bi_t (z9.mpr (by omega)) | exact bi_f (fun z => by have := z9.mp z; omega))
  refine X_kSv 4 hO hD lX12_69 [_] rfl dX12_insert_1 rfl (kX12_requireCharacter _ _ _ hc) (by decide) (by simp [rv_cat, int_cat]) (by first | decide | exact Nat.zero_le _ | omega) (by first | decide | exact Nat.zero_le _ | omega) (fun w_1 hp_1 => ?_) (fun E w_ hx_ => (XE_out hO hF (by
  obtain ⟨x1, x2, x3⟩ := hx_
  have eo : o_insert μ c A = (0, m_ti μ (isC c) A) := by unfold o_insert; rw [if_neg x2]
  rw [eo, x3]
  exact ⟨Or.inl ⟨x1, by show up A 139 μ.1 0 (if isC c then 0 else 1) 139 μ.1 0 = 1; rw [up_s, if_neg x2]⟩, h.r9 hRB hM⟩)))
  obtain ⟨hC, e2_1⟩ := hp_1
  subst w_1
  have hcv : CV 0 c 0 := by unfold CV; omega
  obtain ⟨⟨b1, b2⟩, ⟨b3, b4⟩, b5, b6, b7⟩ := cal_b hR0 hcv (by decide)
  have hR1 : RBc μ (lvL p μ (up A 139 μ.1 0 0)) (m_saves μ 2 (up A 139 μ.1 0 0)) := ⟨by rw [e1 (by decide), e1 (by decide)]; exact hl, b1.1, b1.2.1, b1.2.2.1, b1.2.2.2.1, hLn⟩
  refine X_aload_n 5 hO dX12_insert_4 rfl rfl ?_
  refine X_kVv (t := 13) 8 hO hD lX12_73 rfl (by decide) [] rfl dX12_insert_5 rfl (by first | assumption | omega | (simp (disch := first | decide | assumption | omega) only [up_k, up_s, up_a, up_i, flA_k, flA_a, flA_n, cpA_k, cpA_a, newO_o, newA_o, newO_t, newA_t, newA_n, cpQ_k, cpQ_a] <;> first | assumption | omega)) (kX12_prepare _ _ _ p μ (lvL p μ (up A 139 μ.1 0 0)) (up A 139 μ.1 0 0) hr hl hSB.2.2.2.2.1 hSB.1.2 (by omega)) (by decide) (by simp [rv_cat, int_cat]) (by first | decide | exact Nat.zero_le _ | omega) (by first | decide | exact Nat.zero_le _ | omega) (fun w_5 hp_5 => ?_) (fun E w_ hx_ => (XE_out hO hF (by
  obtain ⟨x1, x2, x3⟩ := hx_
  have hf0 : m_full μ (up A 139 μ.1 0 0) := ⟨x2.1, by
    have := x2.2
    rw [u9 (by decide)] at this ⊢
    have := hz236 4 (by decide) (by decide)
    omega⟩
  have hf : m_full μ A := by have z := hf0; unfold m_full at z; rw [u9 (by decide), u9 (by decide)] at z; exact z
  rw [ins_NT hC (fun z => z.2.1 hf), cal_full hf0, in2_2 (by show up (m_saves μ 2 (up A 139 μ.1 0 0)) 139 μ.1 0 2 139 μ.1 0 > 0; rw [up_s]; decide), x3]
  exact ⟨Or.inr ⟨x1, up_s _ _ _ _ _⟩, p, (hA0.sav hT (by omega) hK0.2.2.1 hSB (hr.unsav hl hSB)).o34 b2.2.2.2.1 (by omega) b2.2.2.1 (by decide), UPG.refl⟩)))
  obtain ⟨nf0, r1, r2, r3⟩ := hp_5
  have c13 : w_5 0 f 0 = 13 := r1.toF.1
  have nf' : ¬ m_full μ (up A 139 μ.1 0 0) := fun z => nf0 ⟨z.1, by have := z.2; omega⟩
  have nf : ¬ m_full μ A := fun z => nf' (by unfold m_full; rw [u9 (by decide), u9 (by decide)]; exact z)
  have f42 : w_5 42 f 0 = w 42 f 0 := ed_fr hr.1.2.1.1 r3 (SDb.std (Or.inr (Or.inl rfl))) hl.1 (by decide)
  have g1 : UPG f w w_5 := r3.toG hr.1.2.1.1 hr.1.2.2.2.2.2.1 (fun k z1 z => by unfold SDb at z; omega) (fun k z => by unfold SDb at z; omega)
  have k1 : CHK p μ f w_5 (m_saves μ 2 (up A 139 μ.1 0 0)) := CHK.ini hA0 hT (by omega) hK0.2.2.1 hSB r1 (by rw [f42]; exact r2)
  refine X_aload_n 9 hO dX12_insert_8 rfl rfl ?_
  refine X_iconst 10 hO dX12_insert_9 rfl ?_
  refine X_iload_n 11 hO dX12_insert_10 rfl rfl ?_
  refine X_iconst 12 hO dX12_insert_11 rfl ?_
  refine X_kVv (t := 13) 15 hO hD lX12_76 rfl (by decide) [_, _, _] rfl dX12_insert_12 rfl (by first | assumption | omega | (simp (disch := first | decide | assumption | omega) only [up_k, up_s, up_a, up_i, flA_k, flA_a, flA_n, cpA_k, cpA_a, newO_o, newA_o, newO_t, newA_t, newA_n, cpQ_k, cpQ_a] <;> first | assumption | omega)) (kX12_performOrRefuse _ _ _ _ _ _ p μ (lvL p μ (up A 139 μ.1 0 0)) (m_saves μ 2 (up A 139 μ.1 0 0)) r1 hR1 (by omega) hc (by unfold IR; omega) (fun _ => by unfold CV; omega)) (by decide) (by simp [rv_cat, int_cat]) (by first | decide | exact Nat.zero_le _ | omega) (by first | decide | exact Nat.zero_le _ | omega) (fun w_12 hp_12 => ?_) (fun E w_ hx_ => (XE_out hO hF (by
  obtain ⟨x1, -, r0, x2, x3⟩ := hx_
  rw [show (1 : Int) - 1 = 0 from rfl] at x3
  rw [← eL1] at x3
  have hd : (m_does μ 0 c 0 (m_saves μ 2 (up A 139 μ.1 0 0))).1 ≠ 0 := by rw [← x3.1]; exact x2
  have h400 : m_saves μ 2 (up A 139 μ.1 0 0) 201 0 0 = 400 := by
    by_cases z : m_saves μ 2 (up A 139 μ.1 0 0) 201 0 0 = 400
    · exact z
    · rw [does_0, if_neg z] at hd; exact absurd rfl hd
  obtain ⟨⟨p2, k2⟩, g2⟩ := k1.does b2.2.2.2.1 (by omega) b2.2.2.1 b5 b1 (by omega) b2.1.1 hcv (by omega) x3
  rw [ins_NT hC (fun z => by have := z.2.2; rw [e201] at h400; omega), cal_ref nf' hd, in2_2 (by show up _ 139 μ.1 0 2 139 μ.1 0 > 0; rw [up_s]; decide)]
  exact ⟨Or.inr ⟨x1, up_s _ _ _ _ _⟩, p2, k2.1.o34 b4.2.2.2.1 (by omega) b4.2.2.1 (by decide), g1.trans g2⟩)))
  have hp8 := hp_12.1 (by omega)
  rw [show (1 : Int) - 1 = 0 from rfl] at hp8
  rw [← eL1] at hp8
  obtain ⟨⟨p2, k2⟩, g2⟩ := k1.does (by exact b2.2.2.2.1) (by omega) b2.2.2.1 b5 b1 (by omega) b2.1.1 hcv (by omega) hp8
  have d0 : (m_does μ 0 c 0 (m_saves μ 2 (up A 139 μ.1 0 0))).1 = 0 := hp8.1.symm
  have n400 : m_saves μ 2 (up A 139 μ.1 0 0) 201 0 0 ≠ 400 := fun z => by rw [does_0, if_pos z] at d0; exact absurd d0 (by show ¬ ((5 : Int) = 0); decide)
  have hd : m_does μ 0 c 0 (m_saves μ 2 (up A 139 μ.1 0 0)) = (0, m_insC μ c (m_saves μ 2 (up A 139 μ.1 0 0))) := by rw [does_0, if_neg n400]
  have a91 : w_12 91 f 0 = (m_does μ 0 c 0 (m_saves μ 2 (up A 139 μ.1 0 0))).2 136 μ.1 0 := hp8.2.2 rfl
  have f3 := b1.f
  have l400 : A 201 0 0 < 400 := by rw [e201] at n400 f3; omega
  have h207 : m_saves μ 2 (up A 139 μ.1 0 0) 207 0 0 ≤ 399 := by omega
  rw [hd] at k2 a91 b3 b4 b6 b7
  dsimp only at k2 a91 b3 b4 b6 b7
  have k2' := k2
  have e0 : ∀ {cc : Nat} {x i : Int}, (122 ≤ cc ∧ cc ≤ 135) ∨ (216 ≤ cc ∧ cc ≤ 236) → m_insC μ c (m_saves μ 2 (up A 139 μ.1 0 0)) cc x i = A cc x i := fun z => by rw [insC_at (by omega), e1 (by omega), u9 (by omega)]
  obtain ⟨s1, s2, s3, s4, s5, s6, s7, s8⟩ := k2.1.1.1.2.1
  rw [e0 (by decide)] at s4 s5 s6 s7
  rw [e0 (by decide)] at s8
  have c13b : w_12 0 f 0 = 13 := s1.1
  have b28 : ∀ j, 0 ≤ j → j < 3 → m_insC μ c (m_saves μ 2 (up A 139 μ.1 0 0)) 228 0 j = 0 ∨ m_insC μ c (m_saves μ 2 (up A 139 μ.1 0 0)) 228 0 j = 1 := fun j j0 j1 => by rw [e0 (by decide)]; exact hb28 j j0 j1
  have h22 : ∀ k, 1 ≤ k → alv μ (m_insC μ c (m_saves μ 2 (up A 139 μ.1 0 0))) k → m_insC μ c (m_saves μ 2 (up A 139 μ.1 0 0)) 222 0 k = k := fun k k0 ka => (k2.1.2.1.1.1.2.2.1 k k0 ka).2.2.1
  have gw : UPG f w w_12 := g1.trans g2
  refine X_aload_n 16 hO dX12_insert_15 rfl rfl ?_
  refine X_iload_n 17 hO dX12_insert_16 rfl rfl ?_
  refine X_kVi (t := 13) 20 hO hD lX12_80 rfl (by decide) [_] rfl dX12_insert_17 rfl (by first | assumption | omega | (simp (disch := first | decide | assumption | omega) only [up_k, up_s, up_a, up_i, flA_k, flA_a, flA_n, cpA_k, cpA_a, newO_o, newA_o, newO_t, newA_t, newA_n, cpQ_k, cpQ_a] <;> first | assumption | omega)) (kX12_continuesTyping _ _ _ _ c13b hc) (by decide) (by simp [rv_cat, int_cat]) (by first | decide | exact Nat.zero_le _ | omega) (by first | decide | exact Nat.zero_le _ | omega) (fun r_17 w_17 hr_17 hp_17 => ?_) (fun E w_ hx_ => hx_.elim)
  obtain ⟨e1_17, e2_17⟩ := hp_17
  subst w_17
  have hcty : r_17 = bi (m_cty μ c A) := by
    rw [e1_17]
    refine bi_iff ?_
    have hb := hRB.2.2.1.2.2.2.1
    have hty9 : A 129 μ.1 0 ≠ -1 → A 132 μ.1 0 = 0 ∧ A 129 μ.1 0 = A 126 μ.1 0 := fun z => (hTY z).1
    have s88 : w_12 88 f 0 ≠ 0 ↔ A 129 μ.1 0 ≠ -1 := by rw [s6]; exact bi_ne
    rw [s88, s7, s8]
    constructor
    · rintro ⟨⟨q1, q2⟩, q3⟩
      have := hty9 q1
      exact ⟨this.1, this.2, q1, by split at q2 <;> omega, q3.symm⟩
    · rintro ⟨q1, q2, q3, q4, q5⟩
      exact ⟨⟨q3, by rw [if_pos q4]; exact q4⟩, q5.symm⟩
  refine X_if_eq 23 30 hO dX12_insert_20 rfl rfl (by omega) (fun hc_20 => ?_) (fun hc_20 => ?_)
  ·
    try simp only [bi_0, bi_ne, ne_eq, Classical.not_not] at hc_20
    have hct : ¬ m_cty μ c A := fun z => by rw [bi_1.mpr z] at hcty; omega
    have hnT : ¬ (m_cty μ c A ∧ ¬ m_full μ A ∧ A 201 0 0 < 400) := fun z => hct z.1
    have xz := b6
    refine X_aload_n 31 hO dX12_insert_30 rfl rfl ?_
    refine gX12_87 34 hO dX12_insert_31 rfl (by first | assumption | omega | (simp (disch := first | decide | assumption | omega) only [up_k, up_s, up_a, up_i, flA_k, flA_a, flA_n, cpA_k, cpA_a, newO_o, newA_o, newO_t, newA_t, newA_n, cpQ_k, cpQ_a] <;> first | assumption | omega)) (fun hi_31 => ?_)
    try simp (disch := first | decide | assumption | omega) only [up_k, up_s, up_a, up_i, flA_k, flA_a, flA_n, cpA_k, cpA_a, newO_o, newA_o, newO_t, newA_t, newA_n, cpQ_k, cpQ_a, e91] at hi_31 ⊢
    refine X_if_ne 37 42 hO dX12_insert_34 rfl rfl (by omega) (fun hc_34 => ?_) (fun hc_34 => ?_)
    ·
      try simp only [bi_0, bi_ne, ne_eq, Classical.not_not] at hc_34
      have hj : INJ μ f c w A w_12 := INJ.nt hRB hS hP hM hNE hC hnT nf hd h22 (ends_0 (Or.inl (by have := hRB.2.2.1.1; rw [e0 (by decide)]; omega))) k2.1 gw a91
      exact X_mono (by omega) (by omega) (JP42 _ hj)
    ·
      try simp only [bi_0, bi_ne, ne_eq, Classical.not_not] at hc_34
      refine X_aload_n 38 hO dX12_insert_37 rfl rfl ?_
      refine X_iconst 39 hO dX12_insert_38 rfl ?_
      refine X_kVv (t := 13) 42 hO hD lX12_91 rfl (by decide) [_] rfl dX12_insert_39 rfl (by first | assumption | omega | (simp (disch := first | decide | assumption | omega) only [up_k, up_s, up_a, up_i, flA_k, flA_a, flA_n, cpA_k, cpA_a, newO_o, newA_o, newO_t, newA_t, newA_n, cpQ_k, cpQ_a] <;> first | assumption | omega)) (kX12_makeChange _ _ _ 0 p2 μ (m_insC μ c (m_saves μ 2 (up A 139 μ.1 0 0))) (S + 2) (P + 20) M k2.1 b3 b4 (by omega) (by omega) (by omega) xz b28 (Or.inl rfl) (k2.kpb b4.1.1) k2.2.2 k2.2.1.2.2) (by decide) (by simp [rv_cat, int_cat]) (by first | decide | exact Nat.zero_le _ | omega) (by first | decide | exact Nat.zero_le _ | omega) (fun w_39 hp_39 => ?_) (fun E w_ hx_ => (XE_out hO hF (by
  obtain ⟨x1, x2, x3, p3, x4, x5⟩ := hx_
  have h132 : m_insC μ c (m_saves μ 2 (up A 139 μ.1 0 0)) 132 μ.1 0 = 0 := by rw [e0 (by decide)]; omega
  have eok := ends_ok (g := 0) b3 b4 k2.1.2.2.b0.1.2 (by decide) (by omega) (by omega)
  have ecal := cal_go (sort := 2) nf' d0
  rw [hd] at ecal
  dsimp only at ecal
  rw [ends_2 h132 x2 x3] at ecal eok
  obtain ⟨o1, o2, o3⟩ := eok
  dsimp only at o1 o2 o3
  have ec : m_cal μ 0 c 0 2 (up A 139 μ.1 0 0) = (0, up (m_rest μ 2 1 (m_ntf μ (m_insC μ c (m_saves μ 2 (up A 139 μ.1 0 0)))).2) 139 μ.1 0 2) := by rw [ecal]; unfold m_ca2; rw [if_pos rfl]
  rw [ins_NT hC hnT, ec, in2_2 (by show up _ 139 μ.1 0 2 139 μ.1 0 > 0; rw [up_s]; decide)]
  exact ⟨Or.inr ⟨x1, up_s _ _ _ _ _⟩, p3, x4.o34 o2.2.2.2.1 (by omega) o2.2.2.1 (by decide), gw.trans x5⟩)))
      have hq : ∃ A3 p3, m_ends μ 0 (m_insC μ c (m_saves μ 2 (up A 139 μ.1 0 0))) = (1, A3) ∧ CHB p3 μ f (lvL p3 μ A3) w_39 A3 ∧ UPG f w_12 w_39 ∧ w_39 91 f 0 = w_12 91 f 0 := by
        rcases hp_39 with ⟨y1, y2⟩ | ⟨y1, y2, p3, y3, y4⟩
        · rw [y2]; exact ⟨_, p2, ends_0 (Or.inr y1), k2.1, UPG.refl, rfl⟩
        · exact ⟨_, p3, ends_1 (by rw [e0 (by decide)]; omega) y1 y2, y3, y4.gg, y4.2.1 91 (Or.inr rfl)⟩
      obtain ⟨A3, p3, z1, z2, z3, z4⟩ := hq
      have hj : INJ μ f c w A w_39 := INJ.nt hRB hS hP hM hNE hC hnT nf hd h22 z1 z2 (gw.trans z3) (z4.trans a91)
      exact X_mono (by omega) (by omega) (JP42 _ hj)
  ·
    try simp only [bi_0, bi_ne, ne_eq, Classical.not_not] at hc_20
    have hct : m_cty μ c A := bi_ne.mp (by rw [← hcty]; omega)
    have xz := b6
    obtain ⟨-, p0, v0, hTb⟩ := hTY hct.2.2.1
    have hT1 := hTb.sav (v := 0)
    have hn1 : 1 ≤ m_saves μ 2 (up A 139 μ.1 0 0) 120 μ.1 0 := by rw [e1 (by decide), u9 (by decide)]; exact (hRB.2.2.2 hct.2.2.1).1
    have x214 : m_saves μ 2 (up A 139 μ.1 0 0) 214 0 2 = m_saves μ 2 (up A 139 μ.1 0 0) 120 μ.1 0 := by rw [e1 (c := 120) (by decide), saves_eq, up_k _ (by decide), up_s]
    have hl0 : up A 139 μ.1 0 0 201 0 0 < 400 := by rw [u9 (by decide)]; exact l400
    obtain ⟨xb1, xb2, xb3, xb4, xb5⟩ := ext_b (c := c) hR0 hS hP (by omega) hl0 (by rw [u9 (by decide), u9 (by decide)]; exact ⟨hct.2.1, hct.2.2.1⟩) (by
      rw [ex_fr hR0 (by omega) hl0 (by decide), ex_fr hR0 (by omega) hl0 (by decide)]; exact hT1.2.1.2.2.1)
    refine X_aload_n 24 hO dX12_insert_23 rfl rfl ?_
    refine X_kVv (t := 13) 27 hO hD lX12_84 rfl (by decide) [] rfl dX12_insert_24 rfl (by first | assumption | omega | (simp (disch := first | decide | assumption | omega) only [up_k, up_s, up_a, up_i, flA_k, flA_a, flA_n, cpA_k, cpA_a, newO_o, newA_o, newO_t, newA_t, newA_n, cpQ_k, cpQ_a] <;> first | assumption | omega)) (kX12_extendChange _ _ _ c p2 μ (m_saves μ 2 (up A 139 μ.1 0 0)) (S + 2) (P + 20) M p0 v0 k2 b3 b4 (by omega) (by omega) (by omega) xz b28 hT1 h207 b2.2.2.2.2.1 x214 hn1 (fun z => (xb1 z).1) xb3) (by decide) (by simp [rv_cat, int_cat]) (by first | decide | exact Nat.zero_le _ | omega) (by first | decide | exact Nat.zero_le _ | omega) (fun w_24 hp_24 => ?_) (fun E w_ hx_ => (XE_out hO hF (by
  obtain ⟨x1, x2, p9, x3, x4⟩ := hx_
  obtain ⟨xe, xt, xs⟩ := xb4 x2
  rw [ins_T hC hct nf l400, xe]
  rw [xe] at xt xs
  exact ⟨Or.inr ⟨x1, up_s _ _ _ _ _⟩, p9, x3.o34 xt (by omega) xs (by decide), gw.trans x4⟩)))
    obtain ⟨y1, p5, y2, y3⟩ := hp_24
    have hj : INJ μ f c w A w_24 := INJ.ty hRB hS hP hM hC hct nf l400 hTb b4 ((ntf_rk b3 b4).1.2 _ _ _ (by decide) (by decide) (by decide) (by decide) (by decide) (by decide)) y1 y2 (gw.trans y3.gg) (by rw [y3.2.1 91 (Or.inr rfl)]; exact a91)
    refine X_goto hO dX12_insert_27 (tgt := 42) rfl ?_
    exact X_mono (by omega) (by omega) (JP42 _ hj)
