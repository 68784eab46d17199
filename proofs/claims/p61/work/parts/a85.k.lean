/-! a command is called -/
theorem full_sav {μ : MU} {A : Mm} : m_full μ (m_saves μ 2 A) ↔ m_full μ A := by unfold m_full; rw [saves_at (by decide), saves_at (by decide)]
theorem cal_full {μ : MU} {c a b sort : Int} {A : Mm} (h : m_full μ A) : m_cal μ c a b sort A = (0, up (m_saves μ 2 A) 139 μ.1 0 sort) := by
  unfold m_cal; rw [if_pos (by rw [full_sav]; exact h)]
theorem cal_ref {μ : MU} {c a b sort : Int} {A : Mm} (h : ¬ m_full μ A) (hr : (m_does μ c a b (m_saves μ 2 A)).1 ≠ 0) : m_cal μ c a b sort A = (0, up (m_does μ c a b (m_saves μ 2 A)).2 139 μ.1 0 sort) := by
  have := does_nn (μ := μ) (c := c) (a := a) (b := b) (w := m_saves μ 2 A)
  unfold m_cal m_ca1; rw [if_neg (by rw [full_sav]; exact h), if_pos (by omega)]
theorem cal_go {μ : MU} {c a b sort : Int} {A : Mm} (h : ¬ m_full μ A) (hr : (m_does μ c a b (m_saves μ 2 A)).1 = 0) : m_cal μ c a b sort A = m_ca2 μ c a b sort (m_ends μ 0 (m_does μ c a b (m_saves μ 2 A)).2) := by
  unfold m_cal m_ca1; rw [if_neg (by rw [full_sav]; exact h), if_neg (by omega)]
theorem ends_0 {μ : MU} {g : Int} {A : Mm} (h : A 132 μ.1 0 = 1 ∨ A 120 μ.1 0 = A 122 μ.1 0) : m_ends μ g A = (1, A) := by unfold m_ends; rw [if_pos h]
theorem ends_1 {μ : MU} {g : Int} {A : Mm} (h : A 132 μ.1 0 = 0) (h2 : A 120 μ.1 0 ≠ A 122 μ.1 0) (h3 : (m_ntf μ A).1 = 1) : m_ends μ g A = (1, m_mks μ g (m_ntf μ A).2) := by
  unfold m_ends m_en2; rw [if_neg (by omega), if_neg (by omega)]
theorem ends_2 {μ : MU} {g : Int} {A : Mm} (h : A 132 μ.1 0 = 0) (h2 : A 120 μ.1 0 ≠ A 122 μ.1 0) (h3 : (m_ntf μ A).1 = 0) : m_ends μ g A = (0, m_rest μ 2 1 (m_ntf μ A).2) := by
  unfold m_ends m_en2; rw [if_neg (by omega), if_pos h3]
theorem dX12_call_0 : decode cX12_call 0 = .ok (.aload_n 0, 1) := by decide +kernel
theorem dX12_call_1 : decode cX12_call 1 = .ok (.invokevirtual 73, 3) := by decide +kernel
theorem dX12_call_4 : decode cX12_call 4 = .ok (.aload_n 0, 1) := by decide +kernel
theorem dX12_call_5 : decode cX12_call 5 = .ok (.iload_n 1, 1) := by decide +kernel
theorem dX12_call_6 : decode cX12_call 6 = .ok (.iload_n 2, 1) := by decide +kernel
theorem dX12_call_7 : decode cX12_call 7 = .ok (.iload_n 3, 1) := by decide +kernel
theorem dX12_call_8 : decode cX12_call 8 = .ok (.invokevirtual 76, 3) := by decide +kernel
theorem dX12_call_11 : decode cX12_call 11 = .ok (.aload_n 0, 1) := by decide +kernel
theorem dX12_call_12 : decode cX12_call 12 = .ok (.getfield 87, 3) := by decide +kernel
theorem dX12_call_15 : decode cX12_call 15 = .ok (.ifCond .ne 8, 3) := by decide +kernel
theorem dX12_call_18 : decode cX12_call 18 = .ok (.aload_n 0, 1) := by decide +kernel
theorem dX12_call_19 : decode cX12_call 19 = .ok (.iconst 0, 1) := by decide +kernel
theorem dX12_call_20 : decode cX12_call 20 = .ok (.invokevirtual 91, 3) := by decide +kernel
theorem dX12_call_23 : decode cX12_call 23 = .ok (.aload_n 0, 1) := by decide +kernel
theorem dX12_call_24 : decode cX12_call 24 = .ok (.iload_n 1, 1) := by decide +kernel
theorem dX12_call_25 : decode cX12_call 25 = .ok (.iload_n 2, 1) := by decide +kernel
theorem dX12_call_26 : decode cX12_call 26 = .ok (.iload_n 3, 1) := by decide +kernel
theorem dX12_call_27 : decode cX12_call 27 = .ok (.invokevirtual 95, 3) := by decide +kernel
theorem dX12_call_30 : decode cX12_call 30 = .ok (.aload_n 0, 1) := by decide +kernel
theorem dX12_call_31 : decode cX12_call 31 = .ok (.getfield 122, 3) := by decide +kernel
theorem dX12_call_34 : decode cX12_call 34 = .ok (.ireturn, 1) := by decide +kernel
set_option maxRecDepth 4000 in
theorem kX12_call (γ : LC) (w : Mm) (f cc a b : Int) (p : RP) (μ : MU) (A : Mm) (S P M sort : Int) (h : CHB p μ f (lvL p μ A) w A) (hRB : RB μ S P M A) (hS : S ≤ 28900) (hP : P ≤ 500000) (hM : M ≤ 598) (hb28 : ∀ j, 0 ≤ j → j < 3 → A 228 0 j = 0 ∨ A 228 0 j = 1) (hcc : 1 ≤ cc ∧ cc ≤ 15) (ha : IR a) (hb : IR b) (hcv : CV (cc - 1) a b) : KI γ 13 mX12_call [rv f, .int (I cc), .int (I a), .int (I b)] w (45) (3100) (fun r w' => r = (m_cal μ (cc - 1) a b sort A).1 ∧ (m_cal μ (cc - 1) a b sort A).2 139 μ.1 0 = 0 ∧ ∃ p', CHB p' μ f (lvL p' μ (m_cal μ (cc - 1) a b sort A).2) w' (m_cal μ (cc - 1) a b sort A).2 ∧ UPG f w w') (fun E w' => E = "java/lang/IllegalStateException" ∧ (m_cal μ (cc - 1) a b sort A).2 139 μ.1 0 = sort ∧ ∃ p', CHB p' μ f (lvL p' μ (m_cal μ (cc - 1) a b sort A).2) w' (m_cal μ (cc - 1) a b sort A).2 ∧ UPG f w w') := by
  refine MX_of rfl rfl (by simp [rv_cat, int_cat]) rfl ?_
  rintro κ hO hF rfl
  have hD := hF.dp
  show X κ (45) (3100) w 0 [some (rv f), some (.int (I cc)), some (.int (I a)), some (.int (I b))] []
  refine X_wi fun hWI => ?_
  obtain ⟨hr, hTX, hLV⟩ := id h
  obtain ⟨t0, hFB, t2, -⟩ := hr.toF
  obtain ⟨hB0, hK0, hZ0, hY0⟩ := id hRB
  have hT := hK0.2.2.2.1
  have hl : 0 ≤ A 122 μ.1 0 ∧ A 122 μ.1 0 ≤ A 120 μ.1 0 := hLV.b0.1
  have h120 := hB0.2.2.2.2.1
  have hSB := hB0.1
  have hLn : ((lvL p μ A).length : Int) ≤ 30000 := by unfold lvL; rw [List.length_map, rng_len]; omega
  obtain ⟨⟨b1, b2⟩, ⟨b3, b4⟩, b5, b6, b7⟩ := cal_b hRB hcv (by omega)
  have hz1 := hZ0.1
  have hz236 := hK0.2.2.2.2.2.2
  have e1 : ∀ {c : Nat} {x i : Int}, c < 200 ∨ (210 < c ∧ c ≠ 214 ∧ c ≠ 215) → m_saves μ 2 A c x i = A c x i := fun z => saves_at z
  have eL1 : lvL p μ (m_saves μ 2 A) = lvL p μ A := by unfold lvL; rw [e1 (by decide), e1 (by decide)]
  have hR1 : RBc μ (lvL p μ A) (m_saves μ 2 A) := ⟨by rw [e1 (by decide), e1 (by decide)]; exact hl, b1.1, b1.2.1, b1.2.2.1, b1.2.2.2.1, hLn⟩
  have e91 := trivial
  refine X_aload_n 1 hO dX12_call_0 rfl rfl ?_
  refine X_kVv (t := 13) 4 hO hD lX12_73 rfl (by decide) [] rfl dX12_call_1 rfl (by first | assumption | omega | (simp (disch := first | decide | assumption | omega) only [up_k, up_s, up_a, up_i, flA_k, flA_a, flA_n, cpA_k, cpA_a, newO_o, newA_o, newO_t, newA_t, newA_n, cpQ_k, cpQ_a] <;> first | assumption | omega)) (kX12_prepare _ _ _ p μ (lvL p μ A) A hr hl hSB.2.2.2.2.1 hSB.1.2 (by omega)) (by decide) (by simp [rv_cat, int_cat]) (by first | decide | exact Nat.zero_le _ | omega) (by first | decide | exact Nat.zero_le _ | omega) (fun w_1 hp_1 => ?_) (fun E w_ hx_ => (XE_out hO hF (by
  obtain ⟨x1, x2, x3⟩ := hx_
  have hf : m_full μ A := ⟨x2.1, by
    have := x2.2
    have := hz236; unfold bMc at this
    have := this 4 (by decide) (by decide)
    omega⟩
  rw [cal_full hf, x3]
  exact ⟨x1, up_s _ _ _ _ _, p, (h.sav hT (by omega) hK0.2.2.1 hSB (hr.unsav hl hSB)).o34 b2.2.2.2.1 (by omega) b2.2.2.1 (by decide), UPG.refl⟩)))
  obtain ⟨nf, r1, r2, r3⟩ := hp_1
  have c13 : w_1 0 f 0 = 13 := r1.toF.1
  have nf' : ¬ m_full μ A := fun z => nf ⟨z.1, by have := z.2; omega⟩
  have f42 : w_1 42 f 0 = w 42 f 0 := ed_fr hr.1.2.1.1 r3 (SDb.std (Or.inr (Or.inl rfl))) hl.1 (by decide)
  have g1 : UPG f w w_1 := r3.toG hr.1.2.1.1 hr.1.2.2.2.2.2.1 (fun k z1 z => by unfold SDb at z; omega) (fun k z => by unfold SDb at z; omega)
  have k1 : CHK p μ f w_1 (m_saves μ 2 A) := CHK.ini h hT (by omega) hK0.2.2.1 hSB r1 (by rw [f42]; exact r2)
  refine X_aload_n 5 hO dX12_call_4 rfl rfl ?_
  refine X_iload_n 6 hO dX12_call_5 rfl rfl ?_
  refine X_iload_n 7 hO dX12_call_6 rfl rfl ?_
  refine X_iload_n 8 hO dX12_call_7 rfl rfl ?_
  refine X_kVv (t := 13) 11 hO hD lX12_76 rfl (by decide) [_, _, _] rfl dX12_call_8 rfl (by first | assumption | omega | (simp (disch := first | decide | assumption | omega) only [up_k, up_s, up_a, up_i, flA_k, flA_a, flA_n, cpA_k, cpA_a, newO_o, newA_o, newO_t, newA_t, newA_n, cpQ_k, cpQ_a] <;> first | assumption | omega)) (kX12_performOrRefuse _ _ _ _ _ _ p μ (lvL p μ A) (m_saves μ 2 A) r1 hR1 (by omega) ha hb (fun _ => hcv)) (by decide) (by simp [rv_cat, int_cat]) (by first | decide | exact Nat.zero_le _ | omega) (by first | decide | exact Nat.zero_le _ | omega) (fun w_8 hp_8 => ?_) (fun E w_ hx_ => (XE_out hO hF (by
  obtain ⟨x1, -, r0, x2, x3⟩ := hx_
  rw [← eL1] at x3
  have hd : (m_does μ (cc - 1) a b (m_saves μ 2 A)).1 ≠ 0 := by rw [← x3.1]; exact x2
  obtain ⟨⟨p2, k2⟩, g2⟩ := k1.does b2.2.2.2.1 (by omega) b2.2.2.1 b5 b1 (by omega) b2.1.1 hcv (by omega) x3
  rw [cal_ref nf' hd]
  exact ⟨x1, up_s _ _ _ _ _, p2, k2.1.o34 b4.2.2.2.1 (by omega) b4.2.2.1 (by decide), g1.trans g2⟩)))
  have hp8 := hp_8.1 (by omega)
  have c13b : w_8 0 f 0 = 13 := by
    obtain ⟨-, ⟨_, _, _, q, -⟩, -⟩ := hp8
    exact q.toF.1
  rw [← eL1] at hp8
  obtain ⟨⟨p2, k2⟩, g2⟩ := k1.does (by exact b2.2.2.2.1) (by omega) b2.2.2.1 b5 b1 (by omega) b2.1.1 hcv (by omega) hp8
  have d0 : (m_does μ (cc - 1) a b (m_saves μ 2 A)).1 = 0 := hp8.1.symm
  have a91 : w_8 91 f 0 = (m_does μ (cc - 1) a b (m_saves μ 2 A)).2 136 μ.1 0 := hp8.2.2 rfl
  have e87 : w_8 87 f 0 = (m_does μ (cc - 1) a b (m_saves μ 2 A)).2 132 μ.1 0 := k2.1.1.1.2.1.2.2.2.2.1
  have hr87 : w_8 87 f 0 = 0 ∨ w_8 87 f 0 = 1 := by rw [e87, b7 _ _ _ (by decide)]; exact hz1
  have ecal : m_cal μ (cc - 1) a b sort A = m_ca2 μ (cc - 1) a b sort (m_ends μ 0 (m_does μ (cc - 1) a b (m_saves μ 2 A)).2) := cal_go nf' d0
  obtain ⟨A2, hA2⟩ : ∃ A2, A2 = (m_does μ (cc - 1) a b (m_saves μ 2 A)).2 := ⟨_, rfl⟩
  rw [← hA2] at k2 a91 e87 b3 b4 b6 b7 ecal
  have eok := ends_ok (g := 0) b3 b4 k2.1.2.2.b0.1.2 (by decide) (by omega) (by omega)
  have hm8 : MT w_8 (w_8 49 f 0) := k2.1.1.1.2.2.2.2.1.2.2.1.1
  have done : ∀ (A3 w3 w4 : Mm) (p3 : RP), m_ends μ 0 A2 = (1, A3) → CHB p3 μ f (lvL p3 μ A3) w3 A3 → UPG f w_8 w3 → w3 91 f 0 = w_8 91 f 0 → w4 = (if w3 86 f 0 = -1 then up w3 88 f 0 0 else c_app (w3 49 f 0) cc a b (up w3 88 f 0 0)) → w4 91 f 0 = (m_cal μ (cc - 1) a b sort A).1 ∧ (m_cal μ (cc - 1) a b sort A).2 139 μ.1 0 = 0 ∧ ∃ p', CHB p' μ f (lvL p' μ (m_cal μ (cc - 1) a b sort A).2) w4 (m_cal μ (cc - 1) a b sort A).2 ∧ UPG f w w4 := fun A3 w3 w4 p3 y1 y2 y3 y4 y5 => by
    rw [y1] at ecal eok
    obtain ⟨o1, o2, o3⟩ := eok
    dsimp only at o1 o2 o3
    have n := y2.note (x := cc - 1) (a := a) (b := b) (k := 0) (w' := w4) o2.2.2.2.1 (by omega) o2.2.2.1 (by
      rw [o3 _ _ _ (by decide), o3 _ _ _ (by decide), b7 _ _ _ (by decide), b7 _ _ _ (by decide)]
      intro z; have : ¬ (A 236 0 4 = 16) := fun y => nf' ⟨z, y⟩
      have := nf; omega) (by rw [y5, show cc - 1 + 1 = cc by omega])
    have ec : m_cal μ (cc - 1) a b sort A = (m_ca3 μ (cc - 1) a b A3 136 μ.1 0, m_ca3 μ (cc - 1) a b A3) := by rw [ecal]; unfold m_ca2; rw [if_neg (show ¬ (((1 : Int), A3).1 = 0) from by show ¬ ((1 : Int) = 0); decide)]
    rw [ec]
    refine ⟨?_, ?_, p3, n.1, (g1.trans g2).trans (y3.trans n.2.1)⟩
    · rw [n.2.2, y4, a91]
      show _ = m_rec μ (cc - 1) a b (up (up A3 139 μ.1 0 0) 129 μ.1 0 (-1)) 136 μ.1 0
      rw [rec_at (by decide), up_k _ (by decide), up_k _ (by decide), o3 _ _ _ (by decide)]
    · show m_rec μ (cc - 1) a b (up (up A3 139 μ.1 0 0) 129 μ.1 0 (-1)) 139 μ.1 0 = 0
      rw [rec_at (by decide), up_k _ (by decide), up_s]
  refine X_aload_n 12 hO dX12_call_11 rfl rfl ?_
  refine gX12_87 15 hO dX12_call_12 rfl (by first | assumption | omega | (simp (disch := first | decide | assumption | omega) only [up_k, up_s, up_a, up_i, flA_k, flA_a, flA_n, cpA_k, cpA_a, newO_o, newA_o, newO_t, newA_t, newA_n, cpQ_k, cpQ_a] <;> first | assumption | omega)) (fun hi_12 => ?_)
  try simp (disch := first | decide | assumption | omega) only [up_k, up_s, up_a, up_i, flA_k, flA_a, flA_n, cpA_k, cpA_a, newO_o, newA_o, newO_t, newA_t, newA_n, cpQ_k, cpQ_a, e91] at hi_12 ⊢
  refine X_if_ne 18 23 hO dX12_call_15 rfl rfl (by omega) (fun hc_15 => ?_) (fun hc_15 => ?_)
  ·
    try simp only [bi_0, bi_ne, ne_eq, Classical.not_not] at hc_15
    refine X_aload_n 24 hO dX12_call_23 rfl rfl ?_
    refine X_iload_n 25 hO dX12_call_24 rfl rfl ?_
    refine X_iload_n 26 hO dX12_call_25 rfl rfl ?_
    refine X_iload_n 27 hO dX12_call_26 rfl rfl ?_
    refine X_kVv (t := 13) 30 hO hD lX12_95 rfl (by decide) [_, _, _] rfl dX12_call_27 rfl (by first | assumption | omega | (simp (disch := first | decide | assumption | omega) only [up_k, up_s, up_a, up_i, flA_k, flA_a, flA_n, cpA_k, cpA_a, newO_o, newA_o, newO_t, newA_t, newA_n, cpQ_k, cpQ_a] <;> first | assumption | omega)) (kX12_noteCommand _ _ _ _ _ _ (by assumption) (by assumption) (by unfold IR at *; omega) ha hb) (by decide) (by simp [rv_cat, int_cat]) (by first | decide | exact Nat.zero_le _ | omega) (by first | decide | exact Nat.zero_le _ | omega) (fun w_27 hp_27 => ?_) (fun E w_ hx_ => hx_.elim)
    have hfin : w_27 91 f 0 = (m_cal μ (cc - 1) a b sort A).1 ∧ (m_cal μ (cc - 1) a b sort A).2 139 μ.1 0 = 0 ∧ ∃ p', CHB p' μ f (lvL p' μ (m_cal μ (cc - 1) a b sort A).2) w_27 (m_cal μ (cc - 1) a b sort A).2 ∧ UPG f w w_27 := by
      first
      | exact done A3 _ _ p3 z1 z2 z3 z4 hp_27
      | exact done A2 _ _ p2 (ends_0 (Or.inl (by omega))) k2.1 UPG.refl rfl hp_27
    have c13d : w_27 0 f 0 = 13 := by
      obtain ⟨-, -, p9, q9, -⟩ := hfin
      exact q9.1.toF.1
    clear e91
    have e91 := hfin.1
    refine X_aload_n 31 hO dX12_call_30 rfl rfl ?_
    refine gX12_122 34 hO dX12_call_31 rfl (by first | assumption | omega | (simp (disch := first | decide | assumption | omega) only [up_k, up_s, up_a, up_i, flA_k, flA_a, flA_n, cpA_k, cpA_a, newO_o, newA_o, newO_t, newA_t, newA_n, cpQ_k, cpQ_a] <;> first | assumption | omega)) (fun hi_31 => ?_)
    try simp (disch := first | decide | assumption | omega) only [up_k, up_s, up_a, up_i, flA_k, flA_a, flA_n, cpA_k, cpA_a, newO_o, newA_o, newO_t, newA_t, newA_n, cpQ_k, cpQ_a, e91] at hi_31 ⊢
    exact X_iret hO hF rfl (by first | exact Or.inl rfl | exact Or.inr ⟨rfl, bi_01 _⟩ | exact Or.inr ⟨rfl, by omega⟩) dX12_call_34 ⟨_, rfl, (by omega), ⟨rfl, hfin.2⟩⟩
  ·
    try simp only [bi_0, bi_ne, ne_eq, Classical.not_not] at hc_15
    refine X_aload_n 19 hO dX12_call_18 rfl rfl ?_
    refine X_iconst 20 hO dX12_call_19 rfl ?_
    refine X_kVv (t := 13) 23 hO hD lX12_91 rfl (by decide) [_] rfl dX12_call_20 rfl (by first | assumption | omega | (simp (disch := first | decide | assumption | omega) only [up_k, up_s, up_a, up_i, flA_k, flA_a, flA_n, cpA_k, cpA_a, newO_o, newA_o, newO_t, newA_t, newA_n, cpQ_k, cpQ_a] <;> first | assumption | omega)) (kX12_makeChange _ _ _ 0 p2 μ A2 (S + 2) (P + 20) M k2.1 b3 b4 (by omega) (by omega) (by omega) b6 (fun j j0 j1 => by rw [b7 _ _ _ (by decide)]; exact hb28 j j0 j1) (Or.inl rfl) (k2.kpb b4.1.1) k2.2.2 k2.2.1.2.2) (by decide) (by simp [rv_cat, int_cat]) (by first | decide | exact Nat.zero_le _ | omega) (by first | decide | exact Nat.zero_le _ | omega) (fun w_20 hp_20 => ?_) (fun E w_ hx_ => (XE_out hO hF (by
  obtain ⟨x1, x2, x3, p3, x4, x5⟩ := hx_
  have h132 : A2 132 μ.1 0 = 0 := by omega
  rw [ends_2 h132 x2 x3] at ecal eok
  obtain ⟨o1, o2, o3⟩ := eok
  dsimp only at o1 o2 o3
  have ec : m_cal μ (cc - 1) a b sort A = (0, up (m_rest μ 2 1 (m_ntf μ A2).2) 139 μ.1 0 sort) := by rw [ecal]; unfold m_ca2; rw [if_pos rfl]
  rw [ec]
  exact ⟨x1, up_s _ _ _ _ _, p3, x4.o34 o2.2.2.2.1 (by omega) o2.2.2.1 (by decide), (g1.trans g2).trans x5⟩)))
    have h132 : A2 132 μ.1 0 = 0 := by omega
    have hq : ∃ A3 p3, m_ends μ 0 A2 = (1, A3) ∧ CHB p3 μ f (lvL p3 μ A3) w_20 A3 ∧ UPG f w_8 w_20 ∧ w_20 91 f 0 = w_8 91 f 0 := by
      rcases hp_20 with ⟨y1, y2⟩ | ⟨y1, y2, p3, y3, y4⟩
      · rw [y2]; exact ⟨A2, p2, ends_0 (Or.inr y1), k2.1, UPG.refl, rfl⟩
      · exact ⟨_, p3, ends_1 h132 y1 y2, y3, y4.gg, y4.2.1 91 (Or.inr rfl)⟩
    obtain ⟨A3, p3, z1, z2, z3, z4⟩ := hq
    have c13c : w_20 0 f 0 = 13 := z2.1.toF.1
    have hm20 : MT w_20 (w_20 49 f 0) := z2.1.1.2.2.2.2.1.2.2.1.1
    refine X_aload_n 24 hO dX12_call_23 rfl rfl ?_
    refine X_iload_n 25 hO dX12_call_24 rfl rfl ?_
    refine X_iload_n 26 hO dX12_call_25 rfl rfl ?_
    refine X_iload_n 27 hO dX12_call_26 rfl rfl ?_
    refine X_kVv (t := 13) 30 hO hD lX12_95 rfl (by decide) [_, _, _] rfl dX12_call_27 rfl (by first | assumption | omega | (simp (disch := first | decide | assumption | omega) only [up_k, up_s, up_a, up_i, flA_k, flA_a, flA_n, cpA_k, cpA_a, newO_o, newA_o, newO_t, newA_t, newA_n, cpQ_k, cpQ_a] <;> first | assumption | omega)) (kX12_noteCommand _ _ _ _ _ _ (by assumption) (by assumption) (by unfold IR at *; omega) ha hb) (by decide) (by simp [rv_cat, int_cat]) (by first | decide | exact Nat.zero_le _ | omega) (by first | decide | exact Nat.zero_le _ | omega) (fun w_27 hp_27 => ?_) (fun E w_ hx_ => hx_.elim)
    have hfin : w_27 91 f 0 = (m_cal μ (cc - 1) a b sort A).1 ∧ (m_cal μ (cc - 1) a b sort A).2 139 μ.1 0 = 0 ∧ ∃ p', CHB p' μ f (lvL p' μ (m_cal μ (cc - 1) a b sort A).2) w_27 (m_cal μ (cc - 1) a b sort A).2 ∧ UPG f w w_27 := by
      first
      | exact done A3 _ _ p3 z1 z2 z3 z4 hp_27
      | exact done A2 _ _ p2 (ends_0 (Or.inl (by omega))) k2.1 UPG.refl rfl hp_27
    have c13d : w_27 0 f 0 = 13 := by
      obtain ⟨-, -, p9, q9, -⟩ := hfin
      exact q9.1.toF.1
    clear e91
    have e91 := hfin.1
    refine X_aload_n 31 hO dX12_call_30 rfl rfl ?_
    refine gX12_122 34 hO dX12_call_31 rfl (by first | assumption | omega | (simp (disch := first | decide | assumption | omega) only [up_k, up_s, up_a, up_i, flA_k, flA_a, flA_n, cpA_k, cpA_a, newO_o, newA_o, newO_t, newA_t, newA_n, cpQ_k, cpQ_a] <;> first | assumption | omega)) (fun hi_31 => ?_)
    try simp (disch := first | decide | assumption | omega) only [up_k, up_s, up_a, up_i, flA_k, flA_a, flA_n, cpA_k, cpA_a, newO_o, newA_o, newO_t, newA_t, newA_n, cpQ_k, cpQ_a, e91] at hi_31 ⊢
    exact X_iret hO hF rfl (by first | exact Or.inl rfl | exact Or.inr ⟨rfl, bi_01 _⟩ | exact Or.inr ⟨rfl, by omega⟩) dX12_call_34 ⟨_, rfl, (by omega), ⟨rfl, hfin.2⟩⟩
