/-! a node is made in the class: the walk -/
theorem dX12_makeNode_0 : decode cX12_makeNode 0 = .ok (.new 103, 3) := by decide +kernel
theorem dX12_makeNode_3 : decode cX12_makeNode 3 = .ok (.dup, 1) := by decide +kernel
theorem dX12_makeNode_4 : decode cX12_makeNode 4 = .ok (.aload_n 0, 1) := by decide +kernel
theorem dX12_makeNode_5 : decode cX12_makeNode 5 = .ok (.getfield 29, 3) := by decide +kernel
theorem dX12_makeNode_8 : decode cX12_makeNode 8 = .ok (.getfield 362, 3) := by decide +kernel
theorem dX12_makeNode_11 : decode cX12_makeNode 11 = .ok (.aload_n 0, 1) := by decide +kernel
theorem dX12_makeNode_12 : decode cX12_makeNode 12 = .ok (.getfield 29, 3) := by decide +kernel
theorem dX12_makeNode_15 : decode cX12_makeNode 15 = .ok (.getfield 98, 3) := by decide +kernel
theorem dX12_makeNode_18 : decode cX12_makeNode 18 = .ok (.aload_n 0, 1) := by decide +kernel
theorem dX12_makeNode_19 : decode cX12_makeNode 19 = .ok (.getfield 10, 3) := by decide +kernel
theorem dX12_makeNode_22 : decode cX12_makeNode 22 = .ok (.getfield 223, 3) := by decide +kernel
theorem dX12_makeNode_25 : decode cX12_makeNode 25 = .ok (.getfield 227, 3) := by decide +kernel
theorem dX12_makeNode_28 : decode cX12_makeNode 28 = .ok (.invokespecial 365, 3) := by decide +kernel
theorem dX12_makeNode_31 : decode cX12_makeNode 31 = .ok (.astore_n 2, 1) := by decide +kernel
theorem dX12_makeNode_32 : decode cX12_makeNode 32 = .ok (.aload_n 2, 1) := by decide +kernel
theorem dX12_makeNode_33 : decode cX12_makeNode 33 = .ok (.iload_n 1, 1) := by decide +kernel
theorem dX12_makeNode_34 : decode cX12_makeNode 34 = .ok (.putfield 368, 3) := by decide +kernel
theorem dX12_makeNode_37 : decode cX12_makeNode 37 = .ok (.aload_n 2, 1) := by decide +kernel
theorem dX12_makeNode_38 : decode cX12_makeNode 38 = .ok (.getfield 102, 3) := by decide +kernel
theorem dX12_makeNode_41 : decode cX12_makeNode 41 = .ok (.aload_n 0, 1) := by decide +kernel
theorem dX12_makeNode_42 : decode cX12_makeNode 42 = .ok (.getfield 10, 3) := by decide +kernel
theorem dX12_makeNode_45 : decode cX12_makeNode 45 = .ok (.getfield 361, 3) := by decide +kernel
theorem dX12_makeNode_48 : decode cX12_makeNode 48 = .ok (.invokevirtual 371, 3) := by decide +kernel
theorem dX12_makeNode_51 : decode cX12_makeNode 51 = .ok (.aload_n 0, 1) := by decide +kernel
theorem dX12_makeNode_52 : decode cX12_makeNode 52 = .ok (.getfield 10, 3) := by decide +kernel
theorem dX12_makeNode_55 : decode cX12_makeNode 55 = .ok (.getfield 361, 3) := by decide +kernel
theorem dX12_makeNode_58 : decode cX12_makeNode 58 = .ok (.invokevirtual 375, 3) := by decide +kernel
theorem dX12_makeNode_61 : decode cX12_makeNode 61 = .ok (.aload_n 0, 1) := by decide +kernel
theorem dX12_makeNode_62 : decode cX12_makeNode 62 = .ok (.aload_n 2, 1) := by decide +kernel
theorem dX12_makeNode_63 : decode cX12_makeNode 63 = .ok (.invokevirtual 378, 3) := by decide +kernel
theorem dX12_makeNode_66 : decode cX12_makeNode 66 = .ok (.aload_n 0, 1) := by decide +kernel
theorem dX12_makeNode_67 : decode cX12_makeNode 67 = .ok (.getfield 29, 3) := by decide +kernel
theorem dX12_makeNode_70 : decode cX12_makeNode 70 = .ok (.aload_n 2, 1) := by decide +kernel
theorem dX12_makeNode_71 : decode cX12_makeNode 71 = .ok (.invokevirtual 382, 3) := by decide +kernel
theorem dX12_makeNode_74 : decode cX12_makeNode 74 = .ok (.aload_n 0, 1) := by decide +kernel
theorem dX12_makeNode_75 : decode cX12_makeNode 75 = .ok (.getfield 29, 3) := by decide +kernel
theorem dX12_makeNode_78 : decode cX12_makeNode 78 = .ok (.invokevirtual 251, 3) := by decide +kernel
theorem dX12_makeNode_81 : decode cX12_makeNode 81 = .ok (.pop, 1) := by decide +kernel
theorem dX12_makeNode_82 : decode cX12_makeNode 82 = .ok (.return_, 1) := by decide +kernel
set_option maxRecDepth 4000 in
theorem kX12_makeNode (γ : LC) (w : Mm) (f g : Int) (p : RP) (μ : MU) (A : Mm) (M : Int) (h : RLm p μ f (lvL p μ A) w A) (hK : MKo μ M (pr_ p) (pg_ p) (pl_ p) A) (hSB : SB 0 A) (hbt : bTr A) (hg : g = 0 ∨ g = 1) (h207 : 0 ≤ A 207 0 0 ∧ A 207 0 0 ≤ 400) (h121 : 0 ≤ A 121 μ.1 0 ∧ A 121 μ.1 0 ≤ 524288) : KV γ 10 mX12_makeNode [rv f, .int (I g)] w (10) (1738) (fun w' => ∃ p', MGB p' μ f [] (M + 1) w' (m_mks μ g A) ∧ LIV μ (pg_ p') (pr_ p' ((m_mks μ g A) 126 μ.1 0)) (m_mks μ g A) ∧ UPE f w w') NX := by
  refine MX_of rfl rfl (by simp [rv_cat, int_cat]) rfl ?_
  rintro κ hO hF rfl
  have hD := hF.dp
  show X κ (10) (1738) w 0 [some (rv f), some (.int (I g)), none] []
  refine X_wi fun hWI => ?_
  obtain ⟨hTX, hLV, hT, hM, hS1, hb30, hb123, hb121⟩ := id hK
  have h124 := hT.1
  have h125 := hT.2.1
  have hE := hTX.1.1.1
  have hcur := hE.cur hT
  have hlv := hLV.b0.1
  obtain ⟨t0, hFB, tD, tS⟩ := h.toF
  obtain ⟨⟨⟨⟨tT, c41⟩, ⟨tl, c42⟩, ⟨tB, c43⟩, tb, tb2, c44⟩, ⟨v1, v2, v3, v4⟩, v5, v6, v7, v8, v9⟩, t3, t4⟩ := id h.1.2.2.2.1
  have tQ := h.1.2.2.1.1.1.2.2.2.1.1
  have lv67 : w 67 (w 11 (w 41 f 0) 0) 0 = A 201 0 0 := h.low.2.2.2.1
  have lv61 : w 61 (w 41 f 0) 0 = A 207 0 0 := h.low.2.2.1
  have hA201 : 0 ≤ A 201 0 0 ∧ A 201 0 0 ≤ 400 := hSB.1
  have tX := (h.tg5 hcur).1
  have hTb := hT.mk1 (f := g) (by omega) (by omega) h121 h207
  have hLn : ((lvL p μ A).length : Int) ≤ 100000 := by unfold lvL; rw [List.length_map, rng_len]; omega
  have hQT := h.toQT hLn
  obtain ⟨-, qt1, qt2, qt3⟩ := id hQT
  have tr := h.toTr.1
  have e45 := trivial
  have e41 := trivial
  have e44 := trivial
  have e78 := trivial
  have e40 := trivial
  have e38 := trivial
  have e11 := trivial
  have e12 := trivial
  have e25 := trivial
  refine n_5 3 hO w_1021 (by omega) (by omega) dX12_makeNode_0 rfl (fun q_0 hq_0 hf_0 => ?_)
  obtain ⟨w1, hw1⟩ : ∃ w1, w1 = newO w q_0 5 := ⟨_, rfl⟩
  refine X_eqW hw1.symm ?_
  have o_w1 : ∀ {k : Nat} {a i : Int}, True → w 0 a 0 ≠ 0 → w1 k a i = w k a i := fun z h0 => by rw [hw1, newO_o (fun e => h0 (by rw [e]; exact hf_0))]
  have c13 : w1 0 f 0 = 13 := by rw [o_w1 (by decide) (by omega)]; exact t0
  have e45 : w1 45 f 0 = w 45 f 0 := o_w1 (by decide) (by omega)
  have e41 : w1 41 f 0 = w 41 f 0 := o_w1 (by decide) (by omega)
  have e44 : w1 44 f 0 = w 44 f 0 := o_w1 (by decide) (by omega)
  have cT : w1 0 (w 45 f 0) 0 = 11 := by rw [o_w1 (by decide) (by omega)]; exact tT
  have e78 : w1 78 (w 45 f 0) 0 = w 78 (w 45 f 0) 0 := o_w1 (by decide) (by omega)
  have e40 : w1 40 (w 45 f 0) 0 = w 40 (w 45 f 0) 0 := o_w1 (by decide) (by omega)
  have e38 : w1 38 (w 45 f 0) 0 = w 38 (w 45 f 0) 0 := o_w1 (by decide) (by omega)
  have c2 : w1 0 (w 41 f 0) 0 = 2 := by rw [o_w1 (by decide) (by omega)]; exact tD
  have e11 : w1 11 (w 41 f 0) 0 = w 11 (w 41 f 0) 0 := o_w1 (by decide) (by omega)
  have e12 : w1 12 (w 41 f 0) 0 = w 12 (w 41 f 0) 0 := o_w1 (by decide) (by omega)
  have c6 : w1 0 (w 11 (w 41 f 0) 0) 0 = 6 := by rw [o_w1 (by decide) (by omega)]; exact tS
  have c8 : w1 0 (w 12 (w 41 f 0) 0) 0 = 8 := by rw [o_w1 (by decide) (by omega)]; exact tQ
  have cx : w1 0 q_0 0 = 5 := by rw [hw1, newO_t]
  have e67 : w1 67 (w 11 (w 41 f 0) 0) 0 = w 67 (w 11 (w 41 f 0) 0) 0 := o_w1 (by decide) (by omega)
  refine X_dup 4 hO dX12_makeNode_3 rfl (by first | rfl | exact rv_cat _) ?_
  refine X_aload_n 5 hO dX12_makeNode_4 rfl rfl ?_
  refine gX12_29 8 hO dX12_makeNode_5 rfl (by first | assumption | omega | (simp (disch := first | decide | assumption | omega) only [up_k, up_s, up_a, up_i, flA_k, flA_a, flA_n, cpA_k, cpA_a, newO_o, newA_o, newO_t, newA_t, newA_n, cpQ_k, cpQ_a] <;> first | assumption | omega)) ?_
  try simp (disch := first | decide | assumption | omega) only [up_k, up_s, up_a, up_i, flA_k, flA_a, flA_n, cpA_k, cpA_a, newO_o, newA_o, newO_t, newA_t, newA_n, cpQ_k, cpQ_a, e45, e41, e44, e78, e40, e38, e11, e12, e25]
  refine gX12_362 11 hO dX12_makeNode_8 rfl (by first | assumption | omega | (simp (disch := first | decide | assumption | omega) only [up_k, up_s, up_a, up_i, flA_k, flA_a, flA_n, cpA_k, cpA_a, newO_o, newA_o, newO_t, newA_t, newA_n, cpQ_k, cpQ_a] <;> first | assumption | omega)) (fun hi_8 => ?_)
  try simp (disch := first | decide | assumption | omega) only [up_k, up_s, up_a, up_i, flA_k, flA_a, flA_n, cpA_k, cpA_a, newO_o, newA_o, newO_t, newA_t, newA_n, cpQ_k, cpQ_a, e45, e41, e44, e78, e40, e38, e11, e12, e25] at hi_8 ⊢
  refine X_aload_n 12 hO dX12_makeNode_11 rfl rfl ?_
  refine gX12_29 15 hO dX12_makeNode_12 rfl (by first | assumption | omega | (simp (disch := first | decide | assumption | omega) only [up_k, up_s, up_a, up_i, flA_k, flA_a, flA_n, cpA_k, cpA_a, newO_o, newA_o, newO_t, newA_t, newA_n, cpQ_k, cpQ_a] <;> first | assumption | omega)) ?_
  try simp (disch := first | decide | assumption | omega) only [up_k, up_s, up_a, up_i, flA_k, flA_a, flA_n, cpA_k, cpA_a, newO_o, newA_o, newO_t, newA_t, newA_n, cpQ_k, cpQ_a, e45, e41, e44, e78, e40, e38, e11, e12, e25]
  refine gX12_98 18 hO dX12_makeNode_15 rfl (by first | assumption | omega | (simp (disch := first | decide | assumption | omega) only [up_k, up_s, up_a, up_i, flA_k, flA_a, flA_n, cpA_k, cpA_a, newO_o, newA_o, newO_t, newA_t, newA_n, cpQ_k, cpQ_a] <;> first | assumption | omega)) ?_
  try simp (disch := first | decide | assumption | omega) only [up_k, up_s, up_a, up_i, flA_k, flA_a, flA_n, cpA_k, cpA_a, newO_o, newA_o, newO_t, newA_t, newA_n, cpQ_k, cpQ_a, e45, e41, e44, e78, e40, e38, e11, e12, e25]
  refine X_aload_n 19 hO dX12_makeNode_18 rfl rfl ?_
  refine gX12_10 22 hO dX12_makeNode_19 rfl (by first | assumption | omega | (simp (disch := first | decide | assumption | omega) only [up_k, up_s, up_a, up_i, flA_k, flA_a, flA_n, cpA_k, cpA_a, newO_o, newA_o, newO_t, newA_t, newA_n, cpQ_k, cpQ_a] <;> first | assumption | omega)) ?_
  try simp (disch := first | decide | assumption | omega) only [up_k, up_s, up_a, up_i, flA_k, flA_a, flA_n, cpA_k, cpA_a, newO_o, newA_o, newO_t, newA_t, newA_n, cpQ_k, cpQ_a, e45, e41, e44, e78, e40, e38, e11, e12, e25]
  refine gX12_223 25 hO dX12_makeNode_22 rfl (by first | assumption | omega | (simp (disch := first | decide | assumption | omega) only [up_k, up_s, up_a, up_i, flA_k, flA_a, flA_n, cpA_k, cpA_a, newO_o, newA_o, newO_t, newA_t, newA_n, cpQ_k, cpQ_a] <;> first | assumption | omega)) ?_
  try simp (disch := first | decide | assumption | omega) only [up_k, up_s, up_a, up_i, flA_k, flA_a, flA_n, cpA_k, cpA_a, newO_o, newA_o, newO_t, newA_t, newA_n, cpQ_k, cpQ_a, e45, e41, e44, e78, e40, e38, e11, e12, e25]
  refine gX12_227 28 hO dX12_makeNode_25 rfl (by first | assumption | omega | (simp (disch := first | decide | assumption | omega) only [up_k, up_s, up_a, up_i, flA_k, flA_a, flA_n, cpA_k, cpA_a, newO_o, newA_o, newO_t, newA_t, newA_n, cpQ_k, cpQ_a] <;> first | assumption | omega)) (fun hi_25 => ?_)
  try simp (disch := first | decide | assumption | omega) only [up_k, up_s, up_a, up_i, flA_k, flA_a, flA_n, cpA_k, cpA_a, newO_o, newA_o, newO_t, newA_t, newA_n, cpQ_k, cpQ_a, e45, e41, e44, e78, e40, e38, e11, e12, e25] at hi_25 ⊢
  rw [e67]
  have him : IR (w 67 (w 11 (w 41 f 0) 0) 0) := by omega
  have hin : IR (w 78 (w 45 f 0) 0) := by omega
  refine X_kIv 31 hO hD lX12_365 [_, _, _] rfl dX12_makeNode_28 rfl (by assumption) (kX4_init _ _ _ _ _ _ 400 hq_0 cx hin him (by omega) (by omega)) (by decide) (by simp [rv_cat, int_cat]) (by first | decide | exact Nat.zero_le _ | omega) (by first | decide | exact Nat.zero_le _ | omega) (fun w_28 hp_28 => ?_) (fun E w_ hx_ => hx_.elim)
  obtain ⟨q1, q2, a1, a2, a3, a4, k1, k2, k3, k4, ew⟩ := hp_28
  rw [v8, v7] at k3 ew
  rw [lv67] at ew
  have hN : NWN w w_28 q_0 q1 q2 a1 a2 a3 a4 (A 124 μ.1 0) (pn_ p (A 126 μ.1 0)) (A 201 0 0) := NWN.of ⟨hq_0, hf_0⟩ hw1 k1 k2 k3 k4 ew
  obtain ⟨ng, nd, no, ⟨hx0, -, hx24, hx25, -⟩, ⟨hq0, hq34, hq35, hq71, hq72⟩, ⟨hs0, -, -, -, -, hs67⟩, -, -, -, ha4, ha42⟩ := id hN
  have o_w_28 : ∀ {k : Nat} {a i : Int}, True → w 0 a 0 ≠ 0 → w_28 k a i = w k a i := fun _ h0 => by
    obtain ⟨z1, z2, z3, z4, z5, z6, z7⟩ := hN.old (Or.inl h0)
    exact no _ _ _ z1 z2 z3 z4 z5 z6 z7
  have c13 : w_28 0 f 0 = 13 := by rw [o_w_28 (by decide) (by omega)]; exact t0
  have e45 : w_28 45 f 0 = w 45 f 0 := o_w_28 (by decide) (by omega)
  have e41 : w_28 41 f 0 = w 41 f 0 := o_w_28 (by decide) (by omega)
  have e44 : w_28 44 f 0 = w 44 f 0 := o_w_28 (by decide) (by omega)
  have cT : w_28 0 (w 45 f 0) 0 = 11 := by rw [o_w_28 (by decide) (by omega)]; exact tT
  have e78 : w_28 78 (w 45 f 0) 0 = w 78 (w 45 f 0) 0 := o_w_28 (by decide) (by omega)
  have e40 : w_28 40 (w 45 f 0) 0 = w 40 (w 45 f 0) 0 := o_w_28 (by decide) (by omega)
  have e38 : w_28 38 (w 45 f 0) 0 = w 38 (w 45 f 0) 0 := o_w_28 (by decide) (by omega)
  have c2 : w_28 0 (w 41 f 0) 0 = 2 := by rw [o_w_28 (by decide) (by omega)]; exact tD
  have e11 : w_28 11 (w 41 f 0) 0 = w 11 (w 41 f 0) 0 := o_w_28 (by decide) (by omega)
  have e12 : w_28 12 (w 41 f 0) 0 = w 12 (w 41 f 0) 0 := o_w_28 (by decide) (by omega)
  have c6 : w_28 0 (w 11 (w 41 f 0) 0) 0 = 6 := by rw [o_w_28 (by decide) (by omega)]; exact tS
  have c8 : w_28 0 (w 12 (w 41 f 0) 0) 0 = 8 := by rw [o_w_28 (by decide) (by omega)]; exact tQ
  have hqt : q1 ≠ w 12 (w 41 f 0) 0 := fun e => by have := ng.2.1.2; rw [e] at this; omega
  refine X_astore_n 32 hO dX12_makeNode_31 rfl rfl ?_
  refine X_aload_n 33 hO dX12_makeNode_32 rfl rfl ?_
  refine X_iload_n 34 hO dX12_makeNode_33 rfl rfl ?_
  refine pX12_368 37 hO dX12_makeNode_34 rfl (by first | assumption | omega | (simp (disch := first | decide | assumption | omega) only [up_k, up_s, up_a, up_i, flA_k, flA_a, flA_n, cpA_k, cpA_a, newO_o, newA_o, newO_t, newA_t, newA_n, cpQ_k, cpQ_a] <;> first | assumption | omega)) (by omega) ?_
  obtain ⟨w3, hw3⟩ : ∃ w3, w3 = up w_28 66 q_0 0 g := ⟨_, rfl⟩
  refine X_eqW hw3.symm ?_
  have o_w3 : ∀ {k : Nat} {a i : Int}, (k ≠ 66) → w 0 a 0 ≠ 0 → w3 k a i = w k a i := fun z h0 => by rw [hw3, up_k _ z]; exact o_w_28 (by decide) h0
  have g3 : ∀ {k : Nat} {a i : Int}, k ≠ 66 → w3 k a i = w_28 k a i := fun z => by rw [hw3, up_k _ z]
  have c13 : w3 0 f 0 = 13 := by rw [o_w3 (by decide) (by omega)]; exact t0
  have e45 : w3 45 f 0 = w 45 f 0 := o_w3 (by decide) (by omega)
  have e41 : w3 41 f 0 = w 41 f 0 := o_w3 (by decide) (by omega)
  have e44 : w3 44 f 0 = w 44 f 0 := o_w3 (by decide) (by omega)
  have cT : w3 0 (w 45 f 0) 0 = 11 := by rw [o_w3 (by decide) (by omega)]; exact tT
  have e78 : w3 78 (w 45 f 0) 0 = w 78 (w 45 f 0) 0 := o_w3 (by decide) (by omega)
  have e40 : w3 40 (w 45 f 0) 0 = w 40 (w 45 f 0) 0 := o_w3 (by decide) (by omega)
  have e38 : w3 38 (w 45 f 0) 0 = w 38 (w 45 f 0) 0 := o_w3 (by decide) (by omega)
  have c2 : w3 0 (w 41 f 0) 0 = 2 := by rw [o_w3 (by decide) (by omega)]; exact tD
  have e11 : w3 11 (w 41 f 0) 0 = w 11 (w 41 f 0) 0 := o_w3 (by decide) (by omega)
  have e12 : w3 12 (w 41 f 0) 0 = w 12 (w 41 f 0) 0 := o_w3 (by decide) (by omega)
  have c6 : w3 0 (w 11 (w 41 f 0) 0) 0 = 6 := by rw [o_w3 (by decide) (by omega)]; exact tS
  have c8 : w3 0 (w 12 (w 41 f 0) 0) 0 = 8 := by rw [o_w3 (by decide) (by omega)]; exact tQ
  have cx : w3 0 q_0 0 = 5 := by rw [g3 (by decide)]; exact hx0
  have e25 : w3 25 q_0 0 = q1 := by rw [g3 (by decide)]; exact hx25
  have cq : w3 0 q1 0 = 8 := by rw [g3 (by decide)]; exact hq0
  refine X_aload_n 38 hO dX12_makeNode_37 rfl rfl ?_
  refine gX12_102 41 hO dX12_makeNode_38 rfl (by first | assumption | omega | (simp (disch := first | decide | assumption | omega) only [up_k, up_s, up_a, up_i, flA_k, flA_a, flA_n, cpA_k, cpA_a, newO_o, newA_o, newO_t, newA_t, newA_n, cpQ_k, cpQ_a] <;> first | assumption | omega)) ?_
  try simp (disch := first | decide | assumption | omega) only [up_k, up_s, up_a, up_i, flA_k, flA_a, flA_n, cpA_k, cpA_a, newO_o, newA_o, newO_t, newA_t, newA_n, cpQ_k, cpQ_a, e45, e41, e44, e78, e40, e38, e11, e12, e25]
  refine X_aload_n 42 hO dX12_makeNode_41 rfl rfl ?_
  refine gX12_10 45 hO dX12_makeNode_42 rfl (by first | assumption | omega | (simp (disch := first | decide | assumption | omega) only [up_k, up_s, up_a, up_i, flA_k, flA_a, flA_n, cpA_k, cpA_a, newO_o, newA_o, newO_t, newA_t, newA_n, cpQ_k, cpQ_a] <;> first | assumption | omega)) ?_
  try simp (disch := first | decide | assumption | omega) only [up_k, up_s, up_a, up_i, flA_k, flA_a, flA_n, cpA_k, cpA_a, newO_o, newA_o, newO_t, newA_t, newA_n, cpQ_k, cpQ_a, e45, e41, e44, e78, e40, e38, e11, e12, e25]
  refine gX12_361 48 hO dX12_makeNode_45 rfl (by first | assumption | omega | (simp (disch := first | decide | assumption | omega) only [up_k, up_s, up_a, up_i, flA_k, flA_a, flA_n, cpA_k, cpA_a, newO_o, newA_o, newO_t, newA_t, newA_n, cpQ_k, cpQ_a] <;> first | assumption | omega)) ?_
  try simp (disch := first | decide | assumption | omega) only [up_k, up_s, up_a, up_i, flA_k, flA_a, flA_n, cpA_k, cpA_a, newO_o, newA_o, newO_t, newA_t, newA_n, cpQ_k, cpQ_a, e45, e41, e44, e78, e40, e38, e11, e12, e25]
  refine X_kVv (t := 8) 51 hO hD lX12_371 rfl (by decide) [_] rfl dX12_makeNode_48 rfl (by first | assumption | omega | (simp (disch := first | decide | assumption | omega) only [up_k, up_s, up_a, up_i, flA_k, flA_a, flA_n, cpA_k, cpA_a, newO_o, newA_o, newO_t, newA_t, newA_n, cpQ_k, cpQ_a] <;> first | assumption | omega)) (kX7_join _ _ _ _ cq c8 hqt (Or.inl (by rw [g3 (by decide)]; exact hq35)) (by rw [g3 (by decide), hq71]; decide) (by rw [g3 (by decide), hq72]; decide) (by rw [o_w3 (by decide) (by omega)]; exact qt2) (by rw [o_w3 (by decide) (by omega)]; exact qt3)) (by decide) (by simp [rv_cat, int_cat]) (by first | decide | exact Nat.zero_le _ | omega) (by first | decide | exact Nat.zero_le _ | omega) (fun w_48 hp_48 => ?_) (fun E w_ hx_ => hx_.elim)
  have o_w_48 : ∀ {k : Nat} {a i : Int}, (k ≠ 33 ∧ k ≠ 34 ∧ k ≠ 35 ∧ k ≠ 66 ∧ k ≠ 71 ∧ k ≠ 72) → w 0 a 0 ≠ 0 → w_48 k a i = w k a i := fun z h0 => by rw [hp_48, q_join_k z.1 z.2.1 z.2.2.1 z.2.2.2.2.1 z.2.2.2.2.2]; exact o_w3 z.2.2.2.1 h0
  have c13 : w_48 0 f 0 = 13 := by rw [o_w_48 (by decide) (by omega)]; exact t0
  have e45 : w_48 45 f 0 = w 45 f 0 := o_w_48 (by decide) (by omega)
  have e41 : w_48 41 f 0 = w 41 f 0 := o_w_48 (by decide) (by omega)
  have e44 : w_48 44 f 0 = w 44 f 0 := o_w_48 (by decide) (by omega)
  have cT : w_48 0 (w 45 f 0) 0 = 11 := by rw [o_w_48 (by decide) (by omega)]; exact tT
  have e78 : w_48 78 (w 45 f 0) 0 = w 78 (w 45 f 0) 0 := o_w_48 (by decide) (by omega)
  have e40 : w_48 40 (w 45 f 0) 0 = w 40 (w 45 f 0) 0 := o_w_48 (by decide) (by omega)
  have e38 : w_48 38 (w 45 f 0) 0 = w 38 (w 45 f 0) 0 := o_w_48 (by decide) (by omega)
  have c2 : w_48 0 (w 41 f 0) 0 = 2 := by rw [o_w_48 (by decide) (by omega)]; exact tD
  have e11 : w_48 11 (w 41 f 0) 0 = w 11 (w 41 f 0) 0 := o_w_48 (by decide) (by omega)
  have e12 : w_48 12 (w 41 f 0) 0 = w 12 (w 41 f 0) 0 := o_w_48 (by decide) (by omega)
  have c6 : w_48 0 (w 11 (w 41 f 0) 0) 0 = 6 := by rw [o_w_48 (by decide) (by omega)]; exact tS
  have c8 : w_48 0 (w 12 (w 41 f 0) 0) 0 = 8 := by rw [o_w_48 (by decide) (by omega)]; exact tQ
  refine X_aload_n 52 hO dX12_makeNode_51 rfl rfl ?_
  refine gX12_10 55 hO dX12_makeNode_52 rfl (by first | assumption | omega | (simp (disch := first | decide | assumption | omega) only [up_k, up_s, up_a, up_i, flA_k, flA_a, flA_n, cpA_k, cpA_a, newO_o, newA_o, newO_t, newA_t, newA_n, cpQ_k, cpQ_a] <;> first | assumption | omega)) ?_
  try simp (disch := first | decide | assumption | omega) only [up_k, up_s, up_a, up_i, flA_k, flA_a, flA_n, cpA_k, cpA_a, newO_o, newA_o, newO_t, newA_t, newA_n, cpQ_k, cpQ_a, e45, e41, e44, e78, e40, e38, e11, e12, e25]
  refine gX12_361 58 hO dX12_makeNode_55 rfl (by first | assumption | omega | (simp (disch := first | decide | assumption | omega) only [up_k, up_s, up_a, up_i, flA_k, flA_a, flA_n, cpA_k, cpA_a, newO_o, newA_o, newO_t, newA_t, newA_n, cpQ_k, cpQ_a] <;> first | assumption | omega)) ?_
  try simp (disch := first | decide | assumption | omega) only [up_k, up_s, up_a, up_i, flA_k, flA_a, flA_n, cpA_k, cpA_a, newO_o, newA_o, newO_t, newA_t, newA_n, cpQ_k, cpQ_a, e45, e41, e44, e78, e40, e38, e11, e12, e25]
  refine X_kVv (t := 8) 61 hO hD lX12_375 rfl (by decide) [] rfl dX12_makeNode_58 rfl (by first | assumption | omega | (simp (disch := first | decide | assumption | omega) only [up_k, up_s, up_a, up_i, flA_k, flA_a, flA_n, cpA_k, cpA_a, newO_o, newA_o, newO_t, newA_t, newA_n, cpQ_k, cpQ_a] <;> first | assumption | omega)) (kX7_empty _ _ _ c8) (by decide) (by simp [rv_cat, int_cat]) (by first | decide | exact Nat.zero_le _ | omega) (by first | decide | exact Nat.zero_le _ | omega) (fun w_58 hp_58 => ?_) (fun E w_ hx_ => hx_.elim)
  have g58 : ∀ {k : Nat} {a i : Int}, (k ≠ 33 ∧ k ≠ 34 ∧ k ≠ 35 ∧ k ≠ 66 ∧ k ≠ 71 ∧ k ≠ 72) → w_58 k a i = w_28 k a i := fun z => by
    rw [hp_58]; unfold q_emp
    rw [up_k _ z.2.2.2.2.2, up_k _ z.2.2.2.2.1, up_k _ z.2.2.1, up_k _ z.2.1, hp_48, q_join_k z.1 z.2.1 z.2.2.1 z.2.2.2.2.1 z.2.2.2.2.2, g3 z.2.2.2.1]
  have o_w_58 : ∀ {k : Nat} {a i : Int}, (k ≠ 33 ∧ k ≠ 34 ∧ k ≠ 35 ∧ k ≠ 66 ∧ k ≠ 71 ∧ k ≠ 72) → w 0 a 0 ≠ 0 → w_58 k a i = w k a i := fun z h0 => by rw [g58 z]; exact o_w_28 (by decide) h0
  have c13 : w_58 0 f 0 = 13 := by rw [o_w_58 (by decide) (by omega)]; exact t0
  have e45 : w_58 45 f 0 = w 45 f 0 := o_w_58 (by decide) (by omega)
  have e41 : w_58 41 f 0 = w 41 f 0 := o_w_58 (by decide) (by omega)
  have e44 : w_58 44 f 0 = w 44 f 0 := o_w_58 (by decide) (by omega)
  have cT : w_58 0 (w 45 f 0) 0 = 11 := by rw [o_w_58 (by decide) (by omega)]; exact tT
  have e78 : w_58 78 (w 45 f 0) 0 = w 78 (w 45 f 0) 0 := o_w_58 (by decide) (by omega)
  have e40 : w_58 40 (w 45 f 0) 0 = w 40 (w 45 f 0) 0 := o_w_58 (by decide) (by omega)
  have e38 : w_58 38 (w 45 f 0) 0 = w 38 (w 45 f 0) 0 := o_w_58 (by decide) (by omega)
  have c2 : w_58 0 (w 41 f 0) 0 = 2 := by rw [o_w_58 (by decide) (by omega)]; exact tD
  have e11 : w_58 11 (w 41 f 0) 0 = w 11 (w 41 f 0) 0 := o_w_58 (by decide) (by omega)
  have e12 : w_58 12 (w 41 f 0) 0 = w 12 (w 41 f 0) 0 := o_w_58 (by decide) (by omega)
  have c6 : w_58 0 (w 11 (w 41 f 0) 0) 0 = 6 := by rw [o_w_58 (by decide) (by omega)]; exact tS
  have c8 : w_58 0 (w 12 (w 41 f 0) 0) 0 = 8 := by rw [o_w_58 (by decide) (by omega)]; exact tQ
  have cx : w_58 0 q_0 0 = 5 := by rw [g58 (by decide)]; exact hx0
  have e24 : w_58 24 q_0 0 = q2 := by rw [g58 (by decide)]; exact hx24
  obtain ⟨st5, s28, s29, s30, s31⟩ := hN.st (W := w_58) (fun k i z a => g58 (by omega))
  have lv5 := live_cg h.lvs (W := w_58) (fun k a i h0 z => o_w_58 (by omega) h0)
  have hsl := h.1.2.2.1.1.1.2.1
  have nold := fun {a : Int} (h0 : w 0 a 0 ≠ 0) => hN.old (Or.inl h0)
  have sd5 : SD w_58 q2 (w 11 (w 41 f 0) 0) := by
    obtain ⟨⟨s1, s2⟩, ⟨b1, b2⟩, ⟨c1, c2, c3⟩, ⟨d1, d2, d3⟩, e1, e2, e3⟩ := id hsl
    unfold SD
    rw [s28, s29, s30, s31, o_w_58 (by decide) (by omega), o_w_58 (by decide) (by omega), o_w_58 (by decide) (by omega), o_w_58 (by decide) (by omega)]
    exact ⟨(nold (by omega)).2.2.1.symm, (nold (by omega)).2.2.2.2.2.2.symm, (nold (by omega)).2.2.2.2.2.2.symm, (nold (by omega)).2.2.2.1.symm, (nold (by omega)).2.2.2.1.symm, (nold (by omega)).2.2.2.2.1.symm, (nold (by omega)).2.2.2.2.2.1.symm⟩
  have cap5 : w_58 2 (w_58 28 q2 0) 0 = A 201 0 0 := by rw [s28, g58 (by decide), ha42]; split <;> omega
  have l67 : w_58 67 (w 11 (w 41 f 0) 0) 0 = A 201 0 0 := by rw [o_w_58 (by decide) (by omega)]; exact lv67
  refine X_aload_n 62 hO dX12_makeNode_61 rfl rfl ?_
  refine X_aload_n 63 hO dX12_makeNode_62 rfl rfl ?_
  refine X_kVv (t := 13) 66 hO hD lX12_378 rfl (by decide) [_] rfl dX12_makeNode_63 rfl (by first | assumption | omega | (simp (disch := first | decide | assumption | omega) only [up_k, up_s, up_a, up_i, flA_k, flA_a, flA_n, cpA_k, cpA_a, newO_o, newA_o, newO_t, newA_t, newA_n, cpQ_k, cpQ_a] <;> first | assumption | omega)) (kX12_keepState _ _ _ _ 400 c13 cx (by rw [e41]; exact c2) (by rw [e24]; exact st5) (by rw [e24, e41, e11]; exact sd5) (by rw [e24, cap5]; omega) (by rw [e41, e11]; exact lv5) (by rw [e41, e11, l67]; omega) (by rw [e44, o_w_58 (by decide) (by omega), o_w_58 (by decide) (by omega)]; exact tr) (by rw [e24, e44, s30]; exact (nold (by omega)).2.2.2.2.1)) (by decide) (by simp [rv_cat, int_cat]) (by first | decide | exact Nat.zero_le _ | omega) (by first | decide | exact Nat.zero_le _ | omega) (fun w_63 hp_63 => ?_) (fun E w_ hx_ => hx_.elim)
  obtain ⟨W6, hW6, e63⟩ := hp_63
  rw [e24, e41, e11] at hW6
  rw [e24, e41, e11, e44] at e63
  have eW6 := TM_tm hW6 (by rw [l67, cap5]; exact Int.le_refl _)
  rw [eW6] at e63
  have l61 : w_58 61 (w 41 f 0) 0 = A 207 0 0 := by rw [o_w_58 (by decide) (by omega)]; exact lv61
  rw [l61] at e63
  have g63 : ∀ {k : Nat} {a i : Int}, (k ≠ 1 ∧ k ≠ 3 ∧ k ≠ 65 ∧ k ≠ 67) → w_63 k a i = w_58 k a i := fun z => by rw [e63, up_k _ z.2.2.1, t_tk_k z.2.1]; exact t_tmj_k z.1 z.2.2.2
  have o_w_63 : ∀ {k : Nat} {a i : Int}, (k ≠ 1 ∧ k ≠ 3 ∧ k ≠ 33 ∧ k ≠ 34 ∧ k ≠ 35 ∧ k ≠ 65 ∧ k ≠ 66 ∧ k ≠ 67 ∧ k ≠ 71 ∧ k ≠ 72) → w 0 a 0 ≠ 0 → w_63 k a i = w k a i := fun z h0 => by rw [g63 ⟨z.1, z.2.1, z.2.2.2.2.2.1, z.2.2.2.2.2.2.2.1⟩]; exact o_w_58 ⟨z.2.2.1, z.2.2.2.1, z.2.2.2.2.1, z.2.2.2.2.2.2.1, z.2.2.2.2.2.2.2.2.1, z.2.2.2.2.2.2.2.2.2⟩ h0
  have c13 : w_63 0 f 0 = 13 := by rw [o_w_63 (by decide) (by omega)]; exact t0
  have e45 : w_63 45 f 0 = w 45 f 0 := o_w_63 (by decide) (by omega)
  have e41 : w_63 41 f 0 = w 41 f 0 := o_w_63 (by decide) (by omega)
  have e44 : w_63 44 f 0 = w 44 f 0 := o_w_63 (by decide) (by omega)
  have cT : w_63 0 (w 45 f 0) 0 = 11 := by rw [o_w_63 (by decide) (by omega)]; exact tT
  have e78 : w_63 78 (w 45 f 0) 0 = w 78 (w 45 f 0) 0 := o_w_63 (by decide) (by omega)
  have e40 : w_63 40 (w 45 f 0) 0 = w 40 (w 45 f 0) 0 := o_w_63 (by decide) (by omega)
  have e38 : w_63 38 (w 45 f 0) 0 = w 38 (w 45 f 0) 0 := o_w_63 (by decide) (by omega)
  have c2 : w_63 0 (w 41 f 0) 0 = 2 := by rw [o_w_63 (by decide) (by omega)]; exact tD
  have e11 : w_63 11 (w 41 f 0) 0 = w 11 (w 41 f 0) 0 := o_w_63 (by decide) (by omega)
  have e12 : w_63 12 (w 41 f 0) 0 = w 12 (w 41 f 0) 0 := o_w_63 (by decide) (by omega)
  have c6 : w_63 0 (w 11 (w 41 f 0) 0) 0 = 6 := by rw [o_w_63 (by decide) (by omega)]; exact tS
  have c8 : w_63 0 (w 12 (w 41 f 0) 0) 0 = 8 := by rw [o_w_63 (by decide) (by omega)]; exact tQ
  have cx : w_63 0 q_0 0 = 5 := by rw [g63 (by decide)]; assumption
  have hTR := h.toTR hWI hT hE hTX.1.2
  have l6 : LSn w_63 (w 38 (w 45 f 0) 0) := by
    obtain ⟨-, ⟨m0, m1, m2, m3, m4⟩, m5, -⟩ := hTR
    unfold LSn LSt EL5
    have x51 : w_63 51 (w 38 (w 45 f 0) 0) 0 = w 51 (w 38 (w 45 f 0) 0) 0 := o_w_63 (by decide) (by omega)
    have x93 : w_63 93 (w 38 (w 45 f 0) 0) 0 = w 93 (w 38 (w 45 f 0) 0) 0 := o_w_63 (by decide) (by omega)
    have x2 : w_63 2 (w 51 (w 38 (w 45 f 0) 0) 0) 0 = w 2 (w 51 (w 38 (w 45 f 0) 0) 0) 0 := o_w_63 (by decide) (by omega)
    have x0 : w_63 0 (w 38 (w 45 f 0) 0) 0 = w 0 (w 38 (w 45 f 0) 0) 0 := o_w_63 (by decide) (by omega)
    have x0b : w_63 0 (w 51 (w 38 (w 45 f 0) 0) 0) 0 = w 0 (w 51 (w 38 (w 45 f 0) 0) 0) 0 := o_w_63 (by decide) (by omega)
    rw [x51, x93, x2, x0, x0b]
    refine ⟨⟨m0, m1, m2, m3, m4⟩, by omega, fun i i0 i1 => Or.inr ?_⟩
    have hm := (m5 i i0 i1).1
    have hq2 : w_63 3 (w 51 (w 38 (w 45 f 0) 0) 0) i = w_58 3 (w 51 (w 38 (w 45 f 0) 0) 0) i := by
      rw [e63, up_k _ (by decide), t_tk_a (by rw [tm_31, s31]; exact (nold (by omega)).2.2.2.2.2.1)]; exact t_tmj_k (by decide) (by decide)
    rw [hq2, o_w_58 (by decide) (by omega), o_w_63 (by decide) (by omega)]; exact hm
  have i64 : w_63 64 (w 40 (w 45 f 0) 0) 0 = w 64 (pn_ p (A 126 μ.1 0)) 0 := by rw [v7]; exact o_w_63 (by decide) (by omega)
  have i92 : w_63 92 (w 38 (w 45 f 0) 0) 0 = w 92 (w 38 (w 45 f 0) 0) 0 := o_w_63 (by decide) (by omega)
  have i93 : w_63 93 (w 38 (w 45 f 0) 0) 0 = A 125 μ.1 0 := by rw [o_w_63 (by decide) (by omega)]; exact v1
  have iC : 0 ≤ m_chl μ (A 126 μ.1 0) A ∧ m_chl μ (A 126 μ.1 0) A ≤ A 124 μ.1 0 := by
    have := sumN_bi (fun k => 1 ≤ k ∧ A 216 0 k = 1 ∧ A 217 0 k = A 126 μ.1 0) (A 124 μ.1 0).toNat
    have e : m_chl μ (A 126 μ.1 0) A = sumN (fun k => bi (1 ≤ k ∧ A 216 0 k = 1 ∧ A 217 0 k = A 126 μ.1 0)) (A 124 μ.1 0).toNat := rfl
    rw [← e] at this
    omega
  have i64b := (h.nd hcur).2.2.2.1.2.1
  refine X_aload_n 67 hO dX12_makeNode_66 rfl rfl ?_
  refine gX12_29 70 hO dX12_makeNode_67 rfl (by first | assumption | omega | (simp (disch := first | decide | assumption | omega) only [up_k, up_s, up_a, up_i, flA_k, flA_a, flA_n, cpA_k, cpA_a, newO_o, newA_o, newO_t, newA_t, newA_n, cpQ_k, cpQ_a] <;> first | assumption | omega)) ?_
  try simp (disch := first | decide | assumption | omega) only [up_k, up_s, up_a, up_i, flA_k, flA_a, flA_n, cpA_k, cpA_a, newO_o, newA_o, newO_t, newA_t, newA_n, cpQ_k, cpQ_a, e45, e41, e44, e78, e40, e38, e11, e12, e25]
  refine X_aload_n 71 hO dX12_makeNode_70 rfl rfl ?_
  refine X_kVv (t := 11) 74 hO hD lX12_382 rfl (by decide) [_] rfl dX12_makeNode_71 rfl (by first | assumption | omega | (simp (disch := first | decide | assumption | omega) only [up_k, up_s, up_a, up_i, flA_k, flA_a, flA_n, cpA_k, cpA_a, newO_o, newA_o, newO_t, newA_t, newA_n, cpQ_k, cpQ_a] <;> first | assumption | omega)) (kX10_grow _ _ _ _ 901 cT (by rw [e40, v7, o_w_63 (by decide) (by omega)]; exact tX) (by rw [e38]; exact l6) cx (by rw [e40, i64, i64b]; omega) (by rw [e78, v8]; omega) (by rw [e38, i92, v2]; omega) (by rw [e38, i93]; intro _; omega) (by decide)) (by decide) (by simp [rv_cat, int_cat]) (by first | decide | exact Nat.zero_le _ | omega) (by first | decide | exact Nat.zero_le _ | omega) (fun w_71 hp_71 => ?_) (fun E w_ hx_ => hx_.elim)
  obtain ⟨W9, hW9, e71⟩ := hp_71
  rw [e38, e40, i64, i92, v7] at hW9
  rw [e78, v8] at e71
  obtain ⟨⟨C1, al1, r1⟩, r2, g45⟩ := h.mk (w5 := w_58) hK hSB hbt hg hWI h207 hN (by rw [hp_58, hp_48, hw3]) rfl rfl (by rw [← e63]; exact hW9) e71
  obtain ⟨x1, x2⟩ := TX.mk1 (g := g) hK hTb
  have hMG : MGB (pK p C1 al1 (A 124 μ.1 0) q_0 (m_playL (LVl μ A) (SWp (pr_ p (A 126 μ.1 0)) A))) μ f [] (M + 1) w_71 (m_mk1 μ g A) := ⟨r1, x1, hTb, ⟨hS1.cong (fun c a i y z => mk1_n (by omega)), x2.b0.2.2.2, x2.b0.2.2.1⟩, x2.b0.1⟩
  have cT2 : w_71 0 (w 45 f 0) 0 = 11 := by
    have := r1.1.2.2.2.1.1.1.1.1
    rw [g45] at this; exact this
  have cT3 : w_71 0 (w_71 45 f 0) 0 = 11 := r1.1.2.2.2.1.1.1.1.1
  have c13 : w_71 0 f 0 = 13 := r1.toF.1
  have e45 : w_71 45 f 0 = w 45 f 0 := g45
  refine X_aload_n 75 hO dX12_makeNode_74 rfl rfl ?_
  refine gX12_29 78 hO dX12_makeNode_75 rfl (by first | assumption | omega | (simp (disch := first | decide | assumption | omega) only [up_k, up_s, up_a, up_i, flA_k, flA_a, flA_n, cpA_k, cpA_a, newO_o, newA_o, newO_t, newA_t, newA_n, cpQ_k, cpQ_a] <;> first | assumption | omega)) ?_
  try simp (disch := first | decide | assumption | omega) only [up_k, up_s, up_a, up_i, flA_k, flA_a, flA_n, cpA_k, cpA_a, newO_o, newA_o, newO_t, newA_t, newA_n, cpQ_k, cpQ_a, e45, e41, e44, e78, e40, e38, e11, e12, e25]
  rw [← g45]
  refine X_kVi (t := 11) 81 hO hD lX12_251 rfl (by decide) [] rfl dX12_makeNode_78 rfl (by first | assumption | omega | (simp (disch := first | decide | assumption | omega) only [up_k, up_s, up_a, up_i, flA_k, flA_a, flA_n, cpA_k, cpA_a, newO_o, newA_o, newO_t, newA_t, newA_n, cpQ_k, cpQ_a] <;> first | assumption | omega)) (kX10_mergeToBudget _ _ _ _ _ _ _ (M + 1) hMG (by omega)) (by decide) (by simp [rv_cat, int_cat]) (by first | decide | exact Nat.zero_le _ | omega) (by first | decide | exact Nat.zero_le _ | omega) (fun r_78 w_78 hr_78 hp_78 => ?_) (fun E w_ hx_ => hx_.elim)
  obtain ⟨-, ⟨C2, al2, PL2, hI⟩, hU, -⟩ := hp_78
  refine X_pop 82 hO dX12_makeNode_81 rfl (by first | rfl | exact rv_cat _) ?_
  exact X_vret hO hF rfl dX12_makeNode_82 ⟨rfl, (by
  have em : ∀ {c : Nat} {a i : Int}, c ≠ 125 ∧ (c < 216 ∨ 225 < c) → m_mks μ g A c a i = m_mk1 μ g A c a i := fun z => mrg_o z _ _ _
  refine ⟨_, hI, ?_, r2.trans hU⟩
  rw [em (by decide), mk1_m.1]
  show LIV μ (pg_ p) (RHk (pr_ p) (A 124 μ.1 0) _ (A 124 μ.1 0)) _
  rw [RHk_s]
  exact x2.cg (x2.b0.2.2.2.cong fun i => em (by decide)) (fun c a i z => em (by omega)))⟩
