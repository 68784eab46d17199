/-! typing goes on in the class: the walk -/
theorem ex_v {c S P M : Int} {μ : MU} {A1 : Mm} (hn : 1 ≤ A1 120 μ.1 0) (hl2 : A1 122 μ.1 0 = A1 120 μ.1 0) (hz : m_insC μ c A1 123 μ.1 0 ≤ m_insC μ c A1 121 μ.1 0) (hB : LB μ S P (m_insC μ c A1)) (hK : RK μ S P M (m_insC μ c A1)) : (m_ntf μ (m_insC μ c A1)).2 212 0 (A1 120 μ.1 0 - 1) = A1 212 0 (A1 120 μ.1 0 - 1) ∧ (m_ntf μ (m_insC μ c A1)).2 214 0 2 = A1 214 0 2 := by
  obtain ⟨i1, i2⟩ := insC_120 (μ := μ) (c := c) (w := A1)
  obtain ⟨-, -, ha3, -⟩ := (ntf_ts hB hK (by rw [i1, insC_at (by decide)]; omega) hz).2
  rw [i1] at ha3
  refine ⟨?_, ?_⟩
  · rw [ha3 _ (by omega) (by omega)]
    unfold m_insC m_pt
    rw [up_k _ (by decide), up_k _ (by decide), ins_212, if_neg (by rw [up_k _ (by decide)]; omega), up_k _ (by decide)]
  · rw [(ntf_rk hB hK).1.2 _ _ _ (by decide) (by decide) (by decide) (by decide) (by decide) (by decide), insC_at (by decide)]
theorem dX12_extendChange_0 : decode cX12_extendChange 0 = .ok (.aload_n 0, 1) := by decide +kernel
theorem dX12_extendChange_1 : decode cX12_extendChange 1 = .ok (.invokevirtual 195, 3) := by decide +kernel
theorem dX12_extendChange_4 : decode cX12_extendChange 4 = .ok (.aload_n 0, 1) := by decide +kernel
theorem dX12_extendChange_5 : decode cX12_extendChange 5 = .ok (.getfield 29, 3) := by decide +kernel
theorem dX12_extendChange_8 : decode cX12_extendChange 8 = .ok (.getfield 98, 3) := by decide +kernel
theorem dX12_extendChange_11 : decode cX12_extendChange 11 = .ok (.getfield 102, 3) := by decide +kernel
theorem dX12_extendChange_14 : decode cX12_extendChange 14 = .ok (.astore_n 1, 1) := by decide +kernel
theorem dX12_extendChange_15 : decode cX12_extendChange 15 = .ok (.aload_n 1, 1) := by decide +kernel
theorem dX12_extendChange_16 : decode cX12_extendChange 16 = .ok (.getfield 393, 3) := by decide +kernel
theorem dX12_extendChange_19 : decode cX12_extendChange 19 = .ok (.ifnull 16, 3) := by decide +kernel
theorem dX12_extendChange_22 : decode cX12_extendChange 22 = .ok (.aload_n 1, 1) := by decide +kernel
theorem dX12_extendChange_23 : decode cX12_extendChange 23 = .ok (.getfield 393, 3) := by decide +kernel
theorem dX12_extendChange_26 : decode cX12_extendChange 26 = .ok (.dup, 1) := by decide +kernel
theorem dX12_extendChange_27 : decode cX12_extendChange 27 = .ok (.getfield 397, 3) := by decide +kernel
theorem dX12_extendChange_30 : decode cX12_extendChange 30 = .ok (.iconst 1, 1) := by decide +kernel
theorem dX12_extendChange_31 : decode cX12_extendChange 31 = .ok (.iadd, 1) := by decide +kernel
theorem dX12_extendChange_32 : decode cX12_extendChange 32 = .ok (.putfield 397, 3) := by decide +kernel
theorem dX12_extendChange_35 : decode cX12_extendChange 35 = .ok (.aload_n 0, 1) := by decide +kernel
theorem dX12_extendChange_36 : decode cX12_extendChange 36 = .ok (.getfield 10, 3) := by decide +kernel
theorem dX12_extendChange_39 : decode cX12_extendChange 39 = .ok (.getfield 361, 3) := by decide +kernel
theorem dX12_extendChange_42 : decode cX12_extendChange 42 = .ok (.invokevirtual 400, 3) := by decide +kernel
theorem dX12_extendChange_45 : decode cX12_extendChange 45 = .ok (.aload_n 1, 1) := by decide +kernel
theorem dX12_extendChange_46 : decode cX12_extendChange 46 = .ok (.aload_n 0, 1) := by decide +kernel
theorem dX12_extendChange_47 : decode cX12_extendChange 47 = .ok (.getfield 10, 3) := by decide +kernel
theorem dX12_extendChange_50 : decode cX12_extendChange 50 = .ok (.getfield 361, 3) := by decide +kernel
theorem dX12_extendChange_53 : decode cX12_extendChange 53 = .ok (.invokevirtual 371, 3) := by decide +kernel
theorem dX12_extendChange_56 : decode cX12_extendChange 56 = .ok (.aload_n 0, 1) := by decide +kernel
theorem dX12_extendChange_57 : decode cX12_extendChange 57 = .ok (.getfield 10, 3) := by decide +kernel
theorem dX12_extendChange_60 : decode cX12_extendChange 60 = .ok (.getfield 361, 3) := by decide +kernel
theorem dX12_extendChange_63 : decode cX12_extendChange 63 = .ok (.invokevirtual 375, 3) := by decide +kernel
theorem dX12_extendChange_66 : decode cX12_extendChange 66 = .ok (.aload_n 0, 1) := by decide +kernel
theorem dX12_extendChange_67 : decode cX12_extendChange 67 = .ok (.aload_n 0, 1) := by decide +kernel
theorem dX12_extendChange_68 : decode cX12_extendChange 68 = .ok (.getfield 29, 3) := by decide +kernel
theorem dX12_extendChange_71 : decode cX12_extendChange 71 = .ok (.getfield 98, 3) := by decide +kernel
theorem dX12_extendChange_74 : decode cX12_extendChange 74 = .ok (.invokevirtual 378, 3) := by decide +kernel
theorem dX12_extendChange_77 : decode cX12_extendChange 77 = .ok (.return_, 1) := by decide +kernel
set_option maxRecDepth 4000 in
theorem kX12_extendChange (γ : LC) (w : Mm) (f c : Int) (p : RP) (μ : MU) (A1 : Mm) (S P M p0 v0 : Int) (h : CHK p μ f w (m_insC μ c A1)) (hB : LB μ S P (m_insC μ c A1)) (hK : RK μ S P M (m_insC μ c A1)) (hS : S ≤ 29000) (hP : P ≤ 520000) (hM : M ≤ 598) (hz : (m_insC μ c A1) 123 μ.1 0 ≤ (m_insC μ c A1) 121 μ.1 0) (hb28 : ∀ j, 0 ≤ j → j < 3 → (m_insC μ c A1) 228 0 j = 0 ∨ (m_insC μ c A1) 228 0 j = 1) (hT : TYb μ A1 p0 v0) (h207 : A1 207 0 0 ≤ 399) (hb1 : bPo A1) (h214 : A1 214 0 2 = A1 120 μ.1 0) (hn1 : 1 ≤ A1 120 μ.1 0) (hEx : (m_ntf μ (m_ex1 μ c A1)).1 = 1 → TB μ (M + 1) (exA μ (A1 120 μ.1 0) (m_ntf μ (m_ex1 μ c A1)).2) ∧ bB (exA μ (A1 120 μ.1 0) (m_ntf μ (m_ex1 μ c A1)).2)) (hEb : bB (m_rest μ 2 1 (m_ntf μ (m_ex1 μ c A1)).2)) : KV γ 7 mX12_extendChange [rv f] w (28) (900) (fun w' => (m_ntf μ (m_ex1 μ c A1)).1 = 1 ∧ ∃ p', CHB p' μ f (lvL p' μ (exA μ (A1 120 μ.1 0) (m_ntf μ (m_ex1 μ c A1)).2)) w' (exA μ (A1 120 μ.1 0) (m_ntf μ (m_ex1 μ c A1)).2) ∧ UPE f w w') (fun E w' => E = "java/lang/IllegalStateException" ∧ (m_ntf μ (m_ex1 μ c A1)).1 = 0 ∧ ∃ p', CHB p' μ f (lvL p' μ (m_ex3 μ (A1 212 0 (A1 120 μ.1 0 - 1)) (m_rest μ 2 1 (m_ntf μ (m_ex1 μ c A1)).2))) w' (m_ex3 μ (A1 212 0 (A1 120 μ.1 0 - 1)) (m_rest μ 2 1 (m_ntf μ (m_ex1 μ c A1)).2)) ∧ UPG f w w') := by
  refine MX_of rfl rfl (by simp [rv_cat, int_cat]) rfl ?_
  rintro κ hO hF rfl
  have hD := hF.dp
  show X κ (28) (900) w 0 [some (rv f), none] []
  obtain ⟨⟨hr, hTX, hLV⟩, k2, hLR⟩ := id h
  obtain ⟨t0, hFB, t2, -⟩ := hr.toF
  have hl := hLV.b0.1
  have h120 := hB.2.2.2.2.1
  have hLn : ((lvL p μ (m_insC μ c A1)).length : Int) ≤ 30000 := by unfold lvL; rw [List.length_map, rng_len]; omega
  have hkp := h.kpb hK.1.1
  have hKn : ((lvK (ps_ p) μ (m_insC μ c A1) 2).length : Int) ≤ 100000 := by unfold lvK; rw [List.length_map, rng_len]; have := k2.2.1; omega
  obtain ⟨g0, -, hg2, -⟩ := ntf_ok (μ := μ) hK.2.2.2.2.1
  have hq1 : (m_ntf μ (m_insC μ c A1)).1 = (m_nice μ 8 1 (m_insC μ c A1)).1 := by rw [hg2]
  have hq2 : (m_ntf μ (m_insC μ c A1)).2 = ux g0 (m_nice μ 8 1 (m_insC μ c A1)).2 := by rw [hg2]
  have hBB : LB μ 30000 520000 (m_insC μ c A1) := hB.mono (by omega) (by omega)
  obtain ⟨eq1, hSH⟩ := ex_ntf (c := c) hb1 hK
  have e45 := trivial
  have e40 := trivial
  have e25 := trivial
  have e41 := trivial
  have e12 := trivial
  have e34 := trivial
  have e70 := trivial
  refine X_aload_n 1 hO dX12_extendChange_0 rfl rfl ?_
  refine X_kVv (t := 13) 4 hO hD lX12_195 rfl (by decide) [] rfl dX12_extendChange_1 rfl (by first | assumption | omega | (simp (disch := first | decide | assumption | omega) only [up_k, up_s, up_a, up_i, flA_k, flA_a, flA_n, cpA_k, cpA_a, newO_o, newA_o, newO_t, newA_t, newA_n, cpQ_k, cpQ_a] <;> first | assumption | omega)) (kX12_requireCalmListeners _ _ _ p μ (lvL p μ (m_insC μ c A1)) (m_insC μ c A1) (pr_ p ((m_insC μ c A1) 126 μ.1 0)) (lvK (ps_ p) μ (m_insC μ c A1) 2) g0 hr hl (by omega) hLn hb28 hK.2.2.2.2.2.1 hLV hBB hkp hKn) (by decide) (by simp [rv_cat, int_cat]) (by first | decide | exact Nat.zero_le _ | omega) (by first | decide | exact Nat.zero_le _ | omega) (fun w_1 hp_1 => ?_) (fun E w_ hx_ => (XE_out hO hF (by
  obtain ⟨x1, x2, x3⟩ := hx_
  rw [← hq2] at x3
  have nq : (m_ntf μ (m_ex1 μ c A1)).1 = 0 := by rw [eq1, hq1]; exact x2
  obtain ⟨p9, e4, e5⟩ := x3.go hr hTX hLV hLR hB hK hM hz rfl k2.2.1 k2.2.2
  have kr := (ntf_rk hB hK).2.2.1.rest (b := 2) (all := 1) (Or.inl rfl)
  obtain ⟨xv1, xv2⟩ := ex_v hn1 hT.2.1.2.2.2.2 hz hB hK
  exact ⟨x1, nq, p9, ex_bck hSH e4 kr.2.2.2.1 (by omega) kr.2.2.1 hEb (xv2.trans h214) xv1, e5⟩)))
  obtain ⟨q0, p1, q1, q2, ⟨q3, q4⟩, q5, q6, q7⟩ := hp_1.go hr hTX hLV hB hK hS hP hM hz
  have nq : (m_ntf μ (m_ex1 μ c A1)).1 = 1 := by rw [eq1]; exact q0
  obtain ⟨nT, nB⟩ := hEx nq
  have hX := EXo.mk hT h207 hb1 hB hK q2 nT
  obtain ⟨V, hV⟩ : ∃ V, V = (m_ntf μ (m_insC μ c A1)).2 := ⟨_, rfl⟩
  rw [← hV] at q1 q4 hX
  have hcu : alv μ V (V 126 μ.1 0) := by rw [hV]; exact q2.1.1.1.1.cur q2.2.2.1
  have wk := EXo.wk q1 hX
  have hv0 : 0 ≤ v0 ∧ v0 ≤ 399 := hX.2.2.2.2.1.2.2
  obtain ⟨T, eT⟩ : ∃ T, T = w_1 45 f 0 := ⟨_, rfl⟩
  obtain ⟨X, eX⟩ : ∃ X, X = pn_ p1 (V 126 μ.1 0) := ⟨_, rfl⟩
  obtain ⟨D, eD⟩ : ∃ D, D = w_1 41 f 0 := ⟨_, rfl⟩
  obtain ⟨tl, etl⟩ : ∃ tl, tl = w_1 12 D 0 := ⟨_, rfl⟩
  obtain ⟨tc, etc⟩ : ∃ tc, tc = w_1 25 X 0 := ⟨_, rfl⟩
  obtain ⟨s0, es⟩ : ∃ s0, s0 = ps_ p1 (A1 120 μ.1 0 - 1) := ⟨_, rfl⟩
  rw [← eT, ← eX, ← eD, ← etl, ← etc, ← es] at wk
  obtain ⟨⟨f0, f1, f2, f3, f4⟩, ⟨f5, f6, f7⟩, ⟨f8, f9, f10, f11⟩, ⟨f12, f13, f14⟩, ⟨f15, f16, f17⟩, f18, f19⟩ := wk
  have o_w_1 : ∀ {k : Nat} {a i : Int}, (k ≠ 33 ∧ k ≠ 34 ∧ k ≠ 35 ∧ k ≠ 70 ∧ k ≠ 71 ∧ k ≠ 72) → w_1 k a i = w_1 k a i := fun z => by rfl
  have c13 : w_1 0 f 0 = 13 := by rw [o_w_1 (by decide)]; exact f0
  have e45 : w_1 45 f 0 = T := by rw [o_w_1 (by decide)]; exact eT.symm
  have cT : w_1 0 T 0 = 11 := by rw [o_w_1 (by decide)]; exact f1
  have e40 : w_1 40 T 0 = X := by rw [o_w_1 (by decide)]; exact f2
  have cX : w_1 0 X 0 = 5 := by rw [o_w_1 (by decide)]; exact f3
  have e25 : w_1 25 X 0 = tc := by rw [o_w_1 (by decide)]; exact etc.symm
  have e41 : w_1 41 f 0 = D := by rw [o_w_1 (by decide)]; exact eD.symm
  have cD : w_1 0 D 0 = 2 := by rw [o_w_1 (by decide)]; exact f4
  have e12 : w_1 12 D 0 = tl := by rw [o_w_1 (by decide)]; exact etl.symm
  have ccl : w_1 0 tl 0 = 8 := by rw [o_w_1 (by decide)]; exact f6
  have ccc : w_1 0 tc 0 = 8 := by rw [o_w_1 (by decide)]; exact f5
  have e34 : w_1 34 tc 0 = s0 := f8
  have e70 : w_1 70 s0 0 = v0 := f11
  refine X_aload_n 5 hO dX12_extendChange_4 rfl rfl ?_
  refine gX12_29 8 hO dX12_extendChange_5 rfl (by first | assumption | omega | (simp (disch := first | decide | assumption | omega) only [up_k, up_s, up_a, up_i, flA_k, flA_a, flA_n, cpA_k, cpA_a, newO_o, newA_o, newO_t, newA_t, newA_n, cpQ_k, cpQ_a] <;> first | assumption | omega)) ?_
  try simp (disch := first | decide | assumption | omega) only [up_k, up_s, up_a, up_i, flA_k, flA_a, flA_n, cpA_k, cpA_a, newO_o, newA_o, newO_t, newA_t, newA_n, cpQ_k, cpQ_a, e45, e40, e25, e41, e12, e34, e70]
  refine gX12_98 11 hO dX12_extendChange_8 rfl (by first | assumption | omega | (simp (disch := first | decide | assumption | omega) only [up_k, up_s, up_a, up_i, flA_k, flA_a, flA_n, cpA_k, cpA_a, newO_o, newA_o, newO_t, newA_t, newA_n, cpQ_k, cpQ_a] <;> first | assumption | omega)) ?_
  try simp (disch := first | decide | assumption | omega) only [up_k, up_s, up_a, up_i, flA_k, flA_a, flA_n, cpA_k, cpA_a, newO_o, newA_o, newO_t, newA_t, newA_n, cpQ_k, cpQ_a, e45, e40, e25, e41, e12, e34, e70]
  refine gX12_102 14 hO dX12_extendChange_11 rfl (by first | assumption | omega | (simp (disch := first | decide | assumption | omega) only [up_k, up_s, up_a, up_i, flA_k, flA_a, flA_n, cpA_k, cpA_a, newO_o, newA_o, newO_t, newA_t, newA_n, cpQ_k, cpQ_a] <;> first | assumption | omega)) ?_
  try simp (disch := first | decide | assumption | omega) only [up_k, up_s, up_a, up_i, flA_k, flA_a, flA_n, cpA_k, cpA_a, newO_o, newA_o, newO_t, newA_t, newA_n, cpQ_k, cpQ_a, e45, e40, e25, e41, e12, e34, e70]
  refine X_astore_n 15 hO dX12_extendChange_14 rfl rfl ?_
  refine X_aload_n 16 hO dX12_extendChange_15 rfl rfl ?_
  refine gX12_393 19 hO dX12_extendChange_16 rfl (by first | assumption | omega | (simp (disch := first | decide | assumption | omega) only [up_k, up_s, up_a, up_i, flA_k, flA_a, flA_n, cpA_k, cpA_a, newO_o, newA_o, newO_t, newA_t, newA_n, cpQ_k, cpQ_a] <;> first | assumption | omega)) ?_
  try simp (disch := first | decide | assumption | omega) only [up_k, up_s, up_a, up_i, flA_k, flA_a, flA_n, cpA_k, cpA_a, newO_o, newA_o, newO_t, newA_t, newA_n, cpQ_k, cpQ_a, e45, e40, e25, e41, e12, e34, e70]
  refine X_ifnull 22 35 hO dX12_extendChange_19 rfl rfl (fun hc_19 => absurd hc_19 f9) (fun hc_19 => ?_)
  refine X_aload_n 23 hO dX12_extendChange_22 rfl rfl ?_
  refine gX12_393 26 hO dX12_extendChange_23 rfl (by first | assumption | omega | (simp (disch := first | decide | assumption | omega) only [up_k, up_s, up_a, up_i, flA_k, flA_a, flA_n, cpA_k, cpA_a, newO_o, newA_o, newO_t, newA_t, newA_n, cpQ_k, cpQ_a] <;> first | assumption | omega)) ?_
  try simp (disch := first | decide | assumption | omega) only [up_k, up_s, up_a, up_i, flA_k, flA_a, flA_n, cpA_k, cpA_a, newO_o, newA_o, newO_t, newA_t, newA_n, cpQ_k, cpQ_a, e45, e40, e25, e41, e12, e34, e70]
  refine X_dup 27 hO dX12_extendChange_26 rfl (by first | rfl | exact rv_cat _) ?_
  refine gX12_397 30 hO dX12_extendChange_27 rfl (by first | assumption | omega | (simp (disch := first | decide | assumption | omega) only [up_k, up_s, up_a, up_i, flA_k, flA_a, flA_n, cpA_k, cpA_a, newO_o, newA_o, newO_t, newA_t, newA_n, cpQ_k, cpQ_a] <;> first | assumption | omega)) (fun hi_27 => ?_)
  try simp (disch := first | decide | assumption | omega) only [up_k, up_s, up_a, up_i, flA_k, flA_a, flA_n, cpA_k, cpA_a, newO_o, newA_o, newO_t, newA_t, newA_n, cpQ_k, cpQ_a, e45, e40, e25, e41, e12, e34, e70] at hi_27 ⊢
  refine X_iconst 31 hO dX12_extendChange_30 rfl ?_
  refine X_iadd 32 hO dX12_extendChange_31 rfl ?_
  refine pX12_397 35 hO dX12_extendChange_32 rfl (by first | assumption | omega | (simp (disch := first | decide | assumption | omega) only [up_k, up_s, up_a, up_i, flA_k, flA_a, flA_n, cpA_k, cpA_a, newO_o, newA_o, newO_t, newA_t, newA_n, cpQ_k, cpQ_a] <;> first | assumption | omega)) (by omega) ?_
  obtain ⟨wz, hwz⟩ : ∃ wz, wz = up w_1 70 s0 0 (v0 + 1) := ⟨_, rfl⟩
  refine X_eqW hwz.symm ?_
  have o_wz : ∀ {k : Nat} {a i : Int}, (k ≠ 33 ∧ k ≠ 34 ∧ k ≠ 35 ∧ k ≠ 70 ∧ k ≠ 71 ∧ k ≠ 72) → wz k a i = w_1 k a i := fun z => by rw [hwz, up_k _ z.2.2.2.1]
  have c13 : wz 0 f 0 = 13 := by rw [o_wz (by decide)]; exact f0
  have e45 : wz 45 f 0 = T := by rw [o_wz (by decide)]; exact eT.symm
  have cT : wz 0 T 0 = 11 := by rw [o_wz (by decide)]; exact f1
  have e40 : wz 40 T 0 = X := by rw [o_wz (by decide)]; exact f2
  have cX : wz 0 X 0 = 5 := by rw [o_wz (by decide)]; exact f3
  have e25 : wz 25 X 0 = tc := by rw [o_wz (by decide)]; exact etc.symm
  have e41 : wz 41 f 0 = D := by rw [o_wz (by decide)]; exact eD.symm
  have cD : wz 0 D 0 = 2 := by rw [o_wz (by decide)]; exact f4
  have e12 : wz 12 D 0 = tl := by rw [o_wz (by decide)]; exact etl.symm
  have ccl : wz 0 tl 0 = 8 := by rw [o_wz (by decide)]; exact f6
  have ccc : wz 0 tc 0 = 8 := by rw [o_wz (by decide)]; exact f5
  have z34 : wz 34 tl 0 = w_1 34 tl 0 := by rw [hwz, up_k _ (by decide)]
  have d7 : wz 34 tl 0 = 0 ∨ wz 0 (wz 34 tl 0) 0 = 7 := Or.inr (by rw [z34, o_wz (by decide)]; exact f15)
  have d71 : 0 ≤ wz 71 tl 0 ∧ wz 71 tl 0 ≤ 100000 := by rw [hwz, up_k _ (by decide)]; exact f16
  have d72 : 0 ≤ wz 72 tl 0 ∧ wz 72 tl 0 ≤ 100000 := by rw [hwz, up_k _ (by decide)]; exact f17
  refine X_aload_n 36 hO dX12_extendChange_35 rfl rfl ?_
  refine gX12_10 39 hO dX12_extendChange_36 rfl (by first | assumption | omega | (simp (disch := first | decide | assumption | omega) only [up_k, up_s, up_a, up_i, flA_k, flA_a, flA_n, cpA_k, cpA_a, newO_o, newA_o, newO_t, newA_t, newA_n, cpQ_k, cpQ_a] <;> first | assumption | omega)) ?_
  try simp (disch := first | decide | assumption | omega) only [up_k, up_s, up_a, up_i, flA_k, flA_a, flA_n, cpA_k, cpA_a, newO_o, newA_o, newO_t, newA_t, newA_n, cpQ_k, cpQ_a, e45, e40, e25, e41, e12, e34, e70]
  refine gX12_361 42 hO dX12_extendChange_39 rfl (by first | assumption | omega | (simp (disch := first | decide | assumption | omega) only [up_k, up_s, up_a, up_i, flA_k, flA_a, flA_n, cpA_k, cpA_a, newO_o, newA_o, newO_t, newA_t, newA_n, cpQ_k, cpQ_a] <;> first | assumption | omega)) ?_
  try simp (disch := first | decide | assumption | omega) only [up_k, up_s, up_a, up_i, flA_k, flA_a, flA_n, cpA_k, cpA_a, newO_o, newA_o, newO_t, newA_t, newA_n, cpQ_k, cpQ_a, e45, e40, e25, e41, e12, e34, e70]
  refine X_kVv (t := 8) 45 hO hD lX12_400 rfl (by decide) [] rfl dX12_extendChange_42 rfl (by first | assumption | omega | (simp (disch := first | decide | assumption | omega) only [up_k, up_s, up_a, up_i, flA_k, flA_a, flA_n, cpA_k, cpA_a, newO_o, newA_o, newO_t, newA_t, newA_n, cpQ_k, cpQ_a] <;> first | assumption | omega)) (kX7_dropFirst _ _ tl ccl d7 d71 d72) (by decide) (by simp [rv_cat, int_cat]) (by first | decide | exact Nat.zero_le _ | omega) (by first | decide | exact Nat.zero_le _ | omega) (fun w_42 hp_42 => ?_) (fun E w_ hx_ => hx_.elim)
  have ew42 : w_42 = up (q_drop tl w_1) 70 s0 0 (v0 + 1) := by rw [hp_42, hwz, q_drop_70]
  have o_w_42 : ∀ {k : Nat} {a i : Int}, (k ≠ 33 ∧ k ≠ 34 ∧ k ≠ 35 ∧ k ≠ 70 ∧ k ≠ 71 ∧ k ≠ 72) → w_42 k a i = w_1 k a i := fun z => by rw [ew42, up_k _ z.2.2.2.1, q_drop_k z.2.1 z.2.2.1 z.2.2.2.2.1 z.2.2.2.2.2]
  have c13 : w_42 0 f 0 = 13 := by rw [o_w_42 (by decide)]; exact f0
  have e45 : w_42 45 f 0 = T := by rw [o_w_42 (by decide)]; exact eT.symm
  have cT : w_42 0 T 0 = 11 := by rw [o_w_42 (by decide)]; exact f1
  have e40 : w_42 40 T 0 = X := by rw [o_w_42 (by decide)]; exact f2
  have cX : w_42 0 X 0 = 5 := by rw [o_w_42 (by decide)]; exact f3
  have e25 : w_42 25 X 0 = tc := by rw [o_w_42 (by decide)]; exact etc.symm
  have e41 : w_42 41 f 0 = D := by rw [o_w_42 (by decide)]; exact eD.symm
  have cD : w_42 0 D 0 = 2 := by rw [o_w_42 (by decide)]; exact f4
  have e12 : w_42 12 D 0 = tl := by rw [o_w_42 (by decide)]; exact etl.symm
  have ccl : w_42 0 tl 0 = 8 := by rw [o_w_42 (by decide)]; exact f6
  have ccc : w_42 0 tc 0 = 8 := by rw [o_w_42 (by decide)]; exact f5
  have da : ∀ {k : Nat}, k ≠ 70 → w_42 k tc 0 = w_1 k tc 0 := fun z => by rw [ew42, up_k _ z, q_drop_a f7]
  have dl : ∀ {k : Nat}, k ≠ 70 → w_42 k tl 0 = q_drop tl w_1 k tl 0 := fun z => by rw [ew42, up_k _ z]
  have j35 : w_42 35 tc 0 = 0 ∨ w_42 0 (w_42 35 tc 0) 0 = 7 := Or.inr (by rw [da (by decide), f12, o_w_42 (by decide)]; exact f10)
  have j71 : 0 ≤ w_42 71 tc 0 ∧ w_42 71 tc 0 ≤ 100000 := by rw [da (by decide)]; exact f13
  have j72 : 0 ≤ w_42 72 tc 0 ∧ w_42 72 tc 0 ≤ 100000 := by rw [da (by decide)]; exact f14
  have i71 : 0 ≤ w_42 71 tl 0 ∧ w_42 71 tl 0 ≤ 100000 := by rw [dl (by decide)]; exact f18
  have i72 : 0 ≤ w_42 72 tl 0 ∧ w_42 72 tl 0 ≤ 100000 := by rw [dl (by decide)]; exact f19
  refine X_aload_n 46 hO dX12_extendChange_45 rfl rfl ?_
  refine X_aload_n 47 hO dX12_extendChange_46 rfl rfl ?_
  refine gX12_10 50 hO dX12_extendChange_47 rfl (by first | assumption | omega | (simp (disch := first | decide | assumption | omega) only [up_k, up_s, up_a, up_i, flA_k, flA_a, flA_n, cpA_k, cpA_a, newO_o, newA_o, newO_t, newA_t, newA_n, cpQ_k, cpQ_a] <;> first | assumption | omega)) ?_
  try simp (disch := first | decide | assumption | omega) only [up_k, up_s, up_a, up_i, flA_k, flA_a, flA_n, cpA_k, cpA_a, newO_o, newA_o, newO_t, newA_t, newA_n, cpQ_k, cpQ_a, e45, e40, e25, e41, e12, e34, e70]
  refine gX12_361 53 hO dX12_extendChange_50 rfl (by first | assumption | omega | (simp (disch := first | decide | assumption | omega) only [up_k, up_s, up_a, up_i, flA_k, flA_a, flA_n, cpA_k, cpA_a, newO_o, newA_o, newO_t, newA_t, newA_n, cpQ_k, cpQ_a] <;> first | assumption | omega)) ?_
  try simp (disch := first | decide | assumption | omega) only [up_k, up_s, up_a, up_i, flA_k, flA_a, flA_n, cpA_k, cpA_a, newO_o, newA_o, newO_t, newA_t, newA_n, cpQ_k, cpQ_a, e45, e40, e25, e41, e12, e34, e70]
  refine X_kVv (t := 8) 56 hO hD lX12_371 rfl (by decide) [_] rfl dX12_extendChange_53 rfl (by first | assumption | omega | (simp (disch := first | decide | assumption | omega) only [up_k, up_s, up_a, up_i, flA_k, flA_a, flA_n, cpA_k, cpA_a, newO_o, newA_o, newO_t, newA_t, newA_n, cpQ_k, cpQ_a] <;> first | assumption | omega)) (kX7_join _ _ tc tl ccc ccl f7 j35 j71 j72 i71 i72) (by decide) (by simp [rv_cat, int_cat]) (by first | decide | exact Nat.zero_le _ | omega) (by first | decide | exact Nat.zero_le _ | omega) (fun w_53 hp_53 => ?_) (fun E w_ hx_ => hx_.elim)
  have ew53 : w_53 = up (q_join tc tl (q_drop tl w_1)) 70 s0 0 (v0 + 1) := by rw [hp_53, ew42, q_join_70]
  have o_w_53 : ∀ {k : Nat} {a i : Int}, (k ≠ 33 ∧ k ≠ 34 ∧ k ≠ 35 ∧ k ≠ 70 ∧ k ≠ 71 ∧ k ≠ 72) → w_53 k a i = w_1 k a i := fun z => by rw [ew53, up_k _ z.2.2.2.1, q_join_k z.1 z.2.1 z.2.2.1 z.2.2.2.2.1 z.2.2.2.2.2, q_drop_k z.2.1 z.2.2.1 z.2.2.2.2.1 z.2.2.2.2.2]
  have c13 : w_53 0 f 0 = 13 := by rw [o_w_53 (by decide)]; exact f0
  have e45 : w_53 45 f 0 = T := by rw [o_w_53 (by decide)]; exact eT.symm
  have cT : w_53 0 T 0 = 11 := by rw [o_w_53 (by decide)]; exact f1
  have e40 : w_53 40 T 0 = X := by rw [o_w_53 (by decide)]; exact f2
  have cX : w_53 0 X 0 = 5 := by rw [o_w_53 (by decide)]; exact f3
  have e25 : w_53 25 X 0 = tc := by rw [o_w_53 (by decide)]; exact etc.symm
  have e41 : w_53 41 f 0 = D := by rw [o_w_53 (by decide)]; exact eD.symm
  have cD : w_53 0 D 0 = 2 := by rw [o_w_53 (by decide)]; exact f4
  have e12 : w_53 12 D 0 = tl := by rw [o_w_53 (by decide)]; exact etl.symm
  have ccl : w_53 0 tl 0 = 8 := by rw [o_w_53 (by decide)]; exact f6
  have ccc : w_53 0 tc 0 = 8 := by rw [o_w_53 (by decide)]; exact f5
  refine X_aload_n 57 hO dX12_extendChange_56 rfl rfl ?_
  refine gX12_10 60 hO dX12_extendChange_57 rfl (by first | assumption | omega | (simp (disch := first | decide | assumption | omega) only [up_k, up_s, up_a, up_i, flA_k, flA_a, flA_n, cpA_k, cpA_a, newO_o, newA_o, newO_t, newA_t, newA_n, cpQ_k, cpQ_a] <;> first | assumption | omega)) ?_
  try simp (disch := first | decide | assumption | omega) only [up_k, up_s, up_a, up_i, flA_k, flA_a, flA_n, cpA_k, cpA_a, newO_o, newA_o, newO_t, newA_t, newA_n, cpQ_k, cpQ_a, e45, e40, e25, e41, e12, e34, e70]
  refine gX12_361 63 hO dX12_extendChange_60 rfl (by first | assumption | omega | (simp (disch := first | decide | assumption | omega) only [up_k, up_s, up_a, up_i, flA_k, flA_a, flA_n, cpA_k, cpA_a, newO_o, newA_o, newO_t, newA_t, newA_n, cpQ_k, cpQ_a] <;> first | assumption | omega)) ?_
  try simp (disch := first | decide | assumption | omega) only [up_k, up_s, up_a, up_i, flA_k, flA_a, flA_n, cpA_k, cpA_a, newO_o, newA_o, newO_t, newA_t, newA_n, cpQ_k, cpQ_a, e45, e40, e25, e41, e12, e34, e70]
  refine X_kVv (t := 8) 66 hO hD lX12_375 rfl (by decide) [] rfl dX12_extendChange_63 rfl (by first | assumption | omega | (simp (disch := first | decide | assumption | omega) only [up_k, up_s, up_a, up_i, flA_k, flA_a, flA_n, cpA_k, cpA_a, newO_o, newA_o, newO_t, newA_t, newA_n, cpQ_k, cpQ_a] <;> first | assumption | omega)) (kX7_empty _ _ tl ccl) (by decide) (by simp [rv_cat, int_cat]) (by first | decide | exact Nat.zero_le _ | omega) (by first | decide | exact Nat.zero_le _ | omega) (fun w_63 hp_63 => ?_) (fun E w_ hx_ => hx_.elim)
  have ew63 : w_63 = up (q_emp tl (q_join tc tl (q_drop tl w_1))) 70 s0 0 (v0 + 1) := by rw [hp_63, ew53, q_emp_70]
  have emp : ∀ {k : Nat} {a i : Int} {Y : Mm}, k ≠ 34 → k ≠ 35 → k ≠ 71 → k ≠ 72 → q_emp tl Y k a i = Y k a i := fun z1 z2 z3 z4 => by unfold q_emp; rw [up_k _ z4, up_k _ z3, up_k _ z2, up_k _ z1]
  have o_w_63 : ∀ {k : Nat} {a i : Int}, (k ≠ 33 ∧ k ≠ 34 ∧ k ≠ 35 ∧ k ≠ 70 ∧ k ≠ 71 ∧ k ≠ 72) → w_63 k a i = w_1 k a i := fun z => by rw [ew63, up_k _ z.2.2.2.1, emp z.2.1 z.2.2.1 z.2.2.2.2.1 z.2.2.2.2.2, q_join_k z.1 z.2.1 z.2.2.1 z.2.2.2.2.1 z.2.2.2.2.2, q_drop_k z.2.1 z.2.2.1 z.2.2.2.2.1 z.2.2.2.2.2]
  have c13 : w_63 0 f 0 = 13 := by rw [o_w_63 (by decide)]; exact f0
  have e45 : w_63 45 f 0 = T := by rw [o_w_63 (by decide)]; exact eT.symm
  have cT : w_63 0 T 0 = 11 := by rw [o_w_63 (by decide)]; exact f1
  have e40 : w_63 40 T 0 = X := by rw [o_w_63 (by decide)]; exact f2
  have cX : w_63 0 X 0 = 5 := by rw [o_w_63 (by decide)]; exact f3
  have e25 : w_63 25 X 0 = tc := by rw [o_w_63 (by decide)]; exact etc.symm
  have e41 : w_63 41 f 0 = D := by rw [o_w_63 (by decide)]; exact eD.symm
  have cD : w_63 0 D 0 = 2 := by rw [o_w_63 (by decide)]; exact f4
  have e12 : w_63 12 D 0 = tl := by rw [o_w_63 (by decide)]; exact etl.symm
  have ccl : w_63 0 tl 0 = 8 := by rw [o_w_63 (by decide)]; exact f6
  have ccc : w_63 0 tc 0 = 8 := by rw [o_w_63 (by decide)]; exact f5
  have ew4 : w_63 = up (q_emp (w_1 12 (w_1 41 f 0) 0) (q_join (w_1 25 (pn_ p1 (V 126 μ.1 0)) 0) (w_1 12 (w_1 41 f 0) 0) (q_drop (w_1 12 (w_1 41 f 0) 0) w_1))) 70 (ps_ p1 (A1 120 μ.1 0 - 1)) 0 (v0 + 1) := by rw [ew63, es, etc, etl, eD, eX]
  obtain ⟨c1, r1, u1⟩ := q1.ex hX rfl ew4
  have hal : alv μ (up (exA μ (A1 120 μ.1 0) (m_ntf μ (m_ex1 μ c A1)).2) 224 0 (V 126 μ.1 0) (V 224 0 (V 126 μ.1 0))) (V 126 μ.1 0) := by
    have h := hcu
    unfold alv at h ⊢
    rw [up_k _ (by decide), up_k _ (by decide), hX.o (by decide) (by decide), hX.o (by decide) (by decide)]; exact h
  obtain ⟨kq1, kq2, kq3, kq4, kq5, kq6⟩ := r1.kq hal
  have lv := r1.lvs
  have cD2 : w_63 0 (w_63 41 f 0) 0 = 2 := by rw [e41]; exact cD
  rw [show pn_ (c1, exS (ps_ p1) (A1 120 μ.1 0), pn_ p1, pa_ p1, pr_ p1, GEx (A1 120 μ.1 0) (pg_ p1), pl_ p1) (V 126 μ.1 0) = X from eX.symm] at kq1 kq2 kq3 kq6
  refine X_aload_n 67 hO dX12_extendChange_66 rfl rfl ?_
  refine X_aload_n 68 hO dX12_extendChange_67 rfl rfl ?_
  refine gX12_29 71 hO dX12_extendChange_68 rfl (by first | assumption | omega | (simp (disch := first | decide | assumption | omega) only [up_k, up_s, up_a, up_i, flA_k, flA_a, flA_n, cpA_k, cpA_a, newO_o, newA_o, newO_t, newA_t, newA_n, cpQ_k, cpQ_a] <;> first | assumption | omega)) ?_
  try simp (disch := first | decide | assumption | omega) only [up_k, up_s, up_a, up_i, flA_k, flA_a, flA_n, cpA_k, cpA_a, newO_o, newA_o, newO_t, newA_t, newA_n, cpQ_k, cpQ_a, e45, e40, e25, e41, e12, e34, e70]
  refine gX12_98 74 hO dX12_extendChange_71 rfl (by first | assumption | omega | (simp (disch := first | decide | assumption | omega) only [up_k, up_s, up_a, up_i, flA_k, flA_a, flA_n, cpA_k, cpA_a, newO_o, newA_o, newO_t, newA_t, newA_n, cpQ_k, cpQ_a] <;> first | assumption | omega)) ?_
  try simp (disch := first | decide | assumption | omega) only [up_k, up_s, up_a, up_i, flA_k, flA_a, flA_n, cpA_k, cpA_a, newO_o, newA_o, newO_t, newA_t, newA_n, cpQ_k, cpQ_a, e45, e40, e25, e41, e12, e34, e70]
  refine X_kVv (t := 13) 77 hO hD lX12_378 rfl (by decide) [_] rfl dX12_extendChange_74 rfl (by first | assumption | omega | (simp (disch := first | decide | assumption | omega) only [up_k, up_s, up_a, up_i, flA_k, flA_a, flA_n, cpA_k, cpA_a, newO_o, newA_o, newO_t, newA_t, newA_n, cpQ_k, cpQ_a] <;> first | assumption | omega)) (kX12_keepState _ _ f X 400 c13 cX cD2 kq1 kq2 kq3 lv kq4 kq5 kq6) (by decide) (by simp [rv_cat, int_cat]) (by first | decide | exact Nat.zero_le _ | omega) (by first | decide | exact Nat.zero_le _ | omega) (fun w_74 hp_74 => ?_) (fun E w_ hx_ => hx_.elim)
  obtain ⟨W, hW, eW⟩ := hp_74
  rw [eX] at hW eW
  obtain ⟨p5, x5, x6⟩ := q1.ext hX q4 nB ew4 hW eW
  exact X_vret hO hF rfl dX12_extendChange_77 ⟨rfl, ⟨nq, p5, x5, q7.trans x6⟩⟩
