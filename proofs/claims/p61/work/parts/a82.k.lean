/-! a change is made of the steps so far -/
theorem mks_lv {p' : RP} {μ : MU} {f g M : Int} {w' A : Mm} (h : MGB p' μ f [] M w' (m_mks μ g A)) (h2 : LIV μ (pg_ p') (pr_ p' ((m_mks μ g A) 126 μ.1 0)) (m_mks μ g A)) : CHB p' μ f (lvL p' μ (m_mks μ g A)) w' (m_mks μ g A) := by
  have em : ∀ {c : Nat} {a i : Int}, c ≠ 125 ∧ (c < 216 ∨ 225 < c) → m_mks μ g A c a i = m_mk1 μ g A c a i := fun z => mrg_o z _ _ _
  have e : lvL p' μ (m_mks μ g A) = [] := by
    unfold lvL
    rw [em (c := 120) (by decide), em (c := 122) (by decide), mk1_m.2.2.2.1, mk1_n (by decide), show (A 120 μ.1 0 - A 120 μ.1 0).toNat = 0 by omega]
    rfl
  rw [e]
  exact ⟨h.1, h.2.1, h2⟩
theorem dX12_makeChange_0 : decode cX12_makeChange 0 = .ok (.aload_n 0, 1) := by decide +kernel
theorem dX12_makeChange_1 : decode cX12_makeChange 1 = .ok (.getfield 10, 3) := by decide +kernel
theorem dX12_makeChange_4 : decode cX12_makeChange 4 = .ok (.getfield 361, 3) := by decide +kernel
theorem dX12_makeChange_7 : decode cX12_makeChange 7 = .ok (.getfield 108, 3) := by decide +kernel
theorem dX12_makeChange_10 : decode cX12_makeChange 10 = .ok (.ifCond .le 12, 3) := by decide +kernel
theorem dX12_makeChange_13 : decode cX12_makeChange 13 = .ok (.aload_n 0, 1) := by decide +kernel
theorem dX12_makeChange_14 : decode cX12_makeChange 14 = .ok (.invokevirtual 195, 3) := by decide +kernel
theorem dX12_makeChange_17 : decode cX12_makeChange 17 = .ok (.aload_n 0, 1) := by decide +kernel
theorem dX12_makeChange_18 : decode cX12_makeChange 18 = .ok (.iload_n 1, 1) := by decide +kernel
theorem dX12_makeChange_19 : decode cX12_makeChange 19 = .ok (.invokevirtual 198, 3) := by decide +kernel
theorem dX12_makeChange_22 : decode cX12_makeChange 22 = .ok (.return_, 1) := by decide +kernel
set_option maxRecDepth 4000 in
theorem kX12_makeChange (γ : LC) (w : Mm) (f g : Int) (p : RP) (μ : MU) (A : Mm) (S P M : Int) (h : CHB p μ f (lvL p μ A) w A) (hB : LB μ S P A) (hK : RK μ S P M A) (hS : S ≤ 29000) (hP : P ≤ 520000) (hM : M ≤ 598) (hl2 : A 123 μ.1 0 ≤ A 121 μ.1 0) (hb28 : ∀ j, 0 ≤ j → j < 3 → A 228 0 j = 0 ∨ A 228 0 j = 1) (hg : g = 0 ∨ g = 1) (hk : KPb p μ f (lvL p μ A) (lvK (ps_ p) μ A 2) w A) (hLR : LIV μ (pg_ p) (pr_ p (A 126 μ.1 0)) (m_rest μ 2 1 A)) (h215 : A 215 0 2 ≤ A 121 μ.1 0) : KV γ 11 mX12_makeChange [rv f, .int (I g)] w (36) (2200) (fun w' => (A 120 μ.1 0 = A 122 μ.1 0 ∧ w' = w) ∨ (A 120 μ.1 0 ≠ A 122 μ.1 0 ∧ (m_ntf μ A).1 = 1 ∧ ∃ p', CHB p' μ f (lvL p' μ (m_mks μ g (m_ntf μ A).2)) w' (m_mks μ g (m_ntf μ A).2) ∧ UPE f w w')) (fun E w' => E = "java/lang/IllegalStateException" ∧ A 120 μ.1 0 ≠ A 122 μ.1 0 ∧ (m_ntf μ A).1 = 0 ∧ ∃ p', CHB p' μ f (lvL p' μ (m_rest μ 2 1 (m_ntf μ A).2)) w' (m_rest μ 2 1 (m_ntf μ A).2) ∧ UPG f w w') := by
  refine MX_of rfl rfl (by simp [rv_cat, int_cat]) rfl ?_
  rintro κ hO hF rfl
  have hD := hF.dp
  show X κ (36) (2200) w 0 [some (rv f), some (.int (I g))] []
  obtain ⟨hr, hTX, hLV⟩ := id h
  obtain ⟨t0, hFB, t2, -⟩ := hr.toF
  have tQ := hr.1.2.2.1.1.1.2.2.2.1.1
  have hl : 0 ≤ A 122 μ.1 0 ∧ A 122 μ.1 0 ≤ A 120 μ.1 0 := hLV.b0.1
  have h120 := hB.2.2.2.2.1
  have elen : w 71 (w 12 (w 41 f 0) 0) 0 = A 120 μ.1 0 - A 122 μ.1 0 := by
    rw [hr.2.2.1.2.1.2.2.1]; unfold lvL; rw [List.length_map, rng_len]; omega
  have hLn : ((lvL p μ A).length : Int) ≤ 30000 := by unfold lvL; rw [List.length_map, rng_len]; omega
  have hKn : ((lvK (ps_ p) μ A 2).length : Int) ≤ 100000 := by unfold lvK; rw [List.length_map, rng_len]; have := hk.2.2.2.2; omega
  obtain ⟨g0, -, hg2, -⟩ := ntf_ok (μ := μ) hK.2.2.2.2.1
  have hn1 : (m_ntf μ A).1 = (m_nice μ 8 1 A).1 := by rw [hg2]
  have hn2 : (m_ntf μ A).2 = ux g0 (m_nice μ 8 1 A).2 := by rw [hg2]
  have hBB : LB μ 30000 520000 A := hB.mono (by omega) (by omega)
  refine X_aload_n 1 hO dX12_makeChange_0 rfl rfl ?_
  refine gX12_10 4 hO dX12_makeChange_1 rfl (by first | assumption | omega | (simp (disch := first | decide | assumption | omega) only [up_k, up_s, up_a, up_i, flA_k, flA_a, flA_n, cpA_k, cpA_a, newO_o, newA_o, newO_t, newA_t, newA_n, cpQ_k, cpQ_a] <;> first | assumption | omega)) ?_
  try simp (disch := first | decide | assumption | omega) only [up_k, up_s, up_a, up_i, flA_k, flA_a, flA_n, cpA_k, cpA_a, newO_o, newA_o, newO_t, newA_t, newA_n, cpQ_k, cpQ_a]
  refine gX12_361 7 hO dX12_makeChange_4 rfl (by first | assumption | omega | (simp (disch := first | decide | assumption | omega) only [up_k, up_s, up_a, up_i, flA_k, flA_a, flA_n, cpA_k, cpA_a, newO_o, newA_o, newO_t, newA_t, newA_n, cpQ_k, cpQ_a] <;> first | assumption | omega)) ?_
  try simp (disch := first | decide | assumption | omega) only [up_k, up_s, up_a, up_i, flA_k, flA_a, flA_n, cpA_k, cpA_a, newO_o, newA_o, newO_t, newA_t, newA_n, cpQ_k, cpQ_a]
  refine gX12_108 10 hO dX12_makeChange_7 rfl (by first | assumption | omega | (simp (disch := first | decide | assumption | omega) only [up_k, up_s, up_a, up_i, flA_k, flA_a, flA_n, cpA_k, cpA_a, newO_o, newA_o, newO_t, newA_t, newA_n, cpQ_k, cpQ_a] <;> first | assumption | omega)) (fun hi_7 => ?_)
  try simp (disch := first | decide | assumption | omega) only [up_k, up_s, up_a, up_i, flA_k, flA_a, flA_n, cpA_k, cpA_a, newO_o, newA_o, newO_t, newA_t, newA_n, cpQ_k, cpQ_a] at hi_7 ⊢
  refine X_if_le 13 22 hO dX12_makeChange_10 rfl rfl (by omega) (fun hc_10 => ?_) (fun hc_10 => ?_)
  ·
    exact X_vret hO hF rfl dX12_makeChange_22 ⟨rfl, (by first | exact Or.inr ⟨by omega, q0, p2, mks_lv s1 s2, q7.trans s3⟩ | exact Or.inl ⟨by omega, rfl⟩)⟩
  ·
    refine X_aload_n 14 hO dX12_makeChange_13 rfl rfl ?_
    refine X_kVv (t := 13) 17 hO hD lX12_195 rfl (by decide) [] rfl dX12_makeChange_14 rfl (by first | assumption | omega | (simp (disch := first | decide | assumption | omega) only [up_k, up_s, up_a, up_i, flA_k, flA_a, flA_n, cpA_k, cpA_a, newO_o, newA_o, newO_t, newA_t, newA_n, cpQ_k, cpQ_a] <;> first | assumption | omega)) (kX12_requireCalmListeners _ _ _ p μ (lvL p μ A) A (pr_ p (A 126 μ.1 0)) (lvK (ps_ p) μ A 2) g0 hr hl (by omega) hLn hb28 hK.2.2.2.2.2.1 hLV hBB hk hKn) (by decide) (by simp [rv_cat, int_cat]) (by first | decide | exact Nat.zero_le _ | omega) (by first | decide | exact Nat.zero_le _ | omega) (fun w_14 hp_14 => ?_) (fun E w_ hx_ => (XE_out hO hF (by
  obtain ⟨e1, e2, e3⟩ := hx_
  rw [← hn2] at e3
  obtain ⟨p9, e4, e5⟩ := e3.go hr hTX hLV hLR hB hK hM hl2 rfl hk.2.2.2.2 h215
  exact ⟨e1, by omega, by rw [hn1]; exact e2, p9, e4, e5⟩)))
    obtain ⟨q0, p1, q1, q2, ⟨q3, q4⟩, q5, q6, q7⟩ := hp_14.go hr hTX hLV hB hK hS hP hM hl2
    have c13 : w_14 0 f 0 = 13 := q1.toF.1
    refine X_aload_n 18 hO dX12_makeChange_17 rfl rfl ?_
    refine X_iload_n 19 hO dX12_makeChange_18 rfl rfl ?_
    refine X_kVv (t := 13) 22 hO hD lX12_198 rfl (by decide) [_] rfl dX12_makeChange_19 rfl (by first | assumption | omega | (simp (disch := first | decide | assumption | omega) only [up_k, up_s, up_a, up_i, flA_k, flA_a, flA_n, cpA_k, cpA_a, newO_o, newA_o, newO_t, newA_t, newA_n, cpQ_k, cpQ_a] <;> first | assumption | omega)) (kX12_makeNode _ _ _ _ p1 μ _ M q1 q2 q3 q4 hg q5 q6) (by decide) (by simp [rv_cat, int_cat]) (by first | decide | exact Nat.zero_le _ | omega) (by first | decide | exact Nat.zero_le _ | omega) (fun w_19 hp_19 => ?_) (fun E w_ hx_ => hx_.elim)
    obtain ⟨p2, s1, s2, s3⟩ := hp_19
    exact X_vret hO hF rfl dX12_makeChange_22 ⟨rfl, (by first | exact Or.inr ⟨by omega, q0, p2, mks_lv s1 s2, q7.trans s3⟩ | exact Or.inl ⟨by omega, rfl⟩)⟩
