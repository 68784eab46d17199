/-! a node is made in the class -/
theorem dX12_keepState_0 : decode cX12_keepState 0 = .ok (.aload_n 1, 1) := by decide +kernel
theorem dX12_keepState_1 : decode cX12_keepState 1 = .ok (.getfield 308, 3) := by decide +kernel
theorem dX12_keepState_4 : decode cX12_keepState 4 = .ok (.aload_n 0, 1) := by decide +kernel
theorem dX12_keepState_5 : decode cX12_keepState 5 = .ok (.getfield 10, 3) := by decide +kernel
theorem dX12_keepState_8 : decode cX12_keepState 8 = .ok (.getfield 223, 3) := by decide +kernel
theorem dX12_keepState_11 : decode cX12_keepState 11 = .ok (.aload_n 0, 1) := by decide +kernel
theorem dX12_keepState_12 : decode cX12_keepState 12 = .ok (.getfield 22, 3) := by decide +kernel
theorem dX12_keepState_15 : decode cX12_keepState 15 = .ok (.invokevirtual 385, 3) := by decide +kernel
theorem dX12_keepState_18 : decode cX12_keepState 18 = .ok (.aload_n 1, 1) := by decide +kernel
theorem dX12_keepState_19 : decode cX12_keepState 19 = .ok (.aload_n 0, 1) := by decide +kernel
theorem dX12_keepState_20 : decode cX12_keepState 20 = .ok (.getfield 10, 3) := by decide +kernel
theorem dX12_keepState_23 : decode cX12_keepState 23 = .ok (.getfield 271, 3) := by decide +kernel
theorem dX12_keepState_26 : decode cX12_keepState 26 = .ok (.putfield 389, 3) := by decide +kernel
theorem dX12_keepState_29 : decode cX12_keepState 29 = .ok (.return_, 1) := by decide +kernel
set_option maxRecDepth 4000 in
theorem kX12_keepState (γ : LC) (w : Mm) (f x : Int) (sS : Nat) (t0 : w 0 f 0 = 13) (hx : w 0 x 0 = 5) (t2 : w 0 (w 41 f 0) 0 = 2) (hs : ST w (w 24 x 0)) (hd : SD w (w 24 x 0) (w 11 (w 41 f 0) 0)) (h2 : 0 ≤ w 2 (w 28 (w 24 x 0) 0) 0 ∧ w 2 (w 28 (w 24 x 0) 0) 0 ≤ 100000) (hL : ST w (w 11 (w 41 f 0) 0) ∧ SZ w (w 11 (w 41 f 0) 0) ∧ SBt w (w 11 (w 41 f 0) 0) ∧ SE w (w 11 (w 41 f 0) 0)) (hS : w 67 (w 11 (w 41 f 0) 0) 0 ≤ sS) (ht : w 0 (w 44 f 0) 0 = 21 ∧ w 2 (w 44 f 0) 0 = 5) (hts : w 44 f 0 ≠ w 30 (w 24 x 0) 0) : KV γ 4 mX12_keepState [rv f, rv x] w (1) (sS) (fun w' => ∃ W, TM (w 24 x 0) (w 11 (w 41 f 0) 0) w W ∧ w' = up (t_tk (w 24 x 0) (w 11 (w 41 f 0) 0) (w 44 f 0) 8 W) 65 x 0 (w 61 (w 41 f 0) 0)) NX := by
  refine MX_of rfl rfl (by simp [rv_cat, int_cat]) rfl ?_
  rintro κ hO hF rfl
  have hD := hF.dp
  show X κ (1) (sS) w 0 [some (rv f), some (rv x)] []
  obtain ⟨ho, hz, hb, hE⟩ := id hL
  have s0 := hs.1
  have e41 := trivial
  have e61 := trivial
  refine X_aload_n 1 hO dX12_keepState_0 rfl rfl ?_
  refine gX12_308 4 hO dX12_keepState_1 rfl (by first | assumption | omega | (simp (disch := first | decide | assumption | omega) only [up_k, up_s, up_a, up_i, flA_k, flA_a, flA_n, cpA_k, cpA_a, newO_o, newA_o, newO_t, newA_t, newA_n, cpQ_k, cpQ_a] <;> first | assumption | omega)) ?_
  try simp (disch := first | decide | assumption | omega) only [up_k, up_s, up_a, up_i, flA_k, flA_a, flA_n, cpA_k, cpA_a, newO_o, newA_o, newO_t, newA_t, newA_n, cpQ_k, cpQ_a, e41, e61]
  refine X_aload_n 5 hO dX12_keepState_4 rfl rfl ?_
  refine gX12_10 8 hO dX12_keepState_5 rfl (by first | assumption | omega | (simp (disch := first | decide | assumption | omega) only [up_k, up_s, up_a, up_i, flA_k, flA_a, flA_n, cpA_k, cpA_a, newO_o, newA_o, newO_t, newA_t, newA_n, cpQ_k, cpQ_a] <;> first | assumption | omega)) ?_
  try simp (disch := first | decide | assumption | omega) only [up_k, up_s, up_a, up_i, flA_k, flA_a, flA_n, cpA_k, cpA_a, newO_o, newA_o, newO_t, newA_t, newA_n, cpQ_k, cpQ_a, e41, e61]
  refine gX12_223 11 hO dX12_keepState_8 rfl (by first | assumption | omega | (simp (disch := first | decide | assumption | omega) only [up_k, up_s, up_a, up_i, flA_k, flA_a, flA_n, cpA_k, cpA_a, newO_o, newA_o, newO_t, newA_t, newA_n, cpQ_k, cpQ_a] <;> first | assumption | omega)) ?_
  try simp (disch := first | decide | assumption | omega) only [up_k, up_s, up_a, up_i, flA_k, flA_a, flA_n, cpA_k, cpA_a, newO_o, newA_o, newO_t, newA_t, newA_n, cpQ_k, cpQ_a, e41, e61]
  refine X_aload_n 12 hO dX12_keepState_11 rfl rfl ?_
  refine gX12_22 15 hO dX12_keepState_12 rfl (by first | assumption | omega | (simp (disch := first | decide | assumption | omega) only [up_k, up_s, up_a, up_i, flA_k, flA_a, flA_n, cpA_k, cpA_a, newO_o, newA_o, newO_t, newA_t, newA_n, cpQ_k, cpQ_a] <;> first | assumption | omega)) ?_
  try simp (disch := first | decide | assumption | omega) only [up_k, up_s, up_a, up_i, flA_k, flA_a, flA_n, cpA_k, cpA_a, newO_o, newA_o, newO_t, newA_t, newA_n, cpQ_k, cpQ_a, e41, e61]
  refine X_kVv (t := 6) 18 hO hD lX12_385 rfl (by decide) [_, _] rfl dX12_keepState_15 rfl (by first | assumption | omega | (simp (disch := first | decide | assumption | omega) only [up_k, up_s, up_a, up_i, flA_k, flA_a, flA_n, cpA_k, cpA_a, newO_o, newA_o, newO_t, newA_t, newA_n, cpQ_k, cpQ_a] <;> first | assumption | omega)) (kX5_take _ _ _ _ _ sS hs ho hd hz h2 hb hE hS ht hts) (by decide) (by simp [rv_cat, int_cat]) (by first | decide | exact Nat.zero_le _ | omega) (by first | decide | exact Nat.zero_le _ | omega) (fun w_15 hp_15 => ?_) (fun E w_ hx_ => hx_.elim)
  obtain ⟨W, hW, eW⟩ := hp_15
  clear e41 e61
  have gk : ∀ {k : Nat} {a : Int}, k ≠ 1 → k ≠ 67 → k ≠ 3 → k ≠ 28 → w 0 a 0 ≠ 0 → w_15 k a 0 = w k a 0 := fun z1 z2 z3 z4 z5 => by rw [eW, t_tk_k z3]; exact TM_k hW z1 z2 (fun z => absurd z z4) z5
  have c13 : w_15 0 f 0 = 13 := by rw [gk (by decide) (by decide) (by decide) (by decide) (by omega)]; exact t0
  have e41 : w_15 41 f 0 = w 41 f 0 := gk (by decide) (by decide) (by decide) (by decide) (by omega)
  have c2 : w_15 0 (w 41 f 0) 0 = 2 := by rw [gk (by decide) (by decide) (by decide) (by decide) (by omega)]; exact t2
  have e61 : w_15 61 (w 41 f 0) 0 = w 61 (w 41 f 0) 0 := gk (by decide) (by decide) (by decide) (by decide) (by omega)
  have c5 : w_15 0 x 0 = 5 := by rw [gk (by decide) (by decide) (by decide) (by decide) (by omega)]; exact hx
  refine X_aload_n 19 hO dX12_keepState_18 rfl rfl ?_
  refine X_aload_n 20 hO dX12_keepState_19 rfl rfl ?_
  refine gX12_10 23 hO dX12_keepState_20 rfl (by first | assumption | omega | (simp (disch := first | decide | assumption | omega) only [up_k, up_s, up_a, up_i, flA_k, flA_a, flA_n, cpA_k, cpA_a, newO_o, newA_o, newO_t, newA_t, newA_n, cpQ_k, cpQ_a] <;> first | assumption | omega)) ?_
  try simp (disch := first | decide | assumption | omega) only [up_k, up_s, up_a, up_i, flA_k, flA_a, flA_n, cpA_k, cpA_a, newO_o, newA_o, newO_t, newA_t, newA_n, cpQ_k, cpQ_a, e41, e61]
  refine gX12_271 26 hO dX12_keepState_23 rfl (by first | assumption | omega | (simp (disch := first | decide | assumption | omega) only [up_k, up_s, up_a, up_i, flA_k, flA_a, flA_n, cpA_k, cpA_a, newO_o, newA_o, newO_t, newA_t, newA_n, cpQ_k, cpQ_a] <;> first | assumption | omega)) (fun hi_23 => ?_)
  try simp (disch := first | decide | assumption | omega) only [up_k, up_s, up_a, up_i, flA_k, flA_a, flA_n, cpA_k, cpA_a, newO_o, newA_o, newO_t, newA_t, newA_n, cpQ_k, cpQ_a, e41, e61] at hi_23 ⊢
  refine pX12_389 29 hO dX12_keepState_26 rfl (by first | assumption | omega | (simp (disch := first | decide | assumption | omega) only [up_k, up_s, up_a, up_i, flA_k, flA_a, flA_n, cpA_k, cpA_a, newO_o, newA_o, newO_t, newA_t, newA_n, cpQ_k, cpQ_a] <;> first | assumption | omega)) (by omega) ?_
  exact X_vret hO hF rfl dX12_keepState_29 ⟨rfl, ⟨W, hW, by rw [← eW]⟩⟩
theorem dX10_grow_0 : decode cX10_grow 0 = .ok (.aload_n 0, 1) := by decide +kernel
theorem dX10_grow_1 : decode cX10_grow 1 = .ok (.getfield 27, 3) := by decide +kernel
theorem dX10_grow_4 : decode cX10_grow 4 = .ok (.dup, 1) := by decide +kernel
theorem dX10_grow_5 : decode cX10_grow 5 = .ok (.getfield 64, 3) := by decide +kernel
theorem dX10_grow_8 : decode cX10_grow 8 = .ok (.iconst 1, 1) := by decide +kernel
theorem dX10_grow_9 : decode cX10_grow 9 = .ok (.iadd, 1) := by decide +kernel
theorem dX10_grow_10 : decode cX10_grow 10 = .ok (.putfield 64, 3) := by decide +kernel
theorem dX10_grow_13 : decode cX10_grow 13 = .ok (.aload_n 0, 1) := by decide +kernel
theorem dX10_grow_14 : decode cX10_grow 14 = .ok (.getfield 12, 3) := by decide +kernel
theorem dX10_grow_17 : decode cX10_grow 17 = .ok (.aload_n 1, 1) := by decide +kernel
theorem dX10_grow_18 : decode cX10_grow 18 = .ok (.invokeinterface 38 2, 5) := by decide +kernel
theorem dX10_grow_23 : decode cX10_grow 23 = .ok (.pop, 1) := by decide +kernel
theorem dX10_grow_24 : decode cX10_grow 24 = .ok (.aload_n 0, 1) := by decide +kernel
theorem dX10_grow_25 : decode cX10_grow 25 = .ok (.dup, 1) := by decide +kernel
theorem dX10_grow_26 : decode cX10_grow 26 = .ok (.getfield 31, 3) := by decide +kernel
theorem dX10_grow_29 : decode cX10_grow 29 = .ok (.iconst 1, 1) := by decide +kernel
theorem dX10_grow_30 : decode cX10_grow 30 = .ok (.iadd, 1) := by decide +kernel
theorem dX10_grow_31 : decode cX10_grow 31 = .ok (.putfield 31, 3) := by decide +kernel
theorem dX10_grow_34 : decode cX10_grow 34 = .ok (.aload_n 0, 1) := by decide +kernel
theorem dX10_grow_35 : decode cX10_grow 35 = .ok (.aload_n 1, 1) := by decide +kernel
theorem dX10_grow_36 : decode cX10_grow 36 = .ok (.putfield 27, 3) := by decide +kernel
theorem dX10_grow_39 : decode cX10_grow 39 = .ok (.return_, 1) := by decide +kernel
set_option maxRecDepth 4000 in
theorem kX10_grow (γ : LC) (w : Mm) (T x : Int) (sS : Nat) (t0 : w 0 T 0 = 11) (tc : w 0 (w 40 T 0) 0 = 5) (hl : LSn w (w 38 T 0)) (hx : w 0 x 0 = 5) (i64 : IR (w 64 (w 40 T 0) 0 + 1)) (i78 : IR (w 78 T 0 + 1)) (i92 : IR (w 92 (w 38 T 0) 0 + 1)) (hS : w 93 (w 38 T 0) 0 = w 2 (w 51 (w 38 T 0) 0) 0 → w 93 (w 38 T 0) 0 + w 93 (w 38 T 0) 0 / 2 + 1 ≤ sS) (hS2 : sS ≤ 50000) : KV γ 9 mX10_grow [rv T, rv x] w (1) (sS) (fun w' => ∃ W, LAd (w 38 T 0) x (up (up w 64 (w 40 T 0) 0 (w 64 (w 40 T 0) 0 + 1)) 92 (w 38 T 0) 0 (w 92 (w 38 T 0) 0 + 1)) W ∧ w' = up (up W 78 T 0 (w 78 T 0 + 1)) 40 T 0 x) NX := by
  refine MX_of rfl rfl (by simp [rv_cat, int_cat]) rfl ?_
  rintro κ hO hF rfl
  have hD := hF.dp
  show X κ (1) (sS) w 0 [some (rv T), some (rv x)] []
  obtain ⟨⟨l0, l1, l2, l3, l4⟩, l5, l7⟩ := id hl
  have hl1 : LSn (up w 64 (w 40 T 0) 0 (w 64 (w 40 T 0) 0 + 1)) (w 38 T 0) := by unfold LSn LSt EL5; simp (disch := decide) only [up_k]; exact hl
  have hl2 : LSn (up (up w 64 (w 40 T 0) 0 (w 64 (w 40 T 0) 0 + 1)) 92 (w 38 T 0) 0 (w 92 (w 38 T 0) 0 + 1)) (w 38 T 0) := by unfold LSn LSt EL5; simp (disch := decide) only [up_k]; exact hl
  have e78 := trivial
  refine X_aload_n 1 hO dX10_grow_0 rfl rfl ?_
  refine gX10_27 4 hO dX10_grow_1 rfl (by first | assumption | omega | (simp (disch := first | decide | assumption | omega) only [up_k, up_s, up_a, up_i, flA_k, flA_a, flA_n, cpA_k, cpA_a, newO_o, newA_o, newO_t, newA_t, newA_n, cpQ_k, cpQ_a] <;> first | assumption | omega)) ?_
  try simp (disch := first | decide | assumption | omega) only [up_k, up_s, up_a, up_i, flA_k, flA_a, flA_n, cpA_k, cpA_a, newO_o, newA_o, newO_t, newA_t, newA_n, cpQ_k, cpQ_a, e78]
  refine X_dup 5 hO dX10_grow_4 rfl (by first | rfl | exact rv_cat _) ?_
  refine gX10_64 8 hO dX10_grow_5 rfl (by first | assumption | omega | (simp (disch := first | decide | assumption | omega) only [up_k, up_s, up_a, up_i, flA_k, flA_a, flA_n, cpA_k, cpA_a, newO_o, newA_o, newO_t, newA_t, newA_n, cpQ_k, cpQ_a] <;> first | assumption | omega)) (fun hi_5 => ?_)
  try simp (disch := first | decide | assumption | omega) only [up_k, up_s, up_a, up_i, flA_k, flA_a, flA_n, cpA_k, cpA_a, newO_o, newA_o, newO_t, newA_t, newA_n, cpQ_k, cpQ_a, e78] at hi_5 ⊢
  refine X_iconst 9 hO dX10_grow_8 rfl ?_
  refine X_iadd 10 hO dX10_grow_9 rfl ?_
  refine pX10_64 13 hO dX10_grow_10 rfl (by first | assumption | omega | (simp (disch := first | decide | assumption | omega) only [up_k, up_s, up_a, up_i, flA_k, flA_a, flA_n, cpA_k, cpA_a, newO_o, newA_o, newO_t, newA_t, newA_n, cpQ_k, cpQ_a] <;> first | assumption | omega)) (by omega) ?_
  refine X_aload_n 14 hO dX10_grow_13 rfl rfl ?_
  refine gX10_12 17 hO dX10_grow_14 rfl (by first | assumption | omega | (simp (disch := first | decide | assumption | omega) only [up_k, up_s, up_a, up_i, flA_k, flA_a, flA_n, cpA_k, cpA_a, newO_o, newA_o, newO_t, newA_t, newA_n, cpQ_k, cpQ_a] <;> first | assumption | omega)) ?_
  try simp (disch := first | decide | assumption | omega) only [up_k, up_s, up_a, up_i, flA_k, flA_a, flA_n, cpA_k, cpA_a, newO_o, newA_o, newO_t, newA_t, newA_n, cpQ_k, cpQ_a, e78]
  refine X_aload_n 18 hO dX10_grow_17 rfl rfl ?_
  refine X_kFi 23 hO hD fX10_38 [_] rfl dX10_grow_18 rfl (by first | assumption | omega | (simp (disch := first | decide | assumption | omega) only [up_k, up_s, up_a, up_i, flA_k, flA_a, flA_n, cpA_k, cpA_a, newO_o, newA_o, newO_t, newA_t, newA_n, cpQ_k, cpQ_a] <;> first | assumption | omega)) (kJx4a65c_add_9ea2d _ _ _ _ sS hl1 (by rw [up_k _ (by decide)]; exact hx) (by simp (disch := decide) only [up_k]; exact hS) hS2 (by rw [up_k _ (by decide)]; exact i92)) (by decide) (by simp [rv_cat, int_cat]) (by first | decide | exact Nat.zero_le _ | omega) (by first | decide | exact Nat.zero_le _ | omega) (fun r_18 w_18 hr_18 hp_18 => ?_) (fun E w_ hx_ => hx_.elim)
  obtain ⟨-, hA⟩ := hp_18
  rw [up_k _ (by decide)] at hA
  clear e78
  obtain ⟨p1, p2, -⟩ := hA.v hl2
  have c11 : w_18 0 T 0 = 11 := by rw [p2 0 T 0 (by rw [up_k _ (by decide), up_k _ (by decide)]; omega) (Or.inl (by decide)) (Or.inl (by decide)) (Or.inl (by decide)), up_k _ (by decide), up_k _ (by decide)]; exact t0
  have e78 : w_18 78 T 0 = w 78 T 0 := by rw [p2 78 T 0 (by rw [up_k _ (by decide), up_k _ (by decide)]; omega) (Or.inl (by decide)) (Or.inl (by decide)) (Or.inl (by decide)), up_k _ (by decide), up_k _ (by decide)]
  have c5 : w_18 0 x 0 = 5 := by rw [p2 0 x 0 (by rw [up_k _ (by decide), up_k _ (by decide)]; omega) (Or.inl (by decide)) (Or.inl (by decide)) (Or.inl (by decide)), up_k _ (by decide), up_k _ (by decide)]; exact hx
  refine X_pop 24 hO dX10_grow_23 rfl (by first | rfl | exact rv_cat _) ?_
  refine X_aload_n 25 hO dX10_grow_24 rfl rfl ?_
  refine X_dup 26 hO dX10_grow_25 rfl (by first | rfl | exact rv_cat _) ?_
  refine gX10_31 29 hO dX10_grow_26 rfl (by first | assumption | omega | (simp (disch := first | decide | assumption | omega) only [up_k, up_s, up_a, up_i, flA_k, flA_a, flA_n, cpA_k, cpA_a, newO_o, newA_o, newO_t, newA_t, newA_n, cpQ_k, cpQ_a] <;> first | assumption | omega)) (fun hi_26 => ?_)
  try simp (disch := first | decide | assumption | omega) only [up_k, up_s, up_a, up_i, flA_k, flA_a, flA_n, cpA_k, cpA_a, newO_o, newA_o, newO_t, newA_t, newA_n, cpQ_k, cpQ_a, e78] at hi_26 ⊢
  refine X_iconst 30 hO dX10_grow_29 rfl ?_
  refine X_iadd 31 hO dX10_grow_30 rfl ?_
  refine pX10_31 34 hO dX10_grow_31 rfl (by first | assumption | omega | (simp (disch := first | decide | assumption | omega) only [up_k, up_s, up_a, up_i, flA_k, flA_a, flA_n, cpA_k, cpA_a, newO_o, newA_o, newO_t, newA_t, newA_n, cpQ_k, cpQ_a] <;> first | assumption | omega)) (by omega) ?_
  refine X_aload_n 35 hO dX10_grow_34 rfl rfl ?_
  refine X_aload_n 36 hO dX10_grow_35 rfl rfl ?_
  refine pX10_27 39 hO dX10_grow_36 rfl (by first | assumption | omega | (simp (disch := first | decide | assumption | omega) only [up_k, up_s, up_a, up_i, flA_k, flA_a, flA_n, cpA_k, cpA_a, newO_o, newA_o, newO_t, newA_t, newA_n, cpQ_k, cpQ_a] <;> first | assumption | omega)) ?_
  exact X_vret hO hF rfl dX10_grow_39 ⟨rfl, ⟨w_18, hA, rfl⟩⟩
