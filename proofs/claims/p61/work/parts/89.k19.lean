/-! marks set and unset, stores noted, bookmarks -/
def g_mark (f i b : Int) (w : Mm) : Mm := up (up (up w 91 f 0 (w 1 (w 29 (w 11 (w 41 f 0) 0) 0) i)) 1 (w 29 (w 11 (w 41 f 0) 0) 0) i (w 61 (w 41 f 0) 0)) 1 (w 30 (w 11 (w 41 f 0) 0) 0) i b
def g_unm (f i : Int) (w : Mm) : Mm := up (up w 91 f 0 (w 1 (w 29 (w 11 (w 41 f 0) 0) 0) i)) 1 (w 29 (w 11 (w 41 f 0) 0) 0) i (-1)
theorem dX12_storeWasSet_0 : decode cX12_storeWasSet 0 = .ok (.aload_n 0, 1) := by decide +kernel
theorem dX12_storeWasSet_1 : decode cX12_storeWasSet 1 = .ok (.getfield 22, 3) := by decide +kernel
theorem dX12_storeWasSet_4 : decode cX12_storeWasSet 4 = .ok (.iload_n 1, 1) := by decide +kernel
theorem dX12_storeWasSet_5 : decode cX12_storeWasSet 5 = .ok (.baload, 1) := by decide +kernel
theorem dX12_storeWasSet_6 : decode cX12_storeWasSet 6 = .ok (.ifCond .eq 11, 3) := by decide +kernel
theorem dX12_storeWasSet_9 : decode cX12_storeWasSet 9 = .ok (.aload_n 0, 1) := by decide +kernel
theorem dX12_storeWasSet_10 : decode cX12_storeWasSet 10 = .ok (.getfield 10, 3) := by decide +kernel
theorem dX12_storeWasSet_13 : decode cX12_storeWasSet 13 = .ok (.iconst 5, 1) := by decide +kernel
theorem dX12_storeWasSet_14 : decode cX12_storeWasSet 14 = .ok (.invokevirtual 192, 3) := by decide +kernel
theorem dX12_storeWasSet_17 : decode cX12_storeWasSet 17 = .ok (.iconst 0, 1) := by decide +kernel
theorem dX12_storeWasSet_18 : decode cX12_storeWasSet 18 = .ok (.ireturn, 1) := by decide +kernel
set_option maxRecDepth 4000 in
theorem kX12_storeWasSet (γ : LC) (w : Mm) (f q : Int) (t0 : w 0 f 0 = 13) (hd : DTl w (w 41 f 0)) (hQ : QT w (w 12 (w 41 f 0) 0)) (ht : w 0 (w 44 f 0) 0 = 21 ∧ w 2 (w 44 f 0) 0 = 5) (hq : 0 ≤ q ∧ q < 5) : KI γ 4 mX12_storeWasSet [rv f, .int (I q)] w (1) (5) (fun r w' => r = 0 ∧ ((w 1 (w 44 f 0) q = 0 ∧ w' = w) ∨ (w 1 (w 44 f 0) q ≠ 0 ∧ ∃ x, 0 < x ∧ w 0 x 0 = 0 ∧ w' = k_step (w 12 (w 41 f 0) 0) x 5 0 0 0 (w)))) NX := by
  refine MX_of rfl rfl (by simp [rv_cat, int_cat]) rfl ?_
  rintro κ hO hF rfl
  have hD := hF.dp
  show X κ (1) (5) w 0 [some (rv f), some (.int (I q))] []
  obtain ⟨y0, y1, ⟨y2, y3⟩, ⟨y4, y5⟩, y6, y7, y8⟩ := id hd
  obtain ⟨tr1, tr2⟩ := id ht
  refine X_aload_n 1 hO dX12_storeWasSet_0 rfl rfl ?_
  refine gX12_22 4 hO dX12_storeWasSet_1 rfl (by first | assumption | omega | (simp (disch := first | decide | assumption | omega) only [up_k, up_s, up_a, up_i, flA_k, flA_a, flA_n, cpA_k, cpA_a, newO_o, newA_o, newO_t, newA_t, newA_n, cpQ_k, cpQ_a] <;> first | assumption | omega)) ?_
  try simp (disch := first | decide | assumption | omega) only [up_k, up_s, up_a, up_i, flA_k, flA_a, flA_n, cpA_k, cpA_a, newO_o, newA_o, newO_t, newA_t, newA_n, cpQ_k, cpQ_a]
  refine X_iload_n 5 hO dX12_storeWasSet_4 rfl rfl ?_
  refine X_zald 6 hO dX12_storeWasSet_5 rfl (by first | assumption | omega | (simp (disch := first | decide | assumption | omega) only [up_k, up_s, up_a, up_i, flA_k, flA_a, flA_n, cpA_k, cpA_a, newO_o, newA_o, newO_t, newA_t, newA_n, cpQ_k, cpQ_a] <;> first | assumption | omega)) (by first | assumption | omega | (simp (disch := first | decide | assumption | omega) only [up_k, up_s, up_a, up_i, flA_k, flA_a, flA_n, cpA_k, cpA_a, newO_o, newA_o, newO_t, newA_t, newA_n, cpQ_k, cpQ_a] <;> first | assumption | omega)) (fun hi_5 => ?_)
  try simp (disch := first | decide | assumption | omega) only [up_k, up_s, up_a, up_i, flA_k, flA_a, flA_n, cpA_k, cpA_a, newO_o, newA_o, newO_t, newA_t, newA_n, cpQ_k, cpQ_a] at hi_5 ⊢
  refine X_if_eq 9 17 hO dX12_storeWasSet_6 rfl rfl (by omega) (fun hc_6 => ?_) (fun hc_6 => ?_)
  ·
    refine X_iconst 18 hO dX12_storeWasSet_17 rfl ?_
    exact X_iret hO hF rfl (by first | exact Or.inl rfl | exact Or.inr ⟨rfl, bi_01 _⟩ | exact Or.inr ⟨rfl, by omega⟩) dX12_storeWasSet_18 ⟨_, rfl, (by omega), (by first | exact ⟨rfl, Or.inl ⟨hc_6, rfl⟩⟩ | exact ⟨rfl, Or.inr ⟨hc_6, x, hx0, hxf, rfl⟩⟩)⟩
  ·
    refine X_aload_n 10 hO dX12_storeWasSet_9 rfl rfl ?_
    refine gX12_10 13 hO dX12_storeWasSet_10 rfl (by first | assumption | omega | (simp (disch := first | decide | assumption | omega) only [up_k, up_s, up_a, up_i, flA_k, flA_a, flA_n, cpA_k, cpA_a, newO_o, newA_o, newO_t, newA_t, newA_n, cpQ_k, cpQ_a] <;> first | assumption | omega)) ?_
    try simp (disch := first | decide | assumption | omega) only [up_k, up_s, up_a, up_i, flA_k, flA_a, flA_n, cpA_k, cpA_a, newO_o, newA_o, newO_t, newA_t, newA_n, cpQ_k, cpQ_a]
    refine X_iconst 14 hO dX12_storeWasSet_13 rfl ?_
    refine X_kVv (t := 2) 17 hO hD lX12_192 rfl (by decide) [_] rfl dX12_storeWasSet_14 rfl (by first | assumption | omega | (simp (disch := first | decide | assumption | omega) only [up_k, up_s, up_a, up_i, flA_k, flA_a, flA_n, cpA_k, cpA_a, newO_o, newA_o, newO_t, newA_t, newA_n, cpQ_k, cpQ_a] <;> first | assumption | omega)) (kX1_addStep _ _ _ _ hd.1 hQ (by omega)) (by decide) (by simp [rv_cat, int_cat]) (by first | decide | exact Nat.zero_le _ | omega) (by first | decide | exact Nat.zero_le _ | omega) (fun w_14 hp_14 => ?_) (fun E w_ hx_ => hx_.elim)
    obtain ⟨x, hx0, hxf, ex_14⟩ := hp_14
    subst ex_14
    refine X_iconst 18 hO dX12_storeWasSet_17 rfl ?_
    exact X_iret hO hF rfl (by first | exact Or.inl rfl | exact Or.inr ⟨rfl, bi_01 _⟩ | exact Or.inr ⟨rfl, by omega⟩) dX12_storeWasSet_18 ⟨_, rfl, (by omega), (by first | exact ⟨rfl, Or.inl ⟨hc_6, rfl⟩⟩ | exact ⟨rfl, Or.inr ⟨hc_6, x, hx0, hxf, rfl⟩⟩)⟩
theorem dX12_markPoint_0 : decode cX12_markPoint 0 = .ok (.aload_n 0, 1) := by decide +kernel
theorem dX12_markPoint_1 : decode cX12_markPoint 1 = .ok (.aload_n 0, 1) := by decide +kernel
theorem dX12_markPoint_2 : decode cX12_markPoint 2 = .ok (.getfield 10, 3) := by decide +kernel
theorem dX12_markPoint_5 : decode cX12_markPoint 5 = .ok (.getfield 223, 3) := by decide +kernel
theorem dX12_markPoint_8 : decode cX12_markPoint 8 = .ok (.getfield 284, 3) := by decide +kernel
theorem dX12_markPoint_11 : decode cX12_markPoint 11 = .ok (.iload_n 1, 1) := by decide +kernel
theorem dX12_markPoint_12 : decode cX12_markPoint 12 = .ok (.iaload, 1) := by decide +kernel
theorem dX12_markPoint_13 : decode cX12_markPoint 13 = .ok (.putfield 122, 3) := by decide +kernel
theorem dX12_markPoint_16 : decode cX12_markPoint 16 = .ok (.aload_n 0, 1) := by decide +kernel
theorem dX12_markPoint_17 : decode cX12_markPoint 17 = .ok (.getfield 10, 3) := by decide +kernel
theorem dX12_markPoint_20 : decode cX12_markPoint 20 = .ok (.getfield 223, 3) := by decide +kernel
theorem dX12_markPoint_23 : decode cX12_markPoint 23 = .ok (.getfield 284, 3) := by decide +kernel
theorem dX12_markPoint_26 : decode cX12_markPoint 26 = .ok (.iload_n 1, 1) := by decide +kernel
theorem dX12_markPoint_27 : decode cX12_markPoint 27 = .ok (.aload_n 0, 1) := by decide +kernel
theorem dX12_markPoint_28 : decode cX12_markPoint 28 = .ok (.getfield 10, 3) := by decide +kernel
theorem dX12_markPoint_31 : decode cX12_markPoint 31 = .ok (.getfield 271, 3) := by decide +kernel
theorem dX12_markPoint_34 : decode cX12_markPoint 34 = .ok (.iastore, 1) := by decide +kernel
theorem dX12_markPoint_35 : decode cX12_markPoint 35 = .ok (.aload_n 0, 1) := by decide +kernel
theorem dX12_markPoint_36 : decode cX12_markPoint 36 = .ok (.getfield 10, 3) := by decide +kernel
theorem dX12_markPoint_39 : decode cX12_markPoint 39 = .ok (.getfield 223, 3) := by decide +kernel
theorem dX12_markPoint_42 : decode cX12_markPoint 42 = .ok (.getfield 503, 3) := by decide +kernel
theorem dX12_markPoint_45 : decode cX12_markPoint 45 = .ok (.iload_n 1, 1) := by decide +kernel
theorem dX12_markPoint_46 : decode cX12_markPoint 46 = .ok (.iload_n 2, 1) := by decide +kernel
theorem dX12_markPoint_47 : decode cX12_markPoint 47 = .ok (.bastore, 1) := by decide +kernel
theorem dX12_markPoint_48 : decode cX12_markPoint 48 = .ok (.aload_n 0, 1) := by decide +kernel
theorem dX12_markPoint_49 : decode cX12_markPoint 49 = .ok (.getfield 10, 3) := by decide +kernel
theorem dX12_markPoint_52 : decode cX12_markPoint 52 = .ok (.iconst 4, 1) := by decide +kernel
theorem dX12_markPoint_53 : decode cX12_markPoint 53 = .ok (.invokevirtual 192, 3) := by decide +kernel
theorem dX12_markPoint_56 : decode cX12_markPoint 56 = .ok (.iconst 0, 1) := by decide +kernel
theorem dX12_markPoint_57 : decode cX12_markPoint 57 = .ok (.ireturn, 1) := by decide +kernel
set_option maxRecDepth 4000 in
theorem kX12_markPoint (γ : LC) (w : Mm) (f i b : Int) (t0 : w 0 f 0 = 13) (hd : DTl w (w 41 f 0)) (hQ : QT w (w 12 (w 41 f 0) 0)) (hs : ST w (w 11 (w 41 f 0) 0)) (hi : 0 ≤ i ∧ i < 6) (hb : b = 0 ∨ b = 1) : KI γ 4 mX12_markPoint [rv f, .int (I i), .int (I b)] w (1) (5) (fun r w' => r = 0 ∧ ∃ x, 0 < x ∧ w 0 x 0 = 0 ∧ w' = k_step (w 12 (w 41 f 0) 0) x 4 0 0 0 (g_mark f i b w)) NX := by
  refine MX_of rfl rfl (by simp [rv_cat, int_cat]) rfl ?_
  rintro κ hO hF rfl
  have hD := hF.dp
  show X κ (1) (5) w 0 [some (rv f), some (.int (I i)), some (.int (I b))] []
  obtain ⟨y0, y1, ⟨y2, y3⟩, ⟨y4, y5⟩, y6, y7, y8⟩ := id hd
  obtain ⟨s0, ⟨s1, s2, s3, s4⟩, ⟨s5, s6, s7⟩, s8⟩ := id hs
  refine X_aload_n 1 hO dX12_markPoint_0 rfl rfl ?_
  refine X_aload_n 2 hO dX12_markPoint_1 rfl rfl ?_
  refine gX12_10 5 hO dX12_markPoint_2 rfl (by first | assumption | omega | (simp (disch := first | decide | assumption | omega) only [up_k, up_s, up_a, up_i, flA_k, flA_a, flA_n, cpA_k, cpA_a, newO_o, newA_o, newO_t, newA_t, newA_n, cpQ_k, cpQ_a] <;> first | assumption | omega)) ?_
  try simp (disch := first | decide | assumption | omega) only [up_k, up_s, up_a, up_i, flA_k, flA_a, flA_n, cpA_k, cpA_a, newO_o, newA_o, newO_t, newA_t, newA_n, cpQ_k, cpQ_a]
  refine gX12_223 8 hO dX12_markPoint_5 rfl (by first | assumption | omega | (simp (disch := first | decide | assumption | omega) only [up_k, up_s, up_a, up_i, flA_k, flA_a, flA_n, cpA_k, cpA_a, newO_o, newA_o, newO_t, newA_t, newA_n, cpQ_k, cpQ_a] <;> first | assumption | omega)) ?_
  try simp (disch := first | decide | assumption | omega) only [up_k, up_s, up_a, up_i, flA_k, flA_a, flA_n, cpA_k, cpA_a, newO_o, newA_o, newO_t, newA_t, newA_n, cpQ_k, cpQ_a]
  refine gX12_284 11 hO dX12_markPoint_8 rfl (by first | assumption | omega | (simp (disch := first | decide | assumption | omega) only [up_k, up_s, up_a, up_i, flA_k, flA_a, flA_n, cpA_k, cpA_a, newO_o, newA_o, newO_t, newA_t, newA_n, cpQ_k, cpQ_a] <;> first | assumption | omega)) ?_
  try simp (disch := first | decide | assumption | omega) only [up_k, up_s, up_a, up_i, flA_k, flA_a, flA_n, cpA_k, cpA_a, newO_o, newA_o, newO_t, newA_t, newA_n, cpQ_k, cpQ_a]
  refine X_iload_n 12 hO dX12_markPoint_11 rfl rfl ?_
  refine X_iald 13 hO dX12_markPoint_12 rfl (by first | assumption | omega | (simp (disch := first | decide | assumption | omega) only [up_k, up_s, up_a, up_i, flA_k, flA_a, flA_n, cpA_k, cpA_a, newO_o, newA_o, newO_t, newA_t, newA_n, cpQ_k, cpQ_a] <;> first | assumption | omega)) (by first | assumption | omega | (simp (disch := first | decide | assumption | omega) only [up_k, up_s, up_a, up_i, flA_k, flA_a, flA_n, cpA_k, cpA_a, newO_o, newA_o, newO_t, newA_t, newA_n, cpQ_k, cpQ_a] <;> first | assumption | omega)) (fun hi_12 => ?_)
  try simp (disch := first | decide | assumption | omega) only [up_k, up_s, up_a, up_i, flA_k, flA_a, flA_n, cpA_k, cpA_a, newO_o, newA_o, newO_t, newA_t, newA_n, cpQ_k, cpQ_a] at hi_12 ⊢
  refine pX12_122 16 hO dX12_markPoint_13 rfl (by first | assumption | omega | (simp (disch := first | decide | assumption | omega) only [up_k, up_s, up_a, up_i, flA_k, flA_a, flA_n, cpA_k, cpA_a, newO_o, newA_o, newO_t, newA_t, newA_n, cpQ_k, cpQ_a] <;> first | assumption | omega)) (by omega) ?_
  refine X_aload_n 17 hO dX12_markPoint_16 rfl rfl ?_
  refine gX12_10 20 hO dX12_markPoint_17 rfl (by first | assumption | omega | (simp (disch := first | decide | assumption | omega) only [up_k, up_s, up_a, up_i, flA_k, flA_a, flA_n, cpA_k, cpA_a, newO_o, newA_o, newO_t, newA_t, newA_n, cpQ_k, cpQ_a] <;> first | assumption | omega)) ?_
  try simp (disch := first | decide | assumption | omega) only [up_k, up_s, up_a, up_i, flA_k, flA_a, flA_n, cpA_k, cpA_a, newO_o, newA_o, newO_t, newA_t, newA_n, cpQ_k, cpQ_a]
  refine gX12_223 23 hO dX12_markPoint_20 rfl (by first | assumption | omega | (simp (disch := first | decide | assumption | omega) only [up_k, up_s, up_a, up_i, flA_k, flA_a, flA_n, cpA_k, cpA_a, newO_o, newA_o, newO_t, newA_t, newA_n, cpQ_k, cpQ_a] <;> first | assumption | omega)) ?_
  try simp (disch := first | decide | assumption | omega) only [up_k, up_s, up_a, up_i, flA_k, flA_a, flA_n, cpA_k, cpA_a, newO_o, newA_o, newO_t, newA_t, newA_n, cpQ_k, cpQ_a]
  refine gX12_284 26 hO dX12_markPoint_23 rfl (by first | assumption | omega | (simp (disch := first | decide | assumption | omega) only [up_k, up_s, up_a, up_i, flA_k, flA_a, flA_n, cpA_k, cpA_a, newO_o, newA_o, newO_t, newA_t, newA_n, cpQ_k, cpQ_a] <;> first | assumption | omega)) ?_
  try simp (disch := first | decide | assumption | omega) only [up_k, up_s, up_a, up_i, flA_k, flA_a, flA_n, cpA_k, cpA_a, newO_o, newA_o, newO_t, newA_t, newA_n, cpQ_k, cpQ_a]
  refine X_iload_n 27 hO dX12_markPoint_26 rfl rfl ?_
  refine X_aload_n 28 hO dX12_markPoint_27 rfl rfl ?_
  refine gX12_10 31 hO dX12_markPoint_28 rfl (by first | assumption | omega | (simp (disch := first | decide | assumption | omega) only [up_k, up_s, up_a, up_i, flA_k, flA_a, flA_n, cpA_k, cpA_a, newO_o, newA_o, newO_t, newA_t, newA_n, cpQ_k, cpQ_a] <;> first | assumption | omega)) ?_
  try simp (disch := first | decide | assumption | omega) only [up_k, up_s, up_a, up_i, flA_k, flA_a, flA_n, cpA_k, cpA_a, newO_o, newA_o, newO_t, newA_t, newA_n, cpQ_k, cpQ_a]
  refine gX12_271 34 hO dX12_markPoint_31 rfl (by first | assumption | omega | (simp (disch := first | decide | assumption | omega) only [up_k, up_s, up_a, up_i, flA_k, flA_a, flA_n, cpA_k, cpA_a, newO_o, newA_o, newO_t, newA_t, newA_n, cpQ_k, cpQ_a] <;> first | assumption | omega)) (fun hi_31 => ?_)
  try simp (disch := first | decide | assumption | omega) only [up_k, up_s, up_a, up_i, flA_k, flA_a, flA_n, cpA_k, cpA_a, newO_o, newA_o, newO_t, newA_t, newA_n, cpQ_k, cpQ_a] at hi_31 ⊢
  refine X_iast 35 hO dX12_markPoint_34 rfl (by first | assumption | omega | (simp (disch := first | decide | assumption | omega) only [up_k, up_s, up_a, up_i, flA_k, flA_a, flA_n, cpA_k, cpA_a, newO_o, newA_o, newO_t, newA_t, newA_n, cpQ_k, cpQ_a] <;> first | assumption | omega)) (by first | assumption | omega | (simp (disch := first | decide | assumption | omega) only [up_k, up_s, up_a, up_i, flA_k, flA_a, flA_n, cpA_k, cpA_a, newO_o, newA_o, newO_t, newA_t, newA_n, cpQ_k, cpQ_a] <;> first | assumption | omega)) (by omega) ?_
  refine X_aload_n 36 hO dX12_markPoint_35 rfl rfl ?_
  refine gX12_10 39 hO dX12_markPoint_36 rfl (by first | assumption | omega | (simp (disch := first | decide | assumption | omega) only [up_k, up_s, up_a, up_i, flA_k, flA_a, flA_n, cpA_k, cpA_a, newO_o, newA_o, newO_t, newA_t, newA_n, cpQ_k, cpQ_a] <;> first | assumption | omega)) ?_
  try simp (disch := first | decide | assumption | omega) only [up_k, up_s, up_a, up_i, flA_k, flA_a, flA_n, cpA_k, cpA_a, newO_o, newA_o, newO_t, newA_t, newA_n, cpQ_k, cpQ_a]
  refine gX12_223 42 hO dX12_markPoint_39 rfl (by first | assumption | omega | (simp (disch := first | decide | assumption | omega) only [up_k, up_s, up_a, up_i, flA_k, flA_a, flA_n, cpA_k, cpA_a, newO_o, newA_o, newO_t, newA_t, newA_n, cpQ_k, cpQ_a] <;> first | assumption | omega)) ?_
  try simp (disch := first | decide | assumption | omega) only [up_k, up_s, up_a, up_i, flA_k, flA_a, flA_n, cpA_k, cpA_a, newO_o, newA_o, newO_t, newA_t, newA_n, cpQ_k, cpQ_a]
  refine gX12_503 45 hO dX12_markPoint_42 rfl (by first | assumption | omega | (simp (disch := first | decide | assumption | omega) only [up_k, up_s, up_a, up_i, flA_k, flA_a, flA_n, cpA_k, cpA_a, newO_o, newA_o, newO_t, newA_t, newA_n, cpQ_k, cpQ_a] <;> first | assumption | omega)) ?_
  try simp (disch := first | decide | assumption | omega) only [up_k, up_s, up_a, up_i, flA_k, flA_a, flA_n, cpA_k, cpA_a, newO_o, newA_o, newO_t, newA_t, newA_n, cpQ_k, cpQ_a]
  refine X_iload_n 46 hO dX12_markPoint_45 rfl rfl ?_
  refine X_iload_n 47 hO dX12_markPoint_46 rfl rfl ?_
  refine X_zast 48 hO dX12_markPoint_47 rfl (by first | assumption | omega | (simp (disch := first | decide | assumption | omega) only [up_k, up_s, up_a, up_i, flA_k, flA_a, flA_n, cpA_k, cpA_a, newO_o, newA_o, newO_t, newA_t, newA_n, cpQ_k, cpQ_a] <;> first | assumption | omega)) (by first | assumption | omega | (simp (disch := first | decide | assumption | omega) only [up_k, up_s, up_a, up_i, flA_k, flA_a, flA_n, cpA_k, cpA_a, newO_o, newA_o, newO_t, newA_t, newA_n, cpQ_k, cpQ_a] <;> first | assumption | omega)) hb ?_
  refine X_aload_n 49 hO dX12_markPoint_48 rfl rfl ?_
  refine gX12_10 52 hO dX12_markPoint_49 rfl (by first | assumption | omega | (simp (disch := first | decide | assumption | omega) only [up_k, up_s, up_a, up_i, flA_k, flA_a, flA_n, cpA_k, cpA_a, newO_o, newA_o, newO_t, newA_t, newA_n, cpQ_k, cpQ_a] <;> first | assumption | omega)) ?_
  try simp (disch := first | decide | assumption | omega) only [up_k, up_s, up_a, up_i, flA_k, flA_a, flA_n, cpA_k, cpA_a, newO_o, newA_o, newO_t, newA_t, newA_n, cpQ_k, cpQ_a]
  refine X_iconst 53 hO dX12_markPoint_52 rfl ?_
  refine X_kVv (t := 2) 56 hO hD lX12_192 rfl (by decide) [_] rfl dX12_markPoint_53 rfl (by first | assumption | omega | (simp (disch := first | decide | assumption | omega) only [up_k, up_s, up_a, up_i, flA_k, flA_a, flA_n, cpA_k, cpA_a, newO_o, newA_o, newO_t, newA_t, newA_n, cpQ_k, cpQ_a] <;> first | assumption | omega)) (kX1_addStep _ _ _ _ (by simp (disch := decide) only [up_k]; exact hd.1) (by simp (disch := decide) only [up_k]; exact QT_c (fun k a h => by simp (disch := omega) only [up_k]) hQ) (by omega)) (by decide) (by simp [rv_cat, int_cat]) (by first | decide | exact Nat.zero_le _ | omega) (by first | decide | exact Nat.zero_le _ | omega) (fun w_53 hp_53 => ?_) (fun E w_ hx_ => hx_.elim)
  obtain ⟨x, hx0, hxf, ex_53⟩ := hp_53
  simp (disch := decide) only [up_k] at hxf ex_53
  subst ex_53
  refine X_iconst 57 hO dX12_markPoint_56 rfl ?_
  exact X_iret hO hF rfl (by first | exact Or.inl rfl | exact Or.inr ⟨rfl, bi_01 _⟩ | exact Or.inr ⟨rfl, by omega⟩) dX12_markPoint_57 ⟨_, rfl, (by omega), ⟨rfl, x, hx0, hxf, rfl⟩⟩
theorem dX12_unsetMark_0 : decode cX12_unsetMark 0 = .ok (.aload_n 0, 1) := by decide +kernel
theorem dX12_unsetMark_1 : decode cX12_unsetMark 1 = .ok (.aload_n 0, 1) := by decide +kernel
theorem dX12_unsetMark_2 : decode cX12_unsetMark 2 = .ok (.getfield 10, 3) := by decide +kernel
theorem dX12_unsetMark_5 : decode cX12_unsetMark 5 = .ok (.getfield 223, 3) := by decide +kernel
theorem dX12_unsetMark_8 : decode cX12_unsetMark 8 = .ok (.getfield 284, 3) := by decide +kernel
theorem dX12_unsetMark_11 : decode cX12_unsetMark 11 = .ok (.iload_n 1, 1) := by decide +kernel
theorem dX12_unsetMark_12 : decode cX12_unsetMark 12 = .ok (.iaload, 1) := by decide +kernel
theorem dX12_unsetMark_13 : decode cX12_unsetMark 13 = .ok (.putfield 122, 3) := by decide +kernel
theorem dX12_unsetMark_16 : decode cX12_unsetMark 16 = .ok (.aload_n 0, 1) := by decide +kernel
theorem dX12_unsetMark_17 : decode cX12_unsetMark 17 = .ok (.getfield 122, 3) := by decide +kernel
theorem dX12_unsetMark_20 : decode cX12_unsetMark 20 = .ok (.iconst (-1), 1) := by decide +kernel
theorem dX12_unsetMark_21 : decode cX12_unsetMark 21 = .ok (.if_icmp .ne 5, 3) := by decide +kernel
theorem dX12_unsetMark_24 : decode cX12_unsetMark 24 = .ok (.iconst 3, 1) := by decide +kernel
theorem dX12_unsetMark_25 : decode cX12_unsetMark 25 = .ok (.ireturn, 1) := by decide +kernel
theorem dX12_unsetMark_26 : decode cX12_unsetMark 26 = .ok (.aload_n 0, 1) := by decide +kernel
theorem dX12_unsetMark_27 : decode cX12_unsetMark 27 = .ok (.getfield 10, 3) := by decide +kernel
theorem dX12_unsetMark_30 : decode cX12_unsetMark 30 = .ok (.getfield 223, 3) := by decide +kernel
theorem dX12_unsetMark_33 : decode cX12_unsetMark 33 = .ok (.getfield 284, 3) := by decide +kernel
theorem dX12_unsetMark_36 : decode cX12_unsetMark 36 = .ok (.iload_n 1, 1) := by decide +kernel
theorem dX12_unsetMark_37 : decode cX12_unsetMark 37 = .ok (.iconst (-1), 1) := by decide +kernel
theorem dX12_unsetMark_38 : decode cX12_unsetMark 38 = .ok (.iastore, 1) := by decide +kernel
theorem dX12_unsetMark_39 : decode cX12_unsetMark 39 = .ok (.aload_n 0, 1) := by decide +kernel
theorem dX12_unsetMark_40 : decode cX12_unsetMark 40 = .ok (.getfield 10, 3) := by decide +kernel
theorem dX12_unsetMark_43 : decode cX12_unsetMark 43 = .ok (.iconst 4, 1) := by decide +kernel
theorem dX12_unsetMark_44 : decode cX12_unsetMark 44 = .ok (.invokevirtual 192, 3) := by decide +kernel
theorem dX12_unsetMark_47 : decode cX12_unsetMark 47 = .ok (.iconst 0, 1) := by decide +kernel
theorem dX12_unsetMark_48 : decode cX12_unsetMark 48 = .ok (.ireturn, 1) := by decide +kernel
set_option maxRecDepth 4000 in
theorem kX12_unsetMark (γ : LC) (w : Mm) (f i : Int) (t0 : w 0 f 0 = 13) (hd : DTl w (w 41 f 0)) (hQ : QT w (w 12 (w 41 f 0) 0)) (hs : ST w (w 11 (w 41 f 0) 0)) (hi : 0 ≤ i ∧ i < 6) : KI γ 4 mX12_unsetMark [rv f, .int (I i)] w (1) (5) (fun r w' => (w 1 (w 29 (w 11 (w 41 f 0) 0) 0) i = -1 ∧ r = 3 ∧ w' = up w 91 f 0 (-1)) ∨ (w 1 (w 29 (w 11 (w 41 f 0) 0) 0) i ≠ -1 ∧ r = 0 ∧ ∃ x, 0 < x ∧ w 0 x 0 = 0 ∧ w' = k_step (w 12 (w 41 f 0) 0) x 4 0 0 0 (g_unm f i w))) NX := by
  refine MX_of rfl rfl (by simp [rv_cat, int_cat]) rfl ?_
  rintro κ hO hF rfl
  have hD := hF.dp
  show X κ (1) (5) w 0 [some (rv f), some (.int (I i))] []
  obtain ⟨y0, y1, ⟨y2, y3⟩, ⟨y4, y5⟩, y6, y7, y8⟩ := id hd
  obtain ⟨s0, ⟨s1, s2, s3, s4⟩, ⟨s5, s6, s7⟩, s8⟩ := id hs
  refine X_aload_n 1 hO dX12_unsetMark_0 rfl rfl ?_
  refine X_aload_n 2 hO dX12_unsetMark_1 rfl rfl ?_
  refine gX12_10 5 hO dX12_unsetMark_2 rfl (by first | assumption | omega | (simp (disch := first | decide | assumption | omega) only [up_k, up_s, up_a, up_i, flA_k, flA_a, flA_n, cpA_k, cpA_a, newO_o, newA_o, newO_t, newA_t, newA_n, cpQ_k, cpQ_a] <;> first | assumption | omega)) ?_
  try simp (disch := first | decide | assumption | omega) only [up_k, up_s, up_a, up_i, flA_k, flA_a, flA_n, cpA_k, cpA_a, newO_o, newA_o, newO_t, newA_t, newA_n, cpQ_k, cpQ_a]
  refine gX12_223 8 hO dX12_unsetMark_5 rfl (by first | assumption | omega | (simp (disch := first | decide | assumption | omega) only [up_k, up_s, up_a, up_i, flA_k, flA_a, flA_n, cpA_k, cpA_a, newO_o, newA_o, newO_t, newA_t, newA_n, cpQ_k, cpQ_a] <;> first | assumption | omega)) ?_
  try simp (disch := first | decide | assumption | omega) only [up_k, up_s, up_a, up_i, flA_k, flA_a, flA_n, cpA_k, cpA_a, newO_o, newA_o, newO_t, newA_t, newA_n, cpQ_k, cpQ_a]
  refine gX12_284 11 hO dX12_unsetMark_8 rfl (by first | assumption | omega | (simp (disch := first | decide | assumption | omega) only [up_k, up_s, up_a, up_i, flA_k, flA_a, flA_n, cpA_k, cpA_a, newO_o, newA_o, newO_t, newA_t, newA_n, cpQ_k, cpQ_a] <;> first | assumption | omega)) ?_
  try simp (disch := first | decide | assumption | omega) only [up_k, up_s, up_a, up_i, flA_k, flA_a, flA_n, cpA_k, cpA_a, newO_o, newA_o, newO_t, newA_t, newA_n, cpQ_k, cpQ_a]
  refine X_iload_n 12 hO dX12_unsetMark_11 rfl rfl ?_
  refine X_iald 13 hO dX12_unsetMark_12 rfl (by first | assumption | omega | (simp (disch := first | decide | assumption | omega) only [up_k, up_s, up_a, up_i, flA_k, flA_a, flA_n, cpA_k, cpA_a, newO_o, newA_o, newO_t, newA_t, newA_n, cpQ_k, cpQ_a] <;> first | assumption | omega)) (by first | assumption | omega | (simp (disch := first | decide | assumption | omega) only [up_k, up_s, up_a, up_i, flA_k, flA_a, flA_n, cpA_k, cpA_a, newO_o, newA_o, newO_t, newA_t, newA_n, cpQ_k, cpQ_a] <;> first | assumption | omega)) (fun hi_12 => ?_)
  try simp (disch := first | decide | assumption | omega) only [up_k, up_s, up_a, up_i, flA_k, flA_a, flA_n, cpA_k, cpA_a, newO_o, newA_o, newO_t, newA_t, newA_n, cpQ_k, cpQ_a] at hi_12 ⊢
  refine pX12_122 16 hO dX12_unsetMark_13 rfl (by first | assumption | omega | (simp (disch := first | decide | assumption | omega) only [up_k, up_s, up_a, up_i, flA_k, flA_a, flA_n, cpA_k, cpA_a, newO_o, newA_o, newO_t, newA_t, newA_n, cpQ_k, cpQ_a] <;> first | assumption | omega)) (by omega) ?_
  refine X_aload_n 17 hO dX12_unsetMark_16 rfl rfl ?_
  refine gX12_122 20 hO dX12_unsetMark_17 rfl (by first | assumption | omega | (simp (disch := first | decide | assumption | omega) only [up_k, up_s, up_a, up_i, flA_k, flA_a, flA_n, cpA_k, cpA_a, newO_o, newA_o, newO_t, newA_t, newA_n, cpQ_k, cpQ_a] <;> first | assumption | omega)) (fun hi_17 => ?_)
  try simp (disch := first | decide | assumption | omega) only [up_k, up_s, up_a, up_i, flA_k, flA_a, flA_n, cpA_k, cpA_a, newO_o, newA_o, newO_t, newA_t, newA_n, cpQ_k, cpQ_a] at hi_17 ⊢
  refine X_iconst 21 hO dX12_unsetMark_20 rfl ?_
  refine X_icmp_ne 24 26 hO dX12_unsetMark_21 rfl rfl (by omega) (by omega) (fun hc_21 => ?_) (fun hc_21 => ?_)
  ·
    refine X_aload_n 27 hO dX12_unsetMark_26 rfl rfl ?_
    refine gX12_10 30 hO dX12_unsetMark_27 rfl (by first | assumption | omega | (simp (disch := first | decide | assumption | omega) only [up_k, up_s, up_a, up_i, flA_k, flA_a, flA_n, cpA_k, cpA_a, newO_o, newA_o, newO_t, newA_t, newA_n, cpQ_k, cpQ_a] <;> first | assumption | omega)) ?_
    try simp (disch := first | decide | assumption | omega) only [up_k, up_s, up_a, up_i, flA_k, flA_a, flA_n, cpA_k, cpA_a, newO_o, newA_o, newO_t, newA_t, newA_n, cpQ_k, cpQ_a]
    refine gX12_223 33 hO dX12_unsetMark_30 rfl (by first | assumption | omega | (simp (disch := first | decide | assumption | omega) only [up_k, up_s, up_a, up_i, flA_k, flA_a, flA_n, cpA_k, cpA_a, newO_o, newA_o, newO_t, newA_t, newA_n, cpQ_k, cpQ_a] <;> first | assumption | omega)) ?_
    try simp (disch := first | decide | assumption | omega) only [up_k, up_s, up_a, up_i, flA_k, flA_a, flA_n, cpA_k, cpA_a, newO_o, newA_o, newO_t, newA_t, newA_n, cpQ_k, cpQ_a]
    refine gX12_284 36 hO dX12_unsetMark_33 rfl (by first | assumption | omega | (simp (disch := first | decide | assumption | omega) only [up_k, up_s, up_a, up_i, flA_k, flA_a, flA_n, cpA_k, cpA_a, newO_o, newA_o, newO_t, newA_t, newA_n, cpQ_k, cpQ_a] <;> first | assumption | omega)) ?_
    try simp (disch := first | decide | assumption | omega) only [up_k, up_s, up_a, up_i, flA_k, flA_a, flA_n, cpA_k, cpA_a, newO_o, newA_o, newO_t, newA_t, newA_n, cpQ_k, cpQ_a]
    refine X_iload_n 37 hO dX12_unsetMark_36 rfl rfl ?_
    refine X_iconst 38 hO dX12_unsetMark_37 rfl ?_
    refine X_iast 39 hO dX12_unsetMark_38 rfl (by first | assumption | omega | (simp (disch := first | decide | assumption | omega) only [up_k, up_s, up_a, up_i, flA_k, flA_a, flA_n, cpA_k, cpA_a, newO_o, newA_o, newO_t, newA_t, newA_n, cpQ_k, cpQ_a] <;> first | assumption | omega)) (by first | assumption | omega | (simp (disch := first | decide | assumption | omega) only [up_k, up_s, up_a, up_i, flA_k, flA_a, flA_n, cpA_k, cpA_a, newO_o, newA_o, newO_t, newA_t, newA_n, cpQ_k, cpQ_a] <;> first | assumption | omega)) (by omega) ?_
    refine X_aload_n 40 hO dX12_unsetMark_39 rfl rfl ?_
    refine gX12_10 43 hO dX12_unsetMark_40 rfl (by first | assumption | omega | (simp (disch := first | decide | assumption | omega) only [up_k, up_s, up_a, up_i, flA_k, flA_a, flA_n, cpA_k, cpA_a, newO_o, newA_o, newO_t, newA_t, newA_n, cpQ_k, cpQ_a] <;> first | assumption | omega)) ?_
    try simp (disch := first | decide | assumption | omega) only [up_k, up_s, up_a, up_i, flA_k, flA_a, flA_n, cpA_k, cpA_a, newO_o, newA_o, newO_t, newA_t, newA_n, cpQ_k, cpQ_a]
    refine X_iconst 44 hO dX12_unsetMark_43 rfl ?_
    refine X_kVv (t := 2) 47 hO hD lX12_192 rfl (by decide) [_] rfl dX12_unsetMark_44 rfl (by first | assumption | omega | (simp (disch := first | decide | assumption | omega) only [up_k, up_s, up_a, up_i, flA_k, flA_a, flA_n, cpA_k, cpA_a, newO_o, newA_o, newO_t, newA_t, newA_n, cpQ_k, cpQ_a] <;> first | assumption | omega)) (kX1_addStep _ _ _ _ (by simp (disch := decide) only [up_k]; exact hd.1) (by simp (disch := decide) only [up_k]; exact QT_c (fun k a h => by simp (disch := omega) only [up_k]) hQ) (by omega)) (by decide) (by simp [rv_cat, int_cat]) (by first | decide | exact Nat.zero_le _ | omega) (by first | decide | exact Nat.zero_le _ | omega) (fun w_44 hp_44 => ?_) (fun E w_ hx_ => hx_.elim)
    obtain ⟨x, hx0, hxf, ex_44⟩ := hp_44
    simp (disch := decide) only [up_k] at hxf ex_44
    subst ex_44
    refine X_iconst 48 hO dX12_unsetMark_47 rfl ?_
    exact X_iret hO hF rfl (by first | exact Or.inl rfl | exact Or.inr ⟨rfl, bi_01 _⟩ | exact Or.inr ⟨rfl, by omega⟩) dX12_unsetMark_48 ⟨_, rfl, (by omega), Or.inr ⟨hc_21, rfl, x, hx0, hxf, rfl⟩⟩
  ·
    refine X_iconst 25 hO dX12_unsetMark_24 rfl ?_
    exact X_iret hO hF rfl (by first | exact Or.inl rfl | exact Or.inr ⟨rfl, bi_01 _⟩ | exact Or.inr ⟨rfl, by omega⟩) dX12_unsetMark_25 ⟨_, rfl, (by omega), Or.inl ⟨hc_21, rfl, by rw [hc_21]⟩⟩
theorem MT_c {w w' : Mm} {m : Int} (h : ∀ (k : Nat) (a : Int), k = 0 ∨ k = 2 ∨ (21 ≤ k ∧ k ≤ 23) ∨ k = 62 → w' k a 0 = w k a 0) (hm : MT w m) : MT w' m := by
  unfold MT
  rw [h 21 _ (by omega), h 22 _ (by omega), h 23 _ (by omega), h 62 _ (by omega)]
  simp only [fun a => h 0 a (Or.inl rfl), fun a => h 2 a (Or.inr (Or.inl rfl))]
  exact hm
theorem dX12_noteCommand_0 : decode cX12_noteCommand 0 = .ok (.aload_n 0, 1) := by decide +kernel
theorem dX12_noteCommand_1 : decode cX12_noteCommand 1 = .ok (.iconst 0, 1) := by decide +kernel
theorem dX12_noteCommand_2 : decode cX12_noteCommand 2 = .ok (.putfield 113, 3) := by decide +kernel
theorem dX12_noteCommand_5 : decode cX12_noteCommand 5 = .ok (.aload_n 0, 1) := by decide +kernel
theorem dX12_noteCommand_6 : decode cX12_noteCommand 6 = .ok (.getfield 65, 3) := by decide +kernel
theorem dX12_noteCommand_9 : decode cX12_noteCommand 9 = .ok (.iconst (-1), 1) := by decide +kernel
theorem dX12_noteCommand_10 : decode cX12_noteCommand 10 = .ok (.if_icmp .eq 13, 3) := by decide +kernel
theorem dX12_noteCommand_13 : decode cX12_noteCommand 13 = .ok (.aload_n 0, 1) := by decide +kernel
theorem dX12_noteCommand_14 : decode cX12_noteCommand 14 = .ok (.getfield 54, 3) := by decide +kernel
theorem dX12_noteCommand_17 : decode cX12_noteCommand 17 = .ok (.iload_n 1, 1) := by decide +kernel
theorem dX12_noteCommand_18 : decode cX12_noteCommand 18 = .ok (.iload_n 2, 1) := by decide +kernel
theorem dX12_noteCommand_19 : decode cX12_noteCommand 19 = .ok (.iload_n 3, 1) := by decide +kernel
theorem dX12_noteCommand_20 : decode cX12_noteCommand 20 = .ok (.invokevirtual 358, 3) := by decide +kernel
theorem dX12_noteCommand_23 : decode cX12_noteCommand 23 = .ok (.return_, 1) := by decide +kernel
set_option maxRecDepth 4000 in
theorem kX12_noteCommand (γ : LC) (w : Mm) (f a b c : Int) (t0 : w 0 f 0 = 13) (hm : MT w (w 49 f 0)) (ha : IR a) (hb : IR b) (hc : IR c) : KV γ 2 mX12_noteCommand [rv f, .int (I a), .int (I b), .int (I c)] w (0) (0) (fun w' => w' = if w 86 f 0 = -1 then up w 88 f 0 0 else c_app (w 49 f 0) a b c (up w 88 f 0 0)) NX := by
  refine MX_of rfl rfl (by simp [rv_cat, int_cat]) rfl ?_
  rintro κ hO hF rfl
  have hD := hF.dp
  show X κ (0) (0) w 0 [some (rv f), some (.int (I a)), some (.int (I b)), some (.int (I c))] []
  have m0 := hm.1
  refine X_aload_n 1 hO dX12_noteCommand_0 rfl rfl ?_
  refine X_iconst 2 hO dX12_noteCommand_1 rfl ?_
  refine pX12_113 5 hO dX12_noteCommand_2 rfl (by first | assumption | omega | (simp (disch := first | decide | assumption | omega) only [up_k, up_s, up_a, up_i, flA_k, flA_a, flA_n, cpA_k, cpA_a, newO_o, newA_o, newO_t, newA_t, newA_n, cpQ_k, cpQ_a] <;> first | assumption | omega)) (by omega) ?_
  refine X_aload_n 6 hO dX12_noteCommand_5 rfl rfl ?_
  refine gX12_65 9 hO dX12_noteCommand_6 rfl (by first | assumption | omega | (simp (disch := first | decide | assumption | omega) only [up_k, up_s, up_a, up_i, flA_k, flA_a, flA_n, cpA_k, cpA_a, newO_o, newA_o, newO_t, newA_t, newA_n, cpQ_k, cpQ_a] <;> first | assumption | omega)) (fun hi_6 => ?_)
  try simp (disch := first | decide | assumption | omega) only [up_k, up_s, up_a, up_i, flA_k, flA_a, flA_n, cpA_k, cpA_a, newO_o, newA_o, newO_t, newA_t, newA_n, cpQ_k, cpQ_a] at hi_6 ⊢
  refine X_iconst 10 hO dX12_noteCommand_9 rfl ?_
  refine X_icmp_eq 13 23 hO dX12_noteCommand_10 rfl rfl (by omega) (by omega) (fun hc_10 => ?_) (fun hc_10 => ?_)
  ·
    exact X_vret hO hF rfl dX12_noteCommand_23 ⟨rfl, (by first | rw [if_pos (by omega)] | rw [if_neg (by omega)])⟩
  ·
    refine X_aload_n 14 hO dX12_noteCommand_13 rfl rfl ?_
    refine gX12_54 17 hO dX12_noteCommand_14 rfl (by first | assumption | omega | (simp (disch := first | decide | assumption | omega) only [up_k, up_s, up_a, up_i, flA_k, flA_a, flA_n, cpA_k, cpA_a, newO_o, newA_o, newO_t, newA_t, newA_n, cpQ_k, cpQ_a] <;> first | assumption | omega)) ?_
    try simp (disch := first | decide | assumption | omega) only [up_k, up_s, up_a, up_i, flA_k, flA_a, flA_n, cpA_k, cpA_a, newO_o, newA_o, newO_t, newA_t, newA_n, cpQ_k, cpQ_a]
    refine X_iload_n 18 hO dX12_noteCommand_17 rfl rfl ?_
    refine X_iload_n 19 hO dX12_noteCommand_18 rfl rfl ?_
    refine X_iload_n 20 hO dX12_noteCommand_19 rfl rfl ?_
    refine X_kVv (t := 4) 23 hO hD lX12_358 rfl (by decide) [_, _, _] rfl dX12_noteCommand_20 rfl (by first | assumption | omega | (simp (disch := first | decide | assumption | omega) only [up_k, up_s, up_a, up_i, flA_k, flA_a, flA_n, cpA_k, cpA_a, newO_o, newA_o, newO_t, newA_t, newA_n, cpQ_k, cpQ_a] <;> first | assumption | omega)) (kX3_append _ _ _ _ _ _ (MT_c (fun k a h => up_k _ (by omega) _ _ _ _ _) hm) (by omega) (by omega) (by omega)) (by decide) (by simp [rv_cat, int_cat]) (by first | decide | exact Nat.zero_le _ | omega) (by first | decide | exact Nat.zero_le _ | omega) (fun w_20 hp_20 => ?_) (fun E w_ hx_ => hx_.elim)
    subst w_20
    exact X_vret hO hF rfl dX12_noteCommand_23 ⟨rfl, (by first | rw [if_pos (by omega)] | rw [if_neg (by omega)])⟩
