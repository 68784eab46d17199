/-! going, views -/
def g_in (w : Mm) (f p : Int) : Prop := d_low w (w 41 f 0) ≤ p ∧ p ≤ d_high w (w 41 f 0)
def g_go (f p : Int) (w : Mm) : Mm := up (up w 61 (w 41 f 0) 0 p) 91 f 0 p
def g_srch (w : Mm) (f c : Int) : Int := fnd (fun i => w 1 (w 28 (w 11 (w 41 f 0) 0) 0) i) c ((if w 67 (w 11 (w 41 f 0) 0) 0 < d_high w (w 41 f 0) then w 67 (w 11 (w 41 f 0) 0) 0 else d_high w (w 41 f 0)) - (if 0 < w 61 (w 41 f 0) 0 then w 61 (w 41 f 0) 0 else 0)).toNat (if 0 < w 61 (w 41 f 0) 0 then w 61 (w 41 f 0) 0 else 0)
def g_view (f p : Int) (w : Mm) : Mm := up (up (up (up w 1 (w 13 (w 41 f 0) 0) (w 60 (w 41 f 0) 0) (if w 61 (w 41 f 0) 0 < p then w 61 (w 41 f 0) 0 else p)) 1 (w 14 (w 41 f 0) 0) (w 60 (w 41 f 0) 0) (if p < w 61 (w 41 f 0) 0 then w 61 (w 41 f 0) 0 else p)) 60 (w 41 f 0) 0 (w 60 (w 41 f 0) 0 + 1)) 91 f 0 (w 60 (w 41 f 0) 0 + 1)
theorem dX12_goToPlace_0 : decode cX12_goToPlace 0 = .ok (.aload_n 0, 1) := by decide +kernel
theorem dX12_goToPlace_1 : decode cX12_goToPlace 1 = .ok (.getfield 10, 3) := by decide +kernel
theorem dX12_goToPlace_4 : decode cX12_goToPlace 4 = .ok (.iload_n 1, 1) := by decide +kernel
theorem dX12_goToPlace_5 : decode cX12_goToPlace 5 = .ok (.invokevirtual 500, 3) := by decide +kernel
theorem dX12_goToPlace_8 : decode cX12_goToPlace 8 = .ok (.ifCond .ne 5, 3) := by decide +kernel
theorem dX12_goToPlace_11 : decode cX12_goToPlace 11 = .ok (.iload_n 2, 1) := by decide +kernel
theorem dX12_goToPlace_12 : decode cX12_goToPlace 12 = .ok (.ireturn, 1) := by decide +kernel
theorem dX12_goToPlace_13 : decode cX12_goToPlace 13 = .ok (.aload_n 0, 1) := by decide +kernel
theorem dX12_goToPlace_14 : decode cX12_goToPlace 14 = .ok (.getfield 10, 3) := by decide +kernel
theorem dX12_goToPlace_17 : decode cX12_goToPlace 17 = .ok (.iload_n 1, 1) := by decide +kernel
theorem dX12_goToPlace_18 : decode cX12_goToPlace 18 = .ok (.putfield 271, 3) := by decide +kernel
theorem dX12_goToPlace_21 : decode cX12_goToPlace 21 = .ok (.aload_n 0, 1) := by decide +kernel
theorem dX12_goToPlace_22 : decode cX12_goToPlace 22 = .ok (.iload_n 1, 1) := by decide +kernel
theorem dX12_goToPlace_23 : decode cX12_goToPlace 23 = .ok (.putfield 122, 3) := by decide +kernel
theorem dX12_goToPlace_26 : decode cX12_goToPlace 26 = .ok (.iconst 0, 1) := by decide +kernel
theorem dX12_goToPlace_27 : decode cX12_goToPlace 27 = .ok (.ireturn, 1) := by decide +kernel
set_option maxRecDepth 4000 in
theorem kX12_goToPlace (γ : LC) (w : Mm) (f p e : Int) (t0 : w 0 f 0 = 13) (hd : DTl w (w 41 f 0)) (hv : DVb w (w 41 f 0)) (hp : IR p) (he : IR e) : KI γ 3 mX12_goToPlace [rv f, .int (I p), .int (I e)] w (0) (0) (fun r w' => (g_in w f (p) ∧ r = 0 ∧ w' = g_go f (p) w) ∨ (¬ g_in w f (p) ∧ r = e ∧ w' = w)) NX := by
  refine MX_of rfl rfl (by simp [rv_cat, int_cat]) rfl ?_
  rintro κ hO hF rfl
  have hD := hF.dp
  show X κ (0) (0) w 0 [some (rv f), some (.int (I p)), some (.int (I e))] []
  obtain ⟨y0, y1, ⟨y2, y3⟩, ⟨y4, y5⟩, y6, y7, y8⟩ := id hd
  refine X_aload_n 1 hO dX12_goToPlace_0 rfl rfl ?_
  refine gX12_10 4 hO dX12_goToPlace_1 rfl (by first | assumption | omega | (simp (disch := first | decide | assumption | omega) only [up_k, up_s, up_a, up_i, flA_k, flA_a, flA_n, cpA_k, cpA_a, newO_o, newA_o, newO_t, newA_t, newA_n, cpQ_k, cpQ_a] <;> first | assumption | omega)) ?_
  try simp (disch := first | decide | assumption | omega) only [up_k, up_s, up_a, up_i, flA_k, flA_a, flA_n, cpA_k, cpA_a, newO_o, newA_o, newO_t, newA_t, newA_n, cpQ_k, cpQ_a]
  refine X_iload_n 5 hO dX12_goToPlace_4 rfl rfl ?_
  refine X_kVi (t := 2) 8 hO hD lX12_500 rfl (by decide) [_] rfl dX12_goToPlace_5 rfl (by first | assumption | omega | (simp (disch := first | decide | assumption | omega) only [up_k, up_s, up_a, up_i, flA_k, flA_a, flA_n, cpA_k, cpA_a, newO_o, newA_o, newO_t, newA_t, newA_n, cpQ_k, cpQ_a] <;> first | assumption | omega)) (kX1_isInView _ _ _ _ hd hv (by omega)) (by decide) (by simp [rv_cat, int_cat]) (by first | decide | exact Nat.zero_le _ | omega) (by first | decide | exact Nat.zero_le _ | omega) (fun r_5 w_5 hr_5 hp_5 => ?_) (fun E w_ hx_ => hx_.elim)
  obtain ⟨e1_5, e2_5⟩ := hp_5
  subst r_5
  subst w_5
  refine X_if_ne 11 13 hO dX12_goToPlace_8 rfl rfl (by omega) (fun hc_8 => ?_) (fun hc_8 => ?_)
  ·
    try simp only [bi_0, bi_ne, ne_eq, Classical.not_not] at hc_8
    refine X_aload_n 14 hO dX12_goToPlace_13 rfl rfl ?_
    refine gX12_10 17 hO dX12_goToPlace_14 rfl (by first | assumption | omega | (simp (disch := first | decide | assumption | omega) only [up_k, up_s, up_a, up_i, flA_k, flA_a, flA_n, cpA_k, cpA_a, newO_o, newA_o, newO_t, newA_t, newA_n, cpQ_k, cpQ_a] <;> first | assumption | omega)) ?_
    try simp (disch := first | decide | assumption | omega) only [up_k, up_s, up_a, up_i, flA_k, flA_a, flA_n, cpA_k, cpA_a, newO_o, newA_o, newO_t, newA_t, newA_n, cpQ_k, cpQ_a]
    refine X_iload_n 18 hO dX12_goToPlace_17 rfl rfl ?_
    refine pX12_271 21 hO dX12_goToPlace_18 rfl (by first | assumption | omega | (simp (disch := first | decide | assumption | omega) only [up_k, up_s, up_a, up_i, flA_k, flA_a, flA_n, cpA_k, cpA_a, newO_o, newA_o, newO_t, newA_t, newA_n, cpQ_k, cpQ_a] <;> first | assumption | omega)) (by omega) ?_
    refine X_aload_n 22 hO dX12_goToPlace_21 rfl rfl ?_
    refine X_iload_n 23 hO dX12_goToPlace_22 rfl rfl ?_
    refine pX12_122 26 hO dX12_goToPlace_23 rfl (by first | assumption | omega | (simp (disch := first | decide | assumption | omega) only [up_k, up_s, up_a, up_i, flA_k, flA_a, flA_n, cpA_k, cpA_a, newO_o, newA_o, newO_t, newA_t, newA_n, cpQ_k, cpQ_a] <;> first | assumption | omega)) (by omega) ?_
    refine X_iconst 27 hO dX12_goToPlace_26 rfl ?_
    exact X_iret hO hF rfl (by first | exact Or.inl rfl | exact Or.inr ⟨rfl, bi_01 _⟩ | exact Or.inr ⟨rfl, by omega⟩) dX12_goToPlace_27 ⟨_, rfl, (by omega), Or.inl ⟨hc_8, rfl, rfl⟩⟩
  ·
    try simp only [bi_0, bi_ne, ne_eq, Classical.not_not] at hc_8
    refine X_iload_n 12 hO dX12_goToPlace_11 rfl rfl ?_
    exact X_iret hO hF rfl (by first | exact Or.inl rfl | exact Or.inr ⟨rfl, bi_01 _⟩ | exact Or.inr ⟨rfl, by omega⟩) dX12_goToPlace_12 ⟨_, rfl, (by omega), Or.inr ⟨hc_8, rfl, rfl⟩⟩
theorem dX12_goBy_0 : decode cX12_goBy 0 = .ok (.aload_n 0, 1) := by decide +kernel
theorem dX12_goBy_1 : decode cX12_goBy 1 = .ok (.aload_n 0, 1) := by decide +kernel
theorem dX12_goBy_2 : decode cX12_goBy 2 = .ok (.getfield 10, 3) := by decide +kernel
theorem dX12_goBy_5 : decode cX12_goBy 5 = .ok (.getfield 271, 3) := by decide +kernel
theorem dX12_goBy_8 : decode cX12_goBy 8 = .ok (.iload_n 1, 1) := by decide +kernel
theorem dX12_goBy_9 : decode cX12_goBy 9 = .ok (.iadd, 1) := by decide +kernel
theorem dX12_goBy_10 : decode cX12_goBy 10 = .ok (.iconst 1, 1) := by decide +kernel
theorem dX12_goBy_11 : decode cX12_goBy 11 = .ok (.invokevirtual 497, 3) := by decide +kernel
theorem dX12_goBy_14 : decode cX12_goBy 14 = .ok (.ireturn, 1) := by decide +kernel
set_option maxRecDepth 4000 in
theorem kX12_goBy (γ : LC) (w : Mm) (f n : Int) (t0 : w 0 f 0 = 13) (hd : DTl w (w 41 f 0)) (hv : DVb w (w 41 f 0)) (hn : IR (w 61 (w 41 f 0) 0 + n)) : KI γ 4 mX12_goBy [rv f, .int (I n)] w (0) (0) (fun r w' => (g_in w f (w 61 (w 41 f 0) 0 + n) ∧ r = 0 ∧ w' = g_go f (w 61 (w 41 f 0) 0 + n) w) ∨ (¬ g_in w f (w 61 (w 41 f 0) 0 + n) ∧ r = 1 ∧ w' = w)) NX := by
  refine MX_of rfl rfl (by simp [rv_cat, int_cat]) rfl ?_
  rintro κ hO hF rfl
  have hD := hF.dp
  show X κ (0) (0) w 0 [some (rv f), some (.int (I n))] []
  obtain ⟨y0, y1, ⟨y2, y3⟩, ⟨y4, y5⟩, y6, y7, y8⟩ := id hd
  refine X_aload_n 1 hO dX12_goBy_0 rfl rfl ?_
  refine X_aload_n 2 hO dX12_goBy_1 rfl rfl ?_
  refine gX12_10 5 hO dX12_goBy_2 rfl (by first | assumption | omega | (simp (disch := first | decide | assumption | omega) only [up_k, up_s, up_a, up_i, flA_k, flA_a, flA_n, cpA_k, cpA_a, newO_o, newA_o, newO_t, newA_t, newA_n, cpQ_k, cpQ_a] <;> first | assumption | omega)) ?_
  try simp (disch := first | decide | assumption | omega) only [up_k, up_s, up_a, up_i, flA_k, flA_a, flA_n, cpA_k, cpA_a, newO_o, newA_o, newO_t, newA_t, newA_n, cpQ_k, cpQ_a]
  refine gX12_271 8 hO dX12_goBy_5 rfl (by first | assumption | omega | (simp (disch := first | decide | assumption | omega) only [up_k, up_s, up_a, up_i, flA_k, flA_a, flA_n, cpA_k, cpA_a, newO_o, newA_o, newO_t, newA_t, newA_n, cpQ_k, cpQ_a] <;> first | assumption | omega)) (fun hi_5 => ?_)
  try simp (disch := first | decide | assumption | omega) only [up_k, up_s, up_a, up_i, flA_k, flA_a, flA_n, cpA_k, cpA_a, newO_o, newA_o, newO_t, newA_t, newA_n, cpQ_k, cpQ_a] at hi_5 ⊢
  refine X_iload_n 9 hO dX12_goBy_8 rfl rfl ?_
  refine X_iadd 10 hO dX12_goBy_9 rfl ?_
  refine X_iconst 11 hO dX12_goBy_10 rfl ?_
  refine X_kVi (t := 13) 14 hO hD lX12_497 rfl (by decide) [_, _] rfl dX12_goBy_11 rfl (by first | assumption | omega | (simp (disch := first | decide | assumption | omega) only [up_k, up_s, up_a, up_i, flA_k, flA_a, flA_n, cpA_k, cpA_a, newO_o, newA_o, newO_t, newA_t, newA_n, cpQ_k, cpQ_a] <;> first | assumption | omega)) (kX12_goToPlace _ _ _ _ _ t0 hd hv (by omega) (by omega)) (by decide) (by simp [rv_cat, int_cat]) (by first | decide | exact Nat.zero_le _ | omega) (by first | decide | exact Nat.zero_le _ | omega) (fun r_11 w_11 hr_11 hp_11 => ?_) (fun E w_ hx_ => hx_.elim)
  exact X_iret hO hF rfl (by first | exact Or.inl rfl | exact Or.inr ⟨rfl, bi_01 _⟩ | exact Or.inr ⟨rfl, by omega⟩) dX12_goBy_14 ⟨_, rfl, (by omega), hp_11⟩
theorem dX12_goToMark_0 : decode cX12_goToMark 0 = .ok (.aload_n 0, 1) := by decide +kernel
theorem dX12_goToMark_1 : decode cX12_goToMark 1 = .ok (.aload_n 0, 1) := by decide +kernel
theorem dX12_goToMark_2 : decode cX12_goToMark 2 = .ok (.getfield 10, 3) := by decide +kernel
theorem dX12_goToMark_5 : decode cX12_goToMark 5 = .ok (.getfield 223, 3) := by decide +kernel
theorem dX12_goToMark_8 : decode cX12_goToMark 8 = .ok (.getfield 284, 3) := by decide +kernel
theorem dX12_goToMark_11 : decode cX12_goToMark 11 = .ok (.iload_n 1, 1) := by decide +kernel
theorem dX12_goToMark_12 : decode cX12_goToMark 12 = .ok (.iaload, 1) := by decide +kernel
theorem dX12_goToMark_13 : decode cX12_goToMark 13 = .ok (.iconst 3, 1) := by decide +kernel
theorem dX12_goToMark_14 : decode cX12_goToMark 14 = .ok (.invokevirtual 497, 3) := by decide +kernel
theorem dX12_goToMark_17 : decode cX12_goToMark 17 = .ok (.ireturn, 1) := by decide +kernel
set_option maxRecDepth 4000 in
theorem kX12_goToMark (γ : LC) (w : Mm) (f i : Int) (t0 : w 0 f 0 = 13) (hd : DTl w (w 41 f 0)) (hv : DVb w (w 41 f 0)) (hs : ST w (w 11 (w 41 f 0) 0)) (hi : 0 ≤ i ∧ i < 6) : KI γ 4 mX12_goToMark [rv f, .int (I i)] w (0) (0) (fun r w' => (g_in w f (w 1 (w 29 (w 11 (w 41 f 0) 0) 0) i) ∧ r = 0 ∧ w' = g_go f (w 1 (w 29 (w 11 (w 41 f 0) 0) 0) i) w) ∨ (¬ g_in w f (w 1 (w 29 (w 11 (w 41 f 0) 0) 0) i) ∧ r = 3 ∧ w' = w)) NX := by
  refine MX_of rfl rfl (by simp [rv_cat, int_cat]) rfl ?_
  rintro κ hO hF rfl
  have hD := hF.dp
  show X κ (0) (0) w 0 [some (rv f), some (.int (I i))] []
  obtain ⟨y0, y1, ⟨y2, y3⟩, ⟨y4, y5⟩, y6, y7, y8⟩ := id hd
  obtain ⟨s0, ⟨s1, s2, s3, s4⟩, ⟨s5, s6, s7⟩, s8⟩ := id hs
  refine X_aload_n 1 hO dX12_goToMark_0 rfl rfl ?_
  refine X_aload_n 2 hO dX12_goToMark_1 rfl rfl ?_
  refine gX12_10 5 hO dX12_goToMark_2 rfl (by first | assumption | omega | (simp (disch := first | decide | assumption | omega) only [up_k, up_s, up_a, up_i, flA_k, flA_a, flA_n, cpA_k, cpA_a, newO_o, newA_o, newO_t, newA_t, newA_n, cpQ_k, cpQ_a] <;> first | assumption | omega)) ?_
  try simp (disch := first | decide | assumption | omega) only [up_k, up_s, up_a, up_i, flA_k, flA_a, flA_n, cpA_k, cpA_a, newO_o, newA_o, newO_t, newA_t, newA_n, cpQ_k, cpQ_a]
  refine gX12_223 8 hO dX12_goToMark_5 rfl (by first | assumption | omega | (simp (disch := first | decide | assumption | omega) only [up_k, up_s, up_a, up_i, flA_k, flA_a, flA_n, cpA_k, cpA_a, newO_o, newA_o, newO_t, newA_t, newA_n, cpQ_k, cpQ_a] <;> first | assumption | omega)) ?_
  try simp (disch := first | decide | assumption | omega) only [up_k, up_s, up_a, up_i, flA_k, flA_a, flA_n, cpA_k, cpA_a, newO_o, newA_o, newO_t, newA_t, newA_n, cpQ_k, cpQ_a]
  refine gX12_284 11 hO dX12_goToMark_8 rfl (by first | assumption | omega | (simp (disch := first | decide | assumption | omega) only [up_k, up_s, up_a, up_i, flA_k, flA_a, flA_n, cpA_k, cpA_a, newO_o, newA_o, newO_t, newA_t, newA_n, cpQ_k, cpQ_a] <;> first | assumption | omega)) ?_
  try simp (disch := first | decide | assumption | omega) only [up_k, up_s, up_a, up_i, flA_k, flA_a, flA_n, cpA_k, cpA_a, newO_o, newA_o, newO_t, newA_t, newA_n, cpQ_k, cpQ_a]
  refine X_iload_n 12 hO dX12_goToMark_11 rfl rfl ?_
  refine X_iald 13 hO dX12_goToMark_12 rfl (by first | assumption | omega | (simp (disch := first | decide | assumption | omega) only [up_k, up_s, up_a, up_i, flA_k, flA_a, flA_n, cpA_k, cpA_a, newO_o, newA_o, newO_t, newA_t, newA_n, cpQ_k, cpQ_a] <;> first | assumption | omega)) (by first | assumption | omega | (simp (disch := first | decide | assumption | omega) only [up_k, up_s, up_a, up_i, flA_k, flA_a, flA_n, cpA_k, cpA_a, newO_o, newA_o, newO_t, newA_t, newA_n, cpQ_k, cpQ_a] <;> first | assumption | omega)) (fun hi_12 => ?_)
  try simp (disch := first | decide | assumption | omega) only [up_k, up_s, up_a, up_i, flA_k, flA_a, flA_n, cpA_k, cpA_a, newO_o, newA_o, newO_t, newA_t, newA_n, cpQ_k, cpQ_a] at hi_12 ⊢
  refine X_iconst 14 hO dX12_goToMark_13 rfl ?_
  refine X_kVi (t := 13) 17 hO hD lX12_497 rfl (by decide) [_, _] rfl dX12_goToMark_14 rfl (by first | assumption | omega | (simp (disch := first | decide | assumption | omega) only [up_k, up_s, up_a, up_i, flA_k, flA_a, flA_n, cpA_k, cpA_a, newO_o, newA_o, newO_t, newA_t, newA_n, cpQ_k, cpQ_a] <;> first | assumption | omega)) (kX12_goToPlace _ _ _ _ _ t0 hd hv (by omega) (by omega)) (by decide) (by simp [rv_cat, int_cat]) (by first | decide | exact Nat.zero_le _ | omega) (by first | decide | exact Nat.zero_le _ | omega) (fun r_14 w_14 hr_14 hp_14 => ?_) (fun E w_ hx_ => hx_.elim)
  exact X_iret hO hF rfl (by first | exact Or.inl rfl | exact Or.inr ⟨rfl, bi_01 _⟩ | exact Or.inr ⟨rfl, by omega⟩) dX12_goToMark_17 ⟨_, rfl, (by omega), hp_14⟩
theorem dX12_goBehind_0 : decode cX12_goBehind 0 = .ok (.aload_n 0, 1) := by decide +kernel
theorem dX12_goBehind_1 : decode cX12_goBehind 1 = .ok (.getfield 10, 3) := by decide +kernel
theorem dX12_goBehind_4 : decode cX12_goBehind 4 = .ok (.getfield 223, 3) := by decide +kernel
theorem dX12_goBehind_7 : decode cX12_goBehind 7 = .ok (.iload_n 1, 1) := by decide +kernel
theorem dX12_goBehind_8 : decode cX12_goBehind 8 = .ok (.aload_n 0, 1) := by decide +kernel
theorem dX12_goBehind_9 : decode cX12_goBehind 9 = .ok (.getfield 10, 3) := by decide +kernel
theorem dX12_goBehind_12 : decode cX12_goBehind 12 = .ok (.getfield 271, 3) := by decide +kernel
theorem dX12_goBehind_15 : decode cX12_goBehind 15 = .ok (.aload_n 0, 1) := by decide +kernel
theorem dX12_goBehind_16 : decode cX12_goBehind 16 = .ok (.getfield 10, 3) := by decide +kernel
theorem dX12_goBehind_19 : decode cX12_goBehind 19 = .ok (.invokevirtual 290, 3) := by decide +kernel
theorem dX12_goBehind_22 : decode cX12_goBehind 22 = .ok (.invokevirtual 281, 3) := by decide +kernel
theorem dX12_goBehind_25 : decode cX12_goBehind 25 = .ok (.istore_n 2, 1) := by decide +kernel
theorem dX12_goBehind_26 : decode cX12_goBehind 26 = .ok (.iload_n 2, 1) := by decide +kernel
theorem dX12_goBehind_27 : decode cX12_goBehind 27 = .ok (.iconst (-1), 1) := by decide +kernel
theorem dX12_goBehind_28 : decode cX12_goBehind 28 = .ok (.if_icmp .ne 7, 3) := by decide +kernel
theorem dX12_goBehind_31 : decode cX12_goBehind 31 = .ok (.iconst 2, 1) := by decide +kernel
theorem dX12_goBehind_32 : decode cX12_goBehind 32 = .ok (.goto 11, 3) := by decide +kernel
theorem dX12_goBehind_35 : decode cX12_goBehind 35 = .ok (.aload_n 0, 1) := by decide +kernel
theorem dX12_goBehind_36 : decode cX12_goBehind 36 = .ok (.iload_n 2, 1) := by decide +kernel
theorem dX12_goBehind_37 : decode cX12_goBehind 37 = .ok (.iconst 1, 1) := by decide +kernel
theorem dX12_goBehind_38 : decode cX12_goBehind 38 = .ok (.iadd, 1) := by decide +kernel
theorem dX12_goBehind_39 : decode cX12_goBehind 39 = .ok (.iconst 2, 1) := by decide +kernel
theorem dX12_goBehind_40 : decode cX12_goBehind 40 = .ok (.invokevirtual 497, 3) := by decide +kernel
theorem dX12_goBehind_43 : decode cX12_goBehind 43 = .ok (.ireturn, 1) := by decide +kernel
set_option maxRecDepth 4000 in
theorem kX12_goBehind (γ : LC) (w : Mm) (f c : Int) (t0 : w 0 f 0 = 13) (hd : DTl w (w 41 f 0)) (hv : DVb w (w 41 f 0)) (hs : ST w (w 11 (w 41 f 0) 0)) (hz : SZ w (w 11 (w 41 f 0) 0)) (hc : IR c) : KI γ 4 mX12_goBehind [rv f, .int (I c)] w (0) (0) (fun r w' => (g_srch w f c = -1 ∧ r = 2 ∧ w' = w) ∨ (g_srch w f c ≠ -1 ∧ ((g_in w f (g_srch w f c + 1) ∧ r = 0 ∧ w' = g_go f (g_srch w f c + 1) w) ∨ (¬ g_in w f (g_srch w f c + 1) ∧ r = 2 ∧ w' = w)))) NX := by
  refine MX_of rfl rfl (by simp [rv_cat, int_cat]) rfl ?_
  rintro κ hO hF rfl
  have hD := hF.dp
  show X κ (0) (0) w 0 [some (rv f), some (.int (I c)), none] []
  obtain ⟨y0, y1, ⟨y2, y3⟩, ⟨y4, y5⟩, y6, y7, y8⟩ := id hd
  obtain ⟨s0, ⟨s1, s2, s3, s4⟩, ⟨s5, s6, s7⟩, s8⟩ := id hs
  obtain ⟨z1, z2, z3⟩ := id hz
  have hhb := d_high_b hd hv
  refine X_aload_n 1 hO dX12_goBehind_0 rfl rfl ?_
  refine gX12_10 4 hO dX12_goBehind_1 rfl (by first | assumption | omega | (simp (disch := first | decide | assumption | omega) only [up_k, up_s, up_a, up_i, flA_k, flA_a, flA_n, cpA_k, cpA_a, newO_o, newA_o, newO_t, newA_t, newA_n, cpQ_k, cpQ_a] <;> first | assumption | omega)) ?_
  try simp (disch := first | decide | assumption | omega) only [up_k, up_s, up_a, up_i, flA_k, flA_a, flA_n, cpA_k, cpA_a, newO_o, newA_o, newO_t, newA_t, newA_n, cpQ_k, cpQ_a]
  refine gX12_223 7 hO dX12_goBehind_4 rfl (by first | assumption | omega | (simp (disch := first | decide | assumption | omega) only [up_k, up_s, up_a, up_i, flA_k, flA_a, flA_n, cpA_k, cpA_a, newO_o, newA_o, newO_t, newA_t, newA_n, cpQ_k, cpQ_a] <;> first | assumption | omega)) ?_
  try simp (disch := first | decide | assumption | omega) only [up_k, up_s, up_a, up_i, flA_k, flA_a, flA_n, cpA_k, cpA_a, newO_o, newA_o, newO_t, newA_t, newA_n, cpQ_k, cpQ_a]
  refine X_iload_n 8 hO dX12_goBehind_7 rfl rfl ?_
  refine X_aload_n 9 hO dX12_goBehind_8 rfl rfl ?_
  refine gX12_10 12 hO dX12_goBehind_9 rfl (by first | assumption | omega | (simp (disch := first | decide | assumption | omega) only [up_k, up_s, up_a, up_i, flA_k, flA_a, flA_n, cpA_k, cpA_a, newO_o, newA_o, newO_t, newA_t, newA_n, cpQ_k, cpQ_a] <;> first | assumption | omega)) ?_
  try simp (disch := first | decide | assumption | omega) only [up_k, up_s, up_a, up_i, flA_k, flA_a, flA_n, cpA_k, cpA_a, newO_o, newA_o, newO_t, newA_t, newA_n, cpQ_k, cpQ_a]
  refine gX12_271 15 hO dX12_goBehind_12 rfl (by first | assumption | omega | (simp (disch := first | decide | assumption | omega) only [up_k, up_s, up_a, up_i, flA_k, flA_a, flA_n, cpA_k, cpA_a, newO_o, newA_o, newO_t, newA_t, newA_n, cpQ_k, cpQ_a] <;> first | assumption | omega)) (fun hi_12 => ?_)
  try simp (disch := first | decide | assumption | omega) only [up_k, up_s, up_a, up_i, flA_k, flA_a, flA_n, cpA_k, cpA_a, newO_o, newA_o, newO_t, newA_t, newA_n, cpQ_k, cpQ_a] at hi_12 ⊢
  refine X_aload_n 16 hO dX12_goBehind_15 rfl rfl ?_
  refine gX12_10 19 hO dX12_goBehind_16 rfl (by first | assumption | omega | (simp (disch := first | decide | assumption | omega) only [up_k, up_s, up_a, up_i, flA_k, flA_a, flA_n, cpA_k, cpA_a, newO_o, newA_o, newO_t, newA_t, newA_n, cpQ_k, cpQ_a] <;> first | assumption | omega)) ?_
  try simp (disch := first | decide | assumption | omega) only [up_k, up_s, up_a, up_i, flA_k, flA_a, flA_n, cpA_k, cpA_a, newO_o, newA_o, newO_t, newA_t, newA_n, cpQ_k, cpQ_a]
  refine X_kVi (t := 2) 22 hO hD lX12_290 rfl (by decide) [] rfl dX12_goBehind_19 rfl (by first | assumption | omega | (simp (disch := first | decide | assumption | omega) only [up_k, up_s, up_a, up_i, flA_k, flA_a, flA_n, cpA_k, cpA_a, newO_o, newA_o, newO_t, newA_t, newA_n, cpQ_k, cpQ_a] <;> first | assumption | omega)) (kX1_high _ _ _ hd hv) (by decide) (by simp [rv_cat, int_cat]) (by first | decide | exact Nat.zero_le _ | omega) (by first | decide | exact Nat.zero_le _ | omega) (fun r_19 w_19 hr_19 hp_19 => ?_) (fun E w_ hx_ => hx_.elim)
  obtain ⟨e1_19, e2_19⟩ := hp_19
  subst r_19
  subst w_19
  refine X_kVi (t := 6) 25 hO hD lX12_281 rfl (by decide) [_, _, _] rfl dX12_goBehind_22 rfl (by first | assumption | omega | (simp (disch := first | decide | assumption | omega) only [up_k, up_s, up_a, up_i, flA_k, flA_a, flA_n, cpA_k, cpA_a, newO_o, newA_o, newO_t, newA_t, newA_n, cpQ_k, cpQ_a] <;> first | assumption | omega)) (kX5_indexOfSign _ _ _ _ _ _ hs hz (by omega) (by omega) (by omega)) (by decide) (by simp [rv_cat, int_cat]) (by first | decide | exact Nat.zero_le _ | omega) (by first | decide | exact Nat.zero_le _ | omega) (fun r_22 w_22 hr_22 hp_22 => ?_) (fun E w_ hx_ => hx_.elim)
  obtain ⟨e1_22, e2_22⟩ := hp_22
  subst w_22
  replace e1_22 : r_22 = g_srch w f c := e1_22
  have hsb : g_srch w f c ≤ 200000 := by
    unfold g_srch
    rcases fnd_spec (fun i => w 1 (w 28 (w 11 (w 41 f 0) 0) 0) i) c ((if w 67 (w 11 (w 41 f 0) 0) 0 < d_high w (w 41 f 0) then w 67 (w 11 (w 41 f 0) 0) 0 else d_high w (w 41 f 0)) - (if 0 < w 61 (w 41 f 0) 0 then w 61 (w 41 f 0) 0 else 0)).toNat (if 0 < w 61 (w 41 f 0) 0 then w 61 (w 41 f 0) 0 else 0) with ⟨g, _⟩ | ⟨g, g2, _, _⟩
    · omega
    · have : (if w 67 (w 11 (w 41 f 0) 0) 0 < d_high w (w 41 f 0) then w 67 (w 11 (w 41 f 0) 0) 0 else d_high w (w 41 f 0)) ≤ 200000 := by split <;> omega
      have : 0 ≤ (if 0 < w 61 (w 41 f 0) 0 then w 61 (w 41 f 0) 0 else 0) ∧ (if 0 < w 61 (w 41 f 0) 0 then w 61 (w 41 f 0) 0 else 0) ≤ 200000 := by split <;> omega
      omega
  subst r_22
  refine X_istore_n 26 hO dX12_goBehind_25 rfl rfl ?_
  refine X_iload_n 27 hO dX12_goBehind_26 rfl rfl ?_
  refine X_iconst 28 hO dX12_goBehind_27 rfl ?_
  refine X_icmp_ne 31 35 hO dX12_goBehind_28 rfl rfl (by omega) (by omega) (fun hc_28 => ?_) (fun hc_28 => ?_)
  ·
    refine X_aload_n 36 hO dX12_goBehind_35 rfl rfl ?_
    refine X_iload_n 37 hO dX12_goBehind_36 rfl rfl ?_
    refine X_iconst 38 hO dX12_goBehind_37 rfl ?_
    refine X_iadd 39 hO dX12_goBehind_38 rfl ?_
    refine X_iconst 40 hO dX12_goBehind_39 rfl ?_
    refine X_kVi (t := 13) 43 hO hD lX12_497 rfl (by decide) [_, _] rfl dX12_goBehind_40 rfl (by first | assumption | omega | (simp (disch := first | decide | assumption | omega) only [up_k, up_s, up_a, up_i, flA_k, flA_a, flA_n, cpA_k, cpA_a, newO_o, newA_o, newO_t, newA_t, newA_n, cpQ_k, cpQ_a] <;> first | assumption | omega)) (kX12_goToPlace _ _ _ _ _ t0 hd hv (by omega) (by omega)) (by decide) (by simp [rv_cat, int_cat]) (by first | decide | exact Nat.zero_le _ | omega) (by first | decide | exact Nat.zero_le _ | omega) (fun r_40 w_40 hr_40 hp_40 => ?_) (fun E w_ hx_ => hx_.elim)
    exact X_iret hO hF rfl (by first | exact Or.inl rfl | exact Or.inr ⟨rfl, bi_01 _⟩ | exact Or.inr ⟨rfl, by omega⟩) dX12_goBehind_43 ⟨_, rfl, (by omega), (by first | exact Or.inl ⟨hc_28, rfl, rfl⟩ | exact Or.inr ⟨hc_28, hp_40⟩)⟩
  ·
    refine X_iconst 32 hO dX12_goBehind_31 rfl ?_
    refine X_goto hO dX12_goBehind_32 (tgt := 43) rfl ?_
    exact X_iret hO hF rfl (by first | exact Or.inl rfl | exact Or.inr ⟨rfl, bi_01 _⟩ | exact Or.inr ⟨rfl, by omega⟩) dX12_goBehind_43 ⟨_, rfl, (by omega), (by first | exact Or.inl ⟨hc_28, rfl, rfl⟩ | exact Or.inr ⟨hc_28, hp_40⟩)⟩
theorem dX12_beginView_0 : decode cX12_beginView 0 = .ok (.aload_n 0, 1) := by decide +kernel
theorem dX12_beginView_1 : decode cX12_beginView 1 = .ok (.getfield 10, 3) := by decide +kernel
theorem dX12_beginView_4 : decode cX12_beginView 4 = .ok (.getfield 223, 3) := by decide +kernel
theorem dX12_beginView_7 : decode cX12_beginView 7 = .ok (.getfield 284, 3) := by decide +kernel
theorem dX12_beginView_10 : decode cX12_beginView 10 = .ok (.iload_n 1, 1) := by decide +kernel
theorem dX12_beginView_11 : decode cX12_beginView 11 = .ok (.iaload, 1) := by decide +kernel
theorem dX12_beginView_12 : decode cX12_beginView 12 = .ok (.istore_n 2, 1) := by decide +kernel
theorem dX12_beginView_13 : decode cX12_beginView 13 = .ok (.aload_n 0, 1) := by decide +kernel
theorem dX12_beginView_14 : decode cX12_beginView 14 = .ok (.getfield 10, 3) := by decide +kernel
theorem dX12_beginView_17 : decode cX12_beginView 17 = .ok (.iload_n 2, 1) := by decide +kernel
theorem dX12_beginView_18 : decode cX12_beginView 18 = .ok (.invokevirtual 500, 3) := by decide +kernel
theorem dX12_beginView_21 : decode cX12_beginView 21 = .ok (.ifCond .ne 5, 3) := by decide +kernel
theorem dX12_beginView_24 : decode cX12_beginView 24 = .ok (.iconst 3, 1) := by decide +kernel
theorem dX12_beginView_25 : decode cX12_beginView 25 = .ok (.ireturn, 1) := by decide +kernel
theorem dX12_beginView_26 : decode cX12_beginView 26 = .ok (.aload_n 0, 1) := by decide +kernel
theorem dX12_beginView_27 : decode cX12_beginView 27 = .ok (.getfield 10, 3) := by decide +kernel
theorem dX12_beginView_30 : decode cX12_beginView 30 = .ok (.getfield 405, 3) := by decide +kernel
theorem dX12_beginView_33 : decode cX12_beginView 33 = .ok (.iconst 4, 1) := by decide +kernel
theorem dX12_beginView_34 : decode cX12_beginView 34 = .ok (.if_icmp .lt 6, 3) := by decide +kernel
theorem dX12_beginView_37 : decode cX12_beginView 37 = .ok (.bipush 6, 2) := by decide +kernel
theorem dX12_beginView_39 : decode cX12_beginView 39 = .ok (.ireturn, 1) := by decide +kernel
theorem dX12_beginView_40 : decode cX12_beginView 40 = .ok (.aload_n 0, 1) := by decide +kernel
theorem dX12_beginView_41 : decode cX12_beginView 41 = .ok (.getfield 10, 3) := by decide +kernel
theorem dX12_beginView_44 : decode cX12_beginView 44 = .ok (.getfield 506, 3) := by decide +kernel
theorem dX12_beginView_47 : decode cX12_beginView 47 = .ok (.aload_n 0, 1) := by decide +kernel
theorem dX12_beginView_48 : decode cX12_beginView 48 = .ok (.getfield 10, 3) := by decide +kernel
theorem dX12_beginView_51 : decode cX12_beginView 51 = .ok (.getfield 405, 3) := by decide +kernel
theorem dX12_beginView_54 : decode cX12_beginView 54 = .ok (.iload_n 2, 1) := by decide +kernel
theorem dX12_beginView_55 : decode cX12_beginView 55 = .ok (.aload_n 0, 1) := by decide +kernel
theorem dX12_beginView_56 : decode cX12_beginView 56 = .ok (.getfield 10, 3) := by decide +kernel
theorem dX12_beginView_59 : decode cX12_beginView 59 = .ok (.getfield 271, 3) := by decide +kernel
theorem dX12_beginView_62 : decode cX12_beginView 62 = .ok (.invokestatic 184, 3) := by decide +kernel
theorem dX12_beginView_65 : decode cX12_beginView 65 = .ok (.iastore, 1) := by decide +kernel
theorem dX12_beginView_66 : decode cX12_beginView 66 = .ok (.aload_n 0, 1) := by decide +kernel
theorem dX12_beginView_67 : decode cX12_beginView 67 = .ok (.getfield 10, 3) := by decide +kernel
theorem dX12_beginView_70 : decode cX12_beginView 70 = .ok (.getfield 509, 3) := by decide +kernel
theorem dX12_beginView_73 : decode cX12_beginView 73 = .ok (.aload_n 0, 1) := by decide +kernel
theorem dX12_beginView_74 : decode cX12_beginView 74 = .ok (.getfield 10, 3) := by decide +kernel
theorem dX12_beginView_77 : decode cX12_beginView 77 = .ok (.getfield 405, 3) := by decide +kernel
theorem dX12_beginView_80 : decode cX12_beginView 80 = .ok (.iload_n 2, 1) := by decide +kernel
theorem dX12_beginView_81 : decode cX12_beginView 81 = .ok (.aload_n 0, 1) := by decide +kernel
theorem dX12_beginView_82 : decode cX12_beginView 82 = .ok (.getfield 10, 3) := by decide +kernel
theorem dX12_beginView_85 : decode cX12_beginView 85 = .ok (.getfield 271, 3) := by decide +kernel
theorem dX12_beginView_88 : decode cX12_beginView 88 = .ok (.invokestatic 512, 3) := by decide +kernel
theorem dX12_beginView_91 : decode cX12_beginView 91 = .ok (.iastore, 1) := by decide +kernel
theorem dX12_beginView_92 : decode cX12_beginView 92 = .ok (.aload_n 0, 1) := by decide +kernel
theorem dX12_beginView_93 : decode cX12_beginView 93 = .ok (.getfield 10, 3) := by decide +kernel
theorem dX12_beginView_96 : decode cX12_beginView 96 = .ok (.dup, 1) := by decide +kernel
theorem dX12_beginView_97 : decode cX12_beginView 97 = .ok (.getfield 405, 3) := by decide +kernel
theorem dX12_beginView_100 : decode cX12_beginView 100 = .ok (.iconst 1, 1) := by decide +kernel
theorem dX12_beginView_101 : decode cX12_beginView 101 = .ok (.iadd, 1) := by decide +kernel
theorem dX12_beginView_102 : decode cX12_beginView 102 = .ok (.putfield 405, 3) := by decide +kernel
theorem dX12_beginView_105 : decode cX12_beginView 105 = .ok (.aload_n 0, 1) := by decide +kernel
theorem dX12_beginView_106 : decode cX12_beginView 106 = .ok (.aload_n 0, 1) := by decide +kernel
theorem dX12_beginView_107 : decode cX12_beginView 107 = .ok (.getfield 10, 3) := by decide +kernel
theorem dX12_beginView_110 : decode cX12_beginView 110 = .ok (.getfield 405, 3) := by decide +kernel
theorem dX12_beginView_113 : decode cX12_beginView 113 = .ok (.putfield 122, 3) := by decide +kernel
theorem dX12_beginView_116 : decode cX12_beginView 116 = .ok (.iconst 0, 1) := by decide +kernel
theorem dX12_beginView_117 : decode cX12_beginView 117 = .ok (.ireturn, 1) := by decide +kernel
set_option maxRecDepth 4000 in
theorem kX12_beginView (γ : LC) (w : Mm) (f i : Int) (t0 : w 0 f 0 = 13) (hd : DTl w (w 41 f 0)) (hv : DVb w (w 41 f 0)) (hs : ST w (w 11 (w 41 f 0) 0)) (hi : 0 ≤ i ∧ i < 6) : KI γ 3 mX12_beginView [rv f, .int (I i)] w (0) (0) (fun r w' => (¬ g_in w f (w 1 (w 29 (w 11 (w 41 f 0) 0) 0) i) ∧ r = 3 ∧ w' = w) ∨ (g_in w f (w 1 (w 29 (w 11 (w 41 f 0) 0) 0) i) ∧ 4 ≤ w 60 (w 41 f 0) 0 ∧ r = 6 ∧ w' = w) ∨ (g_in w f (w 1 (w 29 (w 11 (w 41 f 0) 0) 0) i) ∧ w 60 (w 41 f 0) 0 < 4 ∧ r = 0 ∧ w' = g_view f (w 1 (w 29 (w 11 (w 41 f 0) 0) 0) i) w)) NX := by
  refine MX_of rfl rfl (by simp [rv_cat, int_cat]) rfl ?_
  rintro κ hO hF rfl
  have hD := hF.dp
  show X κ (0) (0) w 0 [some (rv f), some (.int (I i)), none] []
  obtain ⟨y0, y1, ⟨y2, y3⟩, ⟨y4, y5⟩, y6, y7, y8⟩ := id hd
  obtain ⟨s0, ⟨s1, s2, s3, s4⟩, ⟨s5, s6, s7⟩, s8⟩ := id hs
  refine X_aload_n 1 hO dX12_beginView_0 rfl rfl ?_
  refine gX12_10 4 hO dX12_beginView_1 rfl (by first | assumption | omega | (simp (disch := first | decide | assumption | omega) only [up_k, up_s, up_a, up_i, flA_k, flA_a, flA_n, cpA_k, cpA_a, newO_o, newA_o, newO_t, newA_t, newA_n, cpQ_k, cpQ_a] <;> first | assumption | omega)) ?_
  try simp (disch := first | decide | assumption | omega) only [up_k, up_s, up_a, up_i, flA_k, flA_a, flA_n, cpA_k, cpA_a, newO_o, newA_o, newO_t, newA_t, newA_n, cpQ_k, cpQ_a]
  refine gX12_223 7 hO dX12_beginView_4 rfl (by first | assumption | omega | (simp (disch := first | decide | assumption | omega) only [up_k, up_s, up_a, up_i, flA_k, flA_a, flA_n, cpA_k, cpA_a, newO_o, newA_o, newO_t, newA_t, newA_n, cpQ_k, cpQ_a] <;> first | assumption | omega)) ?_
  try simp (disch := first | decide | assumption | omega) only [up_k, up_s, up_a, up_i, flA_k, flA_a, flA_n, cpA_k, cpA_a, newO_o, newA_o, newO_t, newA_t, newA_n, cpQ_k, cpQ_a]
  refine gX12_284 10 hO dX12_beginView_7 rfl (by first | assumption | omega | (simp (disch := first | decide | assumption | omega) only [up_k, up_s, up_a, up_i, flA_k, flA_a, flA_n, cpA_k, cpA_a, newO_o, newA_o, newO_t, newA_t, newA_n, cpQ_k, cpQ_a] <;> first | assumption | omega)) ?_
  try simp (disch := first | decide | assumption | omega) only [up_k, up_s, up_a, up_i, flA_k, flA_a, flA_n, cpA_k, cpA_a, newO_o, newA_o, newO_t, newA_t, newA_n, cpQ_k, cpQ_a]
  refine X_iload_n 11 hO dX12_beginView_10 rfl rfl ?_
  refine X_iald 12 hO dX12_beginView_11 rfl (by first | assumption | omega | (simp (disch := first | decide | assumption | omega) only [up_k, up_s, up_a, up_i, flA_k, flA_a, flA_n, cpA_k, cpA_a, newO_o, newA_o, newO_t, newA_t, newA_n, cpQ_k, cpQ_a] <;> first | assumption | omega)) (by first | assumption | omega | (simp (disch := first | decide | assumption | omega) only [up_k, up_s, up_a, up_i, flA_k, flA_a, flA_n, cpA_k, cpA_a, newO_o, newA_o, newO_t, newA_t, newA_n, cpQ_k, cpQ_a] <;> first | assumption | omega)) (fun hi_11 => ?_)
  try simp (disch := first | decide | assumption | omega) only [up_k, up_s, up_a, up_i, flA_k, flA_a, flA_n, cpA_k, cpA_a, newO_o, newA_o, newO_t, newA_t, newA_n, cpQ_k, cpQ_a] at hi_11 ⊢
  refine X_istore_n 13 hO dX12_beginView_12 rfl rfl ?_
  refine X_aload_n 14 hO dX12_beginView_13 rfl rfl ?_
  refine gX12_10 17 hO dX12_beginView_14 rfl (by first | assumption | omega | (simp (disch := first | decide | assumption | omega) only [up_k, up_s, up_a, up_i, flA_k, flA_a, flA_n, cpA_k, cpA_a, newO_o, newA_o, newO_t, newA_t, newA_n, cpQ_k, cpQ_a] <;> first | assumption | omega)) ?_
  try simp (disch := first | decide | assumption | omega) only [up_k, up_s, up_a, up_i, flA_k, flA_a, flA_n, cpA_k, cpA_a, newO_o, newA_o, newO_t, newA_t, newA_n, cpQ_k, cpQ_a]
  refine X_iload_n 18 hO dX12_beginView_17 rfl rfl ?_
  refine X_kVi (t := 2) 21 hO hD lX12_500 rfl (by decide) [_] rfl dX12_beginView_18 rfl (by first | assumption | omega | (simp (disch := first | decide | assumption | omega) only [up_k, up_s, up_a, up_i, flA_k, flA_a, flA_n, cpA_k, cpA_a, newO_o, newA_o, newO_t, newA_t, newA_n, cpQ_k, cpQ_a] <;> first | assumption | omega)) (kX1_isInView _ _ _ _ hd hv (by omega)) (by decide) (by simp [rv_cat, int_cat]) (by first | decide | exact Nat.zero_le _ | omega) (by first | decide | exact Nat.zero_le _ | omega) (fun r_18 w_18 hr_18 hp_18 => ?_) (fun E w_ hx_ => hx_.elim)
  obtain ⟨e1_18, e2_18⟩ := hp_18
  subst r_18
  subst w_18
  refine X_if_ne 24 26 hO dX12_beginView_21 rfl rfl (by omega) (fun hc_21 => ?_) (fun hc_21 => ?_)
  ·
    try simp only [bi_0, bi_ne, ne_eq, Classical.not_not] at hc_21
    refine X_aload_n 27 hO dX12_beginView_26 rfl rfl ?_
    refine gX12_10 30 hO dX12_beginView_27 rfl (by first | assumption | omega | (simp (disch := first | decide | assumption | omega) only [up_k, up_s, up_a, up_i, flA_k, flA_a, flA_n, cpA_k, cpA_a, newO_o, newA_o, newO_t, newA_t, newA_n, cpQ_k, cpQ_a] <;> first | assumption | omega)) ?_
    try simp (disch := first | decide | assumption | omega) only [up_k, up_s, up_a, up_i, flA_k, flA_a, flA_n, cpA_k, cpA_a, newO_o, newA_o, newO_t, newA_t, newA_n, cpQ_k, cpQ_a]
    refine gX12_405 33 hO dX12_beginView_30 rfl (by first | assumption | omega | (simp (disch := first | decide | assumption | omega) only [up_k, up_s, up_a, up_i, flA_k, flA_a, flA_n, cpA_k, cpA_a, newO_o, newA_o, newO_t, newA_t, newA_n, cpQ_k, cpQ_a] <;> first | assumption | omega)) (fun hi_30 => ?_)
    try simp (disch := first | decide | assumption | omega) only [up_k, up_s, up_a, up_i, flA_k, flA_a, flA_n, cpA_k, cpA_a, newO_o, newA_o, newO_t, newA_t, newA_n, cpQ_k, cpQ_a] at hi_30 ⊢
    refine X_iconst 34 hO dX12_beginView_33 rfl ?_
    refine X_icmp_lt 37 40 hO dX12_beginView_34 rfl rfl (by omega) (by omega) (fun hc_34 => ?_) (fun hc_34 => ?_)
    ·
      refine X_aload_n 41 hO dX12_beginView_40 rfl rfl ?_
      refine gX12_10 44 hO dX12_beginView_41 rfl (by first | assumption | omega | (simp (disch := first | decide | assumption | omega) only [up_k, up_s, up_a, up_i, flA_k, flA_a, flA_n, cpA_k, cpA_a, newO_o, newA_o, newO_t, newA_t, newA_n, cpQ_k, cpQ_a] <;> first | assumption | omega)) ?_
      try simp (disch := first | decide | assumption | omega) only [up_k, up_s, up_a, up_i, flA_k, flA_a, flA_n, cpA_k, cpA_a, newO_o, newA_o, newO_t, newA_t, newA_n, cpQ_k, cpQ_a]
      refine gX12_506 47 hO dX12_beginView_44 rfl (by first | assumption | omega | (simp (disch := first | decide | assumption | omega) only [up_k, up_s, up_a, up_i, flA_k, flA_a, flA_n, cpA_k, cpA_a, newO_o, newA_o, newO_t, newA_t, newA_n, cpQ_k, cpQ_a] <;> first | assumption | omega)) ?_
      try simp (disch := first | decide | assumption | omega) only [up_k, up_s, up_a, up_i, flA_k, flA_a, flA_n, cpA_k, cpA_a, newO_o, newA_o, newO_t, newA_t, newA_n, cpQ_k, cpQ_a]
      refine X_aload_n 48 hO dX12_beginView_47 rfl rfl ?_
      refine gX12_10 51 hO dX12_beginView_48 rfl (by first | assumption | omega | (simp (disch := first | decide | assumption | omega) only [up_k, up_s, up_a, up_i, flA_k, flA_a, flA_n, cpA_k, cpA_a, newO_o, newA_o, newO_t, newA_t, newA_n, cpQ_k, cpQ_a] <;> first | assumption | omega)) ?_
      try simp (disch := first | decide | assumption | omega) only [up_k, up_s, up_a, up_i, flA_k, flA_a, flA_n, cpA_k, cpA_a, newO_o, newA_o, newO_t, newA_t, newA_n, cpQ_k, cpQ_a]
      refine gX12_405 54 hO dX12_beginView_51 rfl (by first | assumption | omega | (simp (disch := first | decide | assumption | omega) only [up_k, up_s, up_a, up_i, flA_k, flA_a, flA_n, cpA_k, cpA_a, newO_o, newA_o, newO_t, newA_t, newA_n, cpQ_k, cpQ_a] <;> first | assumption | omega)) (fun hi_51 => ?_)
      try simp (disch := first | decide | assumption | omega) only [up_k, up_s, up_a, up_i, flA_k, flA_a, flA_n, cpA_k, cpA_a, newO_o, newA_o, newO_t, newA_t, newA_n, cpQ_k, cpQ_a] at hi_51 ⊢
      refine X_iload_n 55 hO dX12_beginView_54 rfl rfl ?_
      refine X_aload_n 56 hO dX12_beginView_55 rfl rfl ?_
      refine gX12_10 59 hO dX12_beginView_56 rfl (by first | assumption | omega | (simp (disch := first | decide | assumption | omega) only [up_k, up_s, up_a, up_i, flA_k, flA_a, flA_n, cpA_k, cpA_a, newO_o, newA_o, newO_t, newA_t, newA_n, cpQ_k, cpQ_a] <;> first | assumption | omega)) ?_
      try simp (disch := first | decide | assumption | omega) only [up_k, up_s, up_a, up_i, flA_k, flA_a, flA_n, cpA_k, cpA_a, newO_o, newA_o, newO_t, newA_t, newA_n, cpQ_k, cpQ_a]
      refine gX12_271 62 hO dX12_beginView_59 rfl (by first | assumption | omega | (simp (disch := first | decide | assumption | omega) only [up_k, up_s, up_a, up_i, flA_k, flA_a, flA_n, cpA_k, cpA_a, newO_o, newA_o, newO_t, newA_t, newA_n, cpQ_k, cpQ_a] <;> first | assumption | omega)) (fun hi_59 => ?_)
      try simp (disch := first | decide | assumption | omega) only [up_k, up_s, up_a, up_i, flA_k, flA_a, flA_n, cpA_k, cpA_a, newO_o, newA_o, newO_t, newA_t, newA_n, cpQ_k, cpQ_a] at hi_59 ⊢
      refine X_mmin 65 hO w_957 dX12_beginView_62 rfl (by omega) (by omega) hD (by decide) (by simp [rv_cat, int_cat]) ?_
      refine X_iast 66 hO dX12_beginView_65 rfl (by first | assumption | omega | (simp (disch := first | decide | assumption | omega) only [up_k, up_s, up_a, up_i, flA_k, flA_a, flA_n, cpA_k, cpA_a, newO_o, newA_o, newO_t, newA_t, newA_n, cpQ_k, cpQ_a] <;> first | assumption | omega)) (by first | assumption | omega | (simp (disch := first | decide | assumption | omega) only [up_k, up_s, up_a, up_i, flA_k, flA_a, flA_n, cpA_k, cpA_a, newO_o, newA_o, newO_t, newA_t, newA_n, cpQ_k, cpQ_a] <;> first | assumption | omega)) (by split <;> omega) ?_
      refine X_aload_n 67 hO dX12_beginView_66 rfl rfl ?_
      refine gX12_10 70 hO dX12_beginView_67 rfl (by first | assumption | omega | (simp (disch := first | decide | assumption | omega) only [up_k, up_s, up_a, up_i, flA_k, flA_a, flA_n, cpA_k, cpA_a, newO_o, newA_o, newO_t, newA_t, newA_n, cpQ_k, cpQ_a] <;> first | assumption | omega)) ?_
      try simp (disch := first | decide | assumption | omega) only [up_k, up_s, up_a, up_i, flA_k, flA_a, flA_n, cpA_k, cpA_a, newO_o, newA_o, newO_t, newA_t, newA_n, cpQ_k, cpQ_a]
      refine gX12_509 73 hO dX12_beginView_70 rfl (by first | assumption | omega | (simp (disch := first | decide | assumption | omega) only [up_k, up_s, up_a, up_i, flA_k, flA_a, flA_n, cpA_k, cpA_a, newO_o, newA_o, newO_t, newA_t, newA_n, cpQ_k, cpQ_a] <;> first | assumption | omega)) ?_
      try simp (disch := first | decide | assumption | omega) only [up_k, up_s, up_a, up_i, flA_k, flA_a, flA_n, cpA_k, cpA_a, newO_o, newA_o, newO_t, newA_t, newA_n, cpQ_k, cpQ_a]
      refine X_aload_n 74 hO dX12_beginView_73 rfl rfl ?_
      refine gX12_10 77 hO dX12_beginView_74 rfl (by first | assumption | omega | (simp (disch := first | decide | assumption | omega) only [up_k, up_s, up_a, up_i, flA_k, flA_a, flA_n, cpA_k, cpA_a, newO_o, newA_o, newO_t, newA_t, newA_n, cpQ_k, cpQ_a] <;> first | assumption | omega)) ?_
      try simp (disch := first | decide | assumption | omega) only [up_k, up_s, up_a, up_i, flA_k, flA_a, flA_n, cpA_k, cpA_a, newO_o, newA_o, newO_t, newA_t, newA_n, cpQ_k, cpQ_a]
      refine gX12_405 80 hO dX12_beginView_77 rfl (by first | assumption | omega | (simp (disch := first | decide | assumption | omega) only [up_k, up_s, up_a, up_i, flA_k, flA_a, flA_n, cpA_k, cpA_a, newO_o, newA_o, newO_t, newA_t, newA_n, cpQ_k, cpQ_a] <;> first | assumption | omega)) (fun hi_77 => ?_)
      try simp (disch := first | decide | assumption | omega) only [up_k, up_s, up_a, up_i, flA_k, flA_a, flA_n, cpA_k, cpA_a, newO_o, newA_o, newO_t, newA_t, newA_n, cpQ_k, cpQ_a] at hi_77 ⊢
      refine X_iload_n 81 hO dX12_beginView_80 rfl rfl ?_
      refine X_aload_n 82 hO dX12_beginView_81 rfl rfl ?_
      refine gX12_10 85 hO dX12_beginView_82 rfl (by first | assumption | omega | (simp (disch := first | decide | assumption | omega) only [up_k, up_s, up_a, up_i, flA_k, flA_a, flA_n, cpA_k, cpA_a, newO_o, newA_o, newO_t, newA_t, newA_n, cpQ_k, cpQ_a] <;> first | assumption | omega)) ?_
      try simp (disch := first | decide | assumption | omega) only [up_k, up_s, up_a, up_i, flA_k, flA_a, flA_n, cpA_k, cpA_a, newO_o, newA_o, newO_t, newA_t, newA_n, cpQ_k, cpQ_a]
      refine gX12_271 88 hO dX12_beginView_85 rfl (by first | assumption | omega | (simp (disch := first | decide | assumption | omega) only [up_k, up_s, up_a, up_i, flA_k, flA_a, flA_n, cpA_k, cpA_a, newO_o, newA_o, newO_t, newA_t, newA_n, cpQ_k, cpQ_a] <;> first | assumption | omega)) (fun hi_85 => ?_)
      try simp (disch := first | decide | assumption | omega) only [up_k, up_s, up_a, up_i, flA_k, flA_a, flA_n, cpA_k, cpA_a, newO_o, newA_o, newO_t, newA_t, newA_n, cpQ_k, cpQ_a] at hi_85 ⊢
      refine X_mmax 91 hO w_958 dX12_beginView_88 rfl (by omega) (by omega) hD (by decide) (by simp [rv_cat, int_cat]) ?_
      refine X_iast 92 hO dX12_beginView_91 rfl (by first | assumption | omega | (simp (disch := first | decide | assumption | omega) only [up_k, up_s, up_a, up_i, flA_k, flA_a, flA_n, cpA_k, cpA_a, newO_o, newA_o, newO_t, newA_t, newA_n, cpQ_k, cpQ_a] <;> first | assumption | omega)) (by first | assumption | omega | (simp (disch := first | decide | assumption | omega) only [up_k, up_s, up_a, up_i, flA_k, flA_a, flA_n, cpA_k, cpA_a, newO_o, newA_o, newO_t, newA_t, newA_n, cpQ_k, cpQ_a] <;> first | assumption | omega)) (by split <;> omega) ?_
      refine X_aload_n 93 hO dX12_beginView_92 rfl rfl ?_
      refine gX12_10 96 hO dX12_beginView_93 rfl (by first | assumption | omega | (simp (disch := first | decide | assumption | omega) only [up_k, up_s, up_a, up_i, flA_k, flA_a, flA_n, cpA_k, cpA_a, newO_o, newA_o, newO_t, newA_t, newA_n, cpQ_k, cpQ_a] <;> first | assumption | omega)) ?_
      try simp (disch := first | decide | assumption | omega) only [up_k, up_s, up_a, up_i, flA_k, flA_a, flA_n, cpA_k, cpA_a, newO_o, newA_o, newO_t, newA_t, newA_n, cpQ_k, cpQ_a]
      refine X_dup 97 hO dX12_beginView_96 rfl (by first | rfl | exact rv_cat _) ?_
      refine gX12_405 100 hO dX12_beginView_97 rfl (by first | assumption | omega | (simp (disch := first | decide | assumption | omega) only [up_k, up_s, up_a, up_i, flA_k, flA_a, flA_n, cpA_k, cpA_a, newO_o, newA_o, newO_t, newA_t, newA_n, cpQ_k, cpQ_a] <;> first | assumption | omega)) (fun hi_97 => ?_)
      try simp (disch := first | decide | assumption | omega) only [up_k, up_s, up_a, up_i, flA_k, flA_a, flA_n, cpA_k, cpA_a, newO_o, newA_o, newO_t, newA_t, newA_n, cpQ_k, cpQ_a] at hi_97 ⊢
      refine X_iconst 101 hO dX12_beginView_100 rfl ?_
      refine X_iadd 102 hO dX12_beginView_101 rfl ?_
      refine pX12_405 105 hO dX12_beginView_102 rfl (by first | assumption | omega | (simp (disch := first | decide | assumption | omega) only [up_k, up_s, up_a, up_i, flA_k, flA_a, flA_n, cpA_k, cpA_a, newO_o, newA_o, newO_t, newA_t, newA_n, cpQ_k, cpQ_a] <;> first | assumption | omega)) (by omega) ?_
      refine X_aload_n 106 hO dX12_beginView_105 rfl rfl ?_
      refine X_aload_n 107 hO dX12_beginView_106 rfl rfl ?_
      refine gX12_10 110 hO dX12_beginView_107 rfl (by first | assumption | omega | (simp (disch := first | decide | assumption | omega) only [up_k, up_s, up_a, up_i, flA_k, flA_a, flA_n, cpA_k, cpA_a, newO_o, newA_o, newO_t, newA_t, newA_n, cpQ_k, cpQ_a] <;> first | assumption | omega)) ?_
      try simp (disch := first | decide | assumption | omega) only [up_k, up_s, up_a, up_i, flA_k, flA_a, flA_n, cpA_k, cpA_a, newO_o, newA_o, newO_t, newA_t, newA_n, cpQ_k, cpQ_a]
      refine gX12_405 113 hO dX12_beginView_110 rfl (by first | assumption | omega | (simp (disch := first | decide | assumption | omega) only [up_k, up_s, up_a, up_i, flA_k, flA_a, flA_n, cpA_k, cpA_a, newO_o, newA_o, newO_t, newA_t, newA_n, cpQ_k, cpQ_a] <;> first | assumption | omega)) (fun hi_110 => ?_)
      try simp (disch := first | decide | assumption | omega) only [up_k, up_s, up_a, up_i, flA_k, flA_a, flA_n, cpA_k, cpA_a, newO_o, newA_o, newO_t, newA_t, newA_n, cpQ_k, cpQ_a] at hi_110 ⊢
      refine pX12_122 116 hO dX12_beginView_113 rfl (by first | assumption | omega | (simp (disch := first | decide | assumption | omega) only [up_k, up_s, up_a, up_i, flA_k, flA_a, flA_n, cpA_k, cpA_a, newO_o, newA_o, newO_t, newA_t, newA_n, cpQ_k, cpQ_a] <;> first | assumption | omega)) (by omega) ?_
      refine X_iconst 117 hO dX12_beginView_116 rfl ?_
      exact X_iret hO hF rfl (by first | exact Or.inl rfl | exact Or.inr ⟨rfl, bi_01 _⟩ | exact Or.inr ⟨rfl, by omega⟩) dX12_beginView_117 ⟨_, rfl, (by omega), Or.inr (Or.inr ⟨hc_21, by omega, rfl, rfl⟩)⟩
    ·
      refine X_bipush 39 hO dX12_beginView_37 rfl (by decide) ?_
      exact X_iret hO hF rfl (by first | exact Or.inl rfl | exact Or.inr ⟨rfl, bi_01 _⟩ | exact Or.inr ⟨rfl, by omega⟩) dX12_beginView_39 ⟨_, rfl, (by omega), Or.inr (Or.inl ⟨hc_21, by omega, rfl, rfl⟩)⟩
  ·
    try simp only [bi_0, bi_ne, ne_eq, Classical.not_not] at hc_21
    refine X_iconst 25 hO dX12_beginView_24 rfl ?_
    exact X_iret hO hF rfl (by first | exact Or.inl rfl | exact Or.inr ⟨rfl, bi_01 _⟩ | exact Or.inr ⟨rfl, by omega⟩) dX12_beginView_25 ⟨_, rfl, (by omega), Or.inl ⟨hc_21, rfl, rfl⟩⟩
theorem dX12_endView_0 : decode cX12_endView 0 = .ok (.aload_n 0, 1) := by decide +kernel
theorem dX12_endView_1 : decode cX12_endView 1 = .ok (.getfield 10, 3) := by decide +kernel
theorem dX12_endView_4 : decode cX12_endView 4 = .ok (.getfield 405, 3) := by decide +kernel
theorem dX12_endView_7 : decode cX12_endView 7 = .ok (.ifCond .ne 6, 3) := by decide +kernel
theorem dX12_endView_10 : decode cX12_endView 10 = .ok (.bipush 6, 2) := by decide +kernel
theorem dX12_endView_12 : decode cX12_endView 12 = .ok (.ireturn, 1) := by decide +kernel
theorem dX12_endView_13 : decode cX12_endView 13 = .ok (.aload_n 0, 1) := by decide +kernel
theorem dX12_endView_14 : decode cX12_endView 14 = .ok (.getfield 10, 3) := by decide +kernel
theorem dX12_endView_17 : decode cX12_endView 17 = .ok (.dup, 1) := by decide +kernel
theorem dX12_endView_18 : decode cX12_endView 18 = .ok (.getfield 405, 3) := by decide +kernel
theorem dX12_endView_21 : decode cX12_endView 21 = .ok (.iconst 1, 1) := by decide +kernel
theorem dX12_endView_22 : decode cX12_endView 22 = .ok (.isub, 1) := by decide +kernel
theorem dX12_endView_23 : decode cX12_endView 23 = .ok (.putfield 405, 3) := by decide +kernel
theorem dX12_endView_26 : decode cX12_endView 26 = .ok (.aload_n 0, 1) := by decide +kernel
theorem dX12_endView_27 : decode cX12_endView 27 = .ok (.aload_n 0, 1) := by decide +kernel
theorem dX12_endView_28 : decode cX12_endView 28 = .ok (.getfield 10, 3) := by decide +kernel
theorem dX12_endView_31 : decode cX12_endView 31 = .ok (.getfield 405, 3) := by decide +kernel
theorem dX12_endView_34 : decode cX12_endView 34 = .ok (.putfield 122, 3) := by decide +kernel
theorem dX12_endView_37 : decode cX12_endView 37 = .ok (.iconst 0, 1) := by decide +kernel
theorem dX12_endView_38 : decode cX12_endView 38 = .ok (.ireturn, 1) := by decide +kernel
set_option maxRecDepth 4000 in
theorem kX12_endView (γ : LC) (w : Mm) (f : Int) (t0 : w 0 f 0 = 13) (hd : DTl w (w 41 f 0)) : KI γ 1 mX12_endView [rv f] w (0) (0) (fun r w' => (w 60 (w 41 f 0) 0 = 0 ∧ r = 6 ∧ w' = w) ∨ (w 60 (w 41 f 0) 0 ≠ 0 ∧ r = 0 ∧ w' = up (up w 60 (w 41 f 0) 0 (w 60 (w 41 f 0) 0 - 1)) 91 f 0 (w 60 (w 41 f 0) 0 - 1))) NX := by
  refine MX_of rfl rfl (by simp [rv_cat, int_cat]) rfl ?_
  rintro κ hO hF rfl
  have hD := hF.dp
  show X κ (0) (0) w 0 [some (rv f)] []
  obtain ⟨y0, y1, ⟨y2, y3⟩, ⟨y4, y5⟩, y6, y7, y8⟩ := id hd
  refine X_aload_n 1 hO dX12_endView_0 rfl rfl ?_
  refine gX12_10 4 hO dX12_endView_1 rfl (by first | assumption | omega | (simp (disch := first | decide | assumption | omega) only [up_k, up_s, up_a, up_i, flA_k, flA_a, flA_n, cpA_k, cpA_a, newO_o, newA_o, newO_t, newA_t, newA_n, cpQ_k, cpQ_a] <;> first | assumption | omega)) ?_
  try simp (disch := first | decide | assumption | omega) only [up_k, up_s, up_a, up_i, flA_k, flA_a, flA_n, cpA_k, cpA_a, newO_o, newA_o, newO_t, newA_t, newA_n, cpQ_k, cpQ_a]
  refine gX12_405 7 hO dX12_endView_4 rfl (by first | assumption | omega | (simp (disch := first | decide | assumption | omega) only [up_k, up_s, up_a, up_i, flA_k, flA_a, flA_n, cpA_k, cpA_a, newO_o, newA_o, newO_t, newA_t, newA_n, cpQ_k, cpQ_a] <;> first | assumption | omega)) (fun hi_4 => ?_)
  try simp (disch := first | decide | assumption | omega) only [up_k, up_s, up_a, up_i, flA_k, flA_a, flA_n, cpA_k, cpA_a, newO_o, newA_o, newO_t, newA_t, newA_n, cpQ_k, cpQ_a] at hi_4 ⊢
  refine X_if_ne 10 13 hO dX12_endView_7 rfl rfl (by omega) (fun hc_7 => ?_) (fun hc_7 => ?_)
  ·
    refine X_aload_n 14 hO dX12_endView_13 rfl rfl ?_
    refine gX12_10 17 hO dX12_endView_14 rfl (by first | assumption | omega | (simp (disch := first | decide | assumption | omega) only [up_k, up_s, up_a, up_i, flA_k, flA_a, flA_n, cpA_k, cpA_a, newO_o, newA_o, newO_t, newA_t, newA_n, cpQ_k, cpQ_a] <;> first | assumption | omega)) ?_
    try simp (disch := first | decide | assumption | omega) only [up_k, up_s, up_a, up_i, flA_k, flA_a, flA_n, cpA_k, cpA_a, newO_o, newA_o, newO_t, newA_t, newA_n, cpQ_k, cpQ_a]
    refine X_dup 18 hO dX12_endView_17 rfl (by first | rfl | exact rv_cat _) ?_
    refine gX12_405 21 hO dX12_endView_18 rfl (by first | assumption | omega | (simp (disch := first | decide | assumption | omega) only [up_k, up_s, up_a, up_i, flA_k, flA_a, flA_n, cpA_k, cpA_a, newO_o, newA_o, newO_t, newA_t, newA_n, cpQ_k, cpQ_a] <;> first | assumption | omega)) (fun hi_18 => ?_)
    try simp (disch := first | decide | assumption | omega) only [up_k, up_s, up_a, up_i, flA_k, flA_a, flA_n, cpA_k, cpA_a, newO_o, newA_o, newO_t, newA_t, newA_n, cpQ_k, cpQ_a] at hi_18 ⊢
    refine X_iconst 22 hO dX12_endView_21 rfl ?_
    refine X_isub 23 hO dX12_endView_22 rfl ?_
    refine pX12_405 26 hO dX12_endView_23 rfl (by first | assumption | omega | (simp (disch := first | decide | assumption | omega) only [up_k, up_s, up_a, up_i, flA_k, flA_a, flA_n, cpA_k, cpA_a, newO_o, newA_o, newO_t, newA_t, newA_n, cpQ_k, cpQ_a] <;> first | assumption | omega)) (by omega) ?_
    refine X_aload_n 27 hO dX12_endView_26 rfl rfl ?_
    refine X_aload_n 28 hO dX12_endView_27 rfl rfl ?_
    refine gX12_10 31 hO dX12_endView_28 rfl (by first | assumption | omega | (simp (disch := first | decide | assumption | omega) only [up_k, up_s, up_a, up_i, flA_k, flA_a, flA_n, cpA_k, cpA_a, newO_o, newA_o, newO_t, newA_t, newA_n, cpQ_k, cpQ_a] <;> first | assumption | omega)) ?_
    try simp (disch := first | decide | assumption | omega) only [up_k, up_s, up_a, up_i, flA_k, flA_a, flA_n, cpA_k, cpA_a, newO_o, newA_o, newO_t, newA_t, newA_n, cpQ_k, cpQ_a]
    refine gX12_405 34 hO dX12_endView_31 rfl (by first | assumption | omega | (simp (disch := first | decide | assumption | omega) only [up_k, up_s, up_a, up_i, flA_k, flA_a, flA_n, cpA_k, cpA_a, newO_o, newA_o, newO_t, newA_t, newA_n, cpQ_k, cpQ_a] <;> first | assumption | omega)) (fun hi_31 => ?_)
    try simp (disch := first | decide | assumption | omega) only [up_k, up_s, up_a, up_i, flA_k, flA_a, flA_n, cpA_k, cpA_a, newO_o, newA_o, newO_t, newA_t, newA_n, cpQ_k, cpQ_a] at hi_31 ⊢
    refine pX12_122 37 hO dX12_endView_34 rfl (by first | assumption | omega | (simp (disch := first | decide | assumption | omega) only [up_k, up_s, up_a, up_i, flA_k, flA_a, flA_n, cpA_k, cpA_a, newO_o, newA_o, newO_t, newA_t, newA_n, cpQ_k, cpQ_a] <;> first | assumption | omega)) (by omega) ?_
    refine X_iconst 38 hO dX12_endView_37 rfl ?_
    exact X_iret hO hF rfl (by first | exact Or.inl rfl | exact Or.inr ⟨rfl, bi_01 _⟩ | exact Or.inr ⟨rfl, by omega⟩) dX12_endView_38 ⟨_, rfl, (by omega), Or.inr ⟨by omega, rfl, rfl⟩⟩
  ·
    refine X_bipush 12 hO dX12_endView_10 rfl (by decide) ?_
    exact X_iret hO hF rfl (by first | exact Or.inl rfl | exact Or.inr ⟨rfl, bi_01 _⟩ | exact Or.inr ⟨rfl, by omega⟩) dX12_endView_12 ⟨_, rfl, (by omega), Or.inl ⟨by omega, rfl, rfl⟩⟩
