/-! characters taken behind the point -/
theorem d_tj_67 {d p n g x : Int} {w : Mm} {j : Int} (h : w 11 d 0 ≠ x) : d_tj d p n g x w j 67 (w 11 d 0) 0 = w 67 (w 11 d 0) 0 - n := by
  unfold d_tj
  rw [flA_k (by decide), flA_k (by decide), up_k _ (by decide), k_step_k h (by decide) (by decide) (by decide) (by decide) (by decide)]
  unfold t_toj t_to1
  rw [flA_k (by decide), up_s]
def g_take (f n g x : Int) (w W : Mm) : Mm := up (d_tj (w 41 f 0) (w 61 (w 41 f 0) 0) n g x W (W 60 (w 41 f 0) 0)) 91 f 0 (w 67 (w 11 (w 41 f 0) 0) 0 - n)
theorem dX12_takeBehind_0 : decode cX12_takeBehind 0 = .ok (.aload_n 0, 1) := by decide +kernel
theorem dX12_takeBehind_1 : decode cX12_takeBehind 1 = .ok (.getfield 10, 3) := by decide +kernel
theorem dX12_takeBehind_4 : decode cX12_takeBehind 4 = .ok (.iload_n 1, 1) := by decide +kernel
theorem dX12_takeBehind_5 : decode cX12_takeBehind 5 = .ok (.invokevirtual 472, 3) := by decide +kernel
theorem dX12_takeBehind_8 : decode cX12_takeBehind 8 = .ok (.ifCond .ne 5, 3) := by decide +kernel
theorem dX12_takeBehind_11 : decode cX12_takeBehind 11 = .ok (.iconst 1, 1) := by decide +kernel
theorem dX12_takeBehind_12 : decode cX12_takeBehind 12 = .ok (.ireturn, 1) := by decide +kernel
theorem dX12_takeBehind_13 : decode cX12_takeBehind 13 = .ok (.aload_n 0, 1) := by decide +kernel
theorem dX12_takeBehind_14 : decode cX12_takeBehind 14 = .ok (.getfield 10, 3) := by decide +kernel
theorem dX12_takeBehind_17 : decode cX12_takeBehind 17 = .ok (.aload_n 0, 1) := by decide +kernel
theorem dX12_takeBehind_18 : decode cX12_takeBehind 18 = .ok (.getfield 10, 3) := by decide +kernel
theorem dX12_takeBehind_21 : decode cX12_takeBehind 21 = .ok (.getfield 271, 3) := by decide +kernel
theorem dX12_takeBehind_24 : decode cX12_takeBehind 24 = .ok (.iload_n 1, 1) := by decide +kernel
theorem dX12_takeBehind_25 : decode cX12_takeBehind 25 = .ok (.invokevirtual 478, 3) := by decide +kernel
theorem dX12_takeBehind_28 : decode cX12_takeBehind 28 = .ok (.pop, 1) := by decide +kernel
theorem dX12_takeBehind_29 : decode cX12_takeBehind 29 = .ok (.aload_n 0, 1) := by decide +kernel
theorem dX12_takeBehind_30 : decode cX12_takeBehind 30 = .ok (.aload_n 0, 1) := by decide +kernel
theorem dX12_takeBehind_31 : decode cX12_takeBehind 31 = .ok (.getfield 10, 3) := by decide +kernel
theorem dX12_takeBehind_34 : decode cX12_takeBehind 34 = .ok (.getfield 223, 3) := by decide +kernel
theorem dX12_takeBehind_37 : decode cX12_takeBehind 37 = .ok (.getfield 227, 3) := by decide +kernel
theorem dX12_takeBehind_40 : decode cX12_takeBehind 40 = .ok (.putfield 122, 3) := by decide +kernel
theorem dX12_takeBehind_43 : decode cX12_takeBehind 43 = .ok (.iconst 0, 1) := by decide +kernel
theorem dX12_takeBehind_44 : decode cX12_takeBehind 44 = .ok (.ireturn, 1) := by decide +kernel
set_option maxRecDepth 4000 in
theorem kX12_takeBehind (γ : LC) (w : Mm) (f n : Int) (sS : Nat) (t0 : w 0 f 0 = 13) (hG : DG w (w 41 f 0)) (hn : 0 ≤ n ∧ n ≤ 100000) (hpz : 0 ≤ w 61 (w 41 f 0) 0) (hhi : d_high w (w 41 f 0) ≤ w 67 (w 11 (w 41 f 0) 0) 0) (hS : w 67 (w 11 (w 41 f 0) 0) 0 ≤ sS) : KI γ 5 mX12_takeBehind [rv f, .int (I n)] w (3) (sS + 6) (fun r w' => (¬ n ≤ d_high w (w 41 f 0) - w 61 (w 41 f 0) 0 ∧ r = 1 ∧ w' = w) ∨ (n ≤ d_high w (w 41 f 0) - w 61 (w 41 f 0) 0 ∧ r = 0 ∧ ∃ W g x, NCh w W g (w 28 (w 11 (w 41 f 0) 0) 0) (w 61 (w 41 f 0) 0) n ∧ 0 < x ∧ W 0 x 0 = 0 ∧ w' = g_take f n g x w W)) NX := by
  refine MX_of rfl rfl (by simp [rv_cat, int_cat]) rfl ?_
  rintro κ hO hF rfl
  have hD := hF.dp
  show X κ (3) (sS + 6) w 0 [some (rv f), some (.int (I n))] []
  obtain ⟨hd, hv, ⟨hs, hz, hb, hp, hE⟩, hQ, hNj⟩ := id hG
  obtain ⟨y0, y1, ⟨y2, y3⟩, ⟨y4, y5⟩, y6, y7, y8⟩ := id hd
  obtain ⟨z1, z2, z3⟩ := id hz
  refine X_aload_n 1 hO dX12_takeBehind_0 rfl rfl ?_
  refine gX12_10 4 hO dX12_takeBehind_1 rfl (by first | assumption | omega | (simp (disch := first | decide | assumption | omega) only [up_k, up_s, up_a, up_i, flA_k, flA_a, flA_n, cpA_k, cpA_a, newO_o, newA_o, newO_t, newA_t, newA_n, cpQ_k, cpQ_a] <;> first | assumption | omega)) ?_
  try simp (disch := first | decide | assumption | omega) only [up_k, up_s, up_a, up_i, flA_k, flA_a, flA_n, cpA_k, cpA_a, newO_o, newA_o, newO_t, newA_t, newA_n, cpQ_k, cpQ_a, d_tj_k, e41, e11, e67]
  refine X_iload_n 5 hO dX12_takeBehind_4 rfl rfl ?_
  refine X_kVi (t := 2) 8 hO hD lX12_472 rfl (by decide) [_] rfl dX12_takeBehind_5 rfl (by first | assumption | omega | (simp (disch := first | decide | assumption | omega) only [up_k, up_s, up_a, up_i, flA_k, flA_a, flA_n, cpA_k, cpA_a, newO_o, newA_o, newO_t, newA_t, newA_n, cpQ_k, cpQ_a] <;> first | assumption | omega)) (kX1_hasBehindPoint _ _ _ _ hd hv (by omega)) (by decide) (by simp [rv_cat, int_cat]) (by first | decide | exact Nat.zero_le _ | omega) (by first | decide | exact Nat.zero_le _ | omega) (fun r_5 w_5 hr_5 hp_5 => ?_) (fun E w_ hx_ => hx_.elim)
  obtain ⟨e1_5, e2_5⟩ := hp_5
  subst r_5
  subst w_5
  refine X_if_ne 11 13 hO dX12_takeBehind_8 rfl rfl (by omega) (fun hc_8 => ?_) (fun hc_8 => ?_)
  ·
    try simp only [bi_0, bi_ne, ne_eq, Classical.not_not] at hc_8
    refine X_aload_n 14 hO dX12_takeBehind_13 rfl rfl ?_
    refine gX12_10 17 hO dX12_takeBehind_14 rfl (by first | assumption | omega | (simp (disch := first | decide | assumption | omega) only [up_k, up_s, up_a, up_i, flA_k, flA_a, flA_n, cpA_k, cpA_a, newO_o, newA_o, newO_t, newA_t, newA_n, cpQ_k, cpQ_a] <;> first | assumption | omega)) ?_
    try simp (disch := first | decide | assumption | omega) only [up_k, up_s, up_a, up_i, flA_k, flA_a, flA_n, cpA_k, cpA_a, newO_o, newA_o, newO_t, newA_t, newA_n, cpQ_k, cpQ_a, d_tj_k, e41, e11, e67]
    refine X_aload_n 18 hO dX12_takeBehind_17 rfl rfl ?_
    refine gX12_10 21 hO dX12_takeBehind_18 rfl (by first | assumption | omega | (simp (disch := first | decide | assumption | omega) only [up_k, up_s, up_a, up_i, flA_k, flA_a, flA_n, cpA_k, cpA_a, newO_o, newA_o, newO_t, newA_t, newA_n, cpQ_k, cpQ_a] <;> first | assumption | omega)) ?_
    try simp (disch := first | decide | assumption | omega) only [up_k, up_s, up_a, up_i, flA_k, flA_a, flA_n, cpA_k, cpA_a, newO_o, newA_o, newO_t, newA_t, newA_n, cpQ_k, cpQ_a, d_tj_k, e41, e11, e67]
    refine gX12_271 24 hO dX12_takeBehind_21 rfl (by first | assumption | omega | (simp (disch := first | decide | assumption | omega) only [up_k, up_s, up_a, up_i, flA_k, flA_a, flA_n, cpA_k, cpA_a, newO_o, newA_o, newO_t, newA_t, newA_n, cpQ_k, cpQ_a] <;> first | assumption | omega)) (fun hi_21 => ?_)
    try simp (disch := first | decide | assumption | omega) only [up_k, up_s, up_a, up_i, flA_k, flA_a, flA_n, cpA_k, cpA_a, newO_o, newA_o, newO_t, newA_t, newA_n, cpQ_k, cpQ_a, d_tj_k, e41, e11, e67] at hi_21 ⊢
    refine X_iload_n 25 hO dX12_takeBehind_24 rfl rfl ?_
    refine X_kVr (t := 2) 28 hO hD lX12_478 rfl (by decide) [_, _] rfl dX12_takeBehind_25 rfl (by first | assumption | omega | (simp (disch := first | decide | assumption | omega) only [up_k, up_s, up_a, up_i, flA_k, flA_a, flA_n, cpA_k, cpA_a, newO_o, newA_o, newO_t, newA_t, newA_n, cpQ_k, cpQ_a] <;> first | assumption | omega)) (kX1_takeOut _ _ _ _ _ sS hG (by omega) (by omega) (by omega) hS) (by decide) (by simp [rv_cat, int_cat]) (by first | decide | exact Nat.zero_le _ | omega) (by first | decide | exact Nat.zero_le _ | omega) (fun r_25 w_25 hp_25 => ?_) (fun E w_ hx_ => hx_.elim)
    obtain ⟨hY, W, hN, x, hx0, hxf, ex_25⟩ := hp_25.resolve_left (fun h => h.1 (by omega))
    subst ex_25
    have hfr := NCh_fr hN
    have e41 : W 41 f 0 = w 41 f 0 := hfr 41 f 0 (by omega)
    have e11 : W 11 (w 41 f 0) 0 = w 11 (w 41 f 0) 0 := hfr 11 _ 0 (by omega)
    have c13 : W 0 f 0 = 13 := (hfr 0 f 0 (by omega)).trans t0
    have c2 : W 0 (w 41 f 0) 0 = 2 := (hfr 0 _ 0 (by omega)).trans y0
    have c6 : W 0 (w 11 (w 41 f 0) 0) 0 = 6 := (hfr 0 _ 0 (by omega)).trans y1
    have x0 : f ≠ x := fun h => by rw [h] at c13; omega
    have x1 : w 41 f 0 ≠ x := fun h => by rw [h] at c2; omega
    have x2 : w 11 (w 41 f 0) 0 ≠ x := fun h => by rw [h] at c6; omega
    have e67 : d_tj (w 41 f 0) (w 61 (w 41 f 0) 0) n r_25 x W (W 60 (w 41 f 0) 0) 67 (w 11 (w 41 f 0) 0) 0 = w 67 (w 11 (w 41 f 0) 0) 0 - n := by
      have h1 := d_tj_67 (d := w 41 f 0) (p := w 61 (w 41 f 0) 0) (n := n) (g := r_25) (x := x) (w := W) (j := W 60 (w 41 f 0) 0) (by rw [e11]; exact x2)
      rw [e11, hfr 67 _ 0 (by omega)] at h1
      exact h1
    refine X_pop 29 hO dX12_takeBehind_28 rfl (by first | rfl | exact rv_cat _) ?_
    refine X_aload_n 30 hO dX12_takeBehind_29 rfl rfl ?_
    refine X_aload_n 31 hO dX12_takeBehind_30 rfl rfl ?_
    refine gX12_10 34 hO dX12_takeBehind_31 rfl (by first | assumption | omega | (simp (disch := first | decide | assumption | omega) only [up_k, up_s, up_a, up_i, flA_k, flA_a, flA_n, cpA_k, cpA_a, newO_o, newA_o, newO_t, newA_t, newA_n, cpQ_k, cpQ_a, d_tj_k, e41, e11, e67] <;> first | assumption | omega)) ?_
    try simp (disch := first | decide | assumption | omega) only [up_k, up_s, up_a, up_i, flA_k, flA_a, flA_n, cpA_k, cpA_a, newO_o, newA_o, newO_t, newA_t, newA_n, cpQ_k, cpQ_a, d_tj_k, e41, e11, e67]
    refine gX12_223 37 hO dX12_takeBehind_34 rfl (by first | assumption | omega | (simp (disch := first | decide | assumption | omega) only [up_k, up_s, up_a, up_i, flA_k, flA_a, flA_n, cpA_k, cpA_a, newO_o, newA_o, newO_t, newA_t, newA_n, cpQ_k, cpQ_a, d_tj_k, e41, e11, e67] <;> first | assumption | omega)) ?_
    try simp (disch := first | decide | assumption | omega) only [up_k, up_s, up_a, up_i, flA_k, flA_a, flA_n, cpA_k, cpA_a, newO_o, newA_o, newO_t, newA_t, newA_n, cpQ_k, cpQ_a, d_tj_k, e41, e11, e67]
    refine gX12_227 40 hO dX12_takeBehind_37 rfl (by first | assumption | omega | (simp (disch := first | decide | assumption | omega) only [up_k, up_s, up_a, up_i, flA_k, flA_a, flA_n, cpA_k, cpA_a, newO_o, newA_o, newO_t, newA_t, newA_n, cpQ_k, cpQ_a, d_tj_k, e41, e11, e67] <;> first | assumption | omega)) (fun hi_37 => ?_)
    try simp (disch := first | decide | assumption | omega) only [up_k, up_s, up_a, up_i, flA_k, flA_a, flA_n, cpA_k, cpA_a, newO_o, newA_o, newO_t, newA_t, newA_n, cpQ_k, cpQ_a, d_tj_k, e41, e11, e67] at hi_37 ⊢
    refine pX12_122 43 hO dX12_takeBehind_40 rfl (by first | assumption | omega | (simp (disch := first | decide | assumption | omega) only [up_k, up_s, up_a, up_i, flA_k, flA_a, flA_n, cpA_k, cpA_a, newO_o, newA_o, newO_t, newA_t, newA_n, cpQ_k, cpQ_a, d_tj_k, e41, e11, e67] <;> first | assumption | omega)) (by omega) ?_
    refine X_iconst 44 hO dX12_takeBehind_43 rfl ?_
    exact X_iret hO hF rfl (by first | exact Or.inl rfl | exact Or.inr ⟨rfl, bi_01 _⟩ | exact Or.inr ⟨rfl, by omega⟩) dX12_takeBehind_44 ⟨_, rfl, (by omega), Or.inr ⟨hc_8, rfl, W, r_25, x, hN, hx0, hxf, rfl⟩⟩
  ·
    try simp only [bi_0, bi_ne, ne_eq, Classical.not_not] at hc_8
    refine X_iconst 12 hO dX12_takeBehind_11 rfl ?_
    exact X_iret hO hF rfl (by first | exact Or.inl rfl | exact Or.inr ⟨rfl, bi_01 _⟩ | exact Or.inr ⟨rfl, by omega⟩) dX12_takeBehind_12 ⟨_, rfl, (by omega), Or.inl ⟨hc_8, rfl, rfl⟩⟩
