/-! characters put at the point -/
theorem d_pj_61 {d p b x : Int} {w : Mm} {j : Int} : d_pj d p b x w j 61 d 0 = mvF (w 61 d 0) p (w 2 b 0) 0 := by
  unfold d_pj; rw [flA_k (by decide), flA_k (by decide), up_s]
theorem d_pj_67 {d p b x : Int} {w : Mm} {j : Int} (h : w 11 d 0 ≠ x) : d_pj d p b x w j 67 (w 11 d 0) 0 = w 67 (w 11 d 0) 0 + w 2 b 0 := by
  unfold d_pj
  rw [flA_k (by decide), flA_k (by decide), up_k _ (by decide), k_step_k h (by decide) (by decide) (by decide) (by decide) (by decide)]
  unfold t_ptj t_pt1
  rw [flA_k (by decide), up_s]
theorem mvF_same {p n : Int} : mvF p p n 0 = p := by unfold mvF; rw [if_neg (by omega)]
def g_put (f c x : Int) (w : Mm) : Mm := up (up (d_pj (w 41 f 0) (w 61 (w 41 f 0) 0) (w 10 c 0) x w (w 60 (w 41 f 0) 0)) 61 (w 41 f 0) 0 (w 61 (w 41 f 0) 0 + w 2 (w 10 c 0) 0)) 91 f 0 (w 67 (w 11 (w 41 f 0) 0) 0 + w 2 (w 10 c 0) 0)
theorem dX12_putAtPoint_0 : decode cX12_putAtPoint 0 = .ok (.aload_n 1, 1) := by decide +kernel
theorem dX12_putAtPoint_1 : decode cX12_putAtPoint 1 = .ok (.ifnonnull 5, 3) := by decide +kernel
theorem dX12_putAtPoint_4 : decode cX12_putAtPoint 4 = .ok (.iconst 4, 1) := by decide +kernel
theorem dX12_putAtPoint_5 : decode cX12_putAtPoint 5 = .ok (.ireturn, 1) := by decide +kernel
theorem dX12_putAtPoint_6 : decode cX12_putAtPoint 6 = .ok (.aload_n 0, 1) := by decide +kernel
theorem dX12_putAtPoint_7 : decode cX12_putAtPoint 7 = .ok (.getfield 10, 3) := by decide +kernel
theorem dX12_putAtPoint_10 : decode cX12_putAtPoint 10 = .ok (.aload_n 0, 1) := by decide +kernel
theorem dX12_putAtPoint_11 : decode cX12_putAtPoint 11 = .ok (.getfield 10, 3) := by decide +kernel
theorem dX12_putAtPoint_14 : decode cX12_putAtPoint 14 = .ok (.getfield 271, 3) := by decide +kernel
theorem dX12_putAtPoint_17 : decode cX12_putAtPoint 17 = .ok (.aload_n 1, 1) := by decide +kernel
theorem dX12_putAtPoint_18 : decode cX12_putAtPoint 18 = .ok (.invokevirtual 468, 3) := by decide +kernel
theorem dX12_putAtPoint_21 : decode cX12_putAtPoint 21 = .ok (.ifCond .ne 5, 3) := by decide +kernel
theorem dX12_putAtPoint_24 : decode cX12_putAtPoint 24 = .ok (.iconst 5, 1) := by decide +kernel
theorem dX12_putAtPoint_25 : decode cX12_putAtPoint 25 = .ok (.ireturn, 1) := by decide +kernel
theorem dX12_putAtPoint_26 : decode cX12_putAtPoint 26 = .ok (.aload_n 0, 1) := by decide +kernel
theorem dX12_putAtPoint_27 : decode cX12_putAtPoint 27 = .ok (.getfield 10, 3) := by decide +kernel
theorem dX12_putAtPoint_30 : decode cX12_putAtPoint 30 = .ok (.dup, 1) := by decide +kernel
theorem dX12_putAtPoint_31 : decode cX12_putAtPoint 31 = .ok (.getfield 271, 3) := by decide +kernel
theorem dX12_putAtPoint_34 : decode cX12_putAtPoint 34 = .ok (.aload_n 1, 1) := by decide +kernel
theorem dX12_putAtPoint_35 : decode cX12_putAtPoint 35 = .ok (.getfield 316, 3) := by decide +kernel
theorem dX12_putAtPoint_38 : decode cX12_putAtPoint 38 = .ok (.arraylength, 1) := by decide +kernel
theorem dX12_putAtPoint_39 : decode cX12_putAtPoint 39 = .ok (.iadd, 1) := by decide +kernel
theorem dX12_putAtPoint_40 : decode cX12_putAtPoint 40 = .ok (.putfield 271, 3) := by decide +kernel
theorem dX12_putAtPoint_43 : decode cX12_putAtPoint 43 = .ok (.aload_n 0, 1) := by decide +kernel
theorem dX12_putAtPoint_44 : decode cX12_putAtPoint 44 = .ok (.aload_n 0, 1) := by decide +kernel
theorem dX12_putAtPoint_45 : decode cX12_putAtPoint 45 = .ok (.getfield 10, 3) := by decide +kernel
theorem dX12_putAtPoint_48 : decode cX12_putAtPoint 48 = .ok (.getfield 223, 3) := by decide +kernel
theorem dX12_putAtPoint_51 : decode cX12_putAtPoint 51 = .ok (.getfield 227, 3) := by decide +kernel
theorem dX12_putAtPoint_54 : decode cX12_putAtPoint 54 = .ok (.putfield 122, 3) := by decide +kernel
theorem dX12_putAtPoint_57 : decode cX12_putAtPoint 57 = .ok (.iconst 0, 1) := by decide +kernel
theorem dX12_putAtPoint_58 : decode cX12_putAtPoint 58 = .ok (.ireturn, 1) := by decide +kernel
set_option maxRecDepth 4000 in
theorem kX12_putAtPoint (γ : LC) (w : Mm) (f c : Int) (t0 : w 0 f 0 = 13) (hG : DG w (w 41 f 0)) (hc0 : c = 0 ∨ (w 0 c 0 = 1 ∧ w 0 (w 10 c 0) 0 = 20 ∧ w 10 c 0 ≠ w 28 (w 11 (w 41 f 0) 0) 0 ∧ 0 ≤ w 2 (w 10 c 0) 0 ∧ w 2 (w 10 c 0) 0 ≤ 100000)) (hpz : 0 ≤ w 61 (w 41 f 0) 0 ∧ w 61 (w 41 f 0) 0 ≤ w 67 (w 11 (w 41 f 0) 0) 0) : KI γ 4 mX12_putAtPoint [rv f, rv c] w (1) (5) (fun r w' => (c = 0 ∧ r = 4 ∧ w' = w) ∨ (c ≠ 0 ∧ ¬ (w 2 (w 10 c 0) 0 ≤ w 2 (w 28 (w 11 (w 41 f 0) 0) 0) 0 - w 67 (w 11 (w 41 f 0) 0) 0) ∧ r = 5 ∧ w' = w) ∨ (c ≠ 0 ∧ (w 2 (w 10 c 0) 0 ≤ w 2 (w 28 (w 11 (w 41 f 0) 0) 0) 0 - w 67 (w 11 (w 41 f 0) 0) 0) ∧ r = 0 ∧ ∃ x, 0 < x ∧ w 0 x 0 = 0 ∧ w' = g_put f c x w)) NX := by
  refine MX_of rfl rfl (by simp [rv_cat, int_cat]) rfl ?_
  rintro κ hO hF rfl
  have hD := hF.dp
  show X κ (1) (5) w 0 [some (rv f), some (rv c)] []
  obtain ⟨hd, hv, ⟨hs, hz, hb, hp, hE⟩, hQ, hNj⟩ := id hG
  obtain ⟨y0, y1, ⟨y2, y3⟩, ⟨y4, y5⟩, y6, y7, y8⟩ := id hd
  obtain ⟨z1, z2, z3⟩ := id hz
  refine X_aload_n 1 hO dX12_putAtPoint_0 rfl rfl ?_
  refine X_ifnonnull 4 6 hO dX12_putAtPoint_1 rfl rfl (fun hc_1 => ?_) (fun hc_1 => ?_)
  ·
    obtain ⟨hc1, hc2, hc3, hc4⟩ := hc0.resolve_left (by omega)
    refine X_aload_n 7 hO dX12_putAtPoint_6 rfl rfl ?_
    refine gX12_10 10 hO dX12_putAtPoint_7 rfl (by first | assumption | omega | (simp (disch := first | decide | assumption | omega) only [up_k, up_s, up_a, up_i, flA_k, flA_a, flA_n, cpA_k, cpA_a, newO_o, newA_o, newO_t, newA_t, newA_n, cpQ_k, cpQ_a, d_pj_k, d_pj_61, d_pj_67] <;> first | assumption | omega)) ?_
    try simp (disch := first | decide | assumption | omega) only [up_k, up_s, up_a, up_i, flA_k, flA_a, flA_n, cpA_k, cpA_a, newO_o, newA_o, newO_t, newA_t, newA_n, cpQ_k, cpQ_a, d_pj_k, d_pj_61, d_pj_67, mvF_same]
    refine X_aload_n 11 hO dX12_putAtPoint_10 rfl rfl ?_
    refine gX12_10 14 hO dX12_putAtPoint_11 rfl (by first | assumption | omega | (simp (disch := first | decide | assumption | omega) only [up_k, up_s, up_a, up_i, flA_k, flA_a, flA_n, cpA_k, cpA_a, newO_o, newA_o, newO_t, newA_t, newA_n, cpQ_k, cpQ_a, d_pj_k, d_pj_61, d_pj_67] <;> first | assumption | omega)) ?_
    try simp (disch := first | decide | assumption | omega) only [up_k, up_s, up_a, up_i, flA_k, flA_a, flA_n, cpA_k, cpA_a, newO_o, newA_o, newO_t, newA_t, newA_n, cpQ_k, cpQ_a, d_pj_k, d_pj_61, d_pj_67, mvF_same]
    refine gX12_271 17 hO dX12_putAtPoint_14 rfl (by first | assumption | omega | (simp (disch := first | decide | assumption | omega) only [up_k, up_s, up_a, up_i, flA_k, flA_a, flA_n, cpA_k, cpA_a, newO_o, newA_o, newO_t, newA_t, newA_n, cpQ_k, cpQ_a, d_pj_k, d_pj_61, d_pj_67] <;> first | assumption | omega)) (fun hi_14 => ?_)
    try simp (disch := first | decide | assumption | omega) only [up_k, up_s, up_a, up_i, flA_k, flA_a, flA_n, cpA_k, cpA_a, newO_o, newA_o, newO_t, newA_t, newA_n, cpQ_k, cpQ_a, d_pj_k, d_pj_61, d_pj_67, mvF_same] at hi_14 ⊢
    refine X_aload_n 18 hO dX12_putAtPoint_17 rfl rfl ?_
    refine X_kVi (t := 2) 21 hO hD lX12_468 rfl (by decide) [_, _] rfl dX12_putAtPoint_18 rfl (by first | assumption | omega | (simp (disch := first | decide | assumption | omega) only [up_k, up_s, up_a, up_i, flA_k, flA_a, flA_n, cpA_k, cpA_a, newO_o, newA_o, newO_t, newA_t, newA_n, cpQ_k, cpQ_a, d_pj_k, d_pj_61, d_pj_67] <;> first | assumption | omega)) (kX1_putIn _ _ _ _ _ hG (by omega) hc1 hc2 hc3 hc4) (by decide) (by simp [rv_cat, int_cat]) (by first | decide | exact Nat.zero_le _ | omega) (by first | decide | exact Nat.zero_le _ | omega) (fun r_18 w_18 hr_18 hp_18 => ?_) (fun E w_ hx_ => hx_.elim)
    refine X_if_ne 24 26 hO dX12_putAtPoint_21 rfl rfl (by omega) (fun hc_21 => ?_) (fun hc_21 => ?_)
    ·
      try simp only [bi_0, bi_ne, ne_eq, Classical.not_not] at hc_21
      obtain ⟨hY, e1_18, x, hx0, hxf, ex_18⟩ := hp_18.resolve_left (fun h => by have := h.2.1; omega)
      subst ex_18
      have x0 : f ≠ x := fun h => by rw [h] at t0; omega
      have x1 : w 41 f 0 ≠ x := fun h => by rw [h] at y0; omega
      have x2 : w 11 (w 41 f 0) 0 ≠ x := fun h => by rw [h] at y1; omega
      have x3 : c ≠ x := fun h => by rw [h] at hc1; omega
      have x4 : w 10 c 0 ≠ x := fun h => by rw [h] at hc2; omega
      refine X_aload_n 27 hO dX12_putAtPoint_26 rfl rfl ?_
      refine gX12_10 30 hO dX12_putAtPoint_27 rfl (by first | assumption | omega | (simp (disch := first | decide | assumption | omega) only [up_k, up_s, up_a, up_i, flA_k, flA_a, flA_n, cpA_k, cpA_a, newO_o, newA_o, newO_t, newA_t, newA_n, cpQ_k, cpQ_a, d_pj_k, d_pj_61, d_pj_67] <;> first | assumption | omega)) ?_
      try simp (disch := first | decide | assumption | omega) only [up_k, up_s, up_a, up_i, flA_k, flA_a, flA_n, cpA_k, cpA_a, newO_o, newA_o, newO_t, newA_t, newA_n, cpQ_k, cpQ_a, d_pj_k, d_pj_61, d_pj_67, mvF_same]
      refine X_dup 31 hO dX12_putAtPoint_30 rfl (by first | rfl | exact rv_cat _) ?_
      refine gX12_271 34 hO dX12_putAtPoint_31 rfl (by first | assumption | omega | (simp (disch := first | decide | assumption | omega) only [up_k, up_s, up_a, up_i, flA_k, flA_a, flA_n, cpA_k, cpA_a, newO_o, newA_o, newO_t, newA_t, newA_n, cpQ_k, cpQ_a, d_pj_k, d_pj_61, d_pj_67] <;> first | assumption | omega)) (fun hi_31 => ?_)
      try simp (disch := first | decide | assumption | omega) only [up_k, up_s, up_a, up_i, flA_k, flA_a, flA_n, cpA_k, cpA_a, newO_o, newA_o, newO_t, newA_t, newA_n, cpQ_k, cpQ_a, d_pj_k, d_pj_61, d_pj_67, mvF_same] at hi_31 ⊢
      refine X_aload_n 35 hO dX12_putAtPoint_34 rfl rfl ?_
      refine gX12_316 38 hO dX12_putAtPoint_35 rfl (by first | assumption | omega | (simp (disch := first | decide | assumption | omega) only [up_k, up_s, up_a, up_i, flA_k, flA_a, flA_n, cpA_k, cpA_a, newO_o, newA_o, newO_t, newA_t, newA_n, cpQ_k, cpQ_a, d_pj_k, d_pj_61, d_pj_67] <;> first | assumption | omega)) ?_
      try simp (disch := first | decide | assumption | omega) only [up_k, up_s, up_a, up_i, flA_k, flA_a, flA_n, cpA_k, cpA_a, newO_o, newA_o, newO_t, newA_t, newA_n, cpQ_k, cpQ_a, d_pj_k, d_pj_61, d_pj_67, mvF_same]
      refine X_alen (t := 20) 39 hO (by first | assumption | omega | (simp (disch := first | decide | assumption | omega) only [up_k, up_s, up_a, up_i, flA_k, flA_a, flA_n, cpA_k, cpA_a, newO_o, newA_o, newO_t, newA_t, newA_n, cpQ_k, cpQ_a, d_pj_k, d_pj_61, d_pj_67] <;> first | assumption | omega)) (by decide) dX12_putAtPoint_38 rfl (by first | assumption | omega | (simp (disch := first | decide | assumption | omega) only [up_k, up_s, up_a, up_i, flA_k, flA_a, flA_n, cpA_k, cpA_a, newO_o, newA_o, newO_t, newA_t, newA_n, cpQ_k, cpQ_a, d_pj_k, d_pj_61, d_pj_67] <;> first | assumption | omega)) (fun hi_38 => ?_)
      try simp (disch := first | decide | assumption | omega) only [up_k, up_s, up_a, up_i, flA_k, flA_a, flA_n, cpA_k, cpA_a, newO_o, newA_o, newO_t, newA_t, newA_n, cpQ_k, cpQ_a, d_pj_k, d_pj_61, d_pj_67, mvF_same] at hi_38 ⊢
      refine X_iadd 40 hO dX12_putAtPoint_39 rfl ?_
      refine pX12_271 43 hO dX12_putAtPoint_40 rfl (by first | assumption | omega | (simp (disch := first | decide | assumption | omega) only [up_k, up_s, up_a, up_i, flA_k, flA_a, flA_n, cpA_k, cpA_a, newO_o, newA_o, newO_t, newA_t, newA_n, cpQ_k, cpQ_a, d_pj_k, d_pj_61, d_pj_67] <;> first | assumption | omega)) (by omega) ?_
      refine X_aload_n 44 hO dX12_putAtPoint_43 rfl rfl ?_
      refine X_aload_n 45 hO dX12_putAtPoint_44 rfl rfl ?_
      refine gX12_10 48 hO dX12_putAtPoint_45 rfl (by first | assumption | omega | (simp (disch := first | decide | assumption | omega) only [up_k, up_s, up_a, up_i, flA_k, flA_a, flA_n, cpA_k, cpA_a, newO_o, newA_o, newO_t, newA_t, newA_n, cpQ_k, cpQ_a, d_pj_k, d_pj_61, d_pj_67] <;> first | assumption | omega)) ?_
      try simp (disch := first | decide | assumption | omega) only [up_k, up_s, up_a, up_i, flA_k, flA_a, flA_n, cpA_k, cpA_a, newO_o, newA_o, newO_t, newA_t, newA_n, cpQ_k, cpQ_a, d_pj_k, d_pj_61, d_pj_67, mvF_same]
      refine gX12_223 51 hO dX12_putAtPoint_48 rfl (by first | assumption | omega | (simp (disch := first | decide | assumption | omega) only [up_k, up_s, up_a, up_i, flA_k, flA_a, flA_n, cpA_k, cpA_a, newO_o, newA_o, newO_t, newA_t, newA_n, cpQ_k, cpQ_a, d_pj_k, d_pj_61, d_pj_67] <;> first | assumption | omega)) ?_
      try simp (disch := first | decide | assumption | omega) only [up_k, up_s, up_a, up_i, flA_k, flA_a, flA_n, cpA_k, cpA_a, newO_o, newA_o, newO_t, newA_t, newA_n, cpQ_k, cpQ_a, d_pj_k, d_pj_61, d_pj_67, mvF_same]
      refine gX12_227 54 hO dX12_putAtPoint_51 rfl (by first | assumption | omega | (simp (disch := first | decide | assumption | omega) only [up_k, up_s, up_a, up_i, flA_k, flA_a, flA_n, cpA_k, cpA_a, newO_o, newA_o, newO_t, newA_t, newA_n, cpQ_k, cpQ_a, d_pj_k, d_pj_61, d_pj_67] <;> first | assumption | omega)) (fun hi_51 => ?_)
      try simp (disch := first | decide | assumption | omega) only [up_k, up_s, up_a, up_i, flA_k, flA_a, flA_n, cpA_k, cpA_a, newO_o, newA_o, newO_t, newA_t, newA_n, cpQ_k, cpQ_a, d_pj_k, d_pj_61, d_pj_67, mvF_same] at hi_51 ⊢
      refine pX12_122 57 hO dX12_putAtPoint_54 rfl (by first | assumption | omega | (simp (disch := first | decide | assumption | omega) only [up_k, up_s, up_a, up_i, flA_k, flA_a, flA_n, cpA_k, cpA_a, newO_o, newA_o, newO_t, newA_t, newA_n, cpQ_k, cpQ_a, d_pj_k, d_pj_61, d_pj_67] <;> first | assumption | omega)) (by omega) ?_
      refine X_iconst 58 hO dX12_putAtPoint_57 rfl ?_
      exact X_iret hO hF rfl (by first | exact Or.inl rfl | exact Or.inr ⟨rfl, bi_01 _⟩ | exact Or.inr ⟨rfl, by omega⟩) dX12_putAtPoint_58 ⟨_, rfl, (by omega), Or.inr (Or.inr ⟨by omega, by omega, rfl, x, hx0, hxf, rfl⟩)⟩
    ·
      try simp only [bi_0, bi_ne, ne_eq, Classical.not_not] at hc_21
      obtain ⟨hN, e1_18, e2_18⟩ := hp_18.resolve_right (fun h => by have := h.2.1; omega)
      subst w_18
      refine X_iconst 25 hO dX12_putAtPoint_24 rfl ?_
      exact X_iret hO hF rfl (by first | exact Or.inl rfl | exact Or.inr ⟨rfl, bi_01 _⟩ | exact Or.inr ⟨rfl, by omega⟩) dX12_putAtPoint_25 ⟨_, rfl, (by omega), Or.inr (Or.inl ⟨by omega, by omega, rfl, rfl⟩)⟩
  ·
    refine X_iconst 5 hO dX12_putAtPoint_4 rfl ?_
    exact X_iret hO hF rfl (by first | exact Or.inl rfl | exact Or.inr ⟨rfl, bi_01 _⟩ | exact Or.inr ⟨rfl, by omega⟩) dX12_putAtPoint_5 ⟨_, rfl, (by omega), Or.inl ⟨by omega, rfl, rfl⟩⟩
