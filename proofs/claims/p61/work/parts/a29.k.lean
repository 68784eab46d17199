/-! listeners settle -/
theorem dX2_settle_0 : decode cX2_settle 0 = .ok (.iconst 0, 1) := by decide +kernel
theorem dX2_settle_1 : decode cX2_settle 1 = .ok (.istore_n 2, 1) := by decide +kernel
theorem dX2_settle_2 : decode cX2_settle 2 = .ok (.iload_n 2, 1) := by decide +kernel
theorem dX2_settle_3 : decode cX2_settle 3 = .ok (.bipush 8, 2) := by decide +kernel
theorem dX2_settle_5 : decode cX2_settle 5 = .ok (.if_icmp .ge 67, 3) := by decide +kernel
theorem dX2_settle_8 : decode cX2_settle 8 = .ok (.aload_n 0, 1) := by decide +kernel
theorem dX2_settle_9 : decode cX2_settle 9 = .ok (.aload_n 1, 1) := by decide +kernel
theorem dX2_settle_10 : decode cX2_settle 10 = .ok (.getfield 31, 3) := by decide +kernel
theorem dX2_settle_13 : decode cX2_settle 13 = .ok (.invokevirtual 37, 3) := by decide +kernel
theorem dX2_settle_16 : decode cX2_settle 16 = .ok (.istore_n 3, 1) := by decide +kernel
theorem dX2_settle_17 : decode cX2_settle 17 = .ok (.iload_n 3, 1) := by decide +kernel
theorem dX2_settle_18 : decode cX2_settle 18 = .ok (.iconst (-1), 1) := by decide +kernel
theorem dX2_settle_19 : decode cX2_settle 19 = .ok (.if_icmp .ne 5, 3) := by decide +kernel
theorem dX2_settle_22 : decode cX2_settle 22 = .ok (.iconst 1, 1) := by decide +kernel
theorem dX2_settle_23 : decode cX2_settle 23 = .ok (.ireturn, 1) := by decide +kernel
theorem dX2_settle_24 : decode cX2_settle 24 = .ok (.aload_n 1, 1) := by decide +kernel
theorem dX2_settle_25 : decode cX2_settle 25 = .ok (.getfield 31, 3) := by decide +kernel
theorem dX2_settle_28 : decode cX2_settle 28 = .ok (.aload_n 0, 1) := by decide +kernel
theorem dX2_settle_29 : decode cX2_settle 29 = .ok (.getfield 15, 3) := by decide +kernel
theorem dX2_settle_32 : decode cX2_settle 32 = .ok (.iload_n 3, 1) := by decide +kernel
theorem dX2_settle_33 : decode cX2_settle 33 = .ok (.iaload, 1) := by decide +kernel
theorem dX2_settle_34 : decode cX2_settle 34 = .ok (.iconst 0, 1) := by decide +kernel
theorem dX2_settle_35 : decode cX2_settle 35 = .ok (.aload_n 1, 1) := by decide +kernel
theorem dX2_settle_36 : decode cX2_settle 36 = .ok (.getfield 31, 3) := by decide +kernel
theorem dX2_settle_39 : decode cX2_settle 39 = .ok (.getfield 41, 3) := by decide +kernel
theorem dX2_settle_42 : decode cX2_settle 42 = .ok (.invokevirtual 47, 3) := by decide +kernel
theorem dX2_settle_45 : decode cX2_settle 45 = .ok (.istore 4, 2) := by decide +kernel
theorem dX2_settle_47 : decode cX2_settle 47 = .ok (.aload_n 1, 1) := by decide +kernel
theorem dX2_settle_48 : decode cX2_settle 48 = .ok (.iload 4, 2) := by decide +kernel
theorem dX2_settle_50 : decode cX2_settle 50 = .ok (.aload_n 0, 1) := by decide +kernel
theorem dX2_settle_51 : decode cX2_settle 51 = .ok (.getfield 19, 3) := by decide +kernel
theorem dX2_settle_54 : decode cX2_settle 54 = .ok (.iload_n 3, 1) := by decide +kernel
theorem dX2_settle_55 : decode cX2_settle 55 = .ok (.iaload, 1) := by decide +kernel
theorem dX2_settle_56 : decode cX2_settle 56 = .ok (.invokevirtual 51, 3) := by decide +kernel
theorem dX2_settle_59 : decode cX2_settle 59 = .ok (.aload_n 0, 1) := by decide +kernel
theorem dX2_settle_60 : decode cX2_settle 60 = .ok (.getfield 28, 3) := by decide +kernel
theorem dX2_settle_63 : decode cX2_settle 63 = .ok (.iload_n 2, 1) := by decide +kernel
theorem dX2_settle_64 : decode cX2_settle 64 = .ok (.iload_n 3, 1) := by decide +kernel
theorem dX2_settle_65 : decode cX2_settle 65 = .ok (.iastore, 1) := by decide +kernel
theorem dX2_settle_66 : decode cX2_settle 66 = .ok (.iinc 2 1, 3) := by decide +kernel
theorem dX2_settle_69 : decode cX2_settle 69 = .ok (.goto (-67), 3) := by decide +kernel
theorem dX2_settle_72 : decode cX2_settle 72 = .ok (.aload_n 0, 1) := by decide +kernel
theorem dX2_settle_73 : decode cX2_settle 73 = .ok (.getfield 28, 3) := by decide +kernel
theorem dX2_settle_76 : decode cX2_settle 76 = .ok (.iconst 0, 1) := by decide +kernel
theorem dX2_settle_77 : decode cX2_settle 77 = .ok (.aload_n 0, 1) := by decide +kernel
theorem dX2_settle_78 : decode cX2_settle 78 = .ok (.getfield 25, 3) := by decide +kernel
theorem dX2_settle_81 : decode cX2_settle 81 = .ok (.iconst 0, 1) := by decide +kernel
theorem dX2_settle_82 : decode cX2_settle 82 = .ok (.bipush 8, 2) := by decide +kernel
theorem dX2_settle_84 : decode cX2_settle 84 = .ok (.invokestatic 55, 3) := by decide +kernel
theorem dX2_settle_87 : decode cX2_settle 87 = .ok (.iconst 0, 1) := by decide +kernel
theorem dX2_settle_88 : decode cX2_settle 88 = .ok (.ireturn, 1) := by decide +kernel
set_option maxRecDepth 4000 in
theorem kX2_settle (γ : LC) (w : Mm) (f : Int) (p : RP) (μ : MU) (L : List Int) (A : Mm) (ρ : Mm) (h : RLm p μ f L w A) (hl : 0 ≤ A 122 μ.1 0 ∧ A 122 μ.1 0 ≤ A 120 μ.1 0) (hS : A 120 μ.1 0 ≤ 29000) (hLn : (L.length : Int) ≤ 30000) (hb28 : ∀ j, 0 ≤ j → j < 3 → A 228 0 j = 0 ∨ A 228 0 j = 1) (hb30 : bOt A) (hLV : LIV μ (pg_ p) ρ A) (hB : LB μ 30000 520000 A) : KI γ 4 mX2_settle [rv (w 46 f 0), rv (w 41 f 0)] w (24) (56) (fun r w' => (r = 1 ∧ STok p μ f L w A ρ (m_nice μ 8 1 A) w') ∨ (r = 0 ∧ STno p μ f L w A (m_nice μ 8 1 A) w')) NX := by
  refine MX_of rfl rfl (by simp [rv_cat, int_cat]) rfl ?_
  rintro κ hO hF rfl
  have hD := hF.dp
  show X κ (24) (56) w 0 [some (rv (w 46 f 0)), some (rv (w 41 f 0)), none, none, none] []
  have hST0 := STj.init (ρ := ρ) h hLV hB
  refine X_iconst 1 hO dX2_settle_0 rfl ?_
  refine X_istore_n 2 hO dX2_settle_1 rfl rfl ?_
  have LP2 : ∀ (nn : Nat) (j : Int) (wj : Mm), (8 - j).toNat < nn → (0 ≤ j ∧ j ≤ 8) → (STj p μ f L w A ρ (m_nice μ 8 1 A) j wj) → X κ (3 * (8 - j).toNat) (7 * (8 - j).toNat) (wj) 2 [some (rv (w 46 f 0)), some (rv (w 41 f 0)), some (.int (I j)), none, none] [] := by
    intro nn
    induction nn with
    | zero => intro j wj hm; exact absurd hm (Nat.not_lt_zero _)
    | succ nn ih =>
      intro j wj hm hj hI
      obtain ⟨c, σ, G, Aj, h1, h2, h3, hu, h4, h5, ⟨b1, b2, b3, b4, b5, b6⟩, h6, -⟩ := id hI
      have q0 := hI.eqs h hl.1
      have e41 : wj 41 f 0 = w 41 f 0 := q0.1 41 (by decide)
      have e46 : wj 46 f 0 = w 46 f 0 := q0.1 46 (by decide)
      have hlenj : (L ++ (rng j.toNat (A 120 μ.1 0)).map σ).length ≤ 30010 := by
        rw [List.length_append, List.length_map, rng_len]; omega
      have b1f : 0 ≤ Aj 201 0 0 ∧ Aj 201 0 0 ≤ 400 := b1.1.1
      have hDGj := h1.toDG b1.1.2.2.1 (by omega) b1f.2
      have hLTj := h1.2.1.1.1
      have lwj := h1.low.2.2.2.1
      rw [e41] at hDGj lwj
      rw [e46] at hLTj
      obtain ⟨j0, ⟨j1, j2, j3, j4, j5, j6⟩, j7, j8, j9, j10, j11, j12⟩ := id hLTj
      obtain ⟨hdj, hvj, ⟨hsj, hzj, hbbj, hppj, hEj⟩, hQj, hNj⟩ := id hDGj
      have yj0 := hdj.1
      have yj1 := hsj.1
      refine X_iload_n 3 hO dX2_settle_2 rfl rfl ?_
      refine X_bipush 5 hO dX2_settle_3 rfl (by decide) ?_
      refine X_icmp_ge 8 72 hO dX2_settle_5 rfl rfl (by omega) (by omega) (fun hc_5 => ?_) (fun hc_5 => ?_)
      ·
        obtain rfl : j = 8 := by omega
        refine X_aload_n 73 hO dX2_settle_72 rfl rfl ?_
        refine gX2_28 76 hO dX2_settle_73 rfl (by first | assumption | omega | (simp (disch := first | decide | assumption | omega) only [up_k, up_s, up_a, up_i, flA_k, flA_a, flA_n, cpA_k, cpA_a, newO_o, newA_o, newO_t, newA_t, newA_n, cpQ_k, cpQ_a] <;> first | assumption | omega)) ?_
        try simp (disch := first | decide | assumption | omega) only [up_k, up_s, up_a, up_i, flA_k, flA_a, flA_n, cpA_k, cpA_a, newO_o, newA_o, newO_t, newA_t, newA_n, cpQ_k, cpQ_a, z20]
        refine X_iconst 77 hO dX2_settle_76 rfl ?_
        refine X_aload_n 78 hO dX2_settle_77 rfl rfl ?_
        refine gX2_25 81 hO dX2_settle_78 rfl (by first | assumption | omega | (simp (disch := first | decide | assumption | omega) only [up_k, up_s, up_a, up_i, flA_k, flA_a, flA_n, cpA_k, cpA_a, newO_o, newA_o, newO_t, newA_t, newA_n, cpQ_k, cpQ_a] <;> first | assumption | omega)) ?_
        try simp (disch := first | decide | assumption | omega) only [up_k, up_s, up_a, up_i, flA_k, flA_a, flA_n, cpA_k, cpA_a, newO_o, newA_o, newO_t, newA_t, newA_n, cpQ_k, cpQ_a, z20]
        refine X_iconst 82 hO dX2_settle_81 rfl ?_
        refine X_bipush 84 hO dX2_settle_82 rfl (by decide) ?_
        refine X_copyi 87 hO w_989 dX2_settle_84 rfl (by assumption) (by assumption) (by omega) (by omega) (by omega) hD (by decide) (by simp [rv_cat, int_cat]) ?_
        refine X_iconst 88 hO dX2_settle_87 rfl ?_
        exact X_iret hO hF rfl (by first | exact Or.inl rfl | exact Or.inr ⟨rfl, bi_01 _⟩ | exact Or.inr ⟨rfl, by omega⟩) dX2_settle_88 ⟨_, rfl, (by omega), Or.inr ⟨rfl, hI.done h hl⟩⟩
      ·
        have z20 := trivial
        refine X_aload_n 9 hO dX2_settle_8 rfl rfl ?_
        refine X_aload_n 10 hO dX2_settle_9 rfl rfl ?_
        refine gX2_31 13 hO dX2_settle_10 rfl (by first | assumption | omega | (simp (disch := first | decide | assumption | omega) only [up_k, up_s, up_a, up_i, flA_k, flA_a, flA_n, cpA_k, cpA_a, newO_o, newA_o, newO_t, newA_t, newA_n, cpQ_k, cpQ_a] <;> first | assumption | omega)) ?_
        try simp (disch := first | decide | assumption | omega) only [up_k, up_s, up_a, up_i, flA_k, flA_a, flA_n, cpA_k, cpA_a, newO_o, newA_o, newO_t, newA_t, newA_n, cpQ_k, cpQ_a, z20]
        refine X_kVi (t := 3) 16 hO hD lX2_37 rfl (by decide) [_] rfl dX2_settle_13 rfl (by first | assumption | omega | (simp (disch := first | decide | assumption | omega) only [up_k, up_s, up_a, up_i, flA_k, flA_a, flA_n, cpA_k, cpA_a, newO_o, newA_o, newO_t, newA_t, newA_n, cpQ_k, cpQ_a] <;> first | assumption | omega)) (kX2_firstToFind _ _ _ _ hLTj hsj hzj) (by decide) (by simp [rv_cat, int_cat]) (by first | decide | exact Nat.zero_le _ | omega) (by first | decide | exact Nat.zero_le _ | omega) (fun r_13 w_13 hr_13 hp_13 => ?_) (fun E w_ hx_ => hx_.elim)
        obtain ⟨e1_13, e2_13⟩ := hp_13
        subst w_13
        refine X_istore_n 17 hO dX2_settle_16 rfl rfl ?_
        refine X_iload_n 18 hO dX2_settle_17 rfl rfl ?_
        refine X_iconst 19 hO dX2_settle_18 rfl ?_
        refine X_icmp_ne 22 24 hO dX2_settle_19 rfl rfl (by omega) (by omega) (fun hc_19 => ?_) (fun hc_19 => ?_)
        ·
          have hc_19 : r_13 ≠ -1 := hc_19
          have hl13 : 0 ≤ r_13 ∧ r_13 ≤ 2 := (hI.rng (q := fnd (fun i => wj 1 (wj 28 (wj 11 (wj 41 f 0) 0) 0) i) (wj 1 (wj 16 (wj 46 f 0) 0) r_13) (wj 67 (wj 11 (wj 41 f 0) 0) 0).toNat 0) hb28 hb30 (by rw [e46, e41]; exact e1_13) hc_19 rfl).1
          refine X_aload_n 25 hO dX2_settle_24 rfl rfl ?_
          refine gX2_31 28 hO dX2_settle_25 rfl (by first | assumption | omega | (simp (disch := first | decide | assumption | omega) only [up_k, up_s, up_a, up_i, flA_k, flA_a, flA_n, cpA_k, cpA_a, newO_o, newA_o, newO_t, newA_t, newA_n, cpQ_k, cpQ_a] <;> first | assumption | omega)) ?_
          try simp (disch := first | decide | assumption | omega) only [up_k, up_s, up_a, up_i, flA_k, flA_a, flA_n, cpA_k, cpA_a, newO_o, newA_o, newO_t, newA_t, newA_n, cpQ_k, cpQ_a, z20]
          refine X_aload_n 29 hO dX2_settle_28 rfl rfl ?_
          refine gX2_15 32 hO dX2_settle_29 rfl (by first | assumption | omega | (simp (disch := first | decide | assumption | omega) only [up_k, up_s, up_a, up_i, flA_k, flA_a, flA_n, cpA_k, cpA_a, newO_o, newA_o, newO_t, newA_t, newA_n, cpQ_k, cpQ_a] <;> first | assumption | omega)) ?_
          try simp (disch := first | decide | assumption | omega) only [up_k, up_s, up_a, up_i, flA_k, flA_a, flA_n, cpA_k, cpA_a, newO_o, newA_o, newO_t, newA_t, newA_n, cpQ_k, cpQ_a, z20]
          refine X_iload_n 33 hO dX2_settle_32 rfl rfl ?_
          refine X_iald 34 hO dX2_settle_33 rfl (by first | assumption | omega | (simp (disch := first | decide | assumption | omega) only [up_k, up_s, up_a, up_i, flA_k, flA_a, flA_n, cpA_k, cpA_a, newO_o, newA_o, newO_t, newA_t, newA_n, cpQ_k, cpQ_a] <;> first | assumption | omega)) (by first | assumption | omega | (simp (disch := first | decide | assumption | omega) only [up_k, up_s, up_a, up_i, flA_k, flA_a, flA_n, cpA_k, cpA_a, newO_o, newA_o, newO_t, newA_t, newA_n, cpQ_k, cpQ_a] <;> first | assumption | omega)) (fun hi_33 => ?_)
          try simp (disch := first | decide | assumption | omega) only [up_k, up_s, up_a, up_i, flA_k, flA_a, flA_n, cpA_k, cpA_a, newO_o, newA_o, newO_t, newA_t, newA_n, cpQ_k, cpQ_a, z20] at hi_33 ⊢
          refine X_iconst 35 hO dX2_settle_34 rfl ?_
          refine X_aload_n 36 hO dX2_settle_35 rfl rfl ?_
          refine gX2_31 39 hO dX2_settle_36 rfl (by first | assumption | omega | (simp (disch := first | decide | assumption | omega) only [up_k, up_s, up_a, up_i, flA_k, flA_a, flA_n, cpA_k, cpA_a, newO_o, newA_o, newO_t, newA_t, newA_n, cpQ_k, cpQ_a] <;> first | assumption | omega)) ?_
          try simp (disch := first | decide | assumption | omega) only [up_k, up_s, up_a, up_i, flA_k, flA_a, flA_n, cpA_k, cpA_a, newO_o, newA_o, newO_t, newA_t, newA_n, cpQ_k, cpQ_a, z20]
          refine gX2_41 42 hO dX2_settle_39 rfl (by first | assumption | omega | (simp (disch := first | decide | assumption | omega) only [up_k, up_s, up_a, up_i, flA_k, flA_a, flA_n, cpA_k, cpA_a, newO_o, newA_o, newO_t, newA_t, newA_n, cpQ_k, cpQ_a] <;> first | assumption | omega)) (fun hi_39 => ?_)
          try simp (disch := first | decide | assumption | omega) only [up_k, up_s, up_a, up_i, flA_k, flA_a, flA_n, cpA_k, cpA_a, newO_o, newA_o, newO_t, newA_t, newA_n, cpQ_k, cpQ_a, z20] at hi_39 ⊢
          refine X_kVi (t := 6) 45 hO hD lX2_47 rfl (by decide) [_, _, _] rfl dX2_settle_42 rfl (by first | assumption | omega | (simp (disch := first | decide | assumption | omega) only [up_k, up_s, up_a, up_i, flA_k, flA_a, flA_n, cpA_k, cpA_a, newO_o, newA_o, newO_t, newA_t, newA_n, cpQ_k, cpQ_a] <;> first | assumption | omega)) (kX5_indexOfSign _ _ _ _ _ _ hsj hzj (by omega) (by omega) (by omega)) (by decide) (by simp [rv_cat, int_cat]) (by first | decide | exact Nat.zero_le _ | omega) (by first | decide | exact Nat.zero_le _ | omega) (fun r_42 w_42 hr_42 hp_42 => ?_) (fun E w_ hx_ => hx_.elim)
          obtain ⟨e1_42, e2_42⟩ := hp_42
          subst w_42
          rw [if_neg (Int.lt_irrefl _), if_neg (Int.lt_irrefl _), Int.sub_zero] at e1_42
          have e1' : r_13 = l_ff wj (wj 46 f 0) (wj 11 (wj 41 f 0) 0) 3 0 (-1) := by rw [e46, e41]; exact e1_13
          have e3' : r_42 = fnd (fun i => wj 1 (wj 28 (wj 11 (wj 41 f 0) 0) 0) i) (wj 1 (wj 16 (wj 46 f 0) 0) r_13) (wj 67 (wj 11 (wj 41 f 0) 0) 0).toNat 0 := by rw [e46, e41]; exact e1_42
          obtain ⟨-, m2, m3⟩ := hI.rng hb28 hb30 e1' hc_19 e3'
          rw [e41] at m2
          rw [e46] at m3
          refine X_istore 47 hO dX2_settle_45 rfl rfl ?_
          refine X_aload_n 48 hO dX2_settle_47 rfl rfl ?_
          refine X_iload 50 hO dX2_settle_48 rfl rfl ?_
          refine X_aload_n 51 hO dX2_settle_50 rfl rfl ?_
          refine gX2_19 54 hO dX2_settle_51 rfl (by first | assumption | omega | (simp (disch := first | decide | assumption | omega) only [up_k, up_s, up_a, up_i, flA_k, flA_a, flA_n, cpA_k, cpA_a, newO_o, newA_o, newO_t, newA_t, newA_n, cpQ_k, cpQ_a] <;> first | assumption | omega)) ?_
          try simp (disch := first | decide | assumption | omega) only [up_k, up_s, up_a, up_i, flA_k, flA_a, flA_n, cpA_k, cpA_a, newO_o, newA_o, newO_t, newA_t, newA_n, cpQ_k, cpQ_a, z20]
          refine X_iload_n 55 hO dX2_settle_54 rfl rfl ?_
          refine X_iald 56 hO dX2_settle_55 rfl (by first | assumption | omega | (simp (disch := first | decide | assumption | omega) only [up_k, up_s, up_a, up_i, flA_k, flA_a, flA_n, cpA_k, cpA_a, newO_o, newA_o, newO_t, newA_t, newA_n, cpQ_k, cpQ_a] <;> first | assumption | omega)) (by first | assumption | omega | (simp (disch := first | decide | assumption | omega) only [up_k, up_s, up_a, up_i, flA_k, flA_a, flA_n, cpA_k, cpA_a, newO_o, newA_o, newO_t, newA_t, newA_n, cpQ_k, cpQ_a] <;> first | assumption | omega)) (fun hi_55 => ?_)
          try simp (disch := first | decide | assumption | omega) only [up_k, up_s, up_a, up_i, flA_k, flA_a, flA_n, cpA_k, cpA_a, newO_o, newA_o, newO_t, newA_t, newA_n, cpQ_k, cpQ_a, z20] at hi_55 ⊢
          refine X_kVv (t := 2) 59 hO hD lX2_51 rfl (by decide) [_, _] rfl dX2_settle_56 rfl (by first | assumption | omega | (simp (disch := first | decide | assumption | omega) only [up_k, up_s, up_a, up_i, flA_k, flA_a, flA_n, cpA_k, cpA_a, newO_o, newA_o, newO_t, newA_t, newA_n, cpQ_k, cpQ_a] <;> first | assumption | omega)) (kX1_putInstead2 _ _ _ _ _ hDGj (by omega) (by omega)) (by decide) (by simp [rv_cat, int_cat]) (by first | decide | exact Nat.zero_le _ | omega) (by first | decide | exact Nat.zero_le _ | omega) (fun w_56 hp_56 => ?_) (fun E w_ hx_ => hx_.elim)
          obtain ⟨hY, W, g, hN, x, hx0, hxf, ex_56⟩ := hp_56.resolve_left (fun h => h.1 (by omega))
          have hnx := hI.next h hl (by omega) hS hb28 hb30 e1' hc_19 e3' (by rw [e46]) (by rw [e41]; exact hN) ⟨hx0, hxf⟩
          have hfr := NCh_fr hN
          have z20 : w_56 20 (w 46 f 0) 0 = w 20 (w 46 f 0) 0 ∧ w_56 0 (w 46 f 0) 0 = 3 ∧ w_56 0 (w 20 (w 46 f 0) 0) 0 = 20 ∧ w_56 2 (w 20 (w 46 f 0) 0) 0 = 8 := by
            have t1 : W 0 (w 46 f 0) 0 = 3 := (hfr 0 _ 0 (by omega)).trans j0
            have q20 : wj 20 (w 46 f 0) 0 = w 20 (w 46 f 0) 0 := q0.2.2.2 20 (by decide)
            have t2 : W 0 (w 20 (w 46 f 0) 0) 0 = 20 := by rw [← q20]; exact (hfr 0 _ 0 (by omega)).trans j6
            have t3 : W 2 (w 20 (w 46 f 0) 0) 0 = 8 := by rw [← q20]; exact (hfr 2 _ 0 (by omega)).trans j12
            have n1 : w 46 f 0 ≠ x := fun e => by rw [e] at t1; omega
            have n2 : w 20 (w 46 f 0) 0 ≠ x := fun e => by rw [e] at t2; omega
            replace ex_56 : w_56 = d_rp (w 41 f 0) r_42 _ g x W := ex_56
            refine ⟨?_, ?_, ?_, ?_⟩
            · rw [ex_56, rp_c n1 (by decide), hfr 20 _ 0 (by omega)]; exact q20
            · rw [ex_56, rp_c n1 (by decide)]; exact t1
            · rw [ex_56, rp_c n2 (by decide)]; exact t2
            · rw [ex_56, rp_c n2 (by decide)]; exact t3
          obtain ⟨z20, z3, z21, z22⟩ := z20
          replace ex_56 : w_56 = d_rp (w 41 f 0) r_42 _ g x W := ex_56
          rw [e41, ← ex_56] at hnx
          clear hp_56 hN ex_56 hfr
          refine X_aload_n 60 hO dX2_settle_59 rfl rfl ?_
          refine gX2_28 63 hO dX2_settle_60 rfl (by first | assumption | omega | (simp (disch := first | decide | assumption | omega) only [up_k, up_s, up_a, up_i, flA_k, flA_a, flA_n, cpA_k, cpA_a, newO_o, newA_o, newO_t, newA_t, newA_n, cpQ_k, cpQ_a] <;> first | assumption | omega)) ?_
          try simp (disch := first | decide | assumption | omega) only [up_k, up_s, up_a, up_i, flA_k, flA_a, flA_n, cpA_k, cpA_a, newO_o, newA_o, newO_t, newA_t, newA_n, cpQ_k, cpQ_a, z20]
          refine X_iload_n 64 hO dX2_settle_63 rfl rfl ?_
          refine X_iload_n 65 hO dX2_settle_64 rfl rfl ?_
          refine X_iast 66 hO dX2_settle_65 rfl (by first | assumption | omega | (simp (disch := first | decide | assumption | omega) only [up_k, up_s, up_a, up_i, flA_k, flA_a, flA_n, cpA_k, cpA_a, newO_o, newA_o, newO_t, newA_t, newA_n, cpQ_k, cpQ_a] <;> first | assumption | omega)) (by first | assumption | omega | (simp (disch := first | decide | assumption | omega) only [up_k, up_s, up_a, up_i, flA_k, flA_a, flA_n, cpA_k, cpA_a, newO_o, newA_o, newO_t, newA_t, newA_n, cpQ_k, cpQ_a] <;> first | assumption | omega)) (by omega) ?_
          refine X_iinc 69 hO dX2_settle_66 rfl rfl ?_
          refine X_goto hO dX2_settle_69 (tgt := 2) rfl ?_
          exact X_mono (by omega) (by omega) (X_wk (by simp only [lwk, lset, true_or, or_true, and_self]) (ih (j + 1) _ (by omega) (by omega) hnx))
        ·
          
          refine X_iconst 23 hO dX2_settle_22 rfl ?_
          exact X_iret hO hF rfl (by first | exact Or.inl rfl | exact Or.inr ⟨rfl, bi_01 _⟩ | exact Or.inr ⟨rfl, by omega⟩) dX2_settle_23 ⟨_, rfl, (by omega), Or.inl ⟨rfl, hI.none (by omega) hb28 (by rw [e46, e41, ← e1_13]; exact hc_19)⟩⟩
  exact X_mono (by omega) (by omega) (LP2 _ 0 w (Nat.lt_succ_self _) (by omega) hST0)
