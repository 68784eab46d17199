/-! a walk to a node -/
set_option maxRecDepth 4000 in
theorem kX10_distance2 (γ : LC) (w : Mm) (T a0 b0 : Int) (Q : Int → Prop) (hP : PRq Q w) (ha0 : a0 = 0 ∨ Q a0) (hb0 : b0 = 0 ∨ Q b0) : KI γ 1 mX10_distance [rv T, rv a0, rv b0] w (0) (0) (fun r w' => r = t_dist w (nnm w a0 + nnm w b0).toNat a0 b0 ∧ w' = w) NX := by
  refine MX_of rfl rfl (by simp [rv_cat, int_cat]) rfl ?_
  rintro κ hO hF rfl
  have hD := hF.dp
  show X κ (0) (0) w 0 [some (rv T), some (rv a0), some (rv b0), none, none, none] []
  refine X_iconst 1 hO dX10_distance_0 rfl ?_
  refine X_istore_n 2 hO dX10_distance_1 rfl rfl ?_
  refine X_aload_n 3 hO dX10_distance_2 rfl rfl ?_
  refine X_astore 5 hO dX10_distance_3 rfl rfl ?_
  refine X_aload_n 6 hO dX10_distance_5 rfl rfl ?_
  refine X_astore 8 hO dX10_distance_6 rfl rfl ?_
  have LP8 : ∀ (nn : Nat) (F : Nat) (a b d : Int), F < nn → (a = 0 ∨ Q a) → (b = 0 ∨ Q b) → (nnm w a + nnm w b ≤ F) → (0 ≤ d ∧ d + nnm w a + nnm w b ≤ 300000) → (t_dist w (nnm w a0 + nnm w b0).toNat a0 b0 = d + t_dist w F a b) → X κ (0) (0) (w) 8 [some (rv T), some (rv a0), some (rv b0), some (.int (I d)), some (rv a), some (rv b)] [] := by
    intro nn
    induction nn with
    | zero => intro F a b d hm; exact absurd hm (Nat.not_lt_zero _)
    | succ nn ih =>
      intro F a b d hm ha hb hF2 hd hE
      have na := nnq_b hP ha
      have nb_ := nnq_b hP hb
      refine X_aload 10 hO dX10_distance_8 rfl rfl ?_
      refine X_ifnull 13 61 hO dX10_distance_10 rfl rfl (fun hc_10 => ?_) (fun hc_10 => ?_)
      ·
        refine X_iload_n 62 hO dX10_distance_61 rfl rfl ?_
        exact X_iret hO hF rfl (by first | exact Or.inl rfl | exact Or.inr ⟨rfl, bi_01 _⟩ | exact Or.inr ⟨rfl, by omega⟩) dX10_distance_62 ⟨_, rfl, (by omega), ⟨by rw [hE, t_dist_0 (by omega)]; omega, rfl⟩⟩
      ·
        refine X_aload 15 hO dX10_distance_13 rfl rfl ?_
        refine X_ifnull 18 61 hO dX10_distance_15 rfl rfl (fun hc_15 => ?_) (fun hc_15 => ?_)
        ·
          refine X_iload_n 62 hO dX10_distance_61 rfl rfl ?_
          exact X_iret hO hF rfl (by first | exact Or.inl rfl | exact Or.inr ⟨rfl, bi_01 _⟩ | exact Or.inr ⟨rfl, by omega⟩) dX10_distance_62 ⟨_, rfl, (by omega), ⟨by rw [hE, t_dist_0 (by omega)]; omega, rfl⟩⟩
        ·
          refine X_aload 20 hO dX10_distance_18 rfl rfl ?_
          refine X_aload 22 hO dX10_distance_20 rfl rfl ?_
          refine X_acmp_eq 25 61 hO dX10_distance_22 rfl rfl (by omega) (by omega) (fun hc_22 => ?_) (fun hc_22 => ?_)
          ·
            refine X_iload_n 62 hO dX10_distance_61 rfl rfl ?_
            exact X_iret hO hF rfl (by first | exact Or.inl rfl | exact Or.inr ⟨rfl, bi_01 _⟩ | exact Or.inr ⟨rfl, by omega⟩) dX10_distance_62 ⟨_, rfl, (by omega), ⟨by rw [hE, t_dist_0 (by omega)]; omega, rfl⟩⟩
          ·
            have a5 := ha.resolve_left (by omega)
            have b5 := hb.resolve_left (by omega)
            have qa := nnq_p hP a5
            have qb := nnq_p hP b5
            have pa := hP a a5
            have pb := hP b b5
            have ta5 := pa.1
            have tb5 := pb.1
            have ea : nnm w a = w 63 a 0 + 1 := by unfold nnm; rw [if_neg (by omega)]
            have eb : nnm w b = w 63 b 0 + 1 := by unfold nnm; rw [if_neg (by omega)]
            refine X_aload 27 hO dX10_distance_25 rfl rfl ?_
            refine gX10_58 30 hO dX10_distance_27 rfl (by first | assumption | omega | (simp (disch := first | decide | assumption | omega) only [up_k, up_s, up_a, up_i, flA_k, flA_a, flA_n, cpA_k, cpA_a, newO_o, newA_o, newO_t, newA_t, newA_n, cpQ_k, cpQ_a] <;> first | assumption | omega)) (fun hi_27 => ?_)
            try simp (disch := first | decide | assumption | omega) only [up_k, up_s, up_a, up_i, flA_k, flA_a, flA_n, cpA_k, cpA_a, newO_o, newA_o, newO_t, newA_t, newA_n, cpQ_k, cpQ_a] at hi_27 ⊢
            refine X_aload 32 hO dX10_distance_30 rfl rfl ?_
            refine gX10_58 35 hO dX10_distance_32 rfl (by first | assumption | omega | (simp (disch := first | decide | assumption | omega) only [up_k, up_s, up_a, up_i, flA_k, flA_a, flA_n, cpA_k, cpA_a, newO_o, newA_o, newO_t, newA_t, newA_n, cpQ_k, cpQ_a] <;> first | assumption | omega)) (fun hi_32 => ?_)
            try simp (disch := first | decide | assumption | omega) only [up_k, up_s, up_a, up_i, flA_k, flA_a, flA_n, cpA_k, cpA_a, newO_o, newA_o, newO_t, newA_t, newA_n, cpQ_k, cpQ_a] at hi_32 ⊢
            refine X_icmp_le 38 48 hO dX10_distance_35 rfl rfl (by omega) (by omega) (fun hc_35 => ?_) (fun hc_35 => ?_)
            ·
              refine X_aload 50 hO dX10_distance_48 rfl rfl ?_
              refine gX10_61 53 hO dX10_distance_50 rfl (by first | assumption | omega | (simp (disch := first | decide | assumption | omega) only [up_k, up_s, up_a, up_i, flA_k, flA_a, flA_n, cpA_k, cpA_a, newO_o, newA_o, newO_t, newA_t, newA_n, cpQ_k, cpQ_a] <;> first | assumption | omega)) ?_
              try simp (disch := first | decide | assumption | omega) only [up_k, up_s, up_a, up_i, flA_k, flA_a, flA_n, cpA_k, cpA_a, newO_o, newA_o, newO_t, newA_t, newA_n, cpQ_k, cpQ_a]
              refine X_astore 55 hO dX10_distance_53 rfl rfl ?_
              refine X_iinc 58 hO dX10_distance_55 rfl rfl ?_
              refine X_goto hO dX10_distance_58 (tgt := 8) rfl ?_
              obtain ⟨F, rfl⟩ : ∃ F1, F = F1 + 1 := ⟨F - 1, by omega⟩
              have hE2 : t_dist w (nnm w a0 + nnm w b0).toNat a0 b0 = d + 1 + (if w 63 b 0 < w 63 a 0 then t_dist w F (w 26 a 0) b else t_dist w F a (w 26 b 0)) := by
                rw [hE]; simp only [t_dist]; rw [if_neg (fun h => by omega)]; omega
              first
              | (rw [if_pos (by omega)] at hE2; exact ih F _ _ (d + 1) (by omega) qa.1 hb (by omega) (by omega) hE2)
              | (rw [if_neg (by omega)] at hE2; exact ih F _ _ (d + 1) (by omega) ha qb.1 (by omega) (by omega) hE2)
            ·
              refine X_aload 40 hO dX10_distance_38 rfl rfl ?_
              refine gX10_61 43 hO dX10_distance_40 rfl (by first | assumption | omega | (simp (disch := first | decide | assumption | omega) only [up_k, up_s, up_a, up_i, flA_k, flA_a, flA_n, cpA_k, cpA_a, newO_o, newA_o, newO_t, newA_t, newA_n, cpQ_k, cpQ_a] <;> first | assumption | omega)) ?_
              try simp (disch := first | decide | assumption | omega) only [up_k, up_s, up_a, up_i, flA_k, flA_a, flA_n, cpA_k, cpA_a, newO_o, newA_o, newO_t, newA_t, newA_n, cpQ_k, cpQ_a]
              refine X_astore 45 hO dX10_distance_43 rfl rfl ?_
              refine X_goto hO dX10_distance_45 (tgt := 55) rfl ?_
              refine X_iinc 58 hO dX10_distance_55 rfl rfl ?_
              refine X_goto hO dX10_distance_58 (tgt := 8) rfl ?_
              obtain ⟨F, rfl⟩ : ∃ F1, F = F1 + 1 := ⟨F - 1, by omega⟩
              have hE2 : t_dist w (nnm w a0 + nnm w b0).toNat a0 b0 = d + 1 + (if w 63 b 0 < w 63 a 0 then t_dist w F (w 26 a 0) b else t_dist w F a (w 26 b 0)) := by
                rw [hE]; simp only [t_dist]; rw [if_neg (fun h => by omega)]; omega
              first
              | (rw [if_pos (by omega)] at hE2; exact ih F _ _ (d + 1) (by omega) qa.1 hb (by omega) (by omega) hE2)
              | (rw [if_neg (by omega)] at hE2; exact ih F _ _ (d + 1) (by omega) ha qb.1 (by omega) (by omega) hE2)
  have na := nnq_b hP ha0
  have nb_ := nnq_b hP hb0
  exact LP8 _ (nnm w a0 + nnm w b0).toNat a0 b0 0 (Nat.lt_succ_self _) ha0 hb0 (by omega) (by omega) (by omega)
theorem dX12_walk_0 : decode cX12_walk 0 = .ok (.aload_n 0, 1) := by decide +kernel
theorem dX12_walk_1 : decode cX12_walk 1 = .ok (.iload_n 1, 1) := by decide +kernel
theorem dX12_walk_2 : decode cX12_walk 2 = .ok (.invokevirtual 215, 3) := by decide +kernel
theorem dX12_walk_5 : decode cX12_walk 5 = .ok (.astore_n 2, 1) := by decide +kernel
theorem dX12_walk_6 : decode cX12_walk 6 = .ok (.aload_n 0, 1) := by decide +kernel
theorem dX12_walk_7 : decode cX12_walk 7 = .ok (.invokevirtual 201, 3) := by decide +kernel
theorem dX12_walk_10 : decode cX12_walk 10 = .ok (.aload_n 0, 1) := by decide +kernel
theorem dX12_walk_11 : decode cX12_walk 11 = .ok (.getfield 29, 3) := by decide +kernel
theorem dX12_walk_14 : decode cX12_walk 14 = .ok (.aload_n 0, 1) := by decide +kernel
theorem dX12_walk_15 : decode cX12_walk 15 = .ok (.getfield 29, 3) := by decide +kernel
theorem dX12_walk_18 : decode cX12_walk 18 = .ok (.getfield 98, 3) := by decide +kernel
theorem dX12_walk_21 : decode cX12_walk 21 = .ok (.aload_n 2, 1) := by decide +kernel
theorem dX12_walk_22 : decode cX12_walk 22 = .ok (.invokevirtual 219, 3) := by decide +kernel
theorem dX12_walk_25 : decode cX12_walk 25 = .ok (.istore_n 3, 1) := by decide +kernel
theorem dX12_walk_26 : decode cX12_walk 26 = .ok (.aload_n 0, 1) := by decide +kernel
theorem dX12_walk_27 : decode cX12_walk 27 = .ok (.aload_n 2, 1) := by decide +kernel
theorem dX12_walk_28 : decode cX12_walk 28 = .ok (.invokevirtual 207, 3) := by decide +kernel
theorem dX12_walk_31 : decode cX12_walk 31 = .ok (.pop, 1) := by decide +kernel
theorem dX12_walk_32 : decode cX12_walk 32 = .ok (.iload_n 3, 1) := by decide +kernel
theorem dX12_walk_33 : decode cX12_walk 33 = .ok (.ireturn, 1) := by decide +kernel
set_option maxRecDepth 4000 in
theorem kX12_walk (γ : LC) (w : Mm) (f c : Int) (p : RP) (μ : MU) (A : Mm) (S P M : Int) (h : CHB p μ f (lvL p μ A) w A) (hRB : RB μ S P M A) (hS : S ≤ 28900) (hP : P ≤ 500000) (hM : M ≤ 598) (hb28 : ∀ j, 0 ≤ j → j < 3 → A 228 0 j = 0 ∨ A 228 0 j = 1) (hc : IR c) : KI γ 10 mX12_walk [rv f, .int (I c)] w (4) (418) (fun r w' => r = (o_walk μ (pl_ p) c A).1 ∧ (o_walk μ (pl_ p) c A).2 139 μ.1 0 = 0 ∧ RES μ f w w' (o_walk μ (pl_ p) c A).2) (fun E w' => ((E = "java/lang/IndexOutOfBoundsException" ∧ (o_walk μ (pl_ p) c A).2 139 μ.1 0 = 1) ∨ (E = "java/lang/IllegalStateException" ∧ (o_walk μ (pl_ p) c A).2 139 μ.1 0 = 2)) ∧ RES μ f w w' (o_walk μ (pl_ p) c A).2) := by
  refine MX_of rfl rfl (by simp [rv_cat, int_cat]) rfl ?_
  rintro κ hO hF rfl
  have hD := hF.dp
  show X κ (4) (418) w 0 [some (rv f), some (.int (I c)), none, none] []
  refine X_wi fun hWI => ?_
  have t0 := h.1.toF.1
  have h9 := h.o9 (v := 0) hRB hM
  have hR9 : RB μ S P M (up A 139 μ.1 0 0) := hRB.o9
  have hT := hRB.2.1.2.2.2.1
  have hE := h.2.1.1.1.1
  have ha0 := hE.cur hT
  have e87 : w 87 f 0 = A 132 μ.1 0 := h.1.1.2.1.2.2.2.2.1
  have hcu := h.cur hT
  have cT := hcu.2.1
  have cC := hcu.2.2
  have v7 : w 40 (w 45 f 0) 0 = pn_ p (A 126 μ.1 0) := h.1.1.2.2.2.1.1.2.2.2.2.1
  have hz5 := hRB.2.2.1.2.2.2.2
  have hz1 := hRB.2.2.1.1
  have hTR := h.1.toTR hWI hT hE h.2.1.1.2
  have hfn := h.1.fnd hT c
  have hab : isN μ c A → alv μ A c := fun z => ⟨by omega, z.2⟩
  refine X_aload_n 1 hO dX12_walk_0 rfl rfl ?_
  refine X_iload_n 2 hO dX12_walk_1 rfl rfl ?_
  refine X_kVr (t := 13) 5 hO hD lX12_215 rfl (by decide) [_] rfl dX12_walk_2 rfl (by first | assumption | omega | (simp (disch := first | decide | assumption | omega) only [up_k, up_s, up_a, up_i, flA_k, flA_a, flA_n, cpA_k, cpA_a, newO_o, newA_o, newO_t, newA_t, newA_n, cpQ_k, cpQ_a] <;> first | assumption | omega)) (kX12_requireNode _ _ _ _ t0 hTR hc) (by decide) (by simp [rv_cat, int_cat]) (by first | decide | exact Nat.zero_le _ | omega) (by first | decide | exact Nat.zero_le _ | omega) (fun r_2 w_2 hp_2 => ?_) (fun E w_ hx_ => (XE_out hO hF (by
  obtain ⟨x1, x2, x3⟩ := hx_
  have hn : ¬ isN μ c A := fun z => by
    rw [hfn, if_pos z] at x2
    have := h.1.pos hWI (hab z); omega
  have eo : o_walk μ (pl_ p) c A = (0, m_th μ 1 A) := by unfold o_walk; rw [if_neg hn]
  rw [eo, x3]
  exact ⟨Or.inl ⟨x1, up_s _ _ _ _ _⟩, h.r9 hRB hM⟩)))
  obtain ⟨e1_2, e2_2, e3_2⟩ := hp_2
  subst w_2
  have hN : isN μ c A := by
    apply Classical.byContradiction
    intro z
    rw [hfn, if_neg z] at e2_2
    exact e1_2 e2_2
  rw [hfn, if_pos hN] at e2_2
  subst r_2
  have haN := hab hN
  have tN := (h.1.tg5 haN).1
  refine X_astore_n 6 hO dX12_walk_5 rfl rfl ?_
  refine X_aload_n 7 hO dX12_walk_6 rfl rfl ?_
  refine X_kVv (t := 13) 10 hO hD lX12_201 rfl (by decide) [] rfl dX12_walk_7 rfl (by first | assumption | omega | (simp (disch := first | decide | assumption | omega) only [up_k, up_s, up_a, up_i, flA_k, flA_a, flA_n, cpA_k, cpA_a, newO_o, newA_o, newO_t, newA_t, newA_n, cpQ_k, cpQ_a] <;> first | assumption | omega)) (kX12_refuseInGroup _ _ _ t0) (by decide) (by simp [rv_cat, int_cat]) (by first | decide | exact Nat.zero_le _ | omega) (by first | decide | exact Nat.zero_le _ | omega) (fun w_7 hp_7 => ?_) (fun E w_ hx_ => (XE_out hO hF (by
  obtain ⟨x1, x2, x3⟩ := hx_
  have g1 : A 132 μ.1 0 = 1 := by omega
  have eo : o_walk μ (pl_ p) c A = (0, m_th μ 2 A) := by unfold o_walk; rw [if_pos hN, if_pos g1]
  rw [eo, x3]
  exact ⟨Or.inr ⟨x1, up_s _ _ _ _ _⟩, h.r9 hRB hM⟩)))
  obtain ⟨e1_7, e2_7⟩ := hp_7
  subst w_7
  have g0 : A 132 μ.1 0 = 0 := by omega
  have hz : (up A 139 μ.1 0 0) 122 μ.1 0 = (up A 139 μ.1 0 0) 120 μ.1 0 := by rw [up_k _ (by decide), up_k _ (by decide)]; exact hz5 g0
  refine X_aload_n 11 hO dX12_walk_10 rfl rfl ?_
  refine gX12_29 14 hO dX12_walk_11 rfl (by first | assumption | omega | (simp (disch := first | decide | assumption | omega) only [up_k, up_s, up_a, up_i, flA_k, flA_a, flA_n, cpA_k, cpA_a, newO_o, newA_o, newO_t, newA_t, newA_n, cpQ_k, cpQ_a] <;> first | assumption | omega)) ?_
  try simp (disch := first | decide | assumption | omega) only [up_k, up_s, up_a, up_i, flA_k, flA_a, flA_n, cpA_k, cpA_a, newO_o, newA_o, newO_t, newA_t, newA_n, cpQ_k, cpQ_a]
  refine X_aload_n 15 hO dX12_walk_14 rfl rfl ?_
  refine gX12_29 18 hO dX12_walk_15 rfl (by first | assumption | omega | (simp (disch := first | decide | assumption | omega) only [up_k, up_s, up_a, up_i, flA_k, flA_a, flA_n, cpA_k, cpA_a, newO_o, newA_o, newO_t, newA_t, newA_n, cpQ_k, cpQ_a] <;> first | assumption | omega)) ?_
  try simp (disch := first | decide | assumption | omega) only [up_k, up_s, up_a, up_i, flA_k, flA_a, flA_n, cpA_k, cpA_a, newO_o, newA_o, newO_t, newA_t, newA_n, cpQ_k, cpQ_a]
  refine gX12_98 21 hO dX12_walk_18 rfl (by first | assumption | omega | (simp (disch := first | decide | assumption | omega) only [up_k, up_s, up_a, up_i, flA_k, flA_a, flA_n, cpA_k, cpA_a, newO_o, newA_o, newO_t, newA_t, newA_n, cpQ_k, cpQ_a] <;> first | assumption | omega)) ?_
  try simp (disch := first | decide | assumption | omega) only [up_k, up_s, up_a, up_i, flA_k, flA_a, flA_n, cpA_k, cpA_a, newO_o, newA_o, newO_t, newA_t, newA_n, cpQ_k, cpQ_a]
  refine X_aload_n 22 hO dX12_walk_21 rfl rfl ?_
  refine X_kVi (t := 11) 25 hO hD lX12_219 rfl (by decide) [_, _] rfl dX12_walk_22 rfl (by first | assumption | omega | (simp (disch := first | decide | assumption | omega) only [up_k, up_s, up_a, up_i, flA_k, flA_a, flA_n, cpA_k, cpA_a, newO_o, newA_o, newO_t, newA_t, newA_n, cpQ_k, cpQ_a] <;> first | assumption | omega)) (kX10_distance2 _ _ _ _ _ _ (h.1.prq hWI hT (by omega) hE) (Or.inr ⟨_, ha0, v7⟩) (Or.inr ⟨_, haN, rfl⟩)) (by decide) (by simp [rv_cat, int_cat]) (by first | decide | exact Nat.zero_le _ | omega) (by first | decide | exact Nat.zero_le _ | omega) (fun r_22 w_22 hr_22 hp_22 => ?_) (fun E w_ hx_ => hx_.elim)
  obtain ⟨e1_22, e2_22⟩ := hp_22
  subst w_22
  have ed : r_22 = m_dist A (A 126 μ.1 0) c := by rw [e1_22, v7]; exact dist_eq h.1 hWI hT hE ha0 haN
  refine X_istore_n 26 hO dX12_walk_25 rfl rfl ?_
  refine X_aload_n 27 hO dX12_walk_26 rfl rfl ?_
  refine X_aload_n 28 hO dX12_walk_27 rfl rfl ?_
  refine X_kVi (t := 13) 31 hO hD lX12_207 rfl (by decide) [_] rfl dX12_walk_28 rfl (by first | assumption | omega | (simp (disch := first | decide | assumption | omega) only [up_k, up_s, up_a, up_i, flA_k, flA_a, flA_n, cpA_k, cpA_a, newO_o, newA_o, newO_t, newA_t, newA_n, cpQ_k, cpQ_a] <;> first | assumption | omega)) (kX12_goToNode _ _ _ _ c p μ (up A 139 μ.1 0 0) S P M h9 hR9 hS hP hM (fun j j0 j1 => by rw [up_k _ (by decide)]; exact hb28 j j0 j1) hz (Or.inr ⟨rfl, al9.mpr haN⟩)) (by decide) (by simp [rv_cat, int_cat]) (by first | decide | exact Nat.zero_le _ | omega) (by first | decide | exact Nat.zero_le _ | omega) (fun r_28 w_28 hr_28 hp_28 => ?_) (fun E w_ hx_ => (XE_out hO hF (by
  have := hx_.2.1
  have := h.1.pos hWI haN
  omega)))
  obtain ⟨⟨f1, f2⟩, f3⟩ := hp_28
  refine X_pop 32 hO dX12_walk_31 rfl (by first | rfl | exact rv_cat _) ?_
  refine X_iload_n 33 hO dX12_walk_32 rfl rfl ?_
  exact X_iret hO hF rfl (by first | exact Or.inl rfl | exact Or.inr ⟨rfl, bi_01 _⟩ | exact Or.inr ⟨rfl, by omega⟩) dX12_walk_33 ⟨_, rfl, (by omega), (by
  have eo : o_walk μ (pl_ p) c A = (m_dist A (A 126 μ.1 0) c, m_wks μ (pl_ p) c (up A 139 μ.1 0 0)) := by unfold o_walk; rw [if_pos hN, if_neg (by omega)]; rfl
  rw [eo]
  exact ⟨ed, wks9 h hRB hM haN, f3⟩)⟩
