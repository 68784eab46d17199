/-! a macro is run -/
theorem dX12_runMacro_0 : decode cX12_runMacro 0 = .ok (.iconst 0, 1) := by decide +kernel
theorem dX12_runMacro_1 : decode cX12_runMacro 1 = .ok (.istore 4, 2) := by decide +kernel
theorem dX12_runMacro_3 : decode cX12_runMacro 3 = .ok (.iload 4, 2) := by decide +kernel
theorem dX12_runMacro_5 : decode cX12_runMacro 5 = .ok (.iload_n 2, 1) := by decide +kernel
theorem dX12_runMacro_6 : decode cX12_runMacro 6 = .ok (.if_icmp .ge 45, 3) := by decide +kernel
theorem dX12_runMacro_9 : decode cX12_runMacro 9 = .ok (.iconst 0, 1) := by decide +kernel
theorem dX12_runMacro_10 : decode cX12_runMacro 10 = .ok (.istore 5, 2) := by decide +kernel
theorem dX12_runMacro_12 : decode cX12_runMacro 12 = .ok (.iload 5, 2) := by decide +kernel
theorem dX12_runMacro_14 : decode cX12_runMacro 14 = .ok (.aload_n 0, 1) := by decide +kernel
theorem dX12_runMacro_15 : decode cX12_runMacro 15 = .ok (.getfield 49, 3) := by decide +kernel
theorem dX12_runMacro_18 : decode cX12_runMacro 18 = .ok (.iload_n 1, 1) := by decide +kernel
theorem dX12_runMacro_19 : decode cX12_runMacro 19 = .ok (.aaload, 1) := by decide +kernel
theorem dX12_runMacro_20 : decode cX12_runMacro 20 = .ok (.getfield 170, 3) := by decide +kernel
theorem dX12_runMacro_23 : decode cX12_runMacro 23 = .ok (.if_icmp .ge 22, 3) := by decide +kernel
theorem dX12_runMacro_26 : decode cX12_runMacro 26 = .ok (.aload_n 0, 1) := by decide +kernel
theorem dX12_runMacro_27 : decode cX12_runMacro 27 = .ok (.iload_n 1, 1) := by decide +kernel
theorem dX12_runMacro_28 : decode cX12_runMacro 28 = .ok (.iload 5, 2) := by decide +kernel
theorem dX12_runMacro_30 : decode cX12_runMacro 30 = .ok (.iload_n 3, 1) := by decide +kernel
theorem dX12_runMacro_31 : decode cX12_runMacro 31 = .ok (.invokevirtual 408, 3) := by decide +kernel
theorem dX12_runMacro_34 : decode cX12_runMacro 34 = .ok (.ifCond .ne 5, 3) := by decide +kernel
theorem dX12_runMacro_37 : decode cX12_runMacro 37 = .ok (.iconst 0, 1) := by decide +kernel
theorem dX12_runMacro_38 : decode cX12_runMacro 38 = .ok (.ireturn, 1) := by decide +kernel
theorem dX12_runMacro_39 : decode cX12_runMacro 39 = .ok (.iinc 5 1, 3) := by decide +kernel
theorem dX12_runMacro_42 : decode cX12_runMacro 42 = .ok (.goto (-30), 3) := by decide +kernel
theorem dX12_runMacro_45 : decode cX12_runMacro 45 = .ok (.iinc 4 1, 3) := by decide +kernel
theorem dX12_runMacro_48 : decode cX12_runMacro 48 = .ok (.goto (-45), 3) := by decide +kernel
theorem dX12_runMacro_51 : decode cX12_runMacro 51 = .ok (.iconst 1, 1) := by decide +kernel
theorem dX12_runMacro_52 : decode cX12_runMacro 52 = .ok (.ireturn, 1) := by decide +kernel
set_option maxRecDepth 4000 in
theorem kX12_runMacro (γ : LC) (w : Mm) (f m k l : Int) (p : RP) (μ : MU) (ρ w0 A0 A A' : Mm) (s t s' t' r' u v S P M : Int) (n : Nat) (hN : RNS p μ f ρ w0 A0 w A s t u v) (hG : GI μ S P M l s A) (hl : 1 ≤ l ∧ l ≤ 5) (hSP : S ≤ 28900 ∧ P ≤ 500000) (hm : A 237 0 l = m) (hk : A 238 0 l = k) (hi : A 239 0 l = 0) (hRT : RT μ n false l s t A s' t' r' A') (hK : ∀ m, m < n → KRN m) : KI γ (8 + 2 * (5 - l).toNat) mX12_runMacro [rv f, .int (I m), .int (I k), .int (I l)] w (5 * (s' - s).toNat) (411 * (s' - s).toNat) (fun r w' => r = (if r' = 0 then 1 else 0) ∧ RNS p μ f ρ w0 A0 w' A' s' t' (if r' = 0 then u else r') (if r' = 0 then v else A' 135 μ.1 0)) NX := by
  refine MX_of rfl rfl (by simp [rv_cat, int_cat]) rfl ?_
  rintro κ hO hF rfl
  have hD := hF.dp
  show X κ (5 * (s' - s).toNat) (411 * (s' - s).toNat) w 0 [some (rv f), some (.int (I m)), some (.int (I k)), some (.int (I l)), none, none] []
  obtain ⟨i1, i2, i3, i4⟩ := hG.f hl.1
  rw [hm] at i1
  rw [hk] at i2
  refine X_iconst 1 hO dX12_runMacro_0 rfl ?_
  refine X_istore 3 hO dX12_runMacro_1 rfl rfl ?_
  have LP3 : ∀ (nn : Nat) (tt : Int) (w1 A1 : Mm) (s1 t1 : Int) (n1 : Nat), (k - tt).toNat < nn → (0 ≤ tt ∧ tt ≤ k) → (RNS p μ f ρ w0 A0 w1 A1 s1 t1 u v) → (GI μ S P M l s1 A1) → (A1 237 0 l = m ∧ A1 239 0 l = 0) → (A1 236 0 m ≠ 0 → A1 238 0 l = k - tt) → (RT μ n1 false l s1 t1 A1 s' t' r' A') → (n1 ≤ n) → X κ (5 * (s' - s1).toNat) (411 * (s' - s1).toNat) (w1) 3 [some (rv f), some (.int (I m)), some (.int (I k)), some (.int (I l)), some (.int (I tt)), none] [] := by
    intro nn
    induction nn with
    | zero => intro tt w1 A1 s1 t1 n1 hm; exact absurd hm (Nat.not_lt_zero _)
    | succ nn ihO =>
      intro tt w1 A1 s1 t1 n1 hm ht hN1 hG1 hm1 hk1 hRT1 hn1
      have hmo := hm
      refine X_iload 5 hO dX12_runMacro_3 rfl rfl ?_
      refine X_iload_n 6 hO dX12_runMacro_5 rfl rfl ?_
      refine X_icmp_ge 9 51 hO dX12_runMacro_6 rfl rfl (by omega) (by omega) (fun hc_6 => ?_) (fun hc_6 => ?_)
      ·
        have hdn := hRT1.dn (by
          by_cases z : A1 236 0 m = 0
          · exact Or.inr (by rw [hm1.1]; exact z)
          · exact Or.inl (by have := hk1 z; omega))
        obtain ⟨x1, x2, x3, x4⟩ := hdn
        refine X_iconst 52 hO dX12_runMacro_51 rfl ?_
        exact X_iret hO hF rfl (by first | exact Or.inl rfl | exact Or.inr ⟨rfl, bi_01 _⟩ | exact Or.inr ⟨rfl, by omega⟩) dX12_runMacro_52 ⟨_, rfl, (by omega), by subst x1 x2 x3 x4; rw [if_pos rfl, if_pos rfl, if_pos rfl]; exact ⟨rfl, hN1⟩⟩
      ·
        have htk : tt < k := by omega
        refine X_iconst 10 hO dX12_runMacro_9 rfl ?_
        refine X_istore 12 hO dX12_runMacro_10 rfl rfl ?_
        have LP12 : ∀ (nn : Nat) (j : Int) (w2 A2 : Mm) (s2 t2 : Int) (n2 : Nat), (16 - j).toNat < nn → (0 ≤ j) → (RNS p μ f ρ w0 A0 w2 A2 s2 t2 u v) → (GI μ S P M l s2 A2) → (A2 237 0 l = m ∧ A2 239 0 l = j) → (A2 236 0 m ≠ 0 → A2 238 0 l = k - tt) → (RT μ n2 false l s2 t2 A2 s' t' r' A') → (n2 ≤ n) → X κ (5 * (s' - s2).toNat) (411 * (s' - s2).toNat) (w2) 12 [some (rv f), some (.int (I m)), some (.int (I k)), some (.int (I l)), some (.int (I tt)), some (.int (I j))] [] := by
          intro nn
          induction nn with
          | zero => intro j w2 A2 s2 t2 n2 hm; exact absurd hm (Nat.not_lt_zero _)
          | succ nn ihI =>
            intro j w2 A2 s2 t2 n2 hm hj hN2 hG2 hm2 hk2 hRT2 hn2
            obtain ⟨c2, σ2, G2, h2⟩ := id hN2
            obtain ⟨⟨y13, y24, y4a, y12⟩, ⟨y4, -⟩, ycnt, -⟩ := h2.mac i1
            dsimp only [mcq] at y4 ycnt
            obtain ⟨j1, j2, j3, j4⟩ := hG2.f hl.1
            rw [hm2.1] at j1 j3 j4
            rw [hm2.2] at j3
            refine X_iload 14 hO dX12_runMacro_12 rfl rfl ?_
            refine X_aload_n 15 hO dX12_runMacro_14 rfl rfl ?_
            refine gX12_49 18 hO dX12_runMacro_15 rfl (by first | assumption | omega | (simp (disch := first | decide | assumption | omega) only [up_k, up_s, up_a, up_i, flA_k, flA_a, flA_n, cpA_k, cpA_a, newO_o, newA_o, newO_t, newA_t, newA_n, cpQ_k, cpQ_a] <;> first | assumption | omega)) ?_
            try simp (disch := first | decide | assumption | omega) only [up_k, up_s, up_a, up_i, flA_k, flA_a, flA_n, cpA_k, cpA_a, newO_o, newA_o, newO_t, newA_t, newA_n, cpQ_k, cpQ_a]
            refine X_iload_n 19 hO dX12_runMacro_18 rfl rfl ?_
            refine X_aald (t := 24) (C := "Foldback$Macro") 20 hO rfl (by decide) dX12_runMacro_19 rfl (by first | assumption | omega | (simp (disch := first | decide | assumption | omega) only [up_k, up_s, up_a, up_i, flA_k, flA_a, flA_n, cpA_k, cpA_a, newO_o, newA_o, newO_t, newA_t, newA_n, cpQ_k, cpQ_a] <;> first | assumption | omega)) (by first | assumption | omega | (simp (disch := first | decide | assumption | omega) only [up_k, up_s, up_a, up_i, flA_k, flA_a, flA_n, cpA_k, cpA_a, newO_o, newA_o, newO_t, newA_t, newA_n, cpQ_k, cpQ_a] <;> first | assumption | omega)) ?_
            try simp (disch := first | decide | assumption | omega) only [up_k, up_s, up_a, up_i, flA_k, flA_a, flA_n, cpA_k, cpA_a, newO_o, newA_o, newO_t, newA_t, newA_n, cpQ_k, cpQ_a]
            refine gX12_170 23 hO dX12_runMacro_20 rfl (by first | assumption | omega | (simp (disch := first | decide | assumption | omega) only [up_k, up_s, up_a, up_i, flA_k, flA_a, flA_n, cpA_k, cpA_a, newO_o, newA_o, newO_t, newA_t, newA_n, cpQ_k, cpQ_a] <;> first | assumption | omega)) (fun hi_20 => ?_)
            try simp (disch := first | decide | assumption | omega) only [up_k, up_s, up_a, up_i, flA_k, flA_a, flA_n, cpA_k, cpA_a, newO_o, newA_o, newO_t, newA_t, newA_n, cpQ_k, cpQ_a] at hi_20 ⊢
            refine X_icmp_ge 26 45 hO dX12_runMacro_23 rfl rfl (by omega) (by omega) (fun hc_23 => ?_) (fun hc_23 => ?_)
            ·
              refine X_iinc 48 hO dX12_runMacro_45 rfl rfl ?_
              refine X_goto hO dX12_runMacro_48 (tgt := 3) rfl ?_
              obtain ⟨A3, n3, v1, v2, v3, v4, v5, v6⟩ := RNS.nxt hN2 hG2 hl.1 hm2.1 (show A2 239 0 l = A2 236 0 m by omega) hk2 (show tt < k by omega) hRT2 hn2
              exact X_mono (by omega) (by omega) (X_wk (by simp only [lwk, lset, true_or, or_true, and_self]) (ihO (tt + 1) w2 A3 s2 t2 n3 (by omega) (by omega) v1 v2 v3 v4 v5 v6))
            ·
              obtain ⟨n', hn', sa, ta, ra, Aa, hRTs, hcase⟩ := hRT2.sta (by rw [hm2.1]; have := hk2 (by omega); omega) (by rw [hm2.1, hm2.2]; omega)
              obtain ⟨g1, g2, g3, -, g5, g6⟩ := RT.gi hRTs hG2 hl.1 (fun _ => by rw [hm2.1, hm2.2]; omega)
              have hsa : sa ≤ s' := by
                rcases hcase with ⟨z1, z2⟩ | z
                · exact (RT.gi z2 (g2 z1) hl.1 (fun z => Bool.noConfusion z)).1
                · omega
              refine X_aload_n 27 hO dX12_runMacro_26 rfl rfl ?_
              refine X_iload_n 28 hO dX12_runMacro_27 rfl rfl ?_
              refine X_iload 30 hO dX12_runMacro_28 rfl rfl ?_
              refine X_iload_n 31 hO dX12_runMacro_30 rfl rfl ?_
              refine X_kVi (t := 13) 34 hO hD lX12_408 rfl (by decide) [_, _, _] rfl dX12_runMacro_31 rfl (by first | assumption | omega | (simp (disch := first | decide | assumption | omega) only [up_k, up_s, up_a, up_i, flA_k, flA_a, flA_n, cpA_k, cpA_a, newO_o, newA_o, newO_t, newA_t, newA_n, cpQ_k, cpQ_a] <;> first | assumption | omega)) (kX12_start _ _ _ _ _ _ p μ ρ w0 A0 A2 Aa s2 t2 sa ta ra u v S P M n' hN2 hG2 hl hSP hm2.1 hm2.2 (by rw [hm2.1, hm2.2]; omega) hRTs (hK n' (by omega))) (by first | decide | omega) (by simp [rv_cat, int_cat]) (by first | decide | exact Nat.zero_le _ | omega) (by first | decide | exact Nat.zero_le _ | omega) (fun r_31 w_31 hr_31 hp_31 => ?_) (fun E w_ hx_ => hx_.elim)
              obtain ⟨er, hPo⟩ := hp_31
              refine X_if_ne 37 39 hO dX12_runMacro_34 rfl rfl (by omega) (fun hc_34 => ?_) (fun hc_34 => ?_)
              ·
                try simp only [bi_0, bi_ne, ne_eq, Classical.not_not] at hc_34
                have hra : ra = 0 := Classical.byContradiction fun z => hc_34 (by rw [er, if_neg z])
                rw [if_pos hra, if_pos hra] at hPo
                have hGa : GI μ S P M l sa Aa := g2 hra
                obtain ⟨f1, f2, f3⟩ := g5 rfl hra
                have f4 : Aa 236 0 m = A2 236 0 m := g6 _ _ (Or.inr rfl)
                have hRTn := (hcase.resolve_right (fun z => z.1 hra)).2
                clear hcase
                refine X_iinc 42 hO dX12_runMacro_39 rfl rfl ?_
                refine X_goto hO dX12_runMacro_42 (tgt := 12) rfl ?_
                exact X_mono (by omega) (by omega) (ihI (j + 1) w_31 Aa sa ta (n' + 1) (by omega) (by omega) hPo hGa ⟨by rw [f1]; exact hm2.1, by rw [f3, hm2.2]⟩ (fun z => by rw [f2]; exact hk2 (by rw [← f4]; exact z)) hRTn (by omega))
              ·
                try simp only [bi_0, bi_ne, ne_eq, Classical.not_not] at hc_34
                have hra : ra ≠ 0 := fun z => by rw [er, if_pos z] at hc_34; exact absurd hc_34 (by decide)
                obtain ⟨-, x1, x2, x3, x4⟩ := hcase.resolve_left (fun z => hra z.1)
                refine X_iconst 38 hO dX12_runMacro_37 rfl ?_
                exact X_iret hO hF rfl (by first | exact Or.inl rfl | exact Or.inr ⟨rfl, bi_01 _⟩ | exact Or.inr ⟨rfl, by omega⟩) dX12_runMacro_38 ⟨_, rfl, (by omega), by subst x1 x2 x3 x4; exact ⟨by rw [if_neg hra], hPo⟩⟩
        exact LP12 _ 0 w1 A1 s1 t1 n1 (Nat.lt_succ_self _) (by omega) hN1 hG1 hm1 hk1 hRT1 hn1
  exact X_mono (by omega) (by omega) (LP3 _ 0 w A s t n (Nat.lt_succ_self _) (by omega) hN hG ⟨hm, hi⟩ (fun _ => by omega) hRT (Nat.le_refl _))
theorem krn_ok : ∀ n, KRN n := fun n => Nat.strongRecOn n fun n ih γ w f m k l p μ ρ w0 A0 A A' s t s' t' r' u v S P M hN hG hl hSP hm hk hi hRT => kX12_runMacro γ w f m k l p μ ρ w0 A0 A A' s t s' t' r' u v S P M n hN hG hl hSP hm hk hi hRT ih
