/-! undoing a change in the class: all opposites -/
theorem opL_st {μ : MU} {PL : Int → List Int} {nd i : Int} {W : Mm} (hi : 0 ≤ i) : m_opL μ PL nd (i + 1).toNat W = if (m_opp μ PL nd i W).1 = 0 then (0, (m_opp μ PL nd i W).2) else m_opL μ PL nd i.toNat (m_opp μ PL nd i W).2 := by
  rw [show (i + 1).toNat = i.toNat + 1 by omega]
  simp only [m_opL]
  rw [show ((i.toNat : Nat) : Int) = i by omega]
theorem OPI.btc {p : RP} {μ : MU} {f S P M n nd t : Int} {kp : Int → Int} {w W0 W : Mm} (h : OPI μ f kp S P n nd W0 (t + 1) p w W) (hH : OPH μ S P M n W0) (ht : 0 ≤ t ∧ t + 1 ≤ n) (hb : bTc 150010000 W) (h2 : UI μ S P n W0 t (m_opp μ (pl_ p) nd t W).2) : bTc 150010000 (m_opp μ (pl_ p) nd t W).2 := fun i i0 i1 => by
  by_cases c : i < t
  · have tv := h2.2.2.2.1.1 i i0 c
    have l : 0 ≤ (m_opp μ (pl_ p) nd t W).2 201 0 0 ∧ (m_opp μ (pl_ p) nd t W).2 201 0 0 ≤ 400 := h2.1.1.1
    dsimp only at tv
    omega
  · have e : ∀ {c : Nat}, c = 244 ∨ c = 245 → (m_opp μ (pl_ p) nd t W).2 c 0 i = W c 0 i := fun {cc} z => by
      obtain ⟨q1, -⟩ := h.qf hH ht
      unfold m_opp
      by_cases k0 : W 241 0 t = 0
      · rw [if_pos k0]
        show m_opN μ t (W 244 0 t) (W 243 0 t) t.toNat (m_opD μ (W 244 0 t) (W 243 0 t) W) cc 0 i = _
        rw [opN_o z _ (by omega)]
        unfold m_opD
        rw [up_k _ (by omega), del_at (by omega)]
      · obtain ⟨-, -, r3, -⟩ := h.rm hH ht h.1 (by omega)
        rw [if_neg k0]
        split
        · show m_opN μ t (W 244 0 t) (W 243 0 t) t.toNat (m_rep μ _ _ _) cc 0 i = _
          rw [opN_o z _ (by omega), rep_at (by omega), r3 _ _ _ (by omega) (by omega) (by omega) (by omega)]
        · split
          · rfl
          · show m_opN μ t (W 244 0 t) (W 243 0 t) t.toNat (m_opI μ (W 244 0 t) (W 243 0 t) (m_rem μ (pl_ p) nd t W)) cc 0 i = _
            rw [opN_o z _ (by omega)]
            unfold m_opI
            rw [up_k _ (by omega), ins_at (by omega), r3 _ _ _ (by omega) (by omega) (by omega) (by omega)]
    rw [e (by decide), e (by decide)]
    exact hb i i0 i1
theorem dX9_doOpposites_0 : decode cX9_doOpposites 0 = .ok (.aload_n 0, 1) := by decide +kernel
theorem dX9_doOpposites_1 : decode cX9_doOpposites 1 = .ok (.getfield 49, 3) := by decide +kernel
theorem dX9_doOpposites_4 : decode cX9_doOpposites 4 = .ok (.iconst 1, 1) := by decide +kernel
theorem dX9_doOpposites_5 : decode cX9_doOpposites 5 = .ok (.isub, 1) := by decide +kernel
theorem dX9_doOpposites_6 : decode cX9_doOpposites 6 = .ok (.istore_n 2, 1) := by decide +kernel
theorem dX9_doOpposites_7 : decode cX9_doOpposites 7 = .ok (.iload_n 2, 1) := by decide +kernel
theorem dX9_doOpposites_8 : decode cX9_doOpposites 8 = .ok (.ifCond .lt 20, 3) := by decide +kernel
theorem dX9_doOpposites_11 : decode cX9_doOpposites 11 = .ok (.aload_n 0, 1) := by decide +kernel
theorem dX9_doOpposites_12 : decode cX9_doOpposites 12 = .ok (.aload_n 1, 1) := by decide +kernel
theorem dX9_doOpposites_13 : decode cX9_doOpposites 13 = .ok (.iload_n 2, 1) := by decide +kernel
theorem dX9_doOpposites_14 : decode cX9_doOpposites 14 = .ok (.invokevirtual 100, 3) := by decide +kernel
theorem dX9_doOpposites_17 : decode cX9_doOpposites 17 = .ok (.ifCond .ne 5, 3) := by decide +kernel
theorem dX9_doOpposites_20 : decode cX9_doOpposites 20 = .ok (.iconst 0, 1) := by decide +kernel
theorem dX9_doOpposites_21 : decode cX9_doOpposites 21 = .ok (.ireturn, 1) := by decide +kernel
theorem dX9_doOpposites_22 : decode cX9_doOpposites 22 = .ok (.iinc 2 (-1), 3) := by decide +kernel
theorem dX9_doOpposites_25 : decode cX9_doOpposites 25 = .ok (.goto (-18), 3) := by decide +kernel
theorem dX9_doOpposites_28 : decode cX9_doOpposites 28 = .ok (.iconst 1, 1) := by decide +kernel
theorem dX9_doOpposites_29 : decode cX9_doOpposites 29 = .ok (.ireturn, 1) := by decide +kernel
set_option maxRecDepth 4000 in
theorem kX9_doOpposites (γ : LC) (w : Mm) (f T D : Int) (p : RP) (μ : MU) (kp : Int → Int) (S P M n nd : Int) (W0 : Mm) (h : OPI μ f kp S P n nd W0 n p w W0) (hH : OPH μ S P M n W0) (h77 : w 77 T 0 = n) (hTe : T = w 47 f 0) (hDe : D = w 41 f 0) (hbt : bTc 150010000 W0) : KI γ 8 mX9_doOpposites [rv T, rv D] w (32) (3360) (fun r w' => ((r = 1 ∧ (m_opL μ (pl_ p) nd n.toNat W0).1 = 1) ∨ (r = 0 ∧ (m_opL μ (pl_ p) nd n.toNat W0).1 = 0)) ∧ ((LB μ (S + 8) (P + 400) (m_opL μ (pl_ p) nd n.toNat W0).2 ∧ RK μ S P M (m_opL μ (pl_ p) nd n.toNat W0).2) ∧ ((m_opL μ (pl_ p) nd n.toNat W0).2 122 μ.1 0 ≤ (m_opL μ (pl_ p) nd n.toNat W0).2 120 μ.1 0 ∧ (m_opL μ (pl_ p) nd n.toNat W0).2 123 μ.1 0 ≤ (m_opL μ (pl_ p) nd n.toNat W0).2 121 μ.1 0) ∧ (∀ (c : Nat) (a i : Int), opK c = false → (m_opL μ (pl_ p) nd n.toNat W0).2 c a i = W0 c a i)) ∧ (OF μ W0 (m_opL μ (pl_ p) nd n.toNat W0).2 ∧ bTc 150010000 (m_opL μ (pl_ p) nd n.toNat W0).2) ∧ ∃ p', CHK p' μ f w' (m_opL μ (pl_ p) nd n.toNat W0).2 ∧ UPG f w w') NX := by
  refine MX_of rfl rfl (by simp [rv_cat, int_cat]) rfl ?_
  rintro κ hO hF rfl
  have hD := hF.dp
  show X κ (32) (3360) w 0 [some (rv T), some (rv D), none] []
  obtain ⟨hn0, hn1, hn8⟩ := hH.2.1
  have c10 : w 0 T 0 = 10 := by rw [hTe]; exact h.1.1.1.1.2.2.2.2.2.2.1.1
  have e77 := h77
  refine X_aload_n 1 hO dX9_doOpposites_0 rfl rfl ?_
  refine gX9_49 4 hO dX9_doOpposites_1 rfl (by first | assumption | omega | (simp (disch := first | decide | assumption | omega) only [up_k, up_s, up_a, up_i, flA_k, flA_a, flA_n, cpA_k, cpA_a, newO_o, newA_o, newO_t, newA_t, newA_n, cpQ_k, cpQ_a] <;> first | assumption | omega)) (fun hi_1 => ?_)
  try simp (disch := first | decide | assumption | omega) only [up_k, up_s, up_a, up_i, flA_k, flA_a, flA_n, cpA_k, cpA_a, newO_o, newA_o, newO_t, newA_t, newA_n, cpQ_k, cpQ_a, e77] at hi_1 ⊢
  refine X_iconst 5 hO dX9_doOpposites_4 rfl ?_
  refine X_isub 6 hO dX9_doOpposites_5 rfl ?_
  refine X_istore_n 7 hO dX9_doOpposites_6 rfl rfl ?_
  have LP7 : ∀ (nn : Nat) (i : Int) (p1 : RP) (w1 W : Mm), (i + 1).toNat < nn → (OPI μ f kp S P n nd W0 (i + 1) p1 w1 W) → (-1 ≤ i ∧ i < n) → (UPG f w w1) → (pl_ p1 = pl_ p) → (bTc 150010000 W) → (m_opL μ (pl_ p) nd (i + 1).toNat W = (m_opL μ (pl_ p) nd n.toNat W0)) → X κ (4 * (i + 1).toNat) (420 * (i + 1).toNat) (w1) 7 [some (rv T), some (rv D), some (.int (I i))] [] := by
    intro nn
    induction nn with
    | zero => intro i p1 w1 W hm; exact absurd hm (Nat.not_lt_zero _)
    | succ nn ih =>
      intro i p1 w1 W hm hj hb hg hpl hbT hm
      have hT1 : T = w1 47 f 0 := by rw [hg.2.1 47 (by decide)]; exact hTe
      have hD1 : D = w1 41 f 0 := by rw [hg.2.1 41 (by decide)]; exact hDe
      have c10_1 : w1 0 T 0 = 10 := by rw [hT1]; exact hj.1.1.1.1.2.2.2.2.2.2.1.1
      refine X_iload_n 8 hO dX9_doOpposites_7 rfl rfl ?_
      refine X_if_lt 11 28 hO dX9_doOpposites_8 rfl rfl (by omega) (fun hc_8 => ?_) (fun hc_8 => ?_)
      ·
        have ei : i = -1 := by omega
        subst ei
        have hm0 : (m_opL μ (pl_ p) nd n.toNat W0) = (1, W) := by rw [← hm]; rfl
        obtain ⟨⟨v1, v2, v3⟩, v4, v5, v6, v7⟩ := hj.v hH (by omega)
        refine X_iconst 29 hO dX9_doOpposites_28 rfl ?_
        exact X_iret hO hF rfl (by first | exact Or.inl rfl | exact Or.inr ⟨rfl, bi_01 _⟩ | exact Or.inr ⟨rfl, by omega⟩) dX9_doOpposites_29 ⟨_, rfl, (by omega), ⟨Or.inl ⟨rfl, by rw [hm0]⟩, by rw [hm0]; exact ⟨⟨v1, v3⟩, v5, v4⟩, by rw [hm0]; exact ⟨hj.2.2.1.2.2.1, hbT⟩, p1, by rw [hm0]; exact hj.1, hg⟩⟩
      ·
        refine X_aload_n 12 hO dX9_doOpposites_11 rfl rfl ?_
        refine X_aload_n 13 hO dX9_doOpposites_12 rfl rfl ?_
        refine X_iload_n 14 hO dX9_doOpposites_13 rfl rfl ?_
        refine X_kVi (t := 10) 17 hO hD lX9_100 rfl (by decide) [_, _] rfl dX9_doOpposites_14 rfl (by first | assumption | omega | (simp (disch := first | decide | assumption | omega) only [up_k, up_s, up_a, up_i, flA_k, flA_a, flA_n, cpA_k, cpA_a, newO_o, newA_o, newO_t, newA_t, newA_n, cpQ_k, cpQ_a] <;> first | assumption | omega)) (kX9_doOpposite _ _ f T D i p1 μ kp S P M n nd W0 W hj hH (by omega) hT1 hD1) (by decide) (by simp [rv_cat, int_cat]) (by first | decide | exact Nat.zero_le _ | omega) (by first | decide | exact Nat.zero_le _ | omega) (fun r_14 w_14 hr_14 hp_14 => ?_) (fun E w_ hx_ => hx_.elim)
        rw [hpl] at hp_14
        refine X_if_ne 20 22 hO dX9_doOpposites_17 rfl rfl (by omega) (fun hc_17 => ?_) (fun hc_17 => ?_)
        ·
          try simp only [bi_0, bi_ne, ne_eq, Classical.not_not] at hc_17
          obtain ⟨z1, z2, p2, z3, z4, z5⟩ := hp_14.resolve_right (fun z => by have := z.1; omega)
          have hm2 : m_opL μ (pl_ p) nd (i + -1 + 1).toNat (m_opp μ (pl_ p) nd i W).2 = (m_opL μ (pl_ p) nd n.toNat W0) := by
            rw [← hm, opL_st (i := i) (W := W) (by omega), if_neg (by omega), show i + -1 + 1 = i by omega]
          have hj2 : OPI μ f kp S P n nd W0 (i + -1 + 1) p2 w_14 (m_opp μ (pl_ p) nd i W).2 := by rw [show i + -1 + 1 = i by omega]; exact z3
          have hg2 := hg.trans z4
          have hpl2 := z5
          have hbT2 : bTc 150010000 (m_opp μ (pl_ p) nd i W).2 := by
            have q := hj.btc hH (by omega) hbT (by rw [hpl]; exact z3.2.2.1)
            rw [hpl] at q; exact q
          refine X_iinc 25 hO dX9_doOpposites_22 rfl rfl ?_
          refine X_goto hO dX9_doOpposites_25 (tgt := 7) rfl ?_
          exact X_mono (by omega) (by omega) (ih _ _ _ _ (by omega) hj2 (by omega) hg2 hpl2 hbT2 hm2)
        ·
          try simp only [bi_0, bi_ne, ne_eq, Classical.not_not] at hc_17
          obtain ⟨z1, z2, z3, z4⟩ := hp_14.resolve_left (fun z => by have := z.1; omega)
          have hm0 : (m_opL μ (pl_ p) nd n.toNat W0) = (0, W) := by rw [← hm, opL_st (by omega), z2]; rfl
          obtain ⟨⟨v1, v2, v3⟩, v4, v5, v6, v7⟩ := hj.v hH (by omega)
          refine X_iconst 21 hO dX9_doOpposites_20 rfl ?_
          exact X_iret hO hF rfl (by first | exact Or.inl rfl | exact Or.inr ⟨rfl, bi_01 _⟩ | exact Or.inr ⟨rfl, by omega⟩) dX9_doOpposites_21 ⟨_, rfl, (by omega), ⟨Or.inr ⟨rfl, by rw [hm0]⟩, by rw [hm0]; exact ⟨⟨v1, v3⟩, v5, v4⟩, by rw [hm0]; exact ⟨hj.2.2.1.2.2.1, hbT⟩, p1, by rw [hm0]; exact z3, hg.trans z4⟩⟩
  exact X_mono (by omega) (by omega) (LP7 _ _ p w W0 (Nat.lt_succ_self _) (by rw [show n - 1 + 1 = n by omega]; exact h) (by omega) UPG.refl rfl hbt (by rw [show n - 1 + 1 = n by omega]))
