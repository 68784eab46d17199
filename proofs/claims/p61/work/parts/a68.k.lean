/-! merging to the budget: the loop -/
theorem dX10_mergeToBudget_0 : decode cX10_mergeToBudget 0 = .ok (.iconst 0, 1) := by decide +kernel
theorem dX10_mergeToBudget_1 : decode cX10_mergeToBudget 1 = .ok (.istore_n 1, 1) := by decide +kernel
theorem dX10_mergeToBudget_2 : decode cX10_mergeToBudget 2 = .ok (.iconst 0, 1) := by decide +kernel
theorem dX10_mergeToBudget_3 : decode cX10_mergeToBudget 3 = .ok (.istore_n 2, 1) := by decide +kernel
theorem dX10_mergeToBudget_4 : decode cX10_mergeToBudget 4 = .ok (.iload_n 2, 1) := by decide +kernel
theorem dX10_mergeToBudget_5 : decode cX10_mergeToBudget 5 = .ok (.aload_n 0, 1) := by decide +kernel
theorem dX10_mergeToBudget_6 : decode cX10_mergeToBudget 6 = .ok (.getfield 12, 3) := by decide +kernel
theorem dX10_mergeToBudget_9 : decode cX10_mergeToBudget 9 = .ok (.invokeinterface 44 1, 5) := by decide +kernel
theorem dX10_mergeToBudget_14 : decode cX10_mergeToBudget 14 = .ok (.if_icmp .ge 69, 3) := by decide +kernel
theorem dX10_mergeToBudget_17 : decode cX10_mergeToBudget 17 = .ok (.aload_n 0, 1) := by decide +kernel
theorem dX10_mergeToBudget_18 : decode cX10_mergeToBudget 18 = .ok (.getfield 12, 3) := by decide +kernel
theorem dX10_mergeToBudget_21 : decode cX10_mergeToBudget 21 = .ok (.invokeinterface 44 1, 5) := by decide +kernel
theorem dX10_mergeToBudget_26 : decode cX10_mergeToBudget 26 = .ok (.aload_n 0, 1) := by decide +kernel
theorem dX10_mergeToBudget_27 : decode cX10_mergeToBudget 27 = .ok (.getfield 35, 3) := by decide +kernel
theorem dX10_mergeToBudget_30 : decode cX10_mergeToBudget 30 = .ok (.if_icmp .le 53, 3) := by decide +kernel
theorem dX10_mergeToBudget_33 : decode cX10_mergeToBudget 33 = .ok (.aload_n 0, 1) := by decide +kernel
theorem dX10_mergeToBudget_34 : decode cX10_mergeToBudget 34 = .ok (.getfield 12, 3) := by decide +kernel
theorem dX10_mergeToBudget_37 : decode cX10_mergeToBudget 37 = .ok (.iload_n 2, 1) := by decide +kernel
theorem dX10_mergeToBudget_38 : decode cX10_mergeToBudget 38 = .ok (.invokeinterface 54 2, 5) := by decide +kernel
theorem dX10_mergeToBudget_43 : decode cX10_mergeToBudget 43 = .ok (.checkcast 18, 3) := by decide +kernel
theorem dX10_mergeToBudget_46 : decode cX10_mergeToBudget 46 = .ok (.astore_n 3, 1) := by decide +kernel
theorem dX10_mergeToBudget_47 : decode cX10_mergeToBudget 47 = .ok (.aload_n 0, 1) := by decide +kernel
theorem dX10_mergeToBudget_48 : decode cX10_mergeToBudget 48 = .ok (.aload_n 3, 1) := by decide +kernel
theorem dX10_mergeToBudget_49 : decode cX10_mergeToBudget 49 = .ok (.invokevirtual 67, 3) := by decide +kernel
theorem dX10_mergeToBudget_52 : decode cX10_mergeToBudget 52 = .ok (.ifCond .eq 25, 3) := by decide +kernel
theorem dX10_mergeToBudget_55 : decode cX10_mergeToBudget 55 = .ok (.aload_n 0, 1) := by decide +kernel
theorem dX10_mergeToBudget_56 : decode cX10_mergeToBudget 56 = .ok (.aload_n 3, 1) := by decide +kernel
theorem dX10_mergeToBudget_57 : decode cX10_mergeToBudget 57 = .ok (.invokevirtual 71, 3) := by decide +kernel
theorem dX10_mergeToBudget_60 : decode cX10_mergeToBudget 60 = .ok (.aload_n 0, 1) := by decide +kernel
theorem dX10_mergeToBudget_61 : decode cX10_mergeToBudget 61 = .ok (.getfield 12, 3) := by decide +kernel
theorem dX10_mergeToBudget_64 : decode cX10_mergeToBudget 64 = .ok (.iload_n 2, 1) := by decide +kernel
theorem dX10_mergeToBudget_65 : decode cX10_mergeToBudget 65 = .ok (.invokeinterface 75 2, 5) := by decide +kernel
theorem dX10_mergeToBudget_70 : decode cX10_mergeToBudget 70 = .ok (.pop, 1) := by decide +kernel
theorem dX10_mergeToBudget_71 : decode cX10_mergeToBudget 71 = .ok (.iinc 1 1, 3) := by decide +kernel
theorem dX10_mergeToBudget_74 : decode cX10_mergeToBudget 74 = .ok (.goto 6, 3) := by decide +kernel
theorem dX10_mergeToBudget_77 : decode cX10_mergeToBudget 77 = .ok (.iinc 2 1, 3) := by decide +kernel
theorem dX10_mergeToBudget_80 : decode cX10_mergeToBudget 80 = .ok (.goto (-76), 3) := by decide +kernel
theorem dX10_mergeToBudget_83 : decode cX10_mergeToBudget 83 = .ok (.iload_n 1, 1) := by decide +kernel
theorem dX10_mergeToBudget_84 : decode cX10_mergeToBudget 84 = .ok (.ireturn, 1) := by decide +kernel
set_option maxRecDepth 4000 in
theorem kX10_mergeToBudget (γ : LC) (w : Mm) (f : Int) (p : RP) (μ : MU) (L : List Int) (A : Mm) (M : Int) (hI0 : MGB p μ f L M w A) (hM : M ≤ 600) : KI γ 6 mX10_mergeToBudget [rv (w 45 f 0)] w (0) (0) (fun r w' => r = (m_mrgs μ A).1 ∧ (∃ c al PL, MGB (pM p c al PL) μ f L M w' (m_mrgs μ A).2) ∧ UPE f w w' ∧ w' 45 f 0 = w 45 f 0) NX := by
  refine MX_of rfl rfl (by simp [rv_cat, int_cat]) rfl ?_
  rintro κ hO hF rfl
  have hD := hF.dp
  show X κ (0) (0) w 0 [some (rv (w 45 f 0)), none, none, none] []
  have hb125 := hI0.2.2.1.2.1
  have hb124 := hI0.2.2.1.1
  refine X_iconst 1 hO dX10_mergeToBudget_0 rfl ?_
  refine X_istore_n 2 hO dX10_mergeToBudget_1 rfl rfl ?_
  refine X_iconst 3 hO dX10_mergeToBudget_2 rfl ?_
  refine X_istore_n 4 hO dX10_mergeToBudget_3 rfl rfl ?_
  have LP4 : ∀ (nn : Nat) (j m : Int) (w1 A1 : Mm) (c1 al1 : Int → Int) (PL1 : Int → List Int) (n : Nat), (2 * A1 125 μ.1 0 - j).toNat < nn → (0 ≤ j ∧ j ≤ A1 125 μ.1 0) → (0 ≤ m ∧ m + A1 125 μ.1 0 = A 125 μ.1 0) → (MGB (pM p c1 al1 PL1) μ f L M w1 A1) → (UPE f w w1) → (m_mrgs μ A = m_mrg μ n m A1 ∧ A1 125 μ.1 0 ≤ n) → (∀ i, 0 ≤ i → i < j → ¬ (1 ≤ al1 i ∧ m_mgF μ A1 (al1 i) = 1)) → (w1 45 f 0 = w 45 f 0) → X κ (0) (0) (w1) 4 [some (rv (w 45 f 0)), some (.int (I m)), some (.int (I j)), none] [] := by
    intro nn
    induction nn with
    | zero => intro j m w1 A1 c1 al1 PL1 n hm; exact absurd hm (Nat.not_lt_zero _)
    | succ nn ih =>
      intro j m w1 A1 c1 al1 PL1 n hm hj hm hI hU hE hN h45
      refine X_wi fun hWI => ?_
      have hTR := hI.1.toTR hWI hI.2.2.1 hI.2.1.1.1.1 hI.2.1.1.2
      obtain ⟨e93, e92, e79⟩ := hI.1.e93
      have hA125 := hI.2.2.1.2.1
      have hA124 := hI.2.2.1.1
      rw [h45] at hTR e93 e92 e79
      obtain ⟨t0, hl0, hx, ⟨b1, b2⟩, b3, k40⟩ := id hTR
      obtain ⟨l0, l1, l2, l3, l4⟩ := id hl0
      refine X_iload_n 5 hO dX10_mergeToBudget_4 rfl rfl ?_
      refine X_aload_n 6 hO dX10_mergeToBudget_5 rfl rfl ?_
      refine gX10_12 9 hO dX10_mergeToBudget_6 rfl (by first | assumption | omega | (simp (disch := first | decide | assumption | omega) only [up_k, up_s, up_a, up_i, flA_k, flA_a, flA_n, cpA_k, cpA_a, newO_o, newA_o, newO_t, newA_t, newA_n, cpQ_k, cpQ_a] <;> first | assumption | omega)) ?_
      try simp (disch := first | decide | assumption | omega) only [up_k, up_s, up_a, up_i, flA_k, flA_a, flA_n, cpA_k, cpA_a, newO_o, newA_o, newO_t, newA_t, newA_n, cpQ_k, cpQ_a]
      refine X_kFi 14 hO hD fX10_44 [] rfl dX10_mergeToBudget_9 rfl (by first | assumption | omega | (simp (disch := first | decide | assumption | omega) only [up_k, up_s, up_a, up_i, flA_k, flA_a, flA_n, cpA_k, cpA_a, newO_o, newA_o, newO_t, newA_t, newA_n, cpQ_k, cpQ_a] <;> first | assumption | omega)) (kJx4a65c_size_8abf5 _ _ _ hl0) (by decide) (by simp [rv_cat, int_cat]) (by first | decide | exact Nat.zero_le _ | omega) (by first | decide | exact Nat.zero_le _ | omega) (fun r_9 w_9 hr_9 hp_9 => ?_) (fun E w_ hx_ => hx_.elim)
      obtain ⟨e1_9, e2_9⟩ := hp_9
      subst r_9
      subst w_9
      refine X_icmp_ge 17 83 hO dX10_mergeToBudget_14 rfl rfl (by omega) (by omega) (fun hc_14 => ?_) (fun hc_14 => ?_)
      ·
        refine X_iload_n 84 hO dX10_mergeToBudget_83 rfl rfl ?_
        exact X_iret hO hF rfl (by first | exact Or.inl rfl | exact Or.inr ⟨rfl, bi_01 _⟩ | exact Or.inr ⟨rfl, by omega⟩) dX10_mergeToBudget_84 ⟨_, rfl, (by omega), (by
  have hn1 : m_nxt μ A1 = -1 := by
    first
    | exact hI.non (fun i i0 i1 => hN i i0 (by omega))
    | (unfold m_nxt; rw [if_neg (by omega)])
  rw [hE.1, mrg_end hn1]
  exact ⟨rfl, ⟨_, _, _, hI⟩, hU, h45⟩)⟩
      ·
        refine X_aload_n 18 hO dX10_mergeToBudget_17 rfl rfl ?_
        refine gX10_12 21 hO dX10_mergeToBudget_18 rfl (by first | assumption | omega | (simp (disch := first | decide | assumption | omega) only [up_k, up_s, up_a, up_i, flA_k, flA_a, flA_n, cpA_k, cpA_a, newO_o, newA_o, newO_t, newA_t, newA_n, cpQ_k, cpQ_a] <;> first | assumption | omega)) ?_
        try simp (disch := first | decide | assumption | omega) only [up_k, up_s, up_a, up_i, flA_k, flA_a, flA_n, cpA_k, cpA_a, newO_o, newA_o, newO_t, newA_t, newA_n, cpQ_k, cpQ_a]
        refine X_kFi 26 hO hD fX10_44 [] rfl dX10_mergeToBudget_21 rfl (by first | assumption | omega | (simp (disch := first | decide | assumption | omega) only [up_k, up_s, up_a, up_i, flA_k, flA_a, flA_n, cpA_k, cpA_a, newO_o, newA_o, newO_t, newA_t, newA_n, cpQ_k, cpQ_a] <;> first | assumption | omega)) (kJx4a65c_size_8abf5 _ _ _ hl0) (by decide) (by simp [rv_cat, int_cat]) (by first | decide | exact Nat.zero_le _ | omega) (by first | decide | exact Nat.zero_le _ | omega) (fun r_21 w_21 hr_21 hp_21 => ?_) (fun E w_ hx_ => hx_.elim)
        obtain ⟨e1_21, e2_21⟩ := hp_21
        subst r_21
        subst w_21
        refine X_aload_n 27 hO dX10_mergeToBudget_26 rfl rfl ?_
        refine gX10_35 30 hO dX10_mergeToBudget_27 rfl (by first | assumption | omega | (simp (disch := first | decide | assumption | omega) only [up_k, up_s, up_a, up_i, flA_k, flA_a, flA_n, cpA_k, cpA_a, newO_o, newA_o, newO_t, newA_t, newA_n, cpQ_k, cpQ_a] <;> first | assumption | omega)) (fun hi_27 => ?_)
        try simp (disch := first | decide | assumption | omega) only [up_k, up_s, up_a, up_i, flA_k, flA_a, flA_n, cpA_k, cpA_a, newO_o, newA_o, newO_t, newA_t, newA_n, cpQ_k, cpQ_a] at hi_27 ⊢
        refine X_icmp_le 33 83 hO dX10_mergeToBudget_30 rfl rfl (by omega) (by omega) (fun hc_30 => ?_) (fun hc_30 => ?_)
        ·
          refine X_iload_n 84 hO dX10_mergeToBudget_83 rfl rfl ?_
          exact X_iret hO hF rfl (by first | exact Or.inl rfl | exact Or.inr ⟨rfl, bi_01 _⟩ | exact Or.inr ⟨rfl, by omega⟩) dX10_mergeToBudget_84 ⟨_, rfl, (by omega), (by
  have hn1 : m_nxt μ A1 = -1 := by
    first
    | exact hI.non (fun i i0 i1 => hN i i0 (by omega))
    | (unfold m_nxt; rw [if_neg (by omega)])
  rw [hE.1, mrg_end hn1]
  exact ⟨rfl, ⟨_, _, _, hI⟩, hU, h45⟩)⟩
        ·
          refine X_aload_n 34 hO dX10_mergeToBudget_33 rfl rfl ?_
          refine gX10_12 37 hO dX10_mergeToBudget_34 rfl (by first | assumption | omega | (simp (disch := first | decide | assumption | omega) only [up_k, up_s, up_a, up_i, flA_k, flA_a, flA_n, cpA_k, cpA_a, newO_o, newA_o, newO_t, newA_t, newA_n, cpQ_k, cpQ_a] <;> first | assumption | omega)) ?_
          try simp (disch := first | decide | assumption | omega) only [up_k, up_s, up_a, up_i, flA_k, flA_a, flA_n, cpA_k, cpA_a, newO_o, newA_o, newO_t, newA_t, newA_n, cpQ_k, cpQ_a]
          refine X_iload_n 38 hO dX10_mergeToBudget_37 rfl rfl ?_
          refine X_kFr 43 hO hD fX10_54 [_] rfl dX10_mergeToBudget_38 rfl (by first | assumption | omega | (simp (disch := first | decide | assumption | omega) only [up_k, up_s, up_a, up_i, flA_k, flA_a, flA_n, cpA_k, cpA_a, newO_o, newA_o, newO_t, newA_t, newA_n, cpQ_k, cpQ_a] <;> first | assumption | omega)) (kJx4a65c_get_915e3 _ _ _ _ hl0 (by omega)) (by decide) (by simp [rv_cat, int_cat]) (by first | decide | exact Nat.zero_le _ | omega) (by first | decide | exact Nat.zero_le _ | omega) (fun r_38 w_38 hp_38 => ?_) (fun E w_ hx_ => hx_.elim)
          obtain ⟨e1_38, e2_38⟩ := hp_38
          subst r_38
          subst w_38
          have hxj := (hx j (by omega) (by omega)).1
          have hxp : 0 ≤ w1 3 (w1 51 (w1 38 (w 45 f 0) 0) 0) j := by have := (hWI.2.1 _ (show w1 0 (w1 3 (w1 51 (w1 38 (w 45 f 0) 0) 0) j) 0 ≠ 0 by omega)).1; omega
          have haj : alv μ A1 (al1 j) := hI.1.al (i := j) ⟨hj.1, by omega⟩
          have eel : w1 3 (w1 51 (w1 38 (w1 45 f 0) 0) 0) j = pn_ (pM p c1 al1 PL1) (al1 j) := hI.1.el (i := j) ⟨hj.1, by omega⟩
          rw [h45] at eel
          have hcb := hI.1.cbm hWI hI.2.2.1 hI.2.1.1.1.1 hI.2.1.1.2 haj
          rw [h45, ← eel] at hcb
          refine X_cast (t := 5) 46 hO w_284 rfl (by decide) dX10_mergeToBudget_43 rfl (Or.inr hxj) ?_
          refine X_astore_n 47 hO dX10_mergeToBudget_46 rfl rfl ?_
          refine X_aload_n 48 hO dX10_mergeToBudget_47 rfl rfl ?_
          refine X_aload_n 49 hO dX10_mergeToBudget_48 rfl rfl ?_
          refine X_kVi (t := 11) 52 hO hD lX10_67 rfl (by decide) [_] rfl dX10_mergeToBudget_49 rfl (by first | assumption | omega | (simp (disch := first | decide | assumption | omega) only [up_k, up_s, up_a, up_i, flA_k, flA_a, flA_n, cpA_k, cpA_a, newO_o, newA_o, newO_t, newA_t, newA_n, cpQ_k, cpQ_a] <;> first | assumption | omega)) (kX10_canBeMerged _ _ _ _ hTR hxj hxp) (by decide) (by simp [rv_cat, int_cat]) (by first | decide | exact Nat.zero_le _ | omega) (by first | decide | exact Nat.zero_le _ | omega) (fun r_49 w_49 hr_49 hp_49 => ?_) (fun E w_ hx_ => hx_.elim)
          obtain ⟨e1_49, e2_49⟩ := hp_49
          subst r_49
          subst w_49
          refine X_if_eq 55 77 hO dX10_mergeToBudget_52 rfl rfl (by omega) (fun hc_52 => ?_) (fun hc_52 => ?_)
          ·
            try simp only [bi_0, bi_ne, ne_eq, Classical.not_not] at hc_52
            have hnk : ¬ (1 ≤ al1 j ∧ m_mgF μ A1 (al1 j) = 1) := fun z => hc_52 (hcb.mpr z)
            refine X_iinc 80 hO dX10_mergeToBudget_77 rfl rfl ?_
            refine X_goto hO dX10_mergeToBudget_80 (tgt := 4) rfl ?_
            first
            | exact X_wk (by simp only [lwk, lset, true_or, or_true, and_self]) (ih (j + 1) m w1 A1 c1 al1 PL1 n (by omega) (by omega) hm hI hU hE (fun i i0 i1 => by
                by_cases z : i = j
                · rw [z]; exact hnk
                · exact hN i i0 (by omega)) h45)
            | exact X_wk (by simp only [lwk, lset, true_or, or_true, and_self]) (ih j (m + 1) w_65 _ c2 _ PL2 (n - 1) (by rw [mrg1_125]; omega) (by rw [mrg1_125]; omega) (by rw [mrg1_125]; omega) hI2 (hU.trans hU2) ⟨by rw [hE.1, mrg_next hnx (by omega)], by rw [mrg1_125]; omega⟩ (fun i i0 i1 => by
                try dsimp only
                rw [if_pos i1]
                intro z
                have hne : al1 i ≠ al1 j := fun e => by have h9 : al1 i < al1 j := hI.1.1.2.2.2.1.2.1.2.1 i j i0 i1 (by omega); omega
                exact hN i i0 i1 ⟨z.1, hN2 _ hne z.2⟩) g45)
          ·
            try simp only [bi_0, bi_ne, ne_eq, Classical.not_not] at hc_52
            have hyes := hcb.mp hc_52
            have hnx : m_nxt μ A1 = al1 j ∧ al1 j ≠ -1 := hI.nxt (j := j) (by omega) ⟨hj.1, by omega⟩ hyes hN
            obtain ⟨k1, k2, k3, k4, k5, k6⟩ := hI.ask hWI hM hnx
            rw [h45] at k1
            refine X_aload_n 56 hO dX10_mergeToBudget_55 rfl rfl ?_
            refine X_aload_n 57 hO dX10_mergeToBudget_56 rfl rfl ?_
            refine X_kVv (t := 11) 60 hO hD lX10_71 rfl (by decide) [_] rfl dX10_mergeToBudget_57 rfl (by first | assumption | omega | (simp (disch := first | decide | assumption | omega) only [up_k, up_s, up_a, up_i, flA_k, flA_a, flA_n, cpA_k, cpA_a, newO_o, newA_o, newO_t, newA_t, newA_n, cpQ_k, cpQ_a] <;> first | assumption | omega)) (kX10_mergeIntoChild2 _ _ _ _ hTR hxj hxp (by rw [eel]; exact k3) (by rw [eel, k1]; intro c hc _; rw [hc]; exact k4) (by rw [eel, k1]; intro c hc _; rw [hc]; exact ⟨k5, k6⟩)) (by decide) (by simp [rv_cat, int_cat]) (by first | decide | exact Nat.zero_le _ | omega) (by first | decide | exact Nat.zero_le _ | omega) (fun w_57 hp_57 => ?_) (fun E w_ hx_ => hx_.elim)
            rw [eel, k1] at hp_57
            have ew := (hp_57.resolve_left (fun z => k2 z.1)).2
            have v0 : ∀ a i, w_57 0 a i = w1 0 a i := fun a i => by rw [ew]; exact mic_k (by decide) (by decide)
            have v2 : ∀ a i, w_57 2 a i = w1 2 a i := fun a i => by rw [ew]; exact mic_k (by decide) (by decide)
            have v3 : ∀ a i, w_57 3 a i = w1 3 a i := fun a i => by rw [ew]; exact mic_k (by decide) (by decide)
            have v38 : ∀ a i, w_57 38 a i = w1 38 a i := fun a i => by rw [ew]; exact mic_k (by decide) (by decide)
            have v51 : ∀ a i, w_57 51 a i = w1 51 a i := fun a i => by rw [ew]; exact mic_k (by decide) (by decide)
            have v93 : ∀ a i, w_57 93 a i = w1 93 a i := fun a i => by rw [ew]; exact mic_k (by decide) (by decide)
            have v92 : ∀ a i, w_57 92 a i = w1 92 a i := fun a i => by rw [ew]; exact mic_k (by decide) (by decide)
            have hl1 : LSt w_57 (w_57 38 (w 45 f 0) 0) := by unfold LSt; rw [v38, v0, v51, v0, v93, v2]; exact hl0
            have hel : EL5 w_57 (w_57 38 (w 45 f 0) 0) := fun i i0 i1 => by
              rw [v38, v93] at i1
              rw [v38, v51, v3, v0]
              exact Or.inr (hx i i0 i1).1
            have c57 : w_57 0 (w 45 f 0) 0 = 11 := by rw [v0]; exact t0
            have c57l := hl1.1
            refine X_aload_n 61 hO dX10_mergeToBudget_60 rfl rfl ?_
            refine gX10_12 64 hO dX10_mergeToBudget_61 rfl (by first | assumption | omega | (simp (disch := first | decide | assumption | omega) only [up_k, up_s, up_a, up_i, flA_k, flA_a, flA_n, cpA_k, cpA_a, newO_o, newA_o, newO_t, newA_t, newA_n, cpQ_k, cpQ_a] <;> first | assumption | omega)) ?_
            try simp (disch := first | decide | assumption | omega) only [up_k, up_s, up_a, up_i, flA_k, flA_a, flA_n, cpA_k, cpA_a, newO_o, newA_o, newO_t, newA_t, newA_n, cpQ_k, cpQ_a]
            refine X_iload_n 65 hO dX10_mergeToBudget_64 rfl rfl ?_
            refine X_kFr 70 hO hD fX10_75 [_] rfl dX10_mergeToBudget_65 rfl (by first | assumption | omega | (simp (disch := first | decide | assumption | omega) only [up_k, up_s, up_a, up_i, flA_k, flA_a, flA_n, cpA_k, cpA_a, newO_o, newA_o, newO_t, newA_t, newA_n, cpQ_k, cpQ_a] <;> first | assumption | omega)) (kJx4a65c_remove_915e3 _ _ _ _ hl1 hel (by rw [v38, v93]; omega) (by rw [v38, v92]; omega)) (by decide) (by simp [rv_cat, int_cat]) (by first | decide | exact Nat.zero_le _ | omega) (by first | decide | exact Nat.zero_le _ | omega) (fun r_65 w_65 hp_65 => ?_) (fun E w_ hx_ => hx_.elim)
            obtain ⟨-, ew2⟩ := hp_65
            rw [v38, ← h45, ew] at ew2
            obtain ⟨⟨c2, PL2, hI2⟩, hU2, hN2⟩ := hI.step hM hnx ⟨⟨hj.1, by omega⟩, rfl⟩ ew2
            have g45 : w_65 45 f 0 = w 45 f 0 := by rw [ew2, frm_k (by decide), mic_k (by decide) (by decide)]; exact h45
            refine X_pop 71 hO dX10_mergeToBudget_70 rfl (by first | rfl | exact rv_cat _) ?_
            refine X_iinc 74 hO dX10_mergeToBudget_71 rfl rfl ?_
            refine X_goto hO dX10_mergeToBudget_74 (tgt := 80) rfl ?_
            refine X_goto hO dX10_mergeToBudget_80 (tgt := 4) rfl ?_
            first
            | exact X_wk (by simp only [lwk, lset, true_or, or_true, and_self]) (ih (j + 1) m w1 A1 c1 al1 PL1 n (by omega) (by omega) hm hI hU hE (fun i i0 i1 => by
                by_cases z : i = j
                · rw [z]; exact hnk
                · exact hN i i0 (by omega)) h45)
            | exact X_wk (by simp only [lwk, lset, true_or, or_true, and_self]) (ih j (m + 1) w_65 _ c2 _ PL2 (n - 1) (by rw [mrg1_125]; omega) (by rw [mrg1_125]; omega) (by rw [mrg1_125]; omega) hI2 (hU.trans hU2) ⟨by rw [hE.1, mrg_next hnx (by omega)], by rw [mrg1_125]; omega⟩ (fun i i0 i1 => by
                try dsimp only
                rw [if_pos i1]
                intro z
                have hne : al1 i ≠ al1 j := fun e => by have h9 : al1 i < al1 j := hI.1.1.2.2.2.1.2.1.2.1 i j i0 i1 (by omega); omega
                exact hN i i0 i1 ⟨z.1, hN2 _ hne z.2⟩) g45)
  exact LP4 _ 0 0 w A (pc_ p) (pa_ p) (pl_ p) 1000 (Nat.lt_succ_self _) (by omega) (by omega) hI0 UPE.refl ⟨rfl, by have := hI0.2.2.1.1; omega⟩ (fun i i0 i1 => by omega) rfl
