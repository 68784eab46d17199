/-! the class looks for a change to undo -/
theorem can_f {μ : MU} {PL : Int → List Int} {A W : Mm} {a x : Int} (hW : W 225 0 (m_fan A x a) = A 225 0 (m_fan A x a)) : (m_can μ PL x A a W = if A 225 0 (m_fan A x a) % 2 = 0 then m_trL μ ((ixN A (PL (m_fan A x a))).map (wdA A)) (up (up W 138 μ.1 0 0) 137 μ.1 0 0) else (0, up W 138 μ.1 0 0)) := by
  unfold m_can; rw [hW, nodeW_ix]
theorem can_fit {μ : MU} {PL : Int → List Int} {A W : Mm} {a x : Int} (hW : W 225 0 (m_fan A x a) = A 225 0 (m_fan A x a)) : (m_can μ PL x A a W).1 ≠ 0 ↔ A 225 0 (m_fan A x a) % 2 = 0 ∧ 1 ≤ tcW ((ixN A (PL (m_fan A x a))).map (wdA A)) ∧ tcW ((ixN A (PL (m_fan A x a))).map (wdA A)) ≤ 8 := by
  rw [can_f hW]
  by_cases c : A 225 0 (m_fan A x a) % 2 = 0
  · rw [if_pos c, trL_fit _ _ (by rw [up_s]; decide), up_s]
    constructor
    · intro z; exact ⟨c, by omega, by omega⟩
    · intro z; omega
  · rw [if_neg c]; exact ⟨fun z => absurd rfl z, fun z => absurd z.1 c⟩
theorem FDW.fol {p : RP} {μ : MU} {A w w2 w3 W : Mm} {T a n N : Int} {σ kp : Int → Int} (h : FDW p μ A w T a w2) (e0 : ∀ x, w2 0 x 0 = w 0 x 0) (s : TRS μ T σ kp A w2 n N w3 W) : FDW p μ A w T a w3 := by
  obtain ⟨⟨h1, h2⟩, h3, h4, h5⟩ := h
  obtain ⟨s1, s2, s3, s4, s5⟩ := s
  have e : ∀ {K : Nat} {x j : Int}, K = 0 ∨ K = 27 → w3 K x j = w2 K x j := fun z => s3 _ _ _ (by omega) (by omega) (by omega) (by omega) (by omega) (by omega)
  refine ⟨⟨h1.c s3, h2.c s5 e0⟩, by rw [s2]; exact s1.2.2.2, fun k hk => ?_, fun j j0 j1 => ?_⟩
  · rw [e (K := 27) (by decide), e (by decide)]; exact h4 k hk
  · rw [e (by decide)]; exact h5 j j0 j1
theorem dX9_find_0 : decode cX9_find 0 = .ok (.aconst_null, 1) := by decide +kernel
theorem dX9_find_1 : decode cX9_find 1 = .ok (.astore 4, 2) := by decide +kernel
theorem dX9_find_3 : decode cX9_find 3 = .ok (.aload_n 1, 1) := by decide +kernel
theorem dX9_find_4 : decode cX9_find 4 = .ok (.astore 5, 2) := by decide +kernel
theorem dX9_find_6 : decode cX9_find 6 = .ok (.aload 5, 2) := by decide +kernel
theorem dX9_find_8 : decode cX9_find 8 = .ok (.ifnull 89, 3) := by decide +kernel
theorem dX9_find_11 : decode cX9_find 11 = .ok (.aload 5, 2) := by decide +kernel
theorem dX9_find_13 : decode cX9_find 13 = .ok (.aload 4, 2) := by decide +kernel
theorem dX9_find_15 : decode cX9_find 15 = .ok (.putfield 18, 3) := by decide +kernel
theorem dX9_find_18 : decode cX9_find 18 = .ok (.aload 5, 2) := by decide +kernel
theorem dX9_find_20 : decode cX9_find 20 = .ok (.astore 4, 2) := by decide +kernel
theorem dX9_find_22 : decode cX9_find 22 = .ok (.aload 5, 2) := by decide +kernel
theorem dX9_find_24 : decode cX9_find 24 = .ok (.getfield 24, 3) := by decide +kernel
theorem dX9_find_27 : decode cX9_find 27 = .ok (.ifCond .ne 32, 3) := by decide +kernel
theorem dX9_find_30 : decode cX9_find 30 = .ok (.aload 5, 2) := by decide +kernel
theorem dX9_find_32 : decode cX9_find 32 = .ok (.getfield 28, 3) := by decide +kernel
theorem dX9_find_35 : decode cX9_find 35 = .ok (.getfield 32, 3) := by decide +kernel
theorem dX9_find_38 : decode cX9_find 38 = .ok (.iconst 1, 1) := by decide +kernel
theorem dX9_find_39 : decode cX9_find 39 = .ok (.if_icmp .lt 20, 3) := by decide +kernel
theorem dX9_find_42 : decode cX9_find 42 = .ok (.aload 5, 2) := by decide +kernel
theorem dX9_find_44 : decode cX9_find 44 = .ok (.getfield 28, 3) := by decide +kernel
theorem dX9_find_47 : decode cX9_find 47 = .ok (.getfield 32, 3) := by decide +kernel
theorem dX9_find_50 : decode cX9_find 50 = .ok (.bipush 8, 2) := by decide +kernel
theorem dX9_find_52 : decode cX9_find 52 = .ok (.if_icmp .gt 7, 3) := by decide +kernel
theorem dX9_find_55 : decode cX9_find 55 = .ok (.iconst 1, 1) := by decide +kernel
theorem dX9_find_56 : decode cX9_find 56 = .ok (.goto 4, 3) := by decide +kernel
theorem dX9_find_59 : decode cX9_find 59 = .ok (.iconst 0, 1) := by decide +kernel
theorem dX9_find_60 : decode cX9_find 60 = .ok (.istore 6, 2) := by decide +kernel
theorem dX9_find_62 : decode cX9_find 62 = .ok (.iload 6, 2) := by decide +kernel
theorem dX9_find_64 : decode cX9_find 64 = .ok (.ifCond .eq 23, 3) := by decide +kernel
theorem dX9_find_67 : decode cX9_find 67 = .ok (.aload_n 0, 1) := by decide +kernel
theorem dX9_find_68 : decode cX9_find 68 = .ok (.aload 5, 2) := by decide +kernel
theorem dX9_find_70 : decode cX9_find 70 = .ok (.invokevirtual 38, 3) := by decide +kernel
theorem dX9_find_73 : decode cX9_find 73 = .ok (.ifCond .eq 14, 3) := by decide +kernel
theorem dX9_find_76 : decode cX9_find 76 = .ok (.aload_n 0, 1) := by decide +kernel
theorem dX9_find_77 : decode cX9_find 77 = .ok (.iload_n 2, 1) := by decide +kernel
theorem dX9_find_78 : decode cX9_find 78 = .ok (.iload_n 3, 1) := by decide +kernel
theorem dX9_find_79 : decode cX9_find 79 = .ok (.invokevirtual 42, 3) := by decide +kernel
theorem dX9_find_82 : decode cX9_find 82 = .ok (.ifCond .eq 5, 3) := by decide +kernel
theorem dX9_find_85 : decode cX9_find 85 = .ok (.iconst 1, 1) := by decide +kernel
theorem dX9_find_86 : decode cX9_find 86 = .ok (.ireturn, 1) := by decide +kernel
theorem dX9_find_87 : decode cX9_find 87 = .ok (.aload 5, 2) := by decide +kernel
theorem dX9_find_89 : decode cX9_find 89 = .ok (.getfield 46, 3) := by decide +kernel
theorem dX9_find_92 : decode cX9_find 92 = .ok (.astore 5, 2) := by decide +kernel
theorem dX9_find_94 : decode cX9_find 94 = .ok (.goto (-88), 3) := by decide +kernel
theorem dX9_find_97 : decode cX9_find 97 = .ok (.iconst 0, 1) := by decide +kernel
theorem dX9_find_98 : decode cX9_find 98 = .ok (.ireturn, 1) := by decide +kernel
set_option maxRecDepth 4000 in
theorem kX9_find (γ : LC) (w : Mm) (f T lo hi : Int) (p : RP) (μ : MU) (L : List Int) (A : Mm) (M : Int) (h : RLm p μ f L w A) (hTX : TI μ (pl_ p) A) (hT : TB μ M A) (hl : A 122 μ.1 0 ≤ A 120 μ.1 0) (hlo : IR lo) (hhi : IR hi) (hTe : T = w 47 f 0) : KI γ 8 mX9_find [rv T, rv (pn_ p (A 126 μ.1 0)), .int (I lo), .int (I hi)] w (0) (0) (fun r w' => (∃ a', FDW p μ A w T a' w') ∧ ((r = 1 ∧ ∃ a n kp, (1 ≤ a ∧ a ≤ fpl μ A) ∧ (m_fdI μ (pl_ p) lo hi A).1 = a ∧ (TRr μ (txT w T) (ps_ p) kp A n w' (m_fdI μ (pl_ p) lo hi A).2 ∧ w' 77 T 0 = n ∧ BNd n 150005000 (m_fdI μ (pl_ p) lo hi A).2) ∧ (rng n.toNat 0).map kp = (ixN A (pl_ p (m_fan A (fcu μ A) a))).filter (txS A)) ∨ (r = 0 ∧ (m_fdI μ (pl_ p) lo hi A).1 = -1))) NX := by
  refine MX_of rfl rfl (by simp [rv_cat, int_cat]) rfl ?_
  rintro κ hO hF rfl
  have hD := hF.dp
  show X κ (0) (0) w 0 [some (rv T), some (rv (pn_ p (A 126 μ.1 0))), some (.int (I lo)), some (.int (I hi)), none, none, none] []
  refine X_wi fun hWI => ?_
  have h00 := hWI.z0
  have hE := hTX.1
  have hcur := hE.cur hT
  obtain ⟨⟨q1, q2⟩, ⟨q3, q4, q5⟩, q6, q7⟩ := h.1.2.2.2.2.2.2
  rw [← hTe] at q1 q2 q3 q4 q5 q6 q7
  have tT : TrT w T := ⟨q1, q3, q4, q7⟩
  have tX : TrX w T := ⟨fun i i0 i1 => (q6 i i0 i1).1, fun i j i0 i1 j0 j1 ij e => by
    have x1 := (q6 i i0 i1).2
    have x2 := (q6 j j0 j1).2
    rw [e] at x1
    omega⟩
  obtain ⟨⟨p0, p1⟩, fv, fp⟩ := fan_v hT hE hcur
  have ef : fpl μ A = m_pln A (A 126 μ.1 0) - 1 := rfl
  have hrl : lnR (pl_ p) (A 126 μ.1 0) A (m_pln A (A 126 μ.1 0) - 1).toNat ≤ 30000 := by
    have h1 := (hTX.2.2.2.1 _ hcur).2.2
    have h2 := hT.2.2.2.2.1
    unfold RSx at h1; unfold lnR; omega
  have hj0 : FDI p μ A w T lo hi (fpl μ A) (pn_ p (A 126 μ.1 0)) 0 w (m_fin μ (A 126 μ.1 0) A) := by
    refine ⟨⟨by omega, Int.le_refl _⟩, by rw [if_neg (by omega)]; exact congrArg (pn_ p) p1.symm, by rw [if_pos rfl], ⟨⟨FT7.refl, FTh.refl⟩, q7, fun k hk => (h.nd hk).2.2.2.1.2.2.2.2, fun j j0 j1 => by omega⟩, fun c x i c0 c1 => ?_, rfl⟩
    unfold m_fin; rw [fl_at (by omega), up_k _ (by omega)]
  have e66 := trivial
  have e25 := trivial
  have e72 := trivial
  refine X_null 1 hO dX9_find_0 rfl ?_
  refine X_astore 3 hO dX9_find_1 rfl rfl ?_
  refine X_aload_n 4 hO dX9_find_3 rfl rfl ?_
  refine X_astore 6 hO dX9_find_4 rfl rfl ?_
  have LP6 : ∀ (nn : Nat) (a q b : Int) (w1 W : Mm), (a + 1).toNat < nn → (FDI p μ A w T lo hi a q b w1 W) → X κ (0) (0) (w1) 6 [some (rv T), some (rv (pn_ p (A 126 μ.1 0))), some (.int (I lo)), some (.int (I hi)), some (rv b), some (rv q), none] [] := by
    intro nn
    induction nn with
    | zero => intro a q b w1 W hm; exact absurd hm (Nat.not_lt_zero _)
    | succ nn ih6 =>
      intro a q b w1 W hm hj
      obtain ⟨⟨a0, a1⟩, jq, jb, jw, jc, jm⟩ := id hj
      obtain ⟨t1, t2, t3, t4⟩ := jw.t tT tX
      refine X_aload 8 hO dX9_find_6 rfl rfl ?_
      refine X_ifnull 11 97 hO dX9_find_8 rfl rfl (fun hc_8 => ?_) (fun hc_8 => ?_)
      ·
        have hm : (m_fdI μ (pl_ p) lo hi A).1 = -1 := by
          have ha : a = -1 := Classical.byContradiction fun c => by
            rw [if_neg c] at jq
            have hal := (fv a (by omega) (by omega)).1
            have := (h.tg5 hal).1
            rw [show pn_ p (m_fan A (A 126 μ.1 0) a) = 0 from jq.symm.trans hc_8, h00] at this
            exact absurd this (by decide)
          rw [← jm, ha]; rfl
        refine X_iconst 98 hO dX9_find_97 rfl ?_
        exact X_iret hO hF rfl (by first | exact Or.inl rfl | exact Or.inr ⟨rfl, bi_01 _⟩ | exact Or.inr ⟨rfl, by omega⟩) dX9_find_98 ⟨_, rfl, (by omega), ⟨⟨_, jw⟩, Or.inr ⟨rfl, hm⟩⟩⟩
      ·
        have ha : 0 ≤ a := Classical.byContradiction fun c => hc_8 (by rw [jq, if_pos (by omega)])
        rw [if_neg (by omega)] at jq
        have hal : alv μ A (m_fan A (fcu μ A) a) := (fv a ha (by omega)).1
        obtain ⟨⟨⟨⟨x1, x2⟩, x3⟩, -, ⟨x4, x5⟩, x6, x7, x8, x9, x10⟩, z2, z3⟩ := vNd.z.mp (h.nd hal)
        rw [← jq] at x1 x2 x4 x9 z2
        have c5_1 : w1 0 q 0 = 5 := by rw [t4]; exact x1
        refine X_aload 13 hO dX9_find_11 rfl rfl ?_
        refine X_aload 15 hO dX9_find_13 rfl rfl ?_
        refine pX9_18 18 hO dX9_find_15 rfl (by first | assumption | omega | (simp (disch := first | decide | assumption | omega) only [up_k, up_s, up_a, up_i, flA_k, flA_a, flA_n, cpA_k, cpA_a, newO_o, newA_o, newO_t, newA_t, newA_n, cpQ_k, cpQ_a] <;> first | assumption | omega)) ?_
        obtain ⟨w2, hw2e⟩ : ∃ w2, w2 = up w1 27 q 0 b := ⟨_, rfl⟩
        refine X_eqW hw2e.symm ?_
        have hw2 : FDW p μ A w T (a - 1) w2 := by rw [hw2e, jq]; exact FDW.set h hT hE jw ⟨ha, a1⟩ jb
        obtain ⟨u1, u2, u3, u4⟩ := hw2.t tT tX
        have g2 : ∀ {K : Nat} {x j : Int}, K ≠ 27 ∧ K ≠ 36 ∧ K ≠ 73 ∧ K ≠ 74 ∧ K ≠ 75 ∧ K ≠ 76 ∧ K ≠ 77 → w2 K x j = w K x j := fun z => hw2.1.1 _ _ _ z.1 z.2.1 z.2.2.1 z.2.2.2.1 z.2.2.2.2.1 z.2.2.2.2.2.1 z.2.2.2.2.2.2
        have c5 : w2 0 q 0 = 5 := by rw [g2 (by decide)]; exact x1
        have e66 : w2 66 q 0 = A 225 0 (m_fan A (fcu μ A) a) % 2 := by rw [g2 (by decide)]; exact x9
        have e25 : w2 25 q 0 = w 25 q 0 := g2 (by decide)
        have c8 : w2 0 (w 25 q 0) 0 = 8 := by rw [g2 (by decide)]; exact x4
        have e72 : w2 72 (w 25 q 0) 0 = tcW ((ixN A (pl_ p (m_fan A (fcu μ A) a))).map (wdA A)) := by
          rw [g2 (by decide), z2.2.2.2.1]
          exact tc_eq _ (h.sw hTX hT hl hal)
        have c10 : w2 0 T 0 = 10 := u1.1
        refine X_aload 20 hO dX9_find_18 rfl rfl ?_
        refine X_astore 22 hO dX9_find_20 rfl rfl ?_
        refine X_aload 24 hO dX9_find_22 rfl rfl ?_
        have JP60 : ∀ (v : Int), (v = bi (A 225 0 (m_fan A (fcu μ A) a) % 2 = 0 ∧ 1 ≤ tcW ((ixN A (pl_ p (m_fan A (fcu μ A) a))).map (wdA A)) ∧ tcW ((ixN A (pl_ p (m_fan A (fcu μ A) a))).map (wdA A)) ≤ 8)) → X κ 0 0 (w2) 60 [some (rv T), some (rv (pn_ p (A 126 μ.1 0))), some (.int (I lo)), some (.int (I hi)), some (rv q), some (rv q), none] [.int (I v)] := by
          intro v hv
          have hv1 : v = 0 ∨ v = 1 := by rw [hv]; unfold bi; split <;> omega
          refine X_istore 62 hO dX9_find_60 rfl rfl ?_
          refine X_iload 64 hO dX9_find_62 rfl rfl ?_
          refine X_if_eq 67 87 hO dX9_find_64 rfl rfl (by omega) (fun hc_64 => ?_) (fun hc_64 => ?_)
          ·
            have hnf : ¬ (A 225 0 (m_fan A (fcu μ A) a) % 2 = 0 ∧ 1 ≤ tcW ((ixN A (pl_ p (m_fan A (fcu μ A) a))).map (wdA A)) ∧ tcW ((ixN A (pl_ p (m_fan A (fcu μ A) a))).map (wdA A)) ≤ 8) := fun z => by rw [bi_1.mpr z] at hv; omega
            have hnx := FDI.next h hT hE hj ha hw2 (fun _ z => hnf ((can_fit (jc _ _ _ (by decide) (by decide))).mp z.1))
            refine X_aload 89 hO dX9_find_87 rfl rfl ?_
            refine gX9_46 92 hO dX9_find_89 rfl (by first | assumption | omega | (simp (disch := first | decide | assumption | omega) only [up_k, up_s, up_a, up_i, flA_k, flA_a, flA_n, cpA_k, cpA_a, newO_o, newA_o, newO_t, newA_t, newA_n, cpQ_k, cpQ_a] <;> first | assumption | omega)) ?_
            try simp (disch := first | decide | assumption | omega) only [up_k, up_s, up_a, up_i, flA_k, flA_a, flA_n, cpA_k, cpA_a, newO_o, newA_o, newO_t, newA_t, newA_n, cpQ_k, cpQ_a, e66, e25, e72]
            refine X_astore 94 hO dX9_find_92 rfl rfl ?_
            refine X_goto hO dX9_find_94 (tgt := 6) rfl ?_
            exact X_wk (by simp only [lwk, lset, true_or, or_true, and_self]) (ih6 _ _ _ _ _ (by omega) hnx)
          ·
            have hf : A 225 0 (m_fan A (fcu μ A) a) % 2 = 0 ∧ 1 ≤ tcW ((ixN A (pl_ p (m_fan A (fcu μ A) a))).map (wdA A)) ∧ tcW ((ixN A (pl_ p (m_fan A (fcu μ A) a))).map (wdA A)) ≤ 8 := Classical.byContradiction fun z => by rw [bi_0.mpr z] at hv; omega
            have hcan := (can_fit (μ := μ) (PL := pl_ p) (A := A) (W := W) (a := a) (x := fcu μ A) (jc _ _ _ (by decide) (by decide))).mpr hf
            have ecan := can_f (μ := μ) (PL := pl_ p) (A := A) (W := W) (a := a) (x := fcu μ A) (jc _ _ _ (by decide) (by decide))
            rw [if_pos hf.1] at ecan
            have hR0 : (m_trL μ ((ixN A (pl_ p (m_fan A (fcu μ A) a))).map (wdA A)) (up (up W 138 μ.1 0 0) 137 μ.1 0 0)).1 ≠ 0 := by rw [← ecan]; exact hcan
            have ha1 : 1 ≤ a := Classical.byContradiction fun c => by
              have e0 : a = 0 := by omega
              have := hf.2.1
              rw [show m_fan A (fcu μ A) a = 0 from (fv a ha (by omega)).2.2.mpr e0, hTX.2.1] at this
              exact absurd (show (1 : Int) ≤ 0 from this) (by decide)
            have hch : CHa w2 (w2 34 (w2 25 q 0) 0) ((ixN A (pl_ p (m_fan A (fcu μ A) a))).map (ps_ p)) 0 := by
              rw [g2 (K := 25) (by decide), g2 (by decide)]
              exact z2.1.cg fun y _ => g2 (by decide)
            have hbl : BLW w2 (ps_ p) (w2 27 q 0) (pthB (pn_ p) (pl_ p) A (fcu μ A) a (fpl μ A - a).toNat) := h.blw h00 hT hE hcur hw2.1.1 _ a _ ha (by omega) (by rw [hw2e, up_s]; exact jb) (fun j j0 j1 => hw2.2.2.2 j (by omega) j1)
            have hS : ∀ k ∈ (ixN A (pl_ p (m_fan A (fcu μ A) a))), SWk w2 (ps_ p) A k := fun k hk => (h.sw hTX hT hl hal k hk).f7 hw2.1.1
            have hS2 : ∀ b ∈ pthB (pn_ p) (pl_ p) A (fcu μ A) a (fpl μ A - a).toNat, ∀ k ∈ b.2, SWk w2 (ps_ p) A k := fun b hb k hk => by
              obtain ⟨j, j1, j2⟩ := pth_mem _ _ b hb
              subst j2
              exact (h.sw hTX hT hl (fv j (by omega) (by omega)).1 k hk).f7 hw2.1.1
            have hln : ((ixN A (pl_ p (m_fan A (fcu μ A) a))).length : Int) + lnB (pthB (pn_ p) (pl_ p) A (fcu μ A) a (fpl μ A - a).toNat) ≤ 30000 := by
              have l1 := lnB_pth (ν := pn_ p) (PL := pl_ p) (A := A) (x := fcu μ A) (fpl μ A - a).toNat a.toNat
              rw [show ((a.toNat : Nat) : Int) = a by omega, show a.toNat + (fpl μ A - a).toNat = (m_pln A (A 126 μ.1 0) - 1).toNat by omega] at l1
              have l2 := lnR_s (PL := pl_ p) (x := fcu μ A) (b := A) (n := a.toNat - 1)
              rw [show a.toNat - 1 + 1 = a.toNat by omega, show ((a.toNat - 1 : Nat) : Int) + 1 = a by omega, nodeW_ix, List.length_map] at l2
              have hrl2 : lnR (pl_ p) (fcu μ A) A (m_pln A (A 126 μ.1 0) - 1).toNat ≤ 30000 := hrl
              have l3 : 0 ≤ lnR (pl_ p) (fcu μ A) A (a.toNat - 1) := Int.natCast_nonneg _
              omega
            have c58 : w2 0 q 0 = 5 ∧ w2 0 (w2 25 q 0) 0 = 8 := ⟨c5, by rw [g2 (K := 25) (by decide), g2 (by decide)]; exact x4⟩
            refine X_aload_n 68 hO dX9_find_67 rfl rfl ?_
            refine X_aload 70 hO dX9_find_68 rfl rfl ?_
            refine X_kVi (t := 10) 73 hO hD lX9_38 rfl (by decide) [_] rfl dX9_find_70 rfl (by first | assumption | omega | (simp (disch := first | decide | assumption | omega) only [up_k, up_s, up_a, up_i, flA_k, flA_a, flA_n, cpA_k, cpA_a, newO_o, newA_o, newO_t, newA_t, newA_n, cpQ_k, cpQ_a] <;> first | assumption | omega)) (kX9_follow _ _ T q (ps_ p) A (up (up W 138 μ.1 0 0) 137 μ.1 0 0) μ (ixN A (pl_ p (m_fan A (fcu μ A) a))) (pthB (pn_ p) (pl_ p) A (fcu μ A) a (fpl μ A - a).toNat) u1 u2 c58 hch hbl hS hS2 hln (by rw [up_k _ (by decide), up_s]) (up_s _ _ _ _ _) hR0) (by decide) (by simp [rv_cat, int_cat]) (by first | decide | exact Nat.zero_le _ | omega) (by first | decide | exact Nat.zero_le _ | omega) (fun r_70 w_70 hr_70 hp_70 => ?_) (fun E w_ hx_ => hx_.elim)
            obtain ⟨n, kp, e1_70, s1, s2⟩ := hp_70
            have eW : foB μ A (pthB (pn_ p) (pl_ p) A (fcu μ A) a (fpl μ A - a).toNat) (m_trL μ ((ixN A (pl_ p (m_fan A (fcu μ A) a))).map (wdA A)) (up (up W 138 μ.1 0 0) 137 μ.1 0 0)).2 = wnx μ (pl_ p) A a W := by
              unfold wnx m_fol
              rw [if_neg hcan, foB_pth, ecan]
            rw [eW] at e1_70 s1
            have hw7 : FDW p μ A w T (a - 1) w_70 := hw2.fol u4 s1
            have c5_7 : w_70 0 q 0 = 5 := by rw [hw7.1.1 _ _ _ (by decide) (by decide) (by decide) (by decide) (by decide) (by decide) (by decide)]; exact x1
            refine X_if_eq 76 87 hO dX9_find_73 rfl rfl (by omega) (fun hc_73 => ?_) (fun hc_73 => ?_)
            ·
              try simp only [bi_0, bi_ne, ne_eq, Classical.not_not] at hc_73
              have hnx := FDI.next h hT hE hj ha hw7 (fun _ z => by rw [bi_1.mpr z.2.1] at e1_70; omega)
              refine X_aload 89 hO dX9_find_87 rfl rfl ?_
              refine gX9_46 92 hO dX9_find_89 rfl (by first | assumption | omega | (simp (disch := first | decide | assumption | omega) only [up_k, up_s, up_a, up_i, flA_k, flA_a, flA_n, cpA_k, cpA_a, newO_o, newA_o, newO_t, newA_t, newA_n, cpQ_k, cpQ_a] <;> first | assumption | omega)) ?_
              try simp (disch := first | decide | assumption | omega) only [up_k, up_s, up_a, up_i, flA_k, flA_a, flA_n, cpA_k, cpA_a, newO_o, newA_o, newO_t, newA_t, newA_n, cpQ_k, cpQ_a, e66, e25, e72]
              refine X_astore 94 hO dX9_find_92 rfl rfl ?_
              refine X_goto hO dX9_find_94 (tgt := 6) rfl ?_
              exact X_wk (by simp only [lwk, lset, true_or, or_true, and_self]) (ih6 _ _ _ _ _ (by omega) hnx)
            ·
              try simp only [bi_0, bi_ne, ne_eq, Classical.not_not] at hc_73
              have h138 : wnx μ (pl_ p) A a W 138 μ.1 0 = 0 := Classical.byContradiction fun z => by rw [bi_0.mpr z] at e1_70; omega
              obtain ⟨v1, v2, v3, v4⟩ := hw7.t tT tX
              have c10_7 := v1.1
              refine X_aload_n 77 hO dX9_find_76 rfl rfl ?_
              refine X_iload_n 78 hO dX9_find_77 rfl rfl ?_
              refine X_iload_n 79 hO dX9_find_78 rfl rfl ?_
              refine X_kVi (t := 10) 82 hO hD lX9_42 rfl (by decide) [_, _] rfl dX9_find_79 rfl (by first | assumption | omega | (simp (disch := first | decide | assumption | omega) only [up_k, up_s, up_a, up_i, flA_k, flA_a, flA_n, cpA_k, cpA_a, newO_o, newA_o, newO_t, newA_t, newA_n, cpQ_k, cpQ_a] <;> first | assumption | omega)) (kX9_meetRegion _ _ _ _ _ v1 v2 hlo hhi) (by decide) (by simp [rv_cat, int_cat]) (by first | decide | exact Nat.zero_le _ | omega) (by first | decide | exact Nat.zero_le _ | omega) (fun r_79 w_79 hr_79 hp_79 => ?_) (fun E w_ hx_ => hx_.elim)
              obtain ⟨e1_79, e2_79⟩ := hp_79
              subst w_79
              have hr9 : r_79 = bi (0 < sumN (m_tou lo hi (wnx μ (pl_ p) A a W)) (wnx μ (pl_ p) A a W 137 μ.1 0).toNat) := by
                rw [e1_79]
                refine bi_iff ?_
                have ex : ∀ i, w_70 3 (w_70 37 T 0) i = txT w2 T i := fun i => by
                  have q1 := congrFun v3 i
                  have q2 := congrFun u3 i
                  exact q1.trans q2.symm
                simp only [ex]
                rw [s1.2.1]
                exact tou_fnd s1.1
              refine X_if_eq 85 87 hO dX9_find_82 rfl rfl (by omega) (fun hc_82 => ?_) (fun hc_82 => ?_)
              ·
                try simp only [bi_0, bi_ne, ne_eq, Classical.not_not] at hc_82
                have hnx := FDI.next h hT hE hj ha hw7 (fun _ z => by rw [bi_1.mpr z.2.2] at hr9; omega)
                refine X_aload 89 hO dX9_find_87 rfl rfl ?_
                refine gX9_46 92 hO dX9_find_89 rfl (by first | assumption | omega | (simp (disch := first | decide | assumption | omega) only [up_k, up_s, up_a, up_i, flA_k, flA_a, flA_n, cpA_k, cpA_a, newO_o, newA_o, newO_t, newA_t, newA_n, cpQ_k, cpQ_a] <;> first | assumption | omega)) ?_
                try simp (disch := first | decide | assumption | omega) only [up_k, up_s, up_a, up_i, flA_k, flA_a, flA_n, cpA_k, cpA_a, newO_o, newA_o, newO_t, newA_t, newA_n, cpQ_k, cpQ_a, e66, e25, e72]
                refine X_astore 94 hO dX9_find_92 rfl rfl ?_
                refine X_goto hO dX9_find_94 (tgt := 6) rfl ?_
                exact X_wk (by simp only [lwk, lset, true_or, or_true, and_self]) (ih6 _ _ _ _ _ (by omega) hnx)
              ·
                try simp only [bi_0, bi_ne, ne_eq, Classical.not_not] at hc_82
                have hhit : m_hit μ lo hi (m_can μ (pl_ p) (fcu μ A) A a W).1 (wnx μ (pl_ p) A a W) := ⟨hcan, h138, Classical.byContradiction fun z => by rw [bi_0.mpr z] at hr9; omega⟩
                have hm : (m_fdI μ (pl_ p) lo hi A) = (a, wnx μ (pl_ p) A a W) := by
                  rw [← jm, show a.toNat = (a - 1).toNat + 1 by omega]
                  simp only [m_fdR]
                  rw [show (((a - 1).toNat : Nat) : Int) + 1 = a by omega]
                  exact if_pos hhit
                refine X_iconst 86 hO dX9_find_85 rfl ?_
                exact X_iret hO hF rfl (by first | exact Or.inl rfl | exact Or.inr ⟨rfl, bi_01 _⟩ | exact Or.inr ⟨rfl, by omega⟩) dX9_find_86 ⟨_, rfl, (by omega), ⟨⟨_, hw7⟩, Or.inl ⟨rfl, a, n, kp, ⟨ha1, a1⟩, by rw [hm], ⟨by rw [hm, ← u3]; exact s1.1, s1.2.1, by rw [hm]; exact s1.2.2.2.1⟩, s2⟩⟩⟩
        refine gX9_24 27 hO dX9_find_24 rfl (by first | assumption | omega | (simp (disch := first | decide | assumption | omega) only [up_k, up_s, up_a, up_i, flA_k, flA_a, flA_n, cpA_k, cpA_a, newO_o, newA_o, newO_t, newA_t, newA_n, cpQ_k, cpQ_a] <;> first | assumption | omega)) (fun hi_24 => ?_)
        try simp (disch := first | decide | assumption | omega) only [up_k, up_s, up_a, up_i, flA_k, flA_a, flA_n, cpA_k, cpA_a, newO_o, newA_o, newO_t, newA_t, newA_n, cpQ_k, cpQ_a, e66, e25, e72] at hi_24 ⊢
        refine X_if_ne 30 59 hO dX9_find_27 rfl rfl (by omega) (fun hc_27 => ?_) (fun hc_27 => ?_)
        ·
          try simp only [bi_0, bi_ne, ne_eq, Classical.not_not] at hc_27
          refine X_iconst 60 hO dX9_find_59 rfl ?_
          exact JP60 _ (by first | exact bi_t (by omega) | exact bi_f (by omega))
        ·
          try simp only [bi_0, bi_ne, ne_eq, Classical.not_not] at hc_27
          refine X_aload 32 hO dX9_find_30 rfl rfl ?_
          refine gX9_28 35 hO dX9_find_32 rfl (by first | assumption | omega | (simp (disch := first | decide | assumption | omega) only [up_k, up_s, up_a, up_i, flA_k, flA_a, flA_n, cpA_k, cpA_a, newO_o, newA_o, newO_t, newA_t, newA_n, cpQ_k, cpQ_a] <;> first | assumption | omega)) ?_
          try simp (disch := first | decide | assumption | omega) only [up_k, up_s, up_a, up_i, flA_k, flA_a, flA_n, cpA_k, cpA_a, newO_o, newA_o, newO_t, newA_t, newA_n, cpQ_k, cpQ_a, e66, e25, e72]
          refine gX9_32 38 hO dX9_find_35 rfl (by first | assumption | omega | (simp (disch := first | decide | assumption | omega) only [up_k, up_s, up_a, up_i, flA_k, flA_a, flA_n, cpA_k, cpA_a, newO_o, newA_o, newO_t, newA_t, newA_n, cpQ_k, cpQ_a] <;> first | assumption | omega)) (fun hi_35 => ?_)
          try simp (disch := first | decide | assumption | omega) only [up_k, up_s, up_a, up_i, flA_k, flA_a, flA_n, cpA_k, cpA_a, newO_o, newA_o, newO_t, newA_t, newA_n, cpQ_k, cpQ_a, e66, e25, e72] at hi_35 ⊢
          refine X_iconst 39 hO dX9_find_38 rfl ?_
          refine X_icmp_lt 42 59 hO dX9_find_39 rfl rfl (by omega) (by omega) (fun hc_39 => ?_) (fun hc_39 => ?_)
          ·
            refine X_iconst 60 hO dX9_find_59 rfl ?_
            exact JP60 _ (by first | exact bi_t (by omega) | exact bi_f (by omega))
          ·
            refine X_aload 44 hO dX9_find_42 rfl rfl ?_
            refine gX9_28 47 hO dX9_find_44 rfl (by first | assumption | omega | (simp (disch := first | decide | assumption | omega) only [up_k, up_s, up_a, up_i, flA_k, flA_a, flA_n, cpA_k, cpA_a, newO_o, newA_o, newO_t, newA_t, newA_n, cpQ_k, cpQ_a] <;> first | assumption | omega)) ?_
            try simp (disch := first | decide | assumption | omega) only [up_k, up_s, up_a, up_i, flA_k, flA_a, flA_n, cpA_k, cpA_a, newO_o, newA_o, newO_t, newA_t, newA_n, cpQ_k, cpQ_a, e66, e25, e72]
            refine gX9_32 50 hO dX9_find_47 rfl (by first | assumption | omega | (simp (disch := first | decide | assumption | omega) only [up_k, up_s, up_a, up_i, flA_k, flA_a, flA_n, cpA_k, cpA_a, newO_o, newA_o, newO_t, newA_t, newA_n, cpQ_k, cpQ_a] <;> first | assumption | omega)) (fun hi_47 => ?_)
            try simp (disch := first | decide | assumption | omega) only [up_k, up_s, up_a, up_i, flA_k, flA_a, flA_n, cpA_k, cpA_a, newO_o, newA_o, newO_t, newA_t, newA_n, cpQ_k, cpQ_a, e66, e25, e72] at hi_47 ⊢
            refine X_bipush 52 hO dX9_find_50 rfl (by decide) ?_
            refine X_icmp_gt 55 59 hO dX9_find_52 rfl rfl (by omega) (by omega) (fun hc_52 => ?_) (fun hc_52 => ?_)
            ·
              refine X_iconst 60 hO dX9_find_59 rfl ?_
              exact JP60 _ (by first | exact bi_t (by omega) | exact bi_f (by omega))
            ·
              refine X_iconst 56 hO dX9_find_55 rfl ?_
              refine X_goto hO dX9_find_56 (tgt := 60) rfl ?_
              exact JP60 _ (by first | exact bi_t (by omega) | exact bi_f (by omega))
  exact X_wk (by simp only [lwk, lset, true_or, or_true, and_self]) (LP6 _ _ _ _ _ _ (Nat.lt_succ_self _) hj0)
