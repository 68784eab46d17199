/-! the class follows the traces of a change -/
abbrev BLs : Type := List (Int × List Int)
theorem cov_fnd {x : Int → Int} {n : Nat} {w W : Mm} {μ : MU} (h : (∃ i, (0 ≤ i ∧ i < (n : Int)) ∧ w 75 (x i) 0 ≠ 0) ↔ W 138 μ.1 0 ≠ 0) : (fnd (fun i => bi (w 75 (x i) 0 = 0)) 0 n 0 ≠ -1) ↔ W 138 μ.1 0 ≠ 0 := by
  rw [← h]
  rcases fnd_spec (fun i => bi (w 75 (x i) 0 = 0)) 0 n 0 with ⟨h1, h2⟩ | ⟨h1, h2, h3⟩
  · refine ⟨fun z => absurd h1 z, ?_⟩
    rintro ⟨i, hi, z⟩
    exact absurd (bi_0.mpr z) (h2 i hi.1 (by omega))
  · refine ⟨fun _ => ⟨_, ⟨h1, by omega⟩, bi_0.mp h3.1⟩, fun _ => by omega⟩
theorem dX9_follow_0 : decode cX9_follow 0 = .ok (.aload_n 0, 1) := by decide +kernel
theorem dX9_follow_1 : decode cX9_follow 1 = .ok (.iconst 0, 1) := by decide +kernel
theorem dX9_follow_2 : decode cX9_follow 2 = .ok (.putfield 49, 3) := by decide +kernel
theorem dX9_follow_5 : decode cX9_follow 5 = .ok (.aload_n 1, 1) := by decide +kernel
theorem dX9_follow_6 : decode cX9_follow 6 = .ok (.getfield 28, 3) := by decide +kernel
theorem dX9_follow_9 : decode cX9_follow 9 = .ok (.getfield 52, 3) := by decide +kernel
theorem dX9_follow_12 : decode cX9_follow 12 = .ok (.astore_n 2, 1) := by decide +kernel
theorem dX9_follow_13 : decode cX9_follow 13 = .ok (.aload_n 2, 1) := by decide +kernel
theorem dX9_follow_14 : decode cX9_follow 14 = .ok (.ifnull 56, 3) := by decide +kernel
theorem dX9_follow_17 : decode cX9_follow 17 = .ok (.aload_n 0, 1) := by decide +kernel
theorem dX9_follow_18 : decode cX9_follow 18 = .ok (.aload_n 2, 1) := by decide +kernel
theorem dX9_follow_19 : decode cX9_follow 19 = .ok (.invokevirtual 56, 3) := by decide +kernel
theorem dX9_follow_22 : decode cX9_follow 22 = .ok (.aload_n 2, 1) := by decide +kernel
theorem dX9_follow_23 : decode cX9_follow 23 = .ok (.getfield 60, 3) := by decide +kernel
theorem dX9_follow_26 : decode cX9_follow 26 = .ok (.iconst 3, 1) := by decide +kernel
theorem dX9_follow_27 : decode cX9_follow 27 = .ok (.if_icmp .gt 35, 3) := by decide +kernel
theorem dX9_follow_30 : decode cX9_follow 30 = .ok (.aload_n 0, 1) := by decide +kernel
theorem dX9_follow_31 : decode cX9_follow 31 = .ok (.getfield 49, 3) := by decide +kernel
theorem dX9_follow_34 : decode cX9_follow 34 = .ok (.bipush 8, 2) := by decide +kernel
theorem dX9_follow_36 : decode cX9_follow 36 = .ok (.if_icmp .ge 26, 3) := by decide +kernel
theorem dX9_follow_39 : decode cX9_follow 39 = .ok (.aload_n 0, 1) := by decide +kernel
theorem dX9_follow_40 : decode cX9_follow 40 = .ok (.getfield 11, 3) := by decide +kernel
theorem dX9_follow_43 : decode cX9_follow 43 = .ok (.aload_n 0, 1) := by decide +kernel
theorem dX9_follow_44 : decode cX9_follow 44 = .ok (.getfield 49, 3) := by decide +kernel
theorem dX9_follow_47 : decode cX9_follow 47 = .ok (.aaload, 1) := by decide +kernel
theorem dX9_follow_48 : decode cX9_follow 48 = .ok (.aload_n 2, 1) := by decide +kernel
theorem dX9_follow_49 : decode cX9_follow 49 = .ok (.invokevirtual 65, 3) := by decide +kernel
theorem dX9_follow_52 : decode cX9_follow 52 = .ok (.aload_n 0, 1) := by decide +kernel
theorem dX9_follow_53 : decode cX9_follow 53 = .ok (.dup, 1) := by decide +kernel
theorem dX9_follow_54 : decode cX9_follow 54 = .ok (.getfield 49, 3) := by decide +kernel
theorem dX9_follow_57 : decode cX9_follow 57 = .ok (.iconst 1, 1) := by decide +kernel
theorem dX9_follow_58 : decode cX9_follow 58 = .ok (.iadd, 1) := by decide +kernel
theorem dX9_follow_59 : decode cX9_follow 59 = .ok (.putfield 49, 3) := by decide +kernel
theorem dX9_follow_62 : decode cX9_follow 62 = .ok (.aload_n 2, 1) := by decide +kernel
theorem dX9_follow_63 : decode cX9_follow 63 = .ok (.getfield 68, 3) := by decide +kernel
theorem dX9_follow_66 : decode cX9_follow 66 = .ok (.astore_n 2, 1) := by decide +kernel
theorem dX9_follow_67 : decode cX9_follow 67 = .ok (.goto (-54), 3) := by decide +kernel
theorem dX9_follow_70 : decode cX9_follow 70 = .ok (.aload_n 1, 1) := by decide +kernel
theorem dX9_follow_71 : decode cX9_follow 71 = .ok (.getfield 18, 3) := by decide +kernel
theorem dX9_follow_74 : decode cX9_follow 74 = .ok (.astore_n 2, 1) := by decide +kernel
theorem dX9_follow_75 : decode cX9_follow 75 = .ok (.aload_n 2, 1) := by decide +kernel
theorem dX9_follow_76 : decode cX9_follow 76 = .ok (.ifnull 36, 3) := by decide +kernel
theorem dX9_follow_79 : decode cX9_follow 79 = .ok (.aload_n 2, 1) := by decide +kernel
theorem dX9_follow_80 : decode cX9_follow 80 = .ok (.getfield 28, 3) := by decide +kernel
theorem dX9_follow_83 : decode cX9_follow 83 = .ok (.getfield 52, 3) := by decide +kernel
theorem dX9_follow_86 : decode cX9_follow 86 = .ok (.astore_n 3, 1) := by decide +kernel
theorem dX9_follow_87 : decode cX9_follow 87 = .ok (.aload_n 3, 1) := by decide +kernel
theorem dX9_follow_88 : decode cX9_follow 88 = .ok (.ifnull 16, 3) := by decide +kernel
theorem dX9_follow_91 : decode cX9_follow 91 = .ok (.aload_n 0, 1) := by decide +kernel
theorem dX9_follow_92 : decode cX9_follow 92 = .ok (.aload_n 3, 1) := by decide +kernel
theorem dX9_follow_93 : decode cX9_follow 93 = .ok (.invokevirtual 71, 3) := by decide +kernel
theorem dX9_follow_96 : decode cX9_follow 96 = .ok (.aload_n 3, 1) := by decide +kernel
theorem dX9_follow_97 : decode cX9_follow 97 = .ok (.getfield 68, 3) := by decide +kernel
theorem dX9_follow_100 : decode cX9_follow 100 = .ok (.astore_n 3, 1) := by decide +kernel
theorem dX9_follow_101 : decode cX9_follow 101 = .ok (.goto (-14), 3) := by decide +kernel
theorem dX9_follow_104 : decode cX9_follow 104 = .ok (.aload_n 2, 1) := by decide +kernel
theorem dX9_follow_105 : decode cX9_follow 105 = .ok (.getfield 18, 3) := by decide +kernel
theorem dX9_follow_108 : decode cX9_follow 108 = .ok (.astore_n 2, 1) := by decide +kernel
theorem dX9_follow_109 : decode cX9_follow 109 = .ok (.goto (-34), 3) := by decide +kernel
theorem dX9_follow_112 : decode cX9_follow 112 = .ok (.aload_n 0, 1) := by decide +kernel
theorem dX9_follow_113 : decode cX9_follow 113 = .ok (.invokevirtual 74, 3) := by decide +kernel
theorem dX9_follow_116 : decode cX9_follow 116 = .ok (.ifCond .ne 7, 3) := by decide +kernel
theorem dX9_follow_119 : decode cX9_follow 119 = .ok (.iconst 1, 1) := by decide +kernel
theorem dX9_follow_120 : decode cX9_follow 120 = .ok (.goto 4, 3) := by decide +kernel
theorem dX9_follow_123 : decode cX9_follow 123 = .ok (.iconst 0, 1) := by decide +kernel
theorem dX9_follow_124 : decode cX9_follow 124 = .ok (.ireturn, 1) := by decide +kernel
set_option maxRecDepth 4000 in
theorem kX9_follow (γ : LC) (w : Mm) (T x : Int) (σ : Int → Int) (A W00 : Mm) (μ : MU) (L0 : List Int) (Bs : List (Int × List Int)) (hT : TrT w T) (hX : TrX w T) (hx : w 0 x 0 = 5 ∧ w 0 (w 25 x 0) 0 = 8) (hc : CHa w (w 34 (w 25 x 0) 0) (L0.map σ) 0) (hB : BLW w σ (w 27 x 0) Bs) (hS : ∀ k ∈ L0, SWk w σ A k) (hS2 : ∀ b ∈ Bs, ∀ k ∈ b.2, SWk w σ A k) (hln : (L0.length : Int) + lnB Bs ≤ 30000) (h138 : W00 138 μ.1 0 = 0) (h137 : W00 137 μ.1 0 = 0) (hR0 : (m_trL μ (L0.map (wdA A)) W00).1 ≠ 0) : KI γ 6 mX9_follow [rv T, rv x] w (0) (0) (fun r w' => ∃ n kp, r = bi ((foB μ A Bs (m_trL μ (L0.map (wdA A)) W00).2) 138 μ.1 0 = 0) ∧ TRS μ T σ kp A w n 150005000 w' (foB μ A Bs (m_trL μ (L0.map (wdA A)) W00).2) ∧ (rng n.toNat 0).map kp = L0.filter (txS A)) NX := by
  refine MX_of rfl rfl (by simp [rv_cat, int_cat]) rfl ?_
  rintro κ hO hF rfl
  have hD := hF.dp
  show X κ (0) (0) w 0 [some (rv T), some (rv x), none, none] []
  have hnb := lnB_nn Bs
  obtain ⟨hT0, hT1, hT2, hT3⟩ := id hT
  have e33 := trivial
  have e68 := trivial
  have e37 := trivial
  have e77 := trivial
  have e25 := trivial
  have e27 := trivial
  have e34 := trivial
  refine X_aload_n 1 hO dX9_follow_0 rfl rfl ?_
  refine X_iconst 2 hO dX9_follow_1 rfl ?_
  refine pX9_49 5 hO dX9_follow_2 rfl (by first | assumption | omega | (simp (disch := first | decide | assumption | omega) only [up_k, up_s, up_a, up_i, flA_k, flA_a, flA_n, cpA_k, cpA_a, newO_o, newA_o, newO_t, newA_t, newA_n, cpQ_k, cpQ_a] <;> first | assumption | omega)) (by omega) ?_
  obtain ⟨w0, hw0⟩ : ∃ w0, w0 = up w 77 T 0 0 := ⟨_, rfl⟩
  refine X_eqW hw0.symm ?_
  have hF0 : FTc w w0 := by rw [hw0]; exact FTc.refl.u (by decide)
  have f0 : ∀ {K : Nat} {a j : Int}, (K ≠ 36 ∧ K ≠ 73 ∧ K ≠ 74 ∧ K ≠ 75 ∧ K ≠ 76 ∧ K ≠ 77) → w0 K a j = w K a j := fun z => hF0 _ _ _ z.1 z.2.1 z.2.2.1 z.2.2.2.1 z.2.2.2.2.1 z.2.2.2.2.2
  have cx : w0 0 x 0 = 5 := by rw [f0 (by decide)]; exact hx.1
  have e25 : w0 25 x 0 = w 25 x 0 := f0 (by decide)
  have cq : w0 0 (w 25 x 0) 0 = 8 := by rw [f0 (by decide)]; exact hx.2
  have e34 : w0 34 (w 25 x 0) 0 = w 34 (w 25 x 0) 0 := f0 (by decide)
  have hj0 : OWI μ T σ A w (m_trL μ (L0.map (wdA A)) W00) (L0.filter (txS A)) (lnB Bs) (w 34 (w 25 x 0) 0) L0 w0 := by
    refine ⟨0, fun _ => 0, W00, hc, ⟨⟨fun i i0 i1 => by omega, ?_, h137, by decide, by decide⟩, by rw [hw0, up_s], hF0, fun i i0 i1 => by omega, by rw [hw0]; exact FTg.refl.u (Or.inr hT0)⟩, rfl, rfl⟩
    constructor
    · rintro ⟨i, hi, -⟩; omega
    · intro z; exact absurd h138 z
  refine X_aload_n 6 hO dX9_follow_5 rfl rfl ?_
  refine gX9_28 9 hO dX9_follow_6 rfl (by first | assumption | omega | (simp (disch := first | decide | assumption | omega) only [up_k, up_s, up_a, up_i, flA_k, flA_a, flA_n, cpA_k, cpA_a, newO_o, newA_o, newO_t, newA_t, newA_n, cpQ_k, cpQ_a] <;> first | assumption | omega)) ?_
  try simp (disch := first | decide | assumption | omega) only [up_k, up_s, up_a, up_i, flA_k, flA_a, flA_n, cpA_k, cpA_a, newO_o, newA_o, newO_t, newA_t, newA_n, cpQ_k, cpQ_a, e33, e68, e37, e77, e25, e27, e34]
  refine gX9_52 12 hO dX9_follow_9 rfl (by first | assumption | omega | (simp (disch := first | decide | assumption | omega) only [up_k, up_s, up_a, up_i, flA_k, flA_a, flA_n, cpA_k, cpA_a, newO_o, newA_o, newO_t, newA_t, newA_n, cpQ_k, cpQ_a] <;> first | assumption | omega)) ?_
  try simp (disch := first | decide | assumption | omega) only [up_k, up_s, up_a, up_i, flA_k, flA_a, flA_n, cpA_k, cpA_a, newO_o, newA_o, newO_t, newA_t, newA_n, cpQ_k, cpQ_a, e33, e68, e37, e77, e25, e27, e34]
  refine X_astore_n 13 hO dX9_follow_12 rfl rfl ?_
  have LP13 : ∀ (nn : Nat) (q : Int) (L1 : List Int) (w1 : Mm), L1.length < nn → (OWI μ T σ A w (m_trL μ (L0.map (wdA A)) W00) (L0.filter (txS A)) (lnB Bs) q L1 w1) → (∀ k ∈ L1, SWk w σ A k) → ((L1.length : Int) + lnB Bs ≤ 30000) → X κ (0) (0) (w1) 13 [some (rv T), some (rv x), some (rv q), none] [] := by
    intro nn
    induction nn with
    | zero => intro q L1 w1 hm; exact absurd hm (Nat.not_lt_zero _)
    | succ nn ih13 =>
      intro q L1 w1 hm hj hs1 hl1
      obtain ⟨n, kp, W, j1, j2, j3, j4⟩ := id hj
      obtain ⟨tT, tX, tB, t3⟩ := j2.t hT hX (by omega)
      have f1 : ∀ {K : Nat} {a j : Int}, (K ≠ 36 ∧ K ≠ 73 ∧ K ≠ 74 ∧ K ≠ 75 ∧ K ≠ 76 ∧ K ≠ 77) → w1 K a j = w K a j := fun z => j2.2.2.1 _ _ _ z.1 z.2.1 z.2.2.1 z.2.2.2.1 z.2.2.2.2.1 z.2.2.2.2.2
      have cx : w1 0 x 0 = 5 := by rw [f1 (by decide)]; exact hx.1
      have e27 : w1 27 x 0 = w 27 x 0 := f1 (by decide)
      refine X_aload_n 14 hO dX9_follow_13 rfl rfl ?_
      refine X_ifnull 17 70 hO dX9_follow_14 rfl rfl (fun hc_14 => ?_) (fun hc_14 => ?_)
      ·
        have hbl : BLI μ T σ A w (foB μ A Bs (m_trL μ (L0.map (wdA A)) W00).2) (L0.filter (txS A)) (w 27 x 0) Bs w1 := by rw [hc_14] at hj; exact hj.fin hR0 hB
        refine X_aload_n 71 hO dX9_follow_70 rfl rfl ?_
        refine gX9_18 74 hO dX9_follow_71 rfl (by first | assumption | omega | (simp (disch := first | decide | assumption | omega) only [up_k, up_s, up_a, up_i, flA_k, flA_a, flA_n, cpA_k, cpA_a, newO_o, newA_o, newO_t, newA_t, newA_n, cpQ_k, cpQ_a] <;> first | assumption | omega)) ?_
        try simp (disch := first | decide | assumption | omega) only [up_k, up_s, up_a, up_i, flA_k, flA_a, flA_n, cpA_k, cpA_a, newO_o, newA_o, newO_t, newA_t, newA_n, cpQ_k, cpQ_a, e33, e68, e37, e77, e25, e27, e34]
        refine X_astore_n 75 hO dX9_follow_74 rfl rfl ?_
        have LP75 : ∀ (nn : Nat) (q2 : Int) (B1 : BLs) (w2 : Mm), B1.length < nn → (BLI μ T σ A w (foB μ A Bs (m_trL μ (L0.map (wdA A)) W00).2) (L0.filter (txS A)) q2 B1 w2) → (∀ b ∈ B1, ∀ k ∈ b.2, SWk w σ A k) → (lnB B1 ≤ 30000) → X κ (0) (0) (w2) 75 [some (rv T), some (rv x), some (rv q2), none] [] := by
          intro nn
          induction nn with
          | zero => intro q2 B1 w2 hm; exact absurd hm (Nat.not_lt_zero _)
          | succ nn ih75 =>
            intro q2 B1 w2 hm hb hs2 hl2
            obtain ⟨n, kp, W, j1, j2, j3, j4⟩ := id hb
            have hnb1 := lnB_nn B1
            obtain ⟨tT, tX, tB, t3⟩ := j2.t hT hX (by omega)
            have f2 : ∀ {K : Nat} {a j : Int}, (K ≠ 36 ∧ K ≠ 73 ∧ K ≠ 74 ∧ K ≠ 75 ∧ K ≠ 76 ∧ K ≠ 77) → w2 K a j = w K a j := fun z => j2.2.2.1 _ _ _ z.1 z.2.1 z.2.2.1 z.2.2.2.1 z.2.2.2.2.1 z.2.2.2.2.2
            have c10_2 : w2 0 T 0 = 10 := by rw [f2 (by decide)]; exact hT0
            refine X_aload_n 76 hO dX9_follow_75 rfl rfl ?_
            refine X_ifnull 79 112 hO dX9_follow_76 rfl rfl (fun hc_76 => ?_) (fun hc_76 => ?_)
            ·
              rw [hc_76] at hb
              obtain ⟨n9, kp9, s9, s10⟩ := hb.tl
              refine X_aload_n 113 hO dX9_follow_112 rfl rfl ?_
              refine X_kVi (t := 10) 116 hO hD lX9_74 rfl (by decide) [] rfl dX9_follow_113 rfl (by first | assumption | omega | (simp (disch := first | decide | assumption | omega) only [up_k, up_s, up_a, up_i, flA_k, flA_a, flA_n, cpA_k, cpA_a, newO_o, newA_o, newO_t, newA_t, newA_n, cpQ_k, cpQ_a] <;> first | assumption | omega)) (kX9_oneIsCovered _ _ _ tT tX) (by decide) (by simp [rv_cat, int_cat]) (by first | decide | exact Nat.zero_le _ | omega) (by first | decide | exact Nat.zero_le _ | omega) (fun r_113 w_113 hr_113 hp_113 => ?_) (fun E w_ hx_ => hx_.elim)
              obtain ⟨e1_113, e2_113⟩ := hp_113
              subst w_113
              have hcv : r_113 = bi ((foB μ A Bs (m_trL μ (L0.map (wdA A)) W00).2) 138 μ.1 0 ≠ 0) := by
                rw [e1_113]
                refine bi_iff ?_
                have ex : ∀ i, w2 3 (w2 37 T 0) i = txT w T i := t3
                simp only [ex]
                have hs := s9.1.2.1
                have hn9 := s9.1.2.2
                rw [s9.2.1]
                exact cov_fnd (by rw [show ((n9.toNat : Nat) : Int) = n9 by omega]; exact hs)
              refine X_if_ne 119 123 hO dX9_follow_116 rfl rfl (by omega) (fun hc_116 => ?_) (fun hc_116 => ?_)
              ·
                try simp only [bi_0, bi_ne, ne_eq, Classical.not_not] at hc_116
                refine X_iconst 124 hO dX9_follow_123 rfl ?_
                exact X_iret hO hF rfl (by first | exact Or.inl rfl | exact Or.inr ⟨rfl, bi_01 _⟩ | exact Or.inr ⟨rfl, by omega⟩) dX9_follow_124 ⟨_, rfl, (by omega), ⟨n9, kp9, by first | exact bi_t (Classical.byContradiction fun z => by rw [bi_1.mpr z] at hcv; omega) | exact bi_f (fun z => by rw [bi_0.mpr (fun y => y z)] at hcv; omega), s9, s10⟩⟩
              ·
                try simp only [bi_0, bi_ne, ne_eq, Classical.not_not] at hc_116
                refine X_iconst 120 hO dX9_follow_119 rfl ?_
                refine X_goto hO dX9_follow_120 (tgt := 124) rfl ?_
                exact X_iret hO hF rfl (by first | exact Or.inl rfl | exact Or.inr ⟨rfl, bi_01 _⟩ | exact Or.inr ⟨rfl, by omega⟩) dX9_follow_124 ⟨_, rfl, (by omega), ⟨n9, kp9, by first | exact bi_t (Classical.byContradiction fun z => by rw [bi_1.mpr z] at hcv; omega) | exact bi_f (fun z => by rw [bi_0.mpr (fun y => y z)] at hcv; omega), s9, s10⟩⟩
            ·
              have hm75 := hm
              obtain ⟨b, bs, eB, eq, ⟨cb5', cb8⟩, hi0, hbw⟩ := hb.hd hc_76
              subst eB
              subst eq
              have cb5 : w 0 b.1 0 = 5 := cb5'
              have cb : w2 0 b.1 0 = 5 := by rw [f2 (by decide)]; exact cb5
              have e25 : w2 25 b.1 0 = w 25 b.1 0 := f2 (by decide)
              have cq : w2 0 (w 25 b.1 0) 0 = 8 := by rw [f2 (by decide)]; exact cb8
              have e34 : w2 34 (w 25 b.1 0) 0 = w 34 (w 25 b.1 0) 0 := f2 (by decide)
              have hnb2 := lnB_nn bs
              refine X_aload_n 80 hO dX9_follow_79 rfl rfl ?_
              refine gX9_28 83 hO dX9_follow_80 rfl (by first | assumption | omega | (simp (disch := first | decide | assumption | omega) only [up_k, up_s, up_a, up_i, flA_k, flA_a, flA_n, cpA_k, cpA_a, newO_o, newA_o, newO_t, newA_t, newA_n, cpQ_k, cpQ_a] <;> first | assumption | omega)) ?_
              try simp (disch := first | decide | assumption | omega) only [up_k, up_s, up_a, up_i, flA_k, flA_a, flA_n, cpA_k, cpA_a, newO_o, newA_o, newO_t, newA_t, newA_n, cpQ_k, cpQ_a, e33, e68, e37, e77, e25, e27, e34]
              refine gX9_52 86 hO dX9_follow_83 rfl (by first | assumption | omega | (simp (disch := first | decide | assumption | omega) only [up_k, up_s, up_a, up_i, flA_k, flA_a, flA_n, cpA_k, cpA_a, newO_o, newA_o, newO_t, newA_t, newA_n, cpQ_k, cpQ_a] <;> first | assumption | omega)) ?_
              try simp (disch := first | decide | assumption | omega) only [up_k, up_s, up_a, up_i, flA_k, flA_a, flA_n, cpA_k, cpA_a, newO_o, newA_o, newO_t, newA_t, newA_n, cpQ_k, cpQ_a, e33, e68, e37, e77, e25, e27, e34]
              refine X_astore_n 87 hO dX9_follow_86 rfl rfl ?_
              have LP87 : ∀ (nn : Nat) (q3 : Int) (L3 : List Int) (w3 : Mm), L3.length < nn → (BII μ T σ A w (foB μ A Bs (m_trL μ (L0.map (wdA A)) W00).2) (L0.filter (txS A)) q3 L3 bs w3) → (∀ k ∈ L3, SWk w σ A k) → ((L3.length : Int) + lnB bs ≤ 30000) → X κ (0) (0) (w3) 87 [some (rv T), some (rv x), some (rv b.1), some (rv q3)] [] := by
                intro nn
                induction nn with
                | zero => intro q3 L3 w3 hm; exact absurd hm (Nat.not_lt_zero _)
                | succ nn ih87 =>
                  intro q3 L3 w3 hm hi hs3 hl3
                  obtain ⟨n, kp, W, j1, j2, j3, j4⟩ := id hi
                  have hnb3 := lnB_nn bs
                  obtain ⟨tT, tX, tB, t3⟩ := j2.t hT hX (by omega)
                  have f3 : ∀ {K : Nat} {a j : Int}, (K ≠ 36 ∧ K ≠ 73 ∧ K ≠ 74 ∧ K ≠ 75 ∧ K ≠ 76 ∧ K ≠ 77) → w3 K a j = w K a j := fun z => j2.2.2.1 _ _ _ z.1 z.2.1 z.2.2.1 z.2.2.2.1 z.2.2.2.2.1 z.2.2.2.2.2
                  have cb : w3 0 b.1 0 = 5 := by rw [f3 (by decide)]; exact cb5
                  have e27 : w3 27 b.1 0 = w 27 b.1 0 := f3 (by decide)
                  refine X_aload_n 88 hO dX9_follow_87 rfl rfl ?_
                  refine X_ifnull 91 104 hO dX9_follow_88 rfl rfl (fun hc_88 => ?_) (fun hc_88 => ?_)
                  ·
                    have hb5 : BLI μ T σ A w (foB μ A Bs (m_trL μ (L0.map (wdA A)) W00).2) (L0.filter (txS A)) (w 27 b.1 0) bs w3 := by rw [hc_88] at hi; exact hi.tl hbw
                    refine X_aload_n 105 hO dX9_follow_104 rfl rfl ?_
                    refine gX9_18 108 hO dX9_follow_105 rfl (by first | assumption | omega | (simp (disch := first | decide | assumption | omega) only [up_k, up_s, up_a, up_i, flA_k, flA_a, flA_n, cpA_k, cpA_a, newO_o, newA_o, newO_t, newA_t, newA_n, cpQ_k, cpQ_a] <;> first | assumption | omega)) ?_
                    try simp (disch := first | decide | assumption | omega) only [up_k, up_s, up_a, up_i, flA_k, flA_a, flA_n, cpA_k, cpA_a, newO_o, newA_o, newO_t, newA_t, newA_n, cpQ_k, cpQ_a, e33, e68, e37, e77, e25, e27, e34]
                    refine X_astore_n 109 hO dX9_follow_108 rfl rfl ?_
                    refine X_goto hO dX9_follow_109 (tgt := 75) rfl ?_
                    exact X_wk (by simp only [lwk, lset, true_or, or_true, and_self]) (ih75 _ _ _ (by simp only [List.length_cons] at hm75; omega) hb5 (fun b hb => hs2 b (List.mem_cons_of_mem _ hb)) (by have : lnB (b :: bs) = b.2.length + lnB bs := rfl; omega))
                  ·
                    obtain ⟨k, L', eL, eq, j1'⟩ := j1.hdm hc_88
                    subst eL
                    subst eq
                    have hk := hs3 k List.mem_cons_self
                    have hkb := hk.b
                    have c10_3 : w3 0 T 0 = 10 := by rw [f3 (by decide)]; exact hT.1
                    have c7_3 : w3 0 (σ k) 0 = 7 := by rw [f3 (by decide)]; exact hk.1
                    have e68_3 : w3 68 (σ k) 0 = w 68 (σ k) 0 := f3 (by decide)
                    have e69_3 : w3 69 (σ k) 0 = w 69 (σ k) 0 := f3 (by decide)
                    have e70_3 : w3 70 (σ k) 0 = w 70 (σ k) 0 := f3 (by decide)
                    have e33_3 : w3 33 (σ k) 0 = w 33 (σ k) 0 := f3 (by decide)
                    have p69 : -1000000000 ≤ w3 69 (σ k) 0 ∧ w3 69 (σ k) 0 ≤ 1000000000 := by rw [e69_3]; exact hkb.1
                    have p70 : -1000000000 ≤ w3 70 (σ k) 0 ∧ w3 70 (σ k) 0 ≤ 1000000000 := by rw [e70_3]; exact hkb.2.1
                    refine X_aload_n 92 hO dX9_follow_91 rfl rfl ?_
                    refine X_aload_n 93 hO dX9_follow_92 rfl rfl ?_
                    refine X_kVv (t := 10) 96 hO hD lX9_71 rfl (by decide) [_] rfl dX9_follow_93 rfl (by first | assumption | omega | (simp (disch := first | decide | assumption | omega) only [up_k, up_s, up_a, up_i, flA_k, flA_a, flA_n, cpA_k, cpA_a, newO_o, newA_o, newO_t, newA_t, newA_n, cpQ_k, cpQ_a] <;> first | assumption | omega)) (kX9_meetStep2 _ _ _ _ tT tX tB c7_3 p69 p70) (by decide) (by simp [rv_cat, int_cat]) (by first | decide | exact Nat.zero_le _ | omega) (by first | decide | exact Nat.zero_le _ | omega) (fun w_93 hp_93 => ?_) (fun E w_ hx_ => hx_.elim)
                    have ex : (fun i => w3 3 (w3 37 T 0) i) = txT w T := funext t3
                    have ew : w_93 = ts_met (txT w T) (w 68 (σ k) 0) (w 69 (σ k) 0) (w 70 (σ k) 0) w3 n.toNat := by rw [hp_93, ex, e68_3, e69_3, e70_3, j2.2.1]
                    have hF93 : FTc w w_93 := by rw [ew]; exact j2.2.2.1.met
                    have f93 : ∀ {K : Nat} {a j : Int}, (K ≠ 36 ∧ K ≠ 73 ∧ K ≠ 74 ∧ K ≠ 75 ∧ K ≠ 76 ∧ K ≠ 77) → w_93 K a j = w K a j := fun z => hF93 _ _ _ z.1 z.2.1 z.2.2.1 z.2.2.2.1 z.2.2.2.2.1 z.2.2.2.2.2
                    have c10_93 : w_93 0 T 0 = 10 := by rw [f93 (by decide)]; exact hT.1
                    have c7_93 : w_93 0 (σ k) 0 = 7 := by rw [f93 (by decide)]; exact hk.1
                    have e68_93 : w_93 68 (σ k) 0 = w 68 (σ k) 0 := f93 (by decide)
                    have e69_93 : w_93 69 (σ k) 0 = w 69 (σ k) 0 := f93 (by decide)
                    have e70_93 : w_93 70 (σ k) 0 = w 70 (σ k) 0 := f93 (by decide)
                    have e33_93 : w_93 33 (σ k) 0 = w 33 (σ k) 0 := f93 (by decide)
                    have e33 := e33_93
                    have hi5 : BII μ T σ A w (foB μ A Bs (m_trL μ (L0.map (wdA A)) W00).2) (L0.filter (txS A)) (w 33 (σ k) 0) L' bs w_93 := by rw [ew]; exact BII.st j1' j2 hX j3 j4 hk
                    refine X_aload_n 97 hO dX9_follow_96 rfl rfl ?_
                    refine gX9_68 100 hO dX9_follow_97 rfl (by first | assumption | omega | (simp (disch := first | decide | assumption | omega) only [up_k, up_s, up_a, up_i, flA_k, flA_a, flA_n, cpA_k, cpA_a, newO_o, newA_o, newO_t, newA_t, newA_n, cpQ_k, cpQ_a] <;> first | assumption | omega)) ?_
                    try simp (disch := first | decide | assumption | omega) only [up_k, up_s, up_a, up_i, flA_k, flA_a, flA_n, cpA_k, cpA_a, newO_o, newA_o, newO_t, newA_t, newA_n, cpQ_k, cpQ_a, e33, e68, e37, e77, e25, e27, e34]
                    refine X_astore_n 101 hO dX9_follow_100 rfl rfl ?_
                    refine X_goto hO dX9_follow_101 (tgt := 87) rfl ?_
                    exact ih87 _ _ _ (by simp only [List.length_cons] at hm; omega) hi5 (fun k hk => hs3 k (List.mem_cons_of_mem _ hk)) (by rw [List.length_cons] at hl3; omega)
              exact LP87 _ _ _ _ (Nat.lt_succ_self _) hi0 (fun k hk => hs2 b List.mem_cons_self k hk) (by have : lnB (b :: bs) = b.2.length + lnB bs := rfl; omega)
        exact LP75 _ _ _ _ (Nat.lt_succ_self _) hbl hS2 (by omega)
      ·
        obtain ⟨k, L', eL, eq, j1'⟩ := j1.hdm hc_14
        subst eL
        subst eq
        have hk := hs1 k List.mem_cons_self
        have hkb := hk.b
        have c10_1 : w1 0 T 0 = 10 := by rw [f1 (by decide)]; exact hT.1
        have c7_1 : w1 0 (σ k) 0 = 7 := by rw [f1 (by decide)]; exact hk.1
        have e68_1 : w1 68 (σ k) 0 = w 68 (σ k) 0 := f1 (by decide)
        have e69_1 : w1 69 (σ k) 0 = w 69 (σ k) 0 := f1 (by decide)
        have e70_1 : w1 70 (σ k) 0 = w 70 (σ k) 0 := f1 (by decide)
        have e33_1 : w1 33 (σ k) 0 = w 33 (σ k) 0 := f1 (by decide)
        have p69 : -1000000000 ≤ w1 69 (σ k) 0 ∧ w1 69 (σ k) 0 ≤ 1000000000 := by rw [e69_1]; exact hkb.1
        have p70 : -1000000000 ≤ w1 70 (σ k) 0 ∧ w1 70 (σ k) 0 ≤ 1000000000 := by rw [e70_1]; exact hkb.2.1
        refine X_aload_n 18 hO dX9_follow_17 rfl rfl ?_
        refine X_aload_n 19 hO dX9_follow_18 rfl rfl ?_
        refine X_kVv (t := 10) 22 hO hD lX9_56 rfl (by decide) [_] rfl dX9_follow_19 rfl (by first | assumption | omega | (simp (disch := first | decide | assumption | omega) only [up_k, up_s, up_a, up_i, flA_k, flA_a, flA_n, cpA_k, cpA_a, newO_o, newA_o, newO_t, newA_t, newA_n, cpQ_k, cpQ_a] <;> first | assumption | omega)) (kX9_meetOwnStep2 _ _ _ _ tT tX tB c7_1 p69 p70) (by decide) (by simp [rv_cat, int_cat]) (by first | decide | exact Nat.zero_le _ | omega) (by first | decide | exact Nat.zero_le _ | omega) (fun w_19 hp_19 => ?_) (fun E w_ hx_ => hx_.elim)
        have ex : (fun i => w1 3 (w1 37 T 0) i) = txT w T := funext t3
        have ew : w_19 = ts_own (txT w T) n (w 68 (σ k) 0) (w 69 (σ k) 0) (w 70 (σ k) 0) w1 n.toNat := by rw [hp_19, ex, e68_1, e69_1, e70_1, j2.2.1]
        have hF19 : FTc w w_19 := by rw [ew]; exact j2.2.2.1.own
        have f19 : ∀ {K : Nat} {a j : Int}, (K ≠ 36 ∧ K ≠ 73 ∧ K ≠ 74 ∧ K ≠ 75 ∧ K ≠ 76 ∧ K ≠ 77) → w_19 K a j = w K a j := fun z => hF19 _ _ _ z.1 z.2.1 z.2.2.1 z.2.2.2.1 z.2.2.2.2.1 z.2.2.2.2.2
        have c10_19 : w_19 0 T 0 = 10 := by rw [f19 (by decide)]; exact hT.1
        have c7_19 : w_19 0 (σ k) 0 = 7 := by rw [f19 (by decide)]; exact hk.1
        have e68_19 : w_19 68 (σ k) 0 = w 68 (σ k) 0 := f19 (by decide)
        have e69_19 : w_19 69 (σ k) 0 = w 69 (σ k) 0 := f19 (by decide)
        have e70_19 : w_19 70 (σ k) 0 = w 70 (σ k) 0 := f19 (by decide)
        have e33_19 : w_19 33 (σ k) 0 = w 33 (σ k) 0 := f19 (by decide)
        have e77 : w_19 77 T 0 = n := by rw [ew, ts_own_k (by decide) (by decide) (by decide) (by decide)]; exact j2.2.1
        have e33 := e33_19
        have e68 := e68_19
        refine X_aload_n 23 hO dX9_follow_22 rfl rfl ?_
        refine gX9_60 26 hO dX9_follow_23 rfl (by first | assumption | omega | (simp (disch := first | decide | assumption | omega) only [up_k, up_s, up_a, up_i, flA_k, flA_a, flA_n, cpA_k, cpA_a, newO_o, newA_o, newO_t, newA_t, newA_n, cpQ_k, cpQ_a] <;> first | assumption | omega)) (fun hi_23 => ?_)
        try simp (disch := first | decide | assumption | omega) only [up_k, up_s, up_a, up_i, flA_k, flA_a, flA_n, cpA_k, cpA_a, newO_o, newA_o, newO_t, newA_t, newA_n, cpQ_k, cpQ_a, e33, e68, e37, e77, e25, e27, e34] at hi_23 ⊢
        refine X_iconst 27 hO dX9_follow_26 rfl ?_
        refine X_icmp_gt 30 62 hO dX9_follow_27 rfl rfl (by omega) (by omega) (fun hc_27 => ?_) (fun hc_27 => ?_)
        ·
          have hz : ¬ A 212 0 k % 8 ≤ 2 := fun z => by have := hk.2.1; unfold kdC at this; rw [if_pos (by omega)] at this; omega
          obtain ⟨en, ho5⟩ := OWI.non j1' j2 j3 j4 hk hz
          have e19 : w_19 = w1 := ew.trans en
          subst e19
          refine X_aload_n 63 hO dX9_follow_62 rfl rfl ?_
          refine gX9_68 66 hO dX9_follow_63 rfl (by first | assumption | omega | (simp (disch := first | decide | assumption | omega) only [up_k, up_s, up_a, up_i, flA_k, flA_a, flA_n, cpA_k, cpA_a, newO_o, newA_o, newO_t, newA_t, newA_n, cpQ_k, cpQ_a] <;> first | assumption | omega)) ?_
          try simp (disch := first | decide | assumption | omega) only [up_k, up_s, up_a, up_i, flA_k, flA_a, flA_n, cpA_k, cpA_a, newO_o, newA_o, newO_t, newA_t, newA_n, cpQ_k, cpQ_a, e33, e68, e37, e77, e25, e27, e34]
          refine X_astore_n 67 hO dX9_follow_66 rfl rfl ?_
          refine X_goto hO dX9_follow_67 (tgt := 13) rfl ?_
          exact ih13 _ _ _ (by simp only [List.length_cons] at hm; omega) ho5 (fun k hk => hs1 k (List.mem_cons_of_mem _ hk)) (by rw [List.length_cons] at hl1; omega)
        ·
          have hz : A 212 0 k % 8 ≤ 2 := by
            have hh := hk.2.1
            have h0 := hk.2.2.2.2.1
            unfold kdC at hh
            by_cases z : A 212 0 k % 8 < 4
            · rw [if_pos z] at hh; omega
            · rw [if_neg z] at hh; omega
          obtain ⟨hn8, ho⟩ := OWI.txt j1' j2 hX hT0 j3 hR0 j4 hk hz ⟨hnb, by rw [List.length_cons] at hl1; omega⟩
          have hn0 : 0 ≤ n := j2.1.2.2.2.1
          have e37 : w_19 37 T 0 = w 37 T 0 := f19 (by decide)
          have c26 : w_19 0 (w 37 T 0) 0 = 26 := by rw [f19 (by decide)]; exact hT1
          have c28 : w_19 2 (w 37 T 0) 0 = 8 := by rw [f19 (by decide)]; exact hT2
          have c9 : w_19 0 (w_19 3 (w 37 T 0) n) 0 = 9 := by rw [f19 (by decide), f19 (by decide)]; exact hX.1 n hn0 hn8
          have hir : IR (w_19 69 (σ k) 0 + w_19 70 (σ k) 0) := by rw [e69_19, e70_19]; unfold IR; omega
          refine X_aload_n 31 hO dX9_follow_30 rfl rfl ?_
          refine gX9_49 34 hO dX9_follow_31 rfl (by first | assumption | omega | (simp (disch := first | decide | assumption | omega) only [up_k, up_s, up_a, up_i, flA_k, flA_a, flA_n, cpA_k, cpA_a, newO_o, newA_o, newO_t, newA_t, newA_n, cpQ_k, cpQ_a] <;> first | assumption | omega)) (fun hi_31 => ?_)
          try simp (disch := first | decide | assumption | omega) only [up_k, up_s, up_a, up_i, flA_k, flA_a, flA_n, cpA_k, cpA_a, newO_o, newA_o, newO_t, newA_t, newA_n, cpQ_k, cpQ_a, e33, e68, e37, e77, e25, e27, e34] at hi_31 ⊢
          refine X_bipush 36 hO dX9_follow_34 rfl (by decide) ?_
          refine X_icmp_ge 39 62 hO dX9_follow_36 rfl rfl (by omega) (by omega) (fun hc_36 => absurd hc_36 (by omega)) (fun hc_36 => ?_)
          refine X_aload_n 40 hO dX9_follow_39 rfl rfl ?_
          refine gX9_11 43 hO dX9_follow_40 rfl (by first | assumption | omega | (simp (disch := first | decide | assumption | omega) only [up_k, up_s, up_a, up_i, flA_k, flA_a, flA_n, cpA_k, cpA_a, newO_o, newA_o, newO_t, newA_t, newA_n, cpQ_k, cpQ_a] <;> first | assumption | omega)) ?_
          try simp (disch := first | decide | assumption | omega) only [up_k, up_s, up_a, up_i, flA_k, flA_a, flA_n, cpA_k, cpA_a, newO_o, newA_o, newO_t, newA_t, newA_n, cpQ_k, cpQ_a, e33, e68, e37, e77, e25, e27, e34]
          refine X_aload_n 44 hO dX9_follow_43 rfl rfl ?_
          refine gX9_49 47 hO dX9_follow_44 rfl (by first | assumption | omega | (simp (disch := first | decide | assumption | omega) only [up_k, up_s, up_a, up_i, flA_k, flA_a, flA_n, cpA_k, cpA_a, newO_o, newA_o, newO_t, newA_t, newA_n, cpQ_k, cpQ_a] <;> first | assumption | omega)) (fun hi_44 => ?_)
          try simp (disch := first | decide | assumption | omega) only [up_k, up_s, up_a, up_i, flA_k, flA_a, flA_n, cpA_k, cpA_a, newO_o, newA_o, newO_t, newA_t, newA_n, cpQ_k, cpQ_a, e33, e68, e37, e77, e25, e27, e34] at hi_44 ⊢
          refine X_aald (t := 26) (C := "Foldback$Trace") 48 hO rfl (by decide) dX9_follow_47 rfl (by first | assumption | omega | (simp (disch := first | decide | assumption | omega) only [up_k, up_s, up_a, up_i, flA_k, flA_a, flA_n, cpA_k, cpA_a, newO_o, newA_o, newO_t, newA_t, newA_n, cpQ_k, cpQ_a] <;> first | assumption | omega)) (by first | assumption | omega | (simp (disch := first | decide | assumption | omega) only [up_k, up_s, up_a, up_i, flA_k, flA_a, flA_n, cpA_k, cpA_a, newO_o, newA_o, newO_t, newA_t, newA_n, cpQ_k, cpQ_a] <;> first | assumption | omega)) ?_
          try simp (disch := first | decide | assumption | omega) only [up_k, up_s, up_a, up_i, flA_k, flA_a, flA_n, cpA_k, cpA_a, newO_o, newA_o, newO_t, newA_t, newA_n, cpQ_k, cpQ_a, e33, e68, e37, e77, e25, e27, e34]
          refine X_aload_n 49 hO dX9_follow_48 rfl rfl ?_
          refine X_kVv (t := 9) 52 hO hD lX9_65 rfl (by decide) [_] rfl dX9_follow_49 rfl (by first | assumption | omega | (simp (disch := first | decide | assumption | omega) only [up_k, up_s, up_a, up_i, flA_k, flA_a, flA_n, cpA_k, cpA_a, newO_o, newA_o, newO_t, newA_t, newA_n, cpQ_k, cpQ_a] <;> first | assumption | omega)) (kX8_begin _ _ _ _ c9 c7_19 hir) (by decide) (by simp [rv_cat, int_cat]) (by first | decide | exact Nat.zero_le _ | omega) (by first | decide | exact Nat.zero_le _ | omega) (fun w_49 hp_49 => ?_) (fun E w_ hx_ => hx_.elim)
          have ew2 : w_49 = tr_begin (txT w T n) (σ k) (ts_own (txT w T) n (w 68 (σ k) 0) (w 69 (σ k) 0) (w 70 (σ k) 0) w1 n.toNat) := by rw [hp_49, ew, ts_own_k (by decide) (by decide) (by decide) (by decide), f1 (by decide)]
          have hF49 : FTc w w_49 := by rw [ew2]; exact (j2.2.2.1.own).beg
          have f49 : ∀ {K : Nat} {a j : Int}, (K ≠ 36 ∧ K ≠ 73 ∧ K ≠ 74 ∧ K ≠ 75 ∧ K ≠ 76 ∧ K ≠ 77) → w_49 K a j = w K a j := fun z => hF49 _ _ _ z.1 z.2.1 z.2.2.1 z.2.2.2.1 z.2.2.2.2.1 z.2.2.2.2.2
          have c10_49 : w_49 0 T 0 = 10 := by rw [f49 (by decide)]; exact hT0
          have e77 : w_49 77 T 0 = n := by
            rw [ew2]; unfold tr_begin
            simp (disch := decide) only [up_k]
            rw [ts_own_k (by decide) (by decide) (by decide) (by decide)]; exact j2.2.1
          refine X_aload_n 53 hO dX9_follow_52 rfl rfl ?_
          refine X_dup 54 hO dX9_follow_53 rfl (by first | rfl | exact rv_cat _) ?_
          refine gX9_49 57 hO dX9_follow_54 rfl (by first | assumption | omega | (simp (disch := first | decide | assumption | omega) only [up_k, up_s, up_a, up_i, flA_k, flA_a, flA_n, cpA_k, cpA_a, newO_o, newA_o, newO_t, newA_t, newA_n, cpQ_k, cpQ_a] <;> first | assumption | omega)) (fun hi_54 => ?_)
          try simp (disch := first | decide | assumption | omega) only [up_k, up_s, up_a, up_i, flA_k, flA_a, flA_n, cpA_k, cpA_a, newO_o, newA_o, newO_t, newA_t, newA_n, cpQ_k, cpQ_a, e33, e68, e37, e77, e25, e27, e34] at hi_54 ⊢
          refine X_iconst 58 hO dX9_follow_57 rfl ?_
          refine X_iadd 59 hO dX9_follow_58 rfl ?_
          refine pX9_49 62 hO dX9_follow_59 rfl (by first | assumption | omega | (simp (disch := first | decide | assumption | omega) only [up_k, up_s, up_a, up_i, flA_k, flA_a, flA_n, cpA_k, cpA_a, newO_o, newA_o, newO_t, newA_t, newA_n, cpQ_k, cpQ_a] <;> first | assumption | omega)) (by omega) ?_
          obtain ⟨w5, hw5⟩ : ∃ w5, w5 = up w_49 77 T 0 (n + 1) := ⟨_, rfl⟩
          refine X_eqW hw5.symm ?_
          rw [ew2] at hw5
          have ho5 := ho
          rw [← hw5] at ho5
          have hF5 : FTc w w5 := by rw [hw5]; exact ((j2.2.2.1.own).beg).u (by decide)
          have f5 : ∀ {K : Nat} {a j : Int}, (K ≠ 36 ∧ K ≠ 73 ∧ K ≠ 74 ∧ K ≠ 75 ∧ K ≠ 76 ∧ K ≠ 77) → w5 K a j = w K a j := fun z => hF5 _ _ _ z.1 z.2.1 z.2.2.1 z.2.2.2.1 z.2.2.2.2.1 z.2.2.2.2.2
          have c10_5 : w5 0 T 0 = 10 := by rw [f5 (by decide)]; exact hT.1
          have c7_5 : w5 0 (σ k) 0 = 7 := by rw [f5 (by decide)]; exact hk.1
          have e68_5 : w5 68 (σ k) 0 = w 68 (σ k) 0 := f5 (by decide)
          have e69_5 : w5 69 (σ k) 0 = w 69 (σ k) 0 := f5 (by decide)
          have e70_5 : w5 70 (σ k) 0 = w 70 (σ k) 0 := f5 (by decide)
          have e33_5 : w5 33 (σ k) 0 = w 33 (σ k) 0 := f5 (by decide)
          have e33 := e33_5
          refine X_aload_n 63 hO dX9_follow_62 rfl rfl ?_
          refine gX9_68 66 hO dX9_follow_63 rfl (by first | assumption | omega | (simp (disch := first | decide | assumption | omega) only [up_k, up_s, up_a, up_i, flA_k, flA_a, flA_n, cpA_k, cpA_a, newO_o, newA_o, newO_t, newA_t, newA_n, cpQ_k, cpQ_a] <;> first | assumption | omega)) ?_
          try simp (disch := first | decide | assumption | omega) only [up_k, up_s, up_a, up_i, flA_k, flA_a, flA_n, cpA_k, cpA_a, newO_o, newA_o, newO_t, newA_t, newA_n, cpQ_k, cpQ_a, e33, e68, e37, e77, e25, e27, e34]
          refine X_astore_n 67 hO dX9_follow_66 rfl rfl ?_
          refine X_goto hO dX9_follow_67 (tgt := 13) rfl ?_
          exact ih13 _ _ _ (by simp only [List.length_cons] at hm; omega) ho5 (fun k hk => hs1 k (List.mem_cons_of_mem _ hk)) (by rw [List.length_cons] at hl1; omega)
  exact LP13 _ _ _ _ (Nat.lt_succ_self _) hj0 hS hln
