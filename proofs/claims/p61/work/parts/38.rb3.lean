/-! the calls that end with a node keep what stands between calls -/
theorem mrg_220 {μ : MU} {c : Nat} {a i : Int} (h : c = 218 ∨ c = 219 ∨ c = 220 ∨ c = 222 ∨ c = 224) : ∀ (n : Nat) (x : Int) (w : Mm), (m_mrg μ n x w).2 c a i = w c a i
  | 0, x, w => rfl
  | n + 1, x, w => by
    unfold m_mrg
    split
    · rfl
    · rw [mrg_220 h n]
      unfold m_mrg1
      rw [up_k _ (by omega), up_k _ (by omega), up_k _ (by omega), up_k _ (by omega), up_k _ (by omega), up_k _ (by omega)]
theorem mks_220 {μ : MU} {g : Int} {w : Mm} : m_mks μ g w 220 0 (w 124 μ.1 0) = w 120 μ.1 0 - w 122 μ.1 0 := by
  unfold m_mks m_mrgs
  rw [mrg_220 (by decide)]
  unfold m_mk1
  simp (disch := decide) only [up_k, up_s]
theorem ins0 {μ : MU} {c : Int} {w : Mm} (h : (m_does μ 0 c 0 w).1 ≤ 0) : m_does μ 0 c 0 w = (0, m_insC μ c w) := by
  unfold m_does at h ⊢
  rw [if_neg (by omega), if_pos rfl] at h ⊢
  by_cases e : w 201 0 0 = 400
  · rw [if_pos e] at h; exact absurd h (by show ¬ (5 : Int) ≤ 0; decide)
  · rw [if_neg e]
theorem insC_120 {μ : MU} {c : Int} {w : Mm} : m_insC μ c w 120 μ.1 0 = w 120 μ.1 0 + 1 ∧ m_insC μ c w 212 0 (w 120 μ.1 0) = 0 + 8 * w 207 0 0 + 4096 * 1 := by
  have e : m_opens 0 (w 207 0 0) 1 (up w 240 0 0 c) 120 μ.1 0 = w 120 μ.1 0 := by rw [opens_at (by decide), up_k _ (by decide)]
  unfold m_insC m_pt m_ins m_step
  constructor
  · rw [up_k _ (by decide), up_k _ (by decide), poolN_at (by decide), fl_at (by decide), up_s, e]
  · rw [up_k _ (by decide), up_k _ (by decide), poolN_at (by decide), fl_at (by decide), up_k _ (show (212 : Nat) ≠ 120 by decide), e, up_s]
theorem cal_typed {μ : MU} {S P M c : Int} {w : Mm} (h : RB μ S P M w) (hc : 0 ≤ c ∧ c ≤ 126) (hS : S ≤ 29000) (hP : P ≤ 510000) (h0 : (m_cal μ 0 c 0 2 w).2 139 μ.1 0 ≤ 0) (h1 : (m_cal μ 0 c 0 2 w).2 124 μ.1 0 > w 124 μ.1 0) (h2 : (m_cal μ 0 c 0 2 w).2 220 0 ((m_cal μ 0 c 0 2 w).2 126 μ.1 0) = 1) :
    1 ≤ (m_cal μ 0 c 0 2 w).2 120 μ.1 0 ∧ 0 ≤ (m_cal μ 0 c 0 2 w).2 212 0 ((m_cal μ 0 c 0 2 w).2 120 μ.1 0 - 1) ∧ (m_cal μ 0 c 0 2 w).2 212 0 ((m_cal μ 0 c 0 2 w).2 120 μ.1 0 - 1) ≤ 4088 + 4096 * (m_cal μ 0 c 0 2 w).2 201 0 0 := by
  have hv : CV 0 c 0 := by unfold CV; omega
  obtain ⟨p1, p2, p3⟩ := cal_pre h
  obtain ⟨q1, q2, q3, q4, q5⟩ := cal_does h hv (by decide)
  obtain ⟨f1, f2, f3, f4, f5⟩ := p1.f
  have hz := h.2.2.1
  unfold bZ at hz
  have hL := LO.does p1 hv (by decide)
  have lA := AP.ntf (μ := μ) q2.2.2.2.2.1
  obtain ⟨n1, n2, n3, n4⟩ := ntf_rk (μ := μ) q1 q2
  obtain ⟨m1, m2, m3, m4, m5⟩ := n2.f
  unfold m_cal at h0 h1 h2 ⊢
  split at h0
  · next hf => exact absurd h0 (by show ¬ up (m_saves μ 2 w) 139 μ.1 0 2 139 μ.1 0 ≤ 0; rw [up_s]; decide)
  · next hf =>
    rw [if_neg hf] at h1 h2 ⊢
    unfold m_ca1 at h0 h1 h2 ⊢
    by_cases hp : (m_does μ 0 c 0 (m_saves μ 2 w)).1 > 0
    · rw [if_pos hp] at h0; exact absurd h0 (by show ¬ up _ 139 μ.1 0 2 139 μ.1 0 ≤ 0; rw [up_s]; decide)
    · rw [if_neg hp] at h0 h1 h2 ⊢
      have hI := ins0 (μ := μ) (c := c) (w := m_saves μ 2 w) (by omega)
      have i1 := insC_120 (μ := μ) (c := c) (w := m_saves μ 2 w)
      have e120 := p3 120 μ.1 0 (by decide)
      have e122 : (m_does μ 0 c 0 (m_saves μ 2 w)).2 122 μ.1 0 = w 122 μ.1 0 := by rw [hL.2 _ _ _ (by decide) (by decide), p3 _ _ _ (by decide)]
      have e124 : (m_does μ 0 c 0 (m_saves μ 2 w)).2 124 μ.1 0 = w 124 μ.1 0 := by rw [hL.2 _ _ _ (by decide) (by decide), p3 _ _ _ (by decide)]
      have e132 : (m_does μ 0 c 0 (m_saves μ 2 w)).2 132 μ.1 0 = w 132 μ.1 0 := by rw [hL.2 _ _ _ (by decide) (by decide), p3 _ _ _ (by decide)]
      rw [show m_insC μ c (m_saves μ 2 w) = (m_does μ 0 c 0 (m_saves μ 2 w)).2 by rw [hI], e120] at i1
      have q201 : (m_does μ 0 c 0 (m_saves μ 2 w)).2 201 0 0 ≥ 1 := by
        rw [hI]; show m_insC μ c (m_saves μ 2 w) 201 0 0 ≥ 1
        unfold m_insC m_pt
        rw [up_k _ (by decide), up_k _ (by decide), ins_len, up_k _ (by decide)]; omega
      generalize (m_does μ 0 c 0 (m_saves μ 2 w)).2 = p2 at *
      unfold m_ca2 at h0 h1 h2 ⊢
      rcases ends_cases μ 0 p2 with ⟨e, hc1⟩ | ⟨e, hc1, hc2, hc3⟩ | ⟨e, hc1, hc2, hc3⟩
      · rw [e] at h1
        exfalso
        rw [if_neg (by simp)] at h1
        have : m_ca3 μ 0 c 0 p2 124 μ.1 0 > w 124 μ.1 0 := h1
        unfold m_ca3 at this
        rw [rec_at (by decide), up_k _ (by decide), up_k _ (by decide), e124] at this
        omega
      · rw [e, if_pos rfl] at h0; exact absurd h0 (by show ¬ up _ 139 μ.1 0 2 139 μ.1 0 ≤ 0; rw [up_s]; decide)
      · rw [e, if_neg (by simp)] at h2 ⊢
        dsimp only at h2 ⊢
        unfold m_ca3 at h2 ⊢
        simp (disch := decide) only [rec_at, up_k] at h2 ⊢
        rw [mks_126.1, mks_220] at h2
        have n122 : (m_ntf μ p2).2 122 μ.1 0 = p2 122 μ.1 0 := n1.2 _ _ _ (by decide) (by decide) (by decide) (by decide) (by decide) (by decide)
        have n201 : (m_ntf μ p2).2 201 0 0 = p2 201 0 0 := n1.2 _ _ _ (by decide) (by decide) (by decide) (by decide) (by decide) (by decide)
        rw [mks_at (by decide), mks_at (by decide), mks_at (by decide)]
        have h122 := hz.2.2.2.2 (by omega)
        have hn : (m_ntf μ p2).2 120 μ.1 0 - 1 = w 120 μ.1 0 := by omega
        rw [hn, lA.2.2.1 _ (by omega) (by omega), i1.2]
        omega
theorem RB.tyv {μ : MU} {S P M v : Int} {w : Mm} (h : RB μ S P M w) (hy : 1 ≤ w 120 μ.1 0 ∧ 0 ≤ w 212 0 (w 120 μ.1 0 - 1) ∧ w 212 0 (w 120 μ.1 0 - 1) ≤ 4088 + 4096 * w 201 0 0) : RB μ S P M (up w 129 μ.1 0 v) := by
  refine ⟨h.1.up_o (by decide), h.2.1.up_o (by decide), ?_, ?_⟩
  · unfold bZ; simp (disch := decide) only [up_k]; exact h.2.2.1
  · unfold bY; simp (disch := decide) only [up_k]; exact fun _ => hy
theorem RBo_insert {μ : MU} {S P M : Int} {w : Mm} {c : Int} (h : RB μ S P M w) (hS : S ≤ 28900) (hP : P ≤ 500000) : RB μ (S + 56) (P + 600) (M + 1) (o_insert μ c w).2 := by
  have hcn := (h.2.1.2.2.2.2.2.2 4 (by decide) (by decide)).1
  unfold o_insert
  by_cases hc : isC c
  · rw [if_pos hc]
    have hc6 : 0 ≤ c ∧ c ≤ 126 := by unfold isC at hc; omega
    have hT : RB μ S P M (m_ti μ (isC c) w) := h.ti
    have key : RB μ (S + 56) (P + 600) (M + 1) (m_in2 μ c (w 124 μ.1 0) (m_cal μ 0 c 0 2 (m_ti μ (isC c) w)).2).2 := by
      have h1 := RB.cal (c := 0) (a := c) (b := 0) (sort := 2) hT (by unfold CV; omega) (by decide) (by omega) (by omega)
      unfold m_in2
      split
      · exact h1.mono (by omega) (by omega) (by omega)
      · next h0 =>
        refine RB.mono (RB.in3 (S := S + 10) (P := P + 20) (M := M + 1) ?_) (by omega) (by omega) (by omega)
        split
        · next hh =>
          have := cal_typed hT hc6 (by omega) (by omega) (by omega) (by rw [ti_at (c := 124) (by decide)]; exact hh.1) hh.2.1
          exact h1.tyv this
        · exact h1.ty
    split
    · next hty =>
      split
      · exact key
      · next hfl =>
        split
        · next hl =>
          have e129 : m_ti μ (isC c) w 129 μ.1 0 = m_ti μ (isC c) w 126 μ.1 0 ∧ m_ti μ (isC c) w 129 μ.1 0 ≠ -1 := by rw [ti_at (by decide), ti_at (by decide)]; exact ⟨hty.2.1, hty.2.2.1⟩
          obtain ⟨x1, x2, x3⟩ := RB.ext (c := c) hc6 (by rw [ti_at (by decide)]; exact hl) e129 hT (by omega) (by omega)
          have y133 := x2 133 μ.1 0 (by decide) (by decide) (by decide) (by decide) (by decide) (by decide) (by decide)
          have y236 := x2 236 0 4 (by decide) (by decide) (by decide) (by decide) (by decide) (by decide) (by decide)
          rw [ti_at (by decide)] at y133 y236
          clear hty e129
          unfold m_in1
          split
          · exact (x1.fld (by decide)).mono (by omega) (by omega) (by omega)
          · refine RB.mono (RB.in3 (RB.recd (x1.fld (by decide)) (by unfold CV; omega) ?_)) (by omega) (by omega) (by omega)
            rw [up_k _ (by decide), up_k _ (by decide), y133, y236]
            intro hr
            unfold m_full at hfl
            omega
        · exact key
    · exact key
  · rw [if_neg hc]; exact h.ti.mono (by omega) (by omega) (by omega)
theorem RBo_setBudget {μ : MU} {S P M : Int} {w : Mm} {c : Int} (h : RB μ S P M w) (hS : S ≤ 28900) (hP : P ≤ 500000) : RB μ (S + 56) (P + 600) (M + 1) (o_setBudget μ c w).2 := by
  unfold o_setBudget
  split
  · next hc =>
    refine RB.mono (S := S) (P := P) (M := M) ?_ (by omega) (by omega) (by omega)
    have h1 := h.th (k := 0)
    obtain ⟨k1, k2, k3, k4, k5, k6, k7⟩ := h1.2.1
    have e : ∀ c' a i, mkK c' = false → c' ≠ 128 → c' ≠ 129 → (m_mrgs μ (up (up (m_th μ 0 w) 128 μ.1 0 c) 129 μ.1 0 (-1))).2 c' a i = m_th μ 0 w c' a i := fun c' a i x y z => by
      unfold m_mrgs; rw [mrg_at x, up_k _ z, up_k _ y]
    have e2 : ∀ c' a i, c' ≠ 125 → c' < 200 → c' ≠ 128 → c' ≠ 129 → (m_mrgs μ (up (up (m_th μ 0 w) 128 μ.1 0 c) 129 μ.1 0 (-1))).2 c' a i = m_th μ 0 w c' a i := fun c' a i x x2 y z => by
      unfold m_mrgs; rw [mrg_f ⟨x, x2⟩, up_k _ z, up_k _ y]
    refine ⟨h1.1.cong (fun c a i _ _ _ => e _ _ _ (decide_eq_false (by omega)) (by omega) (by omega)) (e _ _ _ (by decide) (by decide) (by decide)) (e _ _ _ (by decide) (by decide) (by decide)), ⟨k1.cong fun c a i _ _ _ _ _ => e _ _ _ (decide_eq_false (by omega)) (by omega) (by omega), k2.cong fun c a i _ _ _ _ _ => e _ _ _ (decide_eq_false (by omega)) (by omega) (by omega), k3.cong fun c a i _ _ => e _ _ _ (decide_eq_false (by omega)) (by omega) (by omega), TB.mrg _ _ _ (k4.bud hc), k5.cong fun i => e _ _ _ (by decide) (by decide) (by decide), k6.cong fun i => e _ _ _ (by decide) (by decide) (by decide), k7.cong (fun i => e _ _ _ (by decide) (by decide) (by decide)) (fun i => e _ _ _ (by decide) (by decide) (by decide))⟩, ?_, ?_⟩
    · have := h1.2.2.1
      unfold bZ at this ⊢
      rw [e2 132 _ _ (by decide) (by decide) (by decide) (by decide), e2 133 _ _ (by decide) (by decide) (by decide) (by decide), e2 122 _ _ (by decide) (by decide) (by decide) (by decide), e2 120 _ _ (by decide) (by decide) (by decide) (by decide), e2 123 _ _ (by decide) (by decide) (by decide) (by decide), e2 121 _ _ (by decide) (by decide) (by decide) (by decide), e2 130 _ _ (by decide) (by decide) (by decide) (by decide)]
      exact this
    · unfold bY m_mrgs
      rw [mrg_at (c := 129) (by decide), up_s]; intro hh; exact absurd rfl hh
  · exact h.th.mono (by omega) (by omega) (by omega)
theorem RBo_stop {μ : MU} {S P M : Int} {w : Mm} (h : RB μ S P M w) (hS : S ≤ 28900) (hP : P ≤ 500000) : RB μ (S + 56) (P + 600) (M + 1) (o_stop μ w).2 := by
  unfold o_stop
  have hz0 := h.2.2.1
  unfold bZ at hz0
  split
  · exact h.th.mono (by omega) (by omega) (by omega)
  · next h133 =>
    refine RB.mono (S := S) (P := P) (M := M) ?_ (by omega) (by omega) (by omega)
    have h1 := h.th (k := 0)
    obtain ⟨k1, k2, k3, k4, k5, k6, k7⟩ := h1.2.1
    unfold m_st1
    dsimp only
    have e : ∀ c a i, c ≠ 235 → c ≠ 236 → c ≠ 133 → c ≠ 129 → up (up (m_stW μ (w 133 μ.1 0) (m_th μ 0 w)) 133 μ.1 0 (-1)) 129 μ.1 0 (-1) c a i = m_th μ 0 w c a i := fun c a i x1 x2 x3 x4 => by
      unfold m_stW; rw [up_k _ x4, up_k _ x3, up_k _ x2, fl_at x1]
    refine ⟨h1.1.cong (fun c a i _ _ _ => e _ _ _ (by omega) (by omega) (by omega) (by omega)) (e _ _ _ (by decide) (by decide) (by decide) (by decide)) (e _ _ _ (by decide) (by decide) (by decide) (by decide)), ⟨k1.cong fun c a i _ _ _ _ _ => e _ _ _ (by omega) (by omega) (by omega) (by omega), k2.cong fun c a i _ _ _ _ _ => e _ _ _ (by omega) (by omega) (by omega) (by omega), k3.cong fun c a i _ _ => e _ _ _ (by omega) (by omega) (by omega) (by omega), k4.cong fun c a i _ => e _ _ _ (by omega) (by omega) (by omega) (by omega), k5.cong fun i => e _ _ _ (by decide) (by decide) (by decide) (by decide), k6.cong fun i => e _ _ _ (by decide) (by decide) (by decide) (by decide), fun m m0 m5 => ?_⟩, ?_, ?_⟩
    · have h4 := k7 4 (by decide) (by decide)
      have hm := k7 m m0 m5
      unfold m_stW
      simp (disch := decide) only [up_k, up_ii, fl_at]
      by_cases cm : m = w 133 μ.1 0
      · rw [if_pos cm]
        refine ⟨h4.1, fun k a b => ?_⟩
        have hk := h4.2 k a b
        simp only [fl, true_and]
        rw [if_pos (by omega), if_pos (by omega), if_pos (by omega)]
        rw [show 192 + (48 * m + 3 * k - 48 * w 133 μ.1 0) = 48 * 4 + 3 * k by omega, show 192 + (48 * m + 3 * k + 1 - 48 * w 133 μ.1 0) = 48 * 4 + 3 * k + 1 by omega, show 192 + (48 * m + 3 * k + 2 - 48 * w 133 μ.1 0) = 48 * 4 + 3 * k + 2 by omega]
        exact hk
      · rw [if_neg cm]
        refine ⟨hm.1, fun k a b => ?_⟩
        simp only [fl, true_and]
        rw [if_neg (by omega), if_neg (by omega), if_neg (by omega)]
        exact hm.2 k a b
    · have := h1.2.2.1
      unfold bZ at this ⊢
      rw [e 132 _ _ (by decide) (by decide) (by decide) (by decide), e 122 _ _ (by decide) (by decide) (by decide) (by decide), e 120 _ _ (by decide) (by decide) (by decide) (by decide), e 123 _ _ (by decide) (by decide) (by decide) (by decide), e 121 _ _ (by decide) (by decide) (by decide) (by decide), e 130 _ _ (by decide) (by decide) (by decide) (by decide), up_k _ (show (133 : Nat) ≠ 129 by decide), up_s]
      exact ⟨this.1, by decide, this.2.2⟩
    · unfold bY; rw [up_s]; intro hh; exact absurd rfl hh
/-- a call that ends with a node: what its end leaves -/
theorem fin_ok {μ : MU} {S P M : Int} {W : Mm} (hB : LB μ S P W) (hK : RK μ S P M W) (hz : W 122 μ.1 0 ≤ W 120 μ.1 0) (hz2 : W 123 μ.1 0 ≤ W 121 μ.1 0) (h132 : W 132 μ.1 0 = 0 ∨ W 132 μ.1 0 = 1) (h133 : -1 ≤ W 133 μ.1 0 ∧ W 133 μ.1 0 ≤ 3) (h130 : 0 ≤ W 130 μ.1 0 ∧ W 130 μ.1 0 ≤ 1200) (g : Int) (hg : 0 ≤ g ∧ g ≤ 1) (hS : S ≤ 29900) (hP : P ≤ 520000) :
    ((m_ends μ g W).1 ≠ 0 → RB μ (S + 8) P (M + 1) (up (m_ends μ g W).2 129 μ.1 0 (-1))) ∧
    ((m_ends μ g W).1 = 0 → W 132 μ.1 0 = 0 ∧ (m_ends μ g W).2 120 μ.1 0 = W 214 0 2 ∧ (m_ends μ g W).2 121 μ.1 0 = W 215 0 2 ∧ (m_ends μ g W).2 122 μ.1 0 = W 122 μ.1 0 ∧ (m_ends μ g W).2 123 μ.1 0 = W 123 μ.1 0 ∧ (m_ends μ g W).2 201 0 0 = W 201 0 2 ∧ ∀ i, 0 ≤ i → i < W 120 μ.1 0 → (m_ends μ g W).2 212 0 i = W 212 0 i) := by
  obtain ⟨e1, e2, e3⟩ := ends_ok (g := g) hB hK hz hg hS hP
  obtain ⟨n1, n2, n3, n4⟩ := ntf_rk (μ := μ) hB hK
  have lA := AP.ntf (μ := μ) hK.2.2.2.2.1
  have e132 := e3 132 μ.1 0 (by decide)
  have e133 := e3 133 μ.1 0 (by decide)
  have e130 := e3 130 μ.1 0 (by decide)
  have nN : ∀ c a i, c ≠ 200 → c ≠ 212 → c ≠ 120 → c ≠ 232 → c ≠ 233 → c ≠ 234 → (m_ntf μ W).2 c a i = W c a i := n1.2
  refine ⟨fun hs => ⟨e1.up_o (by decide), e2.up_o (by decide), ?_, ?_⟩, fun hf => ?_⟩
  · unfold bZ
    simp (disch := decide) only [up_k]
    rw [e132, e133, e130]
    rcases ends_cases μ g W with ⟨e, hc1⟩ | ⟨e, hc1, hc2, hc3⟩ | ⟨e, hc1, hc2, hc3⟩
    · rw [e]; dsimp only; exact ⟨h132, h133, ⟨hz, hz2⟩, h130, fun x => by omega⟩
    · rw [e] at hs; exact absurd rfl hs
    · rw [e]; dsimp only
      rw [mks_122.1, mks_122.2, mks_at (by decide), mks_at (by decide)]
      exact ⟨h132, h133, ⟨Int.le_refl _, Int.le_refl _⟩, h130, fun _ => rfl⟩
  · unfold bY; rw [up_s]; intro hh; exact absurd rfl hh
  · rcases ends_cases μ g W with ⟨e, hc1⟩ | ⟨e, hc1, hc2, hc3⟩ | ⟨e, hc1, hc2, hc3⟩
    · rw [e] at hf; exact absurd hf (by show ¬ (1 : Int) = 0; decide)
    · rw [e]; dsimp only
      refine ⟨by omega, ?_, ?_, ?_, ?_, ?_, fun i a b => ?_⟩
      · rw [rest_120.1, nN _ _ _ (by decide) (by decide) (by decide) (by decide) (by decide) (by decide)]
      · rw [rest_120.2, nN _ _ _ (by decide) (by decide) (by decide) (by decide) (by decide) (by decide)]
      · rw [rest_at (by decide), nN _ _ _ (by decide) (by decide) (by decide) (by decide) (by decide) (by decide)]
      · rw [rest_at (by decide), nN _ _ _ (by decide) (by decide) (by decide) (by decide) (by decide) (by decide)]
      · rw [rest_201, if_pos rfl, nN _ _ _ (by decide) (by decide) (by decide) (by decide) (by decide) (by decide)]
      · rw [rest_at (by decide), lA.2.2.1 i a b]
    · rw [e] at hf; exact absurd hf (by show ¬ (1 : Int) = 0; decide)
theorem RBo_close {μ : MU} {S P M : Int} {w : Mm} (h : RB μ S P M w) (hS : S ≤ 28900) (hP : P ≤ 500000) : RB μ (S + 56) (P + 600) (M + 1) (o_close μ w).2 := by
  have hz := h.2.2.1
  have hy := h.2.2.2
  unfold bZ at hz
  unfold bY at hy
  unfold o_close
  split
  · exact h.th.mono (by omega) (by omega) (by omega)
  · next hg =>
    obtain ⟨q1, q2, q3⟩ := clW_ok h
    have hX : RB μ S P M (up w 139 μ.1 0 (1 - w 132 μ.1 0)) := h.fld (by decide)
    have eW : ∀ c a i, c < 200 ∨ (210 < c ∧ c ≠ 214 ∧ c ≠ 215) → c ≠ 132 → c ≠ 139 → m_clW μ w c a i = w c a i := fun c a i x y z => by
      unfold m_clW; rw [up_k _ y, saves_at x, up_k _ z]
    have e132 : m_clW μ w 132 μ.1 0 = 0 := by unfold m_clW; rw [up_s]
    have e122 := eW 122 μ.1 0 (by decide) (by decide) (by decide)
    have e123 := eW 123 μ.1 0 (by decide) (by decide) (by decide)
    have e120 := eW 120 μ.1 0 (by decide) (by decide) (by decide)
    have e121 := eW 121 μ.1 0 (by decide) (by decide) (by decide)
    have e133 := eW 133 μ.1 0 (by decide) (by decide) (by decide)
    have e130 := eW 130 μ.1 0 (by decide) (by decide) (by decide)
    have e129 := eW 129 μ.1 0 (by decide) (by decide) (by decide)
    have e214 : m_clW μ w 214 0 2 = w 120 μ.1 0 := by unfold m_clW; rw [up_k _ (by decide), saves_214.1, up_k _ (by decide)]
    have e215 : m_clW μ w 215 0 2 = w 121 μ.1 0 := by unfold m_clW; rw [up_k _ (by decide), saves_214.2, up_k _ (by decide)]
    have e201 : m_clW μ w 201 0 2 = w 201 0 0 := by unfold m_clW; rw [up_k _ (by decide), saves_201, if_pos rfl, up_k _ (by decide)]
    obtain ⟨g1, g2⟩ := fin_ok q1 q2 q3 (by omega) (Or.inl e132) (by omega) (by omega) 0 (by decide) (by omega) (by omega)
    obtain ⟨x1, x2, x3⟩ := ends_ok (g := 0) q1 q2 q3 (by decide) (by omega) (by omega)
    unfold m_cl1
    split
    · next hf =>
      obtain ⟨b0, b1, b2, b3, b4, b5, b6⟩ := g2 hf
      have y133 := x3 133 μ.1 0 (by decide)
      have y130 := x3 130 μ.1 0 (by decide)
      have y129 := x3 129 μ.1 0 (by decide)
      refine RB.mono (S := S + 8) (P := P) (M := M + 1) (RB.fld ⟨x1.up_o (by decide), x2.up_o (by decide), ?_, ?_⟩ (by decide)) (by omega) (by omega) (by omega)
      · unfold bZ
        simp (disch := decide) only [up_k, up_s]
        rw [b1, b2, b3, b4, y133, y130, e214, e215, e122, e123, e133, e130]
        exact ⟨Or.inr (by trivial), hz.2.1, hz.2.2.1, hz.2.2.2.1, fun x => absurd x (by decide)⟩
      · unfold bY
        simp (disch := decide) only [up_k]
        rw [y129, e129, b1, e214, b5, e201]
        intro hh
        have h3 := hy hh
        rw [b6 _ (by omega) (by omega), eW _ _ _ (by decide) (by decide) (by decide)]
        exact h3
    · next hf => exact (g1 hf).mono (by omega) (by omega) (by omega)
theorem RBo_track {μ : MU} {S P M : Int} {w : Mm} {s : Int} (h : RB μ S P M w) (hS : S ≤ 28900) (hP : P ≤ 500000) : RB μ (S + 56) (P + 600) (M + 1) (o_track μ s w) := by
  have hz := h.2.2.1
  have hy := h.2.2.2
  unfold bZ at hz
  unfold bY at hy
  unfold o_track
  split
  · next hs =>
    split
    · exact h.th.mono (by omega) (by omega) (by omega)
    · next hg =>
      obtain ⟨q0, q1, q2, q3⟩ := trW_ok hs h
      have eW : ∀ c a i, c < 200 ∨ (211 < c ∧ c ≠ 214 ∧ c ≠ 215) → c ≠ 139 → c ≠ 212 → c ≠ 120 → c ≠ 213 → c ≠ 121 → m_trW μ s w c a i = w c a i := fun c a i x y x1 x2 x3 x4 => by
        unfold m_trW; rw [tells_at ⟨x1, x2, x3, x4⟩, up_k _ (by omega), saves_at (by omega), th_at y]
      have e132 := eW 132 μ.1 0 (by decide) (by decide) (by decide) (by decide) (by decide) (by decide)
      have e122 := eW 122 μ.1 0 (by decide) (by decide) (by decide) (by decide) (by decide) (by decide)
      have e123 := eW 123 μ.1 0 (by decide) (by decide) (by decide) (by decide) (by decide) (by decide)
      have e133 := eW 133 μ.1 0 (by decide) (by decide) (by decide) (by decide) (by decide) (by decide)
      have e130 := eW 130 μ.1 0 (by decide) (by decide) (by decide) (by decide) (by decide) (by decide)
      have e129 := eW 129 μ.1 0 (by decide) (by decide) (by decide) (by decide) (by decide) (by decide)
      have e120 : m_trW μ s w 120 μ.1 0 = w 120 μ.1 0 + 1 := by unfold m_trW; rw [tells_120, up_k _ (by decide), saves_at (by decide), th_at (by decide)]
      have e214 : m_trW μ s w 214 0 2 = w 120 μ.1 0 := by unfold m_trW; rw [tells_at (by decide), up_k _ (by decide), saves_214.1, th_at (by decide)]
      have e215 : m_trW μ s w 215 0 2 = w 121 μ.1 0 := by unfold m_trW; rw [tells_at (by decide), up_k _ (by decide), saves_214.2, th_at (by decide)]
      have e201 : m_trW μ s w 201 0 2 = w 201 0 0 := by unfold m_trW; rw [tells_at (by decide), up_k _ (by decide), saves_201, if_pos rfl, th_at (by decide)]
      have aT : AP μ (up (m_saves μ 2 (m_th μ 0 w)) 211 0 s 1) (m_trW μ s w) := by
        have key : ∀ (n : Nat) (b w1 w2 : Mm), AP μ w1 w2 → AP μ w1 (m_tel μ s b n w2) := fun n b w1 => by
          induction n with
          | zero => exact fun w2 h => h
          | succ n ih => exact fun w2 h => AP.pEn (AP.pool (ih w2 h))
        exact key _ _ _ _ (AP.pool (AP.step AP.r))
      have e121 : w 121 μ.1 0 ≤ m_trW μ s w 121 μ.1 0 := by
        have := aT.2.1
        rw [up_k _ (by decide), saves_at (by decide), th_at (by decide)] at this
        exact this
      have e212 : ∀ i, 0 ≤ i → i < w 120 μ.1 0 → m_trW μ s w 212 0 i = w 212 0 i := fun i a b => by
        rw [aT.2.2.1 i a (by rw [up_k _ (by decide), saves_at (by decide), th_at (by decide)]; exact b), up_k _ (by decide), saves_at (by decide), th_at (by decide)]
      have q2' := q2.mono (S' := S + 1) (P' := P + 85) (by omega) (by omega)
      obtain ⟨g1, g2⟩ := fin_ok q1 q2' q3 (by omega) (by omega) (by omega) (by omega) 0 (by decide) (by omega) (by omega)
      obtain ⟨x1, x2, x3⟩ := ends_ok (g := 0) q1 q2' q3 (by decide) (by omega) (by omega)
      unfold m_tr1
      split
      · next hf =>
        obtain ⟨b0, b1, b2, b3, b4, b5, b6⟩ := g2 hf
        have y132 := x3 132 μ.1 0 (by decide)
        have y133 := x3 133 μ.1 0 (by decide)
        have y130 := x3 130 μ.1 0 (by decide)
        have y129 := x3 129 μ.1 0 (by decide)
        refine RB.mono (S := S + 1 + 8) (P := P + 85) (M := M + 1) (RB.fld ⟨x1.tr (Or.inl rfl), x2.up_o (by decide), ?_, ?_⟩ (by decide)) (by omega) (by omega) (by omega)
        · unfold bZ
          simp (disch := decide) only [up_k, up_s]
          rw [b1, b2, b3, b4, y132, y133, y130, e214, e215, e122, e123, e133, e130, e132]
          exact hz
        · unfold bY
          simp (disch := decide) only [up_k]
          rw [y129, e129, b1, e214, b5, e201]
          intro hh
          have h3 := hy hh
          rw [b6 _ (by omega) (by omega), e212 _ (by omega) (by omega)]
          exact h3
      · next hf => exact (g1 hf).mono (by omega) (by omega) (by omega)
  · exact h.th.mono (by omega) (by omega) (by omega)
theorem RBo_run {μ : MU} {S P M : Int} {w : Mm} {m k : Int} (h : RB μ S P M w) (hS : S ≤ 28900) (hP : P ≤ 500000) : RB μ (S + 56) (P + 600) (M + 1) (o_run μ m k w).2 := by
  have hz := h.2.2.1
  have hy := h.2.2.2
  have hcn := (h.2.1.2.2.2.2.2.2 4 (by decide) (by decide)).1
  unfold bZ at hz
  unfold bY at hy
  unfold o_run
  split
  · next hm =>
    split
    · next hk =>
      split
      · exact h.th.mono (by omega) (by omega) (by omega)
      · next hfl =>
        obtain ⟨r1, r2, r3, r4⟩ := rnW_ok h hm hk
        have eW : ∀ c a i, c < 200 ∨ (210 < c ∧ c ≠ 214 ∧ c ≠ 215) → c ≠ 139 → m_rnW μ w c a i = w c a i := fun c a i x y => by
          unfold m_rnW; rw [saves_at x, saves_at x, th_at y]
        have z0 : m_rnW μ w 122 μ.1 0 ≤ m_rnW μ w 120 μ.1 0 := by rw [eW _ _ _ (by decide) (by decide), eW _ _ _ (by decide) (by decide)]; exact hz.2.2.1.1
        obtain ⟨g1, g2, g3, g4, g5, g6, g7, g8, g9, g10⟩ := gen_ok r4 z0
        have a121 : m_rnW μ w 121 μ.1 0 ≤ (m_gen μ (m_grR μ m k (m_rnW μ w))).2 121 μ.1 0 := by
          unfold m_gen
          split
          · dsimp only; rw [rest_120.2]; exact r4.2.1.2.2.2.2.2
          · exact r4.2.1.2.2.2.1.2.1
        have v132 : (m_gen μ (m_grR μ m k (m_rnW μ w))).2 132 μ.1 0 = w 132 μ.1 0 := by rw [g4 _ _ _ (by decide), eW _ _ _ (by decide) (by decide)]
        have v133 : (m_gen μ (m_grR μ m k (m_rnW μ w))).2 133 μ.1 0 = w 133 μ.1 0 := by rw [g4 _ _ _ (by decide), eW _ _ _ (by decide) (by decide)]
        have v130 : (m_gen μ (m_grR μ m k (m_rnW μ w))).2 130 μ.1 0 = w 130 μ.1 0 := by rw [g4 _ _ _ (by decide), eW _ _ _ (by decide) (by decide)]
        have v129 : (m_gen μ (m_grR μ m k (m_rnW μ w))).2 129 μ.1 0 = w 129 μ.1 0 := by rw [g4 _ _ _ (by decide), eW _ _ _ (by decide) (by decide)]
        have v122 : (m_gen μ (m_grR μ m k (m_rnW μ w))).2 122 μ.1 0 = w 122 μ.1 0 := by rw [g4 _ _ _ (by decide), eW _ _ _ (by decide) (by decide)]
        have v123 : (m_gen μ (m_grR μ m k (m_rnW μ w))).2 123 μ.1 0 = w 123 μ.1 0 := by rw [g4 _ _ _ (by decide), eW _ _ _ (by decide) (by decide)]
        have v236 : (m_gen μ (m_grR μ m k (m_rnW μ w))).2 236 0 4 = w 236 0 4 := by rw [g4 _ _ _ (by decide), eW _ _ _ (by decide) (by decide)]
        have c120 := eW 120 μ.1 0 (by decide) (by decide)
        have c121 := eW 121 μ.1 0 (by decide) (by decide)
        have v214 : (m_gen μ (m_grR μ m k (m_rnW μ w))).2 214 0 2 = w 120 μ.1 0 := by
          rw [g8]; unfold m_rnW; rw [saves_eq, up_k _ (by decide), up_i _ _ _ _ _ _ (by decide), cpy_at (by decide), saves_214.1, th_at (by decide)]
        have v215 : (m_gen μ (m_grR μ m k (m_rnW μ w))).2 215 0 2 = w 121 μ.1 0 := by
          rw [g9]; unfold m_rnW; rw [saves_eq, up_i _ _ _ _ _ _ (by decide), up_k _ (by decide), cpy_at (by decide), saves_214.2, th_at (by decide)]
        have v201 : (m_gen μ (m_grR μ m k (m_rnW μ w))).2 201 0 2 = w 201 0 0 := by
          rw [g10]; unfold m_rnW; rw [saves_201, if_neg (by decide), saves_201, if_pos rfl, th_at (by decide)]
        have v212 : ∀ i, 0 ≤ i → i < w 120 μ.1 0 → (m_gen μ (m_grR μ m k (m_rnW μ w))).2 212 0 i = w 212 0 i := fun i a b => by
          rw [g7 i a (by omega), eW _ _ _ (by decide) (by decide)]
        unfold m_rn1
        generalize m_gen μ (m_grR μ m k (m_rnW μ w)) = Q at *
        obtain ⟨f1, f2⟩ := fin_ok g1 g2 g3 (by omega) (by omega) (by omega) (by omega) 0 (by decide) (by omega) (by omega)
        obtain ⟨x1, x2, x3⟩ := ends_ok (g := 0) g1 g2 g3 (by decide) (by omega) (by omega)
        unfold m_rn2
        split
        · next hf =>
          obtain ⟨b0, b1, b2, b3, b4, b5, b6⟩ := f2 hf
          have y132 := x3 132 μ.1 0 (by decide)
          have y133 := x3 133 μ.1 0 (by decide)
          have y130 := x3 130 μ.1 0 (by decide)
          have y129 := x3 129 μ.1 0 (by decide)
          refine RB.mono (S := S + 48 + 8) (P := P + 480) (M := M + 1) (RB.fld (RB.fld (RB.fld ⟨x1, x2, ?_, ?_⟩ (by decide)) (by decide)) (by decide)) (by omega) (by omega) (by omega)
          · unfold bZ
            rw [b1, b2, b3, b4, y132, y133, y130, v214, v215, v122, v123, v133, v130, v132]
            exact hz
          · unfold bY
            rw [y129, v129, b1, v214, b5, v201]
            intro hh
            have h3 := hy hh
            rw [b6 _ (by omega) (by omega), v212 _ (by omega) (by omega)]
            exact h3
        · next hf =>
          refine RB.mono (RB.recd (f1 hf) (by unfold CV; omega) ?_) (by omega) (by omega) (by omega)
          rw [up_k _ (by decide), up_k _ (by decide), x3 133 _ _ (by decide), x3 236 _ _ (by decide), v133, v236]
          intro hr
          unfold m_full at hfl
          omega
    · exact h.th.mono (by omega) (by omega) (by omega)
  · exact h.th.mono (by omega) (by omega) (by omega)
