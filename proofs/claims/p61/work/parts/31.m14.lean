abbrev isLt (c : Int) : Prop := (48 ≤ c ∧ c ≤ 57) ∨ (65 ≤ c ∧ c ≤ 90) ∨ (97 ≤ c ∧ c ≤ 122)
abbrev m_cty (μ : MU) (c : Int) (w : Mm) : Prop := w 132 μ.1 0 = 0 ∧ w 129 μ.1 0 = w 126 μ.1 0 ∧ w 129 μ.1 0 ≠ -1 ∧ w 130 μ.1 0 < 4 ∧ bi (isLt c) = bi (isLt (w 131 μ.1 0))
def m_ex1 (μ : MU) (c : Int) (w : Mm) : Mm := m_pool μ c (up (up (up (m_opens 0 (w 207 0 0) 1 w) 200 0 (w 207 0 0) c) 207 0 0 (w 207 0 0 + 1)) 212 0 (w 120 μ.1 0 - 1) (w 212 0 (w 120 μ.1 0 - 1) + 4096))
def m_ex2 (μ : MU) (had : Int) (w : Mm) : Mm := up (up (up (up (up w 220 0 (w 126 μ.1 0) (w 220 0 (w 126 μ.1 0) + (w 120 μ.1 0 - had))) 224 0 (w 126 μ.1 0) (w 207 0 0)) 122 μ.1 0 (w 120 μ.1 0)) 123 μ.1 0 (w 121 μ.1 0)) 129 μ.1 0 (if w 120 μ.1 0 = had then w 126 μ.1 0 else -1)
def m_ex3 (μ : MU) (last : Int) (w : Mm) : Mm := up w 212 0 (w 120 μ.1 0 - 1) last
def m_ex4 (μ : MU) (had last : Int) (q : Int × Mm) : Int × Mm := if q.1 = 0 then (0, m_ex3 μ last (m_rest μ 2 1 q.2)) else (1, m_ex2 μ had q.2)
def m_ext (μ : MU) (c : Int) (w : Mm) : Int × Mm := m_ex4 μ (m_saves μ 2 w 120 μ.1 0) (m_saves μ 2 w 212 0 (m_saves μ 2 w 120 μ.1 0 - 1)) (m_ntf μ (m_ex1 μ c (m_saves μ 2 w)))
theorem LB.ex1 {μ : MU} {S P c : Int} {w : Mm} (h : LB μ S P w) (hc : 0 ≤ c ∧ c ≤ 126) (hl : w 201 0 0 < 400) : LB μ S (P + 1) (m_ex1 μ c w) := by
  obtain ⟨f1, f2, f3, f4, f5⟩ := h.f
  have h1 := h.w.opens (q := w 207 0 0) (k := 1) (by omega) (by omega)
  have h2 := h1.txt (lo := w 207 0 0) (n := 1) (f := fun _ => c) (fun _ _ _ => hc)
  rw [← up_fl1] at h2
  refine LB.pool (LB.up_o (h2.pt ?_) (by decide))
  have e1 : m_vF (up (m_opens 0 (w 207 0 0) 1 w) 200 0 (w 207 0 0) c) = m_vF (m_opens 0 (w 207 0 0) 1 w) := up_vF (by decide)
  have e2 : m_vT (up (m_opens 0 (w 207 0 0) 1 w) 200 0 (w 207 0 0) c) = m_vT (m_opens 0 (w 207 0 0) 1 w) := up_vT (by decide)
  rw [e1, e2, vF_opens (by omega) (by omega), vT_opens (by omega) (by omega), if_neg (by omega), if_pos (by omega)]
  omega
theorem LO.ex1 {μ : MU} {S P c : Int} {w : Mm} (h : LB μ S P w) (hl : w 201 0 0 < 400) : LO w (m_ex1 μ c w) := by
  obtain ⟨f1, f2, f3, f4, f5⟩ := h.f
  exact LO.pool (LO.u (LO.u (LO.u (LO.opens LO.r (by omega) (by omega)) (Or.inr ⟨by decide, by decide, by simp [st0]; omega⟩)) (Or.inr ⟨by decide, by decide, by decide⟩)) (Or.inl rfl))
theorem TB.ex2 {μ : MU} {M had : Int} {w : Mm} (h : TB μ M w) (h1 : 0 ≤ w 120 μ.1 0 - had ∧ w 120 μ.1 0 - had ≤ 8) (h2 : 0 ≤ w 120 μ.1 0 ∧ w 120 μ.1 0 ≤ 30000) (h3 : 0 ≤ w 121 μ.1 0 ∧ w 121 μ.1 0 ≤ 524288) (h7 : 0 ≤ w 207 0 0 ∧ w 207 0 0 ≤ 400) : TB μ (M + 1) (m_ex2 μ had w) := by
  obtain ⟨t1, t2, t3, t4, t5, t6, t7⟩ := h
  unfold m_ex2
  refine ⟨?_, ?_, ?_, ?_, ?_, ?_, ?_⟩
  · simp (disch := decide) only [up_k]; omega
  · simp (disch := decide) only [up_k]; exact t2
  · simp (disch := decide) only [up_k]; exact t3
  · simp (disch := decide) only [up_k]; exact t4
  · simp (disch := decide) only [up_k, up_s]; omega
  · simp (disch := decide) only [up_k, up_s]; omega
  · intro k k1 k2
    simp (disch := decide) only [up_k] at k2
    simp (disch := decide) only [up_k, up_ii]
    have hK := t7 k k1 k2
    have hC := t7 (w 126 μ.1 0) (by omega) (by omega)
    refine ⟨hK.1, hK.2.1, hK.2.2.1, hK.2.2.2.1, hK.2.2.2.2.1, hK.2.2.2.2.2.1, hK.2.2.2.2.2.2.1, ?_, ⟨by omega, ?_⟩, by omega⟩
    · split <;> omega
    · split <;> omega
theorem nice_120u {μ : MU} : ∀ (j : Nat) (d : Int) (w : Mm), (m_nice μ j d w).2 120 μ.1 0 ≤ w 120 μ.1 0 + j
  | 0, d, w => by show w 120 μ.1 0 ≤ w 120 μ.1 0 + 0; omega
  | j + 1, d, w => by
    unfold m_nice
    split
    · show w 120 μ.1 0 ≤ _; omega
    · split
      · dsimp only; rw [fl_at (by decide), up_k _ (by decide)]; omega
      · have := nice_120u (μ := μ) j (d + 1) (m_rep μ (m_pof (w 229 0 (m_ff w)) w) (w 230 0 (m_ff w)) (up w 233 0 d (m_ff w)))
        rw [rep_120, up_k _ (by decide)] at this
        omega
theorem ntf_120u {μ : MU} {w : Mm} (h : bPo w) : (m_ntf μ w).2 120 μ.1 0 ≤ w 120 μ.1 0 + 8 := by
  obtain ⟨g, _, h2, _⟩ := ntf_ok (μ := μ) h
  rw [h2]; dsimp only; rw [ux_k (by decide)]; exact nice_120u _ _ _
theorem RB.ext {μ : MU} {S P M c : Int} {w : Mm} (hc : 0 ≤ c ∧ c ≤ 126) (hl : w 201 0 0 < 400) (hty : w 129 μ.1 0 = w 126 μ.1 0 ∧ w 129 μ.1 0 ≠ -1) (hR0 : RB μ S P M w) (hS : S ≤ 28900) (hP : P ≤ 500000) : RB μ (S + 8) (P + 1) (M + 1) (m_ext μ c w).2 ∧ (∀ c' a i, enK c' = false → c' ≠ 129 → c' ≠ 214 → c' ≠ 215 → c' ≠ 213 → c' ≠ 240 → c' ≠ 136 → (m_ext μ c w).2 c' a i = w c' a i) ∧ ((m_ext μ c w).1 = 0 ∨ (m_ext μ c w).1 = 1) := by
  obtain ⟨p1, p2, p3⟩ := cal_pre hR0
  obtain ⟨f1, f2, f3, f4, f5⟩ := p1.f
  have hy0 := hR0.2.2.2
  unfold bY at hy0
  have hy := hy0 (by omega)
  have hz := hR0.2.2.1
  unfold bZ at hz
  have e201 : m_saves μ 2 w 201 0 0 = w 201 0 0 := by rw [saves_201, if_neg (by decide)]
  have e2012 : m_saves μ 2 w 201 0 2 = w 201 0 0 := by rw [saves_201, if_pos rfl]
  have h1 := p1.ex1 (c := c) hc (by omega)
  have hL := LO.ex1 (c := c) p1 (by omega)
  have h2 := (p2.lo hL).mono (Int.le_refl S) (show P ≤ P + 1 by omega)
  obtain ⟨n1, n2, n3, n4⟩ := ntf_rk (μ := μ) h1 h2
  obtain ⟨l1, l2, l3, l4, l5⟩ := n2.f
  have lA := AP.ntf (μ := μ) h2.2.2.2.2.1
  have a120 : m_ex1 μ c (m_saves μ 2 w) 120 μ.1 0 = w 120 μ.1 0 := by unfold m_ex1; rw [pool_at (by decide), up_k _ (by decide), up_k _ (by decide), up_k _ (by decide), opens_at (by decide), p3 _ _ _ (by decide)]
  have a212 : m_ex1 μ c (m_saves μ 2 w) 212 0 (w 120 μ.1 0 - 1) = w 212 0 (w 120 μ.1 0 - 1) + 4096 := by
    unfold m_ex1; rw [pool_at (by decide), p3 120 _ _ (by decide), up_s, p3 _ _ _ (by decide)]
  have a201 : m_ex1 μ c (m_saves μ 2 w) 201 0 0 = w 201 0 0 + 1 := by
    unfold m_ex1; rw [pool_at (by decide), up_k _ (by decide), up_k _ (by decide), up_k _ (by decide), opens_201, if_pos rfl, e201]
  have u120 := ntf_120u (μ := μ) h2.2.2.2.2.1
  rw [a120] at u120
  have s120 := p3 120 μ.1 0 (by decide)
  have s212 := p3 212 0 (w 120 μ.1 0 - 1) (by decide)
  have q : ∀ c' a i, enK c' = false → c' ≠ 214 → c' ≠ 215 → c' ≠ 213 → c' ≠ 240 → c' ≠ 136 → (m_ntf μ (m_ex1 μ c (m_saves μ 2 w))).2 c' a i = w c' a i := fun c' a i h x1 x2 x3 x4 x5 => by
    have h := of_decide_eq_false h
    rw [n1.2 _ _ _ (by omega) (by omega) (by omega) (by omega) (by omega) (by omega), hL.2 _ _ _ (by omega) (by unfold LOk; simp; omega), p3 _ _ _ (by omega)]
  have q122 : (m_ntf μ (m_ex1 μ c (m_saves μ 2 w))).2 122 μ.1 0 = w 122 μ.1 0 := by rw [n1.2 _ _ _ (by decide) (by decide) (by decide) (by decide) (by decide) (by decide), hL.2 _ _ _ (by decide) (by decide), p3 _ _ _ (by decide)]
  have q123 : (m_ntf μ (m_ex1 μ c (m_saves μ 2 w))).2 123 μ.1 0 = w 123 μ.1 0 := by rw [n1.2 _ _ _ (by decide) (by decide) (by decide) (by decide) (by decide) (by decide), hL.2 _ _ _ (by decide) (by decide), p3 _ _ _ (by decide)]
  have q214 : (m_ntf μ (m_ex1 μ c (m_saves μ 2 w))).2 214 0 2 = w 120 μ.1 0 := by rw [n1.2 _ _ _ (by decide) (by decide) (by decide) (by decide) (by decide) (by decide), hL.2 _ _ _ (by decide) (by decide), saves_214.1]
  have q215 : (m_ntf μ (m_ex1 μ c (m_saves μ 2 w))).2 215 0 2 = w 121 μ.1 0 := by rw [n1.2 _ _ _ (by decide) (by decide) (by decide) (by decide) (by decide) (by decide), hL.2 _ _ _ (by decide) (by decide), saves_214.2]
  have q2012 : (m_ntf μ (m_ex1 μ c (m_saves μ 2 w))).2 201 0 2 = w 201 0 0 := by rw [n1.2 _ _ _ (by decide) (by decide) (by decide) (by decide) (by decide) (by decide), hL.1 _ _ _ (by decide) (by decide) (by decide), e2012]
  have q2010 : (m_ntf μ (m_ex1 μ c (m_saves μ 2 w))).2 201 0 0 = w 201 0 0 + 1 := by rw [n1.2 _ _ _ (by decide) (by decide) (by decide) (by decide) (by decide) (by decide), a201]
  have b120 := lA.1
  have b121 := lA.2.1
  rw [a120] at b120
  have c121 : w 121 μ.1 0 ≤ m_ex1 μ c (m_saves μ 2 w) 121 μ.1 0 := by
    unfold m_ex1; rw [pool_n, up_k _ (by decide), up_k _ (by decide), up_k _ (by decide), opens_at (by decide), p3 _ _ _ (by decide)]; omega
  have q212 : w 120 μ.1 0 = (m_ntf μ (m_ex1 μ c (m_saves μ 2 w))).2 120 μ.1 0 → (m_ntf μ (m_ex1 μ c (m_saves μ 2 w))).2 212 0 ((m_ntf μ (m_ex1 μ c (m_saves μ 2 w))).2 120 μ.1 0 - 1) = w 212 0 (w 120 μ.1 0 - 1) + 4096 := fun e => by
    rw [← e, lA.2.2.1 _ (by omega) (by rw [a120]; omega), a212]
  unfold m_ext
  rw [s120, s212]
  generalize m_ntf μ (m_ex1 μ c (m_saves μ 2 w)) = Q at *
  obtain ⟨Q1, Q2⟩ := Q
  dsimp only at *
  unfold m_ex4
  dsimp only
  split
  · refine ⟨⟨(LB.up_o (LB.rest n2 n3.1) (by decide)).mono (by omega) (by omega), (((n3.rest (b := 2) (all := 1) (Or.inl rfl)).up_o (by decide)).nodes (by omega)).mono (by omega) (by omega), ?_, ?_⟩, fun c' a i h x1 x2 x3 x4 x5 x6 => ?_, Or.inl rfl⟩
    · unfold bZ m_ex3
      simp (disch := decide) only [up_k, rest_at]
      rw [rest_120.1, rest_120.2, q214, q215, q122, q123, q 132 _ _ (by decide) (by decide) (by decide) (by decide) (by decide) (by decide), q 133 _ _ (by decide) (by decide) (by decide) (by decide) (by decide) (by decide), q 130 _ _ (by decide) (by decide) (by decide) (by decide) (by decide) (by decide)]
      exact hz
    · unfold bY m_ex3
      simp (disch := decide) only [up_k]
      rw [rest_120.1, q214, up_s, rest_201, if_pos rfl, q2012]
      exact fun _ => ⟨hy.1, hy.2.1, hy.2.2⟩
    · have h' := of_decide_eq_false h
      show m_ex3 μ _ (m_rest μ 2 1 Q2) c' a i = w c' a i
      unfold m_ex3
      rw [up_k _ (by omega), rest_at (by omega)]
      exact q c' a i h x2 x3 x4 x5 x6
  · obtain ⟨k1, k2, k3, k4, k5, k6, k7⟩ := n3
    have eX : ∀ c' a i, c' ≠ 220 → c' ≠ 224 → c' ≠ 122 → c' ≠ 123 → c' ≠ 129 → m_ex2 μ (w 120 μ.1 0) Q2 c' a i = Q2 c' a i := fun c' a i x1 x2 x3 x4 x5 => by
      unfold m_ex2; rw [up_k _ x5, up_k _ x4, up_k _ x3, up_k _ x2, up_k _ x1]
    have hk : RK μ S (P + 1) (M + 1) (m_ex2 μ (w 120 μ.1 0) Q2) := ⟨k1.cong fun c a i _ _ _ _ _ => eX _ _ _ (by omega) (by omega) (by omega) (by omega) (by omega), k2.cong fun c a i _ _ _ _ _ => eX _ _ _ (by omega) (by omega) (by omega) (by omega) (by omega), k3.cong fun c a i _ _ => eX _ _ _ (by omega) (by omega) (by omega) (by omega) (by omega), k4.ex2 (by omega) (by omega) (by omega) (by omega), k5.cong fun i => eX _ _ _ (by decide) (by decide) (by decide) (by decide) (by decide), k6.cong fun i => eX _ _ _ (by decide) (by decide) (by decide) (by decide) (by decide), k7.cong (fun i => eX _ _ _ (by decide) (by decide) (by decide) (by decide) (by decide)) (fun i => eX _ _ _ (by decide) (by decide) (by decide) (by decide) (by decide))⟩
    have hl : LB μ (S + 8) (P + 1) (m_ex2 μ (w 120 μ.1 0) Q2) := n2.cong (fun c a i x y z => eX _ _ _ (by omega) (by omega) (by omega) (by omega) (by omega)) (eX _ _ _ (by decide) (by decide) (by decide) (by decide) (by decide)) (eX _ _ _ (by decide) (by decide) (by decide) (by decide) (by decide))
    refine ⟨⟨hl, hk.mono (by omega) (by omega), ?_, ?_⟩, fun c' a i h x1 x2 x3 x4 x5 x6 => ?_, by omega⟩
    · unfold bZ m_ex2
      simp (disch := decide) only [up_k, up_s]
      rw [q 132 _ _ (by decide) (by decide) (by decide) (by decide) (by decide) (by decide), q 133 _ _ (by decide) (by decide) (by decide) (by decide) (by decide) (by decide), q 130 _ _ (by decide) (by decide) (by decide) (by decide) (by decide) (by decide)]
      exact ⟨hz.1, hz.2.1, ⟨Int.le_refl _, Int.le_refl _⟩, hz.2.2.2.1, fun _ => trivial⟩
    · unfold bY m_ex2
      simp (disch := decide) only [up_k, up_s]
      split
      · next e =>
        intro _
        rw [q212 e.symm, q2010]
        omega
      · intro hh; exact absurd rfl hh
    · have h' := of_decide_eq_false h
      show m_ex2 μ _ Q2 c' a i = w c' a i
      rw [eX _ _ _ (by omega) (by omega) (by omega) (by omega) (by omega)]
      exact q c' a i h x2 x3 x4 x5 x6
