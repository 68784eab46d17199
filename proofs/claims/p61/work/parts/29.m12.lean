/-- what the walk of a command that is called needs, at its places -/
theorem cal_pre {μ : MU} {S P M : Int} {w : Mm} (h : RB μ S P M w) : LB μ S P (m_saves μ 2 w) ∧ RK μ S P M (m_saves μ 2 w) ∧ (∀ c a i, c < 200 ∨ (210 < c ∧ c ≠ 214 ∧ c ≠ 215) → m_saves μ 2 w c a i = w c a i) :=
  ⟨h.1.saves (by decide), h.2.1.saves h.1 (by decide), fun c a i h => saves_at h⟩
theorem cal_does {μ : MU} {S P M c a b : Int} {w : Mm} (h : RB μ S P M w) (hv : CV c a b) (hc : c ≤ 14) : LB μ (S + 2) (P + 20) (m_does μ c a b (m_saves μ 2 w)).2 ∧ RK μ (S + 2) (P + 20) M (m_does μ c a b (m_saves μ 2 w)).2 ∧ (m_does μ c a b (m_saves μ 2 w)).2 122 μ.1 0 ≤ (m_does μ c a b (m_saves μ 2 w)).2 120 μ.1 0 ∧ (m_does μ c a b (m_saves μ 2 w)).2 133 μ.1 0 = w 133 μ.1 0 ∧ (m_does μ c a b (m_saves μ 2 w)).2 236 0 4 = w 236 0 4 := by
  obtain ⟨h1, h2, h3⟩ := cal_pre h
  have hL := LO.does h1 hv hc
  have hA := AP.does (μ := μ) (c := c) (a := a) (b := b) (w := m_saves μ 2 w)
  refine ⟨h1.does hv, (h2.lo hL).mono (by omega) (by omega), ?_, ?_, ?_⟩
  · have := hA.1
    rw [hL.2 _ _ _ (by decide) (by decide), h3 _ _ _ (by decide)]
    rw [h3 _ _ _ (by decide)] at this
    have hz := h.2.2.1
    unfold bZ at hz
    omega
  · rw [hL.2 _ _ _ (by decide) (by decide), h3 _ _ _ (by decide)]
  · rw [hL.2 _ _ _ (by decide) (by decide), h3 _ _ _ (by decide)]
