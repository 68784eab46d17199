theorem bTc.trB {μ : MU} {N x n : Int} {w : Mm} (h : bTc N w) (hx : 0 ≤ x ∧ x < 16777216) (hN : 10000 ≤ N) : bTc N (m_trB μ x n w) := by
  intro t a b
  have ht := h t a b
  have hz : 0 ≤ wsz x ∧ wsz x ≤ 5000 := by unfold wsz; split <;> omega
  unfold m_trB
  simp (disch := decide) only [up_k, up_ii]
  by_cases c : t = n
  · rw [if_pos c, if_pos c]
    refine ⟨by omega, by split <;> omega, by split <;> omega⟩
  · rw [if_neg c, if_neg c]; exact ht
theorem FRt.trB {μ : MU} {x n : Int} {b w : Mm} (h : FRt b w) : FRt b (m_trB μ x n w) := fun c a i h1 h2 h3 => by
  unfold m_trB
  rw [up_k _ h1, up_k _ (by omega), up_k _ (by omega), up_k _ (by omega), up_k _ (by omega), up_k _ (by omega)]
  exact h c a i h1 h2 h3
theorem trB_137 {μ : MU} {x n : Int} {w : Mm} : m_trB μ x n w 137 μ.1 0 = n + 1 := by unfold m_trB; rw [up_s]
