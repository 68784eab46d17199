/-- the traces that are begun are bounded by A, all by N -/
def bTd (A N : Int) (μ : MU) (w : Mm) : Prop := bTc N w ∧ ∀ t, 0 ≤ t → t < w 137 μ.1 0 → t < 8 → w 244 0 t ≤ A ∧ w 245 0 t ≤ A
theorem bTd.c {A N : Int} {μ : MU} {w : Mm} (h : bTd A N μ w) : bTc N w := h.1
theorem movB {μ : MU} {A t d q k y : Int} {w : Mm} (ha : (0 ≤ w 244 0 t ∧ w 244 0 t ≤ A) ∧ (0 ≤ w 245 0 t ∧ w 245 0 t ≤ A) ∧ w 244 0 t ≤ w 245 0 t) (hq : 0 ≤ q) (hk : 0 ≤ k ∧ k ≤ 5000) : (0 ≤ m_mov μ t d q k y w 244 0 t ∧ m_mov μ t d q k y w 244 0 t ≤ A + 5000) ∧ (0 ≤ m_mov μ t d q k y w 245 0 t ∧ m_mov μ t d q k y w 245 0 t ≤ A + 5000) ∧ m_mov μ t d q k y w 244 0 t ≤ m_mov μ t d q k y w 245 0 t := by
  unfold m_mov m_mvR m_mvI m_mvD
  split
  · simp (disch := decide) only [up_k]; omega
  · split
    · simp (disch := decide) only [up_k, up_s]; split <;> omega
    · simp (disch := decide) only [up_k, up_s]; split <;> omega
/-- of n traces that move, each moves once -/
theorem mvN_in {μ : MU} {A d q k y : Int} {w : Mm} (hq : 0 ≤ q) (hk : 0 ≤ k ∧ k ≤ 5000) : ∀ (n : Nat), (∀ t : Int, 0 ≤ t → t < n → (0 ≤ w 244 0 t ∧ w 244 0 t ≤ A) ∧ (0 ≤ w 245 0 t ∧ w 245 0 t ≤ A) ∧ w 244 0 t ≤ w 245 0 t) → ∀ t : Int, 0 ≤ t → t < n → m_mvN μ d q k y n w 244 0 t ≤ A + 5000 ∧ m_mvN μ d q k y n w 245 0 t ≤ A + 5000
  | 0, _, t, a, b => by omega
  | n + 1, h, t, a, b => by
    simp only [m_mvN]
    by_cases c : t = n
    · subst c
      have e4 : m_mvN μ d q k y n w 244 0 (n : Int) = w 244 0 n := mvN_o (Or.inl rfl) n (by omega)
      have e5 : m_mvN μ d q k y n w 245 0 (n : Int) = w 245 0 n := mvN_o (Or.inr rfl) n (by omega)
      have := movB (μ := μ) (A := A) (t := (n : Int)) (d := d) (q := q) (k := k) (y := y) (w := m_mvN μ d q k y n w) (by rw [e4, e5]; exact h n (by omega) (by omega)) hq hk
      omega
    · rw [mov_o (Or.inl rfl) c, mov_o (Or.inr rfl) c]
      exact mvN_in hq hk n (fun t' a' b' => h t' a' (by omega)) t a (by omega)
