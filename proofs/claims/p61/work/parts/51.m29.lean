/-- the world while traces move: as it was but for the traces -/
def FRt (b w : Mm) : Prop := ∀ c a i, c ≠ 137 → c ≠ 138 → (c < 241 ∨ 246 < c) → w c a i = b c a i
theorem FRt.mvN {μ : MU} {b w : Mm} (h : FRt b w) {d q k y : Int} {n : Nat} : FRt b (m_mvN μ d q k y n w) := fun c a i h1 h2 h3 => by rw [mvN_at (by omega)]; exact h c a i h1 h2 h3
theorem mvN_s {μ : MU} {d q k k' y j : Int} {w : Mm} (hj : 0 ≤ j) (hk : k = k') : m_mov μ j d q k y (m_mvN μ d q k' y j.toNat w) = m_mvN μ d q k' y (j + 1).toNat w := by
  subst hk
  rw [show (j + 1).toNat = j.toNat + 1 by omega]
  simp only [m_mvN]
  rw [show ((j.toNat : Nat) : Int) = j by omega]
