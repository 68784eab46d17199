/-! the steps of a path are those of the parent's path and the node's own -/
theorem anc_par {w : Mm} {x : Int} : ∀ n, m_anc w x (n + 1) = m_anc w (w 217 0 x) n
  | 0 => rfl
  | n + 1 => by
    show w 217 0 (m_anc w x (n + 1)) = w 217 0 (m_anc w (w 217 0 x) n)
    rw [anc_par n]
theorem RSn_par {PL : Int → List Int} {m x : Int} {w : Mm} (h : bPr m w) (hx : 0 ≤ x ∧ x < m) : ∀ n : Nat, (n : Int) ≤ m_pln w (w 217 0 x) - 1 → RSn PL x w n = RSn PL (w 217 0 x) w n
  | 0, _ => rfl
  | n + 1, hn => by
    have hs := pln_s h hx
    simp only [RSn]
    rw [RSn_par h hx n (by omega)]
    congr 3
    rw [show (m_pln w x - 1 - ((n : Int) + 1)).toNat = (m_pln w (w 217 0 x) - 1 - ((n : Int) + 1)).toNat + 1 by omega]
    exact anc_par _
theorem RSx_par {PL : Int → List Int} {m x : Int} {w : Mm} (h : bPr m w) (hx : 0 ≤ x ∧ x < m) (hp : 1 ≤ m_pln w (w 217 0 x)) : RSx PL x w = RSx PL (w 217 0 x) w ++ nodeL w (PL x) := by
  have hs := pln_s h hx
  unfold RSx
  rw [show (m_pln w x - 1).toNat = (m_pln w (w 217 0 x) - 1).toNat + 1 by omega]
  simp only [RSn]
  rw [RSn_par h hx _ (by omega)]
  congr 3
  rw [show (m_pln w x - 1 - (((m_pln w (w 217 0 x) - 1).toNat : Int) + 1)).toNat = 0 by omega]
  rfl
