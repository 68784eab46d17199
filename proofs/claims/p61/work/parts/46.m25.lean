theorem pln_one {m k : Int} {w : Mm} (h : bPr m w) (h1 : ∀ j, 1 ≤ j → j < m → 0 ≤ w 217 0 j) (hk : 0 ≤ k ∧ k < m) (e : k ≠ 0) : 2 ≤ m_pln w k := by
  have hs := pln_s h hk
  have hp := h k hk.1 hk.2
  have h2 := h1 k (by omega) hk.2
  have := (pln_rng h _ (w 217 0 k) (Nat.le_refl _) (by omega) (by omega)).2.2 h2
  omega
def szL (w : Mm) : List Int → Int
  | [] => 0
  | p :: ps => w 220 0 p + szL w ps
theorem szL_up {w : Mm} {c : Nat} {a i v : Int} (h : c ≠ 220) : ∀ ps, szL (up w c a i v) ps = szL w ps
  | [] => rfl
  | p :: ps => by simp only [szL]; rw [up_k _ (by omega), szL_up h ps]
theorem CHL.up {m : Int} {b : Mm} {p : Int} {ps : List Int} (h : CHL m b p ps) {c : Nat} {a i v : Int} (hc : c < 200) : CHL m (up b c a i v) p ps := h.cong fun c' a' i' h' => up_k _ (by omega) _ _ _ _ _
/-- the parts of a node that is not the root -/
theorem RPk.ch {μ : MU} {PL : Int → List Int} {x : Int} {w : Mm} (g : RPk μ PL x w) (h : 2 ≤ m_pln w x) : CHL 640 w (w 221 0 x) (PL x) ∧ (PL x).length ≤ 640 := by
  have := g.1 0 (by show (0 : Int) < _; omega)
  exact ⟨this.2.1, this.2.2.1⟩
def o_newestChild (μ : MU) (c : Int) (w : Mm) : Int × Mm := if isN μ c w then (m_nwst μ c w, m_ti μ (isN μ c w) w) else (0, m_ti μ (isN μ c w) w)
def o_walk (μ : MU) (PL : Int → List Int) (c : Int) (w : Mm) : Int × Mm := if isN μ c w then (if w 132 μ.1 0 = 1 then (0, m_th μ 2 w) else (m_dist w (w 126 μ.1 0) c, m_wks μ PL c (m_th μ 0 w))) else (0, m_th μ 1 w)
theorem szL_nn {m : Int} {b : Mm} : ∀ {p : Int} {ps : List Int}, CHL m b p ps → 0 ≤ szL b ps
  | _, [], _ => Int.le_refl _
  | p, x :: xs, h => by
    have h1 := szL_nn h.2.2.2.2.2
    have h2 := h.2.2.1
    simp only [szL]; omega
def o_stepsOf (μ : MU) (PL : Int → List Int) (c : Int) (w : Mm) : Int × Mm := if isN μ c w then (szL w (PL c), m_ti μ (isN μ c w) w) else (0, m_ti μ (isN μ c w) w)
