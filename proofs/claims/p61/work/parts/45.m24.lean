theorem wks_at {μ : MU} {PL : Int → List Int} {x : Int} {w : Mm} (h1 : SB 1 w) (h2 : bB w) (g : RPk μ PL x w) {c : Nat} {a i : Int} (h : (c < 200 ∨ 210 < c) ∧ c ≠ 240 ∧ c ≠ 127 ∧ c ≠ 226 ∧ c ≠ 126 ∧ c ≠ 129) : m_wks μ PL x w c a i = w c a i := by
  unfold m_wks
  rw [up_k _ (by omega), up_k _ (by omega), up_k _ (by omega), up_k _ (by omega), cpQ_at (by omega), cpT_at (by omega), rpl_at h1 h2 g (by omega)]
theorem wks_126 {μ : MU} {PL : Int → List Int} {x : Int} {w : Mm} : m_wks μ PL x w 126 μ.1 0 = x := by
  unfold m_wks; rw [up_k _ (by decide), up_s]
theorem nwst_up {μ : MU} {x : Int} {w : Mm} {c : Nat} {a i v : Int} (h : c ≠ 124 ∧ c ≠ 216 ∧ c ≠ 217) : m_nwst μ x (up w c a i v) = m_nwst μ x w := by
  unfold m_nwst m_chF
  simp only [up_k w (show 124 ≠ c by omega), up_k w (show 216 ≠ c by omega), up_k w (show 217 ≠ c by omega)]
theorem nwst_rng {μ : MU} {x : Int} {w : Mm} (ht : 1 ≤ w 124 μ.1 0) : m_nwst μ x w = -1 ∨ (1 ≤ m_nwst μ x w ∧ m_nwst μ x w < w 124 μ.1 0 ∧ w 216 0 (m_nwst μ x w) = 1 ∧ w 217 0 (m_nwst μ x w) = x) := by
  rcases lst_spec (m_chF x w) (w 124 μ.1 0).toNat with h | ⟨h1, h2, h3, h4⟩
  · exact Or.inl h.1
  · have h5 := bi_o h3
    have h6 : lst (m_chF x w) (w 124 μ.1 0).toNat = m_nwst μ x w := rfl
    rw [h6] at h1 h2 h5
    exact Or.inr ⟨h5.1, by omega, h5.2.1, h5.2.2⟩
/-- how many changes lie between two nodes, by the way the reference goes -/
def m_dst (w : Mm) : Nat → Int → Int → Int → Int
  | 0, _, _, n => n
  | f + 1, a, b, n => if a = b then n else if m_pln w a ≥ m_pln w b then m_dst w f (w 217 0 a) b (n + 1) else m_dst w f a (w 217 0 b) (n + 1)
def m_dist (w : Mm) (a b : Int) : Int := m_dst w (m_pln w a + m_pln w b).toNat a b 0
theorem pln_up {w : Mm} {c : Nat} {a i v k : Int} (h : c ≠ 217) : m_pln (up w c a i v) k = m_pln w k := pln_cong (fun a' i' => up_k _ (by omega) _ _ _ _ _) k
def o_undo (μ : MU) (PL : Int → List Int) (w : Mm) : Int × Mm := if w 132 μ.1 0 = 1 ∨ w 126 μ.1 0 = 0 then (0, m_th μ 1 w) else (w 217 0 (w 126 μ.1 0), m_wks μ PL (w 217 0 (w 126 μ.1 0)) (m_th μ 0 w))
def o_redo (μ : MU) (PL : Int → List Int) (w : Mm) : Int × Mm := if w 132 μ.1 0 = 1 ∨ m_nwst μ (w 126 μ.1 0) w = -1 then (0, m_th μ 1 w) else (m_nwst μ (w 126 μ.1 0) w, m_wks μ PL (m_nwst μ (w 126 μ.1 0) w) (m_th μ 0 w))
