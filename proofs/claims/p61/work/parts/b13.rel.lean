/-! makes and merges keep where the nodes' points stand -/
section PT3
variable {p : RP} {w A A' : Mm} {μ : MU} {f k S P M v : Int} {g : Int} {PL PL' : Int → List Int} {ρ : Int → Mm} {G G' : Int → Int → Int}
theorem PTN.mk1 (z : PTN μ A) (h : MKo μ M ρ G PL A) (hTb : TB μ (M + 1) (m_mk1 μ g A)) (hp : A 207 0 0 ≤ A 201 0 0) : PTN μ (m_mk1 μ g A) := by
  refine (PTN.ro (TX.mk1 h hTb).1 hTb).mpr fun k hk => ?_
  obtain ⟨h1, h2, h3, -⟩ := id h
  unfold RHk
  by_cases y : k = A 124 μ.1 0
  · rw [if_pos y, y, h2.2.2.1.1]
    have := (mk1_v (μ := μ) (g := g) (A := A)).2.2.2.2.2.2.2.2.1
    rw [this]; exact hp
  · rw [if_neg y, mk1_o (by decide) y]
    exact (PTN.ro h1 h3).mp z k (((alv_mk h3.1.1).mp hk).resolve_right y)
theorem TB.mrg1' (hT : TB μ M A) (hx : m_nxt μ A ≠ -1) : TB μ M (m_mrg1 μ (m_nxt μ A) A) := by
  have := TB.mrg 1 0 A hT
  simp only [m_mrg] at this
  rw [if_neg hx] at this
  exact this
theorem PTN.mrg : ∀ (n : Nat) (c : Int) (A : Mm) (PL : Int → List Int), PTN μ A → TX μ ρ G PL A → TB μ M A → M ≤ 600 → SB 1 A → bB A → bPb A → PTN μ (m_mrg μ n c A).2 ∧ ∃ PL', TX μ ρ G PL' (m_mrg μ n c A).2
  | 0, c, A, PL, z, h, _, _, _, _, _ => ⟨z, PL, h⟩
  | n + 1, c, A, PL, z, h, hT, hM, s1, s2, h6 => by
    simp only [m_mrg]
    by_cases hx : m_nxt μ A = -1
    · rw [if_pos hx]; exact ⟨z, PL, h⟩
    · rw [if_neg hx]
      have gx := MGx.of hT hx
      have hTb := hT.mrg1' hx
      have h2 := h.mrg1 hT hM gx hTb s1 s2 h6
      refine PTN.mrg n (c + 1) _ _ (z.tx h hT h2 hTb fun k hk => ?_) h2 hTb hM (s1.cong fun c a i y z => mrg1_o (by omega)) (s2.cong fun i => mrg1_o (by decide)) (h6.cong fun i => mrg1_o (by decide))
      exact ⟨((alv_mrg gx).mp hk).1, by rw [mrg1_o (by decide)]; exact Int.le_refl _⟩
theorem PTN.mks (z : PTN μ A) (h : MKo μ M ρ G PL A) (hTb : TB μ (M + 1) (m_mk1 μ g A)) (hp : A 207 0 0 ≤ A 201 0 0) (s2 : bB A) (h6 : bPb A) : PTN μ (m_mks μ g A) := by
  unfold m_mks m_mrgs
  refine (PTN.mrg 1000 0 _ _ (z.mk1 h hTb hp) (TX.mk1 h hTb).1 hTb (by have := h.2.2.2.1; omega) (h.2.2.2.2.1.cong fun c a i y z => mk1_n (by omega)) (s2.cong fun i => mk1_n (by decide)) (h6.cong fun i => mk1_n (by decide))).1
end PT3
