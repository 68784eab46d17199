/-! which node is merged next -/
section NXM
variable {p : RP} {w A : Mm} {μ : MU} {f i j k M m : Int} {n : Nat} {L : List Int}
theorem MGB.nxt (h : MGB p μ f L M w A) (hb : A 125 μ.1 0 > A 128 μ.1 0) (hj : 0 ≤ j ∧ j < A 125 μ.1 0) (hk : 1 ≤ pa_ p j ∧ m_mgF μ A (pa_ p j) = 1) (hN : ∀ i, 0 ≤ i → i < j → ¬ (1 ≤ pa_ p i ∧ m_mgF μ A (pa_ p i) = 1)) : m_nxt μ A = pa_ p j ∧ pa_ p j ≠ -1 := by
  have hal := h.1.1.2.2.2.1.2.1
  have ha := h.1.al hj
  have h124 := ha.1
  refine ⟨?_, by omega⟩
  unfold m_nxt
  rw [if_pos hb]
  have h1 := fnd_spec (m_mgF μ A) 1 (A 124 μ.1 0 - 1).toNat 1
  rw [show fnd (m_mgF μ A) 1 (A 124 μ.1 0 - 1).toNat 1 = m_mgb μ A from rfl] at h1
  rcases h1 with ⟨-, h1⟩ | ⟨h1, h2, h3, h4⟩
  · exact absurd hk.2 (h1 _ hk.1 (by omega))
  · rcases Int.lt_trichotomy (m_mgb μ A) (pa_ p j) with z | z | z
    · exfalso
      obtain ⟨i, i1, i2⟩ := hal.2.2 _ (by omega) (by omega) (bi_o h3).1
      rcases Int.lt_trichotomy i j with y | y | y
      · exact hN i i1.1 y (by rw [i2]; exact ⟨h1, h3⟩)
      · rw [y] at i2; omega
      · have := hal.2.1 j i hj.1 y i1.2; omega
    · exact z
    · exact absurd hk.2 (h4 _ hk.1 z)
theorem MGB.non (h : MGB p μ f L M w A) (hN : ∀ i, 0 ≤ i → i < A 125 μ.1 0 → ¬ (1 ≤ pa_ p i ∧ m_mgF μ A (pa_ p i) = 1)) : m_nxt μ A = -1 := by
  have hal := h.1.1.2.2.2.1.2.1
  unfold m_nxt
  split
  · have h1 := fnd_spec (m_mgF μ A) 1 (A 124 μ.1 0 - 1).toNat 1
    rw [show fnd (m_mgF μ A) 1 (A 124 μ.1 0 - 1).toNat 1 = m_mgb μ A from rfl] at h1
    rcases h1 with ⟨h1, -⟩ | ⟨h1, h2, h3, h4⟩
    · exact h1
    · exfalso
      obtain ⟨i, i1, i2⟩ := hal.2.2 _ (by omega) (by omega) (bi_o h3).1
      exact hN i i1.1 i1.2 (by rw [i2]; exact ⟨h1, h3⟩)
  · rfl
theorem mrg_end (h : m_nxt μ A = -1) : m_mrg μ n m A = (m, A) := by
  cases n with
  | zero => rfl
  | succ n => unfold m_mrg; rw [if_pos h]
theorem mrg_next (h : m_nxt μ A = k ∧ k ≠ -1) (hn : 1 ≤ n) : m_mrg μ n m A = m_mrg μ (n - 1) (m + 1) (m_mrg1 μ k A) := by
  obtain ⟨n', rfl⟩ : ∃ n', n = n' + 1 := ⟨n - 1, by omega⟩
  show (if m_nxt μ A = -1 then _ else _) = _
  rw [if_neg (by rw [h.1]; exact h.2), h.1]; rfl
/-- what the class asks of the two chains that it joins -/
theorem MGB.ask (h : MGB p μ f L M w A) (hWI : WI w) (hM : M ≤ 600) (hx : m_nxt μ A = k ∧ k ≠ -1) :
    t_last w (w 51 (w 38 (w 45 f 0) 0) 0) (pn_ p k) (w 93 (w 38 (w 45 f 0) 0) 0).toNat = pn_ p (m_nwst μ k A) ∧ pn_ p (m_nwst μ k A) ≠ 0 ∧ QT w (w 25 (pn_ p k) 0) ∧ QT w (w 25 (pn_ p (m_nwst μ k A)) 0) ∧ w 25 (pn_ p k) 0 ≠ w 25 (pn_ p (m_nwst μ k A)) 0 ∧ pn_ p (m_nwst μ k A) ≠ pn_ p k := by
  obtain ⟨h1, h2, h3, -, h5⟩ := h
  have g := MGx.of h3 (by rw [hx.1]; exact hx.2)
  rw [hx.1] at g
  obtain ⟨⟨a1, a2, a3⟩, ⟨b1, b2, b3⟩, b4, b5, b6⟩ := g
  have hax : alv μ A k := ⟨⟨by omega, by omega⟩, b1⟩
  have hay : alv μ A (m_nwst μ k A) := ⟨⟨by omega, by omega⟩, b2⟩
  have h122 := h3.2.2.2.2.1
  have i1 := h2.1.1.ixl h3 hax
  have i2 := h2.1.1.ixl h3 hay
  refine ⟨?_, ?_, h1.qt h122 (by omega) hax, h1.qt h122 (by omega) hay, fun e => ?_, fun e => ?_⟩
  · rw [h1.lch hWI h3 h2.1.1.1 hax, if_neg (by omega)]
  · have := h1.pos hWI hay; omega
  · have e1 := (h1.nd hax).2.2.1.1.2
    have e2 := (h1.nd hay).2.2.1.1.2
    rw [e] at e1; omega
  · have := (h1.inj hay hax).mp e; omega
end NXM
