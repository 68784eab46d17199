/-! p61: what the commands answer, and whether they throw -/
section ANS
variable {μ : MU} {S P M S' P' c a b sort k m : Int} {w A B : Mm}
theorem cal_139 : (m_cal μ c a b sort w).2 139 μ.1 0 = 0 ∨ (m_cal μ c a b sort w).2 139 μ.1 0 = sort := by
  unfold m_cal
  split
  · exact Or.inr (up_s _ _ _ _ _)
  · unfold m_ca1
    split
    · exact Or.inr (up_s _ _ _ _ _)
    · unfold m_ca2
      split
      · exact Or.inr (up_s _ _ _ _ _)
      · left
        show m_ca3 μ c a b (m_ends μ 0 (m_does μ c a b (m_saves μ 2 w)).2).2 139 μ.1 0 = 0
        unfold m_ca3
        rw [rec_at (by decide), up_k _ (by decide), up_s]
theorem does_136 (hB : LB μ S P w) (hB' : LB μ S' P' (m_does μ c a b w).2) (hv : CV c a b) (hc : c ≤ 14) (h0 : (m_does μ c a b w).1 = 0) : -1 ≤ (m_does μ c a b w).2 136 μ.1 0 := by
  obtain ⟨f1, f2, f3, f4, f5⟩ := hB.f
  have l1 : 0 ≤ (m_does μ c a b w).2 201 0 0 := hB'.1.1.1
  have l2 : 0 ≤ (m_does μ c a b w).2 204 0 4 := (hB'.cn (s := 4) (by decide)).1
  have mk : ∀ i, 0 ≤ i ∧ i ≤ 5 → -1 ≤ w 202 0 i := fun i hi => (hB.mk hi).1.1
  revert h0 l1 l2
  unfold m_does
  split
  · intro h; exact absurd h (by dsimp only; decide)
  next hlack =>
  split
  · split
    · intro h; exact absurd h (by dsimp only; decide)
    · intro _ l1 _
      dsimp only at l1 ⊢
      rw [insC_136]; omega
  split
  · next e1 =>
    intro _ _ _
    dsimp only
    unfold m_ovr m_ovrA
    rw [up_k _ (by decide), rep_at (by decide), up_s]
    have hl : w 207 0 0 + 1 ≤ m_vT w := by
      apply Classical.byContradiction
      intro y
      refine hlack ⟨Or.inr (Or.inr (Or.inr e1)), ?_⟩
      unfold m_many
      rw [if_neg (by omega), if_pos e1]; omega
    have := (hB.1.2.1 (w 207 0 0) (by omega) (by omega)).1
    omega
  split
  · intro _ l1 _
    dsimp only at l1 ⊢
    unfold m_delC at l1 ⊢
    rw [up_k _ (by decide)] at l1
    rw [up_s]; omega
  split
  · split
    · next y =>
      intro _ _ _
      dsimp only
      unfold m_goto
      rw [up_s]
      have := y.1
      omega
    · intro h; exact absurd h (by dsimp only; decide)
  split
  · split
    · next y =>
      intro _ _ _
      dsimp only
      unfold m_goto
      rw [up_s]
      have := y.2.1
      omega
    · intro h; exact absurd h (by dsimp only; decide)
  split
  · split
    · intro h; exact absurd h (by dsimp only; decide)
    · intro _ _ _
      dsimp only
      unfold m_wid
      rw [up_s]; omega
  unfold m_more
  split
  · have hf := fnd_spec (fun i => w 200 0 i) a (m_vT w - w 207 0 0).toNat (w 207 0 0)
    unfold m_sea m_sea2
    split
    · intro h; exact absurd h (by dsimp only; decide)
    · intro _ _ _
      dsimp only
      rw [up_s]; omega
  split
  · intro _ _ l2
    dsimp only at l2 ⊢
    unfold m_kil m_rs4 at l2 ⊢
    rw [up_k _ (by decide)] at l2
    rw [up_s]; omega
  split
  · unfold m_puts
    split
    · intro h; exact absurd h (by dsimp only; decide)
    split
    · intro h; exact absurd h (by dsimp only; decide)
    · intro _ l1 _
      dsimp only at l1 ⊢
      unfold m_pt at l1 ⊢
      rw [up_k _ (by decide), up_k _ (by decide)] at l1
      rw [up_s]; omega
  split
  · unfold m_rots
    split
    · intro h; exact absurd h (by dsimp only; decide)
    · intro _ _ l2
      dsimp only at l2 ⊢
      unfold m_rs4 at l2 ⊢
      rw [up_k _ (by decide)] at l2
      rw [up_s]; omega
  split
  · intro _ _ _
    dsimp only
    have hcc := hv.2.2.2.2.2.2.1
    have he : 0 ≤ w 205 0 (4 * a) := (hB.el (by omega)).1
    have hA : m_copA μ a b w 136 μ.1 0 = if w 204 0 a = 0 then 0 else w 205 0 (4 * a) := by
      unfold m_copA m_rd
      rw [tak_at (by decide), fl_at (by decide), up_k _ (by decide), up_s]
    have hq : 0 ≤ m_copA μ a b w 136 μ.1 0 := by rw [hA]; split <;> omega
    unfold m_cop
    split
    · rw [psS_at (by decide)]; omega
    · omega
  split
  · unfold m_puts
    split
    · intro h; exact absurd h (by dsimp only; decide)
    split
    · intro h; exact absurd h (by dsimp only; decide)
    · intro _ l1 _
      dsimp only at l1 ⊢
      unfold m_pt at l1 ⊢
      rw [up_k _ (by decide), up_k _ (by decide)] at l1
      rw [up_s]; omega
  split
  · next e10 =>
    intro _ _ _
    dsimp only
    have hcc := hv.2.2.2.2.2.2.2.2.1
    have := mk a (by omega)
    unfold m_mkp
    rw [step_at (by decide), up_k _ (by decide), up_k _ (by decide), up_s]; omega
  split
  · next e11 =>
    have hcc := hv.2.2.2.2.2.2.2.2.1
    have := mk a (by omega)
    unfold m_clr
    split
    · intro h; exact absurd h (by dsimp only; decide)
    · intro _ _ _
      dsimp only
      rw [step_at (by decide), up_k _ (by decide), up_s]; omega
  · unfold m_nar
    split
    · intro h; exact absurd h (by dsimp only; decide)
    split
    · intro h; exact absurd h (by dsimp only; decide)
    · intro _ _ _
      dsimp only
      unfold m_nar1
      rw [up_s]; omega
/-- a command's answer, if it throws nothing -/
theorem cal_ans (hR : RB μ S P M A) (hS : S ≤ 29000) (hP : P ≤ 510000) (hv : CV c a b) (hc : c ≤ 14) (hs : sort ≠ 0) (h9 : (m_cal μ c a b sort A).2 139 μ.1 0 = 0) : -1 ≤ (m_cal μ c a b sort A).1 := by
  obtain ⟨⟨b1, b2⟩, ⟨b3, b4⟩, b5, b6, b7⟩ := cal_b hR hv hc
  have hlo := LO.does b1 hv hc
  have hap : AP μ (m_saves μ 2 A) (m_does μ c a b (m_saves μ 2 A)).2 := AP.does
  have hz := hR.2.2.1.2.2.1
  have x1 : (m_does μ c a b (m_saves μ 2 A)).2 122 μ.1 0 = A 122 μ.1 0 := (hlo.2 _ _ _ (by decide) (by decide)).trans (saves_at (by decide))
  have x2 := hap.1
  have e120 : m_saves μ 2 A 120 μ.1 0 = A 120 μ.1 0 := saves_at (by decide)
  have hn := does_nn (μ := μ) (c := c) (a := a) (b := b) (w := m_saves μ 2 A)
  revert h9
  unfold m_cal
  split
  · intro h9; dsimp only at h9; rw [up_s] at h9; exact absurd h9 hs
  · unfold m_ca1
    split
    · intro h9; dsimp only at h9; rw [up_s] at h9; exact absurd h9 hs
    · next y =>
      unfold m_ca2
      split
      · intro h9; dsimp only at h9; rw [up_s] at h9; exact absurd h9 hs
      · intro _
        show -1 ≤ m_ca3 μ c a b (m_ends μ 0 (m_does μ c a b (m_saves μ 2 A)).2).2 136 μ.1 0
        unfold m_ca3
        rw [rec_at (by decide), up_k _ (by decide), up_k _ (by decide), (ends_ok (g := 0) b3 b4 (by omega) (by decide) (by omega) (by omega)).2.2 _ _ _ (by decide)]
        exact does_136 b1 b3 hv hc (by omega)
end ANS
