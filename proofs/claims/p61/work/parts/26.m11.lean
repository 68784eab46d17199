def m_fmv (μ : MU) (w : Mm) : Prop := w 122 μ.1 0 ≤ w 120 μ.1 0
theorem ntf_lk {μ : MU} {w : Mm} (h : bPo w) : m_nrun μ 100 1 (up w 234 0 1 0) = some (m_ntf μ w) := by
  obtain ⟨g, h1, _, _⟩ := ntf_ok (μ := μ) h
  exact h1
theorem ntf_ni {μ : MU} {S P : Int} {w : Mm} (hL : LB μ S P w) (hp : bPo w) (ho : bOt w) : NI μ S P 1 (up w 234 0 1 0) :=
  ⟨hL.up_o (by decide), bPo.u hp (by decide), fun i a b => by
    have : i = 1 := by omega
    subst this; rw [up_s]; decide, ho.cong fun i => up_k _ (by decide) _ _ _ _ _, by decide⟩
