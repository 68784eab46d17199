/-! what stands between the law's calls -/
section LIN
variable {p : RP} {w w' A B : Mm} {μ : MU} {f S P M S' P' M' : Int}
def LIn (μ : MU) (f S P M : Int) (w A : Mm) : Prop := (∃ p, CHB p μ f (lvL p μ A) w A) ∧ vTl μ w A f ∧ RB μ S P M A ∧ PTX μ A ∧ IVS μ A ∧ RFc μ w A ∧ w 0 μ.1 0 ≠ 0
theorem LIn.nx (h : LIn μ f S P M w A) (r : RES μ f w w' B) (hR : RB μ S' P' M' B) (z : PTX μ B) (i : IVS μ B) (e4 : B 134 μ.1 0 = A 134 μ.1 0) (e5 : B 135 μ.1 0 = A 135 μ.1 0) : LIn μ f S' P' M' (pc (KLw μ) w' B) B ∧ RFc μ w' A := by
  obtain ⟨-, h2, -, -, -, h6, h7⟩ := h
  obtain ⟨p', r1, r2⟩ := r
  have hv : vTl μ w' B f := h2.h r2.h e4 e5
  have t := r1.two
  refine ⟨⟨⟨p', t.1⟩, ?_, hR, z, i, t.2, ?_⟩, h6.upt r2.1 h7⟩
  · unfold vTl at hv ⊢
    rw [pc_lt (by decide), pc_lt (by decide), pc_lt (by decide)]
    exact hv
  · rw [pc_lt (by decide), r2.1.1 0 _ 0 h7 (Or.inl rfl)]
    exact h7
end LIN
