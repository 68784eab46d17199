/-! a call of the class, then the same call of the reference -/
section TWO
variable {p : RP} {w w' A B : Mm} {μ : MU} {f : Int}
/-- the reference's cells of w are A's -/
def RFc (μ : MU) (w A : Mm) : Prop := w = pc (KLw μ) w A
theorem KLw_lt {c : Nat} {a : Int} (h : c < 120) : KLw μ c a = true := by unfold KLw; rw [if_pos h]
theorem RFc.upt (h : RFc μ w A) (u : UPT w w') (hm : w 0 μ.1 0 ≠ 0) : RFc μ w' A := by
  unfold RFc at h ⊢
  funext c a i
  unfold pc
  split
  · rfl
  · rename_i z
    have hc : ¬ c < 120 := fun y => z (KLw_lt y)
    have ha : a = 0 ∨ a = μ.1 := by
      apply Classical.byContradiction
      intro y
      apply z
      unfold KLw
      rw [if_neg hc]
      exact decide_eq_true ⟨fun q => y (Or.inl q), fun q => y (Or.inr q)⟩
    have e : w c a i = A c a i := by
      have q := congrFun (congrFun (congrFun h c) a) i
      rw [q]
      unfold pc
      rw [if_neg z]
    rcases ha with y | y
    · subst y; rw [u.2 c i (by omega)]; exact e
    · subst y; rw [u.1 c _ i hm (Or.inr (Or.inr (by omega)))]; exact e
theorem rfc_pc : RFc μ (pc (KLw μ) w' B) B := by
  show pc (KLw μ) w' B = pc (KLw μ) (pc (KLw μ) w' B) B
  funext c a i
  by_cases z : KLw μ c a = true
  · show _ = (if KLw μ c a = true then pc (KLw μ) w' B c a i else B c a i)
    rw [if_pos z]
  · show (if KLw μ c a = true then w' c a i else B c a i) = (if KLw μ c a = true then pc (KLw μ) w' B c a i else B c a i)
    rw [if_neg z, if_neg z]
theorem pc_lt {c : Nat} {a i : Int} (h : c < 120) : pc (KLw μ) w' B c a i = w' c a i := by
  show (if KLw μ c a = true then w' c a i else B c a i) = _
  rw [if_pos (KLw_lt h)]
/-- after both calls -/
theorem CHB.two (h : CHB p μ f (lvL p μ B) w' B) : CHB p μ f (lvL p μ B) (pc (KLw μ) w' B) B ∧ RFc μ (pc (KLw μ) w' B) B := ⟨h.lt120 fun c a i z => pc_lt z, rfc_pc⟩
end TWO
