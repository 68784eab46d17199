/-! listeners: the run of notifies comes to an end, and what it comes to -/
theorem ord_eq (p : Int) (w : Mm) : m_ord p w = if w 228 0 0 = 1 ∧ bi (w 228 0 1 = 1 ∧ ¬ w 231 0 0 ≤ w 231 0 1) + bi (w 228 0 2 = 1 ∧ ¬ w 231 0 0 ≤ w 231 0 2) = p then 0 else if w 228 0 1 = 1 ∧ bi (w 228 0 0 = 1 ∧ w 231 0 0 ≤ w 231 0 1) + bi (w 228 0 2 = 1 ∧ ¬ w 231 0 1 ≤ w 231 0 2) = p then 1 else if w 228 0 2 = 1 ∧ bi (w 228 0 0 = 1 ∧ w 231 0 0 ≤ w 231 0 2) + bi (w 228 0 1 = 1 ∧ w 231 0 1 ≤ w 231 0 2) = p then 2 else -1 := by
  have e0 : sumN (m_ahd w 0) 3 = bi (w 228 0 1 = 1 ∧ ¬ w 231 0 0 ≤ w 231 0 1) + bi (w 228 0 2 = 1 ∧ ¬ w 231 0 0 ≤ w 231 0 2) := by
    show ((0 + m_ahd w 0 0) + m_ahd w 0 1) + m_ahd w 0 2 = _
    unfold m_ahd bi
    repeat' split
    all_goals omega
  have e1 : sumN (m_ahd w 1) 3 = bi (w 228 0 0 = 1 ∧ w 231 0 0 ≤ w 231 0 1) + bi (w 228 0 2 = 1 ∧ ¬ w 231 0 1 ≤ w 231 0 2) := by
    show ((0 + m_ahd w 1 0) + m_ahd w 1 1) + m_ahd w 1 2 = _
    unfold m_ahd bi
    repeat' split
    all_goals omega
  have e2 : sumN (m_ahd w 2) 3 = bi (w 228 0 0 = 1 ∧ w 231 0 0 ≤ w 231 0 2) + bi (w 228 0 1 = 1 ∧ w 231 0 1 ≤ w 231 0 2) := by
    show ((0 + m_ahd w 2 0) + m_ahd w 2 1) + m_ahd w 2 2 = _
    unfold m_ahd bi
    repeat' split
    all_goals omega
  show (if m_orF p w 0 = 1 then 0 else if m_orF p w 1 = 1 then 1 else if m_orF p w 2 = 1 then 2 else -1) = _
  unfold m_orF
  rw [e0, e1, e2]
  simp only [bi_1]
theorem ord_pre {p : Int} {w : Mm} (hp : 0 ≤ p) (h : m_ord p w = -1) : m_ord (p + 1) w = -1 := by
  rw [ord_eq] at *
  by_cases a0 : w 228 0 0 = 1 <;> by_cases a1 : w 228 0 1 = 1 <;> by_cases a2 : w 228 0 2 = 1 <;> by_cases c1 : w 231 0 0 ≤ w 231 0 1 <;> by_cases c2 : w 231 0 0 ≤ w 231 0 2 <;> by_cases c3 : w 231 0 1 ≤ w 231 0 2 <;> simp [bi, a0, a1, a2, c1, c2, c3] at h ⊢ <;> omega
/-- of the active listeners that find, the first in the order -/
def m_ff1 (w : Mm) (F : Int → Bool) : Int := if w 228 0 0 = 1 ∧ F 0 = true then 0 else -1
def m_ff2 (w : Mm) (F : Int → Bool) : Int := if (w 228 0 1 = 1 ∧ (m_ff1 w F = -1 ∨ w 231 0 1 < w 231 0 (m_ff1 w F))) ∧ F 1 = true then 1 else m_ff1 w F
def m_ffb (w : Mm) (F : Int → Bool) : Int := if (w 228 0 2 = 1 ∧ (m_ff2 w F = -1 ∨ w 231 0 2 < w 231 0 (m_ff2 w F))) ∧ F 2 = true then 2 else m_ff2 w F
theorem ffb_eq (w : Mm) (F : Int → Bool) : m_ffb w F = if m_ord 0 w ≠ -1 ∧ F (m_ord 0 w) = true then m_ord 0 w else if m_ord 1 w ≠ -1 ∧ F (m_ord 1 w) = true then m_ord 1 w else if m_ord 2 w ≠ -1 ∧ F (m_ord 2 w) = true then m_ord 2 w else -1 := by
  have key : ∀ (a0 a1 a2 c1 c2 c3 : Bool) (f0 f1 f2 : Bool), (c1 && c3 && !c2) = false → (!c1 && !c3 && c2) = false → True := fun _ _ _ _ _ _ _ _ _ _ _ => trivial
  by_cases c1 : w 231 0 0 ≤ w 231 0 1 <;> by_cases c2 : w 231 0 0 ≤ w 231 0 2 <;> by_cases c3 : w 231 0 1 ≤ w 231 0 2 <;> first | (exfalso; omega) | skip
  all_goals
    have d1 : w 231 0 1 < w 231 0 0 ↔ ¬ w 231 0 0 ≤ w 231 0 1 := by omega
    have d2 : w 231 0 2 < w 231 0 0 ↔ ¬ w 231 0 0 ≤ w 231 0 2 := by omega
    have d3 : w 231 0 2 < w 231 0 1 ↔ ¬ w 231 0 1 ≤ w 231 0 2 := by omega
    by_cases a0 : w 228 0 0 = 1 <;> by_cases a1 : w 228 0 1 = 1 <;> by_cases a2 : w 228 0 2 = 1 <;> simp only [ord_eq, m_ffb, m_ff2, m_ff1, bi, a0, a1, a2, c1, c2, c3, true_and, false_and, and_true, and_false, if_true, if_false, not_true, not_false_eq_true] <;> (cases hf0 : F 0 <;> cases hf1 : F 1 <;> cases hf2 : F 2 <;> simp [d1, d2, d3, c1, c2, c3, hf0, hf1, hf2])
