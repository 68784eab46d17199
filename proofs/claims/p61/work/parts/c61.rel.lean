/-! how the last run went stays through insert -/
section F34d
variable {w A B : Mm} {μ : MU} {c S P M had v : Int} {q : Int × Mm}
theorem F34.ext (hR : RB μ S P M A) (hc : 0 ≤ c ∧ c ≤ 126) (hl : A 201 0 0 < 400) : F34 μ A (m_ext μ c A).2 := fun cc z => by
  have e : (m_ntf μ (m_ex1 μ c (m_saves μ 2 A))).2 cc μ.1 0 = A cc μ.1 0 := (ex_fr hR hc hl (by omega)).trans (saves_at (by omega))
  unfold m_ext m_ex4
  split
  · unfold m_ex3
    dsimp only
    rw [up_k _ (by omega), rest_at (by omega)]; exact e
  · unfold m_ex2
    dsimp only
    rw [up_k _ (by omega), up_k _ (by omega), up_k _ (by omega), up_k _ (by omega), up_k _ (by omega)]; exact e
theorem F34.in3 : F34 μ A (m_in3 μ c A).2 := fun cc z => by
  show up (up A 130 μ.1 0 0) 131 μ.1 0 c cc μ.1 0 = _
  rw [up_k _ (by omega), up_k _ (by omega)]
theorem F34.in1 : F34 μ q.2 (m_in1 μ c q).2 := by
  unfold m_in1
  split
  · exact F34.o9
  · refine F34.t (F34.o9 (v := 0)) (F34.t (B := m_rec μ 0 c 0 (up q.2 139 μ.1 0 0)) (fun cc z => ?_) F34.in3)
    rw [rec_at (by omega)]
theorem F34.in2 : F34 μ A (m_in2 μ c had A).2 := by
  unfold m_in2
  split
  · exact fun cc z => rfl
  · refine F34.t (B := up A 129 μ.1 0 _) (fun cc z => up_k _ (by omega) _ _ _ _ _) F34.in3
theorem F34_insert (hR : RB μ S P M A) (hS : S ≤ 28900) (hP : P ≤ 500000) : F34 μ A (o_insert μ c A).2 := by
  have hc9 : ∀ k, isC c → F34 μ A (m_in2 μ c k (m_cal μ 0 c 0 2 (m_ti μ (isC c) A)).2).2 := fun k z => F34.t (F34.o9.t (F34.cal hR.o9 (by omega) (by omega) (by unfold CV; omega) (by decide))) F34.in2
  unfold o_insert
  split
  · next z =>
    split
    · split
      · exact hc9 _ z
      · split
        · next y => exact F34.t (F34.o9.t (F34.ext hR.o9 (by omega) (by rw [up_k _ (by decide)]; exact y))) F34.in1
        · exact hc9 _ z
    · exact hc9 _ z
  · exact F34.o9
end F34d
