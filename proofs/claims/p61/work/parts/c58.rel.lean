/-! how the last run went stays, but for a run -/
section F34
variable {p : RP} {w A B : Mm} {μ : MU} {f S P M c k a b d s v sort : Int} {PL : Int → List Int}
def F34 (μ : MU) (A B : Mm) : Prop := ∀ cc : Nat, cc = 134 ∨ cc = 135 → B cc μ.1 0 = A cc μ.1 0
theorem F34.o9 : F34 μ A (up A 139 μ.1 0 v) := fun cc z => up_k _ (by omega) _ _ _ _ _
theorem F34.cal (hR : RB μ S P M A) (hS : S ≤ 29000) (hP : P ≤ 510000) (hv : CV c a b) (hc : c ≤ 14) : F34 μ A (m_cal μ c a b sort A).2 := fun cc z => by
  obtain ⟨⟨b1, b2⟩, ⟨b3, b4⟩, b5, b6, b7⟩ := cal_b hR hv hc
  have hlo := LO.does b1 hv hc
  have hap : AP μ (m_saves μ 2 A) (m_does μ c a b (m_saves μ 2 A)).2 := AP.does
  have hz := hR.2.2.1.2.2.1
  have e1 : m_saves μ 2 A cc μ.1 0 = A cc μ.1 0 := saves_at (by omega)
  have e2 : (m_does μ c a b (m_saves μ 2 A)).2 cc μ.1 0 = A cc μ.1 0 := (hlo.2 _ _ _ (by omega) (by rcases z with rfl | rfl <;> decide)).trans e1
  have x1 : (m_does μ c a b (m_saves μ 2 A)).2 122 μ.1 0 = A 122 μ.1 0 := (hlo.2 _ _ _ (by decide) (by decide)).trans (saves_at (by decide))
  have x2 := hap.1
  have e120 : m_saves μ 2 A 120 μ.1 0 = A 120 μ.1 0 := saves_at (by decide)
  have e3 : (m_ends μ 0 (m_does μ c a b (m_saves μ 2 A)).2).2 cc μ.1 0 = A cc μ.1 0 := ((ends_ok (g := 0) b3 b4 (by omega) (by decide) (by omega) (by omega)).2.2 _ _ _ (by rcases z with rfl | rfl <;> decide)).trans e2
  unfold m_cal
  split
  · dsimp only; rw [up_k _ (by omega)]; exact e1
  · unfold m_ca1
    split
    · dsimp only; rw [up_k _ (by omega)]; exact e2
    · unfold m_ca2
      split
      · dsimp only; rw [up_k _ (by omega)]; exact e3
      · show m_ca3 μ c a b (m_ends μ 0 (m_does μ c a b (m_saves μ 2 A)).2).2 cc μ.1 0 = _
        unfold m_ca3; rw [rec_at (by omega), up_k _ (by omega), up_k _ (by omega)]; exact e3
theorem F34.t {X : Mm} (h : F34 μ A B) (g : F34 μ B X) : F34 μ A X := fun cc z => (g cc z).trans (h cc z)
theorem F34_overwrite (hR : RB μ S P M A) (hS : S ≤ 28900) (hP : P ≤ 500000) : F34 μ A (o_overwrite μ c A).2 := by
  unfold o_overwrite
  split
  · exact F34.o9.t (F34.cal hR.o9 (by omega) (by omega) (by unfold CV; omega) (by decide))
  · exact F34.o9
theorem F34_delete (hR : RB μ S P M A) (hS : S ≤ 28900) (hP : P ≤ 500000) : F34 μ A (o_delete μ c A).2 := by
  unfold o_delete
  split
  · exact F34.o9.t (F34.cal hR.o9 (by omega) (by omega) (by unfold CV; omega) (by decide))
  · exact F34.o9
theorem F34_move (hR : RB μ S P M A) (hS : S ≤ 28900) (hP : P ≤ 500000) : F34 μ A (o_move μ c A).2 := by
  unfold o_move
  split
  · exact F34.o9.t (F34.cal hR.o9 (by omega) (by omega) (by unfold CV; omega) (by decide))
  · exact F34.o9
theorem F34_search (hR : RB μ S P M A) (hS : S ≤ 28900) (hP : P ≤ 500000) : F34 μ A (o_search μ c A).2 := by
  unfold o_search
  split
  · exact F34.o9.t (F34.cal hR.o9 (by omega) (by omega) (by unfold CV; omega) (by decide))
  · exact F34.o9
theorem F34_kill (hR : RB μ S P M A) (hS : S ≤ 28900) (hP : P ≤ 500000) : F34 μ A (o_kill μ c A).2 := by
  unfold o_kill
  split
  · exact F34.o9.t (F34.cal hR.o9 (by omega) (by omega) (by unfold CV; omega) (by decide))
  · exact F34.o9
theorem F34_paste (hR : RB μ S P M A) (hS : S ≤ 28900) (hP : P ≤ 500000) : F34 μ A (o_paste μ c A).2 := by
  unfold o_paste
  split
  · exact F34.o9.t (F34.cal hR.o9 (by omega) (by omega) (by unfold CV; omega) (by decide))
  · exact F34.o9
theorem F34_clearMark (hR : RB μ S P M A) (hS : S ≤ 28900) (hP : P ≤ 500000) : F34 μ A (o_clearMark μ c A).2 := by
  unfold o_clearMark
  split
  · exact F34.o9.t (F34.cal hR.o9 (by omega) (by omega) (by unfold CV; omega) (by decide))
  · exact F34.o9
theorem F34_jump (hR : RB μ S P M A) (hS : S ≤ 28900) (hP : P ≤ 500000) : F34 μ A (o_jump μ c A).2 := by
  unfold o_jump
  split
  · exact F34.o9.t (F34.cal hR.o9 (by omega) (by omega) (by unfold CV; omega) (by decide))
  · exact F34.o9
theorem F34_narrow (hR : RB μ S P M A) (hS : S ≤ 28900) (hP : P ≤ 500000) : F34 μ A (o_narrow μ c A).2 := by
  unfold o_narrow
  split
  · exact F34.o9.t (F34.cal hR.o9 (by omega) (by omega) (by unfold CV; omega) (by decide))
  · exact F34.o9
theorem F34_setMark (hR : RB μ S P M A) (hS : S ≤ 28900) (hP : P ≤ 500000) (hb : b = 0 ∨ b = 1) : F34 μ A (o_setMark μ c b A).2 := by
  unfold o_setMark
  split
  · exact F34.o9.t (F34.cal hR.o9 (by omega) (by omega) (by unfold CV; omega) (by decide))
  · exact F34.o9
theorem F34_yank (hR : RB μ S P M A) (hS : S ≤ 28900) (hP : P ≤ 500000) : F34 μ A (o_yank μ A).2 := by
  unfold o_yank
  exact F34.cal hR (by omega) (by omega) (by unfold CV; omega) (by decide)
theorem F34_rotate (hR : RB μ S P M A) (hS : S ≤ 28900) (hP : P ≤ 500000) : F34 μ A (o_rotate μ A).2 := by
  unfold o_rotate
  exact F34.cal hR (by omega) (by omega) (by unfold CV; omega) (by decide)
theorem F34_widen (hR : RB μ S P M A) (hS : S ≤ 28900) (hP : P ≤ 500000) : F34 μ A (o_widen μ A).2 := by
  unfold o_widen
  exact F34.cal hR (by omega) (by omega) (by unfold CV; omega) (by decide)
theorem F34_copy (hR : RB μ S P M A) (hS : S ≤ 28900) (hP : P ≤ 500000) : F34 μ A (o_copy μ c k A).2 := by
  unfold o_copy
  split
  · split
    · exact F34.o9.t (F34.cal hR.o9 (by omega) (by omega) (by unfold CV; omega) (by decide))
    · exact F34.o9
  · exact F34.o9
theorem F34_checkpoint : F34 μ A (o_checkpoint μ A) := fun cc z => by
  unfold o_checkpoint
  split
  · exact up_k _ (by omega) _ _ _ _ _
  · rw [up_k _ (by omega), rec_at (by omega)]; exact up_k _ (by omega) _ _ _ _ _
theorem F34_record : F34 μ A (o_record μ c A) := fun cc z => by
  unfold o_record
  split
  · split
    · exact up_k _ (by omega) _ _ _ _ _
    · rw [up_k _ (by omega), up_k _ (by omega), up_k _ (by omega)]; exact up_k _ (by omega) _ _ _ _ _
  · exact up_k _ (by omega) _ _ _ _ _
theorem F34_open : F34 μ A (o_open μ A) := fun cc z => by
  unfold o_open
  rw [up_k _ (by omega), up_k _ (by omega)]; exact up_k _ (by omega) _ _ _ _ _
theorem F34_pass : F34 μ A (o_pass μ c A) := fun cc z => by
  unfold o_pass
  split
  · rw [up_k _ (by omega)]; exact up_k _ (by omega) _ _ _ _ _
  · rw [up_k _ (by omega)]; exact up_k _ (by omega) _ _ _ _ _
theorem F34_listen : F34 μ A (o_listen μ c a b d A) := fun cc z => by
  unfold o_listen
  split
  · split
    · rw [up_k _ (by omega), up_k _ (by omega), up_k _ (by omega), up_k _ (by omega), up_k _ (by omega)]; exact up_k _ (by omega) _ _ _ _ _
    · exact up_k _ (by omega) _ _ _ _ _
  · exact up_k _ (by omega) _ _ _ _ _
end F34
