/-! p61: the open group, the recording, the bookmarks stay, but for the calls that are for them -/
section F7
variable {p : RP} {w A B : Mm} {μ : MU} {f S P M c k a b d s v sort : Int} {PL : Int → List Int}
def F7 (μ : MU) (A B : Mm) : Prop := ∀ cc : Nat, cc = 132 ∨ cc = 133 ∨ cc = 227 → ∀ aa ii : Int, B cc aa ii = A cc aa ii
theorem F7.o9 : F7 μ A (up A 139 μ.1 0 v) := fun cc z aa ii => up_k _ (by omega) _ _ _ _ _
theorem F7.cal (hR : RB μ S P M A) (hS : S ≤ 29000) (hP : P ≤ 510000) (hv : CV c a b) (hc : c ≤ 14) : F7 μ A (m_cal μ c a b sort A).2 := fun cc z aa ii => by
  obtain ⟨⟨b1, b2⟩, ⟨b3, b4⟩, b5, b6, b7⟩ := cal_b hR hv hc
  have hlo := LO.does b1 hv hc
  have hap : AP μ (m_saves μ 2 A) (m_does μ c a b (m_saves μ 2 A)).2 := AP.does
  have hz := hR.2.2.1.2.2.1
  have e1 : m_saves μ 2 A cc aa ii = A cc aa ii := saves_at (by omega)
  have e2 : (m_does μ c a b (m_saves μ 2 A)).2 cc aa ii = A cc aa ii := (hlo.2 _ _ _ (by omega) (by rcases z with rfl | rfl | rfl <;> decide)).trans e1
  have x1 : (m_does μ c a b (m_saves μ 2 A)).2 122 μ.1 0 = A 122 μ.1 0 := (hlo.2 _ _ _ (by decide) (by decide)).trans (saves_at (by decide))
  have x2 := hap.1
  have e120 : m_saves μ 2 A 120 μ.1 0 = A 120 μ.1 0 := saves_at (by decide)
  have e3 : (m_ends μ 0 (m_does μ c a b (m_saves μ 2 A)).2).2 cc aa ii = A cc aa ii := ((ends_ok (g := 0) b3 b4 (by omega) (by decide) (by omega) (by omega)).2.2 _ _ _ (by rcases z with rfl | rfl | rfl <;> decide)).trans e2
  unfold m_cal
  split
  · dsimp only; rw [up_k _ (by omega)]; exact e1
  · unfold m_ca1
    split
    · dsimp only; rw [up_k _ (by omega)]; exact e2
    · unfold m_ca2
      split
      · dsimp only; rw [up_k _ (by omega)]; exact e3
      · show m_ca3 μ c a b (m_ends μ 0 (m_does μ c a b (m_saves μ 2 A)).2).2 cc aa ii = _
        unfold m_ca3; rw [rec_at (by omega), up_k _ (by omega), up_k _ (by omega)]; exact e3
theorem F7.t {X : Mm} (h : F7 μ A B) (g : F7 μ B X) : F7 μ A X := fun cc z aa ii => (g cc z aa ii).trans (h cc z aa ii)
theorem F7_overwrite (hR : RB μ S P M A) (hS : S ≤ 28900) (hP : P ≤ 500000) : F7 μ A (o_overwrite μ c A).2 := by
  unfold o_overwrite
  split
  · exact F7.o9.t (F7.cal hR.o9 (by omega) (by omega) (by unfold CV; omega) (by decide))
  · exact F7.o9
theorem F7_delete (hR : RB μ S P M A) (hS : S ≤ 28900) (hP : P ≤ 500000) : F7 μ A (o_delete μ c A).2 := by
  unfold o_delete
  split
  · exact F7.o9.t (F7.cal hR.o9 (by omega) (by omega) (by unfold CV; omega) (by decide))
  · exact F7.o9
theorem F7_move (hR : RB μ S P M A) (hS : S ≤ 28900) (hP : P ≤ 500000) : F7 μ A (o_move μ c A).2 := by
  unfold o_move
  split
  · exact F7.o9.t (F7.cal hR.o9 (by omega) (by omega) (by unfold CV; omega) (by decide))
  · exact F7.o9
theorem F7_search (hR : RB μ S P M A) (hS : S ≤ 28900) (hP : P ≤ 500000) : F7 μ A (o_search μ c A).2 := by
  unfold o_search
  split
  · exact F7.o9.t (F7.cal hR.o9 (by omega) (by omega) (by unfold CV; omega) (by decide))
  · exact F7.o9
theorem F7_kill (hR : RB μ S P M A) (hS : S ≤ 28900) (hP : P ≤ 500000) : F7 μ A (o_kill μ c A).2 := by
  unfold o_kill
  split
  · exact F7.o9.t (F7.cal hR.o9 (by omega) (by omega) (by unfold CV; omega) (by decide))
  · exact F7.o9
theorem F7_paste (hR : RB μ S P M A) (hS : S ≤ 28900) (hP : P ≤ 500000) : F7 μ A (o_paste μ c A).2 := by
  unfold o_paste
  split
  · exact F7.o9.t (F7.cal hR.o9 (by omega) (by omega) (by unfold CV; omega) (by decide))
  · exact F7.o9
theorem F7_clearMark (hR : RB μ S P M A) (hS : S ≤ 28900) (hP : P ≤ 500000) : F7 μ A (o_clearMark μ c A).2 := by
  unfold o_clearMark
  split
  · exact F7.o9.t (F7.cal hR.o9 (by omega) (by omega) (by unfold CV; omega) (by decide))
  · exact F7.o9
theorem F7_jump (hR : RB μ S P M A) (hS : S ≤ 28900) (hP : P ≤ 500000) : F7 μ A (o_jump μ c A).2 := by
  unfold o_jump
  split
  · exact F7.o9.t (F7.cal hR.o9 (by omega) (by omega) (by unfold CV; omega) (by decide))
  · exact F7.o9
theorem F7_narrow (hR : RB μ S P M A) (hS : S ≤ 28900) (hP : P ≤ 500000) : F7 μ A (o_narrow μ c A).2 := by
  unfold o_narrow
  split
  · exact F7.o9.t (F7.cal hR.o9 (by omega) (by omega) (by unfold CV; omega) (by decide))
  · exact F7.o9
theorem F7_setMark (hR : RB μ S P M A) (hS : S ≤ 28900) (hP : P ≤ 500000) (hb : b = 0 ∨ b = 1) : F7 μ A (o_setMark μ c b A).2 := by
  unfold o_setMark
  split
  · exact F7.o9.t (F7.cal hR.o9 (by omega) (by omega) (by unfold CV; omega) (by decide))
  · exact F7.o9
theorem F7_yank (hR : RB μ S P M A) (hS : S ≤ 28900) (hP : P ≤ 500000) : F7 μ A (o_yank μ A).2 := by
  unfold o_yank
  exact F7.cal hR (by omega) (by omega) (by unfold CV; omega) (by decide)
theorem F7_rotate (hR : RB μ S P M A) (hS : S ≤ 28900) (hP : P ≤ 500000) : F7 μ A (o_rotate μ A).2 := by
  unfold o_rotate
  exact F7.cal hR (by omega) (by omega) (by unfold CV; omega) (by decide)
theorem F7_widen (hR : RB μ S P M A) (hS : S ≤ 28900) (hP : P ≤ 500000) : F7 μ A (o_widen μ A).2 := by
  unfold o_widen
  exact F7.cal hR (by omega) (by omega) (by unfold CV; omega) (by decide)
theorem F7_copy (hR : RB μ S P M A) (hS : S ≤ 28900) (hP : P ≤ 500000) : F7 μ A (o_copy μ c k A).2 := by
  unfold o_copy
  split
  · split
    · exact F7.o9.t (F7.cal hR.o9 (by omega) (by omega) (by unfold CV; omega) (by decide))
    · exact F7.o9
  · exact F7.o9
theorem F7_pass : F7 μ A (o_pass μ c A) := fun cc z aa ii => by
  unfold o_pass
  split
  · rw [up_k _ (by omega)]; exact up_k _ (by omega) _ _ _ _ _
  · rw [up_k _ (by omega)]; exact up_k _ (by omega) _ _ _ _ _
theorem F7_listen : F7 μ A (o_listen μ c a b d A) := fun cc z aa ii => by
  unfold o_listen
  split
  · split
    · rw [up_k _ (by omega), up_k _ (by omega), up_k _ (by omega), up_k _ (by omega), up_k _ (by omega)]; exact up_k _ (by omega) _ _ _ _ _
    · exact up_k _ (by omega) _ _ _ _ _
  · exact up_k _ (by omega) _ _ _ _ _
end F7
section F7b
variable {p : RP} {w A B : Mm} {μ : MU} {f S P M c k a b d s v sort : Int} {PL : Int → List Int}
theorem F7_setBudget : F7 μ A (o_setBudget μ c A).2 := fun cc z aa ii => by
  unfold o_setBudget
  split
  · unfold m_mrgs
    rw [mrg_o (by omega), up_k _ (by omega), up_k _ (by omega)]; exact up_k _ (by omega) _ _ _ _ _
  · exact up_k _ (by omega) _ _ _ _ _
theorem F7_track (hR : RB μ S P M A) (hS : S ≤ 28900) (hP : P ≤ 500000) : F7 μ A (o_track μ s A) := fun cc z aa ii => by
  unfold o_track
  split
  · next hs =>
    split
    · exact up_k _ (by omega) _ _ _ _ _
    · obtain ⟨q0, q1, q2, q3⟩ := trW_ok hs hR
      have q2' := q2.mono (S' := S + 1) (P' := P + 85) (by omega) (by omega)
      have e : (m_ends μ 0 (m_trW μ s A)).2 cc aa ii = A cc aa ii := by
        rw [(ends_ok (g := 0) q1 q2' q3 (by decide) (by omega) (by omega)).2.2 _ _ _ (by rcases z with rfl | rfl | rfl <;> decide)]
        unfold m_trW; rw [tells_at (by omega), up_k _ (by omega), saves_at (by omega), th_at (by omega)]
      unfold m_tr1
      split
      · rw [up_k _ (by omega), up_k _ (by omega)]; exact e
      · rw [up_k _ (by omega)]; exact e
  · exact up_k _ (by omega) _ _ _ _ _
theorem F7_wks (h : CHB p μ f (lvL p μ A) w A) (hR : RB μ S P M A) (hM : M ≤ 598) (ha : alv μ A k) : F7 μ A (m_wks μ (pl_ p) k (up A 139 μ.1 0 v)) := fun cc z aa ii => by
  rw [wks_at hR.o9.2.1.2.2.1 hR.o9.1.2.2.1 (h.rpk hR hM ha) (by omega), up_k _ (by omega)]
theorem F7_insert_nt (hR : RB μ S P M A) (hS : S ≤ 28900) (hP : P ≤ 500000) (hC : isC c) (hT : ¬ (m_cty μ c A ∧ ¬ m_full μ A ∧ A 201 0 0 < 400)) : F7 μ A (o_insert μ c A).2 := by
  have hcv : CV 0 c 0 := by unfold CV; omega
  have q : F7 μ A (m_cal μ 0 c 0 2 (up A 139 μ.1 0 0)).2 := F7.o9.t (F7.cal hR.o9 (by omega) (by omega) hcv (by decide))
  rw [ins_NT hC hT]
  unfold m_in2
  split
  · exact q
  · exact fun cc z aa ii => by
      show up (up (up _ 129 μ.1 0 _) 130 μ.1 0 0) 131 μ.1 0 c cc aa ii = _
      rw [up_k _ (by omega), up_k _ (by omega), up_k _ (by omega)]; exact q cc z aa ii
end F7b
section F7c
variable {p : RP} {w A B : Mm} {μ : MU} {f S P M c k v p0 v0 : Int}
theorem F7_undo (h : CHB p μ f (lvL p μ A) w A) (hR : RB μ S P M A) (hM : M ≤ 598) : F7 μ A (o_undo μ (pl_ p) A).2 := by
  unfold o_undo
  split
  · exact F7.o9
  · next z =>
    have hT := hR.2.1.2.2.2.1
    have hc : alv μ A (A 126 μ.1 0) := ⟨hT.2.2.1, h.2.1.1.1.1.2.1⟩
    exact F7_wks h hR hM (hT.par h.2.1.1.1.1 hc (fun y => z (Or.inr y))).1
theorem F7_redo (h : CHB p μ f (lvL p μ A) w A) (hR : RB μ S P M A) (hM : M ≤ 598) : F7 μ A (o_redo μ (pl_ p) A).2 := by
  unfold o_redo
  split
  · exact F7.o9
  · next z =>
    have hw := (nwst_rng (μ := μ) (x := A 126 μ.1 0) hR.2.1.2.2.2.1.1.1).resolve_left (fun y => z (Or.inr y))
    exact F7_wks h hR hM ⟨⟨by omega, hw.2.1⟩, hw.2.2.1⟩
theorem F7_walk (h : CHB p μ f (lvL p μ A) w A) (hR : RB μ S P M A) (hM : M ≤ 598) : F7 μ A (o_walk μ (pl_ p) c A).2 := by
  unfold o_walk
  split
  · next y =>
    split
    · exact F7.o9
    · exact F7_wks h hR hM (isN_al y)
  · exact F7.o9
end F7c
section F7d
variable {w A B : Mm} {μ : MU} {c S P M had v : Int} {q : Int × Mm}
theorem F7.ext (hR : RB μ S P M A) (hc : 0 ≤ c ∧ c ≤ 126) (hl : A 201 0 0 < 400) : F7 μ A (m_ext μ c A).2 := fun cc z aa ii => by
  have e : (m_ntf μ (m_ex1 μ c (m_saves μ 2 A))).2 cc aa ii = A cc aa ii := (ex_fr hR hc hl (by omega)).trans (saves_at (by omega))
  unfold m_ext m_ex4
  split
  · unfold m_ex3
    dsimp only
    rw [up_k _ (by omega), rest_at (by omega)]; exact e
  · unfold m_ex2
    dsimp only
    rw [up_k _ (by omega), up_k _ (by omega), up_k _ (by omega), up_k _ (by omega), up_k _ (by omega)]; exact e
theorem F7.in3 : F7 μ A (m_in3 μ c A).2 := fun cc z aa ii => by
  show up (up A 130 μ.1 0 0) 131 μ.1 0 c cc aa ii = _
  rw [up_k _ (by omega), up_k _ (by omega)]
theorem F7.in1 : F7 μ q.2 (m_in1 μ c q).2 := by
  unfold m_in1
  split
  · exact F7.o9
  · refine F7.t (F7.o9 (v := 0)) (F7.t (B := m_rec μ 0 c 0 (up q.2 139 μ.1 0 0)) (fun cc z aa ii => ?_) F7.in3)
    rw [rec_at (by omega)]
theorem F7.in2 : F7 μ A (m_in2 μ c had A).2 := by
  unfold m_in2
  split
  · exact fun cc z aa ii => rfl
  · refine F7.t (B := up A 129 μ.1 0 _) (fun cc z aa ii => up_k _ (by omega) _ _ _ _ _) F7.in3
theorem F7_insert (hR : RB μ S P M A) (hS : S ≤ 28900) (hP : P ≤ 500000) : F7 μ A (o_insert μ c A).2 := by
  have hc9 : ∀ k, isC c → F7 μ A (m_in2 μ c k (m_cal μ 0 c 0 2 (m_ti μ (isC c) A)).2).2 := fun k z => F7.t (F7.o9.t (F7.cal hR.o9 (by omega) (by omega) (by unfold CV; omega) (by decide))) F7.in2
  unfold o_insert
  split
  · next z =>
    split
    · split
      · exact hc9 _ z
      · split
        · next y => exact F7.t (F7.o9.t (F7.ext hR.o9 (by omega) (by rw [up_k _ (by decide)]; exact y))) F7.in1
        · exact hc9 _ z
    · exact hc9 _ z
  · exact F7.o9
end F7d
