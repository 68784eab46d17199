/-! how the last run went stays: walks, replays, typing -/
section F34c
variable {p : RP} {w A B : Mm} {μ : MU} {f S P M c k v p0 v0 : Int}
theorem F34_undo (h : CHB p μ f (lvL p μ A) w A) (hR : RB μ S P M A) (hM : M ≤ 598) : F34 μ A (o_undo μ (pl_ p) A).2 := by
  unfold o_undo
  split
  · exact F34.o9
  · next z =>
    have hT := hR.2.1.2.2.2.1
    have hc : alv μ A (A 126 μ.1 0) := ⟨hT.2.2.1, h.2.1.1.1.1.2.1⟩
    exact F34_wks h hR hM (hT.par h.2.1.1.1.1 hc (fun y => z (Or.inr y))).1
theorem F34_redo (h : CHB p μ f (lvL p μ A) w A) (hR : RB μ S P M A) (hM : M ≤ 598) : F34 μ A (o_redo μ (pl_ p) A).2 := by
  unfold o_redo
  split
  · exact F34.o9
  · next z =>
    have hw := (nwst_rng (μ := μ) (x := A 126 μ.1 0) hR.2.1.2.2.2.1.1.1).resolve_left (fun y => z (Or.inr y))
    exact F34_wks h hR hM ⟨⟨by omega, hw.2.1⟩, hw.2.2.1⟩
theorem F34_walk (h : CHB p μ f (lvL p μ A) w A) (hR : RB μ S P M A) (hM : M ≤ 598) : F34 μ A (o_walk μ (pl_ p) c A).2 := by
  unfold o_walk
  split
  · next y =>
    split
    · exact F34.o9
    · exact F34_wks h hR hM (isN_al y)
  · exact F34.o9
theorem F34_lengthByReplay (h : CHB p μ f (lvL p μ A) w A) (hR : RB μ S P M A) (hM : M ≤ 598) : F34 μ A (o_lengthByReplay μ (pl_ p) c A).2 := by
  unfold o_lengthByReplay
  split
  · next y => exact F34_rpl h hR hM (isN_al y)
  · exact F34.o9
theorem F34_charByReplay (h : CHB p μ f (lvL p μ A) w A) (hR : RB μ S P M A) (hM : M ≤ 598) : F34 μ A (o_charByReplay μ (pl_ p) c k A).2 := by
  unfold o_charByReplay
  split
  · next y =>
    have q : F34 μ A (m_rpl μ (pl_ p) c (up A 139 μ.1 0 (if isN μ c A then 0 else 1))) := F34_rpl h hR hM (isN_al y)
    split
    · exact q.t F34.o9
    · exact q.t F34.o9
  · exact F34.o9
theorem F34_markByReplay (h : CHB p μ f (lvL p μ A) w A) (hR : RB μ S P M A) (hM : M ≤ 598) : F34 μ A (o_markByReplay μ (pl_ p) c k A).2 := by
  unfold o_markByReplay
  split
  · next y => exact F34_rpl h hR hM (isN_al y.1)
  · exact F34.o9
theorem F34_storedByReplay (h : CHB p μ f (lvL p μ A) w A) (hR : RB μ S P M A) (hM : M ≤ 598) : F34 μ A (o_storedByReplay μ (pl_ p) c k A).2 := by
  unfold o_storedByReplay
  split
  · next y =>
    split
    · exact F34.o9
    · exact F34_rpl h hR hM (isN_al y.1)
  · exact F34.o9
end F34c
