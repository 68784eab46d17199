/-! PTX through the walks and the replays -/
section PT9
variable {p : RP} {w A A' B : Mm} {μ : MU} {f S P M g c k a b d s e v : Int} {PL : Int → List Int} {ρ : Int → Mm} {G : Int → Int → Int}
theorem PTo_undo (h : CHB p μ f (lvL p μ A) w A) (hR : RB μ S P M A) (hM : M ≤ 598) (g : PTN μ A) : PTX μ (o_undo μ (pl_ p) A).2 := by
  unfold o_undo
  split
  · exact h.p9 hR hM g
  · next z =>
    have hT := hR.2.1.2.2.2.1
    have hc : alv μ A (A 126 μ.1 0) := ⟨hT.2.2.1, h.2.1.1.1.1.2.1⟩
    exact PTo_wks h hR hM g (hT.par h.2.1.1.1.1 hc (fun y => z (Or.inr y))).1
theorem PTo_redo (h : CHB p μ f (lvL p μ A) w A) (hR : RB μ S P M A) (hM : M ≤ 598) (g : PTN μ A) : PTX μ (o_redo μ (pl_ p) A).2 := by
  unfold o_redo
  split
  · exact h.p9 hR hM g
  · next z =>
    have hw := (nwst_rng (μ := μ) (x := A 126 μ.1 0) hR.2.1.2.2.2.1.1.1).resolve_left (fun y => z (Or.inr y))
    exact PTo_wks h hR hM g ⟨⟨by omega, hw.2.1⟩, hw.2.2.1⟩
theorem PTo_walk (h : CHB p μ f (lvL p μ A) w A) (hR : RB μ S P M A) (hM : M ≤ 598) (g : PTN μ A) : PTX μ (o_walk μ (pl_ p) c A).2 := by
  unfold o_walk
  split
  · next y =>
    split
    · exact h.p9 hR hM g
    · exact PTo_wks h hR hM g (isN_al y)
  · exact h.p9 hR hM g
theorem PTo_rpl (h : CHB p μ f (lvL p μ A) w A) (hR : RB μ S P M A) (hM : M ≤ 598) (g : PTN μ A) (ha : alv μ A k) : PTX μ (m_rpl μ (pl_ p) k (up A 139 μ.1 0 v)) := by
  have h9 := h.o9 hR hM (v := v)
  have r9 : RB μ S P M (up A 139 μ.1 0 v) := hR.o9
  have ha9 : alv μ (up A 139 μ.1 0 v) k := ⟨⟨ha.1.1, by rw [up_k _ (by decide)]; exact ha.1.2⟩, by rw [up_k _ (by decide)]; exact ha.2⟩
  have hT := r9.2.1.2.2.2.1
  have hq := h9.rpl hT (by omega) r9.2.1.2.2.1 r9.1.1 ha9
  have e : ∀ {c : Nat} {y i : Int}, (c < 200 ∨ 206 < c) ∧ c ≠ 240 ∧ c ≠ 127 ∧ c ≠ 226 → m_rpl μ (pl_ p) k (up A 139 μ.1 0 v) c y i = up A 139 μ.1 0 v c y i := fun z => rpl_at r9.2.1.2.2.1 r9.1.2.2.1 (h.rpk hR hM ha) z
  have hT' : TB μ M (m_rpl μ (pl_ p) k (up A 139 μ.1 0 v)) := (h.rb hR hM ha).2.1.2.2.2.1
  refine ⟨(g.o9 h hR hM).tx h9.2.1 hT hq.2.1 hT' (fun x hx => ⟨?_, ?_⟩), _, _, _, hq.2.1⟩
  · unfold alv at hx ⊢; rw [e (by decide), e (by decide)] at hx; exact hx
  · rw [e (by decide)]; exact Int.le_refl _
theorem PTX.u9 (z : PTX μ A) (hR : RB μ S P M A) (hM : M ≤ 598) (hpb : bPb A) : PTX μ (up A 139 μ.1 0 v) := z.fld hR.2.1.2.2.2.1 (by omega) hR.2.1.2.2.1 hR.1.2.2.1 hpb fun c a i q => up_k _ (by omega) _ _ _ _ _
theorem PTo_lengthByReplay (h : CHB p μ f (lvL p μ A) w A) (hR : RB μ S P M A) (hM : M ≤ 598) (g : PTN μ A) : PTX μ (o_lengthByReplay μ (pl_ p) c A).2 := by
  unfold o_lengthByReplay
  split
  · next y => exact PTo_rpl h hR hM g (isN_al y)
  · exact h.p9 hR hM g
theorem PTo_charByReplay (h : CHB p μ f (lvL p μ A) w A) (hR : RB μ S P M A) (hM : M ≤ 598) (g : PTN μ A) : PTX μ (o_charByReplay μ (pl_ p) c k A).2 := by
  unfold o_charByReplay
  split
  · next y =>
    have q : PTX μ (m_rpl μ (pl_ p) c (up A 139 μ.1 0 (if isN μ c A then 0 else 1))) := PTo_rpl h hR hM g (isN_al y)
    have r : RB μ S P M (m_rpl μ (pl_ p) c (up A 139 μ.1 0 (if isN μ c A then 0 else 1))) := h.rb hR hM (isN_al y)
    have b6 : bPb (m_rpl μ (pl_ p) c (up A 139 μ.1 0 (if isN μ c A then 0 else 1))) := h.2.2.1.2.2.1.cong fun i => by
      rw [rpl_at hR.o9.2.1.2.2.1 hR.o9.1.2.2.1 (h.rpk hR hM (isN_al y)) (by decide), up_k _ (by decide)]
    split
    · exact q.u9 r hM b6
    · exact q.u9 r hM b6
  · exact h.p9 hR hM g
theorem PTo_markByReplay (h : CHB p μ f (lvL p μ A) w A) (hR : RB μ S P M A) (hM : M ≤ 598) (g : PTN μ A) : PTX μ (o_markByReplay μ (pl_ p) c k A).2 := by
  unfold o_markByReplay
  split
  · next y => exact PTo_rpl h hR hM g (isN_al y.1)
  · exact h.p9 hR hM g
theorem PTo_storedByReplay (h : CHB p μ f (lvL p μ A) w A) (hR : RB μ S P M A) (hM : M ≤ 598) (g : PTN μ A) : PTX μ (o_storedByReplay μ (pl_ p) c k A).2 := by
  unfold o_storedByReplay
  split
  · next y =>
    split
    · exact h.p9 hR hM g
    · exact PTo_rpl h hR hM g (isN_al y.1)
  · exact h.p9 hR hM g
end PT9
