/-! PTN by the nodes' states; walks keep tree, PTN and bounds -/
section PT2
variable {p : RP} {w A A' : Mm} {μ : MU} {f c k S P M v i s q x u : Int} {PL PL' : Int → List Int} {ρ : Int → Mm} {G G' : Int → Int → Int}
theorem PTN.ro (h : TX μ ρ G PL A) (hT : TB μ M A) : PTN μ A ↔ ∀ k, alv μ A k → A 224 0 k ≤ ρ k 201 0 1 := by
  constructor
  · intro g k ha
    rw [(h.2 k ha).1.1.1]; exact g PL h.1.1 k ha
  · intro g
    refine PTN.of h.1.1 hT fun k ha => ?_
    rw [← (h.2 k ha).1.1.1]; exact g k ha
theorem PTN.tx (g : PTN μ A) (h : TX μ ρ G PL A) (hT : TB μ M A) (h' : TX μ ρ G' PL' A') (hT' : TB μ S A') (ha : ∀ k, alv μ A' k → alv μ A k ∧ A' 224 0 k ≤ A 224 0 k) : PTN μ A' :=
  (PTN.ro h' hT').mpr fun k hk => Int.le_trans (ha k hk).2 ((PTN.ro h hT).mp g k (ha k hk).1)
theorem TX.wks (h : TX μ ρ G PL A) (hT : TB μ M A) (hM : M ≤ 600) (s1 : SB 1 A) (s2 : bB A) (hpb : bPb A) (ha : alv μ A k) : TX μ ρ G PL (m_wks μ PL k A) := by
  have hQ := h.1.1.rq hT hM ha
  have h1 := h.cur (A' := up A 126 μ.1 0 k) hT hM s1 s2 hpb (fun c a i z => up_k _ z _ _ _ _ _) (by rw [up_s]; exact ha)
  have hT1 : TB μ M (up A 126 μ.1 0 k) := by
    have q := hT
    unfold TB bTn at q ⊢
    rw [up_s]
    simp (disch := decide) only [up_k]
    exact ⟨q.1, q.2.1, by have := ha.1; omega, q.2.2.2⟩
  have e : ∀ {c : Nat} {a i : Int}, (c < 200 ∨ 210 < c) ∧ c ≠ 240 ∧ c ≠ 127 ∧ c ≠ 226 ∧ c ≠ 126 ∧ c ≠ 129 → m_wks μ PL k A c a i = A c a i := fun z => wks_at s1 s2 hQ.1 z
  have o : ∀ {c : Nat} {a i : Int}, c ≠ 126 → up A 126 μ.1 0 k c a i = A c a i := fun z => up_k _ z _ _ _ _ _
  refine h1.app hT1 hM (s1.cong fun c a i y z => o (by omega)) (s2.cong fun i => o (by decide)) (hpb.cong fun i => o (by decide)) ⟨⟨fun c a i z1 z2 => ?_, fun c z1 z2 => ?_, fun j j0 j1 => ?_, fun j j0 j1 => ?_⟩, fun j => ?_, fun r => ?_⟩ (hpb.cong fun i => e (by decide)) (fun _ _ _ => rfl)
  · rw [e (by omega), o (by omega)]
  · by_cases z : c = 126
    · subst z; rw [wks_126, up_s]
    · rw [e (by omega), o z]
  · rw [e (by decide), o (by decide)]
  · exact pby_cong (by rw [e (by decide), o (by decide)])
  · rw [e (by decide), o (by decide)]
  · rw [e (by decide), o (by decide)]
theorem CHB.bw (h : CHB p μ f (lvL p μ A) w A) (hR : RB μ S P M A) (hM : M ≤ 598) (g : PTN μ A) (ha : alv μ A k) : RB μ S P M (m_wks μ (pl_ p) k A) ∧ PTN μ (m_wks μ (pl_ p) k A) := by
  have hT := hR.2.1.2.2.2.1
  have hQ := h.2.1.1.1.rq hT (by omega) ha
  have r1 := hR.wks hQ.1 ha.1 (g _ h.2.1.1.1 k ha)
  refine ⟨r1, g.tx h.2.1 hT (h.2.1.wks hT (by omega) hR.2.1.2.2.1 h.2.2.b0.2.2.2 h.2.2.b0.2.2.1 ha) r1.2.1.2.2.2.1 fun j hj => ?_⟩
  have e : ∀ {c : Nat} {a i : Int}, (c < 200 ∨ 210 < c) ∧ c ≠ 240 ∧ c ≠ 127 ∧ c ≠ 226 ∧ c ≠ 126 ∧ c ≠ 129 → m_wks μ (pl_ p) k A c a i = A c a i := fun z => wks_at hR.2.1.2.2.1 h.2.2.b0.2.2.2 hQ.1 z
  unfold alv at hj ⊢
  rw [e (by decide), e (by decide)] at hj
  exact ⟨hj, by rw [e (by decide)]; exact Int.le_refl _⟩
theorem PTN.o9 (g : PTN μ A) (h : CHB p μ f (lvL p μ A) w A) (hR : RB μ S P M A) (hM : M ≤ 598) : PTN μ (up A 139 μ.1 0 v) := by
  refine g.tx h.2.1 hR.2.1.2.2.2.1 (h.o9 hR hM).2.1 (hR.o9 (v := v)).2.1.2.2.2.1 fun j hj => ?_
  unfold alv at hj ⊢
  rw [up_k _ (by decide), up_k _ (by decide)] at hj
  exact ⟨hj, by rw [up_k _ (by decide)]; exact Int.le_refl _⟩
theorem CHB.bw9 (h : CHB p μ f (lvL p μ A) w A) (hR : RB μ S P M A) (hM : M ≤ 598) (g : PTN μ A) (ha : alv μ A k) : RB μ S P M (m_wks μ (pl_ p) k (up A 139 μ.1 0 v)) ∧ PTN μ (m_wks μ (pl_ p) k (up A 139 μ.1 0 v)) := by
  have h9 := h.o9 (v := v) hR hM
  exact h9.bw hR.o9 hM (g.o9 h hR hM) (al9.mpr ha)
theorem RBq_undo (h : CHB p μ f (lvL p μ A) w A) (hR : RB μ S P M A) (hM : M ≤ 598) (g : PTN μ A) : RB μ S P M (o_undo μ (pl_ p) A).2 ∧ PTN μ (o_undo μ (pl_ p) A).2 := by
  unfold o_undo
  split
  · exact ⟨hR.o9, g.o9 h hR hM⟩
  · next z =>
    have hT := hR.2.1.2.2.2.1
    have hc : alv μ A (A 126 μ.1 0) := ⟨hT.2.2.1, h.2.1.1.1.1.2.1⟩
    exact h.bw9 hR hM g (hT.par h.2.1.1.1.1 hc (fun y => z (Or.inr y))).1
theorem RBq_redo (h : CHB p μ f (lvL p μ A) w A) (hR : RB μ S P M A) (hM : M ≤ 598) (g : PTN μ A) : RB μ S P M (o_redo μ (pl_ p) A).2 ∧ PTN μ (o_redo μ (pl_ p) A).2 := by
  unfold o_redo
  split
  · exact ⟨hR.o9, g.o9 h hR hM⟩
  · next z =>
    have hw := (nwst_rng (μ := μ) (x := A 126 μ.1 0) hR.2.1.2.2.2.1.1.1).resolve_left (fun y => z (Or.inr y))
    exact h.bw9 hR hM g ⟨⟨by omega, hw.2.1⟩, hw.2.2.1⟩
theorem RBq_walk (h : CHB p μ f (lvL p μ A) w A) (hR : RB μ S P M A) (hM : M ≤ 598) (g : PTN μ A) : RB μ S P M (o_walk μ (pl_ p) c A).2 ∧ PTN μ (o_walk μ (pl_ p) c A).2 := by
  unfold o_walk
  split
  · next y =>
    split
    · exact ⟨hR.o9, g.o9 h hR hM⟩
    · exact h.bw9 hR hM g (isN_al y)
  · exact ⟨hR.o9, g.o9 h hR hM⟩
theorem RBq_newestChild (hR : RB μ S P M A) : RB μ S P M (o_newestChild μ c A).2 := by
  unfold o_newestChild; split <;> exact hR.o9
end PT2
