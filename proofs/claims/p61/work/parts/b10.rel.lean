/-! the bounds stand behind a replay -/
section RBR
variable {p : RP} {w A A' : Mm} {μ : MU} {f c k S P M v i s q x u : Int} {PL : Int → List Int}
theorem F1.at (h : F1 A A') {c : Nat} {a i : Int} (h1 : 200 ≤ c ∧ c ≤ 206) {n : Int} (hn : st0 c = n) (h2 : i < n ∨ 2 * n ≤ i) : A' c a i = A c a i := h c a i h1.1 h1.2 (by rw [hn]; exact h2)
theorem SB.f1 (h : SB s A) (g : F1 A A') (hs : s = 0 ∨ 2 ≤ s) : SB s A' := by
  obtain ⟨h1, h2, h3, h4, h5, h6⟩ := h
  have e1 : A' 201 0 s = A 201 0 s := g.at (by decide) (n := 1) (by decide) (by omega)
  refine ⟨?_, fun i a b => ?_, fun i a b => ?_, fun i a b => ?_, fun i a b => ?_, fun i a b => ?_⟩
  · unfold bL1; rw [e1]; exact h1
  · rw [g.at (by decide) (n := 400) (by decide) (by omega)]; exact h2 i a b
  · rw [e1, g.at (by decide) (n := 6) (by decide) (by omega), g.at (by decide) (n := 6) (by decide) (by omega)]; exact h3 i a b
  · rw [g.at (by decide) (n := 5) (by decide) (by omega)]; exact h4 i a b
  · rw [g.at (by decide) (n := 20) (by decide) (by omega)]; exact h5 i a b
  · rw [g.at (by decide) (n := 400) (by decide) (by omega)]; exact h6 i a b
theorem VB.f1 (h : VB s A) (g : F1 A A') (e : ∀ c a i, 207 ≤ c → c ≤ 210 → A' c a i = A c a i) (hs : s = 0 ∨ 2 ≤ s) : VB s A' := h.cong e (g.at (by decide) (n := 1) (by decide) (by omega))
theorem RB.rpl (h : RB μ S P M A) (g : RPk μ PL x A) : RB μ S P M (m_rpl μ PL x A) := by
  obtain ⟨⟨l1, l2, l3, l4, l5⟩, ⟨k1, k2, k3, k4, k5, k6, k7⟩, z, y⟩ := h
  obtain ⟨R1, R2, R3⟩ := rpl_st (μ := μ) k3 l3 g
  have e : ∀ {c : Nat} {a i : Int}, (c < 200 ∨ 206 < c) ∧ c ≠ 240 ∧ c ≠ 127 ∧ c ≠ 226 → m_rpl μ PL x A c a i = A c a i := fun z => rpl_at k3 l3 g z
  have eV : ∀ c a i, 207 ≤ c → c ≤ 210 → m_rpl μ PL x A c a i = A c a i := fun c a i a1 a2 => e (by omega)
  have e1 : m_rpl μ PL x A 201 0 0 = A 201 0 0 := R3.at (by decide) (n := 1) (by decide) (by omega)
  have sv : ∀ s, 2 ≤ s → SV S P s A → SV S P s (m_rpl μ PL x A) := fun s hs q => ⟨q.1.f1 R3 (Or.inr hs), q.2.1.f1 R3 eV (Or.inr hs), by rw [e (by decide)]; exact q.2.2.1, by rw [e (by decide)]; exact q.2.2.2⟩
  refine ⟨⟨l1.f1 R3 (Or.inl rfl), l2.f1 R3 eV (Or.inl rfl), R2, l4.cong fun i => e (by decide), l5.cong (e (by decide)) (e (by decide))⟩, ⟨sv 2 (by omega) k1, sv 3 (by omega) k2, R1, ?_, ?_, ?_, ?_⟩, ?_, ?_⟩
  · unfold TB bTn at k4 ⊢
    simp (disch := decide) only [e]; exact k4
  · unfold bPo at k5 ⊢
    simp (disch := decide) only [e]; exact k5
  · unfold bOt at k6 ⊢
    simp (disch := decide) only [e]; exact k6
  · unfold bMc at k7 ⊢
    simp (disch := decide) only [e]; exact k7
  · unfold bZ at z ⊢
    simp (disch := decide) only [e]; exact z
  · unfold bY at y ⊢
    rw [e1]
    simp (disch := decide) only [e]; exact y
theorem CHB.rb (h : CHB p μ f (lvL p μ A) w A) (hR : RB μ S P M A) (hM : M ≤ 598) (ha : alv μ A k) {u : Int} : RB μ S P M (m_rpl μ (pl_ p) k (up A 139 μ.1 0 u)) := by
  have h9 := h.o9 (v := u) hR hM
  have hR9 : RB μ S P M (up A 139 μ.1 0 u) := hR.o9
  have ha9 : alv μ (up A 139 μ.1 0 u) k := by unfold alv; rw [up_k _ (by decide), up_k _ (by decide)]; exact ha
  exact hR9.rpl (h9.2.1.1.1.rq hR9.2.1.2.2.2.1 (by omega) ha9).1
theorem RBq_stepsOf (hR : RB μ S P M A) : RB μ S P M (o_stepsOf μ PL c A).2 := by
  unfold o_stepsOf; split <;> exact hR.o9
theorem RBq_lengthByReplay (h : CHB p μ f (lvL p μ A) w A) (hR : RB μ S P M A) (hM : M ≤ 598) : RB μ S P M (o_lengthByReplay μ (pl_ p) c A).2 := by
  unfold o_lengthByReplay
  split
  · next z => exact h.rb hR hM (isN_al z)
  · exact hR.o9
theorem RBq_charByReplay (h : CHB p μ f (lvL p μ A) w A) (hR : RB μ S P M A) (hM : M ≤ 598) : RB μ S P M (o_charByReplay μ (pl_ p) c i A).2 := by
  unfold o_charByReplay
  split
  · next z =>
    split
    · exact (h.rb hR hM (isN_al z)).o9
    · exact (h.rb hR hM (isN_al z)).o9
  · exact hR.o9
theorem RBq_markByReplay (h : CHB p μ f (lvL p μ A) w A) (hR : RB μ S P M A) (hM : M ≤ 598) : RB μ S P M (o_markByReplay μ (pl_ p) c i A).2 := by
  unfold o_markByReplay
  split
  · next z => exact h.rb hR hM (isN_al z.1)
  · exact hR.o9
theorem RBq_storedByReplay (h : CHB p μ f (lvL p μ A) w A) (hR : RB μ S P M A) (hM : M ≤ 598) : RB μ S P M (o_storedByReplay μ (pl_ p) c q A).2 := by
  unfold o_storedByReplay
  split
  · next z =>
    split
    · exact hR.o9
    · exact h.rb hR hM (isN_al z.1)
  · exact hR.o9
end RBR
