/-! a command that is called: pure parts -/
section CAL
variable {p : RP} {w w1 w' A A' : Mm} {μ : MU} {f g S P M cc a b x k v sort : Int} {L : List Int}
/-- the reference keeps the call's beginning, the class does not yet -/
theorem RLm.unsav (h : RLm p μ f L w A) (hl : 0 ≤ A 122 μ.1 0 ∧ A 122 μ.1 0 ≤ A 120 μ.1 0) (hSB : SB 0 A) : RLm p μ f L w (m_saves μ 2 A) := by
  have e : ∀ {c : Nat} {x i : Int}, c < 200 ∨ (210 < c ∧ c ≠ 214 ∧ c ≠ 215) → m_saves μ 2 A c x i = A c x i := fun z => saves_at z
  have q : ∀ (k : Nat) (i : Int), 200 ≤ k → k ≤ 210 → 0 ≤ i → i < st0 k → m_saves μ 2 A k 0 i = A k 0 i := fun k i x y i0 i1 => by
    rw [saves_cpy k i x (by omega)]
    exact cpy_o ⟨x, by omega⟩ (Or.inl (by omega)) hSB.1.2
  exact h.cA hl hSB.2.2.2.2.1 (AgO.of fun c a i z => e (by omega)) (fun i => e (by decide)) (e (by decide)) (fun k _ _ => e (by decide)) q
/-- a command is noted -/
theorem note_u (h : RLm p μ f L w A) (hw : w' = if w 86 f 0 = -1 then up w 88 f 0 0 else c_app (w 49 f 0) (x + 1) a b (up w 88 f 0 0)) : UPd (pc_ p) (fun b k => (63 ≤ b ∧ b ≤ 66) ∨ (b = 1 ∧ k = 88)) w w' := by
  have s1 := h.1.2.1.1
  obtain ⟨⟨m1, m2, m3⟩, m4, ⟨m5, m6, m7, m8, m9⟩, m10, m11⟩ := id h.1.2.2.2.2.1
  by_cases y : w 86 f 0 = -1
  · rw [if_pos y] at hw
    rw [hw]; exact UPd.refl.sU (by decide) (Or.inr (Or.inr ⟨s1.2, rfl⟩))
  · rw [if_neg y] at hw
    unfold c_app at hw
    rw [up_k _ (by decide), up_k _ (by decide), up_k _ (by decide), up_k _ (by decide)] at hw
    by_cases z : w 62 (w 49 f 0) 0 < 16
    · rw [if_pos z] at hw
      rw [hw]
      exact ((((UPd.refl.sU (by decide) (Or.inr (Or.inr ⟨s1.2, rfl⟩))).sU (by decide) (Or.inr (Or.inl (by omega)))).sU (by decide) (Or.inr (Or.inl (by omega)))).sU (by decide) (Or.inr (Or.inl (by omega)))).sU (by decide) (Or.inr (Or.inl (by omega)))
    · rw [if_neg z] at hw
      rw [hw]; exact UPd.refl.sU (by decide) (Or.inr (Or.inr ⟨s1.2, rfl⟩))
theorem CHB.note (h : CHB p μ f (lvL p μ A) w A) (hT : TB μ M A) (hM : M ≤ 600) (s1 : SB 1 A) (hr : A 133 μ.1 0 ≠ -1 → A 236 0 4 < 16) (hw : w' = if w 86 f 0 = -1 then up w 88 f 0 0 else c_app (w 49 f 0) (x + 1) a b (up w 88 f 0 0)) :
    CHB p μ f (lvL p μ (m_rec μ x a b (up (up A 139 μ.1 0 k) 129 μ.1 0 (-1)))) w' (m_rec μ x a b (up (up A 139 μ.1 0 k) 129 μ.1 0 (-1))) ∧ UPG f w w' ∧ w' 91 f 0 = w 91 f 0 := by
  have hl := h.2.2.b0.1
  have u := note_u h.1 hw
  have r := (h.1.o34 (c := 139) (v := k) (a := μ.1) (i := 0) (by decide)).note (w' := w') (x := x) (a := a) (b := b) (by rw [up_k _ (by decide), up_k _ (by decide)]; exact hl) (by rw [up_k _ (by decide), up_k _ (by decide)]; exact hr) hw
  refine ⟨h.cgA r hT hM s1 fun c a' i z => ?_, u.toG h.1.1.2.1.1 h.1.1.2.2.2.2.2.1 (fun k z1 z => by omega) (fun k z => by omega), u.g (by have := h.1.1.2.1.1.1; omega) h.1.1.2.1.1.2 (by omega)⟩
  rw [rec_at (by omega), up_k _ (by omega), up_k _ (by omega)]
/-- bounds on the way -/
theorem cal_b (h : RB μ S P M A) (hv : CV cc a b) (hc : cc ≤ 14) : (LB μ S P (m_saves μ 2 A) ∧ RK μ S P M (m_saves μ 2 A)) ∧ (LB μ (S + 2) (P + 20) (m_does μ cc a b (m_saves μ 2 A)).2 ∧ RK μ (S + 2) (P + 20) M (m_does μ cc a b (m_saves μ 2 A)).2) ∧ m_saves μ 2 A 123 μ.1 0 ≤ m_saves μ 2 A 121 μ.1 0 ∧ (m_does μ cc a b (m_saves μ 2 A)).2 123 μ.1 0 ≤ (m_does μ cc a b (m_saves μ 2 A)).2 121 μ.1 0 ∧ (∀ (c : Nat) (y i : Int), c = 132 ∨ c = 133 ∨ c = 228 ∨ c = 236 → (m_does μ cc a b (m_saves μ 2 A)).2 c y i = A c y i) := by
  obtain ⟨h1, h2, h3⟩ := cal_pre h
  obtain ⟨d1, d2, d3, d4, d5⟩ := cal_does h hv hc
  have hL := LO.does h1 hv hc
  have hA := AP.does (μ := μ) (c := cc) (a := a) (b := b) (w := m_saves μ 2 A)
  have hz := h.2.2.1.2.2.1.2
  have e : m_saves μ 2 A 123 μ.1 0 ≤ m_saves μ 2 A 121 μ.1 0 := by rw [h3 _ _ _ (by decide), h3 _ _ _ (by decide)]; exact hz
  refine ⟨⟨h1, h2⟩, ⟨d1, d2⟩, e, ?_, fun c y i z => ?_⟩
  · rw [hL.2 123 _ _ (by decide) (by decide)]
    have := hA.2.1; omega
  · rcases z with rfl | rfl | rfl | rfl <;> rw [hL.2 _ _ _ (by decide) (by decide), h3 _ _ _ (by decide)]
end CAL
