/-! what else stands between calls: parts have steps, typing goes on, the traces' bounds, the listeners' answers -/
def IVn (μ : MU) (A : Mm) : Prop := NE μ A ∧ bTc 150010000 A ∧ (0 ≤ A 137 μ.1 0 ∧ A 137 μ.1 0 ≤ 8) ∧ ∀ j, 0 ≤ j → j < 3 → A 228 0 j = 0 ∨ A 228 0 j = 1
def IVS (μ : MU) (A : Mm) : Prop := IVn μ A ∧ TYP μ A
/-- what typing looks at is the same -/
def TYg (μ : MU) (A B : Mm) : Prop := (∀ c : Nat, (120 ≤ c ∧ c ≤ 124) ∨ c = 126 ∨ c = 129 ∨ c = 132 → B c μ.1 0 = A c μ.1 0) ∧ (∀ (c : Nat) (i : Int), 218 ≤ c → c ≤ 223 → B c 0 i = A c 0 i) ∧ (∀ i, 0 ≤ i → i < A 120 μ.1 0 → B 212 0 i = A 212 0 i) ∧ B 207 0 0 = A 207 0 0
/-- what a call that goes back finds -/
def RSg (μ : MU) (A X : Mm) : Prop := (X 214 0 2 = A 120 μ.1 0 ∧ X 215 0 2 = A 121 μ.1 0 ∧ X 207 0 2 = A 207 0 0) ∧ (∀ c : Nat, (122 ≤ c ∧ c ≤ 124) ∨ c = 126 ∨ c = 129 ∨ c = 132 → X c μ.1 0 = A c μ.1 0) ∧ (∀ (c : Nat) (i : Int), 218 ≤ c → c ≤ 223 → X c 0 i = A c 0 i) ∧ (∀ i, 0 ≤ i → i < A 120 μ.1 0 → X 212 0 i = A 212 0 i)
section IVSS
variable {μ : MU} {A B X Y : Mm} {S P M g c a b sort v k : Int} {PL : Int → List Int}
theorem IVn.cg (h : IVn μ A) (e : ∀ (c : Nat) (y i : Int), c = 124 ∨ c = 137 ∨ c = 220 ∨ c = 228 ∨ c = 244 ∨ c = 245 → B c y i = A c y i) : IVn μ B := by
  obtain ⟨h1, h2, h3, h4⟩ := h
  refine ⟨h1.cg (e _ _ _ (by decide)) (fun q => e _ _ _ (by decide)), fun t a b => ?_, by rw [e _ _ _ (by decide)]; exact h3, fun j j0 j1 => by rw [e _ _ _ (by decide)]; exact h4 j j0 j1⟩
  rw [e 244 _ _ (by decide), e 245 _ _ (by decide)]; exact h2 t a b
theorem IVn.mks (h : IVn μ A) (hs : A 122 μ.1 0 < A 120 μ.1 0) : IVn μ (m_mks μ g A) := by
  obtain ⟨h1, h2, h3, h4⟩ := h
  have e : ∀ {c : Nat} {y i : Int}, c = 137 ∨ c = 228 ∨ c = 244 ∨ c = 245 → m_mks μ g A c y i = A c y i := fun z => by
    unfold m_mks m_mrgs; rw [mrg_o (by omega), mk1_n (by omega)]
  refine ⟨h1.mks hs, fun t a b => ?_, by rw [e (by decide)]; exact h3, fun j j0 j1 => by rw [e (by decide)]; exact h4 j j0 j1⟩
  rw [e (c := 244) (by decide), e (c := 245) (by decide)]; exact h2 t a b
theorem IVn.ntf (h : IVn μ A) (hB : LB μ S P A) (hK : RK μ S P M A) : IVn μ (m_ntf μ A).2 := by
  have hN := (ntf_rk hB hK).1
  exact h.cg fun c y i z => hN.2 _ _ _ (by omega) (by omega) (by omega) (by omega) (by omega) (by omega)
theorem IVn.rest (h : IVn μ A) : IVn μ (m_rest μ a b A) := h.cg fun c y i z => rest_at (by omega)
theorem IVn.ends (h : IVn μ A) (hB : LB μ S P A) (hK : RK μ S P M A) (hz : A 122 μ.1 0 ≤ A 120 μ.1 0) : IVn μ (m_ends μ g A).2 := by
  have hN := ntf_rk hB hK
  have h120 := ntf_120 hB hK
  rcases ends_cases μ g A with ⟨e, -⟩ | ⟨e, -⟩ | ⟨e, -, -, z⟩
  · rw [e]; exact h
  · rw [e]; exact (h.ntf hB hK).rest
  · rw [e]
    refine (h.ntf hB hK).mks ?_
    rw [hN.1.2 122 _ _ (by decide) (by decide) (by decide) (by decide) (by decide) (by decide)]
    omega
theorem IVn.lo (h : IVn μ A) (g : LO A B) : IVn μ B := h.cg fun c y i z => g.2 _ _ _ (by omega) (by rcases z with rfl | rfl | rfl | rfl | rfl | rfl <;> decide)
theorem IVn.sav (h : IVn μ A) : IVn μ (m_saves μ a A) := h.cg fun c y i z => saves_at (by omega)
theorem TYP.tg (h : TYP μ A) (hY : bY μ A) (g : TYg μ A B) : TYP μ B := fun z => by
  obtain ⟨g1, g2, g3, g4⟩ := g
  rw [g1 129 (by decide)] at z
  obtain ⟨⟨h1, h2⟩, p0, v0, h3⟩ := h z
  have hy := (hY z).1
  rw [g1 129 (by decide), g1 126 (by decide), g1 132 (by decide)]
  refine ⟨⟨h1, h2⟩, p0, v0, ?_⟩
  unfold TYb at h3 ⊢
  have e3 := g3 (A 120 μ.1 0 - 1) (by omega) (by omega)
  simp (disch := decide) only [g1, g2, e3, g4]
  exact h3
theorem RSg.tg (h : RSg μ A X) : TYg μ A (m_rest μ 2 1 X) := by
  obtain ⟨⟨h1, h2, h3⟩, h4, h5, h6⟩ := h
  refine ⟨fun c z => ?_, fun c i z1 z2 => ?_, fun i i0 i1 => ?_, ?_⟩
  · by_cases c0 : c = 120
    · subst c0; rw [rest_120.1]; exact h1
    · by_cases c1 : c = 121
      · subst c1; rw [rest_120.2]; exact h2
      · rw [rest_at (by omega)]; exact h4 c (by omega)
  · rw [rest_at (by omega)]; exact h5 c i z1 z2
  · rw [rest_at (by omega)]; exact h6 i i0 i1
  · rw [rest_eq, up_k _ (by decide), up_k _ (by decide), cpy_207, if_pos rfl]; exact h3
theorem RSg.sav : RSg μ A (m_saves μ 2 (up A 139 μ.1 0 v)) := by
  have e : ∀ {c : Nat} {x i : Int}, c ≠ 139 → c < 200 ∨ (210 < c ∧ c ≠ 214 ∧ c ≠ 215) → m_saves μ 2 (up A 139 μ.1 0 v) c x i = A c x i := fun z y => by rw [saves_at y, up_k _ z]
  refine ⟨⟨?_, ?_, ?_⟩, fun c z => e (by omega) (by omega), fun c i z1 z2 => e (by omega) (by omega), fun i _ _ => e (by decide) (by decide)⟩
  · rw [saves_eq, up_k _ (by decide), up_s, up_k _ (by decide)]
  · rw [saves_eq, up_s, up_k _ (by decide)]
  · rw [saves_eq, up_k _ (by decide), up_k _ (by decide), cpy_207, if_pos rfl, up_k _ (by decide)]
theorem up_139 : A = up A 139 μ.1 0 (A 139 μ.1 0) := (up_sv rfl).symm
theorem RSg.sav0 : RSg μ A (m_saves μ 2 A) := by
  have h := RSg.sav (μ := μ) (A := A) (v := A 139 μ.1 0)
  rw [← up_139] at h; exact h
theorem RSg.lo (h : RSg μ A X) (g : LO X Y) (p : AP μ X Y) (hl : A 120 μ.1 0 ≤ X 120 μ.1 0) : RSg μ A Y := by
  obtain ⟨⟨h1, h2, h3⟩, h4, h5, h6⟩ := h
  have e : ∀ {c : Nat} {y i : Int}, (122 ≤ c ∧ c ≤ 124) ∨ c = 126 ∨ c = 129 ∨ c = 132 ∨ c = 214 ∨ c = 215 ∨ (218 ≤ c ∧ c ≤ 223) → Y c y i = X c y i := fun {c} {y} {i} z => g.2 _ _ _ (by omega) (by
    unfold LOk; simp only [Bool.or_eq_false_iff, beq_eq_false_iff_ne, ne_eq]; omega)
  refine ⟨⟨by rw [e (by decide)]; exact h1, by rw [e (by decide)]; exact h2, by rw [g.1 207 _ _ (by decide) (by decide) (by decide)]; exact h3⟩, fun c z => by rw [e (by omega)]; exact h4 c z, fun c i z1 z2 => by rw [e (by omega)]; exact h5 c i z1 z2, fun i i0 i1 => by rw [p.2.2.1 i i0 (by omega)]; exact h6 i i0 i1⟩
theorem RSg.ntf (h : RSg μ A X) (hB : LB μ S P X) (hK : RK μ S P M X) (hl : A 120 μ.1 0 ≤ X 120 μ.1 0) (z1 : X 122 μ.1 0 ≤ X 120 μ.1 0) (z2 : X 123 μ.1 0 ≤ X 121 μ.1 0) : RSg μ A (m_ntf μ X).2 := by
  have hN := (ntf_rk hB hK).1
  have p := (ntf_ts hB hK z1 z2).2
  obtain ⟨⟨h1, h2, h3⟩, h4, h5, h6⟩ := h
  have e : ∀ {c : Nat} {y i : Int}, c ≠ 200 ∧ c ≠ 212 ∧ c ≠ 120 ∧ (c < 232 ∨ 234 < c) → (m_ntf μ X).2 c y i = X c y i := fun z => hN.2 _ _ _ (by omega) (by omega) (by omega) (by omega) (by omega) (by omega)
  exact ⟨⟨by rw [e (by decide)]; exact h1, by rw [e (by decide)]; exact h2, by rw [e (by decide)]; exact h3⟩, fun c z => by rw [e (by omega)]; exact h4 c z, fun c i z1 z2 => by rw [e (by omega)]; exact h5 c i z1 z2, fun i i0 i1 => by rw [p.2.2.1 i i0 (by omega)]; exact h6 i i0 i1⟩
theorem TYg.o9 : TYg μ A (up A 139 μ.1 0 v) := ⟨fun c z => up_k _ (by omega) _ _ _ _ _, fun c i z1 z2 => up_k _ (by omega) _ _ _ _ _, fun i _ _ => up_k _ (by decide) _ _ _ _ _, up_k _ (by decide) _ _ _ _ _⟩
theorem TYg.t (h : TYg μ A B) (g : TYg μ B X) : TYg μ A X := ⟨fun c z => (g.1 c z).trans (h.1 c z), fun c i z1 z2 => (g.2.1 c i z1 z2).trans (h.2.1 c i z1 z2), fun i i0 i1 => (g.2.2.1 i i0 (by rw [h.1 120 (by decide)]; exact i1)).trans (h.2.2.1 i i0 i1), g.2.2.2.trans h.2.2.2⟩
theorem TYg.sav : TYg μ A (m_saves μ 2 A) := ⟨fun c z => saves_at (by omega), fun c i z1 z2 => saves_at (by omega), fun i _ _ => saves_at (by decide), by rw [saves_eq, up_k _ (by decide), up_k _ (by decide), cpy_207, if_neg (by decide)]⟩
theorem TYP.off (e : B 129 μ.1 0 = -1) : TYP μ B := fun z => absurd e z
theorem IVS.o9 (h : IVS μ A) (hR : RB μ S P M A) : IVS μ (up A 139 μ.1 0 v) := ⟨h.1.cg fun c y i z => up_k _ (by omega) _ _ _ _ _, h.2.tg hR.2.2.2 TYg.o9⟩
theorem IVS.cal (h : IVS μ A) (hR : RB μ S P M A) (hS : S ≤ 29000) (hP : P ≤ 510000) (hv : CV c a b) (hc : c ≤ 14) : IVS μ (m_cal μ c a b sort A).2 := by
  obtain ⟨⟨b1, b2⟩, ⟨b3, b4⟩, b5, b6, b7⟩ := cal_b hR hv hc
  have hY := hR.2.2.2
  have hz := hR.2.2.1.2.2.1
  have hlo := LO.does b1 hv hc
  have hap : AP μ (m_saves μ 2 A) (m_does μ c a b (m_saves μ 2 A)).2 := AP.does
  have e120 : m_saves μ 2 A 120 μ.1 0 = A 120 μ.1 0 := saves_at (by decide)
  have n1 := h.1.sav (a := 2)
  unfold m_cal
  split
  · exact ⟨n1.cg fun c y i z => up_k _ (by omega) _ _ _ _ _, h.2.tg hY (TYg.sav.t TYg.o9)⟩
  · have n2 := n1.lo hlo
    unfold m_ca1
    split
    · rename_i z
      refine ⟨n2.cg fun c y i z => up_k _ (by omega) _ _ _ _ _, h.2.tg hY ?_⟩
      have hd := (does_nn (μ := μ) (c := c) (a := a) (b := b) (w := m_saves μ 2 A)).2.2 (by omega)
      exact (TYg.sav.t ⟨fun c z => hd _ _ _ (by omega), fun c i z1 z2 => hd _ _ _ (by omega), fun i _ _ => hd _ _ _ (by decide), hd _ _ _ (by decide)⟩).t TYg.o9
    · have x1 : (m_does μ c a b (m_saves μ 2 A)).2 122 μ.1 0 = A 122 μ.1 0 := (hlo.2 _ _ _ (by decide) (by decide)).trans (saves_at (by decide))
      have x2 := hap.1
      have n3 := n2.ends (g := 0) b3 b4 (by omega)
      unfold m_ca2
      split
      · rename_i z
        refine ⟨n3.cg fun c y i z => up_k _ (by omega) _ _ _ _ _, h.2.tg hY ?_⟩
        rcases ends_cases μ 0 (m_does μ c a b (m_saves μ 2 A)).2 with ⟨e, -⟩ | ⟨e, -⟩ | ⟨e, -⟩
        · rw [e] at z; exact absurd z (by show ¬ ((1 : Int) = 0); decide)
        · rw [e]
          exact (((RSg.sav0 (μ := μ) (A := A)).lo hlo hap (by omega)).ntf b3 b4 (by omega) (by omega) b6).tg.t TYg.o9
        · rw [e] at z; exact absurd z (by show ¬ ((1 : Int) = 0); decide)
      · refine ⟨n3.cg fun c' y i z => ?_, TYP.off ?_⟩
        · show m_ca3 μ c a b (m_ends μ 0 (m_does μ c a b (m_saves μ 2 A)).2).2 c' y i = _
          unfold m_ca3; rw [rec_at (by omega), up_k _ (by omega), up_k _ (by omega)]
        · show m_ca3 μ c a b (m_ends μ 0 (m_does μ c a b (m_saves μ 2 A)).2).2 129 μ.1 0 = -1
          unfold m_ca3; rw [rec_at (by decide), up_s]
end IVSS
