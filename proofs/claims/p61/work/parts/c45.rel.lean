/-! IVS and PTX through undoIn -/
section UNV
variable {A B V X Y W0 OL : Mm} {μ : MU} {S P M v : Int}
theorem FDV.tyg (h : FDV A V) : TYg μ A V := ⟨fun c z => h _ _ _ (by omega) (by omega) (by omega) (by omega) (by omega) (by omega), fun c i z1 z2 => h _ _ _ (by omega) (by omega) (by omega) (by omega) (by omega) (by omega), fun i _ _ => h _ _ _ (by decide) (by decide) (by decide) (by decide) (by decide) (by decide), h _ _ _ (by decide) (by decide) (by decide) (by decide) (by decide) (by decide)⟩
theorem RSg.savg (g : TYg μ A B) : RSg μ A (m_saves μ 2 B) := by
  have e : ∀ {c : Nat} {x i : Int}, c < 200 ∨ (210 < c ∧ c ≠ 214 ∧ c ≠ 215) → m_saves μ 2 B c x i = B c x i := fun y => saves_at y
  refine ⟨⟨?_, ?_, ?_⟩, fun c z => (e (by omega)).trans (g.1 c (by omega)), fun c i z1 z2 => (e (by omega)).trans (g.2.1 c i z1 z2), fun i i0 i1 => (e (by decide)).trans (g.2.2.1 i i0 i1)⟩
  · rw [saves_214.1]; exact g.1 120 (by decide)
  · rw [saves_214.2]; exact g.1 121 (by decide)
  · rw [saves_eq, up_k _ (by decide), up_k _ (by decide), cpy_207, if_pos rfl]; exact g.2.2.2
theorem RSg.of (h : RSg μ A X) (o : OF μ X Y) (hl : A 120 μ.1 0 ≤ X 120 μ.1 0) : RSg μ A Y := by
  obtain ⟨⟨h1, h2, h3⟩, h4, h5, h6⟩ := h
  have e : ∀ {c : Nat} {y i : Int}, (122 ≤ c ∧ c ≤ 124) ∨ c = 126 ∨ c = 129 ∨ c = 132 ∨ c = 214 ∨ c = 215 ∨ (218 ≤ c ∧ c ≤ 223) → Y c y i = X c y i := fun z => o.1 _ _ _ (by unfold opK; exact decide_eq_false (by omega))
  exact ⟨⟨(e (by decide)).trans h1, (e (by decide)).trans h2, (o.2.1 207 0 2 (by decide) (by decide) (by decide)).trans h3⟩, fun c z => (e (by omega)).trans (h4 c z), fun c i z1 z2 => (e (by omega)).trans (h5 c i z1 z2), fun i i0 i1 => (o.2.2.2.2.1 i i0 (by omega)).trans (h6 i i0 i1)⟩
theorem IVS.fdv (h : IVS μ A) (hR : RB μ S P M A) (fd : FDV A V) (hb : bTc 150010000 V) (h8 : 0 ≤ V 137 μ.1 0 ∧ V 137 μ.1 0 ≤ 8) : IVS μ V := by
  have e : ∀ {c : Nat} {y i : Int}, c = 124 ∨ c = 220 ∨ c = 228 → V c y i = A c y i := fun z => fd _ _ _ (by omega) (by omega) (by omega) (by omega) (by omega) (by omega)
  exact ⟨⟨h.1.1.cg (e (by decide)) (fun q => e (by decide)), hb, h8, fun j j0 j1 => by rw [e (by decide)]; exact h.1.2.2.2 j j0 j1⟩, h.2.tg hR.2.2.2 fd.tyg⟩
theorem PTX.fdv (z : PTX μ A) (hR : RB μ S P M A) (hM : M ≤ 598) (hpb : bPb A) (fd : FDV A V) (hT' : TB μ M V) (h6 : bPb V) : PTX μ V :=
  z.app hR.2.1.2.2.2.1 hT' (by omega) hR.2.1.2.2.1 hR.1.2.2.1 hpb (TSx.of (fun c a i q => fd _ _ _ (by omega) (by omega) (by omega) (by omega) (by omega) (by omega)) (fun i _ _ => fd _ _ _ (by decide) (by decide) (by decide) (by decide) (by decide) (by decide)) (fun j _ _ => pby_cong (fd _ _ _ (by decide) (by decide) (by decide) (by decide) (by decide) (by decide)))) h6
theorem und_ol (h : IVS μ A) (hR : RB μ S P M A) (hM : M ≤ 598) (z : PTX μ A) (hpb : bPb A) (fd : FDV A V) (h8 : 0 ≤ V 137 μ.1 0 ∧ V 137 μ.1 0 ≤ 8) (o : OF μ (m_saves μ 2 V) OL) (hbt : bTc 150010000 OL) (hT' : TB μ M OL) (h6 : bPb OL) : IVn μ OL ∧ RSg μ A OL ∧ PTX μ OL := by
  have hz := hR.2.2.1.2.2.1
  have eV : ∀ {c : Nat} {y i : Int}, (120 ≤ c ∧ c ≤ 126) ∨ (211 ≤ c ∧ c ≤ 213) ∨ (216 ≤ c ∧ c ≤ 225) ∨ c = 227 ∨ c = 228 → m_saves μ 2 V c y i = A c y i := fun q => by
    rw [saves_at (by omega)]; exact fd _ _ _ (by omega) (by omega) (by omega) (by omega) (by omega) (by omega)
  have e : ∀ {c : Nat} {y i : Int}, (122 ≤ c ∧ c ≤ 126) ∨ c = 211 ∨ (216 ≤ c ∧ c ≤ 225) ∨ c = 227 ∨ c = 228 → OL c y i = A c y i := fun q => by
    rw [o.1 _ _ _ (by unfold opK; exact decide_eq_false (by omega))]; exact eV (by omega)
  have e120 := eV (c := 120) (y := μ.1) (i := 0) (by decide)
  have e121 := eV (c := 121) (y := μ.1) (i := 0) (by decide)
  refine ⟨⟨h.1.1.cg (e (by decide)) (fun q => e (by decide)), hbt, ?_, fun j j0 j1 => by rw [e (by decide)]; exact h.1.2.2.2 j j0 j1⟩, (RSg.savg fd.tyg).of o (by omega), ?_⟩
  · rw [o.1 _ _ _ (by decide), saves_at (by decide)]; exact h8
  · refine z.app hR.2.1.2.2.2.1 hT' (by omega) hR.2.1.2.2.1 hR.1.2.2.1 hpb (TSx.of (fun c a i q => e (by omega)) (fun i i0 i1 => ?_) (fun j j0 j1 => ?_)) h6
    · rw [o.2.2.2.2.1 i i0 (by omega)]; exact eV (by decide)
    · rw [o.2.2.2.2.2 j j0 (by omega)]; exact pby_cong (eV (by decide))
theorem PTX.rst (z : PTX μ A) (hT : TB μ M A) (hM : M ≤ 600) (s1 : SB 1 A) (s2 : bB A) (hpb : bPb A) {a b : Int} : PTX μ (m_rest μ a b A) := by
  have r0 : ∀ {c : Nat} {x i : Int}, (c < 200 ∧ c ≠ 120 ∧ c ≠ 121) ∨ 210 < c → m_rest μ a b A c x i = A c x i := fun z => rest_at z
  exact z.app hT (hT.cong fun c a i q => r0 (by omega)) hM s1 s2 hpb (TSx.of (fun c a i q => r0 (by omega)) (fun i _ _ => r0 (by decide)) (fun j _ _ => pby_cong (r0 (by decide)))) (hpb.cong fun i => r0 (by decide))
/-- a call that goes back: bounds again -/
theorem RB.back (h : RB μ S P M A) (g : RSg μ A X) (g2 : X 201 0 2 = A 201 0 0 ∧ X 130 μ.1 0 = A 130 μ.1 0 ∧ X 133 μ.1 0 = A 133 μ.1 0) {S' P' S2 P2 M' : Int} (hB : LB μ S2 P2 X) (hK : RK μ S' P' M' X) : RB μ S' P' M' (m_rest μ 2 1 X) := by
  obtain ⟨⟨g3, g4, g5⟩, g6, g7, g8⟩ := g
  obtain ⟨z1, z2, z3, z4, z5⟩ := h.2.2.1
  have r0 : ∀ {c : Nat} {x i : Int}, (c < 200 ∧ c ≠ 120 ∧ c ≠ 121) ∨ 210 < c → m_rest μ 2 1 X c x i = X c x i := fun z => rest_at z
  refine ⟨hB.rest hK.1, hK.rest (Or.inl rfl), ?_, ?_⟩
  · unfold bZ
    rw [rest_120.1, rest_120.2, r0 (by decide), r0 (by decide), r0 (by decide), r0 (by decide), r0 (by decide), g3, g4, g6 132 (by decide), g6 122 (by decide), g6 123 (by decide), g2.2.1, g2.2.2]
    exact ⟨z1, z2, z3, z4, z5⟩
  · unfold bY
    rw [rest_120.1, r0 (by decide), r0 (by decide), g3, g6 129 (by decide), rest_201, if_pos rfl, g2.1]
    intro z
    have hy := h.2.2.2 z
    rw [g8 _ (by omega) (by omega)]
    exact hy
theorem up_139_129 {v u : Int} : up (up A 139 μ.1 0 v) 129 μ.1 0 u = up (up A 129 μ.1 0 u) 139 μ.1 0 v := up_comm (Or.inl (by decide))
end UNV
