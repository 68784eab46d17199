/-! what the listeners do keeps LIV, for some account of what the steps took -/
section LNC
variable {w A A' : Mm} {μ : MU} {k S P M v : Int} {ρ : Mm}
theorem LIV.nice : ∀ (n : Nat) (d : Int) (A : Mm) (G : Int → Int → Int), LIV μ G ρ A → 0 ≤ A 120 μ.1 0 → (0 ≤ A 121 μ.1 0 ∧ A 121 μ.1 0 ≤ 520000) → (0 ≤ A 201 0 0 ∧ A 201 0 0 ≤ 400) → bOt A → (m_nice μ n d A).1 = 1 → ∃ G', LIV μ G' ρ (m_nice μ n d A).2 ∧ ∀ k, 0 ≤ k → k < A 120 μ.1 0 → G' k = G k
  | 0, d, A, G, h, _, _, _, _, _ => ⟨G, h, fun _ _ _ => rfl⟩
  | n + 1, d, A, G, h, h0, h1, h2, h3, h4 => by
    unfold m_nice at h4 ⊢
    by_cases z : m_ff A = -1
    · rw [if_pos z]; exact ⟨G, h, fun _ _ _ => rfl⟩
    · rw [if_neg z] at h4 ⊢
      by_cases y : d = 8
      · rw [if_pos y] at h4
        exact absurd (show (0 : Int) = 1 from h4) (by decide)
      · rw [if_neg y] at h4 ⊢
        have o : ∀ {c : Nat} {a i : Int}, c ≠ 233 → up A 233 0 d (m_ff A) c a i = A c a i := fun q => up_k _ q _ _ _ _ _
        have hp := (pof_rng (A 229 0 (m_ff A)) A h2.1).resolve_left (ff_pof z)
        have hf := (ff_rng (w := A)).resolve_left z
        have hv := h3 (m_ff A) hf.1 (by omega)
        have hL : LIV μ G ρ (up A 233 0 d (m_ff A)) := h.cg (h.b0.2.2.2.cong fun i => o (by decide)) (fun c a i q => o (by omega))
        obtain ⟨B, hB⟩ : ∃ B, B = up A 233 0 d (m_ff A) := ⟨_, rfl⟩
        rw [← hB] at h4 hL o ⊢
        obtain ⟨G1, hG1⟩ : ∃ G1 : Int → Int → Int, G1 = fun k j => if k = A 120 μ.1 0 then A 200 0 (m_pof (A 229 0 (m_ff A)) A) else G k j := ⟨_, rfl⟩
        have e120 : B 120 μ.1 0 = A 120 μ.1 0 := o (by decide)
        have hr := hL.rep (G' := G1) (q := m_pof (A 229 0 (m_ff A)) A) (v := A 230 0 (m_ff A)) (by rw [o (by decide)]; exact h1) (by rw [o (by decide)]; exact h2.2) (by rw [o (by decide)]; exact ⟨hp.1, hp.2.1⟩) hv
          (fun k k0 k1 => by funext j; rw [hG1]; show (if _ then _ else _) = _; rw [if_neg (by omega)])
          (by rw [hG1, e120, o (by decide)]; show (if _ then _ else _) = _; rw [if_pos rfl])
        have e1 : ∀ {c : Nat} {a i : Int}, c ≠ 212 ∧ c ≠ 120 ∧ c ≠ 200 ∧ c ≠ 233 → m_rep μ (m_pof (A 229 0 (m_ff A)) A) (A 230 0 (m_ff A)) B c a i = A c a i := fun q => by rw [rep_at ⟨q.1, q.2.1, q.2.2.1⟩, o q.2.2.2]
        have e2 : m_rep μ (m_pof (A 229 0 (m_ff A)) A) (A 230 0 (m_ff A)) B 120 μ.1 0 = A 120 μ.1 0 + 1 := by rw [rep_120, e120]
        obtain ⟨G', g1, g2⟩ := LIV.nice n (d + 1) _ G1 hr (by rw [e2]; omega) (by rw [e1 (by decide)]; exact h1) (by rw [e1 (by decide)]; exact h2) (fun i i0 i1 => by rw [e1 (by decide)]; exact h3 i i0 i1) h4
        refine ⟨G', g1, fun k k0 k1 => ?_⟩
        rw [g2 k k0 (by rw [e2]; omega), hG1]
        funext j
        show (if _ then _ else _) = _
        rw [if_neg (by omega)]
theorem LIV.ntf {G : Int → Int → Int} (h : LIV μ G ρ A) (hpo : bPo A) (h0 : 0 ≤ A 120 μ.1 0) (h1 : 0 ≤ A 121 μ.1 0 ∧ A 121 μ.1 0 ≤ 520000) (h2 : 0 ≤ A 201 0 0 ∧ A 201 0 0 ≤ 400) (h3 : bOt A) (h4 : (m_ntf μ A).1 = 1) : ∃ G', LIV μ G' ρ (m_ntf μ A).2 ∧ ∀ k, 0 ≤ k → k < A 120 μ.1 0 → G' k = G k := by
  obtain ⟨g, -, e, -⟩ := ntf_ok (μ := μ) hpo
  rw [e] at h4 ⊢
  obtain ⟨G', g1, g2⟩ := LIV.nice 8 1 A G h h0 h1 h2 h3 h4
  refine ⟨G', LIV.cg (A' := ux g (m_nice μ 8 1 A).2) g1 (g1.b0.2.2.2.cong fun i => ux_k (f := g) (by decide)) (fun c a i q => ux_k (f := g) (by omega)), g2⟩
end LNC
