/-! PTX through a call -/
section PT6
variable {p : RP} {w A A' : Mm} {μ : MU} {f S P M g c a b sort v : Int} {PL : Int → List Int} {ρ : Int → Mm} {G : Int → Int → Int}
theorem PTX.fld (z : PTX μ A) (hT : TB μ M A) (hM : M ≤ 600) (s1 : SB 1 A) (s2 : bB A) (hpb : bPb A) (e : ∀ (c : Nat) (a i : Int), (122 ≤ c ∧ c ≤ 128) ∨ (211 ≤ c ∧ c ≤ 213) ∨ (216 ≤ c ∧ c ≤ 227) → A' c a i = A c a i) : PTX μ A' :=
  z.app hT (hT.cong fun c a i q => e c a i (by omega)) hM s1 s2 hpb (TSx.of (fun c a i q => e c a i (by omega)) (fun i _ _ => e _ _ _ (by omega)) (fun j _ _ => pby_cong (e _ _ _ (by omega)))) (hpb.cong fun i => e _ _ _ (by omega))
theorem TLn.x (h : TLn μ S P M A) : PTX μ A ∧ TB μ M A ∧ SB 1 A ∧ bB A ∧ bPb A := by
  obtain ⟨ρ, G, PL, h1, h2, ⟨hB, hK⟩, h4, h5⟩ := h
  exact ⟨⟨h4, _, _, _, h1⟩, hK.2.2.2.1, hK.2.2.1, hB.2.2.1, h2.b0.2.2.1⟩
theorem PTX.cal (h : TLn μ S P M A) (hS : S ≤ 29000) (hP : P ≤ 510000) (hM : M ≤ 599) (hv : CV c a b) (hc : c ≤ 14) : PTX μ (m_cal μ c a b sort A).2 := by
  have h1 := h.sav (by omega)
  obtain ⟨x1, x2, x3, x4, x5⟩ := h1.x
  unfold m_cal
  split
  · exact x1.fld x2 (by omega) x3 x4 x5 (fun c a i q => up_k _ (by omega) _ _ _ _ _)
  · have h2 := h1.does (by omega) (by omega) hv hc
    obtain ⟨y1, y2, y3, y4, y5⟩ := h2.x
    unfold m_ca1
    split
    · exact y1.fld y2 (by omega) y3 y4 y5 (fun c a i q => up_k _ (by omega) _ _ _ _ _)
    · have h3 := h2.ends (g := 0) (by omega) (by omega) hM (by decide)
      obtain ⟨ρ, G, PL, -, g2, ⟨hB, hK⟩, -⟩ := h2
      obtain ⟨k1, k2, k3⟩ := ends_ok (g := 0) hB hK g2.b0.1.2 (by decide) (by omega) (by omega)
      have k6 : bPb (m_ends μ 0 (m_does μ c a b (m_saves μ 2 A)).2).2 := g2.b0.2.2.1.cong fun i => k3 _ _ _ (by decide)
      unfold m_ca2
      split
      · exact h3.fld k2.2.2.2.1 (by omega) k2.2.2.1 k1.2.2.1 k6 (fun c a i q => up_k _ (by omega) _ _ _ _ _)
      · refine h3.fld k2.2.2.2.1 (by omega) k2.2.2.1 k1.2.2.1 k6 (fun c' a' i q => ?_)
        show m_ca3 μ c a b (m_ends μ 0 (m_does μ c a b (m_saves μ 2 A)).2).2 c' a' i = _
        unfold m_ca3
        rw [rec_at (by omega), up_k _ (by omega), up_k _ (by omega)]
theorem CHB.tl (h : CHB p μ f (lvL p μ A) w A) (hR : RB μ S P M A) (g : PTN μ A) : TLn μ S P M A :=
  ⟨_, _, _, h.2.1, h.2.2, ⟨hR.1, hR.2.1⟩, g, hR.2.2.1.2.2.1.2⟩
end PT6
