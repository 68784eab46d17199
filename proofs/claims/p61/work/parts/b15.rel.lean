/-! a call's end keeps where the nodes' points stand -/
section PT4
variable {A : Mm} {μ : MU} {S P M g : Int} {PL : Int → List Int} {ρ : Int → Mm} {G : Int → Int → Int}
theorem PTN.en (z : PTN μ A) (hTX : TX μ ρ G PL A) (hLV : LIV μ G (ρ (A 126 μ.1 0)) A) (hB : LB μ S P A) (hK : RK μ S P M A) (hS : S ≤ 29992) (hP : P ≤ 520000) (hM : M ≤ 599) (hl2 : A 123 μ.1 0 ≤ A 121 μ.1 0) (hg : 0 ≤ g ∧ g ≤ 3) : PTN μ (m_en2 μ g (m_ntf μ A)).2 := by
  have hl : 0 ≤ A 122 μ.1 0 ∧ A 122 μ.1 0 ≤ A 120 μ.1 0 := hLV.b0.1
  obtain ⟨hN, hB', hK', h01⟩ := ntf_rk hB hK
  obtain ⟨hts, hap⟩ := ntf_ts hB hK hl.2 hl2
  have hT := hK.2.2.2.1
  have hT' := hK'.2.2.2.1
  have e : ∀ (c : Nat) (a i : Int), c ≠ 200 → c ≠ 212 → c ≠ 120 → c ≠ 232 → c ≠ 233 → c ≠ 234 → (m_ntf μ A).2 c a i = A c a i := hN.2
  have hp6' : bPb (m_ntf μ A).2 := hLV.b0.2.2.1.cong fun i => by rw [e _ _ _ (by decide) (by decide) (by decide) (by decide) (by decide) (by decide)]
  have e126 : (m_ntf μ A).2 126 μ.1 0 = A 126 μ.1 0 := hts.1.2.1 126 (by decide) (by decide)
  unfold m_en2
  rcases h01 with h0 | h1
  · rw [if_pos h0]
    have r0 : ∀ {c : Nat} {x i : Int}, (c < 200 ∧ c ≠ 120 ∧ c ≠ 121) ∨ 210 < c → m_rest μ 2 1 (m_ntf μ A).2 c x i = (m_ntf μ A).2 c x i := fun z => rest_at z
    have rr : ∀ {c : Nat} {x i : Int}, (122 ≤ c ∧ c ≤ 128) ∨ c = 211 ∨ (216 ≤ c ∧ c ≤ 225) ∨ c = 227 → m_rest μ 2 1 (m_ntf μ A).2 c x i = A c x i := fun z => by rw [r0 (by omega), e _ _ _ (by omega) (by omega) (by omega) (by omega) (by omega) (by omega)]
    have hp6 : bPb (m_rest μ 2 1 (m_ntf μ A).2) := hp6'.cong fun i => r0 (by decide)
    have tR : TSx μ A (m_rest μ 2 1 (m_ntf μ A).2) := TSx.of (fun c a i z => rr (by omega)) (fun i i0 i1 => by rw [r0 (by decide)]; exact hts.1.2.2.1 i i0 i1) (fun j j0 j1 => (pby_cong (r0 (by decide))).trans (hts.1.2.2.2 j j0 j1))
    exact z.app hTX hT (hT.cong fun c a i q => rr (by omega)) (by omega) hK.2.2.1 hB.2.2.1 hLV.b0.2.2.1 tR hp6
  · rw [if_neg (by omega)]
    have hOt := hK.2.2.2.2.2.1
    obtain ⟨G', g1, g2⟩ := hLV.ntf hK.2.2.2.2.1 (by omega) ⟨hB.2.2.2.2.2.1, by have := hB.2.2.2.2.2.2; omega⟩ hB.1.1 hOt h1
    have hX := hTX.app (G' := G') hT (by omega) hK.2.2.1 hB.2.2.1 hLV.b0.2.2.1 hts hp6' (fun k k0 k1 => g2 k k0 (by omega))
    have e122 : (m_ntf μ A).2 122 μ.1 0 = A 122 μ.1 0 := hts.1.2.1 122 (by decide) (by decide)
    have e123 : (m_ntf μ A).2 123 μ.1 0 = A 123 μ.1 0 := hts.1.2.1 123 (by decide) (by decide)
    have h7 := VB_f hB'.1.1 hB'.2.1
    have b1 := hB'.2.2.2.2.1
    have b2 := hB'.2.2.2.2.2
    have b3 := hap.1
    have b4 := hap.2.1
    have hl7 := hB'.1.1.2
    refine (z.app hTX hT hT' (by omega) hK.2.2.1 hB.2.2.1 hLV.b0.2.2.1 hts hp6').mks ⟨hX, by rw [e126]; exact g1, hT', hM, hK'.2.2.1, by omega, by rw [e123]; have := hB.2.2.2.2.2.2; omega, by rw [e123]; omega⟩ (hT'.mk1 hg ⟨by omega, by omega⟩ ⟨b2.1, by omega⟩ ⟨by omega, by omega⟩) (by omega) hB'.2.2.1 hp6'
end PT4
