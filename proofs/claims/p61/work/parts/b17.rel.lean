/-! PTN with the tree: PTX; a whole call -/
def PTX (μ : MU) (A : Mm) : Prop := PTN μ A ∧ ∃ ρ G PL, TX μ ρ G PL A
/-- what a command starts from -/
def TLn (μ : MU) (S P M : Int) (A : Mm) : Prop := ∃ ρ G PL, TX μ ρ G PL A ∧ LIV μ G (ρ (A 126 μ.1 0)) A ∧ (LB μ S P A ∧ RK μ S P M A) ∧ PTN μ A ∧ A 123 μ.1 0 ≤ A 121 μ.1 0
section PT5
variable {A A' : Mm} {μ : MU} {S P M g c a b sort : Int} {PL : Int → List Int} {ρ : Int → Mm} {G : Int → Int → Int}
theorem PTX.app (z : PTX μ A) (hT : TB μ M A) (hT' : TB μ M A') (hM : M ≤ 600) (s1 : SB 1 A) (s2 : bB A) (hpb : bPb A) (t : TSx μ A A') (h6 : bPb A') : PTX μ A' := by
  obtain ⟨z, ρ, G, PL, h⟩ := z
  exact ⟨z.app h hT hT' hM s1 s2 hpb t h6, ρ, G, PL, h.app hT hM s1 s2 hpb t h6 (fun _ _ _ => rfl)⟩
theorem PTN.mks2 (z : PTN μ A) (h : MKo μ M ρ G PL A) (hTb : TB μ (M + 1) (m_mk1 μ g A)) (hp : A 207 0 0 ≤ A 201 0 0) (s2 : bB A) (h6 : bPb A) : PTX μ (m_mks μ g A) := by
  unfold m_mks m_mrgs
  obtain ⟨q1, PL', q2⟩ := (PTN.mrg 1000 0 _ _ (z.mk1 h hTb hp) (TX.mk1 h hTb).1 hTb (by have := h.2.2.2.1; omega) (h.2.2.2.2.1.cong fun c a i y z => mk1_n (by omega)) (s2.cong fun i => mk1_n (by decide)) (h6.cong fun i => mk1_n (by decide)))
  exact ⟨q1, _, _, _, q2⟩
theorem PTX.en (z : PTN μ A) (hTX : TX μ ρ G PL A) (hLV : LIV μ G (ρ (A 126 μ.1 0)) A) (hB : LB μ S P A) (hK : RK μ S P M A) (hS : S ≤ 29992) (hP : P ≤ 520000) (hM : M ≤ 599) (hl2 : A 123 μ.1 0 ≤ A 121 μ.1 0) (hg : 0 ≤ g ∧ g ≤ 3) : PTX μ (m_en2 μ g (m_ntf μ A)).2 := by
  have hl : 0 ≤ A 122 μ.1 0 ∧ A 122 μ.1 0 ≤ A 120 μ.1 0 := hLV.b0.1
  obtain ⟨hN, hB', hK', h01⟩ := ntf_rk hB hK
  obtain ⟨hts, hap⟩ := ntf_ts hB hK hl.2 hl2
  have hT := hK.2.2.2.1
  have hT' := hK'.2.2.2.1
  have e : ∀ (c : Nat) (a i : Int), c ≠ 200 → c ≠ 212 → c ≠ 120 → c ≠ 232 → c ≠ 233 → c ≠ 234 → (m_ntf μ A).2 c a i = A c a i := hN.2
  have hp6' : bPb (m_ntf μ A).2 := hLV.b0.2.2.1.cong fun i => by rw [e _ _ _ (by decide) (by decide) (by decide) (by decide) (by decide) (by decide)]
  have e126 : (m_ntf μ A).2 126 μ.1 0 = A 126 μ.1 0 := hts.1.2.1 126 (by decide) (by decide)
  unfold m_en2
  rcases h01 with h0 | h1
  · rw [if_pos h0]
    have r0 : ∀ {c : Nat} {x i : Int}, (c < 200 ∧ c ≠ 120 ∧ c ≠ 121) ∨ 210 < c → m_rest μ 2 1 (m_ntf μ A).2 c x i = (m_ntf μ A).2 c x i := fun z => rest_at z
    have rr : ∀ {c : Nat} {x i : Int}, (122 ≤ c ∧ c ≤ 128) ∨ c = 211 ∨ (216 ≤ c ∧ c ≤ 225) ∨ c = 227 → m_rest μ 2 1 (m_ntf μ A).2 c x i = A c x i := fun z => by rw [r0 (by omega), e _ _ _ (by omega) (by omega) (by omega) (by omega) (by omega) (by omega)]
    have hp6 : bPb (m_rest μ 2 1 (m_ntf μ A).2) := hp6'.cong fun i => r0 (by decide)
    have tR : TSx μ A (m_rest μ 2 1 (m_ntf μ A).2) := TSx.of (fun c a i z => rr (by omega)) (fun i i0 i1 => by rw [r0 (by decide)]; exact hts.1.2.2.1 i i0 i1) (fun j j0 j1 => (pby_cong (r0 (by decide))).trans (hts.1.2.2.2 j j0 j1))
    exact PTX.app ⟨z, ρ, G, PL, hTX⟩ hT (hT.cong fun c a i q => rr (by omega)) (by omega) hK.2.2.1 hB.2.2.1 hLV.b0.2.2.1 tR hp6
  · rw [if_neg (by omega)]
    have hOt := hK.2.2.2.2.2.1
    obtain ⟨G', g1, g2⟩ := hLV.ntf hK.2.2.2.2.1 (by omega) ⟨hB.2.2.2.2.2.1, by have := hB.2.2.2.2.2.2; omega⟩ hB.1.1 hOt h1
    have hX := hTX.app (G' := G') hT (by omega) hK.2.2.1 hB.2.2.1 hLV.b0.2.2.1 hts hp6' (fun k k0 k1 => g2 k k0 (by omega))
    have e122 : (m_ntf μ A).2 122 μ.1 0 = A 122 μ.1 0 := hts.1.2.1 122 (by decide) (by decide)
    have e123 : (m_ntf μ A).2 123 μ.1 0 = A 123 μ.1 0 := hts.1.2.1 123 (by decide) (by decide)
    have h7 := VB_f hB'.1.1 hB'.2.1
    have b1 := hB'.2.2.2.2.1
    have b2 := hB'.2.2.2.2.2
    have b3 := hap.1
    have b4 := hap.2.1
    have hl7 := hB'.1.1.2
    refine (z.app hTX hT hT' (by omega) hK.2.2.1 hB.2.2.1 hLV.b0.2.2.1 hts hp6').mks2 ⟨hX, by rw [e126]; exact g1, hT', hM, hK'.2.2.1, by omega, by rw [e123]; have := hB.2.2.2.2.2.2; omega, by rw [e123]; omega⟩ (hT'.mk1 hg ⟨by omega, by omega⟩ ⟨b2.1, by omega⟩ ⟨by omega, by omega⟩) (by omega) hB'.2.2.1 hp6'
theorem TLn.sav (h : TLn μ S P M A) (hM : M ≤ 600) : TLn μ S P M (m_saves μ 2 A) := by
  obtain ⟨ρ, G, PL, h1, h2, ⟨hB, hK⟩, h4, h5⟩ := h
  have hT := hK.2.2.2.1
  have hSB := hB.1
  have hK' := hK.saves hB (a := 2) (by decide)
  have e : ∀ {c : Nat} {x i : Int}, c < 200 ∨ (210 < c ∧ c ≠ 214 ∧ c ≠ 215) → m_saves μ 2 A c x i = A c x i := fun z => saves_at z
  have t : TSx μ A (m_saves μ 2 A) := TSx.of (fun c a i z => e (by omega)) (fun i _ _ => e (by decide)) (fun j _ _ => pby_cong (e (by decide)))
  have h6 : bPb (m_saves μ 2 A) := h2.b0.2.2.1.cong fun i => e (by decide)
  refine ⟨ρ, G, PL, h1.app hT hM hK.2.2.1 h2.b0.2.2.2 h2.b0.2.2.1 t h6 (fun _ _ _ => rfl), ?_, ⟨hB.saves (by decide), hK'⟩, h4.app h1 hT hK'.2.2.2.1 hM hK.2.2.1 h2.b0.2.2.2 h2.b0.2.2.1 t h6, by rw [e (by decide), e (by decide)]; exact h5⟩
  rw [e (c := 126) (by decide)]
  refine h2.keep (e (by decide)) (e (by decide)) (e (by decide)) (e (by decide)) (fun j _ _ => e (by decide)) (fun j _ _ => pby_cong (e (by decide))) (h2.b0.2.2.2.cong fun i => e (by decide)) h6 (fun r => e (by decide)) ((EQv.s0 hSB.2.2.2.2.1 hSB.2.2.2.1 hSB.1 fun k i x y i0 i1 => ?_).mono fun _ _ _ _ => trivial)
  rw [saves_cpy k i x (by omega)]
  exact cpy_o ⟨x, by omega⟩ (Or.inl (by omega)) hSB.1.2
theorem TLn.does (h : TLn μ S P M A) (hM : M ≤ 600) (hP : P ≤ 519900) (hv : CV c a b) (hc : c ≤ 14) : TLn μ (S + 2) (P + 20) M (m_does μ c a b A).2 := by
  obtain ⟨ρ, G, PL, h1, h2, ⟨hB, hK⟩, h4, h5⟩ := h
  have hT := hK.2.2.2.1
  have hlo := LO.does hB hv hc
  have hap : AP μ A (m_does μ c a b A).2 := AP.does
  have hB' := hB.does hv
  have hK' := (hK.lo hlo).mono (S' := S + 2) (P' := P + 20) (by omega) (by omega)
  have hN := hB.2.2.2.2
  obtain ⟨G', g1, g2⟩ := h2.dos ⟨hN.2.1, by have := hN.2; omega⟩ hB.1 hB.2.1 hv hc hB'.2.2.1
  have hl := h2.b0.1
  have e126 : (m_does μ c a b A).2 126 μ.1 0 = A 126 μ.1 0 := hlo.2 _ _ _ (by decide) (by decide)
  have e123 : (m_does μ c a b A).2 123 μ.1 0 = A 123 μ.1 0 := hlo.2 _ _ _ (by decide) (by decide)
  have hlos : ∀ (k : Nat) (a' i : Int), (122 ≤ k ∧ k ≤ 126) ∨ k = 211 ∨ (216 ≤ k ∧ k ≤ 225) ∨ k = 227 → (m_does μ c a b A).2 k a' i = A k a' i := fun k a' i z => hlo.2 k a' i (by omega) (by
    rcases z with z | z | z | z
    · have : k = 122 ∨ k = 123 ∨ k = 124 ∨ k = 125 ∨ k = 126 := by omega
      rcases this with rfl | rfl | rfl | rfl | rfl <;> decide
    · subst z; decide
    · have : k = 216 ∨ k = 217 ∨ k = 218 ∨ k = 219 ∨ k = 220 ∨ k = 221 ∨ k = 222 ∨ k = 223 ∨ k = 224 ∨ k = 225 := by omega
      rcases this with rfl | rfl | rfl | rfl | rfl | rfl | rfl | rfl | rfl | rfl <;> decide
    · subst z; decide)
  have t : TSx μ A (m_does μ c a b A).2 := TSx.of hlos (fun i i0 i1 => hap.2.2.1 i i0 (by omega)) (fun j j0 j1 => hap.2.2.2 j j0 (by omega))
  refine ⟨ρ, G', PL, h1.app hT hM hK.2.2.1 hB.2.2.1 h2.b0.2.2.1 t g1.b0.2.2.1 (fun k k0 k1 => g2 k k0 (by omega)), by rw [e126]; exact g1, ⟨hB', hK'⟩, h4.app h1 hT hK'.2.2.2.1 hM hK.2.2.1 hB.2.2.1 h2.b0.2.2.1 t g1.b0.2.2.1, by rw [e123]; have := hap.2.1; omega⟩
theorem TLn.ends (h : TLn μ S P M A) (hS : S ≤ 29992) (hP : P ≤ 520000) (hM : M ≤ 599) (hg : 0 ≤ g ∧ g ≤ 3) : PTX μ (m_ends μ g A).2 := by
  obtain ⟨ρ, G, PL, h1, h2, ⟨hB, hK⟩, h4, h5⟩ := h
  unfold m_ends
  split
  · exact ⟨h4, _, _, _, h1⟩
  · exact PTX.en h4 h1 h2 hB hK hS hP hM h5 hg
end PT5
