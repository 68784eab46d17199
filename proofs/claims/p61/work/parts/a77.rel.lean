/-! what is asked of a live desk's state that is kept in a node -/
section KPS
variable {p : RP} {c : Int → Int} {w w2 W A V : Mm} {μ : MU} {f x q1 q2 a1 a2 a3 a4 n pp m b b' s o i : Int} {L : List Int}
theorem sSt.toSD (hs : sSt c b w s) (ho : sSt c b' w o) (hb : b + 4 < b' ∨ b' + 4 < b) : SD w s o := by
  obtain ⟨⟨s1, s2⟩, ⟨b1, b2⟩, ⟨c1, c2, c3⟩, ⟨d1, d2, d3⟩, e1, e2, e3⟩ := hs
  obtain ⟨⟨S1, S2⟩, ⟨B1, B2⟩, ⟨C1, C2, C3⟩, ⟨D1, D2, D3⟩, E1, E2, E3⟩ := ho
  exact ⟨ne_c s2 S2 (by omega), ne_c b2 B2 (by omega), ne_c b2 C3 (by omega), ne_c c3 C3 (by omega), ne_c c3 B2 (by omega), ne_c d3 D3 (by omega), ne_c e3 E3 (by omega)⟩
/-- what there is of a state that stays as it was -/
theorem live_cg (h : ST w s ∧ SZ w s ∧ SBt w s ∧ SE w s) (e : ∀ (k : Nat) (a i : Int), w 0 a 0 ≠ 0 → k = 0 ∨ k = 1 ∨ k = 2 ∨ k = 3 ∨ (28 ≤ k ∧ k ≤ 31) ∨ k = 67 → W k a i = w k a i) : ST W s ∧ SZ W s ∧ SBt W s ∧ SE W s := by
  obtain ⟨⟨s0, ⟨s1, s2, s3, s4⟩, ⟨s5, s6, s7⟩, s8⟩, ⟨z0, z1, z2⟩, hB, hE⟩ := h
  have q28 : W 28 s 0 = w 28 s 0 := e _ _ _ (by omega) (by omega)
  have q29 : W 29 s 0 = w 29 s 0 := e _ _ _ (by omega) (by omega)
  have q30 : W 30 s 0 = w 30 s 0 := e _ _ _ (by omega) (by omega)
  have q31 : W 31 s 0 = w 31 s 0 := e _ _ _ (by omega) (by omega)
  have q67 : W 67 s 0 = w 67 s 0 := e _ _ _ (by omega) (by omega)
  have t : ∀ {a v : Int}, w 0 a 0 = v → v ≠ 0 → W 0 a 0 = v := fun z z2 => by rw [e 0 _ _ (by omega) (by omega)]; exact z
  unfold ST SZ SBt SE
  rw [q28, q29, q30, q31, q67]
  refine ⟨⟨t s0 (by decide), ⟨t s1 (by decide), t s2 (by decide), t s3 (by decide), t s4 (by decide)⟩, ⟨?_, ?_, ?_⟩, s8⟩, ⟨z0, ?_, ?_⟩, fun i i0 i1 => ?_, fun i i0 i1 => ?_⟩
  · rw [e 2 _ _ (by omega) (by omega)]; exact s5
  · rw [e 2 _ _ (by omega) (by omega)]; exact s6
  · rw [e 2 _ _ (by omega) (by omega)]; exact s7
  · rw [e 2 _ _ (by omega) (by omega)]; exact z1
  · rw [e 2 _ _ (by omega) (by omega)]; exact z2
  · rw [e 1 _ _ (by omega) (by omega)]; exact hB i i0 i1
  · rw [e 3 _ _ (by omega) (by omega)]
    exact (hE i i0 i1).imp id fun z => t z (by decide)
theorem RLm.lvs (h : RLm p μ f L w A) : ST w (w 11 (w 41 f 0) 0) ∧ SZ w (w 11 (w 41 f 0) 0) ∧ SBt w (w 11 (w 41 f 0) 0) ∧ SE w (w 11 (w 41 f 0) 0) := by
  have hv := h.2.2.1.1.1
  exact ⟨h.1.2.2.1.1.1.2.1.toST, hv.1.toSZ, hv.1.toSB, hv.toSE⟩
/-- the new node's state beside the live one -/
theorem NWN.st (hN : NWN w w2 x q1 q2 a1 a2 a3 a4 n pp m) (e : ∀ (k : Nat) (i : Int), k = 0 ∨ k = 2 ∨ (28 ≤ k ∧ k ≤ 31) → ∀ a, W k a i = w2 k a i) : ST W q2 ∧ (W 28 q2 0 = a4 ∧ W 29 q2 0 = a1 ∧ W 30 q2 0 = a2 ∧ W 31 q2 0 = a3) := by
  obtain ⟨ng, nd, no, hx, hr, ⟨s0, s28, s29, s30, s31, s67⟩, ⟨b10, b12, b11⟩, ⟨b20, b22, b21⟩, ⟨b30, b32, b33⟩, b40, b42⟩ := hN
  have q28 : W 28 q2 0 = a4 := by rw [e _ _ (by omega)]; exact s28
  have q29 : W 29 q2 0 = a1 := by rw [e _ _ (by omega)]; exact s29
  have q30 : W 30 q2 0 = a2 := by rw [e _ _ (by omega)]; exact s30
  have q31 : W 31 q2 0 = a3 := by rw [e _ _ (by omega)]; exact s31
  refine ⟨?_, q28, q29, q30, q31⟩
  unfold ST
  rw [q28, q29, q30, q31, e 0 _ (by omega), e 0 _ (by omega), e 0 _ (by omega), e 0 _ (by omega), e 0 _ (by omega), e 2 _ (by omega), e 2 _ (by omega), e 2 _ (by omega)]
  exact ⟨s0, ⟨b40, b10, b20, b30⟩, ⟨b12, b22, b32⟩, nd.2.2.2.1.2.2.symm⟩
theorem mrg_o {c : Nat} {a i : Int} (h : c ≠ 125 ∧ (c < 216 ∨ 225 < c)) : ∀ (k : Nat) (j : Int) (B : Mm), (m_mrg μ k j B).2 c a i = B c a i
  | 0, _, _ => rfl
  | k + 1, j, B => by
    unfold m_mrg
    split
    · rfl
    · rw [mrg_o h k]; exact mrg1_o (by omega)
end KPS
