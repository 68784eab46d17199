/-! the tree and its replays where only what is loose changes -/
def TSx (μ : MU) (A A' : Mm) : Prop := TSm μ A A' ∧ (∀ j, A' 227 0 j = A 227 0 j) ∧ ∀ r, A' 211 0 r = A 211 0 r
section TXA
variable {μ : MU} {M P k : Int} {A A' A2 : Mm} {PL : Int → List Int} {ρ : Int → Mm} {G G' : Int → Int → Int}
theorem TSx.of (h : ∀ (c : Nat) (a i : Int), (122 ≤ c ∧ c ≤ 126) ∨ c = 211 ∨ (216 ≤ c ∧ c ≤ 225) ∨ c = 227 → A' c a i = A c a i) (h2 : ∀ i, 0 ≤ i → i < A 122 μ.1 0 → A' 212 0 i = A 212 0 i) (h3 : PAg (A 123 μ.1 0) A A') : TSx μ A A' :=
  ⟨⟨fun c a i z1 z2 => h c a i (by omega), fun c z1 z2 => h c _ _ (by omega), h2, h3⟩, fun j => h _ _ _ (by omega), fun r => h _ _ _ (by omega)⟩
theorem TSx.trans (h : TSx μ A A') (g : TSx μ A' A2) : TSx μ A A2 :=
  ⟨h.1.t g.1, fun j => (g.2.1 j).trans (h.2.1 j), fun r => (g.2.2 r).trans (h.2.2 r)⟩
theorem TSx.refl : TSx μ A A := TSx.of (fun _ _ _ _ => rfl) (fun _ _ _ => rfl) (fun _ _ _ => rfl)
theorem TSx.al2 (h : TSx μ A A') : alv μ A' k ↔ alv μ A k := by
  unfold alv
  rw [h.1.2.1 124 (by decide) (by decide), h.1.1 216 _ _ (by decide) (by decide)]
theorem TX.app (h : TX μ ρ G PL A) (hT : TB μ M A) (hM : M ≤ 600) (s1 : SB 1 A) (s2 : bB A) (hpb : bPb A) (t : TSx μ A A') (h6 : bPb A') (hG : ∀ k, 0 ≤ k → k < A 122 μ.1 0 → G' k = G k) : TX μ ρ G' PL A' := by
  obtain ⟨⟨⟨hE, hP0, hN, hR, hDJ, hPR⟩, hBK⟩, hX⟩ := id h
  obtain ⟨t1, t2, t3⟩ := id t
  obtain ⟨u1, u2, u3, u4⟩ := id t1
  have hI := h.1.1
  have e122 := u2 122 (by decide) (by decide)
  have e123 := u2 123 (by decide) (by decide)
  have e124 := u2 124 (by decide) (by decide)
  have e126 := u2 126 (by decide) (by decide)
  have hq : ∀ k, alv μ A k → RQ μ PL k A' ∧ EQv TA 1 1 (m_rpl μ PL k A) (m_rpl μ PL k A') ∧ RSx PL k A' = RSx PL k A := fun k ha => (hI.rq hT hM ha).app t1 s1 s2 h6
  refine ⟨⟨⟨?_, hP0, fun k k0 ha => ?_, fun k ha => ?_, fun k k' q ha ha' => hDJ k k' q (t.al2.mp ha) (t.al2.mp ha'), ?_⟩, fun j j0 j1 => ?_⟩, fun k ha => ?_⟩
  · obtain ⟨e0, e1, e2, e3⟩ := id hE
    refine ⟨by rw [u1 _ _ _ (by decide) (by decide)]; exact e0, by rw [e126, u1 _ _ _ (by decide) (by decide)]; exact e1, fun k k0 k1 k2 => ?_, by rw [u1 _ _ _ (by decide) (by decide)]; exact e3⟩
    rw [e124] at k1
    rw [u1 _ _ _ (by decide) (by decide)] at k2
    rw [u1 217 _ _ (by decide) (by decide), u1 216 _ _ (by decide) (by decide)]
    exact e2 k k0 k1 k2
  · have hb := t.al2.mp ha
    obtain ⟨n1, ⟨N, n2, n3⟩, n4, n5, n6⟩ := hN k k0 hb
    unfold NKd
    rw [u1 221 _ _ (by decide) (by decide), u1 222 _ _ (by decide) (by decide), u1 217 _ _ (by decide) (by decide), e122]
    refine ⟨CHL.app (lim := A 122 μ.1 0) u3 _ _ n1 (fun c q _ hc => u1 c _ _ (by omega) (by omega)) n6, ⟨N, n2, fun q hq => by rw [u1 _ _ _ (by decide) (by decide)]; exact n3 q hq⟩, n4, n5, fun q hq => ?_⟩
    rw [u1 218 _ _ (by decide) (by decide), u1 220 _ _ (by decide) (by decide)]; exact n6 q hq
  · have hb := t.al2.mp ha
    obtain ⟨q1, q2, q3⟩ := hq k hb
    obtain ⟨r1, r2, r3⟩ := hR k hb
    have o := rpl_mv (A' := A') (k' := k) s1 s2 h6 u4 r1 r2
    refine ⟨by rw [q3]; exact o.2, q1.2.1, q1.2.2.2⟩
  · unfold PRT
    rw [e124, e122]
    refine ⟨fun q q0 q1 => ?_, fun q q' q0 q1 q2 => ?_⟩
    · rw [u1 218 _ _ (by decide) (by decide), u1 220 _ _ (by decide) (by decide)]; exact hPR.1 q q0 q1
    · rw [u1 218 0 q (by decide) (by decide), u1 220 _ _ (by decide) (by decide), u1 218 0 q' (by decide) (by decide)]; exact hPR.2 q q' q0 q1 q2
  · rw [t2]
    exact (hBK j j0 j1).imp id t.al2.mpr
  · have hb := t.al2.mp ha
    obtain ⟨⟨x1, x2, x3⟩, x4⟩ := hX k hb
    refine ⟨⟨x1.trans (hq k hb).2.1, x2, fun r r0 r1 r2 => x3 r r0 r1 (by rw [t3] at r2; exact r2)⟩, fun hk => ?_⟩
    obtain ⟨p1, p2, p3, p4, p5, p6⟩ := hI.par hT hM s1 s2 hpb hb hk
    rw [u1 217 _ _ (by decide) (by decide)]
    exact GNo_eq (P := A 123 μ.1 0) (lim := A 122 μ.1 0) u4 u3 hG h6 (PL k) _ _ _ (hN k hk hb).1 (fun c q _ c1 c2 => u1 c _ _ (by omega) (by omega)) p6 p3 (hq _ p4).2.1 pby_rpl pby_rpl p5.1 p5.2 p2 (x4 hk)
end TXA
