/-! undoing a change: one opposite -/
def OPI (μ : MU) (f : Int) (κ : Int → Int) (S P n nd : Int) (W0 : Mm) (t : Int) (p : RP) (w W : Mm) : Prop :=
  CHK p μ f w W ∧ TRo p μ (txT w (w 47 f 0)) κ n t w W ∧ UI μ S P n W0 t W ∧ (alv μ W nd ∧ 1 ≤ nd) ∧ (rng n.toNat 0).map κ = (ixN W (pl_ p nd)).filter (txS W)
/-- what was so where the opposites begin -/
def OPH (μ : MU) (S P M n : Int) (W0 : Mm) : Prop := (S ≤ 28900 ∧ P ≤ 500000 ∧ M ≤ 598) ∧ (W0 137 μ.1 0 = n ∧ 1 ≤ n ∧ n ≤ 8) ∧ KS μ W0 ∧ sumN (gI W0) n.toNat ≤ W0 201 0 0 ∧ RK μ S P M W0 ∧ (W0 122 μ.1 0 ≤ W0 120 μ.1 0 ∧ W0 123 μ.1 0 ≤ W0 121 μ.1 0)
section OPS
variable {p p2 : RP} {w w1 w' Wc W W0 W1 W2 A : Mm} {μ : MU} {f T n m t q k i S P M S2 P2 nd : Int} {x κ : Int → Int} {L : List Int}
theorem opN_k {c : Nat} {a j : Int} (z : c ≠ 138 ∧ c ≠ 244 ∧ c ≠ 245) : ∀ m : Nat, m_opN μ t q k m W c a j = W c a j
  | 0 => rfl
  | m + 1 => by
    have ih := opN_k (a := a) (j := j) z m
    by_cases z6 : c = 246
    · subst z6
      simp only [m_opN]
      unfold m_op1
      split
      · unfold m_opx; rw [up_k _ (by decide), up_k _ (by decide)]; exact ih
      · split
        · exact ih
        · rw [mov_246 (by split <;> omega)]; exact ih
    · simp only [m_opN]
      unfold m_op1
      split
      · unfold m_opx; rw [up_k _ (by omega), up_k _ (by omega)]; exact ih
      · split
        · exact ih
        · rw [mov_at (by omega)]; exact ih
theorem FTg.g (h : FTg w w1) (e : FTc w w1) (h1 : w 0 f 0 = 13) (h2 : w 0 (w 50 f 0) 0 = 12) (h0 : w 0 0 0 = 0) : UPG f w w1 :=
  ⟨⟨fun k a i _ hk => e k a i (by omega) (by omega) (by omega) (by omega) (by omega) (by omega), fun k i hk => e k 0 i (by omega) (by omega) (by omega) (by omega) (by omega) (by omega)⟩, fun k _ => h k f 0 (by omega) (by omega), fun k => h k _ 0 (by omega) (by omega)⟩
/-- the facts of a world between opposites -/
theorem OPI.v (h : OPI μ f κ S P n nd W0 t p w W) (hH : OPH μ S P M n W0) (ht : 0 ≤ t ∧ t ≤ n) : (LB μ (S + 8) (P + 400) W ∧ SB 1 W ∧ RK μ S P M W) ∧ (∀ (c : Nat) (a i : Int), opK c = false → W c a i = W0 c a i) ∧ (W 122 μ.1 0 ≤ W 120 μ.1 0 ∧ W 123 μ.1 0 ≤ W 121 μ.1 0) ∧ RBc μ (lvL p μ W) W ∧ (∀ i, 0 ≤ i → i < W0 120 μ.1 0 → W 212 0 i = W0 212 0 i) := by
  obtain ⟨h1, h2, ⟨a1, a2, a3, a4, a5, a6, a7⟩, h4, h5⟩ := h
  obtain ⟨⟨s1, s2, s3⟩, ⟨s4, s5, s6⟩, s7, s8, s9, s10, s11⟩ := hH
  have e := a3.1
  have hr := a3.rk a2 s9
  have hap := a3.2.2
  have e122 : W 122 μ.1 0 = W0 122 μ.1 0 := e _ _ _ (by decide)
  have e123 : W 123 μ.1 0 = W0 123 μ.1 0 := e _ _ _ (by decide)
  refine ⟨⟨a1, a2, hr⟩, e, ⟨by have := hap.1; omega, by have := hap.2.1; omega⟩, ⟨h1.1.2.2.b0.1, a1.1, a1.2.1, a1.2.2.1, a1.2.2.2.1, ?_⟩, hap.2.2.1⟩
  unfold lvL; rw [List.length_map, rng_len]; have := a1.2.2.2.2.1; have := h1.1.2.2.b0.1.1; omega
theorem OPI.end_ (h : OPI μ f κ S P n nd W0 (t + 1) p w W) (hH : OPH μ S P M n W0) (ht : 0 ≤ t ∧ t + 1 ≤ n) (h00 : w 0 0 0 = 0) (hF : FTc w w1) (hFg : FTg w w1)
    (hc1 : CHK p μ f w1 W1) (hK1 : RK μ S2 P2 M W1) (hz : W1 123 μ.1 0 ≤ W1 121 μ.1 0) (hp : RPF p μ f (lvL p μ W1) w1 W1 w' W2) (hlo : LO W1 W2) (hap : AP μ W1 W2) (hB2 : SB 0 W2 ∧ bB W2)
    (hLV : ∀ G', (∀ k, 0 ≤ k → k < W1 120 μ.1 0 → G' k = pg_ p k) → (∀ k, W1 120 μ.1 0 ≤ k → k < W2 120 μ.1 0 → W2 212 0 k % 8 = 1 ∨ W2 212 0 k % 8 = 2 → k = W1 120 μ.1 0 ∧ ∀ j, 0 ≤ j → j < wsz (W2 212 0 k) → G' k j = W1 200 0 (W2 212 0 k / 8 % 512 + j)) → LIV μ G' (pr_ p (W1 126 μ.1 0)) W2)
    (hTR : TRo p μ (txT w (w 47 f 0)) κ n t w1 (m_opN μ t q k t.toNat W2)) (h120 : W 122 μ.1 0 ≤ W1 120 μ.1 0) (eW : m_opp μ (pl_ p) nd t W = (1, m_opN μ t q k t.toNat W2)) :
    ∃ p', OPI μ f κ S P n nd W0 t p' w' (m_opp μ (pl_ p) nd t W).2 ∧ UPG f w w' ∧ pl_ p' = pl_ p := by
  obtain ⟨⟨v1, v2, v3⟩, v4, v5, v6, v7⟩ := h.v hH (by omega)
  obtain ⟨hc, hT1, hUI, ⟨hal, hnd⟩, hκ⟩ := h
  obtain ⟨⟨s1, s2, s3⟩, ⟨s4, s5, s6⟩, s7, s8, s9, s10, s11⟩ := hH
  obtain ⟨⟨p2, c2, a1, a2, a3, a4⟩, g2, u2⟩ := hc1.rpf hK1.2.2.2.1 (by omega) hK1.2.2.1 hK1.1.1 hz hp hlo hap hB2.2 hLV
  have hK2 := hK1.lo hlo
  have oN : ∀ {c : Nat} {a j : Int}, c ≠ 138 ∧ c ≠ 244 ∧ c ≠ 245 → m_opN μ t q k t.toNat W2 c a j = W2 c a j := fun z => opN_k z _
  have c3 := c2.nof (A' := m_opN μ t q k t.toNat W2) ⟨fun c a i _ _ _ z3 _ _ z6 z7 => oN ⟨z3, z6, z7⟩, fun c i z1 z2 _ => oN ⟨by omega, by omega, by omega⟩⟩ hK2.2.2.2.1 (by omega) hK2.2.2.1 hK2.1.1 hB2.1 (hB2.2.cong fun i => oN (by decide))
  have hTI := hc.1.2.1.1.1
  have hTB := v3.2.2.2.1
  obtain ⟨p1, p2', p3, p4, p5, p6⟩ := hTI.par hTB (by omega) v2 hc.1.2.2.b0.2.2.2 hc.1.2.2.b0.2.2.1 hal hnd
  have hU := hUI.opp (PL := pl_ p) (nd := nd) ⟨ht.1, ht.2, by omega⟩ s4 s7 s8 (fun i => gI_nn i) (hTI.rq hTB (by omega) p4).1 p2'
  rw [eW] at hU ⊢
  have hU' : UI μ S P n W0 t (m_opN μ t q k t.toNat W2) := by
    rcases hU with ⟨z, -⟩ | ⟨-, z⟩
    · exact absurd z (by show ¬ ((1 : Int) = 0); decide)
    · exact z
  obtain ⟨W3, hW3⟩ : ∃ W3, W3 = m_opN μ t q k t.toNat W2 := ⟨_, rfl⟩
  rw [← hW3] at c3 hU' hTR ⊢
  dsimp only
  have hlo0 : 0 ≤ W1 122 μ.1 0 := hc1.1.2.2.b0.1.1
  have e3 := hU'.2.2.1.1
  have ap3 := hU'.2.2.1.2.2
  have eq3 : ∀ (c : Nat) (a i : Int), opK c = false → W3 c a i = W c a i := fun c a i z => (e3 c a i z).trans (v4 c a i z).symm
  have hts := hc.1.1.1.2.2.2.2.2.2
  obtain ⟨⟨q1, q2⟩, ⟨q3, q4, q5⟩, q6, q7⟩ := hts
  have hf := hc.1.1.1.2.1.1
  have t50 := hc.1.1.1.2.2.2.2.2.1.1
  have tg : ∀ a, w1 0 a 0 = w 0 a 0 := fun a => hF _ _ _ (by decide) (by decide) (by decide) (by decide) (by decide) (by decide)
  have g1 : UPG f w w1 := hFg.g hF hf.1 t50 h00
  have w47 : w1 47 f 0 = w 47 f 0 := hF _ _ _ (by decide) (by decide) (by decide) (by decide) (by decide) (by decide)
  have w37 : ∀ a, w1 37 a 0 = w 37 a 0 := fun a => hF _ _ _ (by decide) (by decide) (by decide) (by decide) (by decide) (by decide)
  have w3 : ∀ a i, w1 3 a i = w 3 a i := fun a i => hF _ _ _ (by decide) (by decide) (by decide) (by decide) (by decide) (by decide)
  have f47 : w' 47 f 0 = w 47 f 0 := (u2.g (by rw [tg]; omega) hf.2 (fun z => by unfold SDb at z; omega)).trans w47
  have f37 : w' 37 (w 47 f 0) 0 = w 37 (w 47 f 0) 0 := (u2.g (by rw [tg]; omega) q2 (fun z => by unfold SDb at z; omega)).trans (w37 _)
  have f3 : ∀ i, w' 3 (w 37 (w 47 f 0) 0) i = w 3 (w 37 (w 47 f 0) 0) i := fun i => (u2.g (by rw [tg]; omega) q5 (fun z => by unfold SDb at z; omega)).trans (w3 _ _)
  have ex : txT w' (w' 47 f 0) = txT w (w 47 f 0) := by
    funext i
    show w' 3 (w' 37 (w' 47 f 0) 0) i = w 3 (w 37 (w 47 f 0) 0) i
    rw [f47, f37, f3]
  refine ⟨p2, ⟨c3, ?_, hU', ⟨?_, hnd⟩, ?_⟩, g1.trans g2, a3⟩
  · rw [ex]
    intro i i0 i1
    obtain ⟨b1, b2, b3, b4, b5⟩ := hTR i i0 i1
    have gx : ∀ K : Nat, w' K (txT w (w 47 f 0) i) 0 = w1 K (txT w (w 47 f 0) i) 0 := fun K => by
      have hq6 := q6 i i0 (by omega)
      have hq60 : w 0 (txT w (w 47 f 0) i) 0 = 9 := hq6.1
      exact u2.g (by rw [tg]; omega) hq6.2 (fun z => by unfold SDb at z; omega)
    rw [gx, gx, gx, gx]
    refine ⟨b1, b2, b3, ?_, b5⟩
    rw [(a1 (κ i) (by have := b5.2.2.2.2; have := eq3 122 μ.1 0 (by decide); omega)).1]; exact b4
  · have h := hal
    unfold alv at h ⊢
    rw [eq3 _ _ _ (by decide), eq3 _ _ _ (by decide)]; exact h
  · rw [a3, hκ, ixN_cgm (A' := W3) (A := W) _ fun q _ => ⟨eq3 _ _ _ (by decide), eq3 _ _ _ (by decide)⟩]
    refine List.filter_congr fun i hi => ?_
    have hi' := (hc.1.1.nd hal).2.2.2.2 i hi
    have e122 : W 122 μ.1 0 = W0 122 μ.1 0 := v4 _ _ _ (by decide)
    unfold txS
    rw [ap3.2.2.1 i hi'.1 (by omega), v7 i hi'.1 (by omega)]
end OPS
