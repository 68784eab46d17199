/-! a command's run in the class is the reference's: ring, registers, marks, views -/
section PFU
variable {p : RP} {w W w0 w1 w2 w3 w' V A A' A0 A1 : Mm} {μ : MU} {f q n b x y lo v r g m i k s wd z a : Int} {c : Int → Int} {L : List Int} {gf : Int → Int}
theorem NCh_0 (h : NCh w W r b lo n) : W 0 0 0 = w 0 0 0 := by
  obtain ⟨q, q0, r0, q1, r1, hn, rfl⟩ := h
  rw [up_k _ (by decide), newO_o (by omega), cpA_k (by decide), newA_o (by omega)]
theorem ecn_cg {s' : Int} (h3 : ∀ i, W 3 (w 31 s 0) i = w 3 (w 31 s 0) i) (h31 : W 31 s 0 = w 31 s 0) : m_ecn W s s' = m_ecn w s s' := by
  unfold m_ecn; rw [h31]; simp only [h3]
theorem RPF.live (h : RPF p μ f L w A V A1) (h00 : V 0 0 0 = 0) : m_ecn V (V 11 (V 41 f 0) 0) 4 = A1 204 0 4 := by
  obtain ⟨c, σ, G, h1, -⟩ := h
  have := (h1.2.2.1.1.1.2 4 (by decide) (by decide)).ecn h00 (by decide)
  rwa [show (5 : Int) * 0 + 4 = 4 by decide] at this
theorem pf_kil (h : RLm p μ f L w A) (hR : RBc μ L A) (h00 : w 0 0 0 = 0) (ha : 1 ≤ a ∧ a ≤ 20) (hp : (¬ a ≤ d_high w (w 41 f 0) - w 61 (w 41 f 0) 0 ∧ r = 1 ∧ w' = w) ∨ (a ≤ d_high w (w 41 f 0) - w 61 (w 41 f 0) 0 ∧ r = 0 ∧ ∃ W g x, NCh w W g (w 28 (w 11 (w 41 f 0) 0) 0) (w 61 (w 41 f 0) 0) a ∧ (0 < x ∧ W 0 x 0 = 0) ∧ ∃ V, V = up (s_push (w 11 (w 41 f 0) 0) g (d_tj (w 41 f 0) (w 61 (w 41 f 0) 0) a g x W (W 60 (w 41 f 0) 0))) 91 f 0 (m_ecn (s_push (w 11 (w 41 f 0) 0) g (d_tj (w 41 f 0) (w 61 (w 41 f 0) 0) a g x W (W 60 (w 41 f 0) 0))) (w 11 (w 41 f 0) 0) 4) ∧ ((w 1 (w 44 f 0) 4 = 0 ∧ w' = V) ∨ (w 1 (w 44 f 0) 4 ≠ 0 ∧ ∃ y, 0 < y ∧ V 0 y 0 = 0 ∧ w' = k_step (w 12 (w 41 f 0) 0) y 5 0 0 0 V)))) : PFR p μ f L w A 5 a b r w' := by
  obtain ⟨l1, l2, l3, l4, l5⟩ := h.low
  have hv := VB_f hR.2.1.1 hR.2.2.1
  rw [l2, l3] at hp
  unfold PFR
  have hmn : m_many 5 a b = a := by unfold m_many; rw [if_neg (by decide), if_neg (by decide)]
  rcases hp with ⟨m1, m2, m3⟩ | ⟨m1, m2, W, g, x, hN, hx, V, hV, m3⟩
  · have hd : m_does μ 5 a b A = (1, A) := by
      unfold m_does
      rw [if_pos ⟨by omega, by show A 207 0 0 + m_many 5 a b > _; rw [hmn]; omega⟩]
    rw [hd, m2, m3]; exact ⟨rfl, RPF.refl h, fun z => absurd z (by decide)⟩
  · have hd : m_does μ 5 a b A = (0, m_kil μ a A) := by
      unfold m_does
      rw [if_neg (fun z => by have z2 : A 207 0 0 + m_many 5 a b > m_vT A := z.2; rw [hmn] at z2; omega), if_neg (by decide), if_neg (by decide), if_neg (by decide), if_neg (by decide), if_neg (by decide), if_neg (by decide)]
      unfold m_more
      rw [if_neg (by decide), if_pos rfl]
    rw [hd, m2]
    have kk := kilR (v := (m_ecn (s_push (w 11 (w 41 f 0) 0) g (d_tj (w 41 f 0) (A 207 0 0) a g x W (W 60 (w 41 f 0) 0))) (w 11 (w 41 f 0) 0) 4)) h hR ⟨by omega, ha.2⟩ ⟨hv.1, by omega⟩ hN hx
    rw [← hV] at kk
    have hX : ∀ (c : Nat) (b j : Int), c ≠ 204 → c ≠ 205 → c ≠ 206 → c ≠ 240 → m_psh 0 a (m_rd a A) c b j = A c b j := fun c b j z1 z2 z3 z4 => by rw [psh_at2 ⟨z1, z2, z3⟩]; unfold m_rd; rw [fl_at z4]
    have k0 : ∀ (c : Nat) (b j : Int), (c < 200 ∨ 209 < c) → c ≠ 212 → c ≠ 120 → c ≠ 240 → m_kilA μ a A c b j = A c b j := fun c b j z1 z2 z3 z4 => by
      unfold m_kilA; rw [del_o ⟨z2, z3⟩, closes_at (by omega), hX _ _ _ (by omega) (by omega) (by omega) z4]
    have k120 : m_kilA μ a A 120 μ.1 0 = A 120 μ.1 0 + 1 := by unfold m_kilA; rw [del_120, hX _ _ _ (by decide) (by decide) (by decide) (by decide)]
    have r0 : ∀ {X : Mm} {c : Nat} {b j : Int}, c ≠ 136 → m_rs4 μ X c b j = X c b j := fun z => by unfold m_rs4; exact up_k _ z _ _ _ _ _
    have hl1 : 0 ≤ m_rs4 μ (m_kilA μ a A) 122 μ.1 0 ∧ m_rs4 μ (m_kilA μ a A) 122 μ.1 0 ≤ m_rs4 μ (m_kilA μ a A) 120 μ.1 0 := by
      rw [r0 (by decide), r0 (by decide), k120, k0 _ _ _ (by decide) (by decide) (by decide) (by decide)]; have := hR.1; omega
    have hs := h.1.2.2.1.1.1
    have hf := h.1.2.1.1
    have hfr := NCh_fr hN
    have c13 : W 0 f 0 = 13 := (hfr 0 f 0 (by omega)).trans hf.1
    have c2 : W 0 (w 41 f 0) 0 = 2 := (hfr 0 _ 0 (by have := hs.1.1; omega)).trans hs.1.1
    have n1 : f ≠ x := fun e => by have := hx.2; rw [← e] at this; omega
    have n2 : w 41 f 0 ≠ x := fun e => by have := hx.2; rw [← e] at this; omega
    have eV : ∀ (k : Nat) (b : Int), b ≠ x → (k ≠ 1 ∧ k ≠ 67 ∧ k ≠ 61 ∧ k ≠ 33 ∧ k ≠ 34 ∧ k ≠ 35 ∧ k ≠ 71 ∧ k ≠ 72) → k ≠ 3 → k ≠ 91 → w 0 b 0 ≠ 0 → V k b 0 = w k b 0 := fun k b hb h1 h2 h3 h4 => by
      rw [hV, up_k _ h3, s_push_k h2, d_tj_k hb h1, hfr k b 0 h4]
    have v41 : V 41 f 0 = w 41 f 0 := eV _ _ n1 (by decide) (by decide) (by decide) (by omega)
    have v12 : V 12 (w 41 f 0) 0 = w 12 (w 41 f 0) 0 := eV _ _ n2 (by decide) (by decide) (by decide) (by have := hs.1.1; omega)
    have v11 : V 11 (w 41 f 0) 0 = w 11 (w 41 f 0) 0 := eV _ _ n2 (by decide) (by decide) (by decide) (by have := hs.1.1; omega)
    have v13 : V 0 f 0 = 13 := (eV 0 _ n1 (by decide) (by decide) (by decide) (by omega)).trans hf.1
    have v00 : V 0 0 0 = 0 := by rw [hV, up_k _ (by decide), s_push_k (by decide), d_tj_k (by omega) (by decide), NCh_0 hN]; exact h00
    have kS := kk.sto (s := 4) (w' := w') (A' := m_rs4 μ (m_psS μ 5 0 a 4 (m_kilA μ a A))) (wd := 5 + 8 * 0 + 4096 * a) (by have := hR.1; omega) hl1 (by rw [r0 (by decide)]; exact k0 _ _ _ (by decide) (by decide) (by decide) (by decide)) (by rw [r0 (by decide), k0 _ _ _ (by decide) (by decide) (by decide) (by decide)]; exact trk h hR (by decide)) (by rw [v41, v12]) m3 (fun c b i z1 z2 z3 z4 z5 => by rw [r0 z5, r0 z5]; exact psS_o ⟨z1, z2, z3, z4⟩) (by rw [r0 (by decide), r0 (by decide), psS_120]) (fun j j0 j1 => by rw [r0 (by decide)] at j1; rw [r0 (by decide), r0 (by decide), psS_212, if_neg (by omega)]) (by rw [r0 (c := 120) (by decide), r0 (by decide), psS_212, if_pos rfl]) (by omega)
    have eK : (if m_rs4 μ (m_kilA μ a A) 211 0 4 = 1 then m_rs4 μ (m_psS μ 5 0 a 4 (m_kilA μ a A)) else m_rs4 μ (m_kilA μ a A)) = m_kil μ a A := by
      rw [r0 (by decide)]; unfold m_kil
      by_cases y : m_kilA μ a A 211 0 4 = 1
      · rw [if_pos y, if_pos y]
      · rw [if_neg y, if_neg y]
    rw [eK] at kS
    refine ⟨rfl, kS, fun _ => ?_⟩
    show w' 91 f 0 = m_kil μ a A 136 μ.1 0
    have e1 : w' 91 f 0 = V 91 f 0 := by
      rcases m3 with ⟨-, m3⟩ | ⟨-, y, y0, y1, m3⟩
      · rw [m3]
      · rw [m3, k_step_k (fun e => by rw [e] at v13; omega) (by decide) (by decide) (by decide) (by decide) (by decide)]
    have e2 : m_kil μ a A 136 μ.1 0 = m_kilA μ a A 204 0 4 := by
      unfold m_kil m_rs4
      rw [up_s]
      by_cases y : m_kilA μ a A 211 0 4 = 1
      · rw [if_pos y, psS_o (by decide)]
      · rw [if_neg y]
    have e3 := kk.live v00
    rw [v41, v11, r0 (by decide)] at e3
    rw [e1, e2, ← e3, hV, up_s]
    exact (ecn_cg (fun i => up_k _ (by decide) _ _ _ _ _) (up_k _ (by decide) _ _ _ _ _)).symm
theorem pf_rot (h : RLm p μ f L w A) (hR : RBc μ L A) (h00 : w 0 0 0 = 0) (hp : (m_ecn w (w 11 (w 41 f 0) 0) 4 < 2 ∧ r = 4 ∧ w' = w) ∨ (2 ≤ m_ecn w (w 11 (w 41 f 0) 0) 4 ∧ r = 0 ∧ ((w 1 (w 44 f 0) 4 = 0 ∧ w' = g_ring f w) ∨ (w 1 (w 44 f 0) 4 ≠ 0 ∧ ∃ x, 0 < x ∧ w 0 x 0 = 0 ∧ w' = k_step (w 12 (w 41 f 0) 0) x 5 0 0 0 (g_ring f w))))) : PFR p μ f L w A 7 a b r w' := by
  have e0 := (RPF.refl h).live h00
  rw [e0] at hp
  unfold PFR
  have hd : m_does μ 7 a b A = m_rots μ A := by
    unfold m_does
    rw [if_neg (lack_f (by decide)), if_neg (by decide), if_neg (by decide), if_neg (by decide), if_neg (by decide), if_neg (by decide), if_neg (by decide)]
    unfold m_more
    rw [if_neg (by decide), if_neg (by decide), if_neg (by decide), if_pos rfl]
  rw [hd]
  unfold m_rots
  rcases hp with ⟨m1, m2, m3⟩ | ⟨m1, m2, m3⟩
  · rw [if_pos m1, m2, m3]; exact ⟨rfl, RPF.refl h, fun z => absurd z (by decide)⟩
  · rw [if_neg (by omega), m2]
    have t0 : ∀ {c : Nat} {b j : Int}, c ≠ 205 → c ≠ 206 → c ≠ 240 → m_trn 0 A c b j = A c b j := fun z1 z2 z3 => trn_at2 ⟨z3, z1, z2⟩
    have r0 : ∀ {X : Mm} {c : Nat} {b j : Int}, c ≠ 136 → m_rs4 μ X c b j = X c b j := fun z => by unfold m_rs4; exact up_k _ z _ _ _ _ _
    have k1 := h.ring hR.1 hR.2.1.2.2.2.2.1 h00 m1
    have hl1 : 0 ≤ m_trn 0 A 122 μ.1 0 ∧ m_trn 0 A 122 μ.1 0 ≤ m_trn 0 A 120 μ.1 0 := by rw [t0 (by decide) (by decide) (by decide), t0 (by decide) (by decide) (by decide)]; exact hR.1
    have hf := h.1.2.1.1
    have hs := h.1.2.2.1.1.1
    have k2 : RLm p μ f L (g_ring f w) (m_rs4 μ (m_trn 0 A)) := k1.ans hl1
    have e15 : pc_ p (w 31 (w 11 (w 41 f 0) 0) 0) = 15 := hs.2.1.2.2.2.2.2.2
    have kk : RPF p μ f L w A (g_ring f w) (m_rs4 μ (m_trn 0 A)) := by
      refine RPF.of0 k2 ?_ (by rw [r0 (by decide)]; exact t0 (by decide) (by decide) (by decide))
      unfold g_ring t_ring
      refine ((UPd.refl.sF (by decide) (Or.inr ?_)).sU (by decide) (Or.inr ?_)).sU (by decide) (Or.inr ?_)
      · rw [e15]; unfold SDb; omega
      · rw [e15]; unfold SDb; omega
      · rw [hf.2]; unfold SDb; omega
    have g0 : ∀ {c : Nat} {b j : Int}, c ≠ 3 → c ≠ 91 → g_ring f w c b j = w c b j := fun z1 z2 => by unfold g_ring; rw [up_k _ z2, t_ring_k z1]
    have hl2 : 0 ≤ m_rs4 μ (m_trn 0 A) 122 μ.1 0 ∧ m_rs4 μ (m_trn 0 A) 122 μ.1 0 ≤ m_rs4 μ (m_trn 0 A) 120 μ.1 0 := by rw [r0 (by decide), r0 (by decide)]; exact hl1
    have m3' : (w 1 (w 44 f 0) 4 = 0 ∧ w' = g_ring f w) ∨ (w 1 (w 44 f 0) 4 ≠ 0 ∧ ∃ y, 0 < y ∧ g_ring f w 0 y 0 = 0 ∧ w' = k_step (w 12 (w 41 f 0) 0) y 5 0 0 0 (g_ring f w)) :=
      m3.imp id fun ⟨z1, y, y0, y1, y2⟩ => ⟨z1, y, y0, by rw [g0 (by decide) (by decide)]; exact y1, y2⟩
    have s0 : ∀ {c : Nat} {b j : Int}, c ≠ 212 → c ≠ 120 → m_step μ 6 0 0 (m_trn 0 A) c b j = m_trn 0 A c b j := fun z1 z2 => step_at ⟨z1, z2⟩
    have kS := kk.sto (s := 4) (w' := w') (A' := m_rs4 μ (m_step μ 6 0 0 (m_trn 0 A))) (wd := 6 + 8 * 0 + 4096 * 0) (by have := hR.1; omega) hl2 (by rw [r0 (by decide)]; exact t0 (by decide) (by decide) (by decide)) (by rw [r0 (by decide), t0 (by decide) (by decide) (by decide)]; exact trk h hR (by decide)) (by rw [g0 (by decide) (by decide), g0 (by decide) (by decide)]) m3' (fun c b i z1 z2 z3 z4 z5 => by rw [r0 z5, r0 z5]; exact s0 z1 z2) (by rw [r0 (by decide), r0 (by decide), stp_120]) (fun j j0 j1 => by rw [r0 (by decide)] at j1; rw [r0 (by decide), r0 (by decide), stp_212, if_neg (by omega)]) (by rw [r0 (c := 120) (by decide), r0 (by decide), stp_212, if_pos rfl]) (by omega)
    have eK : (if m_rs4 μ (m_trn 0 A) 211 0 4 = 1 then m_rs4 μ (m_step μ 6 0 0 (m_trn 0 A)) else m_rs4 μ (m_trn 0 A)) = m_rs4 μ (if m_trn 0 A 211 0 4 = 1 then m_step μ 6 0 0 (m_trn 0 A) else m_trn 0 A) := by
      rw [r0 (by decide)]
      by_cases y : m_trn 0 A 211 0 4 = 1
      · rw [if_pos y, if_pos y]
      · rw [if_neg y, if_neg y]
    rw [eK] at kS
    refine ⟨rfl, kS, fun _ => ?_⟩
    show w' 91 f 0 = m_rs4 μ (if m_trn 0 A 211 0 4 = 1 then m_step μ 6 0 0 (m_trn 0 A) else m_trn 0 A) 136 μ.1 0
    have e1 : w' 91 f 0 = g_ring f w 91 f 0 := by
      rcases m3 with ⟨-, m3⟩ | ⟨-, y, y0, y1, m3⟩
      · rw [m3]
      · rw [m3, k_step_k (fun e => by have := hf.1; rw [e] at this; omega) (by decide) (by decide) (by decide) (by decide) (by decide)]
    have e2 : m_rs4 μ (if m_trn 0 A 211 0 4 = 1 then m_step μ 6 0 0 (m_trn 0 A) else m_trn 0 A) 136 μ.1 0 = m_trn 0 A 204 0 4 := by
      unfold m_rs4
      rw [up_s]
      by_cases y : m_trn 0 A 211 0 4 = 1
      · rw [if_pos y, s0 (by decide) (by decide)]
      · rw [if_neg y]
    have e3 := kk.live (by rw [g0 (by decide) (by decide)]; exact h00)
    rw [g0 (c := 41) (by decide) (by decide), g0 (c := 11) (by decide) (by decide), r0 (by decide)] at e3
    rw [e1, e2, ← e3]
    show g_ring f w 91 f 0 = _
    unfold g_ring
    rw [up_s]
    exact (ecn_cg (fun i => up_k _ (by decide) _ _ _ _ _) (up_k _ (by decide) _ _ _ _ _)).symm
end PFU
