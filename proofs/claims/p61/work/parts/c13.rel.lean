/-! typing goes on: tree and live state again -/
section EX3
variable {X V R Ay : Mm} {p v t q k j n0 p0 v0 M : Int} {μ : MU} {ρ : Int → Mm} {G : Int → Int → Int} {PL : Int → List Int}
theorem TX.ext (h : EXo μ M ρ G PL V R Ay n0 p0 v0) : TX μ (RHk ρ (V 126 μ.1 0) (m_playL (LVl μ V) (SWp (ρ (V 126 μ.1 0)) V))) (GEx n0 G) PL Ay ∧ (bB Ay → LIV μ (GEx n0 G) (m_playL (LVl μ V) (SWp (ρ (V 126 μ.1 0)) V)) Ay) := by
  obtain ⟨hK, hS, ⟨g1, g2, g3⟩, ⟨n4, n5, n6, n7, n8, n9⟩, ⟨⟨w1, w2⟩, hp, hv⟩, -, hTb⟩ := id h
  obtain ⟨h1, h2, h3, h4, h5, h6⟩ := id hK
  obtain ⟨⟨l1, l2, l3, l4, l5, l6⟩, ⟨l7, l8, l9⟩, l10, l11, l12⟩ := id h2
  obtain ⟨⟨⟨hE, hP0, hN, hR, hDJ, hPR⟩, hBK⟩, hX⟩ := id h1
  have hI := h1.1.1
  obtain ⟨e0, e1, e2, e3⟩ := id hE
  have hcur := hE.cur h3
  obtain ⟨m1, m2, m3, m4, m5⟩ := ex_rpl h
  obtain ⟨v1, v2, v3, v4, v5, v6, v7⟩ := h.va
  obtain ⟨eL, eN, eM⟩ := ex_LV h
  have hR1 := hS.2.1
  have h6' : bPb Ay := fun j a => by rw [v7]; exact l3 j a
  have hnew : SB 1 (m_playL (LVl μ V) (SWp (ρ (V 126 μ.1 0)) V)) := (SB_L _ _ m3.1 m3.2 l7).1
  have a126 : Ay 126 μ.1 0 = V 126 μ.1 0 := h.o (by decide) (by decide)
  have a124 : Ay 124 μ.1 0 = V 124 μ.1 0 := h.o (by decide) (by decide)
  have x220 : ∀ q, q ≠ V 126 μ.1 0 → Ay 220 0 q = V 220 0 q := fun q hq => by rw [v1, if_neg hq]
  have wl : ∀ i, 0 ≤ i → i < n0 - 1 → Ay 212 0 i = V 212 0 i := fun i _ i1 => (v6 i).trans (hS.2.2.2.1 i (by omega) (by omega))
  have eG : ∀ k, 0 ≤ k → k < n0 - 1 → GEx n0 G k = G k := fun k _ k1 => by unfold GEx; rw [if_pos (by omega)]
  have hpk := h3.plp (k := V 126 μ.1 0) ⟨g2, by omega⟩
  have hU : ∀ X, Unt V X → Unt Ay X := fun X hX r r0 r1 r2 => hX r r0 r1 (by rw [h.o (by decide) (by decide)] at r2; exact r2)
  refine ⟨⟨⟨⟨⟨?_, ?_, fun k k0 k1 k2 => ?_, ?_⟩, hP0, fun k k0 ha => ?_, fun k ha => ?_, fun k k' q ha ha' => hDJ k k' q (h.al.mp ha) (h.al.mp ha'), ?_⟩, fun j j0 j1 => ?_⟩, fun k ha => ?_⟩, fun hb => ?_⟩
  · rw [h.o (by decide) (by decide)]; exact e0
  · rw [a126, h.o (by decide) (by decide)]; exact e1
  · rw [a124] at k1
    rw [h.o (by decide) (by decide)] at k2
    rw [h.o (c := 217) (by decide) (by decide), h.o (c := 216) (by decide) (by decide)]; exact e2 k k0 k1 k2
  · rw [h.o (by decide) (by decide)]; exact e3
  · have hb := h.al.mp ha
    obtain ⟨q1, ⟨N, q2, q3⟩, q4, q5, q6⟩ := hN k k0 hb
    unfold NKd
    rw [h.o (c := 221) (by decide) (by decide), h.o (c := 222) (by decide) (by decide), h.o (c := 217) (by decide) (by decide), v3]
    by_cases hk : k = V 126 μ.1 0
    · subst hk
      rw [g1] at q1 q2 ⊢
      obtain ⟨c1, c2, c3, c4, c5, c6⟩ := q1
      refine ⟨⟨c1, c2, ?_, ?_, fun i i0 i1 => ?_, ?_⟩, ⟨[], rfl, fun q hq => absurd hq List.not_mem_nil⟩, q4, by have := hpk; show (1 : Int) ≤ _; omega, fun q hq => ?_⟩
      · rw [h.o (c := 218) (by decide) (by decide), v1, if_pos rfl, n5]; omega
      · rw [h.o (c := 219) (by decide) (by decide)]; exact c4
      · rw [h.o (c := 218) (by decide) (by decide), n5] at i0 i1
        rw [v1, if_pos rfl] at i1
        rw [v6]
        by_cases y : i = n0 - 1
        · subst y; rw [hS.2.2.2.2, w1]; omega
        · rw [hS.2.2.1 i (by omega) (by omega)]
          obtain ⟨t', ht⟩ := plist_mem (b := V) (lvN μ V) (V 122 μ.1 0) (V 123 μ.1 0) (i + 1) (by omega) (by omega)
          exact LGL_rng _ _ l7 _ ht
      · have c6' : V 223 0 (V 126 μ.1 0) = -1 := c6
        show Ay 223 0 (V 126 μ.1 0) = -1
        rw [h.o (by decide) (by decide)]; exact c6'
      · rw [List.mem_singleton] at hq
        subst hq
        rw [h.o (c := 218) (by decide) (by decide), v1, if_pos rfl, n5]; omega
    · have hlim := h.lim hb hk
      refine ⟨CHL.app (lim := n0 - 1) wl _ _ q1 (fun c q hq hc => ?_) (fun q hq => (hlim q hq).2), ⟨N, q2, fun q hq => ?_⟩, q4, q5, fun q hq => ?_⟩
      · by_cases y : c = 220
        · subst y; exact x220 q (by have := (hlim q hq).1; omega)
        · exact h.o (by omega) (by omega)
      · rw [h.o (by decide) (by decide)]; exact q3 q hq
      · have := hlim q hq
        rw [h.o (c := 218) (by decide) (by decide), x220 q (by omega)]; omega
  · have hb := h.al.mp ha
    by_cases hk : k = V 126 μ.1 0
    · subst hk; exact m2.2
    · exact (m1 k hb hk).2
  · unfold PRT
    rw [a124, v3]
    refine ⟨fun q q0 q1 => ?_, fun q q' q0 q1 q2 => ?_⟩
    · rw [h.o (c := 218) (by decide) (by decide)]
      by_cases y : q = V 126 μ.1 0
      · subst y; rw [v1, if_pos rfl, n5]; omega
      · rw [x220 q y]; have := hPR.1 q q0 q1; omega
    · rw [h.o (c := 218) (by decide) (by decide), h.o (c := 218) (by decide) (by decide), x220 q (by omega)]
      exact hPR.2 q q' q0 q1 q2
  · rw [h.o (by decide) (by decide)]
    exact (hBK j j0 j1).imp id h.al.mpr
  · have hb := h.al.mp ha
    obtain ⟨⟨x1, x2, x3⟩, x4⟩ := hX k hb
    by_cases hk : k = V 126 μ.1 0
    · subst hk
      rw [RHk_s]
      refine ⟨⟨m2.1, hnew, hU _ l11⟩, fun _ => ?_⟩
      rw [g1, h.o (c := 217) (by decide) (by decide)]
      refine ⟨?_, trivial⟩
      rw [h.o (c := 218) (by decide) (by decide), h.o (c := 219) (by decide) (by decide), v1, if_pos rfl, n5, show (1 + (R 120 μ.1 0 - n0)).toNat = (lvN μ V - 1) + 1 by omega]
      have ew : Ay 212 0 (n0 - 1) = 0 + 8 * p0 + 4096 * (v0 + 1) := by rw [v6, hS.2.2.2.2, w1]; omega
      refine ⟨fun hk => ?_, ?_⟩
      · rw [ew] at hk; omega
      · rw [ew, ins_ply (X := Ay) (p := p0) (v := v0 + 1) (by omega), show n0 - 1 + 1 = n0 by omega]
        dsimp only
        rw [show V 219 0 (V 126 μ.1 0) + (v0 + 1) = V 123 μ.1 0 + 1 by omega]
        refine h.gn _ _ _ _ (Int.le_refl _) (by omega) ?_
        rw [eN, n4] at l12
        obtain ⟨-, l13⟩ := l12
        rw [w2, ins_ply (X := V) (p := p0 + v0) (v := 1) (by omega)] at l13
        dsimp only at l13
        have l7' := l7
        have l8' := l8
        rw [eL] at l7' l8'
        obtain ⟨-, f8⟩ := l7'
        dsimp only at f8
        exact GNl_eq (b := V) (b' := V) (G := G) (G' := G) (P := V 121 μ.1 0) (lim := V 120 μ.1 0) (fun _ _ _ => rfl) (fun _ _ _ => rfl) (fun _ _ _ => rfl) (lvN μ V - 1) (n0 + 1) (V 123 μ.1 0 + 1) _ _ (by omega) (by omega) (by omega) (fun j j0 j1 => l6 j (by omega) (by omega)) (fun y hy => l8' y (List.mem_cons_of_mem _ hy)) m4 (fun j => by rw [pby_play, pby_SWp]) (fun j => by rw [pby_play, pby_rpl, v7]) l3 m5.1 m5.2 f8 l13
    · rw [RHk_o hk]
      refine ⟨⟨x1.trans (m1 k hb hk).1, x2, hU _ x3⟩, fun hk1 => ?_⟩
      obtain ⟨p1, p2, p3, p4, p5, p6⟩ := hI.par h3 (by omega) h5 l2 l3 hb hk1
      have hlim := h.lim hb hk
      rw [h.o (c := 217) (by decide) (by decide)]
      have hpn : V 217 0 k ≠ V 126 μ.1 0 := by
        have := h3.plp (k := k) ⟨hk1, hb.1.2⟩
        have := hb.1.2
        omega
      exact GNo_eq (P := V 123 μ.1 0) (lim := n0 - 1) (fun j _ _ => v7 j) wl eG h6' (PL k) _ _ _ (hN k hk1 hb).1 (fun c q hq c1 c2 => by
        by_cases y : c = 220
        · subst y; exact x220 q (by have := (hlim q hq).1; omega)
        · exact h.o (by omega) (by omega)) (fun q hq => (hlim q hq).2) p3 (m1 _ p4 hpn).1 pby_rpl pby_rpl p5.1 p5.2 p2 (x4 hk1)
  · have hz : lvN μ Ay = 0 := by unfold lvN; rw [v3, v5]; omega
    have hL : LVl μ Ay = [] := by unfold LVl; rw [hz]; rfl
    refine ⟨⟨hnew, hb, h6', ?_, ?_, fun j j0 j1 => ?_⟩, ⟨?_, ?_, ?_⟩, ?_, ?_, ?_⟩
    · rw [v3, v5]; omega
    · rw [v4]; omega
    · rw [v3] at j0; rw [v5] at j1; omega
    · rw [hL]; trivial
    · rw [hL]; exact fun y hy => absurd hy List.not_mem_nil
    · rw [hz]; show Ay 123 μ.1 0 = Ay 121 μ.1 0; rw [v4, h.o (by decide) (by decide)]
    · rw [hL]
      show EQv _ 1 0 (SWp _ _) _
      refine (EQv.sw.trans (l10.mono fun r _ _ z => ?_)).trans (EQv.buf EQv.refl (fun c i c1 c2 => rfl) (fun c i c1 c2 => h.o (by omega) (by omega)))
      have z : Ay 211 0 r = 1 := z
      show V 211 0 r = 1
      rw [h.o (by decide) (by decide)] at z; exact z
    · rw [hL]
      intro r r0 r1 r2
      rw [h.o (by decide) (by decide)] at r2
      show SWp _ _ 204 0 (5 + r) = 0
      rw [SWp_s (by decide)]; exact l11 r r0 r1 r2
    · rw [hz]; trivial
end EX3
