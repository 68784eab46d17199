/-! typing goes on: the tree's facts -/
section EX2
variable {X V R Ay : Mm} {p v t q k j n0 p0 v0 M : Int} {μ : MU} {ρ : Int → Mm} {G : Int → Int → Int} {PL : Int → List Int}
theorem ex_rpl (h : EXo μ M ρ G PL V R Ay n0 p0 v0) :
    (∀ k, alv μ V k → k ≠ V 126 μ.1 0 → EQv TA 1 1 (m_rpl μ PL k V) (m_rpl μ PL k Ay) ∧ RLo μ PL Ay k) ∧
    (EQv TA 1 1 (m_playL (LVl μ V) (SWp (ρ (V 126 μ.1 0)) V)) (m_rpl μ PL (V 126 μ.1 0) Ay) ∧ RLo μ PL Ay (V 126 μ.1 0)) ∧
    (SB 1 (SWp (ρ (V 126 μ.1 0)) V) ∧ bB (SWp (ρ (V 126 μ.1 0)) V)) ∧
    EQv TA 1 1 (m_play (0 + 8 * (p0 + v0) + 4096 * 1) (V 123 μ.1 0) (SWp (ρ (V 126 μ.1 0)) V)).2 (m_play (0 + 8 * p0 + 4096 * (v0 + 1)) (V 219 0 (V 126 μ.1 0)) (m_rpl μ PL (V 217 0 (V 126 μ.1 0)) Ay)).2 ∧
    (SB 1 (m_play (0 + 8 * (p0 + v0) + 4096 * 1) (V 123 μ.1 0) (SWp (ρ (V 126 μ.1 0)) V)).2 ∧ bB (m_play (0 + 8 * (p0 + v0) + 4096 * 1) (V 123 μ.1 0) (SWp (ρ (V 126 μ.1 0)) V)).2) := by
  obtain ⟨hK, hS, ⟨g1, g2, g3⟩, ⟨n4, n5, n6, n7, n8, n9⟩, ⟨⟨w1, w2⟩, hp, hv⟩, -, hTb⟩ := id h
  obtain ⟨h1, h2, h3, h4, h5, h6⟩ := id hK
  obtain ⟨⟨l1, l2, l3, l4, l5, l6⟩, ⟨l7, l8, l9⟩, l10, l11, l12⟩ := id h2
  obtain ⟨v1, v2, v3, v4, v5, v6, v7⟩ := h.va
  have hI := h1.1.1
  have hcur := h1.1.1.1.cur h3
  have hpb : bPb Ay := fun j a => by rw [v7]; exact l3 j a
  have hL := h2.b0
  obtain ⟨eL, eN, eM⟩ := ex_LV h
  have hsw : SB 1 (SWp (ρ (V 126 μ.1 0)) V) ∧ bB (SWp (ρ (V 126 μ.1 0)) V) := ⟨l1.cong (fun c a i y z => SWp_s ⟨by omega, by omega⟩), l2.cong (fun i => SWp_o (by decide))⟩
  have hpk := h3.plp (k := V 126 μ.1 0) ⟨g2, by omega⟩
  have hpa : alv μ V (V 217 0 (V 126 μ.1 0)) := ⟨⟨by omega, by omega⟩, h1.1.1.1.2.2.1 _ g2 (by omega) hcur.2⟩
  have hpn : V 217 0 (V 126 μ.1 0) ≠ V 126 μ.1 0 := by omega
  have hold : ∀ k, alv μ V k → k ≠ V 126 μ.1 0 → EQv TA 1 1 (m_rpl μ PL k V) (m_rpl μ PL k Ay) ∧ RLo μ PL Ay k := fun k ha hk => by
    obtain ⟨r1, r2, r3⟩ := h1.1.1.2.2.2.1 k ha
    have o := rpl_mv (A' := Ay) (k' := k) h5 l2 hpb (fun j _ _ => v7 j) r1 r2
    have eR := ex_RSo h (k + 1).toNat k (by have := ha.1; omega) ha hk
    unfold m_rpl RLo
    rw [eR, v3, v4]
    exact ⟨o.1, o.2, fun y hy => Int.le_trans (r2.mv v7 y hy) h6.2.2, by have := hS.2.1; omega⟩
  -- the parent's replay, the node's own step behind it
  obtain ⟨p1, p2, p3, p4, p5, p6⟩ := hI.par h3 (by omega) h5 l2 l3 hcur g2
  obtain ⟨P0, hP0⟩ : ∃ P0, P0 = m_rpl μ PL (V 217 0 (V 126 μ.1 0)) V := ⟨_, rfl⟩
  rw [← hP0] at p1 p2 p5
  have eNL : nodeL V (PL (V 126 μ.1 0)) = [(0 + 8 * p0 + 4096 * v0, V 219 0 (V 126 μ.1 0))] := by
    rw [g1]
    show plist V _ _ _ ++ [] = _
    rw [List.append_nil, n6, n5, show (1 : Int).toNat = 0 + 1 from rfl, plist_s (n := 0 + 1) (m := 0) rfl, w1]; rfl
  rw [eNL] at p1 p2
  have p2a : LG1 (0 + 8 * p0 + 4096 * v0) (V 219 0 (V 126 μ.1 0)) P0 := p2.1.1
  have p2b : LGr ((0 + 8 * p0 + 4096 * v0) % 8) ((0 + 8 * p0 + 4096 * v0) / 4096) (V 219 0 (V 126 μ.1 0)) P0 := p2.1.2
  have pP0 : ∀ j, pby P0 j = pby V j := fun j => by rw [hP0]; exact pby_rpl j
  have b0 : bPb P0 := fun j a => by rw [pP0]; exact l3 j a
  have eX1 : m_play (0 + 8 * p0 + 4096 * v0) (V 219 0 (V 126 μ.1 0)) P0 = (v0, m_opn1 p0 v0 (V 219 0 (V 126 μ.1 0)) P0) := ins_ply (by omega)
  obtain ⟨X1, hX1⟩ : ∃ X1, X1 = m_opn1 p0 v0 (V 219 0 (V 126 μ.1 0)) P0 := ⟨_, rfl⟩
  have p1' : EQv TA 1 1 (m_rpl μ PL (V 126 μ.1 0) V) X1 := by
    have : m_playL [(0 + 8 * p0 + 4096 * v0, V 219 0 (V 126 μ.1 0))] P0 = X1 := by
      show (m_play (0 + 8 * p0 + 4096 * v0) (V 219 0 (V 126 μ.1 0)) P0).2 = X1; rw [eX1, hX1]
    rw [← this]; exact p1
  have sX1 : SB 1 X1 ∧ bB X1 := by
    have k := p5.1.play p5.2 p2a p2b
    rw [eX1] at k; rw [hX1]; exact k
  have pX1 : ∀ j, pby X1 j = pby V j := fun j => by rw [hX1, on1_pby]; exact pP0 j
  have e1 : EQv TA 1 1 (SWp (ρ (V 126 μ.1 0)) V) X1 := (EQv.sw.trans (h1.2 _ hcur).1.1).trans p1'
  have hPA : PAg (V 121 μ.1 0) (SWp (ρ (V 126 μ.1 0)) V) X1 := fun j _ _ => by rw [pX1, pby_SWp]
  have bX1 : bPb X1 := fun j a => by rw [pX1]; exact l3 j a
  have q1 := playL_eq (P := V 121 μ.1 0) (LVl μ V) _ _ e1 hPA bX1 hsw.1 hsw.2 l7 (l8.mv fun j => pby_SWp)
  have lX1 := q1.2
  have l7' := l7
  have l8' := l8
  rw [eL] at lX1 l7' l8'
  obtain ⟨⟨g7, g7r⟩, g8⟩ := lX1
  obtain ⟨⟨f7, f7r⟩, f8⟩ := l7'
  dsimp only at g7 g7r g8 f7 f7r f8
  have t0 : V 219 0 (V 126 μ.1 0) + v0 = V 123 μ.1 0 := n7
  have eX2 : m_play (0 + 8 * (p0 + v0) + 4096 * 1) (V 123 μ.1 0) X1 = (1, m_opn1 (p0 + v0) 1 (V 123 μ.1 0) X1) := ins_ply (by omega)
  have eX3 : m_play (0 + 8 * p0 + 4096 * (v0 + 1)) (V 219 0 (V 126 μ.1 0)) P0 = (v0 + 1, m_opn1 p0 (v0 + 1) (V 219 0 (V 126 μ.1 0)) P0) := ins_ply (by omega)
  have gP : LG1 (0 + 8 * (p0 + v0) + 4096 * 1) (V 219 0 (V 126 μ.1 0) + v0) (m_opn1 p0 v0 (V 219 0 (V 126 μ.1 0)) P0) := by rw [t0, ← hX1]; exact g7
  have hlg := ins_lg hp hv p2a gP b0
  have hpl : p0 ≤ P0 201 0 1 := by
    obtain ⟨-, a1, a2, a3⟩ := ply_of (k := 0) (p := p0) (v := v0) (t := V 219 0 (V 126 μ.1 0)) (V := P0) (by decide) (by omega)
    have s1 := p2a.2.1
    rw [a1, a2, a3] at s1
    exact (s1.2.2.2.1 rfl).1
  have hpy := play2 (t := V 219 0 (V 126 μ.1 0)) p5.1 ⟨hp.1, hpl⟩ hv.1
  rw [t0, ← hX1] at hpy
  have sX2 : SB 1 (m_opn1 (p0 + v0) 1 (V 123 μ.1 0) X1) ∧ bB (m_opn1 (p0 + v0) 1 (V 123 μ.1 0) X1) := by
    have k := sX1.1.play sX1.2 g7 g7r
    rw [eX2] at k; exact k
  have sX3 : SB 1 (m_opn1 p0 (v0 + 1) (V 219 0 (V 126 μ.1 0)) P0) ∧ bB (m_opn1 p0 (v0 + 1) (V 219 0 (V 126 μ.1 0)) P0) := by
    have k := p5.1.play p5.2 hlg.1 hlg.2
    rw [eX3] at k; exact k
  rw [eX2] at g8
  dsimp only at g8
  have l8r : BDp (V 121 μ.1 0) V (plist V (lvN μ V - 1) (n0 + 1) (V 123 μ.1 0 + 1)) := fun y hy => l8' y (List.mem_cons_of_mem _ hy)
  have pX2 : ∀ j, pby (m_opn1 (p0 + v0) 1 (V 123 μ.1 0) X1) j = pby V j := fun j => by rw [on1_pby]; exact pX1 j
  have pX3 : ∀ j, pby (m_opn1 p0 (v0 + 1) (V 219 0 (V 126 μ.1 0)) P0) j = pby V j := fun j => by rw [on1_pby]; exact pP0 j
  have q2 := playL_eq (P := V 121 μ.1 0) (plist V (lvN μ V - 1) (n0 + 1) (V 123 μ.1 0 + 1)) _ _ hpy.symm (fun j _ _ => by rw [pX2, pX3]) (fun j a => by rw [pX3]; exact l3 j a) sX2.1 sX2.2 g8 (l8r.mv pX2)
  -- what the growing insertion leads to
  have eV : EQv TA 1 1 (m_playL (LVl μ V) (SWp (ρ (V 126 μ.1 0)) V)) (m_playL (EXw V μ p0 v0 n0) P0) := by
    refine q1.1.trans ?_
    rw [eL]
    show EQv TA 1 1 (m_playL (plist V (lvN μ V - 1) (n0 + 1) (V 123 μ.1 0 + 1)) (m_play (0 + 8 * (p0 + v0) + 4096 * 1) (V 123 μ.1 0) X1).2) (m_playL (plist V (lvN μ V - 1) (n0 + 1) (V 123 μ.1 0 + 1)) (m_play (0 + 8 * p0 + 4096 * (v0 + 1)) (V 219 0 (V 126 μ.1 0)) P0).2)
    rw [eX2, eX3]
    exact q2.1
  have lE : LGL (EXw V μ p0 v0 n0) P0 := by
    refine ⟨hlg, ?_⟩
    show LGL (plist V (lvN μ V - 1) (n0 + 1) (V 123 μ.1 0 + 1)) (m_play (0 + 8 * p0 + 4096 * (v0 + 1)) (V 219 0 (V 126 μ.1 0)) P0).2
    rw [eX3]; exact q2.2
  have bE : BDp (V 121 μ.1 0) V (EXw V μ p0 v0 n0) := fun y hy => by
    rcases List.mem_cons.mp hy with rfl | hy
    · dsimp only
      rw [ins_ply (p := p0) (v := v0 + 1) (by omega)]
      have := l8' _ List.mem_cons_self
      dsimp only at this ⊢
      rw [ins_ply (p := p0 + v0) (v := 1) (by omega)] at this
      dsimp only at this
      omega
    · exact l8r y hy
  -- on the reference's own world
  obtain ⟨r1, r2, r3⟩ := h1.1.1.2.2.2.1 _ hpa
  have o := rpl_mv (A' := Ay) (k' := V 126 μ.1 0) h5 l2 hpb (fun j _ _ => v7 j) r1 r2
  obtain ⟨Q0, hQ0⟩ : ∃ Q0, Q0 = m_playL (RSx PL (V 217 0 (V 126 μ.1 0)) V) (m_rp0 μ (V 126 μ.1 0) Ay) := ⟨_, rfl⟩
  have o1 : EQv TA 1 1 P0 Q0 := by rw [hP0, hQ0]; exact o.1
  have pQ : ∀ j, pby Q0 j = pby V j := fun j => by rw [hQ0, pby_L, pby_rp0, v7]
  have q3 := playL_eq (P := V 121 μ.1 0) (EXw V μ p0 v0 n0) P0 Q0 o1 (fun j _ _ => by rw [pP0, pQ]) (fun j a => by rw [pQ]; exact l3 j a) p5.1 p5.2 lE (bE.mv pP0)
  have eQ : m_rpl μ PL (V 126 μ.1 0) Ay = m_playL (EXw V μ p0 v0 n0) Q0 := by
    unfold m_rpl; rw [ex_RSn h, playL_app, hQ0]
  have hop := hold _ hpa hpn
  have o2 : EQv TA 1 1 P0 (m_rpl μ PL (V 217 0 (V 126 μ.1 0)) Ay) := by rw [hP0]; exact hop.1
  refine ⟨hold, ⟨?_, ?_⟩, hsw, ?_, ?_⟩
  · rw [eQ]; exact eV.trans q3.1
  · unfold RLo
    rw [ex_RSn h, LGL_app, v3, v4]
    refine ⟨⟨o.2, by rw [← hQ0]; exact q3.2⟩, fun y hy => ?_, ?_⟩
    · rcases List.mem_append.mp hy with z | z
      · exact Int.le_trans (r2.mv v7 y z) h6.2.2
      · exact bE.mv v7 y z
    · rw [List.length_append]
      unfold EXw
      rw [List.length_cons, plist_len]
      have hpr := h1.1.1.2.2.2.2.2
      have hr := (hI.rq h3 (by omega) hcur).2.2.2
      have hrs : RSx PL (V 126 μ.1 0) V = RSx PL (V 217 0 (V 126 μ.1 0)) V ++ nodeL V (PL (V 126 μ.1 0)) := h3.rsp ⟨g2, by omega⟩
      rw [hrs, eNL, List.length_append, List.length_cons, List.length_nil] at hr
      rw [n4] at hr
      omega
  · have k1 := play_eq (x := 0 + 8 * (p0 + v0) + 4096 * 1) (t := V 123 μ.1 0) (P := V 121 μ.1 0) e1 hPA bX1 f7 f7r hsw.1 (by
      have := l8' _ List.mem_cons_self
      dsimp only at this
      rw [ins_ply (p := p0 + v0) (v := 1) (by omega)] at this ⊢
      exact this)
    rw [eX2] at k1
    have k2 := play_eq (x := 0 + 8 * p0 + 4096 * (v0 + 1)) (t := V 219 0 (V 126 μ.1 0)) (P := V 121 μ.1 0) o2 (fun j _ _ => by rw [pP0, pby_rpl, v7]) (fun j a => by rw [pby_rpl, v7]; exact l3 j a) hlg.1 hlg.2 p5.1 (by
      have := bE _ List.mem_cons_self
      dsimp only at this
      rw [ins_ply (p := p0) (v := v0 + 1) (by omega)] at this ⊢
      exact this)
    rw [eX3] at k2
    exact (k1.1.trans hpy.symm).trans k2.1
  · exact hsw.1.play hsw.2 f7 f7r
end EX2
