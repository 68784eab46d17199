/-! typing goes on: what the walk needs; what it comes to where listeners refuse -/
section EXW
variable {p : RP} {c k n0 p0 v0 S P M f : Int} {μ : MU} {w w4 w' W A A1 V R Ay : Mm} {ρ : Int → Mm} {G : Int → Int → Int} {PL : Int → List Int} {L : List Int}
theorem EXo.wk (h : RLm p μ f (lvL p μ V) w V) (hX : EXo μ M (pr_ p) (pg_ p) (pl_ p) V R Ay n0 p0 v0) :
    (w 0 f 0 = 13 ∧ w 0 (w 45 f 0) 0 = 11 ∧ w 40 (w 45 f 0) 0 = pn_ p (V 126 μ.1 0) ∧ w 0 (pn_ p (V 126 μ.1 0)) 0 = 5 ∧ w 0 (w 41 f 0) 0 = 2) ∧
    (w 0 (w 25 (pn_ p (V 126 μ.1 0)) 0) 0 = 8 ∧ w 0 (w 12 (w 41 f 0) 0) 0 = 8 ∧ w 25 (pn_ p (V 126 μ.1 0)) 0 ≠ w 12 (w 41 f 0) 0) ∧
    (w 34 (w 25 (pn_ p (V 126 μ.1 0)) 0) 0 = ps_ p (n0 - 1) ∧ ps_ p (n0 - 1) ≠ 0 ∧ w 0 (ps_ p (n0 - 1)) 0 = 7 ∧ w 70 (ps_ p (n0 - 1)) 0 = v0) ∧
    (w 35 (w 25 (pn_ p (V 126 μ.1 0)) 0) 0 = ps_ p (n0 - 1) ∧ (0 ≤ w 71 (w 25 (pn_ p (V 126 μ.1 0)) 0) 0 ∧ w 71 (w 25 (pn_ p (V 126 μ.1 0)) 0) 0 ≤ 100000) ∧ 0 ≤ w 72 (w 25 (pn_ p (V 126 μ.1 0)) 0) 0 ∧ w 72 (w 25 (pn_ p (V 126 μ.1 0)) 0) 0 ≤ 100000) ∧
    (w 0 (w 34 (w 12 (w 41 f 0) 0) 0) 0 = 7 ∧ (0 ≤ w 71 (w 12 (w 41 f 0) 0) 0 ∧ w 71 (w 12 (w 41 f 0) 0) 0 ≤ 100000) ∧ 0 ≤ w 72 (w 12 (w 41 f 0) 0) 0 ∧ w 72 (w 12 (w 41 f 0) 0) 0 ≤ 100000) ∧
    (0 ≤ q_drop (w 12 (w 41 f 0) 0) w 71 (w 12 (w 41 f 0) 0) 0 ∧ q_drop (w 12 (w 41 f 0) 0) w 71 (w 12 (w 41 f 0) 0) 0 ≤ 100000) ∧ 0 ≤ q_drop (w 12 (w 41 f 0) 0) w 72 (w 12 (w 41 f 0) 0) 0 ∧ q_drop (w 12 (w 41 f 0) 0) w 72 (w 12 (w 41 f 0) 0) 0 ≤ 100000 := by
  obtain ⟨hK, hS, ⟨g1, g2, g3⟩, ⟨n4, n5, n6, n7, n8, n9⟩, ⟨⟨w1, w2⟩, hp, hv⟩, -, hTb⟩ := id hX
  have hcur := hK.1.1.1.1.cur hK.2.2.1
  have h120 := hK.2.2.2.2.2.1
  obtain ⟨-, eN, eM⟩ := ex_LV hX
  obtain ⟨hn, ⟨t1, t2⟩, t3, t4⟩ := RLm.spl.mp h
  obtain ⟨t0, -, tD, -⟩ := h.toF
  have hR1 := hS.2.1
  obtain ⟨⟨⟨⟨x1, x2⟩, x3⟩, -, ⟨x4, x5⟩, -⟩, z2, -⟩ := vNd.z.mp (h.nd hcur)
  obtain ⟨⟨k1, k2⟩, hsS, k3, ⟨k4, k5⟩, k6, k7⟩ := id hn.2.1.2.1.1
  have hQ0 := hn.2.2.2.1.2.1
  have hIx : ixN V (pl_ p (V 126 μ.1 0)) = [n0 - 1] := by
    rw [g1]; show rng _ _ ++ [] = _; rw [n6, n5]; rfl
  rw [hIx] at z2
  have hSp := hn.2.2.2.2
  have hd0 := hSp (n0 - 1) (by omega) (by omega)
  have hs0 := hSp n0 (by omega) (by omega)
  have eL : lvL p μ V = ps_ p n0 :: (rng (lvN μ V - 1) (n0 + 1)).map (ps_ p) := by
    unfold lvL
    rw [show (V 120 μ.1 0 - V 122 μ.1 0).toNat = (lvN μ V - 1) + 1 from eN, n4]; rfl
  have hlen : ((lvL p μ V).length : Int) ≤ 30000 := by unfold lvL; rw [List.length_map, rng_len]; omega
  have hb := tcA_b (w := w) (lvL p μ V)
  have hb2 := tcA_b (w := w) ([n0 - 1].map (ps_ p))
  have q4 := hQ0.2.2.1
  have q5 := hQ0.2.2.2.1
  have q6 := z2.2.2.1
  have q7 := z2.2.2.2.1
  have hlen2 : (([n0 - 1].map (ps_ p)).length : Int) = 1 := rfl
  have h68 : w 68 (ps_ p n0) 0 ≤ 3 := by
    rw [hs0.2.1, w2, show (0 + 8 * (p0 + v0) + 4096 * 1) % 8 = 0 by omega]; decide
  have hQd := hQ0
  rw [eL] at hQd
  have e34 : w 34 (w 12 (w 41 f 0) 0) 0 = ps_ p n0 := hQd.1.1.1
  have hdr := q_drop_Q hQd h68
  have hb3 := tcA_b (w := q_drop (w 12 (w 41 f 0) 0) w) ((rng (lvN μ V - 1) (n0 + 1)).map (ps_ p))
  have hlen3 : (((rng (lvN μ V - 1) (n0 + 1)).map (ps_ p)).length : Int) ≤ 30000 := by rw [List.length_map, rng_len]; omega
  have q8 := hdr.2.2.1
  have q9 := hdr.2.2.2.1
  refine ⟨⟨t0, t1.1.1, t2.2.2.2.1, x1, tD⟩, ⟨x4, k4, fun e => by rw [e] at x5; omega⟩, ⟨z2.1.1.1, z2.1.1.2, hd0.1.1, ?_⟩, ⟨z2.2.1, by omega, by omega⟩, ⟨by rw [e34]; exact hs0.1.1, by omega, by omega⟩, by omega, by omega⟩
  rw [(hd0.2.2.1 (by rw [w1]; omega)).2, w1]; unfold wsz; rw [if_neg (by omega)]; omega
theorem RLm.kq (h : RLm p μ f L w A) (ha : alv μ A k) : ST w (w 24 (pn_ p k) 0) ∧ SD w (w 24 (pn_ p k) 0) (w 11 (w 41 f 0) 0) ∧ (0 ≤ w 2 (w 28 (w 24 (pn_ p k) 0) 0) 0 ∧ w 2 (w 28 (w 24 (pn_ p k) 0) 0) 0 ≤ 100000) ∧ w 67 (w 11 (w 41 f 0) 0) 0 ≤ 400 ∧ (w 0 (w 44 f 0) 0 = 21 ∧ w 2 (w 44 f 0) 0 = 5) ∧ w 44 f 0 ≠ w 30 (w 24 (pn_ p k) 0) 0 := by
  have hk := ha.1.1
  obtain ⟨⟨⟨x1, x2⟩, x3⟩, ⟨y1, y2⟩, -⟩ := (vNd.z.mp (h.nd ha)).1
  obtain ⟨hn, -⟩ := RLm.spl.mp h
  have hsS := hn.2.1.2.1.1.2.1
  have hv := hn.2.2.2.1.1.1.1
  have h2 := y2.1.2.1
  refine ⟨y1.toST, y1.toSD hsS (by omega), by omega, by have := hv.2.1; omega, hn.2.1.1.2.1.imp id And.left, fun e => ?_⟩
  have c1 := hn.2.1.1.2.1.2.2
  have c2 := y1.2.2.2.1.2.2
  rw [e] at c1
  omega
/-- listeners refuse: side by side it goes back -/
theorem ex_bck (hTX : SHR μ n0 V R) (hC : CHB p μ f (lvL p μ (m_rest μ 2 1 V)) w (m_rest μ 2 1 V)) (hT : TB μ M (m_rest μ 2 1 V)) (hM : M ≤ 600) (s1 : SB 1 (m_rest μ 2 1 V)) (hb : bB (m_rest μ 2 1 R)) (h214 : V 214 0 2 = n0) (hl : V 212 0 (n0 - 1) = c) :
    CHB p μ f (lvL p μ (m_ex3 μ c (m_rest μ 2 1 R))) w (m_ex3 μ c (m_rest μ 2 1 R)) := by
  have r214 : R 214 0 2 = V 214 0 2 := hTX.1 (by decide) (by decide) (by decide) (by decide) (by decide)
  have a120 : ∀ X : Mm, m_rest μ 2 1 X 120 μ.1 0 = X 214 0 2 := fun X => by unfold m_rest; rw [up_k _ (by decide), up_s]
  have a212 : ∀ (X : Mm) (k : Int), m_rest μ 2 1 X 212 0 k = X 212 0 k := fun X k => rest_at (by decide)
  refine hC.cgF hT hM s1 (hb.cong fun i => up_k _ (by decide) _ _ _ _ _) (fun {cc a i} z1 z2 z3 z4 z5 z6 => ?_) ?_ (fun k k0 k1 => ?_)
  · unfold m_ex3
    rw [up_k _ z3]
    exact rest_cg (fun y1 y2 y3 y4 y5 => hTX.1 y1 y2 y3 y4 y5) z1 z2 z3 z5 z4
  · unfold m_ex3; rw [up_k _ (by decide), a120, a120, r214]
  · rw [a120, h214] at k1
    unfold m_ex3
    rw [a120, r214, h214, a212]
    by_cases y : k = n0 - 1
    · rw [y, up_s]; exact hl.symm
    · rw [up_i _ _ _ _ _ _ y, a212]; exact hTX.2.2.2.1 k k1 y
end EXW
