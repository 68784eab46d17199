/-! a node is made: the relation -/
section MKR
variable {p : RP} {c c' : Int → Int} {w w2 w3 w4 w5 w6 w8 w9 w10 w' A A' : Mm} {μ : MU} {f n e x q1 q2 a1 a2 a3 a4 k m M g i cu : Int} {L : List Int} {PL : Int → List Int}
theorem RLm.mkB (h : RLm p μ f (lvL p μ A) w A) (hK : MKo μ M (pr_ p) (pg_ p) (pl_ p) A) (hSB : SB 0 A) (hbt : bTr A) (hg : g = 0 ∨ g = 1) (hWI : WI w) (hb210 : 0 ≤ A 207 0 0 ∧ A 207 0 0 ≤ 400)
    {C' : Int → Int} (hF : MKF p μ f g C' (m_playL (LVl μ A) (SWp (pr_ p (A 126 μ.1 0)) A)) w w10 A x q1 q2) :
    (∃ c al, RLm (pK p c al (A 124 μ.1 0) x (m_playL (LVl μ A) (SWp (pr_ p (A 126 μ.1 0)) A))) μ f [] w10 (m_mk1 μ g A)) ∧ UPE f w w10 ∧ w10 45 f 0 = w 45 f 0 := by
  obtain ⟨hn, ⟨t1, t2⟩, t3, t4⟩ := RLm.spl.mp h
  obtain ⟨hTX, hLV, hT, hM, hS1, hb⟩ := id hK
  have hl : 0 ≤ A 122 μ.1 0 ∧ A 122 μ.1 0 ≤ A 120 μ.1 0 := hLV.b0.1
  have h124 := hT.1
  have h125 := hT.2.1
  have hcur := hTX.1.1.1.cur hT
  have hf := hn.2.1.1.1
  obtain ⟨⟨c1, c2⟩, ⟨d1, d2⟩, ⟨e1, e2⟩, e3, e4, e5⟩ := id t1
  obtain ⟨⟨v1, v2, v3, v4⟩, v5, v6, v7, v8, v9⟩ := id t2
  have hd0 := hn.2.1.2.1.1
  obtain ⟨⟨k1, k2⟩, -, -, ⟨k4, k5⟩, -, -⟩ := id hd0
  obtain ⟨hV0, hQ0, hL0⟩ := hn.2.2.2.1
  obtain ⟨⟨u, hcx, c0⟩, eQ, ⟨⟨b1, b2⟩, ⟨b3, b4⟩, ⟨b5, b6⟩, b7, b8, b9, b10, b11, b12, b13⟩, N1, N2, N3, N4, N5, N6, N7, N8, N9, N10⟩ := hF
  have o1 : ∀ {c : Nat} {a i : Int}, c < 122 ∨ (126 < c ∧ c < 216) ∨ 225 < c → m_mk1 μ g A c a i = A c a i := fun z => mk1_n z
  obtain ⟨m216, m217, m218, m219, m220, m221, m222, m223, m224, m225⟩ := mk1_v (μ := μ) (g := g) (A := A)
  obtain ⟨m126, m124, m125, m122, m123⟩ := mk1_m (μ := μ) (g := g) (A := A)
  have hSTe : ∀ b k, SMk (A 126 μ.1 0) (A 124 μ.1 0) b k → STe b k := fun b k z => by have := hcur.1; unfold SMk at z; unfold STe; omega
  have hno0 : ∀ k, ¬ SMk (A 126 μ.1 0) (A 124 μ.1 0) 0 k := fun k z => by have := hcur.1; unfold SMk at z; omega
  have hn11 : ∀ (b' : Int) (k : Nat), 10 ≤ b' → b' ≤ 18 → b' ≠ 16 → ¬ SMk (A 126 μ.1 0) (A 124 μ.1 0) b' k := fun b' k z1 z2 z3 z => by have := hcur.1; unfold SMk at z; omega
  have g45 : w10 45 f 0 = w 45 f 0 := u.g (by omega) hf.2 (fun z => by have := hcur.1; unfold SMk at z; omega)
  have g41 : w10 41 f 0 = w 41 f 0 := u.g (by omega) hf.2 (fun z => by have := hcur.1; unfold SMk at z; omega)
  have g12 : w10 12 (w 41 f 0) 0 = w 12 (w 41 f 0) 0 := u.g (by omega) k2 (fun z => by have := hcur.1; unfold SMk at z; omega)
  refine ⟨⟨C', fun i => if i = A 125 μ.1 0 then A 124 μ.1 0 else pa_ p i, RLm.spl.mpr ⟨?_, ?_⟩⟩, u.toE hf hn.2.2.1.2.1 (fun k _ z => by have := hcur.1; unfold SMk at z; omega) (fun k z => by have := hcur.1; unfold SMk at z; omega), g45⟩
  · refine hn.fr u hcx hSTe c0 (fun c i z => o1 (by omega)) (o1 (by decide)) (fun k _ _ => o1 (by decide)) ?_ ?_ ⟨?_, ?_, fun y hy => absurd hy List.not_mem_nil⟩
    · exact hn.2.1.1.frn u hcx (fun k _ z => by have := hcur.1; unfold SMk at z; omega) (fun k z => by have := hcur.1; unfold SMk at z; omega) (fun c z1 z2 => o1 (by omega)) (fun i => o1 (by decide))
    · exact hn.2.1.2.frn hf u hcx (fun k _ z => by have := hcur.1; unfold SMk at z; omega) (fun b k z1 z2 z3 z => by have := hcur.1; unfold SMk at z; omega)
    · rw [g41]
      exact (hV0.fr hd0 u hcx (fun b' k z1 z2 z3 => hn11 b' k (by omega) (by omega) (by omega)) hno0).cgV (fun k j z1 z2 => o1 (by omega))
    · rw [g41, g12]; exact eQ
  have hlo : ∀ k, alv μ A k → k ≠ A 124 μ.1 0 := fun k ha => by have := ha.1; omega
  have f38 : w10 38 (w 45 f 0) 0 = w 38 (w 45 f 0) 0 := u.g (by omega) c2 (fun z => by have := hcur.1; unfold SMk at z; omega)
  have f39 : w10 39 (w 45 f 0) 0 = w 39 (w 45 f 0) 0 := u.g (by omega) c2 (fun z => by have := hcur.1; unfold SMk at z; omega)
  unfold rTr
  rw [g45]
  refine ⟨⟨⟨⟨u.tag c1 (by decide), (hcx _ (by omega)).trans c2⟩, ?_, ?_, ?_⟩, ⟨?_, ?_, ?_, ?_⟩, fun i i0 i1 => ?_, fun j j0 j1 => ?_, ?_, ?_, ?_⟩, ⟨fun i i0 i1 => ?_, fun i j i0 ij j1 => ?_, fun k k0 k1 k2 => ?_⟩, fun k k0 k1 k2 => ?_⟩
  · rw [f38]; exact ⟨u.tag d1 (by decide), (hcx _ (by omega)).trans d2⟩
  · rw [f38]; exact ⟨b3, b4⟩
  · rw [f39]; exact ⟨u.tag e3 (by decide), (u.t (by omega) (by decide)).trans e4, (hcx _ (by omega)).trans e5⟩
  · rw [f38, b1, m125]
  · rw [f38, b2, v2, m124, m125]; omega
  · rw [f38]; exact b6
  · rw [f38]; exact b5
  · rw [m125] at i1
    rw [f38]
    show _ = cset (pn_ p) (A 124 μ.1 0) x (if i = A 125 μ.1 0 then A 124 μ.1 0 else pa_ p i)
    by_cases c : i = A 125 μ.1 0
    · rw [if_pos c, cset_s, c]; exact b8
    · rw [if_neg c, cset_o (hlo _ (h.al ⟨i0, by omega⟩)), b7 i i0 (by omega)]
      exact v5 i i0 (by omega)
  · rw [f39, b9, v6 j j0 j1, o1 (by decide)]
    rcases hTX.1.2 j j0 j1 with z | z
    · rw [if_pos z, if_pos z]
    · rw [if_neg (by have := z.1; omega), if_neg (by have := z.1; omega)]
      show _ = cset (pn_ p) (A 124 μ.1 0) x (A 227 0 j)
      rw [cset_o (hlo _ z)]
  · rw [m126, b10]; show _ = cset (pn_ p) (A 124 μ.1 0) x _; rw [cset_s]
  · rw [m124, b11]
  · rw [b12, o1 (by decide)]; exact v9
  · rw [m125] at i1
    rw [m124]
    show (0 ≤ (if i = A 125 μ.1 0 then A 124 μ.1 0 else pa_ p i) ∧ (if i = A 125 μ.1 0 then A 124 μ.1 0 else pa_ p i) < A 124 μ.1 0 + 1) ∧ m_mk1 μ g A 216 0 (if i = A 125 μ.1 0 then A 124 μ.1 0 else pa_ p i) = 1
    by_cases c : i = A 125 μ.1 0
    · simp only [if_pos c]; exact ⟨by omega, m216⟩
    · simp only [if_neg c]
      have := h.al (i := i) ⟨i0, by omega⟩
      rw [mk1_o (by decide) (hlo _ this)]
      exact ⟨by have := this.1; omega, this.2⟩
  · rw [m125] at j1
    show (if i = A 125 μ.1 0 then A 124 μ.1 0 else pa_ p i) < (if j = A 125 μ.1 0 then A 124 μ.1 0 else pa_ p j)
    rw [if_neg (by omega)]
    by_cases c : j = A 125 μ.1 0
    · rw [if_pos c]; exact (h.al (i := i) ⟨i0, by omega⟩).1.2
    · rw [if_neg c]; exact t3.2.1 i j i0 ij (by omega)
  · have ha := (alv_mk (g := g) h124.1).mp ⟨⟨k0, k1⟩, k2⟩
    rw [m125]
    rcases ha with ha | ha
    · obtain ⟨j, j1, j2⟩ := t3.2.2 k ha.1.1 ha.1.2 ha.2
      exact ⟨j, by omega, by show (if j = A 125 μ.1 0 then _ else pa_ p j) = k; rw [if_neg (by omega)]; exact j2⟩
    · exact ⟨A 125 μ.1 0, by omega, by show (if A 125 μ.1 0 = A 125 μ.1 0 then A 124 μ.1 0 else _) = k; rw [if_pos rfl]; exact ha.symm⟩
  · have ha := (alv_mk (g := g) h124.1).mp ⟨⟨k0, k1⟩, k2⟩
    rcases ha with ha | ha
    · have hkn := hlo k ha
      have hNk := h.nd ha
      have hnu : cset (pn_ p) (A 124 μ.1 0) x k = pn_ p k := cset_o hkn
      refine hNk.gg (ν' := cset (pn_ p) (A 124 μ.1 0) x) (ρ' := RHk (pr_ p) (A 124 μ.1 0) (m_playL (LVl μ A) (SWp (pr_ p (A 126 μ.1 0)) A))) (σ' := ps_ p) (PL' := PLk (pl_ p) (A 124 μ.1 0)) u hcx (fun b' k' z1 z2 z3 z => ?_) hno0 hnu (RHk_o hkn) ?_ (fun i hi => ?_) (mk1_o (by decide) hkn) (fun z => ?_) ?_ (mk1_o (by decide) hkn) (mk1_o (by decide) hkn) (by rw [m122]; exact hl.2)
      · have := ha.1; have := hcur.1; unfold SMk at z; omega
      · rw [PLk_o hkn]
        exact ixN_cgm _ fun q hq => by
          have := (hTX.1.1.lt hT ha q hq).2
          exact ⟨mk1_o (by decide) (by omega), mk1_o (by decide) (by omega)⟩
      · obtain ⟨s1, s2, s3, s4⟩ := h.stp hl.2 ha hi
        have q : ∀ k : Nat, w10 k (ps_ p i) 0 = w k (ps_ p i) 0 := fun k => u.g (by omega) s3 (fun z => by have := hcur.1; unfold SMk at z; omega)
        exact ⟨rfl, q _, q _, q _⟩
      · exact cset_o (fun e => by have := (hT.2.2.2.2.2.2 k ha.1.1 ha.1.2).2.1; have := ha.1; omega)
      · rw [chl_mk hT (Or.inl ha.1.2), if_pos ha.1.2]
        have e64 := hNk.2.2.2.1.2.1
        have h5k := (h.tg5 ha).1
        by_cases c : k = A 126 μ.1 0
        · rw [if_pos c, ← e64, c, b13]
        · rw [if_neg c, Int.add_zero, ← e64]
          refine u.g (by omega) (h.nd ha).1.1.2 (fun z => ?_)
          have := ha.1; have := hcur.1; unfold SMk at z; omega
    · subst ha
      have eν : cset (pn_ p) (A 124 μ.1 0) x (A 124 μ.1 0) = x := cset_s
      have eL : ((ixN (m_mk1 μ g A) (PLk (pl_ p) (A 124 μ.1 0) (A 124 μ.1 0))).map (ps_ p)) = lvL p μ A := by
        rw [PLk_s]
        show (rng (m_mk1 μ g A 220 0 (A 124 μ.1 0)).toNat (m_mk1 μ g A 218 0 (A 124 μ.1 0)) ++ []).map (ps_ p) = _
        rw [List.append_nil, m220, m218]; rfl
      show vNd C' (ps_ p) (cset (pn_ p) (A 124 μ.1 0) x) (RHk (pr_ p) (A 124 μ.1 0) (m_playL (LVl μ A) (SWp (pr_ p (A 126 μ.1 0)) A))) (PLk (pl_ p) (A 124 μ.1 0)) μ w10 (m_mk1 μ g A) (A 124 μ.1 0)
      unfold vNd
      rw [eν, N3.1, N3.2, eL]
      refine ⟨⟨N1, N2⟩, ⟨N4.1, ?_⟩, N5, ⟨?_, ?_, ?_, ?_, Or.inl N10⟩, fun i hi => ?_⟩
      · rw [RHk_s]; exact N4.2
      · rw [m217, if_neg (by have := hcur.1; omega)]
        show _ = cset (pn_ p) (A 124 μ.1 0) x (A 126 μ.1 0)
        rw [cset_o (hlo _ hcur)]
        exact N6
      · rw [chl_mk hT (Or.inr rfl), if_neg (Int.lt_irrefl _), if_neg (fun e => hlo _ hcur e.symm)]; exact N7
      · rw [m224]; exact N8
      · rw [m225, N9]; omega
      · rw [PLk_s] at hi
        have hi : i ∈ rng (m_mk1 μ g A 220 0 (A 124 μ.1 0)).toNat (m_mk1 μ g A 218 0 (A 124 μ.1 0)) ++ [] := hi
        rw [List.append_nil, m220, m218] at hi
        have := rng_mem.mp hi
        rw [m122]; omega
theorem RLm.mk (h : RLm p μ f (lvL p μ A) w A) (hK : MKo μ M (pr_ p) (pg_ p) (pl_ p) A) (hSB : SB 0 A) (hbt : bTr A) (hg : g = 0 ∨ g = 1) (hWI : WI w) (hb210 : 0 ≤ A 207 0 0 ∧ A 207 0 0 ≤ 400)
    (hN : NWN w w2 x q1 q2 a1 a2 a3 a4 (A 124 μ.1 0) (pn_ p (A 126 μ.1 0)) (A 201 0 0))
    (h5 : w5 = q_emp (w 12 (w 41 f 0) 0) (q_join q1 (w 12 (w 41 f 0) 0) (up w2 66 x 0 g)))
    (h6 : w6 = t_tk q2 (w 11 (w 41 f 0) 0) (w 44 f 0) 8 (t_tm q2 (w 11 (w 41 f 0) 0) w5))
    (h8 : w8 = up (up w6 65 x 0 (A 207 0 0)) 64 (pn_ p (A 126 μ.1 0)) 0 (w 64 (pn_ p (A 126 μ.1 0)) 0 + 1))
    (h9 : LAd (w 38 (w 45 f 0) 0) x (up w8 92 (w 38 (w 45 f 0) 0) 0 (w 92 (w 38 (w 45 f 0) 0) 0 + 1)) w9)
    (h10 : w10 = up (up w9 78 (w 45 f 0) 0 (A 124 μ.1 0 + 1)) 40 (w 45 f 0) 0 x) :
    (∃ c al, RLm (pK p c al (A 124 μ.1 0) x (m_playL (LVl μ A) (SWp (pr_ p (A 126 μ.1 0)) A))) μ f [] w10 (m_mk1 μ g A)) ∧ UPE f w w10 ∧ w10 45 f 0 = w 45 f 0 := by
  obtain ⟨C, hE⟩ := h.mk8 hK hSB hbt hg hWI hb210 hN h5 h6 h8 rfl
  obtain ⟨C', hF⟩ := h.mkF hK hSB hbt hg hWI hb210 hE h9 h10
  exact h.mkB hK hSB hbt hg hWI hb210 hF
end MKR
