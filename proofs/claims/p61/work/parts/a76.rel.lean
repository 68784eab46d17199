/-! a node is made: the relation again -/
def pK (p : RP) (c al : Int → Int) (n x : Int) (V : Mm) : RP := (c, ps_ p, cset (pn_ p) n x, al, RHk (pr_ p) n V, pg_ p, PLk (pl_ p) n)
def SMf (cu n : Int) (b : Int) (k : Nat) : Prop := (b = 42 ∧ (k = 92 ∨ k = 93 ∨ k = 51)) ∨ (b = 43 ∧ k = 3) ∨ (b = 41 ∧ (k = 78 ∨ k = 40)) ∨ (b = 1000 + 10 * cu ∧ k = 64) ∨ (b = 1000 + 10 * n ∧ k = 65)
theorem SMf.mk {cu n : Int} : ∀ b k, SMf cu n b k → SMk cu n b k := fun b k z => by unfold SMf at z; unfold SMk; omega
/-- what is so where the new node has been made -/
def MKF (p : RP) (μ : MU) (f g : Int) (C' : Int → Int) (V w w10 A : Mm) (x q1 q2 : Int) : Prop :=
  (UPd (pc_ p) (SMk (A 126 μ.1 0) (A 124 μ.1 0)) w w10 ∧ CXt w (pc_ p) C' ∧ ∀ a, w10 0 a 0 = 0 → C' a = 0) ∧ vQs w10 (w 12 (w 41 f 0) 0) [] ∧
  ((w10 93 (w 38 (w 45 f 0) 0) 0 = A 125 μ.1 0 + 1 ∧ w10 92 (w 38 (w 45 f 0) 0) 0 = w 92 (w 38 (w 45 f 0) 0) 0 + 1) ∧ (w10 0 (w10 51 (w 38 (w 45 f 0) 0) 0) 0 = 27 ∧ C' (w10 51 (w 38 (w 45 f 0) 0) 0) = 43) ∧ (w10 2 (w10 51 (w 38 (w 45 f 0) 0) 0) 0 ≤ 100000 ∧ w10 93 (w 38 (w 45 f 0) 0) 0 ≤ w10 2 (w10 51 (w 38 (w 45 f 0) 0) 0) 0) ∧
   (∀ i, 0 ≤ i → i < A 125 μ.1 0 → w10 3 (w10 51 (w 38 (w 45 f 0) 0) 0) i = w 3 (w 51 (w 38 (w 45 f 0) 0) 0) i) ∧ w10 3 (w10 51 (w 38 (w 45 f 0) 0) 0) (A 125 μ.1 0) = x ∧ (∀ j, w10 3 (w 39 (w 45 f 0) 0) j = w 3 (w 39 (w 45 f 0) 0) j) ∧ w10 40 (w 45 f 0) 0 = x ∧ w10 78 (w 45 f 0) 0 = A 124 μ.1 0 + 1 ∧ w10 79 (w 45 f 0) 0 = w 79 (w 45 f 0) 0 ∧
   w10 64 (pn_ p (A 126 μ.1 0)) 0 = w 64 (pn_ p (A 126 μ.1 0)) 0 + 1) ∧
  ((w10 0 x 0 = 5 ∧ C' x = 1000 + 10 * A 124 μ.1 0) ∧ w10 63 x 0 = A 124 μ.1 0 ∧ (w10 24 x 0 = q2 ∧ w10 25 x 0 = q1) ∧ (sSt C' (1000 + 10 * A 124 μ.1 0 + 1) w10 q2 ∧ vSt C' w10 q2 V 1) ∧ ((w10 0 q1 0 = 8 ∧ C' q1 = 1000 + 10 * A 124 μ.1 0 + 6) ∧ vQs w10 q1 (lvL p μ A)) ∧ w10 26 x 0 = pn_ p (A 126 μ.1 0) ∧ w10 64 x 0 = 0 ∧ w10 65 x 0 = A 207 0 0 ∧ w10 66 x 0 = g ∧ w10 27 x 0 = 0)
def SMh (b : Int) (k : Nat) : Prop := (b = 42 ∧ (k = 93 ∨ k = 51)) ∨ (b = 43 ∧ k = 3) ∨ (b = 41 ∧ (k = 78 ∨ k = 40))
/-- what is so before the list takes the new node -/
def MK8 (p : RP) (μ : MU) (f g : Int) (C : Int → Int) (V w W A : Mm) (x q1 q2 : Int) : Prop :=
  (UPd (pc_ p) (SMk (A 126 μ.1 0) (A 124 μ.1 0)) w W ∧ CXt w (pc_ p) C ∧ (∀ a, W 0 a 0 = 0 → C a = 0) ∧ ∀ a, w 0 a 0 ≠ 0 → W 0 a 0 = w 0 a 0) ∧ vQs W (w 12 (w 41 f 0) 0) [] ∧
  (LSn W (w 38 (w 45 f 0) 0) ∧ (W 93 (w 38 (w 45 f 0) 0) 0 = A 125 μ.1 0 ∧ W 92 (w 38 (w 45 f 0) 0) 0 = w 92 (w 38 (w 45 f 0) 0) 0 + 1) ∧ W 51 (w 38 (w 45 f 0) 0) 0 = w 51 (w 38 (w 45 f 0) 0) 0 ∧ (∀ i, W 3 (w 51 (w 38 (w 45 f 0) 0) 0) i = w 3 (w 51 (w 38 (w 45 f 0) 0) 0) i) ∧ (∀ j, W 3 (w 39 (w 45 f 0) 0) j = w 3 (w 39 (w 45 f 0) 0) j) ∧ W 79 (w 45 f 0) 0 = w 79 (w 45 f 0) 0 ∧ W 64 (pn_ p (A 126 μ.1 0)) 0 = w 64 (pn_ p (A 126 μ.1 0)) 0 + 1) ∧
  ((W 0 x 0 = 5 ∧ C x = 1000 + 10 * A 124 μ.1 0) ∧ W 63 x 0 = A 124 μ.1 0 ∧ (W 24 x 0 = q2 ∧ W 25 x 0 = q1) ∧ (sSt C (1000 + 10 * A 124 μ.1 0 + 1) W q2 ∧ vSt C W q2 V 1) ∧ ((W 0 q1 0 = 8 ∧ C q1 = 1000 + 10 * A 124 μ.1 0 + 6) ∧ vQs W q1 (lvL p μ A)) ∧ W 26 x 0 = pn_ p (A 126 μ.1 0) ∧ W 64 x 0 = 0 ∧ W 65 x 0 = A 207 0 0 ∧ W 66 x 0 = g ∧ W 27 x 0 = 0)
section MKR
variable {p : RP} {c c' : Int → Int} {w w2 w3 w4 w5 w6 w8 w9 w10 w' A A' : Mm} {μ : MU} {f n e x q1 q2 a1 a2 a3 a4 k m M g i cu : Int} {L : List Int} {PL : Int → List Int}
set_option maxHeartbeats 4000000 in
theorem RLm.mk8 (h : RLm p μ f (lvL p μ A) w A) (hK : MKo μ M (pr_ p) (pg_ p) (pl_ p) A) (hSB : SB 0 A) (hbt : bTr A) (hg : g = 0 ∨ g = 1) (hWI : WI w) (hb210 : 0 ≤ A 207 0 0 ∧ A 207 0 0 ≤ 400)
    (hN : NWN w w2 x q1 q2 a1 a2 a3 a4 (A 124 μ.1 0) (pn_ p (A 126 μ.1 0)) (A 201 0 0))
    (h5 : w5 = q_emp (w 12 (w 41 f 0) 0) (q_join q1 (w 12 (w 41 f 0) 0) (up w2 66 x 0 g)))
    (h6 : w6 = t_tk q2 (w 11 (w 41 f 0) 0) (w 44 f 0) 8 (t_tm q2 (w 11 (w 41 f 0) 0) w5))
    (h8 : w8 = up (up w6 65 x 0 (A 207 0 0)) 64 (pn_ p (A 126 μ.1 0)) 0 (w 64 (pn_ p (A 126 μ.1 0)) 0 + 1))
    {w8' : Mm} (hw8' : w8' = up w8 92 (w 38 (w 45 f 0) 0) 0 (w 92 (w 38 (w 45 f 0) 0) 0 + 1)) :
    ∃ C, MK8 p μ f g C (m_playL (LVl μ A) (SWp (pr_ p (A 126 μ.1 0)) A)) w w8' A x q1 q2 := by
  obtain ⟨hn, ⟨t1, t2⟩, t3, t4⟩ := RLm.spl.mp h
  obtain ⟨hTX, hLV, hT, hM, hS1, hb⟩ := id hK
  obtain ⟨hlv, -, -, hlb⟩ := hLV.b0
  have hl : 0 ≤ A 122 μ.1 0 ∧ A 122 μ.1 0 ≤ A 120 μ.1 0 := hlv
  have h124 := hT.1
  have h125 := hT.2.1
  have hE := hTX.1.1.1
  have hcur := hE.cur hT
  have hf := hn.2.1.1.1
  obtain ⟨⟨c1, c2⟩, ⟨d1, d2⟩, ⟨e1, e2⟩, e3, e4, e5⟩ := id t1
  obtain ⟨⟨v1, v2, v3, v4⟩, v5, v6, v7, v8, v9⟩ := id t2
  obtain ⟨y1, y2, y3, y4, y5, y6, y7, y8⟩ := cNd_v (c := pc_ p) (e := 1000 + 10 * A 124 μ.1 0) hN
  obtain ⟨u2, hc1⟩ := hN.upd (c := pc_ p) (e := 1000 + 10 * A 124 μ.1 0) (S := SMk (A 126 μ.1 0) (A 124 μ.1 0))
  obtain ⟨C, hC⟩ : ∃ C, C = cNd (pc_ p) (1000 + 10 * A 124 μ.1 0) x q1 q2 a1 a2 a3 a4 := ⟨_, rfl⟩
  rw [← hC] at y1 y2 y3 y4 y5 y6 y7 hc1
  obtain ⟨ng, nd, no, ⟨x0, x63, x24, x25, x26, x27, x64, x65, x66⟩, ⟨r0, r34, r35, r71, r72⟩, ⟨s0, s28, s29, s30, s31, s67⟩, ⟨b10, b12, b11⟩, ⟨b20, b22, b21⟩, ⟨b30, b32, b33⟩, b40, b42⟩ := id hN
  have hd0 := hn.2.1.2.1.1
  obtain ⟨⟨k1, k2⟩, hsS, k3, ⟨k4, k5⟩, k6, k7⟩ := id hd0
  obtain ⟨hV0, hQ0, hL0⟩ := hn.2.2.2.1
  have hX5 := (h.tg5 hcur).1
  have hXc := (h.nd hcur).1.1.2
  have g201 : w 67 (w 11 (w 41 f 0) 0) 0 = A 201 0 0 := hV0.1.1.1
  have hSB1 : 0 ≤ A 201 0 0 ∧ A 201 0 0 ≤ 400 := hSB.1
  have o2 : ∀ (k : Nat) (a i : Int), w 0 a 0 ≠ 0 → w2 k a i = w k a i := fun k a i h0 => by
    obtain ⟨z1, z2, z3, z4, z5, z6, z7⟩ := hN.old (Or.inl h0)
    exact no k a i z1 z2 z3 z4 z5 z6 z7
  have Co : ∀ a, w 0 a 0 ≠ 0 → C a = pc_ p a := hc1
  -- codes of what was there
  have Ct : C (w 12 (w 41 f 0) 0) = 16 := by rw [Co _ (by omega)]; exact k5
  have t0old : w 0 (w 12 (w 41 f 0) 0) 0 ≠ 0 := by omega
  have hxt : x ≠ w 12 (w 41 f 0) 0 := fun e => by have := ng.1.2; rw [e] at this; omega
  have hqt : q1 ≠ w 12 (w 41 f 0) 0 := fun e => by have := ng.2.1.2; rw [e] at this; omega
  -- stage 3 to 5
  obtain ⟨w3, hw3⟩ : ∃ w3, w3 = up w2 66 x 0 g := ⟨_, rfl⟩
  obtain ⟨w4, hw4⟩ : ∃ w4, w4 = q_join q1 (w 12 (w 41 f 0) 0) w3 := ⟨_, rfl⟩
  rw [← hw3, ← hw4] at h5
  have u3 : UPd C (SMk (A 126 μ.1 0) (A 124 μ.1 0)) w2 w3 := by
    rw [hw3]; exact UPd.refl.sU (by decide) (Or.inr (by rw [y1]; unfold SMk; omega))
  have w3o : ∀ (k : Nat) (a i : Int), (k ≠ 66 ∨ a ≠ x) → w3 k a i = w2 k a i := fun k a i z => by
    rw [hw3]
    by_cases c : k = 66
    · exact up_a _ _ _ (z.resolve_left (fun y => y c)) _ _ _
    · exact up_k _ c _ _ _ _ _
  have u4 : UPd C (SMk (A 126 μ.1 0) (A 124 μ.1 0)) w2 w4 := by
    rw [hw4]
    exact q_join_u u3 (by rw [y7]; unfold SMk; omega) (Or.inl (by rw [w3o _ _ _ (Or.inl (by decide))]; exact r35))
  have u5 : UPd C (SMk (A 126 μ.1 0) (A 124 μ.1 0)) w2 w5 := by
    rw [h5]; unfold q_emp
    exact (((u4.sU (by decide) (Or.inr (by rw [Ct]; unfold SMk; omega))).sU (by decide) (Or.inr (by rw [Ct]; unfold SMk; omega))).sU (by decide) (Or.inr (by rw [Ct]; unfold SMk; omega))).sU (by decide) (Or.inr (by rw [Ct]; unfold SMk; omega))
  have w5k : ∀ {k : Nat} (a i : Int), k ≠ 33 ∧ k ≠ 34 ∧ k ≠ 35 ∧ k ≠ 71 ∧ k ≠ 72 → (k ≠ 66 ∨ a ≠ x) → w5 k a i = w2 k a i := fun a i z z2 => by
    rw [h5]; unfold q_emp
    rw [up_k _ z.2.2.2.2, up_k _ z.2.2.2.1, up_k _ z.2.2.1, up_k _ z.2.1, hw4, q_join_k z.1 z.2.1 z.2.2.1 z.2.2.2.1 z.2.2.2.2, w3o _ _ _ z2]
  have eQ1 : vQs w3 q1 [] := by
    refine ⟨?_, ?_, ?_, ?_, fun x hx => absurd hx List.not_mem_nil⟩
    · show w3 34 q1 0 = 0; rw [w3o _ _ _ (Or.inl (by decide))]; exact r34
    · show w3 35 q1 0 = 0; rw [w3o _ _ _ (Or.inl (by decide))]; exact r35
    · show w3 71 q1 0 = 0; rw [w3o _ _ _ (Or.inl (by decide))]; exact r71
    · show w3 72 q1 0 = 0; rw [w3o _ _ _ (Or.inl (by decide))]; exact r72
  have eQt : vQs w3 (w 12 (w 41 f 0) 0) (lvL p μ A) := by
    have q : ∀ (k : Nat) (a : Int), k ≠ 66 → w 0 a 0 ≠ 0 → w3 k a 0 = w k a 0 := fun k a z z2 => by rw [w3o _ _ _ (Or.inl z)]; exact o2 k a 0 z2
    have ql : ∀ x ∈ lvL p μ A, w 0 x 0 ≠ 0 := fun x hx => by have := hQ0.2.2.2.2 x hx; omega
    exact hQ0.cg (q _ _ (by decide) t0old) (q _ _ (by decide) t0old) (q _ _ (by decide) t0old) (q _ _ (by decide) t0old) (fun x hx => ⟨q _ _ (by decide) (ql x hx), q _ _ (by decide) (ql x hx)⟩) (fun x hx => q _ _ (by decide) (ql x hx))
  have eQ4 : vQs w4 q1 (lvL p μ A) := by
    rw [hw4]; exact q_join_Q eQ1 eQt (fun z _ hz => absurd hz List.not_mem_nil)
  have w54 : ∀ (k : Nat) (a i : Int), a ≠ w 12 (w 41 f 0) 0 → w5 k a i = w4 k a i := fun k a i z => by
    rw [h5]; unfold q_emp; rw [up_a _ _ _ z, up_a _ _ _ z, up_a _ _ _ z, up_a _ _ _ z]
  have w54k : ∀ (k : Nat) (a i : Int), k ≠ 34 → k ≠ 35 → k ≠ 71 → k ≠ 72 → w5 k a i = w4 k a i := fun k a i z1 z2 z3 z4 => by
    rw [h5]; unfold q_emp; rw [up_k _ z4, up_k _ z3, up_k _ z2, up_k _ z1]
  have eQ5 : vQs w5 q1 (lvL p μ A) := eQ4.cg (w54 _ _ _ hqt) (w54 _ _ _ hqt) (w54 _ _ _ hqt) (w54 _ _ _ hqt) (fun x _ => ⟨w54k _ _ _ (by decide) (by decide) (by decide) (by decide), w54k _ _ _ (by decide) (by decide) (by decide) (by decide)⟩) (fun x _ => w54k _ _ _ (by decide) (by decide) (by decide) (by decide))
  have eQe : vQs w5 (w 12 (w 41 f 0) 0) [] := by
    refine ⟨?_, ?_, ?_, ?_, fun x hx => absurd hx List.not_mem_nil⟩
    · show w5 34 _ 0 = 0; rw [h5]; unfold q_emp; rw [up_k _ (by decide), up_k _ (by decide), up_k _ (by decide), up_s]
    · show w5 35 _ 0 = 0; rw [h5]; unfold q_emp; rw [up_k _ (by decide), up_k _ (by decide), up_s]
    · show w5 71 _ 0 = 0; rw [h5]; unfold q_emp; rw [up_k _ (by decide), up_s]
    · show w5 72 _ 0 = 0; rw [h5]; unfold q_emp; rw [up_s]
  -- the state that is taken over
  have hn11 : ∀ (b' : Int) (k : Nat), 10 ≤ b' → b' ≤ 18 → b' ≠ 16 → ¬ SMk (A 126 μ.1 0) (A 124 μ.1 0) b' k := fun b' k z1 z2 z3 z => by have := hcur.1; unfold SMk at z; omega
  have hno0 : ∀ k, ¬ SMk (A 126 μ.1 0) (A 124 μ.1 0) 0 k := fun k z => by have := hcur.1; unfold SMk at z; omega
  have u25 : UPd (pc_ p) (SMk (A 126 μ.1 0) (A 124 μ.1 0)) w w5 := u2.trans hc1 u5
  obtain ⟨sS5, f28, f29, f30, f31⟩ := hsS.fr u25 hc1 (fun k _ _ => hn11 _ k (by omega) (by omega) (by omega))
  have vS5 := hV0.1.fr hsS u25 hc1 (fun b' k z1 z2 => hn11 b' k (by omega) (by omega) (by omega)) hno0
  have q2n : sSt C (1000 + 10 * A 124 μ.1 0 + 1) w5 q2 := by
    have hx2 : q2 ≠ x := nd.1.2.1.symm
    have k28 : w5 28 q2 0 = a4 := by rw [w5k _ _ (by decide) (Or.inl (by decide))]; exact s28
    have k29 : w5 29 q2 0 = a1 := by rw [w5k _ _ (by decide) (Or.inl (by decide))]; exact s29
    have k30 : w5 30 q2 0 = a2 := by rw [w5k _ _ (by decide) (Or.inl (by decide))]; exact s30
    have k31 : w5 31 q2 0 = a3 := by rw [w5k _ _ (by decide) (Or.inl (by decide))]; exact s31
    refine ⟨⟨by rw [w5k _ _ (by decide) (Or.inl (by decide))]; exact s0, y2⟩, ?_, ?_, ?_, ?_⟩
    · rw [k28, w5k _ _ (by decide) (Or.inl (by decide))]; exact ⟨b40, by rw [y3]; omega⟩
    · rw [k29, w5k _ _ (by decide) (Or.inl (by decide)), w5k _ _ (by decide) (Or.inl (by decide))]; exact ⟨b10, b12, by rw [y4]; omega⟩
    · rw [k30, w5k _ _ (by decide) (Or.inl (by decide)), w5k _ _ (by decide) (Or.inl (by decide))]; exact ⟨b20, b22, by rw [y5]; omega⟩
    · rw [k31, w5k _ _ (by decide) (Or.inl (by decide)), w5k _ _ (by decide) (Or.inl (by decide))]; exact ⟨b30, b32, by rw [y6]; omega⟩
  obtain ⟨tr0, tr2, tr3⟩ := hn.2.1.1.2.1
  have htv := hn.2.1.1.2.2.1
  have Ctr : C (w 44 f 0) = 40 := by rw [Co _ (by omega)]; exact tr3
  obtain ⟨V, hVd⟩ : ∃ V, V = m_playL (LVl μ A) (SWp (pr_ p (A 126 μ.1 0)) A) := ⟨_, rfl⟩
  obtain ⟨-, -, l10, l11, -⟩ := id hLV
  rw [← hVd] at l10 l11
  have hT5 : ∀ j, 0 ≤ j → j < 5 → w5 1 (w 44 f 0) j = A 211 0 j ∧ (A 211 0 j = 0 ∨ A 211 0 j = 1) := fun j j0 j1 => by
    refine ⟨?_, hbt j j0 j1⟩
    rw [u25.g (by omega) tr3 (fun z => by have := hcur.1; unfold SMk at z; omega)]; exact htv j j0 j1
  have g67 : w5 67 (w 11 (w 41 f 0) 0) 0 = A 201 0 0 := by rw [w5k _ _ (by decide) (Or.inl (by decide)), o2 _ _ _ (by have := hsS.1.1; omega)]; exact g201
  have g2t : w5 2 (w5 28 q2 0) 0 = A 201 0 0 := by
    rw [w5k _ _ (by decide) (Or.inl (by decide)), w5k _ _ (by decide) (Or.inl (by decide)), s28, b42]; split <;> omega
  obtain ⟨hTx6, hSr6⟩ := vSt_tk (T := fun j => A 211 0 j) (V' := V) (i' := 1) q2n sS5 (by omega) (by omega) ⟨Ctr, by omega⟩ h6 vS5 (by rw [g67, g2t]; omega) hT5 (fun r r0 r1 z => by
    have hz := l11 r r0 r1 z
    have e5 : V 204 0 (5 * 1 + r) = 0 := hz
    refine ⟨by rw [e5]; unfold m_slt; split <;> omega, fun e e0 e1 => ⟨fun z => by rw [e5] at z; omega, fun _ => ?_⟩⟩
    rw [w5k _ _ (by decide) (Or.inl (by decide)), w5k _ _ (by decide) (Or.inl (by decide)), s31]; exact b33 _)
  have vN6 : vSt C w6 q2 V 1 := ⟨hTx6.eq l10.symm, fun r r0 r1 => by
    by_cases z : A 211 0 r = 1
    · exact ((hSr6 r r0 r1).1 z).eq l10.symm ⟨r0, r1⟩ z
    · exact (hSr6 r r0 r1).2 z⟩
  obtain ⟨-, -, -, -, z6, u6⟩ := tk_st q2n sS5 (by omega) ⟨Ctr, by omega⟩ h6
  have sN6 : sSt C (1000 + 10 * A 124 μ.1 0 + 1) w6 q2 := (q2n.fr u6 CXt.refl (fun k z1 z2 z => by unfold SKt at z; omega)).1
  have u6' : UPd C (SMk (A 126 μ.1 0) (A 124 μ.1 0)) w5 w6 := u6.mono fun b k z => by unfold SKt at z; unfold SMk; omega
  -- stage 8 to 10
  have tg : ∀ {a : Int}, w 0 a 0 ≠ 0 → w2 0 a 0 = w 0 a 0 := fun h0 => o2 0 _ 0 h0
  have tg5 : ∀ {a : Int}, w 0 a 0 ≠ 0 → w5 0 a 0 = w 0 a 0 := fun h0 => by rw [w5k _ _ (by decide) (Or.inl (by decide))]; exact tg h0
  have tg6 : ∀ {a : Int}, w6 0 a 0 = w5 0 a 0 := z6 0 _ 0 (by decide) (by decide) (by decide)
  have CX : C (pn_ p (A 126 μ.1 0)) = 1000 + 10 * A 126 μ.1 0 := by rw [Co _ (by omega)]; exact hXc
  have Cl : C (w 38 (w 45 f 0) 0) = 42 := by rw [Co _ (by omega)]; exact d2
  have CB : C (w 51 (w 38 (w 45 f 0) 0) 0) = 43 := by rw [Co _ (by omega)]; exact e2
  have CT : C (w 45 f 0) = 41 := by rw [Co _ (by omega)]; exact c2
  have u8 : UPd C (SMf (A 126 μ.1 0) (A 124 μ.1 0)) w6 w8 := by
    rw [h8]
    exact (UPd.refl.sU (by decide) (Or.inr (by rw [y1]; unfold SMf; omega))).sU (by decide) (Or.inr (by rw [CX]; unfold SMf; omega))
  have u8' : UPd C (SMf (A 126 μ.1 0) (A 124 μ.1 0)) w6 w8' := by
    rw [hw8']; exact u8.sU (by decide) (Or.inr (by rw [Cl]; unfold SMf; omega))
  have u28 : UPd (pc_ p) (SMk (A 126 μ.1 0) (A 124 μ.1 0)) w w8' := u25.trans hc1 (u6'.trans CXt.refl (u8'.mono SMf.mk))
  have g86 : ∀ {k : Nat} (a i : Int), k ≠ 64 → k ≠ 65 → k ≠ 92 → w8' k a i = w6 k a i := fun a i z1 z2 z3 => by rw [hw8', up_k _ z3, h8, up_k _ z1, up_k _ z2]
  have g8w : ∀ {k : Nat} (a i : Int), k ≠ 64 → k ≠ 65 → k ≠ 92 → k ≠ 1 → k ≠ 3 → k ≠ 67 → k ≠ 33 ∧ k ≠ 34 ∧ k ≠ 35 ∧ k ≠ 71 ∧ k ≠ 72 → k ≠ 66 → w8' k a i = w2 k a i := fun a i z1 z2 z3 z4 z5 z6' z7 z8 => by rw [g86 _ _ z1 z2 z3, z6 _ _ _ z4 z5 z6', w5k _ _ z7 (Or.inl z8)]
  have g8o : ∀ {k : Nat} (a i : Int), w 0 a 0 ≠ 0 → k ≠ 64 → k ≠ 65 → k ≠ 92 → k ≠ 1 → k ≠ 3 → k ≠ 67 → k ≠ 33 ∧ k ≠ 34 ∧ k ≠ 35 ∧ k ≠ 71 ∧ k ≠ 72 → k ≠ 66 → w8' k a i = w k a i := fun a i h0 z1 z2 z3 z4 z5 z6 z7 z8 => by rw [g8w _ _ z1 z2 z3 z4 z5 z6 z7 z8]; exact o2 _ _ _ h0
  have g83 : ∀ (a i : Int) {b : Int}, w 0 a 0 ≠ 0 → pc_ p a = b → b < 1000 → w8' 3 a i = w 3 a i := fun a i b h0 h1 h2 => by
    rw [g86 _ _ (by decide) (by decide) (by decide), u6.g (b := b) (by rw [tg5 h0]; exact h0) (by rw [Co a h0]; exact h1) (fun z => by unfold SKt at z; omega), w5k _ _ (by decide) (Or.inl (by decide))]
    exact o2 _ _ _ h0
  have l8 : LSn w8' (w 38 (w 45 f 0) 0) := by
    have hTR := h.toTR hWI hT hE hTX.1.2
    obtain ⟨-, ⟨m0, m1, m2, m3, m4⟩, m5, -⟩ := hTR
    have q51 : w8' 51 (w 38 (w 45 f 0) 0) 0 = w 51 (w 38 (w 45 f 0) 0) 0 := g8o _ _ (by omega) (by decide) (by decide) (by decide) (by decide) (by decide) (by decide) (by decide) (by decide)
    have q93 : w8' 93 (w 38 (w 45 f 0) 0) 0 = w 93 (w 38 (w 45 f 0) 0) 0 := g8o _ _ (by omega) (by decide) (by decide) (by decide) (by decide) (by decide) (by decide) (by decide) (by decide)
    have q2' : w8' 2 (w 51 (w 38 (w 45 f 0) 0) 0) 0 = w 2 (w 51 (w 38 (w 45 f 0) 0) 0) 0 := g8o _ _ (by omega) (by decide) (by decide) (by decide) (by decide) (by decide) (by decide) (by decide) (by decide)
    have q0 : ∀ {a : Int}, w 0 a 0 ≠ 0 → w8' 0 a 0 = w 0 a 0 := fun h0 => g8o _ _ h0 (by decide) (by decide) (by decide) (by decide) (by decide) (by decide) (by decide) (by decide)
    unfold LSn LSt EL5
    rw [q51, q93, q2', q0 (by omega), q0 (by omega)]
    refine ⟨⟨m0, m1, m2, m3, m4⟩, by rw [v1] at m3; omega, fun i i0 i1 => Or.inr ?_⟩
    have := (m5 i i0 i1).1
    rw [g83 _ _ (by omega) e2 (by omega), q0 (by omega)]; exact this
  have q51 : w8' 51 (w 38 (w 45 f 0) 0) 0 = w 51 (w 38 (w 45 f 0) 0) 0 := g8o _ _ (by omega) (by decide) (by decide) (by decide) (by decide) (by decide) (by decide) (by decide) (by decide)
  have q93 : w8' 93 (w 38 (w 45 f 0) 0) 0 = w 93 (w 38 (w 45 f 0) 0) 0 := g8o _ _ (by omega) (by decide) (by decide) (by decide) (by decide) (by decide) (by decide) (by decide) (by decide)
  have q8t : ∀ a, w 0 a 0 ≠ 0 → w8' 0 a 0 = w 0 a 0 := fun a h0 => g8o _ _ h0 (by decide) (by decide) (by decide) (by decide) (by decide) (by decide) (by decide) (by decide)
  have t8n : ∀ {a v : Int}, w2 0 a 0 = v → w8' 0 a 0 = v := fun z => by rw [g8w _ _ (by decide) (by decide) (by decide) (by decide) (by decide) (by decide) (by decide) (by decide)]; exact z
  have u68 : UPd C (SMf (A 126 μ.1 0) (A 124 μ.1 0)) w6 w8' := u8'
  have hnf : ∀ (b' : Int) (k' : Nat), 1000 + 10 * A 124 μ.1 0 + 1 ≤ b' → b' ≤ 1000 + 10 * A 124 μ.1 0 + 1 + 4 → ¬ SMf (A 126 μ.1 0) (A 124 μ.1 0) b' k' := fun b' k' z1 z2 z => by have := hcur.1; unfold SMf at z; omega
  have q5 : ∀ {k : Nat} (a : Int), k ≠ 1 → k ≠ 3 → k ≠ 67 → k ≠ 64 → k ≠ 65 → k ≠ 92 → w8' k a 0 = w5 k a 0 := fun a z1 z2 z3 z4 z5 z6' => by
    rw [g86 _ _ z4 z5 z6', z6 _ _ _ z1 z2 z3]
  have ex : ∀ {k : Nat}, k ≠ 64 → k ≠ 65 → k ≠ 92 → k ≠ 1 → k ≠ 3 → k ≠ 67 → k ≠ 33 ∧ k ≠ 34 ∧ k ≠ 35 ∧ k ≠ 71 ∧ k ≠ 72 → k ≠ 66 → w8' k x 0 = w2 k x 0 := fun z1 z2 z3 z4 z5 z6 z7 z8 => g8w _ _ z1 z2 z3 z4 z5 z6 z7 z8
  have hxX : x ≠ pn_ p (A 126 μ.1 0) := fun e => by have := ng.1.2; rw [e] at this; omega
  have c0 : ∀ a, w8' 0 a 0 = 0 → C a = 0 := fun a h8a => by
    have h2a : w2 0 a 0 = 0 := by rw [g8w _ _ (by decide) (by decide) (by decide) (by decide) (by decide) (by decide) (by decide) (by decide)] at h8a; exact h8a
    have hne : ∀ {z v : Int}, w2 0 z 0 = v → v ≠ 0 → a ≠ z := fun h1 h2 e => by rw [e, h1] at h2a; exact h2 h2a
    have hwa : w 0 a 0 = 0 := by rw [← no 0 a 0 (hne x0 (by decide)) (hne r0 (by decide)) (hne s0 (by decide)) (hne b10 (by decide)) (hne b20 (by decide)) (hne b30 (by decide)) (hne b40 (by decide))]; exact h2a
    rw [hC, y8 a (hne x0 (by decide)) (hne s0 (by decide)) (hne b40 (by decide)) (hne b10 (by decide)) (hne b20 (by decide)) (hne b30 (by decide)) (hne r0 (by decide))]; exact hn.1 a hwa
  refine ⟨C, ⟨u28, hc1, c0, q8t⟩, ?_, ⟨l8, ⟨?_, ?_⟩, q51, fun i => ?_, fun j => ?_, ?_, ?_⟩, ⟨?_, ?_⟩, ?_, ⟨?_, ?_⟩, ⟨?_, ?_⟩, ⟨⟨?_, ?_⟩, ?_⟩, ?_, ?_, ?_, ?_, ?_⟩
  · exact eQe.cg (q5 _ (by decide) (by decide) (by decide) (by decide) (by decide) (by decide)) (q5 _ (by decide) (by decide) (by decide) (by decide) (by decide) (by decide)) (q5 _ (by decide) (by decide) (by decide) (by decide) (by decide) (by decide)) (q5 _ (by decide) (by decide) (by decide) (by decide) (by decide) (by decide)) (fun x hx => absurd hx List.not_mem_nil) (fun x hx => absurd hx List.not_mem_nil)
  · rw [q93, v1]
  · rw [hw8', up_s]
  · exact g83 _ _ (by omega) e2 (by decide)
  · exact g83 _ _ (by omega) e5 (by decide)
  · exact g8o _ _ (by omega) (by decide) (by decide) (by decide) (by decide) (by decide) (by decide) (by decide) (by decide)
  · rw [hw8', up_k _ (by decide), h8, up_s]
  · exact t8n x0
  · exact y1
  · exact (ex (by decide) (by decide) (by decide) (by decide) (by decide) (by decide) (by decide) (by decide)).trans x63
  · exact (ex (by decide) (by decide) (by decide) (by decide) (by decide) (by decide) (by decide) (by decide)).trans x24
  · exact (ex (by decide) (by decide) (by decide) (by decide) (by decide) (by decide) (by decide) (by decide)).trans x25
  · exact (sN6.fr u68 CXt.refl (fun k' _ _ => hnf _ k' (by omega) (by omega))).1
  · rw [← hVd]
    exact vN6.fr sN6 u68 CXt.refl (fun b' k' z1 z2 => hnf b' k' z1 z2) (fun k' z => by have := hcur.1; unfold SMf at z; omega)
  · exact t8n r0
  · rw [y7]
  · exact eQ5.cg (q5 _ (by decide) (by decide) (by decide) (by decide) (by decide) (by decide)) (q5 _ (by decide) (by decide) (by decide) (by decide) (by decide) (by decide)) (q5 _ (by decide) (by decide) (by decide) (by decide) (by decide) (by decide)) (q5 _ (by decide) (by decide) (by decide) (by decide) (by decide) (by decide)) (fun x hx => ⟨q5 _ (by decide) (by decide) (by decide) (by decide) (by decide) (by decide), q5 _ (by decide) (by decide) (by decide) (by decide) (by decide) (by decide)⟩) (fun x hx => q5 _ (by decide) (by decide) (by decide) (by decide) (by decide) (by decide))
  · exact (ex (by decide) (by decide) (by decide) (by decide) (by decide) (by decide) (by decide) (by decide)).trans x26
  · rw [hw8', up_k _ (by decide), h8, up_a _ _ _ hxX, up_k _ (by decide), z6 _ _ _ (by decide) (by decide) (by decide), w5k _ _ (by decide) (Or.inl (by decide))]; exact x64
  · rw [hw8', up_k _ (by decide), h8, up_k _ (by decide), up_s]
  · rw [hw8', up_k _ (by decide), h8, up_k _ (by decide), up_k _ (by decide), z6 _ _ _ (by decide) (by decide) (by decide), h5]
    unfold q_emp
    rw [up_k _ (by decide), up_k _ (by decide), up_k _ (by decide), up_k _ (by decide), hw4, q_join_k (by decide) (by decide) (by decide) (by decide) (by decide), hw3, up_s]
  · exact (ex (by decide) (by decide) (by decide) (by decide) (by decide) (by decide) (by decide) (by decide)).trans x27
end MKR
