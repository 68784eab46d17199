/-! the relation where the current node is another; going to a node -/
section C40
variable {p : RP} {w w1 w2 w' A A' X : Mm} {μ : MU} {f k M S P x v : Int} {L : List Int}
theorem RLm.c40 (h : RLm p μ f L w A) (e : ∀ (k : Nat) (a i : Int), k ≠ 40 → w' k a i = w k a i) (eA : ∀ (c : Nat) (a i : Int), c ≠ 126 → A' c a i = A c a i) (ht : vTr (pn_ p) (pa_ p) μ w' A' (w' 45 f 0)) : RLm p μ f L w' A' := by
  obtain ⟨⟨c0, hSc, hD, ⟨⟨t1, t2⟩, t3, t4⟩, hM, hTl, hTs⟩, hL, ⟨hV, hQ, hLc⟩, hSp⟩ := h
  have eX := ixN_c9 (A := A) (A' := A') (fun q => eA 220 0 q (by decide)) (fun q => eA 218 0 q (by decide))
  refine ⟨⟨fun a ha => c0 a (by rw [← e 0 a 0 (by decide)]; exact ha), ?_, ?_, ⟨⟨?_, ht⟩, ?_, fun k k0 k1 k2 => ?_⟩, ?_, ?_, ?_⟩, ?_, ⟨?_, ?_, ?_⟩, fun k k0 k1 => ?_⟩
  · have h := hSc
    unfold vSc at h ⊢
    simp (disch := decide) only [e, eA]; exact h
  · have h := hD
    unfold rDk sDk bDk sSt at h ⊢
    simp (disch := decide) only [e, eA]; exact h
  · have h := t1
    unfold sTr at h ⊢
    simp (disch := decide) only [e, eA]; exact h
  · have h := t3
    unfold vAl at h ⊢
    simp (disch := decide) only [e, eA]; exact h
  · rw [eA 124 _ _ (by decide)] at k1
    rw [eA 216 _ _ (by decide)] at k2
    obtain ⟨n1, n2, ⟨n3, n4⟩, n5, n6⟩ := t4 k k0 k1 k2
    refine ⟨?_, ?_, ⟨?_, ?_⟩, ?_, ?_⟩
    · simp (disch := decide) only [e]; exact n1
    · unfold sSt vSt vTx vSr vCh at n2 ⊢
      simp (disch := decide) only [e]; exact n2
    · simp (disch := decide) only [e]; exact n3
    · rw [eX, e 25 _ _ (by decide)]
      exact n4.cg (e _ _ _ (by decide)) (e _ _ _ (by decide)) (e _ _ _ (by decide)) (e _ _ _ (by decide)) (fun x _ => ⟨e _ _ _ (by decide), e _ _ _ (by decide)⟩) (fun x _ => e _ _ _ (by decide))
    · have hc : m_chl μ k A' = m_chl μ k A := by
        unfold m_chl m_chF
        simp (disch := decide) only [eA]
      rw [hc]
      simp (disch := decide) only [e, eA]; exact n5
    · rw [eX, eA 122 _ _ (by decide)]; exact n6
  · have h := hM
    unfold vMs vMc MT at h ⊢
    simp (disch := decide) only [e, eA]; exact h
  · have h := hTl
    unfold sTl at h ⊢
    simp (disch := decide) only [e]; exact h
  · have h := hTs
    unfold vTs at h ⊢
    simp (disch := decide) only [e]; exact h
  · have h := hL
    unfold vLs LT at h ⊢
    simp (disch := decide) only [e, eA]; exact h
  · have h := hV
    unfold vDk vSt vTx vSr vCh at h ⊢
    simp (disch := decide) only [e, eA]; exact h
  · rw [e 41 _ _ (by decide), e 12 _ _ (by decide)]
    exact hQ.cg (e _ _ _ (by decide)) (e _ _ _ (by decide)) (e _ _ _ (by decide)) (e _ _ _ (by decide)) (fun x _ => ⟨e _ _ _ (by decide), e _ _ _ (by decide)⟩) (fun x _ => e _ _ _ (by decide))
  · rw [eA 122 _ _ (by decide)]; exact hLc
  · rw [eA 120 _ _ (by decide)] at k1
    have h := hSp k k0 k1
    unfold vSp vCh at h ⊢
    simp (disch := decide) only [e, eA]; exact h
theorem UPG.u1 (h : RLm p μ f L w A) {k : Nat} (hk : 2 < k ∧ k < 120) {a i : Int} (ha : w 0 a 0 ≠ 13 ∧ w 0 a 0 ≠ 12) : UPG f w (up w k a i v) := by
  have t1 := h.1.2.1.1.1
  have t2 := h.1.2.2.2.2.2.1.1
  refine ⟨⟨fun k' a' i' _ hk' => up_k _ (by omega) _ _ _ _ _, fun k' i' hk' => up_k _ (by omega) _ _ _ _ _⟩, fun k' hk' => up_a _ _ _ (fun z => by rw [z] at t1; exact ha.1 t1) _ _ _, fun k' => up_a _ _ _ (fun z => by rw [z] at t2; exact ha.2 t2) _ _ _⟩
theorem CHB.go (h : CHB p μ f (lvL p μ A) w A) (hT : TB μ M A) (hM : M ≤ 600) (s1 : SB 1 A) (s0 : SB 0 A) (hbt : bTr A) (hz : A 122 μ.1 0 = A 120 μ.1 0) (ha : alv μ A k)
    (hw1 : w1 = up w 40 (w 45 f 0) 0 (pn_ p k))
    (hw2 : w2 = t_tk (w 11 (w 41 f 0) 0) (w 24 (pn_ p k) 0) (w 44 f 0) 8 (t_tm (w 11 (w 41 f 0) 0) (w 24 (pn_ p k) 0) w1))
    (hw' : w' = up (up (up w2 61 (w 41 f 0) 0 (A 224 0 k)) 60 (w 41 f 0) 0 0) 88 f 0 0) :
    CHB p μ f (lvL p μ (m_wks μ (pl_ p) k A)) w' (m_wks μ (pl_ p) k A) ∧ UPG f w w' := by
  obtain ⟨hr, hTX, hLV⟩ := id h
  have hl := hLV.b0.1
  have s2 := hLV.b0.2.2.2
  have hpb := hLV.b0.2.2.1
  have hQ := hTX.1.1.rq hT hM ha
  obtain ⟨E1, key⟩ := wks_EQ (μ := μ) (PL := pl_ p) s1 s2 hQ
  obtain ⟨⟨x1, x2, x3⟩, -⟩ := hTX.2 k ha
  obtain ⟨R1, R2, R3⟩ := rpl_st (μ := μ) s1 s2 hQ.1
  obtain ⟨X, hX⟩ : ∃ X, X = up (up (up (m_cpQ (fun s => decide (A 211 0 s = 1)) 5 0 1 (m_cpT 0 1 (m_rpl μ (pl_ p) k A))) 207 0 0 (A 224 0 k)) 210 0 0 0) 126 μ.1 0 k := ⟨_, rfl⟩
  have hwk : m_wks μ (pl_ p) k A = up X 129 μ.1 0 (-1) := by rw [hX]; rfl
  have xat : ∀ {c : Nat} {a i : Int}, (c < 200 ∨ 210 < c) ∧ c ≠ 240 ∧ c ≠ 127 ∧ c ≠ 226 ∧ c ≠ 126 → X c a i = A c a i := fun z => by
    rw [hX, up_k _ z.2.2.2.2, up_k _ (by omega), up_k _ (by omega), cpQ_at (by omega), cpT_at (by omega), rpl_at s1 s2 hQ.1 (by omega)]
  have X126 : X 126 μ.1 0 = k := by rw [hX, up_s]
  have X240 : bB X := R2.cong fun i => by rw [hX, up_k _ (by decide), up_k _ (by decide), up_k _ (by decide), cpQ_at (by decide), cpT_at (by decide)]
  have eX : ∀ (k' : Nat) (j : Int), 200 ≤ k' → k' ≤ 206 → X k' 0 j = m_wks μ (pl_ p) k A k' 0 j := fun k' j z1 z2 => by rw [hwk, up_k _ (by omega)]
  have E2 : EQv (fun r => A 211 0 r = 1) 1 0 (pr_ p k) X := ((x1.mono fun _ _ _ _ => trivial).trans E1).buf (fun _ _ _ _ => rfl) (fun c i z1 z2 => eX c i z1 z2)
  -- the current node
  have e1 : ∀ (k : Nat) (a i : Int), k ≠ 40 → w1 k a i = w k a i := fun k a i z => by rw [hw1]; exact up_k _ z _ _ _ _ _
  have r1 : RLm p μ f (lvL p μ A) w1 (up A 126 μ.1 0 k) := by
    refine hr.c40 e1 (fun c a i z => up_k _ z _ _ _ _ _) ?_
    obtain ⟨⟨v1, v2, v3, v4⟩, v5, v6, v7, v8, v9⟩ := hr.1.2.2.2.1.1.2
    rw [e1 45 _ _ (by decide)]
    unfold vTr
    simp (disch := decide) only [e1, up_k, up_s]
    exact ⟨⟨v1, v2, v3, v4⟩, v5, v6, by rw [hw1, up_s], v8, v9⟩
  have eA : ∀ {c : Nat} {a i : Int}, c ≠ 126 → up A 126 μ.1 0 k c a i = A c a i := fun z => up_k _ z _ _ _ _ _
  obtain ⟨A1, hA1⟩ : ∃ A1, A1 = up A 126 μ.1 0 k := ⟨_, rfl⟩
  rw [← hA1] at r1 eA
  have A126 : A1 126 μ.1 0 = k := by rw [hA1, up_s]
  have ha1 : alv μ A1 k := by unfold alv; rw [eA (by decide), eA (by decide)]; exact ha
  have hN := r1.nd ha1
  have hd := r1.1.2.2.1.1.1
  have hBd := r1.1.2.2.1.1.2
  rw [e1 41 _ _ (by decide)] at hd hBd
  have hs := hd.2.1
  rw [e1 11 _ _ (by decide)] at hs
  have hcap := hd.2.2.1
  rw [e1 11 _ _ (by decide)] at hcap
  have ho := hN.2.1.1
  have hv := hN.2.1.2
  rw [e1 24 _ _ (by decide)] at ho hv
  have hV0 := r1.2.2.1.1
  rw [e1 41 _ _ (by decide)] at hV0
  have hQ0 := r1.2.2.1.2.1
  rw [e1 41 _ _ (by decide), e1 12 _ _ (by decide)] at hQ0
  obtain ⟨-, tr2, tr3, -⟩ := r1.1.2.1
  rw [e1 44 _ _ (by decide)] at tr2 tr3
  have hk0 := ha.1
  have hsz : w1 67 (w 24 (pn_ p k) 0) 0 ≤ w1 2 (w1 28 (w 11 (w 41 f 0) 0) 0) 0 ∧ w1 2 (w1 28 (w 11 (w 41 f 0) 0) 0) 0 ≤ 400 := by
    have := hv.1.2.1; omega
  have hTr : ∀ j, 0 ≤ j → j < 5 → w1 1 (w 44 f 0) j = A 211 0 j ∧ (A 211 0 j = 0 ∨ A 211 0 j = 1) := fun j j0 j1 => ⟨by rw [tr3 j j0 j1, eA (by decide)], hbt j j0 j1⟩
  have hU : ∀ r, 0 ≤ r → r < 5 → A 211 0 r ≠ 1 → vSr (pc_ p) w1 (w 11 (w 41 f 0) 0) A1 0 r := fun r r0 r1' _ => by
    have := hV0.1.2 r r0 r1'
    rw [e1 11 _ _ (by decide)] at this; exact this
  obtain ⟨vT, vR⟩ := vSt_tk (T := fun j => A 211 0 j) (V' := A1) (i' := 0) hs ho (by omega) (by omega) ⟨tr2.2.2, by omega⟩ hw2 hv hsz hTr hU
  obtain ⟨-, -, -, -, k5, u2⟩ := tk_st hs ho (by omega) ⟨tr2.2.2, by omega⟩ hw2
  -- the live state
  have EA : EQv TA 0 0 A1 (m_rpl μ (pl_ p) k A) := by
    have t0 : SB 0 A1 := s0.cong fun c a i y z => eA (by omega)
    exact EQv.s0 t0.2.2.2.2.1 t0.2.2.2.1 t0.1 fun k' i z1 z2 i0 i1 => by rw [R3 k' 0 i z1 z2 (Or.inl i1), eA (by omega)]
  have hE0 : bEl 0 (m_rpl μ (pl_ p) k A) := fun i i0 i1 => by
    rw [R3 205 0 i (by decide) (by decide) (Or.inl (by show i < st0 205; rw [st0_v.2.2.2.2.2.1]; omega))]
    exact s0.2.2.2.2.1 i i0 i1
  have EX : EQv TA 0 0 (m_cpy (fun s => decide (A 211 0 s = 1)) 0 1 (m_rpl μ (pl_ p) k A)) X := EQv.buf (V := X) (V' := X) EQv.refl (fun c i z1 z2 => by rw [eX c i z1 z2, key c i z1 z2]) (fun _ _ _ _ => rfl)
  have vS2 : vSt (pc_ p) w2 (w 11 (w 41 f 0) 0) X 0 := by
    refine ⟨vT.eq E2, fun r r0 r1' => ?_⟩
    by_cases z : A 211 0 r = 1
    · exact ((vR r r0 r1').1 z).eq E2 ⟨r0, r1'⟩ z
    · exact ((((vR r r0 r1').2 z).eq EA ⟨r0, r1'⟩ trivial).cpn (T := fun s => decide (A 211 0 s = 1)) (b := 1) ⟨r0, r1'⟩ (decide_eq_false z) hE0).eq EX ⟨r0, r1'⟩ trivial
  obtain ⟨w4, hw4⟩ : ∃ w4, w4 = up (up w2 61 (w 41 f 0) 0 (A 224 0 k)) 60 (w 41 f 0) 0 0 := ⟨_, rfl⟩
  rw [← hw4] at hw'
  have g4 : ∀ {k' : Nat} {a i : Int}, k' ≠ 60 → k' ≠ 61 → w4 k' a i = w2 k' a i := fun z1 z2 => by rw [hw4, up_k _ z1, up_k _ z2]
  have e122 : A1 122 μ.1 0 = A 122 μ.1 0 := eA (by decide)
  have e120 : A1 120 μ.1 0 = A 120 μ.1 0 := eA (by decide)
  have cd : pc_ p (w 41 f 0) = 10 := hd.1.2
  have u4 : UPd (pc_ p) (SDb 10 (A1 122 μ.1 0)) w1 w4 := by
    rw [hw4]
    exact ((u2.mono fun b k' z => by unfold SKt at z; unfold SDb; omega).sU (by decide) (Or.inr (by rw [cd]; unfold SDb; omega))).sU (by decide) (Or.inr (by rw [cd]; unfold SDb; omega))
  have hvd : vDk (pc_ p) w4 (w 41 f 0) X 0 := by
    refine ⟨?_, ?_, ?_, fun j j0 j1 => ?_⟩
    · rw [g4 (by decide) (by decide), k5 _ _ _ (by decide) (by decide) (by decide), e1 11 _ _ (by decide)]
      have q := vS2
      unfold vSt vTx vSr vCh at q ⊢
      simp (disch := decide) only [g4]; exact q
    · rw [hw4, up_k _ (by decide), up_s, hX, up_k _ (by decide), up_k _ (by decide), up_s]
    · rw [hw4, up_s, hX, up_k _ (by decide), up_s]
    · rw [hw4, up_s] at j1; omega
  have hbd : bDk w4 (w 41 f 0) := by
    obtain ⟨b1, b2, b3, b4⟩ := hBd
    have h224 := (hT.2.2.2.2.2.2 k hk0.1 hk0.2).2.2.2.2.2.2.2.1
    refine ⟨by rw [hw4, up_s]; decide, by rw [hw4, up_k _ (by decide), up_s]; exact h224, ?_, fun j j0 j1 => ?_⟩
    · rw [g4 (by decide) (by decide), g4 (by decide) (by decide), k5 11 _ _ (by decide) (by decide) (by decide), e1 11 _ _ (by decide)]
      have := vT.2.1; omega
    · have c13 := hd.2.2.2.2.1
      have c14 := hd.2.2.2.2.2
      rw [g4 (k' := 13) (by decide) (by decide), g4 (k' := 14) (by decide) (by decide), k5 13 _ _ (by decide) (by decide) (by decide), k5 14 _ _ (by decide) (by decide) (by decide), g4 (by decide) (by decide), g4 (by decide) (by decide), u2.g (by omega) c13.2.2 (fun z => by unfold SKt at z; omega), u2.g (by omega) c14.2.2 (fun z => by unfold SKt at z; omega)]
      exact b4 j j0 j1
  have q5 : ∀ (k' : Nat) (a : Int), k' ≠ 1 → k' ≠ 3 → k' ≠ 67 → k' ≠ 60 → k' ≠ 61 → w4 k' a 0 = w1 k' a 0 := fun k' a z1 z2 z3 z4 z5 => by rw [g4 z4 z5, k5 _ _ _ z1 z2 z3]
  have r4 : RLm p μ f (lvL p μ A) w4 X := by
    refine r1.tks (by rw [e122, e120]; exact hl) u4 (fun a z => by rw [← q5 0 a (by decide) (by decide) (by decide) (by decide) (by decide)]; exact z) (by rw [e1 41 _ _ (by decide)]; exact hbd) ⟨fun c z1 z2 z3 => ?_, fun c i z => ?_⟩ (fun i => by rw [xat (by decide), eA (by decide)]) (by rw [xat (by decide), e120]) (fun k' _ _ => by rw [xat (by decide), eA (by decide)]) (by rw [e1 41 _ _ (by decide)]; exact hvd) ?_ (by rw [q5 _ _ (by decide) (by decide) (by decide) (by decide) (by decide)])
    · by_cases z : c = 126
      · subst z; rw [X126, A126]
      · rw [xat (by omega), eA z]
    · rw [xat (by omega), eA (by omega)]
    · rw [e1 41 _ _ (by decide), e1 12 _ _ (by decide)]
      exact hQ0.cg (q5 _ _ (by decide) (by decide) (by decide) (by decide) (by decide)) (q5 _ _ (by decide) (by decide) (by decide) (by decide) (by decide)) (q5 _ _ (by decide) (by decide) (by decide) (by decide) (by decide)) (q5 _ _ (by decide) (by decide) (by decide) (by decide) (by decide)) (fun x _ => ⟨q5 _ _ (by decide) (by decide) (by decide) (by decide) (by decide), q5 _ _ (by decide) (by decide) (by decide) (by decide) (by decide)⟩) (fun x _ => q5 _ _ (by decide) (by decide) (by decide) (by decide) (by decide))
  have r5 : RLm p μ f (lvL p μ A) w' (m_wks μ (pl_ p) k A) := by
    rw [hw', hwk]
    refine r4.sc (fun k a i z => up_k _ (by omega) _ _ _ _ _) (fun c a i z => up_k _ (by omega) _ _ _ _ _) ?_
    obtain ⟨s1, ⟨s2, s3, s4⟩, s5, s6, s7, s8, s9, s10⟩ := r4.1.2.1
    unfold vSc
    simp (disch := decide) only [up_k, up_s]
    exact ⟨s1, ⟨s2, s3, s4⟩, s5, s6, s7, rfl, s9, s10⟩
  -- the tree and its replays
  obtain ⟨A', hA'⟩ : ∃ A', A' = m_wks μ (pl_ p) k A := ⟨_, rfl⟩
  rw [← hA'] at r5 hwk ⊢
  have yat : ∀ {c : Nat} {a i : Int}, (c < 200 ∨ 210 < c) ∧ c ≠ 240 ∧ c ≠ 127 ∧ c ≠ 226 ∧ c ≠ 126 ∧ c ≠ 129 → A' c a i = A c a i := fun z => by rw [hwk, up_k _ z.2.2.2.2.2, xat ⟨z.1, z.2.1, z.2.2.1, z.2.2.2.1, z.2.2.2.2.1⟩]
  have y126 : A' 126 μ.1 0 = k := by rw [hwk, up_k _ (by decide)]; exact X126
  have ybB : bB A' := X240.cong fun i => by rw [hwk, up_k _ (by decide)]
  have ypb : bPb A' := hpb.cong fun i => yat (by decide)
  obtain ⟨B, hB⟩ : ∃ B, B = up A' 126 μ.1 0 (A 126 μ.1 0) := ⟨_, rfl⟩
  have eB : ∀ {c : Nat} {a i : Int}, c ≠ 126 → B c a i = A' c a i := fun z => by rw [hB]; exact up_k _ z _ _ _ _ _
  have hTB : TX μ (pr_ p) (pg_ p) (pl_ p) B := by
    refine hTX.app hT hM s1 s2 hpb ⟨⟨fun c a i z1 z2 => ?_, fun c z1 z2 => ?_, fun i _ _ => ?_, fun j _ _ => ?_⟩, fun j => ?_, fun r => ?_⟩ (ypb.cong fun i => eB (by decide)) (fun _ _ _ => rfl)
    · rw [eB (by omega), yat (by omega)]
    · by_cases z : c = 126
      · subst z; rw [hB, up_s]
      · rw [eB z, yat (by omega)]
    · rw [eB (by decide), yat (by decide)]
    · exact pby_cong (by rw [eB (by decide), yat (by decide)])
    · rw [eB (by decide), yat (by decide)]
    · rw [eB (by decide), yat (by decide)]
  have cB : ∀ {c : Nat} {a i : Int}, (c < 200 ∨ 210 < c) ∧ c ≠ 240 ∧ c ≠ 127 ∧ c ≠ 226 ∧ c ≠ 126 ∧ c ≠ 129 → B c a i = A c a i := fun z => by rw [eB z.2.2.2.2.1, yat z]
  have sB1 : SB 1 A' := by
    have q1 : SB 1 (m_cpT 0 1 (m_rpl μ (pl_ p) k A)) := R1.cpT (by decide) R1
    have q2 : SB 1 (m_cpQ (fun s => decide (A 211 0 s = 1)) 5 0 1 (m_cpT 0 1 (m_rpl μ (pl_ p) k A))) := q1.cpQ q1
    exact q2.cong fun c a i y z => by rw [hwk, up_k _ (by omega), hX, up_k _ (by omega), up_k _ (by omega), up_k _ (by omega)]
  have b126 : B 126 μ.1 0 = A 126 μ.1 0 := by rw [hB, up_s]
  have hTBB : TB μ M B := by
    have q := hT
    unfold TB bTn at q ⊢
    simp (disch := decide) only [cB, b126]; exact q
  have hTX' : TX μ (pr_ p) (pg_ p) (pl_ p) A' := hTB.cur hTBB hM (sB1.cong fun c a i y z => eB (by omega)) (ybB.cong fun i => eB (by decide)) (ypb.cong fun i => eB (by decide)) (fun c a i z => (eB z).symm) (by
    rw [y126]; unfold alv; rw [cB (by decide), cB (by decide)]; exact ha)
  have eL : lvL p μ A' = lvL p μ A := by unfold lvL; rw [yat (by decide), yat (by decide)]
  have hz' : A' 122 μ.1 0 = A' 120 μ.1 0 := by rw [yat (by decide), yat (by decide)]; exact hz
  have hp0 : A 123 μ.1 0 = A 121 μ.1 0 := by
    have := hLV.2.1.2.2
    rw [show lvN μ A = 0 by unfold lvN; omega] at this; exact this
  refine ⟨⟨by rw [eL]; exact r5, hTX', ?_⟩, ?_⟩
  · rw [y126]
    have hz0 : lvN μ A' = 0 := by unfold lvN; omega
    have hL0 : LVl μ A' = [] := by unfold LVl; rw [hz0]; rfl
    refine ⟨⟨x2, ybB, ypb, ?_, ?_, fun j j0 j1 => ?_⟩, ⟨?_, ?_, ?_⟩, ?_, ?_, ?_⟩
    · rw [yat (by decide), yat (by decide)]; exact hl
    · rw [yat (by decide)]; exact hLV.b0.2.1
    · omega
    · rw [hL0]; trivial
    · rw [hL0]; exact fun y hy => absurd hy List.not_mem_nil
    · rw [hz0]; show A' 123 μ.1 0 = A' 121 μ.1 0; rw [yat (by decide), yat (by decide)]; exact hp0
    · rw [hL0]
      show EQv _ 1 0 (SWp _ _) _
      refine EQv.sw.trans ((E2.mono fun r _ _ z => ?_).buf (fun _ _ _ _ => rfl) (fun c i z1 z2 => by rw [hwk, up_k _ (by omega)]))
      have z : A' 211 0 r = 1 := z
      show A 211 0 r = 1
      rw [yat (by decide)] at z; exact z
    · rw [hL0]
      intro r r0 r1' r2
      rw [yat (by decide)] at r2
      show SWp _ _ 204 0 (5 + r) = 0
      rw [SWp_s (by decide)]; exact x3 r r0 r1' r2
    · rw [hz0]; trivial
  · have cT0 := (h.cur hT).2.1
    have g1 : UPG f w w1 := by rw [hw1]; exact UPG.u1 hr (by decide) (by omega)
    have g2 : UPG f w1 w4 := u4.toG r1.1.2.1.1 r1.1.2.2.2.2.2.1 (fun k z1 z => by unfold SDb at z; omega) (fun k z => by unfold SDb at z; omega)
    have g3 : UPG f w4 w' := r4.E86 fun k' a i z => by
      rw [hw']
      by_cases y : a = f
      · exact up_k _ (by omega) _ _ _ _ _
      · exact up_a _ _ _ y _ _ _
    exact (g1.trans g2).trans g3
end C40
