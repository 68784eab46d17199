/-! typing goes on in the class: the relation, but for what the node keeps -/
section EXF
variable {p : RP} {c c' c1 σ σ' ν al : Int → Int} {ρ : Int → Mm} {PL : Int → List Int} {G G' : Int → Int → Int} {S : Int → Nat → Prop} {w W wb w' V A A' Ay R : Mm} {μ : MU} {f t o x cu n0 p0 v0 v M k s b d i q m : Int} {L N : List Int}
theorem vSp.xc (h : vSp c σ G w A k) (kk : RCn w c c1) (e : ∀ (k : Nat) (a i : Int), k ≠ 70 → w' k a i = w k a i) (e70 : w' 70 (σ k) 0 = w 70 (σ k) 0) {k' : Int} (eσ : σ' k' = σ k) (eG : G' k' = G k) (eA : A' 212 0 k' = A 212 0 k) (ec : c1 (σ k) = -(k' + 1)) : vSp c1 σ' G' w' A' k' := by
  obtain ⟨⟨s1, s2⟩, s3, s4, s5, s6⟩ := h
  unfold vSp
  rw [eσ, eG, eA, e70, e 0 _ _ (by decide), e 68 _ _ (by decide), e 69 _ _ (by decide), e 32 _ _ (by decide)]
  refine ⟨⟨s1, ec⟩, s3, s4, s5, fun z => ?_⟩
  have h := (s6 z).rcn kk
  unfold vCh at h ⊢
  simp (disch := decide) only [e]; exact h
set_option maxHeartbeats 1000000 in
theorem RLm.ex (h : RLm p μ f (lvL p μ V) w V) (hX : EXo μ M (pr_ p) (pg_ p) (pl_ p) V R Ay n0 p0 v0)
    (hw : wb = q_emp (w 12 (w 41 f 0) 0) (q_join (w 25 (pn_ p (V 126 μ.1 0)) 0) (w 12 (w 41 f 0) 0) (q_drop (w 12 (w 41 f 0) 0) w)))
    (hw' : w' = up wb 70 (ps_ p (n0 - 1)) 0 (v0 + 1)) :
    ∃ c1, RLm (c1, exS (ps_ p) n0, pn_ p, pa_ p, pr_ p, GEx n0 (pg_ p), pl_ p) μ f [] w' (up Ay 224 0 (V 126 μ.1 0) (V 224 0 (V 126 μ.1 0))) ∧ UPE f w w' := by
  obtain ⟨⟨u, w0⟩, hb, e4, hIx⟩ := RLm.ch h hX hw
  obtain ⟨hn, ⟨t1, t2⟩, t3, t4⟩ := RLm.spl.mp h
  obtain ⟨hK, hS, ⟨g1, g2, g3⟩, ⟨n4, n5, n6, n7, n8, n9⟩, ⟨⟨w1, w2⟩, hp, hv⟩, hA, hTb⟩ := id hX
  have hR1 := hS.2.1
  have hT := hK.2.2.1
  have hcur := hK.1.1.1.1.cur hT
  obtain ⟨-, eN, eM⟩ := ex_LV hX
  have hf := hn.2.1.1.1
  have hSp := hb.2.2.2.2
  obtain ⟨v1, v2, v3, v4, v5, v6, v7⟩ := hX.va
  have no := fun (b : Int) z (k : Nat) => SXa.no (cu := V 126 μ.1 0) (n0 := n0) (b := b) g2 n8 z k
  have e : ∀ (k : Nat) (a i : Int), k ≠ 70 → w' k a i = wb k a i := fun k a i z => by rw [hw']; exact up_k _ z _ _ _ _ _
  obtain ⟨A', hA'⟩ : ∃ A', A' = up Ay 224 0 (V 126 μ.1 0) (V 224 0 (V 126 μ.1 0)) := ⟨_, rfl⟩
  rw [← hA']
  have eA : ∀ (c : Nat) (a i : Int), (c ≠ 240 ∧ c ≠ 136 ∧ c ≠ 212 ∧ c ≠ 120 ∧ c ≠ 234) ∧ (c ≠ 220 ∧ c ≠ 122 ∧ c ≠ 123) → A' c a i = V c a i := fun c a i z => by
    rw [hA']
    show (if c = 224 ∧ a = 0 ∧ i = V 126 μ.1 0 then V 224 0 (V 126 μ.1 0) else Ay c a i) = _
    by_cases y : c = 224 ∧ a = 0 ∧ i = V 126 μ.1 0
    · rw [if_pos y, y.1, y.2.1, y.2.2]
    · rw [if_neg y, hA, up_k _ z.2.2.2, up_k _ z.2.2.1]
      show (if c = 224 ∧ a = 0 ∧ i = V 126 μ.1 0 then _ else up R 220 0 _ _ c a i) = _
      rw [if_neg y, up_k _ z.2.1]
      exact hS.1 z.1.1 z.1.2.1 z.1.2.2.1 z.1.2.2.2.1 z.1.2.2.2.2
  have a120 : A' 120 μ.1 0 = R 120 μ.1 0 := by rw [hA', up_k _ (by decide)]; exact v5
  have a122 : A' 122 μ.1 0 = R 120 μ.1 0 := by rw [hA', up_k _ (by decide)]; exact v3
  have a220 : ∀ q, A' 220 0 q = if q = V 126 μ.1 0 then 1 + (R 120 μ.1 0 - n0) else V 220 0 q := fun q => by rw [hA', up_k _ (by decide)]; exact v1 q
  have a212 : ∀ q, A' 212 0 q = R 212 0 q := fun q => by rw [hA', up_k _ (by decide)]; exact v6 q
  have a218 : ∀ q, A' 218 0 q = V 218 0 q := fun q => eA _ _ _ (by decide)
  obtain ⟨c1, hc1⟩ : ∃ c1 : Int → Int, c1 = fun a => if wb 0 a 0 = 7 then rcx n0 (pc_ p a) else pc_ p a := ⟨_, rfl⟩
  have kk : RCn wb (pc_ p) c1 := fun a _ h7 => by rw [hc1]; exact if_neg h7
  have k7 : ∀ a, wb 0 a 0 = 7 → c1 a = rcx n0 (pc_ p a) := fun a h7 => by rw [hc1]; exact if_pos h7
  have c0 : ∀ a, wb 0 a 0 = 0 → c1 a = 0 := fun a ha => by
    rw [hc1]
    show (if wb 0 a 0 = 7 then rcx n0 (pc_ p a) else pc_ p a) = 0
    rw [if_neg (by omega)]; exact hb.1 a ha
  have i70 : ∀ k, 0 ≤ k → k < V 120 μ.1 0 → k ≠ n0 - 1 → w' 70 (ps_ p k) 0 = wb 70 (ps_ p k) 0 := fun k k0 k1 k2 => by
    rw [hw']
    refine up_a _ _ _ (fun z => ?_) _ _ _
    have x1 := (hSp k k0 k1).1.2
    have x2 := (hSp (n0 - 1) (by omega) (by omega)).1.2
    rw [z, x2] at x1
    omega
  have hRn : RLn c1 (exS (ps_ p) n0) (GEx n0 (pg_ p)) μ f [] w' A' := by
    refine hb.xc kk c0 e eA fun k k0 k1 => ?_
    rw [a120] at k1
    by_cases y : k = n0 - 1
    · subst y
      obtain ⟨⟨s1, s2⟩, s3, s4, s5, s6⟩ := hSp (n0 - 1) (by omega) (by omega)
      have eσ : exS (ps_ p) n0 (n0 - 1) = ps_ p (n0 - 1) := by unfold exS; rw [if_pos (by omega)]
      have ew : A' 212 0 (n0 - 1) = 0 + 8 * p0 + 4096 * (v0 + 1) := by rw [a212, hS.2.2.2.2, w1]; omega
      rw [w1] at s3 s4
      have z1 : (0 + 8 * p0 + 4096 * (v0 + 1)) % 8 = 0 := by omega
      have z2 : (0 + 8 * p0 + 4096 * v0) % 8 = 0 := by omega
      unfold vSp
      rw [eσ, ew, z1, e 0 _ _ (by decide), e 68 _ _ (by decide), e 69 _ _ (by decide), hw', up_s]
      rw [z2] at s3 s4
      refine ⟨⟨s1, ?_⟩, s3, fun _ => ⟨?_, ?_⟩, fun z => absurd z (by decide), fun z => by omega⟩
      · rw [k7 _ s1, s2]; unfold rcx; rw [if_neg (by omega), if_neg (by omega)]
      · rw [(s4 (by decide)).1]; omega
      · unfold wsz; rw [if_neg (by omega)]; omega
    · by_cases y2 : k < n0
      · have hk := hSp k k0 (by omega)
        refine hk.xc kk e (i70 k k0 (by omega) y) (by unfold exS; rw [if_pos y2]) (by unfold GEx; rw [if_pos y2]) (by rw [a212]; exact hS.2.2.2.1 k y2 y) ?_
        rw [k7 _ hk.1.1, hk.1.2]; unfold rcx; rw [if_neg (by omega), if_neg (by omega)]
      · have hk := hSp (k + 1) (by omega) (by omega)
        refine hk.xc kk e (i70 (k + 1) (by omega) (by omega) (by omega)) (by unfold exS; rw [if_neg y2]) (by unfold GEx; rw [if_neg y2]) (by rw [a212]; exact hS.2.2.1 k (by omega) k1) ?_
        rw [k7 _ hk.1.1, hk.1.2]; unfold rcx; rw [if_neg (by omega), if_pos (by omega)]; omega
  -- the tree
  obtain ⟨⟨c1', c2⟩, ⟨d1, d2⟩, ⟨e1', e2⟩, e3, e4', e5⟩ := id t1
  have gT : ∀ k : Nat, wb k (w 45 f 0) 0 = w k (w 45 f 0) 0 := fun k => u.g (by omega) c2 (no 41 (by omega) _)
  have gl : ∀ k : Nat, wb k (w 38 (w 45 f 0) 0) 0 = w k (w 38 (w 45 f 0) 0) 0 := fun k => u.g (by omega) d2 (no 42 (by omega) _)
  have gb : ∀ (k : Nat) (i : Int), wb k (w 51 (w 38 (w 45 f 0) 0) 0) i = w k (w 51 (w 38 (w 45 f 0) 0) 0) i := fun k i => u.g (by omega) e2 (no 43 (by omega) _)
  have g9 : ∀ (k : Nat) (i : Int), wb k (w 39 (w 45 f 0) 0) i = w k (w 39 (w 45 f 0) 0) i := fun k i => u.g (by omega) e5 (no 44 (by omega) _)
  have g45 : wb 45 f 0 = w 45 f 0 := u.g (by omega) hf.2 (no 1 (by omega) _)
  have f45 : w' 45 f 0 = w 45 f 0 := (e _ _ _ (by decide)).trans g45
  have hsT : sTr c1 wb (w 45 f 0) := (t1.gg u CXt.refl ⟨no 41 (by omega) _, no 41 (by omega) _, no 42 (by omega) _⟩).1.rcn kk
  refine ⟨c1, RLm.spl.mpr ⟨hRn, ⟨?_, ?_⟩, ?_, fun k k0 k1 k2 => ?_⟩, ?_⟩
  · show sTr c1 w' (w' 45 f 0)
    rw [f45]
    have h := hsT
    unfold sTr at h ⊢
    simp (disch := decide) only [e]; exact h
  · show vTr (pn_ p) (pa_ p) μ w' A' (w' 45 f 0)
    rw [f45]
    have h := t2
    unfold vTr at h ⊢
    simp (disch := decide) only [e, eA, gT, gl, gb, g9]; exact h
  · show vAl (pa_ p) μ A'
    have h := t3
    unfold vAl at h ⊢
    simp (disch := decide) only [eA]; exact h
  · show vNd c1 (exS (ps_ p) n0) (pn_ p) (pr_ p) (pl_ p) μ w' A' k
    rw [eA _ _ _ (by decide)] at k1 k2
    have ha : alv μ V k := ⟨⟨k0, k1⟩, k2⟩
    obtain ⟨z1, z2, z3⟩ := vNd.z.mp (h.nd ha)
    obtain ⟨y1, y2⟩ := z1.fr u CXt.refl (fun b' k' x1 x2 => no b' (by
      by_cases hk : k = V 126 μ.1 0
      · omega
      · omega) k') (fun k' => no 0 (by omega) k')
    refine vNd.z.mpr ⟨y1.xc kk e eA, ?_, ?_⟩
    · rw [e 25 _ _ (by decide), y2]
      have mv : ∀ {t : Int} {L : List Int}, vQs wb t L → vQs w' t L := fun hq => hq.cg (e _ _ _ (by decide)) (e _ _ _ (by decide)) (e _ _ _ (by decide)) (e _ _ _ (by decide)) (fun x _ => ⟨e _ _ _ (by decide), e _ _ _ (by decide)⟩) (fun x _ => e _ _ _ (by decide))
      by_cases hk : k = V 126 μ.1 0
      · subst hk
        have eI : ixN A' (pl_ p (V 126 μ.1 0)) = (n0 - 1) :: rng (lvN μ V - 1) n0 := by
          rw [g1]; show rng _ _ ++ [] = _
          rw [List.append_nil, a220, if_pos rfl, a218, n5, show (1 + (R 120 μ.1 0 - n0)).toNat = (lvN μ V - 1) + 1 by omega]
          show (n0 - 1) :: rng _ (n0 - 1 + 1) = _
          rw [show n0 - 1 + 1 = n0 by omega]
        rw [eI, List.map_cons, exS_rng _ _ (Int.le_refl _), show exS (ps_ p) n0 (n0 - 1) = ps_ p (n0 - 1) by unfold exS; rw [if_pos (by omega)]]
        exact mv e4
      · have hlim := hX.lim ha hk
        have eI : ixN A' (pl_ p k) = ixN V (pl_ p k) := ixN_cgm _ fun q hq => ⟨a218 q, by rw [a220, if_neg (by have := (hlim q hq).1; omega)]⟩
        have lt : ∀ i ∈ ixN V (pl_ p k), 0 ≤ i ∧ i < n0 - 1 := fun i hi => by
          obtain ⟨q, hq, q1, q2⟩ := ixN_mem hi
          have := (hlim q hq).2
          exact ⟨(z3 i hi).1, by omega⟩
        rw [eI, List.map_congr_left (g := ps_ p) (fun i hi => by unfold exS; rw [if_pos (by have := lt i hi; omega)])]
        refine mv ?_
        have ct : pc_ p (w 25 (pn_ p k) 0) = 1000 + 10 * k + 6 := z1.2.2.1.2
        have ct0 : w 0 (w 25 (pn_ p k) 0) 0 = 8 := z1.2.2.1.1
        have gq : ∀ k' : Nat, wb k' (w 25 (pn_ p k) 0) 0 = w k' (w 25 (pn_ p k) 0) 0 := fun k' => u.g (by omega) ct (no _ (by omega) k')
        have gx : ∀ x ∈ (ixN V (pl_ p k)).map (ps_ p), ∀ k' : Nat, wb k' x 0 = w k' x 0 := fun x hx k' => by
          obtain ⟨i, hi, rfl⟩ := List.mem_map.mp hx
          have hl := lt i hi
          have hsi := hn.2.2.2.2 i hl.1 (by omega)
          exact u.g (by have := hsi.1.1; omega) hsi.1.2 (fun z => by unfold SXa at z; omega)
        exact z2.cg (gq _) (gq _) (gq _) (gq _) (fun x hx => ⟨gx x hx _, gx x hx _⟩) (fun x hx => gx x hx _)
    · intro i hi
      rw [a122]
      obtain ⟨q, hq, q1, q2⟩ := ixN_mem hi
      rw [a218] at q1 q2
      rw [a220] at q2
      by_cases hk : q = V 126 μ.1 0
      · rw [if_pos hk] at q2
        rw [hk, n5] at q1 q2
        omega
      · rw [if_neg hk] at q2
        by_cases hk2 : k = V 126 μ.1 0
        · subst hk2
          rw [g1] at hq
          exact absurd (List.mem_singleton.mp hq) hk
        · have hlim := (hX.lim ha hk2 q hq).2
          have h218 := hK.1.1.1.2.2.2.2.2.1 q (by have := (hX.lim ha hk2 q hq).1; omega) (by have := (hX.lim ha hk2 q hq).1; omega)
          omega
  · have u' : UPd (pc_ p) (fun b k => SXa (V 126 μ.1 0) n0 b k ∨ (b = -n0 ∧ k = 70)) w w' := by
      rw [hw']
      refine (u.mono fun b k z => Or.inl z).sU (by decide) (Or.inr ?_)
      rw [(hSp (n0 - 1) (by omega) (by omega)).1.2]
      exact Or.inr ⟨by omega, rfl⟩
    refine u'.toE hf hn.2.2.1.2.1 (fun k _ z => ?_) (fun k z => ?_)
    · unfold SXa at z; omega
    · unfold SXa at z; omega
end EXF
