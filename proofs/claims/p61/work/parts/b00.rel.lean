/-! bookmarks; what else the editor's own methods come to -/
section BKM
variable {p : RP} {w w1 w' A A' : Mm} {μ : MU} {f k M S P x v i : Int} {L : List Int} {PL : Int → List Int} {ρ : Int → Mm} {G : Int → Int → Int}
theorem UPG.u2 (h : UPG f w w1) (ht : w 0 f 0 = 13 ∧ w 0 (w 50 f 0) 0 = 12) {k : Nat} (hk : k ≠ 0 ∧ k ≠ 2 ∧ k < 120) {a i : Int} (ha : (w 0 a 0 ≠ 13 ∧ w 0 a 0 ≠ 12) ∨ (a = f ∧ 86 ≤ k)) : UPG f w (up w1 k a i v) := by
  obtain ⟨⟨h1, h2⟩, h3, h4⟩ := h
  refine ⟨⟨fun k' a' i' h0 hk' => by rw [up_k _ (by omega)]; exact h1 k' a' i' h0 hk', fun k' i' hk' => by rw [up_k _ (by omega)]; exact h2 k' i' hk'⟩, fun k' hk' => ?_, fun k' => ?_⟩
  · rcases ha with z | z
    · rw [up_a _ _ _ (fun y => by rw [← y] at z; omega)]; exact h3 k' hk'
    · rw [up_k _ (by omega)]; exact h3 k' hk'
  · rcases ha with z | z
    · rw [up_a _ _ _ (fun y => by rw [← y] at z; omega)]; exact h4 k'
    · rw [up_a _ _ _ (fun y => by rw [z.1] at y; rw [y] at ht; omega)]; exact h4 k'
theorem TX.cur2 (h : TX μ ρ G PL A) (hT : TB μ M A) (hM : M ≤ 600) (s1 : SB 1 A) (s2 : bB A) (hpb : bPb A) (e : ∀ (c : Nat) (a i : Int), c ≠ 126 ∧ c ≠ 227 → A' c a i = A c a i) (ha : alv μ A (A' 126 μ.1 0)) (hbk : ∀ j, 0 ≤ j → j < 5 → A' 227 0 j = -1 ∨ alv μ A (A' 227 0 j)) : TX μ ρ G PL A' := by
  obtain ⟨⟨⟨hE, hP0, hN, hR, hDJ, hPR⟩, hBK⟩, hX⟩ := id h
  have hI := h.1.1
  have al : ∀ k, alv μ A' k ↔ alv μ A k := fun k => by unfold alv; rw [e 124 _ _ (by decide), e 216 _ _ (by decide)]
  have eR : ∀ k, RSx PL k A' = RSx PL k A := fun k => RSx.cong fun c a i z => e c a i (by omega)
  have epb : ∀ j, pby A' j = pby A j := fun j => pby_cong (e _ _ _ (by decide))
  have h6 : bPb A' := hpb.cong fun i => e _ _ _ (by decide)
  have mv : ∀ k, alv μ A k → EQv TA 1 1 (m_rpl μ PL k A) (m_rpl μ PL k A') ∧ LGL (RSx PL k A') (m_rp0 μ k A') := fun k hk => by
    obtain ⟨r1, r2, r3⟩ := hR k hk
    have o := rpl_mv (A' := A') (k' := k) s1 s2 h6 (fun j _ _ => epb j) r1 r2
    unfold m_rpl
    rw [eR]; exact o
  refine ⟨⟨⟨?_, hP0, fun k k0 hk => ?_, fun k hk => ?_, fun k k' q hk hk' => hDJ k k' q ((al k).mp hk) ((al k').mp hk'), ?_⟩, fun j j0 j1 => ?_⟩, fun k hk => ?_⟩
  · obtain ⟨e0, e1, e2, e3⟩ := id hE
    refine ⟨by rw [e _ _ _ (by decide)]; exact e0, by rw [e 216 _ _ (by decide)]; exact ha.2, fun k k0 k1 k2 => ?_, by rw [e _ _ _ (by decide)]; exact e3⟩
    rw [e 124 _ _ (by decide)] at k1
    rw [e 216 _ _ (by decide)] at k2
    rw [e 217 _ _ (by decide), e 216 _ _ (by decide)]
    exact e2 k k0 k1 k2
  · have hb := (al k).mp hk
    obtain ⟨n1, ⟨N, n2, n3⟩, n4, n5, n6⟩ := hN k k0 hb
    unfold NKd
    rw [e 221 _ _ (by decide), e 222 _ _ (by decide), e 217 _ _ (by decide), e 122 _ _ (by decide)]
    refine ⟨n1.cong fun c a i z => e c a i (by omega), ⟨N, n2, fun q hq => by rw [e _ _ _ (by decide)]; exact n3 q hq⟩, n4, n5, fun q hq => ?_⟩
    rw [e 218 _ _ (by decide), e 220 _ _ (by decide)]; exact n6 q hq
  · have hb := (al k).mp hk
    obtain ⟨r1, r2, r3⟩ := hR k hb
    refine ⟨(mv k hb).2, ?_, ?_⟩
    · rw [eR, e 123 _ _ (by decide)]; exact r2.mv epb
    · rw [eR, e 122 _ _ (by decide)]; exact r3
  · unfold PRT
    rw [e 124 _ _ (by decide), e 122 _ _ (by decide)]
    refine ⟨fun q q0 q1 => ?_, fun q q' q0 q1 q2 => ?_⟩
    · rw [e 218 _ _ (by decide), e 220 _ _ (by decide)]; exact hPR.1 q q0 q1
    · rw [e 218 0 q (by decide), e 220 _ _ (by decide), e 218 0 q' (by decide)]; exact hPR.2 q q' q0 q1 q2
  · exact (hbk j j0 j1).imp id (al _).mpr
  · have hb := (al k).mp hk
    obtain ⟨⟨x1, x2, x3⟩, x4⟩ := hX k hb
    refine ⟨⟨x1.trans (mv k hb).1, x2, fun r r0 r1 r2 => x3 r r0 r1 (by rw [e 211 _ _ (by decide)] at r2; exact r2)⟩, fun hk => ?_⟩
    obtain ⟨p1, p2, p3, p4, p5, p6⟩ := hI.par hT hM s1 s2 hpb hb hk
    rw [e 217 _ _ (by decide)]
    exact GNo_eq (P := A 123 μ.1 0) (lim := A 122 μ.1 0) (fun j _ _ => epb j) (fun i _ _ => e _ _ _ (by decide)) (fun _ _ _ => rfl) h6 (PL k) _ _ _ (hN k hk hb).1 (fun c q _ c1 c2 => e c _ _ (by omega)) p6 p3 (mv _ p4).1 pby_rpl pby_rpl p5.1 p5.2 p2 (x4 hk)
theorem RLm.bk1 (h : RLm p μ f L w A) (hl : 0 ≤ A 122 μ.1 0 ∧ A 122 μ.1 0 ≤ A 120 μ.1 0) (hi : 0 ≤ i ∧ i < 5) (hx : x = if v = -1 then 0 else pn_ p v) (hw : w' = up w 3 (w 39 (w 45 f 0) 0) i x) (hA : A' = up A 227 0 i v) : RLm p μ f L w' A' := by
  obtain ⟨hn, ⟨t1, t2⟩, t3, t4⟩ := RLm.spl.mp h
  have hf := hn.2.1.1.1
  obtain ⟨⟨c1, c2⟩, ⟨d1, d2⟩, ⟨e1, e2⟩, e3, e4, e5⟩ := id t1
  obtain ⟨⟨v1, v2, v3, v4⟩, v5, v6, v7, v8, v9⟩ := id t2
  have hd0 := hn.2.1.2.1.1
  obtain ⟨⟨k1, k2⟩, -, -, ⟨k4, k5⟩, -, -⟩ := id hd0
  obtain ⟨hV0, hQ0, hL0⟩ := hn.2.2.2.1
  have u : UPd (pc_ p) (fun b k => b = 44 ∧ k = 3) w w' := by
    rw [hw]; exact UPd.refl.sU (by decide) (Or.inr ⟨e5, rfl⟩)
  have o1 : ∀ {c : Nat} {a j : Int}, c ≠ 227 → A' c a j = A c a j := fun z => by rw [hA]; exact up_k _ z _ _ _ _ _
  have g3 : ∀ {k : Nat} {a j : Int}, k ≠ 3 → w' k a j = w k a j := fun z => by rw [hw]; exact up_k _ z _ _ _ _ _
  have g45 : w' 45 f 0 = w 45 f 0 := g3 (by decide)
  have g41 : w' 41 f 0 = w 41 f 0 := g3 (by decide)
  refine RLm.spl.mpr ⟨?_, ?_⟩
  · refine hn.fr u CXt.refl (fun b k z => by unfold STe; omega) (fun a ha => h.1.1 a (by rw [← g3 (k := 0) (by decide)]; exact ha)) (fun c j z => o1 (by omega)) (o1 (by decide)) (fun k _ _ => o1 (by decide)) ?_ ?_ ⟨?_, ?_, ?_⟩
    · exact hn.2.1.1.frn u CXt.refl (fun k _ z => by omega) (fun k z => by omega) (fun c z1 z2 => o1 (by omega)) (fun j => o1 (by decide))
    · exact hn.2.1.2.frn hf u CXt.refl (fun k _ z => by omega) (fun b k z1 z2 z3 z => by omega)
    · rw [g41]
      exact (hV0.fr hd0 u CXt.refl (fun b' k z1 z2 z3 z => by omega) (fun k z => by omega)).cgV (fun k j z1 z2 => o1 (by omega))
    · rw [g41, g3 (by decide)]
      exact hQ0.cg (g3 (by decide)) (g3 (by decide)) (g3 (by decide)) (g3 (by decide)) (fun x _ => ⟨g3 (by decide), g3 (by decide)⟩) (fun x _ => g3 (by decide))
    · rw [o1 (by decide)]; exact hL0
  unfold rTr
  rw [g45]
  have f38 : w' 38 (w 45 f 0) 0 = w 38 (w 45 f 0) 0 := g3 (by decide)
  have f39 : w' 39 (w 45 f 0) 0 = w 39 (w 45 f 0) 0 := g3 (by decide)
  have nb : w 51 (w 38 (w 45 f 0) 0) 0 ≠ w 39 (w 45 f 0) 0 := ne_c e2 e5 (by decide)
  refine ⟨⟨⟨⟨u.tag c1 (by decide), c2⟩, ?_, ?_, ?_⟩, ⟨?_, ?_, ?_, ?_⟩, fun j j0 j1 => ?_, fun j j0 j1 => ?_, ?_, ?_, ?_⟩, ?_, fun k k0 k1 k2 => ?_⟩
  · rw [f38]; exact ⟨u.tag d1 (by decide), d2⟩
  · rw [f38, g3 (k := 51) (by decide)]; exact ⟨u.tag e1 (by decide), e2⟩
  · rw [f39]; exact ⟨u.tag e3 (by decide), (u.t (by omega) (by decide)).trans e4, e5⟩
  · rw [f38, g3 (by decide), o1 (by decide)]; exact v1
  · rw [f38, g3 (by decide), o1 (by decide), o1 (by decide)]; exact v2
  · rw [f38, g3 (by decide), g3 (k := 51) (by decide), g3 (by decide)]; exact v3
  · rw [f38, g3 (k := 51) (by decide), g3 (by decide)]; exact v4
  · rw [o1 (by decide)] at j1
    rw [f38, g3 (k := 51) (by decide), hw, up_a _ _ _ nb]; exact v5 j j0 j1
  · rw [f39, hw, hA]
    by_cases z : j = i
    · rw [z, up_s, up_s]; exact hx
    · rw [up_i _ _ _ _ _ _ z, up_i _ _ _ _ _ _ z]; exact v6 j j0 j1
  · rw [g3 (by decide), o1 (by decide)]; exact v7
  · rw [g3 (by decide), o1 (by decide)]; exact v8
  · rw [g3 (by decide), o1 (by decide)]; exact v9
  · have q := t3
    unfold vAl at q ⊢
    simp (disch := decide) only [o1]; exact q
  · rw [o1 (by decide)] at k1 k2
    have hk := t4 k k0 k1 k2
    have ei : ixN A' (pl_ p k) = ixN A (pl_ p k) := ixN_c9 (fun q => o1 (by decide)) (fun q => o1 (by decide)) _
    refine hk.gg (ν' := pn_ p) (ρ' := pr_ p) (σ' := ps_ p) (PL' := pl_ p) u CXt.refl (fun b' k' z1 z2 z3 z => by omega) (fun k z => by omega) rfl rfl ei (fun i _ => ⟨rfl, g3 (by decide), g3 (by decide), g3 (by decide)⟩) (o1 (by decide)) (fun _ => rfl) ?_ (o1 (by decide)) (o1 (by decide)) (by rw [o1 (by decide)]; exact Int.le_refl _)
    rw [g3 (by decide), hk.2.2.2.1.2.1]
    unfold m_chl m_chF
    simp (disch := decide) only [o1]
theorem CHB.bkm (h : CHB p μ f (lvL p μ A) w A) (hT : TB μ M A) (hM : M ≤ 600) (s1 : SB 1 A) (hi : 0 ≤ i ∧ i < 5) (hv : v = -1 ∨ alv μ A v) (hx : x = if v = -1 then 0 else pn_ p v) : CHB p μ f (lvL p μ (up (up A 227 0 i v) 129 μ.1 0 (-1))) (up (up w 3 (w 39 (w 45 f 0) 0) i x) 88 f 0 0) (up (up A 227 0 i v) 129 μ.1 0 (-1)) := by
  have hb := h.2.2.b0
  have e : ∀ {c : Nat} {a j : Int}, c ≠ 227 → up A 227 0 i v c a j = A c a j := fun z => up_k _ z _ _ _ _ _
  have hT1 : TB μ M (up A 227 0 i v) := hT.cong fun c a j z => e (by omega)
  have q : CHB p μ f (lvL p μ (up A 227 0 i v)) (up w 3 (w 39 (w 45 f 0) 0) i x) (up A 227 0 i v) := by
    have eL : lvL p μ (up A 227 0 i v) = lvL p μ A := by unfold lvL; rw [e (by decide), e (by decide)]
    refine ⟨by rw [eL]; exact h.1.bk1 hb.1 hi hx rfl rfl, h.2.1.cur2 hT hM s1 hb.2.2.2 hb.2.2.1 (fun c a j z => e z.2) (by rw [e (by decide)]; exact h.2.1.1.1.1.cur hT) (fun j j0 j1 => ?_), ?_⟩
    · by_cases z : j = i
      · rw [z, up_s]; exact hv
      · rw [up_i _ _ _ _ _ _ z]; exact h.2.1.1.2 j j0 j1
    · rw [e (c := 126) (by decide)]
      exact h.2.2.cg (hb.2.2.2.cong fun j => e (by decide)) (fun c a j z => e (by omega))
  have r := q.ty0 hT1 hM (s1.cong fun c a j y z => e (by omega))
  exact r
end BKM
