/-! a store is tracked: tree, desks, the relation -/
section TRA
variable {p : RP} {w w' A A' X : Mm} {μ : MU} {f g S P M s v x k : Int} {L L1 : List Int} {σ σ' : Int → Int} {c : Int → Int} {G G' : Int → Int → Int} {ρ : Int → Mm} {PL : Int → List Int}
theorem TX.appU (h : TX μ ρ G PL A) (hT : TB μ M A) (hM : M ≤ 600) (s1 : SB 1 A) (s2 : bB A) (hpb : bPb A) (t1 : TSm μ A A') (t2 : ∀ j, A' 227 0 j = A 227 0 j) (t3 : ∀ r, A' 211 0 r ≠ 1 → A 211 0 r ≠ 1) (h6 : bPb A') (hG : ∀ k, 0 ≤ k → k < A 122 μ.1 0 → G' k = G k) : TX μ ρ G' PL A' := by
  obtain ⟨⟨⟨hE, hP0, hN, hR, hDJ, hPR⟩, hBK⟩, hX⟩ := id h
  obtain ⟨u1, u2, u3, u4⟩ := id t1
  have hI := h.1.1
  have tal : ∀ {k}, alv μ A' k ↔ alv μ A k := fun {k} => by unfold alv; rw [t1.2.1 124 (by decide) (by decide), t1.1 216 _ _ (by decide) (by decide)]
  have e122 := u2 122 (by decide) (by decide)
  have e123 := u2 123 (by decide) (by decide)
  have e124 := u2 124 (by decide) (by decide)
  have e126 := u2 126 (by decide) (by decide)
  have hq : ∀ k, alv μ A k → RQ μ PL k A' ∧ EQv TA 1 1 (m_rpl μ PL k A) (m_rpl μ PL k A') ∧ RSx PL k A' = RSx PL k A := fun k ha => (hI.rq hT hM ha).app t1 s1 s2 h6
  refine ⟨⟨⟨?_, hP0, fun k k0 ha => ?_, fun k ha => ?_, fun k k' q ha ha' => hDJ k k' q (tal.mp ha) (tal.mp ha'), ?_⟩, fun j j0 j1 => ?_⟩, fun k ha => ?_⟩
  · obtain ⟨e0, e1, e2, e3⟩ := id hE
    refine ⟨by rw [u1 _ _ _ (by decide) (by decide)]; exact e0, by rw [e126, u1 _ _ _ (by decide) (by decide)]; exact e1, fun k k0 k1 k2 => ?_, by rw [u1 _ _ _ (by decide) (by decide)]; exact e3⟩
    rw [e124] at k1
    rw [u1 _ _ _ (by decide) (by decide)] at k2
    rw [u1 217 _ _ (by decide) (by decide), u1 216 _ _ (by decide) (by decide)]
    exact e2 k k0 k1 k2
  · have hb := tal.mp ha
    obtain ⟨n1, ⟨N, n2, n3⟩, n4, n5, n6⟩ := hN k k0 hb
    unfold NKd
    rw [u1 221 _ _ (by decide) (by decide), u1 222 _ _ (by decide) (by decide), u1 217 _ _ (by decide) (by decide), e122]
    refine ⟨CHL.app (lim := A 122 μ.1 0) u3 _ _ n1 (fun c q _ hc => u1 c _ _ (by omega) (by omega)) n6, ⟨N, n2, fun q hq => by rw [u1 _ _ _ (by decide) (by decide)]; exact n3 q hq⟩, n4, n5, fun q hq => ?_⟩
    rw [u1 218 _ _ (by decide) (by decide), u1 220 _ _ (by decide) (by decide)]; exact n6 q hq
  · have hb := tal.mp ha
    obtain ⟨q1, q2, q3⟩ := hq k hb
    obtain ⟨r1, r2, r3⟩ := hR k hb
    have o := rpl_mv (A' := A') (k' := k) s1 s2 h6 u4 r1 r2
    refine ⟨by rw [q3]; exact o.2, q1.2.1, q1.2.2.2⟩
  · unfold PRT
    rw [e124, e122]
    refine ⟨fun q q0 q1 => ?_, fun q q' q0 q1 q2 => ?_⟩
    · rw [u1 218 _ _ (by decide) (by decide), u1 220 _ _ (by decide) (by decide)]; exact hPR.1 q q0 q1
    · rw [u1 218 0 q (by decide) (by decide), u1 220 _ _ (by decide) (by decide), u1 218 0 q' (by decide) (by decide)]; exact hPR.2 q q' q0 q1 q2
  · rw [t2]
    exact (hBK j j0 j1).imp id tal.mpr
  · have hb := tal.mp ha
    obtain ⟨⟨x1, x2, x3⟩, x4⟩ := hX k hb
    refine ⟨⟨x1.trans (hq k hb).2.1, x2, fun r r0 r1 r2 => x3 r r0 r1 (t3 r r2)⟩, fun hk => ?_⟩
    obtain ⟨p1, p2, p3, p4, p5, p6⟩ := hI.par hT hM s1 s2 hpb hb hk
    rw [u1 217 _ _ (by decide) (by decide)]
    exact GNo_eq (P := A 123 μ.1 0) (lim := A 122 μ.1 0) u4 u3 hG h6 (PL k) _ _ _ (hN k hk hb).1 (fun c q _ c1 c2 => u1 c _ _ (by omega) (by omega)) p6 p3 (hq _ p4).2.1 pby_rpl pby_rpl p5.1 p5.2 p2 (x4 hk)
/-- the call goes back -/
theorem BCK.go2 (h : BCK p μ f L1 w A (m_ntf μ A).2 w') (hr : RLm p μ f L w A) (hTX : TX μ (pr_ p) (pg_ p) (pl_ p) A) (hl : 0 ≤ A 122 μ.1 0 ∧ A 122 μ.1 0 ≤ A 120 μ.1 0) (hpb : bPb A) (hLR : LIV μ (pg_ p) (pr_ p (A 126 μ.1 0)) (m_rest μ 2 1 A)) (hB : LB μ S P A) (hK : RK μ S P M A) (hM : M ≤ 598) (hl2 : A 123 μ.1 0 ≤ A 121 μ.1 0) (hL1 : L1 = lvK (ps_ p) μ A 2) (h214 : A 122 μ.1 0 ≤ A 214 0 2 ∧ A 214 0 2 ≤ A 120 μ.1 0) (h215 : A 215 0 2 ≤ A 121 μ.1 0) :
    ∃ p', CHB p' μ f (lvL p' μ (m_rest μ 2 1 (m_ntf μ A).2)) w' (m_rest μ 2 1 (m_ntf μ A).2) ∧ UPG f w w' := by
  obtain ⟨c, σ, G, r1, r2, r3, r4⟩ := h
  obtain ⟨hN, hB', hK', -⟩ := ntf_rk hB hK
  obtain ⟨hts, hap⟩ := ntf_ts hB hK hl.2 hl2
  have hT := hK.2.2.2.1
  have e : ∀ (c : Nat) (a i : Int), c ≠ 200 → c ≠ 212 → c ≠ 120 → c ≠ 232 → c ≠ 233 → c ≠ 234 → (m_ntf μ A).2 c a i = A c a i := hN.2
  have r0 : ∀ {c : Nat} {x i : Int}, (c < 200 ∧ c ≠ 120 ∧ c ≠ 121) ∨ 210 < c → m_rest μ 2 1 (m_ntf μ A).2 c x i = (m_ntf μ A).2 c x i := fun z => rest_at z
  have rr : ∀ {c : Nat} {x i : Int}, (122 ≤ c ∧ c ≤ 126) ∨ c = 211 ∨ (216 ≤ c ∧ c ≤ 225) ∨ c = 227 → m_rest μ 2 1 (m_ntf μ A).2 c x i = A c x i := fun z => by rw [r0 (by omega), e _ _ _ (by omega) (by omega) (by omega) (by omega) (by omega) (by omega)]
  have hp6 : bPb (m_rest μ 2 1 (m_ntf μ A).2) := hpb.cong fun i => by rw [r0 (by decide), e _ _ _ (by decide) (by decide) (by decide) (by decide) (by decide) (by decide)]
  have hp6' : bPb (m_ntf μ A).2 := hpb.cong fun i => by rw [e _ _ _ (by decide) (by decide) (by decide) (by decide) (by decide) (by decide)]
  have tR : TSx μ A (m_rest μ 2 1 (m_ntf μ A).2) := TSx.of (fun c a i z => rr z) (fun i i0 i1 => by rw [r0 (by decide)]; exact hts.1.2.2.1 i i0 i1) (fun j j0 j1 => (pby_cong (r0 (by decide))).trans (hts.1.2.2.2 j j0 j1))
  have e214 : (m_ntf μ A).2 214 0 2 = A 214 0 2 := e _ _ _ (by decide) (by decide) (by decide) (by decide) (by decide) (by decide)
  have el : L1 = lvL (pU p c σ G) μ (m_rest μ 2 1 (m_ntf μ A).2) := by
    rw [hL1]
    show lvK (ps_ p) μ A 2 = (rng (m_rest μ 2 1 (m_ntf μ A).2 120 μ.1 0 - m_rest μ 2 1 (m_ntf μ A).2 122 μ.1 0).toNat (m_rest μ 2 1 (m_ntf μ A).2 122 μ.1 0)).map σ
    rw [rest_120.1, e214, rr (by decide)]
    unfold lvK
    refine List.map_congr_left fun k hk => ?_
    have := rng_mem.mp hk
    exact (r2 k (by omega)).1.symm
  refine ⟨pU p c σ G, ⟨by rw [← el]; exact r1, ?_, ?_⟩, SSf.toG r3 hr hl.1⟩
  · exact hTX.app hT (by omega) hK.2.2.1 hB.2.2.1 hpb tR hp6 (fun k k0 k1 => (r2 k (by omega)).2)
  · rw [rr (c := 126) (by decide)]
    refine hLR.keepR (by decide) hK.1.1 (fun k j k0 k1 k2 k3 => ?_) e214 (e _ _ _ (by decide) (by decide) (by decide) (by decide) (by decide) (by decide)) (e _ _ _ (by decide) (by decide) (by decide) (by decide) (by decide) (by decide)) (e _ _ _ (by decide) (by decide) (by decide) (by decide) (by decide) (by decide)) (fun j j0 j1 => hap.2.2.1 j j0 (by omega)) (fun j j0 j1 => hap.2.2.2 j j0 (by omega)) hB'.2.2.1 hp6' (fun r => e _ _ _ (by decide) (by decide) (by decide) (by decide) (by decide) (by decide)) (fun k k0 k1 => (r2 k (by omega)).2)
    by_cases z : k = 200
    · subst z
      rw [st0_v.1] at k2
      exact hN.1 _ _ (by omega)
    · exact e _ _ _ z (by omega) (by omega) (by omega) (by omega) (by omega)
/-- the listeners are calm: all that a new node asks for -/
theorem STv.go {s z : Int} (h : STv p μ f (lvL p μ A) w A (pr_ p (A 126 μ.1 0)) s z (m_nice μ 8 1 A) w') (hr : RLm p μ f (lvL p μ A) w A) (hTX : TX μ (pr_ p) (pg_ p) (pl_ p) A) (hl : 0 ≤ A 122 μ.1 0 ∧ A 122 μ.1 0 ≤ A 120 μ.1 0) (hpb : bPb A) (hB : LB μ S P A) (hK : RK μ S P M A) (hS : S ≤ 29000) (hP : P ≤ 520000) (hM : M ≤ 598) (hl2 : A 123 μ.1 0 ≤ A 121 μ.1 0) :
    (m_ntf μ A).1 = 1 ∧ ∃ p1, RLm p1 μ f (lvL p1 μ (m_ntf μ A).2) w' (m_ntf μ A).2 ∧ (TX μ (pr_ p1) (pg_ p1) (pl_ p1) (m_ntf μ A).2 ∧ LIV μ (pg_ p1) (pr_ p1 ((m_ntf μ A).2 126 μ.1 0)) (up (m_ntf μ A).2 211 0 s z) ∧ TB μ M (m_ntf μ A).2 ∧ SB 1 (m_ntf μ A).2 ∧ ((m_ntf μ A).2 120 μ.1 0 ≤ 30000 ∧ (m_ntf μ A).2 123 μ.1 0 ≤ 520000 ∧ (m_ntf μ A).2 123 μ.1 0 ≤ (m_ntf μ A).2 121 μ.1 0)) ∧ (SB 0 (m_ntf μ A).2 ∧ bTr (m_ntf μ A).2) ∧ (0 ≤ (m_ntf μ A).2 207 0 0 ∧ (m_ntf μ A).2 207 0 0 ≤ 400) ∧ (0 ≤ (m_ntf μ A).2 121 μ.1 0 ∧ (m_ntf μ A).2 121 μ.1 0 ≤ 524288) ∧ UPE f w w' := by
  obtain ⟨n1, c, σ, G, r1, r2, r3, ⟨r4, r5⟩, r6, r7⟩ := h
  obtain ⟨hN, hB', hK', -⟩ := ntf_rk hB hK
  obtain ⟨hts, hap⟩ := ntf_ts hB hK hl.2 hl2
  obtain ⟨g, -, h2, -⟩ := ntf_ok (μ := μ) hK.2.2.2.2.1
  have h2' : (m_ntf μ A).2 = ux g (m_nice μ 8 1 A).2 := by rw [h2]
  have e : ∀ (c : Nat) (a i : Int), c ≠ 234 → (m_ntf μ A).2 c a i = (m_nice μ 8 1 A).2 c a i := fun c a i z => by rw [h2', ux_k z]
  have hT := hK.2.2.2.1
  have e122 : (m_nice μ 8 1 A).2 122 μ.1 0 = A 122 μ.1 0 := by rw [← e _ _ _ (by decide)]; exact hts.1.2.1 122 (by decide) (by decide)
  have e126 : (m_ntf μ A).2 126 μ.1 0 = A 126 μ.1 0 := hts.1.2.1 126 (by decide) (by decide)
  have hb' : bB (m_ntf μ A).2 := hB'.2.2.1
  have hp6 : bPb (m_ntf μ A).2 := hpb.cong fun i => hN.2 _ _ _ (by decide) (by decide) (by decide) (by decide) (by decide) (by decide)
  have hT' := hK'.2.2.2.1
  refine ⟨by rw [h2]; exact n1, pU p c σ G, ?_, ⟨?_, ?_, hT', hK'.2.2.1, ?_, ?_, ?_⟩, ⟨hB'.1, hB'.2.2.2.1⟩, ?_, ?_, SSe.toE r4 hr hl.1⟩
  · have q := r1.cE (A' := (m_ntf μ A).2) (by rw [e122]; exact ⟨hl.1, by omega⟩) (AgO.of fun c a i z => e c a i (by omega)) (fun i => e _ _ _ (by decide)) (e _ _ _ (by decide)) (fun k _ _ => e _ _ _ (by decide)) (EQv.buf (V := (m_nice μ 8 1 A).2) (V' := (m_nice μ 8 1 A).2) EQv.refl (fun _ _ _ _ => rfl) (fun c i x y => e _ _ _ (by omega))) (e _ _ _ (by decide)) (e _ _ _ (by decide)) (fun j _ _ => ⟨e _ _ _ (by decide), e _ _ _ (by decide)⟩)
    have el : lvL p μ A ++ (rng ((m_nice μ 8 1 A).2 120 μ.1 0 - A 120 μ.1 0).toNat (A 120 μ.1 0)).map σ = lvL (pU p c σ G) μ (m_ntf μ A).2 := by
      rw [← e 120 _ _ (by decide)]
      exact lvS_app (σ := ps_ p) hl.2 (by rw [e _ _ _ (by decide)]; exact r2.1) (hts.1.2.1 122 (by decide) (by decide)) (fun k hk => (r3 k hk).1)
    rw [← el]; exact q
  · exact hTX.app hT (by omega) hK.2.2.1 hB.2.2.1 hpb hts hp6 (fun k k0 k1 => (r3 k (by omega)).2)
  · rw [e126]
    have eU : ∀ (c : Nat) (a i : Int), c ≠ 234 → up (m_ntf μ A).2 211 0 s z c a i = up (m_nice μ 8 1 A).2 211 0 s z c a i := fun c a i y => by
      simp only [up]; split
      · rfl
      · exact e c a i y
    exact r6.cg (hb'.cong fun i => up_k _ (by decide) _ _ _ _ _) (fun c a i z => eU c a i (by omega))
  · have := hB'.2.2.2.2.1.2; omega
  · have := hT'.2.2.2.2.2.1.2; rw [hts.1.2.1 123 (by decide) (by decide)]; have := hB.2.2.2.2.2.2; omega
  · rw [hts.1.2.1 123 (by decide) (by decide)]; have := hap.2.1; omega
  · have h7 := VB_f hB'.1.1 hB'.2.1; omega
  · have := hB'.2.2.2.2.2; omega
theorem TX.trk (h : TX μ ρ G PL A) (hT : TB μ M A) (hM : M ≤ 600) (s1 : SB 1 A) (s2 : bB A) (hpb : bPb A) (hv : v = 1 ∨ A 211 0 s ≠ 1) : TX μ ρ G PL (up A 211 0 s v) := by
  have u0 : ∀ {c : Nat} {a i : Int}, c ≠ 211 → up A 211 0 s v c a i = A c a i := fun z => up_k _ z _ _ _ _ _
  refine h.appU hT hM s1 s2 hpb ⟨fun c a i z1 z2 => u0 (by omega), fun c z1 z2 => u0 (by omega), fun i _ _ => u0 (by decide), fun j _ _ => pby_up (by decide)⟩ (fun j => u0 (by decide)) (fun r hr e => hr ?_) (hpb.cong fun i => u0 (by decide)) (fun _ _ _ => rfl)
  by_cases y : r = s
  · subst y
    rw [up_s]
    rcases hv with hv | hv
    · exact hv
    · exact absurd e hv
  · rw [up_i _ _ _ _ _ _ y]; exact e
theorem RLm.trk (h : RLm p μ f L w A) : RLm p μ f L (up w 1 (w 44 f 0) s v) (up A 211 0 s v) := by
  obtain ⟨hO, hL, ⟨hV, hQ, hLc⟩, hSp⟩ := id h
  obtain ⟨c0, hs, hD, ⟨⟨t1, t2⟩, t3, t4⟩, hM, hTl, hTs⟩ := hO
  obtain ⟨W, hW⟩ : ∃ W, W = up w 1 (w 44 f 0) s v := ⟨_, rfl⟩
  obtain ⟨B, hB⟩ : ∃ B, B = up A 211 0 s v := ⟨_, rfl⟩
  have e1 : ∀ {k : Nat} {a i : Int}, k ≠ 1 → W k a i = w k a i := fun z => by rw [hW]; exact up_k _ z _ _ _ _ _
  have eB : ∀ {c : Nat} {a i : Int}, c ≠ 211 → B c a i = A c a i := fun z => by rw [hB]; exact up_k _ z _ _ _ _ _
  have u : UPd (pc_ p) (fun b k => b = 40 ∧ k = 1) w W := by rw [hW]; exact UPd.refl.sU (by decide) (Or.inr ⟨hs.2.1.2.2, rfl⟩)
  rw [← hW, ← hB]
  have z0 : ∀ k : Nat, ¬ ((0 : Int) = 40 ∧ k = 1) := fun k z => by omega
  have aM : AgM μ A B := ⟨fun c _ _ _ => eB (by omega), fun c i z => eB (by omega)⟩
  have aL : AgL A B := fun c i z => eB (by omega)
  have f41 : W 41 f 0 = w 41 f 0 := e1 (by decide)
  have f42 : W 42 f 0 = w 42 f 0 := e1 (by decide)
  have f43 : W 43 f 0 = w 43 f 0 := e1 (by decide)
  have f45 : W 45 f 0 = w 45 f 0 := e1 (by decide)
  have f46 : W 46 f 0 = w 46 f 0 := e1 (by decide)
  have f12 : W 12 (w 41 f 0) 0 = w 12 (w 41 f 0) 0 := e1 (by decide)
  refine ⟨⟨fun a ha => c0 a (by rw [← e1 (k := 0) (by decide)]; exact ha), ?_, ?_, ⟨⟨?_, ?_⟩, ?_, fun k k0 k1 k2 => ?_⟩, ?_, ?_, ?_⟩, ?_, ⟨?_, ?_, ?_⟩, fun k k0 k1 => ?_⟩
  · have h := hs
    unfold vSc at h ⊢
    simp (disch := decide) only [e1, eB]
    refine ⟨h.1, h.2.1, fun j j0 j1 => ?_, h.2.2.2⟩
    rw [hW, hB]
    by_cases y : j = s
    · rw [y, up_s, up_s]
    · rw [up_i _ _ _ _ _ _ y, up_i _ _ _ _ _ _ y]; exact h.2.2.1 j j0 j1
  · obtain ⟨⟨d1, d2⟩, ⟨d3, d4⟩, d5, d6⟩ := hD
    unfold rDk
    rw [f41, f42, f43]
    exact ⟨⟨(d1.fr u CXt.refl fun k _ _ => ⟨fun z => by omega, fun z => by omega⟩).1, d2.fr d1 u fun b' k _ _ _ z => by omega⟩, ⟨(d3.fr u CXt.refl fun k _ _ => ⟨fun z => by omega, fun z => by omega⟩).1, d4.fr d3 u fun b' k _ _ _ z => by omega⟩, (d5.fr u CXt.refl fun k _ _ => ⟨fun z => by omega, fun z => by omega⟩).1, d6.fr d5 u fun b' k _ _ _ z => by omega⟩
  · have h := t1
    unfold sTr at h ⊢
    simp (disch := decide) only [e1, eB]; exact h
  · have h := t2
    unfold vTr at h ⊢
    simp (disch := decide) only [e1, eB]; exact h
  · exact t3.frm aM
  · rw [eB (by decide)] at k1
    rw [eB (by decide)] at k2
    have n := t4 k k0 k1 k2
    exact n.gg u CXt.refl (fun b' k' z1 z2 _ z => by omega) z0 rfl rfl (aM.ixs _) (fun i hi => ⟨rfl, e1 (by decide), e1 (by decide), e1 (by decide)⟩) (eB (by decide)) (fun _ => rfl) (by rw [e1 (by decide), aM.chl]; exact n.2.2.2.1.2.1) (eB (by decide)) (eB (by decide)) (by rw [eB (by decide)]; exact Int.le_refl _)
  · obtain ⟨m1, m2, m3⟩ := hM
    unfold vMs
    simp (disch := decide) only [e1]
    exact ⟨m1, fun m m0 m4 => (m2 m m0 m4).frn u CXt.refl (fun b' k z1 z2 z => by omega) aL, m3.frn u CXt.refl (fun b' k z1 z2 z => by omega) aL⟩
  · have h := hTl
    unfold sTl at h ⊢
    simp (disch := decide) only [e1]; exact h
  · have h := hTs
    unfold vTs at h ⊢
    simp (disch := decide) only [e1]; exact h
  · rw [f46]
    exact hL.gn u CXt.refl (fun b' k z1 z => by omega) (fun c i z => eB (by omega)) (fun i => eB (by decide))
  · rw [f41]
    exact (hV.fr hD.1.1 u CXt.refl (fun b' k z1 z2 _ z => by omega) z0).cgV fun k j z1 z2 => eB (by omega)
  · rw [f41, f12]
    exact hQ.cg (e1 (by decide)) (e1 (by decide)) (e1 (by decide)) (e1 (by decide)) (fun y hy => ⟨e1 (by decide), e1 (by decide)⟩) (fun y hy => e1 (by decide))
  · rw [eB (by decide)]; exact hLc
  · rw [eB (by decide)] at k1
    exact (hSp k k0 k1).fr u CXt.refl (fun x _ z => by omega) z0 (eB (by decide))
theorem LO.tells (h : LO X A) : LO X (m_tells μ s A) := by
  have q : ∀ (n : Nat) (b Z : Mm), LO X Z → LO X (m_tel μ s b n Z) := fun n b Z hz => by
    induction n with
    | zero => exact hz
    | succ n ih => exact (ih.pool).pEn
  exact q _ _ _ h.step.pool
/-- the step that tells a store is appended, the store not yet tracked in the class -/
theorem CHK.trk (h : CHK p μ f w A) (hT : TB μ M A) (hM : M ≤ 600) (s1 : SB 1 A) (hz : A 123 μ.1 0 ≤ A 121 μ.1 0) (hB : LB μ S P A) (hP : P ≤ 519900) (h2 : SB 2 A) (hs : 0 ≤ s ∧ s < 5) (hT0 : A 211 0 s ≠ 1) (hp : RPF p μ f (lvL p μ A) w A w' (m_tells μ s A)) :
    ∃ p', (RLm p' μ f (lvL p' μ (m_tells μ s A)) w' (m_tells μ s A) ∧ TX μ (pr_ p') (pg_ p') (pl_ p') (m_tells μ s A) ∧ LIV μ (pg_ p') (pr_ p' ((m_tells μ s A) 126 μ.1 0)) (up (m_tells μ s A) 211 0 s 1)) ∧ KPb p' μ f (lvL p' μ (m_tells μ s A)) (lvK (ps_ p') μ (m_tells μ s A) 2) w' (m_tells μ s A) ∧ (m_tells μ s A 215 0 2 ≤ m_tells μ s A 121 μ.1 0 ∧ m_tells μ s A 123 μ.1 0 ≤ m_tells μ s A 121 μ.1 0) ∧ LIV μ (pg_ p') (pr_ p' ((m_tells μ s A) 126 μ.1 0)) (m_rest μ 2 1 (m_tells μ s A)) ∧ UPG f w w' ∧ bPb (m_tells μ s A) ∧ (0 ≤ m_tells μ s A 122 μ.1 0 ∧ m_tells μ s A 122 μ.1 0 ≤ m_tells μ s A 120 μ.1 0) := by
  have hlk := h.lk
  obtain ⟨⟨h1, h9, hl1⟩, ⟨hs1, hs2, hs3⟩, hl2⟩ := h
  obtain ⟨c2, σ2, G2, r1, r2, r3, ⟨r4, r5⟩, r6⟩ := hp
  have hN := hB.2.2.2.2
  have hl : 0 ≤ A 122 μ.1 0 ∧ A 122 μ.1 0 ≤ A 120 μ.1 0 := hl1.b0.1
  have htl : tLn A s := fun e e0 e1 => ⟨hB.1.2.2.2.2.1 _ (by omega) (by omega), fun i i0 i1 => hB.1.2.2.2.2.2 _ (by omega) (by omega)⟩
  have hcc := hB.1.2.2.2.1 s (by omega) (by omega)
  obtain ⟨v1, hap, h6, -⟩ := tells_v (μ := μ) htl hN.2.1 ⟨hcc.1, hcc.2.1⟩ hl1.b0.2.2.1
  have hlo : LO A (m_tells μ s A) := LO.r.tells
  have hLV : LIV μ G2 (pr_ p (A 126 μ.1 0)) (up (m_tells μ s A) 211 0 s 1) := hl1.tel ⟨hN.2.1, by have := hN.2.2; omega⟩ hB.1 hs hT0 (fun k k0 k1 => (r3 k k1).2)
  obtain ⟨A', hA'⟩ : ∃ A', A' = m_tells μ s A := ⟨_, rfl⟩
  rw [← hA'] at hlo hap hLV r1 r2 h6 ⊢
  have eA : ∀ {c : Nat} {a i : Int}, c ≠ 212 → c ≠ 120 → c ≠ 213 → c ≠ 121 → A' c a i = A c a i := fun z1 z2 z3 z4 => by rw [hA']; exact tells_at ⟨z1, z2, z3, z4⟩
  have hb : bB A' := hB.2.2.1.cong fun i => eA (by decide) (by decide) (by decide) (by decide)
  have e122 : A' 122 μ.1 0 = A 122 μ.1 0 := eA (by decide) (by decide) (by decide) (by decide)
  have e123 : A' 123 μ.1 0 = A 123 μ.1 0 := eA (by decide) (by decide) (by decide) (by decide)
  have e126 : A' 126 μ.1 0 = A 126 μ.1 0 := eA (by decide) (by decide) (by decide) (by decide)
  have e214 : A' 214 0 2 = A 214 0 2 := eA (by decide) (by decide) (by decide) (by decide)
  have e215 : A' 215 0 2 = A 215 0 2 := eA (by decide) (by decide) (by decide) (by decide)
  have hf := h1.1.2.1.1
  have hd2 := h1.1.2.2.1.2.1
  have hst := SDb.std (lo := A 122 μ.1 0) (b0 := 10) (Or.inl rfl)
  have e42 : w' 42 f 0 = w 42 f 0 := ed_fr hf r4 hst hl.1 (by decide)
  have q0 := lvS_app (σ' := σ2) (A' := A') hl.2 r2 e122 (fun k hk => (r3 k hk).1)
  have hR : RLm (pU p c2 σ2 G2) μ f (lvL (pU p c2 σ2 G2) μ A') w' A' := by
    show RLm _ μ f (lvS σ2 μ A') w' A'
    rw [← q0]; exact r1
  have hSV : SVd (pU p c2 σ2 G2) w' A' (w' 42 f 0) 2 (lvK σ2 μ A' 2) := by
    rw [e42]
    have q : lvK σ2 μ A' 2 = lvK (ps_ p) μ A 2 := by
      unfold lvK; rw [e214, e122]
      exact List.map_congr_left fun i hi => (r3 i (by have := rng_mem.mp hi; omega)).1
    rw [q]
    exact hs1.frL hd2.1 hd2.2 (Or.inl rfl) (by decide) h2.2.2.2.2.1 r4 r5 (fun b' k x y z => by unfold SDb at z; omega) (fun k z => by unfold SDb at z; omega) hlk (fun b x z => by unfold SDb at z; omega) (hlo.slb (by decide))
  have hn : A' 122 μ.1 0 ≤ A' 214 0 2 ∧ A' 214 0 2 ≤ A' 120 μ.1 0 := by rw [e122, e214]; omega
  refine ⟨pU p c2 σ2 G2, ⟨hR, ?_, ?_⟩, ⟨hSV, ⟨_, lvK_pre hn⟩, hR.nd1 _ _ (by rw [e122]; exact hl.1) (by omega), h2.cong fun c a i z1 z2 => eA (by omega) (by omega) (by omega) (by omega), hn⟩, ⟨by rw [e215]; have := hap.2.1; omega, by rw [e123]; have := hap.2.1; omega⟩, ?_, r4.toG hf h1.1.2.2.2.2.2.1 (fun k z1 z => by unfold SDb at z; omega) (fun k z => by unfold SDb at z; omega), h6, by rw [e122]; omega⟩
  · exact h9.app hT hM s1 hl1.b0.2.2.2 hl1.b0.2.2.1 (TSx.of (fun c a i z => eA (by omega) (by omega) (by omega) (by omega)) (fun i i0 i1 => hap.2.2.1 i i0 (by omega)) (fun j j0 j1 => hap.2.2.2 j j0 (by omega))) h6 (fun k k0 k1 => (r3 k (by omega)).2)
  · rw [e126]; exact hLV
  · rw [e126]
    exact hl2.keepR (by decide) h2 (hlo.slb (by decide)) e214 e215 e122 e123 (fun j j0 j1 => hap.2.2.1 j j0 (by omega)) (fun j j0 j1 => hap.2.2.2 j j0 (by omega)) hb h6 (fun r => eA (by decide) (by decide) (by decide) (by decide)) (fun k k0 k1 => (r3 k (by omega)).2)
theorem ntf_211 (hB : LB μ S P A) (hK : RK μ S P M A) : m_ntf μ (up A 211 0 s v) = ((m_ntf μ A).1, up (m_ntf μ A).2 211 0 s v) := by
  have hN := (ntf_rk hB hK).1
  have e := lq_ntf (μ := μ) (K := K2) (w := up A 211 0 s v) (B := A) K2_ok
  rw [← up211] at e
  rw [e]; unfold pcP
  rw [pc211 fun a i => hN.2 211 a i (by decide) (by decide) (by decide) (by decide) (by decide) (by decide)]
theorem trW_eq : m_trW μ s A = up (m_tells μ s (m_saves μ 2 (m_th μ 0 A))) 211 0 s 1 := by
  unfold m_trW
  rw [up211 (B := m_saves μ 2 (m_th μ 0 A)), lq_tells K2_ok, pc211 fun a i => tells_at (by decide)]
end TRA
