/-! typing goes on in the class: what the node keeps -/
def SKx (cu : Int) (b : Int) (k : Nat) : Prop := (b = 1000 + 10 * cu + 1 ∧ (k = 67 ∨ k = 28)) ∨ ((1000 + 10 * cu + 2 ≤ b ∧ b ≤ 1000 + 10 * cu + 4) ∧ k = 1) ∨ (b = 1000 + 10 * cu + 5 ∧ k = 3) ∨ (b = 1000 + 10 * cu ∧ k = 65)
section EXK
variable {p : RP} {c c' c1 σ σ' ν al : Int → Int} {ρ : Int → Mm} {PL : Int → List Int} {G G' : Int → Int → Int} {S : Int → Nat → Prop} {w W wb w' w6 V V' A A' Ay R : Mm} {μ : MU} {f t o x cu n0 p0 v0 v M k s b d i q m : Int} {L N : List Int}
theorem SKx.no (hcu : 0 ≤ cu) (hb : b < 1000 + 10 * cu ∨ 1000 + 10 * cu + 5 < b) (k : Nat) : ¬ SKx cu b k := fun z => by unfold SKx at z; omega
/-- the world in which the text fits -/
theorem TM.base (hW : TM s o w W) (hs : sSt c b w s) (c0 : ∀ a, w 0 a 0 = 0 → c a = 0) (hn : 0 ≤ w 67 o 0 ∧ w 67 o 0 ≤ 400) (h2 : w 2 (w 28 s 0) 0 ≤ 400) :
    ∃ wt ct, W = t_tm s o wt ∧ (UPd c (fun b' k => b' = b ∧ k = 28) w wt ∧ CXt w c ct ∧ ∀ a, wt 0 a 0 = 0 → ct a = 0) ∧ sSt ct b wt s ∧ (w 67 o 0 ≤ wt 2 (wt 28 s 0) 0 ∧ wt 2 (wt 28 s 0) 0 ≤ 400) := by
  rcases hW with ⟨h1, h3⟩ | ⟨h1, q, q0, q1, h3⟩
  · exact ⟨w, c, h3, ⟨UPd.refl, CXt.refl, c0⟩, hs, h1, h2⟩
  · obtain ⟨⟨a1, a2⟩, ⟨b1, b2⟩, ⟨c1, c2, c3⟩, ⟨d1, d2, d3⟩, e1, e2, e3⟩ := hs
    have hq : ∀ {a : Int}, w 0 a 0 ≠ 0 → a ≠ q := fun z e => z (by rw [e]; exact q1)
    obtain ⟨wt, hwt⟩ : ∃ wt, wt = up (newA w q 20 (w 67 o 0)) 28 s 0 q := ⟨_, rfl⟩
    have hc : CXt w c (cset c q (b + 1)) := cset_new q1
    have k1 : ∀ (k : Nat) (a i : Int), w 0 a 0 ≠ 0 → (k ≠ 28 ∨ a ≠ s) → wt k a i = w k a i := fun k a i h0 z => by
      rw [hwt]
      rcases z with z | z
      · rw [up_k _ z, newA_o (hq h0)]
      · rw [up_a _ _ _ z, newA_o (hq h0)]
    have e28 : wt 28 s 0 = q := by rw [hwt, up_s]
    have hqs : q ≠ s := fun e => hq (a := s) (by omega) e.symm
    refine ⟨wt, cset c q (b + 1), by rw [hwt]; exact h3, ⟨⟨fun k a i h0 hS => k1 k a i h0 ?_, fun k a i h0 hk => k1 k a i h0 (Or.inl (by omega)), fun k i hk => ?_⟩, hc, fun a ha => ?_⟩, ⟨⟨?_, ?_⟩, ⟨?_, ?_⟩, ⟨?_, ?_, ?_⟩, ⟨?_, ?_, ?_⟩, ?_, ?_, ?_⟩, ?_, ?_⟩
    · by_cases y : k = 28
      · exact Or.inr fun z => hS ⟨by rw [z]; exact a2, y⟩
      · exact Or.inl y
    · rw [hwt, up_k _ (by omega), newA_o (by omega)]
    · by_cases y : a = q
      · rw [y, hwt, up_k _ (by decide), newA_t] at ha; exact absurd ha (by decide)
      · rw [cset_o y]
        rw [hwt, up_k _ (by decide), newA_o y] at ha; exact c0 a ha
    · rw [k1 _ _ _ (by omega) (Or.inl (by decide))]; exact a1
    · exact (hc _ (by omega)).trans a2
    · rw [e28, hwt, up_k _ (by decide), newA_t]
    · rw [e28, cset_s]
    · rw [k1 29 s _ (by omega) (Or.inl (by decide)), k1 0 _ _ (by omega) (Or.inl (by decide))]; exact c1
    · rw [k1 29 s _ (by omega) (Or.inl (by decide)), k1 2 _ _ (by omega) (Or.inl (by decide))]; exact c2
    · rw [k1 29 s _ (by omega) (Or.inl (by decide))]; exact (hc _ (by omega)).trans c3
    · rw [k1 30 s _ (by omega) (Or.inl (by decide)), k1 0 _ _ (by omega) (Or.inl (by decide))]; exact d1
    · rw [k1 30 s _ (by omega) (Or.inl (by decide)), k1 2 _ _ (by omega) (Or.inl (by decide))]; exact d2
    · rw [k1 30 s _ (by omega) (Or.inl (by decide))]; exact (hc _ (by omega)).trans d3
    · rw [k1 31 s _ (by omega) (Or.inl (by decide)), k1 0 _ _ (by omega) (Or.inl (by decide))]; exact e1
    · rw [k1 31 s _ (by omega) (Or.inl (by decide)), k1 2 _ _ (by omega) (Or.inl (by decide))]; exact e2
    · rw [k1 31 s _ (by omega) (Or.inl (by decide))]; exact (hc _ (by omega)).trans e3
    · rw [e28, hwt, up_k _ (by decide), newA_n]; exact Int.le_refl _
    · rw [e28, hwt, up_k _ (by decide), newA_n]; omega
set_option maxHeartbeats 1000000 in
theorem RLm.keep (h : RLm p μ f [] w A) (hcu : alv μ A cu) (hlo : 0 ≤ A 122 μ.1 0) (hbt : bTr A) (hEQ : EQv (Tkd A) 1 0 V' A) (hU : Unt A V') (hU2 : Unt A (pr_ p cu))
    (hW : TM (w 24 (pn_ p cu) 0) (w 11 (w 41 f 0) 0) w W) (hw' : w' = up (t_tk (w 24 (pn_ p cu) 0) (w 11 (w 41 f 0) 0) (w 44 f 0) 8 W) 65 (pn_ p cu) 0 (w 61 (w 41 f 0) 0)) :
    ∃ c', RLm (c', ps_ p, pn_ p, pa_ p, RHk (pr_ p) cu V', pg_ p, pl_ p) μ f [] w' (up A 224 0 cu (A 207 0 0)) ∧ UPE f w w' := by
  obtain ⟨hn, ⟨t1, t2⟩, t3, t4⟩ := RLm.spl.mp h
  have hf := hn.2.1.1.1
  have hcu0 : 0 ≤ cu := hcu.1.1
  obtain ⟨⟨k1, k2⟩, hsS, k3, ⟨k4, k5⟩, k6, k7⟩ := id hn.2.1.2.1.1
  obtain ⟨hV0, hQ0, hL0⟩ := hn.2.2.2.1
  obtain ⟨⟨⟨x1, x2⟩, x3⟩, ⟨y1, y2⟩, -⟩ := (vNd.z.mp (h.nd hcu)).1
  obtain ⟨s, hs⟩ : ∃ s, s = w 24 (pn_ p cu) 0 := ⟨_, rfl⟩
  obtain ⟨o, ho⟩ : ∃ o, o = w 11 (w 41 f 0) 0 := ⟨_, rfl⟩
  rw [← hs] at hW hw' y1 y2
  rw [← ho] at hW hw' hsS
  have hV01 : vSt (pc_ p) w o A 0 := by rw [ho]; exact hV0.1
  have z67 := hV01.1.2.1
  obtain ⟨wt, ct, eW, ⟨ut, hct, ct0⟩, st, sz1, sz2⟩ := hW.base y1 hn.1 ⟨z67.1, by omega⟩ y2.1.2.1.2.2
  have t31 : wt 31 s 0 = w 31 s 0 := ut.g (by have := y1.1; omega) y1.1.2 (fun z => by omega)
  have ho5 : sSt ct 11 wt o := (hsS.fr ut hct (fun k _ _ z => by omega)).1
  have hv5 : vSt ct wt o A 0 := hV01.fr hsS ut hct (fun b' k z1 z2 z => by omega) (fun k z => by omega)
  obtain ⟨tr0, tr2, tr3⟩ := hn.2.1.1.2.1
  have htv := hn.2.1.1.2.2.1
  have hctr : ct (w 44 f 0) = 40 := by rw [hct _ (by omega)]; exact tr3
  have o67 : wt 67 o 0 = w 67 o 0 := ut.g (by have := hsS.1; omega) hsS.1.2 (fun z => by omega)
  have hT5 : ∀ j, 0 ≤ j → j < 5 → wt 1 (w 44 f 0) j = A 211 0 j ∧ (A 211 0 j = 0 ∨ A 211 0 j = 1) := fun j j0 j1 => by
    refine ⟨?_, hbt j j0 j1⟩
    rw [ut.g (by omega) tr3 (fun z => by omega)]; exact htv j j0 j1
  obtain ⟨w6, hw6⟩ : ∃ w6, w6 = t_tk s o (w 44 f 0) 8 (t_tm s o wt) := ⟨_, rfl⟩
  rw [eW, ← hw6] at hw'
  obtain ⟨hTx6, hSr6⟩ := vSt_tk (T := fun j => A 211 0 j) (V' := V') (i' := 1) st ho5 (by omega) (by omega) ⟨hctr, by omega⟩ hw6 hv5 (by rw [o67]; exact ⟨sz1, sz2⟩) hT5 (fun r r0 r1 z => by
    have hz : V' 204 0 (5 * 1 + r) = 0 := hU r r0 r1 z
    have hz2 : pr_ p cu 204 0 (5 * 1 + r) = 0 := hU2 r r0 r1 z
    refine ⟨by rw [hz]; unfold m_slt; split <;> omega, fun e e0 e1 => ⟨fun z => by rw [hz] at z; omega, fun _ => ?_⟩⟩
    rw [t31, ut.g (by have := y1.2.2.2.2.1; omega) y1.2.2.2.2.2.2 (fun z => by omega)]
    exact ((y2.2 r r0 r1).2 e e0 e1).2 (by rw [hz2]; exact e0))
  have vN6 : vSt ct w6 s V' 1 := ⟨hTx6.eq hEQ.symm, fun r r0 r1 => by
    by_cases z : A 211 0 r = 1
    · exact ((hSr6 r r0 r1).1 z).eq hEQ.symm ⟨r0, r1⟩ z
    · exact (hSr6 r r0 r1).2 z⟩
  obtain ⟨-, -, -, -, z6, u6⟩ := tk_st st ho5 (by omega) ⟨hctr, by omega⟩ hw6
  have sN6 : sSt ct (1000 + 10 * cu + 1) w6 s := (st.fr u6 CXt.refl (fun k z1 z2 z => by unfold SKt at z; omega)).1
  have u6' : UPd ct (SKx cu) wt w6 := u6.mono fun b k z => by unfold SKt at z; unfold SKx; omega
  have cx : ct (pn_ p cu) = 1000 + 10 * cu := (hct _ (by omega)).trans x2
  have u7 : UPd ct (fun b k => b = 1000 + 10 * cu ∧ k = 65) w6 w' := by
    rw [hw']; exact UPd.refl.sU (by decide) (Or.inr ⟨cx, rfl⟩)
  have u : UPd (pc_ p) (SKx cu) w w' := (ut.mono fun b k z => by unfold SKx; omega).trans hct (u6'.trans CXt.refl (u7.mono fun b k z => by unfold SKx; omega))
  have sN : sSt ct (1000 + 10 * cu + 1) w' s := (sN6.fr u7 CXt.refl (fun k' _ _ z => by omega)).1
  have vN : vSt ct w' s V' 1 := vN6.fr sN6 u7 CXt.refl (fun b' k' z1 z2 z => by omega) (fun k' z => by omega)
  have c0 : ∀ a, w' 0 a 0 = 0 → ct a = 0 := fun a ha => ct0 a (by rw [hw', up_k _ (by decide), z6 _ _ _ (by decide) (by decide) (by decide)] at ha; exact ha)
  have no := fun (b : Int) z (k : Nat) => SKx.no (cu := cu) (b := b) hcu0 z k
  have g61 : w 61 (w 41 f 0) 0 = A 207 0 0 := hV0.2.1
  obtain ⟨A', hA'⟩ : ∃ A', A' = up A 224 0 cu (A 207 0 0) := ⟨_, rfl⟩
  rw [← hA']
  have eA : ∀ (c : Nat) (a i : Int), c ≠ 224 → A' c a i = A c a i := fun c a i z => by rw [hA']; exact up_k _ z _ _ _ _ _
  obtain ⟨⟨c1', c2⟩, ⟨d1, d2⟩, ⟨e1', e2⟩, e3, e4', e5⟩ := id t1
  have gT : ∀ k : Nat, w' k (w 45 f 0) 0 = w k (w 45 f 0) 0 := fun k => u.g (by omega) c2 (no 41 (by omega) _)
  have gl : ∀ k : Nat, w' k (w 38 (w 45 f 0) 0) 0 = w k (w 38 (w 45 f 0) 0) 0 := fun k => u.g (by omega) d2 (no 42 (by omega) _)
  have gb : ∀ (k : Nat) (i : Int), w' k (w 51 (w 38 (w 45 f 0) 0) 0) i = w k (w 51 (w 38 (w 45 f 0) 0) 0) i := fun k i => u.g (by omega) e2 (no 43 (by omega) _)
  have g9 : ∀ (k : Nat) (i : Int), w' k (w 39 (w 45 f 0) 0) i = w k (w 39 (w 45 f 0) 0) i := fun k i => u.g (by omega) e5 (no 44 (by omega) _)
  have g45 : w' 45 f 0 = w 45 f 0 := u.g (by omega) hf.2 (no 1 (by omega) _)
  refine ⟨ct, RLm.spl.mpr ⟨?_, ⟨?_, ?_⟩, ?_, fun k q0 q1 q2 => ?_⟩, u.toE hf hn.2.2.1.2.1 (fun k _ => no 1 (by omega) k) (fun k => no 86 (by omega) k)⟩
  · refine hn.fr u hct (fun b k z => by unfold SKx at z; unfold STe; omega) c0 (fun c i z => eA _ _ _ (by omega)) (eA _ _ _ (by decide)) (fun k _ _ => eA _ _ _ (by decide)) ?_ ?_ ?_
    · exact hn.2.1.1.frn u hct (fun k _ => no 1 (by omega) k) (fun k => no 40 (by omega) k) (fun c z1 z2 => eA _ _ _ (by omega)) (fun i => eA _ _ _ (by decide))
    · exact hn.2.1.2.frn hf u hct (fun k _ => no 1 (by omega) k) (fun b k z1 z2 z3 => no b (by omega) k)
    · exact hn.2.2.2.1.frn hn.2.1.2.1.1 hf u hct (no 1 (by omega) _) (fun b k z1 z2 => no b (by omega) k) (fun k => no 0 (by omega) k) (fun b k z => no b (by omega) k) (eA _ _ _ (by decide)) (fun k j z1 z2 => eA _ _ _ (by omega))
  · show sTr ct w' (w' 45 f 0)
    rw [g45]
    exact (t1.gg u hct ⟨no 41 (by omega) _, no 41 (by omega) _, no 42 (by omega) _⟩).1
  · show vTr (pn_ p) (pa_ p) μ w' A' (w' 45 f 0)
    rw [g45]
    have h := t2
    unfold vTr at h ⊢
    simp (disch := decide) only [eA, gT, gl, gb, g9]; exact h
  · show vAl (pa_ p) μ A'
    have h := t3
    unfold vAl at h ⊢
    simp (disch := decide) only [eA]; exact h
  · show vNd ct (ps_ p) (pn_ p) (RHk (pr_ p) cu V') (pl_ p) μ w' A' k
    rw [eA _ _ _ (by decide)] at q1 q2
    have ha : alv μ A k := ⟨⟨q0, q1⟩, q2⟩
    obtain ⟨z1, z2, z3⟩ := vNd.z.mp (h.nd ha)
    have hI : ixN A' (pl_ p k) = ixN A (pl_ p k) := ixN_cgm _ fun q _ => ⟨eA _ _ _ (by decide), eA _ _ _ (by decide)⟩
    have hc : m_chl μ k A' = m_chl μ k A := by
      unfold m_chl m_chF
      simp (disch := decide) only [eA]
    refine vNd.z.mpr ⟨?_, ?_, fun i hi => by rw [eA _ _ _ (by decide)]; rw [hI] at hi; exact z3 i hi⟩
    · by_cases hk : k = cu
      · subst hk
        have gx : ∀ {k' : Nat}, k' ≠ 65 → w' k' (pn_ p k) 0 = w k' (pn_ p k) 0 := fun z => u.g (by omega) x2 (fun y => by unfold SKx at y; omega)
        obtain ⟨-, -, ⟨c1, c2⟩, ⟨f1, f2, f3, f4, f5⟩⟩ := z1
        unfold vNz
        rw [gx (k' := 0) (by decide), gx (k' := 63) (by decide), gx (k' := 24) (by decide), gx (k' := 25) (by decide), gx (k' := 26) (by decide), gx (k' := 64) (by decide), gx (k' := 66) (by decide), gx (k' := 27) (by decide), ← hs, hc, eA 217 _ _ (by decide), eA 225 _ _ (by decide), RHk_s]
        refine ⟨⟨⟨x1, cx⟩, x3⟩, ⟨sN, vN⟩, ⟨u.tag c1 (by decide), (hct _ (by omega)).trans c2⟩, f1, f2, ?_, f4, ?_⟩
        · rw [hw', up_s, g61, hA', up_s]
        · rcases f5 with z | z
          · exact Or.inl z
          · exact Or.inr (u.tag z (by decide))
      · obtain ⟨⟨a1, a2, a3, a4⟩, -⟩ := z1.fr u hct (fun b' k' x1 x2 => no b' (by omega) k') (fun k' => no 0 (by omega) k')
        unfold vNz
        rw [hc, eA 217 _ _ (by decide), eA 225 _ _ (by decide), RHk_o hk, show A' 224 0 k = A 224 0 k by rw [hA']; exact up_i _ _ _ _ _ _ hk]
        exact ⟨a1, a2, a3, a4⟩
    · rw [hI]
      have ct' : pc_ p (w 25 (pn_ p k) 0) = 1000 + 10 * k + 6 := z1.2.2.1.2
      have ct0 : w 0 (w 25 (pn_ p k) 0) 0 = 8 := z1.2.2.1.1
      have c5 : pc_ p (pn_ p k) = 1000 + 10 * k := z1.1.1.2
      have c50 : w 0 (pn_ p k) 0 = 5 := z1.1.1.1
      rw [u.g (by omega) c5 (fun z => by unfold SKx at z; omega)]
      have gq : ∀ k' : Nat, w' k' (w 25 (pn_ p k) 0) 0 = w k' (w 25 (pn_ p k) 0) 0 := fun k' => u.g (by omega) ct' (fun z => by unfold SKx at z; omega)
      have gx : ∀ x ∈ (ixN A (pl_ p k)).map (ps_ p), ∀ k' : Nat, k' = 0 ∨ k' = 33 ∨ k' = 68 → w' k' x 0 = w k' x 0 := fun x hx k' hk' => by
        have h7 := z2.2.2.2.2 x hx
        exact u.1 k' x 0 (by omega) (fun z => by unfold SKx at z; omega)
      exact z2.cg (gq _) (gq _) (gq _) (gq _) (fun x hx => ⟨gx x hx _ (by decide), gx x hx _ (by decide)⟩) (fun x hx => gx x hx _ (by decide))
end EXK
