/-! a change ends: what is so ahead of the new node, and where a call goes back -/
/-- what stands between calls, the live steps L -/
def CHB (p : RP) (μ : MU) (f : Int) (L : List Int) (w A : Mm) : Prop := RLm p μ f L w A ∧ TX μ (pr_ p) (pg_ p) (pl_ p) A ∧ LIV μ (pg_ p) (pr_ p (A 126 μ.1 0)) A
section CHG
variable {p : RP} {w w' A A' X : Mm} {μ : MU} {f g S P M : Int} {L L1 : List Int} {σ σ' : Int → Int} {c : Int → Int} {G : Int → Int → Int}
/-- the same, but the answer may change -/
def UPG (f : Int) (w w' : Mm) : Prop := UPT w w' ∧ (∀ k : Nat, k < 86 → w' k f 0 = w k f 0) ∧ ∀ k : Nat, w' k (w 50 f 0) 0 = w k (w 50 f 0) 0
theorem UPG.refl : UPG f w w := ⟨UPT.refl, fun _ _ => rfl, fun _ => rfl⟩
theorem UPE.gg (h : UPE f w w') : UPG f w w' := ⟨h.1, fun k z => h.2.1 k (Or.inl z), h.2.2⟩
theorem UPG.trans {w2 : Mm} (h : UPG f w w') (g : UPG f w' w2) : UPG f w w2 := ⟨h.1.trans g.1, fun k hk => by rw [g.2.1 k hk, h.2.1 k hk], fun k => by
  have e := g.2.2 k
  rw [h.2.1 50 (by decide)] at e
  rw [e, h.2.2 k]⟩
theorem UPd.toG {S : Int → Nat → Prop} (u : UPd c S w w') (hf : w 0 f 0 = 13 ∧ c f = 1) (ht : sTl c w f) (h1 : ∀ k : Nat, k < 86 → ¬ S 1 k) (h86 : ∀ k, ¬ S 86 k) : UPG f w w' :=
  ⟨u.toT, fun k hk => u.g (by omega) hf.2 (h1 k hk), fun k => u.g (by have := ht.1; omega) ht.2 (h86 k)⟩
theorem SSf.toG (u : UPd (pc_ p) (SSf (A 122 μ.1 0)) w w') (h : RLm p μ f L w A) (hl : 0 ≤ A 122 μ.1 0) : UPG f w w' :=
  u.toG h.1.2.1.1 h.1.2.2.2.2.2.1 (fun k z1 z => by unfold SSf SDb at z; omega) (fun k z => by unfold SSf SDb at z; omega)
theorem SSe.toE (u : UPd (pc_ p) (SSe (A 122 μ.1 0)) w w') (h : RLm p μ f L w A) (hl : 0 ≤ A 122 μ.1 0) : UPE f w w' :=
  u.toE h.1.2.1.1 h.1.2.2.2.2.2.1 (fun k z1 z => by unfold SSe SDb at z; omega) (fun k z => by unfold SSe SDb at z; omega)
theorem ntf_ts (hB : LB μ S P A) (hK : RK μ S P M A) (hl : A 122 μ.1 0 ≤ A 120 μ.1 0) (hl2 : A 123 μ.1 0 ≤ A 121 μ.1 0) : TSx μ A (m_ntf μ A).2 ∧ AP μ A (m_ntf μ A).2 := by
  obtain ⟨hN, -⟩ := ntf_rk hB hK
  obtain ⟨g, -, h2, -⟩ := ntf_ok (μ := μ) hK.2.2.2.2.1
  have hap : AP μ A (m_ntf μ A).2 := by
    obtain ⟨a1, a2, a3, a4⟩ := AP.nice (μ := μ) 8 1 A
    rw [h2]
    refine ⟨by show _ ≤ ux g _ 120 μ.1 0; rw [ux_k (by decide)]; exact a1, by show _ ≤ ux g _ 121 μ.1 0; rw [ux_k (by decide)]; exact a2, fun i i0 i1 => by show ux g _ 212 0 i = _; rw [ux_k (by decide)]; exact a3 i i0 i1, fun j j0 j1 => (pby_cong (ux_k (by decide))).trans (a4 j j0 j1)⟩
  refine ⟨TSx.of (fun c a i z => hN.2 c a i (by omega) (by omega) (by omega) (by omega) (by omega) (by omega)) (fun i i0 i1 => hap.2.2.1 i i0 (by omega)) (fun j j0 j1 => hap.2.2.2 j j0 (by omega)), hap⟩
theorem lvS_lv : lvL p μ A = lvS (ps_ p) μ A := rfl
/-- the listeners are calm: all that a new node asks for -/
theorem STok.go (h : STok p μ f (lvL p μ A) w A (pr_ p (A 126 μ.1 0)) (m_nice μ 8 1 A) w') (hr : RLm p μ f (lvL p μ A) w A) (hTX : TX μ (pr_ p) (pg_ p) (pl_ p) A) (hLV : LIV μ (pg_ p) (pr_ p (A 126 μ.1 0)) A) (hB : LB μ S P A) (hK : RK μ S P M A) (hS : S ≤ 29000) (hP : P ≤ 520000) (hM : M ≤ 598) (hl2 : A 123 μ.1 0 ≤ A 121 μ.1 0) :
    (m_ntf μ A).1 = 1 ∧ ∃ p1, RLm p1 μ f (lvL p1 μ (m_ntf μ A).2) w' (m_ntf μ A).2 ∧ MKo μ M (pr_ p1) (pg_ p1) (pl_ p1) (m_ntf μ A).2 ∧ (SB 0 (m_ntf μ A).2 ∧ bTr (m_ntf μ A).2) ∧ (0 ≤ (m_ntf μ A).2 207 0 0 ∧ (m_ntf μ A).2 207 0 0 ≤ 400) ∧ (0 ≤ (m_ntf μ A).2 121 μ.1 0 ∧ (m_ntf μ A).2 121 μ.1 0 ≤ 524288) ∧ UPE f w w' := by
  obtain ⟨n1, c, σ, G, r1, r2, r3, ⟨r4, r5⟩, r6, r7⟩ := h
  have hl : 0 ≤ A 122 μ.1 0 ∧ A 122 μ.1 0 ≤ A 120 μ.1 0 := hLV.b0.1
  obtain ⟨hN, hB', hK', -⟩ := ntf_rk hB hK
  obtain ⟨hts, hap⟩ := ntf_ts hB hK hl.2 hl2
  obtain ⟨g, -, h2, -⟩ := ntf_ok (μ := μ) hK.2.2.2.2.1
  have h2' : (m_ntf μ A).2 = ux g (m_nice μ 8 1 A).2 := by rw [h2]
  have e : ∀ (c : Nat) (a i : Int), c ≠ 234 → (m_ntf μ A).2 c a i = (m_nice μ 8 1 A).2 c a i := fun c a i z => by rw [h2', ux_k z]
  have hT := hK.2.2.2.1
  have e122 : (m_nice μ 8 1 A).2 122 μ.1 0 = A 122 μ.1 0 := by rw [← e _ _ _ (by decide)]; exact hts.1.2.1 122 (by decide) (by decide)
  have e126 : (m_ntf μ A).2 126 μ.1 0 = A 126 μ.1 0 := hts.1.2.1 126 (by decide) (by decide)
  have hb' : bB (m_ntf μ A).2 := hB'.2.2.1
  have hp6 : bPb (m_ntf μ A).2 := hLV.b0.2.2.1.cong fun i => hN.2 _ _ _ (by decide) (by decide) (by decide) (by decide) (by decide) (by decide)
  have hT' := hK'.2.2.2.1
  refine ⟨by rw [h2]; exact n1, pU p c σ G, ?_, ⟨?_, ?_, hT', by omega, hK'.2.2.1, ?_, ?_, ?_⟩, ⟨hB'.1, hB'.2.2.2.1⟩, ?_, ?_, SSe.toE r4 hr hl.1⟩
  · have q := r1.cE (A' := (m_ntf μ A).2) (by rw [e122]; exact ⟨hl.1, by omega⟩) (AgO.of fun c a i z => e c a i (by omega)) (fun i => e _ _ _ (by decide)) (e _ _ _ (by decide)) (fun k _ _ => e _ _ _ (by decide)) (EQv.buf (V := (m_nice μ 8 1 A).2) (V' := (m_nice μ 8 1 A).2) EQv.refl (fun _ _ _ _ => rfl) (fun c i x y => e _ _ _ (by omega))) (e _ _ _ (by decide)) (e _ _ _ (by decide)) (fun j _ _ => ⟨e _ _ _ (by decide), e _ _ _ (by decide)⟩)
    have el : lvL p μ A ++ (rng ((m_nice μ 8 1 A).2 120 μ.1 0 - A 120 μ.1 0).toNat (A 120 μ.1 0)).map σ = lvL (pU p c σ G) μ (m_ntf μ A).2 := by
      rw [← e 120 _ _ (by decide)]
      exact lvS_app (σ := ps_ p) hl.2 (by rw [e _ _ _ (by decide)]; exact r2.1) (hts.1.2.1 122 (by decide) (by decide)) (fun k hk => (r3 k hk).1)
    rw [← el]; exact q
  · exact hTX.app hT (by omega) hK.2.2.1 hB.2.2.1 hLV.b0.2.2.1 hts hp6 (fun k k0 k1 => (r3 k (by omega)).2)
  · rw [e126]
    exact r6.cg hb' (fun c a i z => e c a i (by omega))
  · have := hB'.2.2.2.2.1.2; omega
  · have := hT'.2.2.2.2.2.1.2; rw [hts.1.2.1 123 (by decide) (by decide)]; have := hB.2.2.2.2.2.2; omega
  · rw [hts.1.2.1 123 (by decide) (by decide)]; have := hap.2.1; omega
  · have h7 := VB_f hB'.1.1 hB'.2.1; omega
  · have := hB'.2.2.2.2.2; omega
/-- the call goes back -/
theorem BCK.go (h : BCK p μ f L1 w A (m_ntf μ A).2 w') (hr : RLm p μ f L w A) (hTX : TX μ (pr_ p) (pg_ p) (pl_ p) A) (hLV : LIV μ (pg_ p) (pr_ p (A 126 μ.1 0)) A) (hLR : LIV μ (pg_ p) (pr_ p (A 126 μ.1 0)) (m_rest μ 2 1 A)) (hB : LB μ S P A) (hK : RK μ S P M A) (hM : M ≤ 598) (hl2 : A 123 μ.1 0 ≤ A 121 μ.1 0) (hL1 : L1 = lvK (ps_ p) μ A 2) (h214 : A 122 μ.1 0 ≤ A 214 0 2 ∧ A 214 0 2 ≤ A 120 μ.1 0) (h215 : A 215 0 2 ≤ A 121 μ.1 0) :
    ∃ p', CHB p' μ f (lvL p' μ (m_rest μ 2 1 (m_ntf μ A).2)) w' (m_rest μ 2 1 (m_ntf μ A).2) ∧ UPG f w w' := by
  obtain ⟨c, σ, G, r1, r2, r3, r4⟩ := h
  have hl : 0 ≤ A 122 μ.1 0 ∧ A 122 μ.1 0 ≤ A 120 μ.1 0 := hLV.b0.1
  obtain ⟨hN, hB', hK', -⟩ := ntf_rk hB hK
  obtain ⟨hts, hap⟩ := ntf_ts hB hK hl.2 hl2
  have hT := hK.2.2.2.1
  have e : ∀ (c : Nat) (a i : Int), c ≠ 200 → c ≠ 212 → c ≠ 120 → c ≠ 232 → c ≠ 233 → c ≠ 234 → (m_ntf μ A).2 c a i = A c a i := hN.2
  have r0 : ∀ {c : Nat} {x i : Int}, (c < 200 ∧ c ≠ 120 ∧ c ≠ 121) ∨ 210 < c → m_rest μ 2 1 (m_ntf μ A).2 c x i = (m_ntf μ A).2 c x i := fun z => rest_at z
  have rr : ∀ {c : Nat} {x i : Int}, (122 ≤ c ∧ c ≤ 126) ∨ c = 211 ∨ (216 ≤ c ∧ c ≤ 225) ∨ c = 227 → m_rest μ 2 1 (m_ntf μ A).2 c x i = A c x i := fun z => by rw [r0 (by omega), e _ _ _ (by omega) (by omega) (by omega) (by omega) (by omega) (by omega)]
  have hp6 : bPb (m_rest μ 2 1 (m_ntf μ A).2) := hLV.b0.2.2.1.cong fun i => by rw [r0 (by decide), e _ _ _ (by decide) (by decide) (by decide) (by decide) (by decide) (by decide)]
  have hp6' : bPb (m_ntf μ A).2 := hLV.b0.2.2.1.cong fun i => by rw [e _ _ _ (by decide) (by decide) (by decide) (by decide) (by decide) (by decide)]
  have tR : TSx μ A (m_rest μ 2 1 (m_ntf μ A).2) := TSx.of (fun c a i z => rr z) (fun i i0 i1 => by rw [r0 (by decide)]; exact hts.1.2.2.1 i i0 i1) (fun j j0 j1 => (pby_cong (r0 (by decide))).trans (hts.1.2.2.2 j j0 j1))
  have e214 : (m_ntf μ A).2 214 0 2 = A 214 0 2 := e _ _ _ (by decide) (by decide) (by decide) (by decide) (by decide) (by decide)
  have el : L1 = lvL (pU p c σ G) μ (m_rest μ 2 1 (m_ntf μ A).2) := by
    rw [hL1]
    show lvK (ps_ p) μ A 2 = (rng (m_rest μ 2 1 (m_ntf μ A).2 120 μ.1 0 - m_rest μ 2 1 (m_ntf μ A).2 122 μ.1 0).toNat (m_rest μ 2 1 (m_ntf μ A).2 122 μ.1 0)).map σ
    rw [rest_120.1, e214, rr (by decide)]
    unfold lvK
    refine List.map_congr_left fun k hk => ?_
    have := rng_mem.mp hk
    exact (r2 k (by omega)).1.symm
  refine ⟨pU p c σ G, ⟨by rw [← el]; exact r1, ?_, ?_⟩, SSf.toG r3 hr hl.1⟩
  · exact hTX.app hT (by omega) hK.2.2.1 hB.2.2.1 hLV.b0.2.2.1 tR hp6 (fun k k0 k1 => (r2 k (by omega)).2)
  · rw [rr (c := 126) (by decide)]
    refine hLR.keepR (by decide) hK.1.1 (fun k j k0 k1 k2 k3 => ?_) e214 (e _ _ _ (by decide) (by decide) (by decide) (by decide) (by decide) (by decide)) (e _ _ _ (by decide) (by decide) (by decide) (by decide) (by decide) (by decide)) (e _ _ _ (by decide) (by decide) (by decide) (by decide) (by decide) (by decide)) (fun j j0 j1 => hap.2.2.1 j j0 (by omega)) (fun j j0 j1 => hap.2.2.2 j j0 (by omega)) hB'.2.2.1 hp6' (fun r => e _ _ _ (by decide) (by decide) (by decide) (by decide) (by decide) (by decide)) (fun k k0 k1 => (r2 k (by omega)).2)
    by_cases z : k = 200
    · subst z
      rw [st0_v.1] at k2
      exact hN.1 _ _ (by omega)
    · exact e _ _ _ z (by omega) (by omega) (by omega) (by omega) (by omega)
end CHG
