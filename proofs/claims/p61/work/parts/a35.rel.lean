/-! settling that failed: the live desk goes back to where the call began -/
/-- the desk before keeps the state at the call's beginning -/
def KPb (p : RP) (μ : MU) (f : Int) (L L1 : List Int) (w A : Mm) : Prop := SVd p w A (w 42 f 0) 2 L1 ∧ (∃ M, L = L1 ++ M) ∧ L1.Nodup ∧ SB 2 A ∧ (A 122 μ.1 0 ≤ A 214 0 2 ∧ A 214 0 2 ≤ A 120 μ.1 0)
/-- how a call that goes back ends: the relation again, with the steps L1 -/
def BCK (p : RP) (μ : MU) (f : Int) (L1 : List Int) (w A : Mm) (X : Mm) (w' : Mm) : Prop :=
  ∃ c σ G, RLm (pU p c σ G) μ f L1 w' (m_rest μ 2 1 X) ∧ (∀ k, k < A 120 μ.1 0 → σ k = ps_ p k ∧ G k = pg_ p k) ∧ (UPd (pc_ p) (SSf (A 122 μ.1 0)) w w' ∧ CXt w (pc_ p) c)
section BKK
variable {p : RP} {w w' wj A : Mm} {μ : MU} {f : Int} {L L1 : List Int} {g : Int → Int → Int} {N : Int × Mm}
theorem RLm.DAl {q b0 a : Int} (h : RLm p μ f L w A) (hq : sqD w f q b0 a) {V : Mm} (hv : SVd p w V q a L1) (hLn : (L1.length : Int) ≤ 100000) : DA w (w 41 f 0) q ∧ w 67 (w 11 q 0) 0 ≤ 400 := by
  obtain ⟨hd, hBd, hb0, ha⟩ := h.1.2.2.1.sq hq
  exact ⟨DA_of h.1.2.2.1.1.1 h.1.2.2.1.1.2 hd hBd (by omega) hv.1.1 hv.2.2 hLn, hBd.2.2.1.2⟩
theorem RLm.DAs {q b0 a : Int} (h : RLm p μ f L w A) (hq : sqD w f q b0 a) (hLn : (L.length : Int) ≤ 100000) : DA w q (w 41 f 0) ∧ w 67 (w 11 (w 41 f 0) 0) 0 ≤ 400 := by
  obtain ⟨hd, hBd, hb0, ha⟩ := h.1.2.2.1.sq hq
  exact ⟨DA_of hd hBd h.1.2.2.1.1.1 h.1.2.2.1.1.2 (by omega) h.2.2.1.1.1 h.2.2.1.2.1.2 hLn, h.1.2.2.1.1.2.2.2.1.2⟩
theorem SSe.h68 {lo b : Int} (h : b ≤ -1) : ¬ SSe lo b 68 := fun z => by unfold SSe SDb at z; omega
theorem KPb.sse {c σ : Int → Int} {G : Int → Int → Int} {A' : Mm} (hk : KPb p μ f L L1 w A) (h0 : RLm p μ f L w A) (hl : 0 ≤ A 122 μ.1 0) (u : UPd (pc_ p) (SSe (A 122 μ.1 0)) w wj) (hc : CXt w (pc_ p) c) (e : ∀ (k : Nat) (j : Int), 200 ≤ k → k ≤ 210 → st0 k ≤ j → A' k 0 j = A k 0 j) : SVd (pU p c σ G) wj A' (w 42 f 0) 2 L1 ∧ (wj 0 f 0 = 13 ∧ wj 41 f 0 = w 41 f 0 ∧ wj 42 f 0 = w 42 f 0 ∧ wj 0 (w 41 f 0) 0 = 2) := by
  obtain ⟨k1, ⟨M, hM⟩, -⟩ := hk
  have hf := h0.1.2.1.1
  have hd := h0.1.2.2.1.2.1.1
  refine ⟨k1.fr hd (Or.inl rfl) (by decide) u hc (fun b' k x y z => by unfold SSe SDb at z; omega) (fun k z => by unfold SSe SDb at z; omega) (fun x hx => ?_) (fun b hb => SSe.h68 hb) e, u.tag hf.1 (by decide), ed_fr hf u SSe.std hl (by decide), ed_fr hf u SSe.std hl (by decide), u.tag h0.1.2.2.1.1.1.1.1 (by decide)⟩
  have := h0.2.2.1.2.2 x (by rw [hM]; exact List.mem_append.mpr (Or.inl hx))
  omega
/-- what taking over asks, once settling failed -/
theorem STno.ask (hno : STno p μ f L w A N wj) (h0 : RLm p μ f L w A) (hl : 0 ≤ A 122 μ.1 0) (hk : KPb p μ f L L1 w A) (hLn : (L1.length : Int) ≤ 100000) : DA wj (wj 41 f 0) (wj 42 f 0) ∧ wj 67 (wj 11 (wj 42 f 0) 0) 0 ≤ 400 ∧ wj 0 f 0 = 13 ∧ wj 0 (wj 41 f 0) 0 = 2 := by
  obtain ⟨-, c, σ, G, A9, h1, h2, h3, ⟨u, hc⟩, ha, -, hN, hA2, hA3, hA4, hA5⟩ := hno
  obtain ⟨k1, k2, k3, k4, k5⟩ := hk.sse (σ := σ) (G := G) (A' := A9) h0 hl u hc (fun k j x y z => hA3 k j (Or.inl ⟨x, y, z⟩))
  have hq : sqD wj f (wj 42 f 0) 20 2 := Or.inl ⟨rfl, rfl, rfl⟩
  rw [← k4] at k1
  obtain ⟨d1, d2⟩ := h1.DAl hq k1 hLn
  exact ⟨d1, d2, k2, by rw [k3]; exact k5⟩
theorem STno.back (hno : STno p μ f L w A N wj) (h0 : RLm p μ f L w A) (hl : 0 ≤ A 122 μ.1 0 ∧ A 122 μ.1 0 ≤ A 120 μ.1 0) (hk : KPb p μ f L L1 w A) (hp : ∃ W, TM (wj 11 (wj 41 f 0) 0) (wj 11 (wj 42 f 0) 0) wj W ∧ w' = q_ext (wj 12 (wj 41 f 0) 0) (wj 12 (wj 42 f 0) 0) (d_copy (wj 41 f 0) (wj 42 f 0) (t_all (wj 11 (wj 41 f 0) 0) (wj 11 (wj 42 f 0) 0) 8 W) 4)) :
    N.1 = 0 ∧ BCK p μ f L1 w A (ux g N.2) w' := by
  obtain ⟨h9, c, σ, G, A9, h1, h2, h3, ⟨u, hc⟩, ha, hB, hN, hA2, hA3, hA4, hA5⟩ := hno
  refine ⟨h9, c, σ, G, ?_⟩
  have eS : ∀ (k : Nat) (j : Int), 200 ≤ k → k ≤ 210 → st0 k ≤ j → A9 k 0 j = A k 0 j := fun k j x y z => hA3 k j (Or.inl ⟨x, y, z⟩)
  obtain ⟨k1, k2, k3, k4, k5⟩ := hk.sse (σ := σ) (G := G) (A' := A9) h0 hl.1 u hc eS
  obtain ⟨-, ⟨M, hM⟩, hnd, hSB, hn1, hn2⟩ := hk
  have hq : sqD wj f (wj 42 f 0) 20 2 := Or.inl ⟨rfl, rfl, rfl⟩
  rw [← k4] at k1
  have e122 : A9 122 μ.1 0 = A 122 μ.1 0 := ha.1 122 (by decide) (by decide) (by decide)
  have e214 : A9 214 0 2 = A 214 0 2 := hA3 _ _ (Or.inr (Or.inl rfl))
  have hSB9 : SB 2 A9 := by
    have t0 : st0 200 = 400 ∧ st0 201 = 1 ∧ st0 202 = 6 ∧ st0 203 = 6 ∧ st0 204 = 5 ∧ st0 205 = 20 ∧ st0 206 = 400 := by decide
    obtain ⟨t200, t201, t202, t203, t204, t205, t206⟩ := t0
    obtain ⟨s1, s2, s3, s4, s5, s6⟩ := hSB
    refine ⟨?_, fun i x y => ?_, fun i x y => ?_, fun i x y => ?_, fun i x y => ?_, fun i x y => ?_⟩
    · unfold bL1; rw [eS 201 _ (by decide) (by decide) (by omega)]; exact s1
    · rw [eS 200 _ (by decide) (by decide) (by omega)]; exact s2 i x y
    · rw [eS 202 _ (by decide) (by decide) (by omega), eS 203 _ (by decide) (by decide) (by omega), eS 201 _ (by decide) (by decide) (by omega)]; exact s3 i x y
    · rw [eS 204 _ (by decide) (by decide) (by omega)]; exact s4 i x y
    · rw [eS 205 _ (by decide) (by decide) (by omega)]; exact s5 i x y
    · rw [eS 206 _ (by decide) (by decide) (by omega)]; exact s6 i x y
  rw [hM, List.append_assoc] at h1
  obtain ⟨r1, r2⟩ := h1.restP (by rw [e122, h2]; omega) hB.1.2.2.2.2.1 hSB9.2.2.2.2.1 hq k1.1 k1.2 hnd (by rw [e214, h2]; omega) hp
  rw [e122] at r2
  refine ⟨r1.cR (by rw [e122, e214]; omega) hSB9 (fun k j x y z => ?_) (fun k x j z => ?_) (fun k k0 k1 => ?_), h3, (u.mono SSe.tof).trans hc (r2.mono fun b k z => Or.inl z), hc⟩
  · rw [ux_k (by omega)]
    by_cases y2 : k = 200
    · subst y2; exact (hA4 j z).symm
    · exact (hN k 0 j y2 (by omega) (by omega)).symm
  · rw [ux_k (by omega)]; exact (hN k x j (by omega) (by omega) (by omega)).symm
  · rw [e214] at k1
    rw [ux_k (by decide), hA5 k k0 (by omega), hA2 k k0 (by omega)]
end BKK
