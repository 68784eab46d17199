/-! within a call: what the reference works with alone; a step of any command -/
def NOF (A A' : Mm) : Prop := (∀ (c : Nat) (a i : Int), (c < 200 ∨ 210 < c) → c ≠ 127 → c ≠ 226 → c ≠ 138 → c ≠ 240 → c ≠ 136 → c ≠ 244 → c ≠ 245 → A' c a i = A c a i) ∧ ∀ (c : Nat) (i : Int), 200 ≤ c → c ≤ 210 → (i < st0 c ∨ 2 * st0 c ≤ i) → A' c 0 i = A c 0 i
section CHN
variable {p : RP} {w w1 w' A A' : Mm} {μ : MU} {f S P M : Int} {L : List Int}
theorem NOF.refl : NOF A A := ⟨fun _ _ _ _ _ _ _ _ _ _ _ => rfl, fun _ _ _ _ _ => rfl⟩
theorem NOF.slb (h : NOF A A') : SLb 2 A A' := fun k j x y z _ => h.2 k j x y (Or.inr z)
theorem st0_vv : st0 200 = 400 ∧ st0 201 = 1 ∧ st0 202 = 6 ∧ st0 203 = 6 ∧ st0 204 = 5 ∧ st0 205 = 20 ∧ st0 206 = 400 ∧ st0 207 = 1 ∧ st0 208 = 4 ∧ st0 209 = 4 ∧ st0 210 = 1 := by decide
theorem NOF.eq0 (h : NOF A A') (hSB : SB 0 A) : EQv TA 0 0 A A' := EQv.cong (s := 0) (s' := 0) (V := A) (V' := A) EQv.refl (fun _ _ _ _ _ _ => rfl) (fun c i x y z1 z2 => h.2 c i x (by omega) (Or.inl (by
  have e : st0 c * 0 = 0 := Int.mul_zero _
  omega))) hSB.1.2 (fun r r0 r1 => by have := hSB.2.2.2.1 r (by omega) (by omega); rw [show 5 * 0 + r = r by omega]; exact this.2.1) (fun i i0 i1 => by have := hSB.2.2.2.2.1 i (by omega) (by omega); rw [show 20 * 0 + i = i by omega]; exact this.2)
theorem CHK.nof (h : CHK p μ f w A) (n : NOF A A') (hT : TB μ M A) (hM : M ≤ 600) (s1 : SB 1 A) (h2 : SB 2 A) (hSB : SB 0 A) (hb : bB A') : CHK p μ f w A' := by
  obtain ⟨⟨h1, h9, hl1⟩, ⟨hs1, hs2, hs3⟩, hl2⟩ := h
  have hl := hl1.b0.1
  obtain ⟨t0, t1, t2, t3, t4, t5, t6, t7, t8, t9, t10⟩ := st0_vv
  have e : ∀ {c : Nat} {a i : Int}, (c < 127 ∨ (127 < c ∧ c < 136) ∨ (138 < c ∧ c < 200) ∨ (210 < c ∧ c < 226) ∨ (226 < c ∧ c < 240)) → A' c a i = A c a i := fun z => n.1 _ _ _ (by omega) (by omega) (by omega) (by omega) (by omega) (by omega) (by omega) (by omega)
  have e7 : A' 207 0 0 = A 207 0 0 := n.2 _ _ (by decide) (by decide) (Or.inl (by omega))
  have e10 : A' 210 0 0 = A 210 0 0 := n.2 _ _ (by decide) (by decide) (Or.inl (by omega))
  have h6 : bPb A' := hl1.b0.2.2.1.cong fun i => e (by decide)
  have eL : lvL p μ A' = lvL p μ A := by unfold lvL; rw [e (by decide), e (by decide)]
  have e126 : A' 126 μ.1 0 = A 126 μ.1 0 := e (by decide)
  have e214 : A' 214 0 2 = A 214 0 2 := e (by decide)
  have e215 : A' 215 0 2 = A 215 0 2 := e (by decide)
  have e122 : A' 122 μ.1 0 = A 122 μ.1 0 := e (by decide)
  have e123 : A' 123 μ.1 0 = A 123 μ.1 0 := e (by decide)
  have e120 : A' 120 μ.1 0 = A 120 μ.1 0 := e (by decide)
  have e121 : A' 121 μ.1 0 = A 121 μ.1 0 := e (by decide)
  have hp : ∀ P : Int, PAg P A A' := fun P j _ _ => pby_cong (e (by decide))
  refine ⟨⟨?_, ?_, ?_⟩, ⟨?_, by rw [e122, e214, e120]; exact hs2, by rw [e215, e121]; exact hs3⟩, ?_⟩
  · rw [eL]
    exact h1.cE hl (AgO.of fun c a i z => e (by omega)) (fun i => e (by decide)) e120 (fun k _ _ => e (by decide)) (n.eq0 hSB) e7 e10 (fun j j0 j1 => ⟨n.2 _ _ (by decide) (by decide) (Or.inl (by omega)), n.2 _ _ (by decide) (by decide) (Or.inl (by omega))⟩)
  · exact h9.app hT hM s1 hl1.b0.2.2.2 hl1.b0.2.2.1 (TSx.of (fun c a i z => e (by omega)) (fun i _ _ => e (by decide)) (hp _)) h6 (fun _ _ _ => rfl)
  · rw [e126]
    exact hl1.keep e120 e121 e122 e123 (fun k _ _ => e (by decide)) (hp _) hb h6 (fun r => e (by decide)) ((n.eq0 hSB).mono fun _ _ _ _ => trivial)
  · have q : lvK (ps_ p) μ A' 2 = lvK (ps_ p) μ A 2 := by unfold lvK; rw [e214, e122]
    rw [q]
    exact ⟨hs1.1.cgL (by decide) h1.1.2.2.1.2.1.2 h2.2.2.2.2.1 n.slb, hs1.2⟩
  · rw [e126]
    exact hl2.keepR (by decide) h2 n.slb e214 e215 e122 e123 (fun j _ _ => e (by decide)) (hp _) hb h6 (fun r => e (by decide)) (fun _ _ _ => rfl)
/-- a step of any command -/
theorem CHK.rpf (h : CHK p μ f w A) (hT : TB μ M A) (hM : M ≤ 600) (s1 : SB 1 A) (h2 : SB 2 A) (hz : A 123 μ.1 0 ≤ A 121 μ.1 0) (hp : RPF p μ f (lvL p μ A) w A w' A') (hlo : LO A A') (hap : AP μ A A') (hb : bB A')
    (hLV : ∀ G', (∀ k, 0 ≤ k → k < A 120 μ.1 0 → G' k = pg_ p k) → (∀ k, A 120 μ.1 0 ≤ k → k < A' 120 μ.1 0 → A' 212 0 k % 8 = 1 ∨ A' 212 0 k % 8 = 2 → k = A 120 μ.1 0 ∧ ∀ j, 0 ≤ j → j < wsz (A' 212 0 k) → G' k j = A 200 0 (A' 212 0 k / 8 % 512 + j)) → LIV μ G' (pr_ p (A 126 μ.1 0)) A') :
    (∃ p', CHK p' μ f w' A' ∧ (∀ k, k < A 120 μ.1 0 → ps_ p' k = ps_ p k ∧ pg_ p' k = pg_ p k) ∧ pn_ p' = pn_ p ∧ pl_ p' = pl_ p ∧ pr_ p' = pr_ p) ∧ UPG f w w' ∧ UPd (pc_ p) (SDb 10 (A 122 μ.1 0)) w w' := by
  have hlk := h.lk
  obtain ⟨⟨h1, h9, hl1⟩, ⟨hs1, hs2, hs3⟩, hl2⟩ := h
  obtain ⟨c2, σ2, G2, r1, r2, r3, ⟨r4, r5⟩, r6⟩ := hp
  have hLV' := hLV G2 (fun k _ k1 => (r3 k k1).2) r6
  have e122 : A' 122 μ.1 0 = A 122 μ.1 0 := hlo.2 _ _ _ (by decide) (by decide)
  have e123 : A' 123 μ.1 0 = A 123 μ.1 0 := hlo.2 _ _ _ (by decide) (by decide)
  have e126 : A' 126 μ.1 0 = A 126 μ.1 0 := hlo.2 _ _ _ (by decide) (by decide)
  have e214 : A' 214 0 2 = A 214 0 2 := hlo.2 _ _ _ (by decide) (by decide)
  have e215 : A' 215 0 2 = A 215 0 2 := hlo.2 _ _ _ (by decide) (by decide)
  have hl := hl1.b0.1
  have hf := h1.1.2.1.1
  have hd2 := h1.1.2.2.1.2.1
  have hst := SDb.std (lo := A 122 μ.1 0) (b0 := 10) (Or.inl rfl)
  have e42 : w' 42 f 0 = w 42 f 0 := ed_fr hf r4 hst hl.1 (by decide)
  have h6 : bPb A' := hLV'.b0.2.2.1
  have hlos : ∀ (c : Nat) (a i : Int), (122 ≤ c ∧ c ≤ 126) ∨ c = 211 ∨ (216 ≤ c ∧ c ≤ 225) ∨ c = 227 → A' c a i = A c a i := fun c a i z => hlo.2 c a i (by omega) (by
    rcases z with z | z | z | z
    · have : c = 122 ∨ c = 123 ∨ c = 124 ∨ c = 125 ∨ c = 126 := by omega
      rcases this with rfl | rfl | rfl | rfl | rfl <;> decide
    · subst z; decide
    · have : c = 216 ∨ c = 217 ∨ c = 218 ∨ c = 219 ∨ c = 220 ∨ c = 221 ∨ c = 222 ∨ c = 223 ∨ c = 224 ∨ c = 225 := by omega
      rcases this with rfl | rfl | rfl | rfl | rfl | rfl | rfl | rfl | rfl | rfl <;> decide
    · subst z; decide)
  refine ⟨⟨pU p c2 σ2 G2, ⟨⟨?_, ?_, ?_⟩, ⟨?_, by rw [e122, e214]; omega, by rw [e215]; have := hap.2.1; omega⟩, ?_⟩, fun k k1 => r3 k k1, rfl, rfl, rfl⟩, r4.toG hf h1.1.2.2.2.2.2.1 (fun k z1 z => by unfold SDb at z; omega) (fun k z => by unfold SDb at z; omega), r4⟩
  · have q := lvS_app (σ' := σ2) (A' := A') hl.2 r2 e122 (fun k hk => (r3 k hk).1)
    show RLm _ μ f (lvS σ2 μ A') w' A'
    rw [← q]; exact r1
  · exact h9.app hT hM s1 hl1.b0.2.2.2 hl1.b0.2.2.1 (TSx.of hlos (fun i i0 i1 => hap.2.2.1 i i0 (by omega)) (fun j j0 j1 => hap.2.2.2 j j0 (by omega))) h6 (fun k k0 k1 => (r3 k (by omega)).2)
  · rw [e126]; exact hLV'
  · rw [e42]
    have q : lvK σ2 μ A' 2 = lvK (ps_ p) μ A 2 := by
      unfold lvK; rw [e214, e122]
      exact List.map_congr_left fun i hi => (r3 i (by have := rng_mem.mp hi; omega)).1
    show SVd _ w' A' (w 42 f 0) 2 (lvK σ2 μ A' 2)
    rw [q]
    exact hs1.frL hd2.1 hd2.2 (Or.inl rfl) (by decide) h2.2.2.2.2.1 r4 r5 (fun b' k x y z => by unfold SDb at z; omega) (fun k z => by unfold SDb at z; omega) hlk (fun b x z => by unfold SDb at z; omega) (hlo.slb (by decide))
  · rw [e126]
    exact hl2.keepR (by decide) h2 (hlo.slb (by decide)) e214 e215 e122 e123 (fun j j0 j1 => hap.2.2.1 j j0 (by omega)) (fun j j0 j1 => hap.2.2.2 j j0 (by omega)) hb h6 (fun r => hlos _ _ _ (Or.inr (Or.inl rfl))) (fun k k0 k1 => (r3 k (by omega)).2)
end CHN
