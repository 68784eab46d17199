/-! a run: a command, a checkpoint -/
def SRn (lo : Int) (b : Int) (k : Nat) : Prop := SDb 10 lo b k ∨ SDb 30 lo b k ∨ (b = 86 ∧ 80 ≤ k ∧ k ≤ 83)
/-- the addresses of the loose steps, and of those that state a has -/
def lvS (σ : Int → Int) (μ : MU) (A : Mm) : List Int := (rng (A 120 μ.1 0 - A 122 μ.1 0).toNat (A 122 μ.1 0)).map σ
def lvK (σ : Int → Int) (μ : MU) (A : Mm) (a : Int) : List Int := (rng (A 214 0 a - A 122 μ.1 0).toNat (A 122 μ.1 0)).map σ
/-- between a run's commands: s started, t at the last checkpoint -/
def RNX (p : RP) (c σ : Int → Int) (G : Int → Int → Int) (μ : MU) (f : Int) (ρ w0 A0 w A : Mm) (s t u v : Int) : Prop :=
  RLm (pU p c σ G) μ f (lvS σ μ A) w A ∧ (LIV μ G ρ A ∧ LIV μ G ρ (m_rest μ 3 0 A)) ∧ (SVd (pU p c σ G) w A (w 43 f 0) 3 (lvK σ μ A 3) ∧ (A 122 μ.1 0 ≤ A 214 0 3 ∧ A 214 0 3 ≤ A 120 μ.1 0) ∧ A 215 0 3 ≤ A 121 μ.1 0) ∧ (w 80 (w 50 f 0) 0 = s ∧ w 81 (w 50 f 0) 0 = t ∧ w 82 (w 50 f 0) 0 = u ∧ w 83 (w 50 f 0) 0 = v) ∧
  (UPd (pc_ p) (SRn (A0 122 μ.1 0)) w0 w ∧ CXt w0 (pc_ p) c) ∧ (∀ k, k < A0 120 μ.1 0 → σ k = ps_ p k ∧ G k = pg_ p k) ∧ A0 120 μ.1 0 ≤ A 120 μ.1 0 ∧ A 122 μ.1 0 = A0 122 μ.1 0
def RNS (p : RP) (μ : MU) (f : Int) (ρ w0 A0 w A : Mm) (s t u v : Int) : Prop := ∃ c σ G, RNX p c σ G μ f ρ w0 A0 w A s t u v
section RNP
variable {p : RP} {w w' w0 A A' A0 ρ : Mm} {μ : MU} {f q a b cc r s t u v k l S P M : Int} {c σ σ' : Int → Int} {G : Int → Int → Int} {L : List Int}
theorem lvS_app (h : A 122 μ.1 0 ≤ A 120 μ.1 0) (h1 : A 120 μ.1 0 ≤ A' 120 μ.1 0) (h2 : A' 122 μ.1 0 = A 122 μ.1 0) (e : ∀ k, k < A 120 μ.1 0 → σ' k = σ k) : lvS σ μ A ++ (rng (A' 120 μ.1 0 - A 120 μ.1 0).toNat (A 120 μ.1 0)).map σ' = lvS σ' μ A' := by
  unfold lvS
  rw [h2, show (A' 120 μ.1 0 - A 122 μ.1 0).toNat = (A 120 μ.1 0 - A 122 μ.1 0).toNat + (A' 120 μ.1 0 - A 120 μ.1 0).toNat by omega, rng_app, List.map_append, show A 122 μ.1 0 + ((A 120 μ.1 0 - A 122 μ.1 0).toNat : Int) = A 120 μ.1 0 by omega]
  congr 1
  exact List.map_congr_left fun i hi => (e i (by have := rng_mem.mp hi; omega)).symm
theorem lvS_len : ((lvS σ μ A).length : Int) = if A 122 μ.1 0 ≤ A 120 μ.1 0 then A 120 μ.1 0 - A 122 μ.1 0 else 0 := by
  unfold lvS; rw [List.length_map, rng_len]; split <;> omega
theorem LO.slb (h : LO A A') (hb : 1 ≤ b) : SLb b A A' := fun k j x y z _ => h.1 k 0 j x y (by
  have h1 : 0 ≤ st0 k := by unfold st0; split <;> (try split) <;> (try split) <;> (try split) <;> (try split) <;> omega
  have : 1 * st0 k ≤ b * st0 k := Int.mul_le_mul_of_nonneg_right hb h1
  omega)
/-- what is kept lies among the live steps -/
theorem RNX.lk (h : RNX p c σ G μ f ρ w0 A0 w A s t u v) : ∀ x ∈ lvK σ μ A 3, pc_ (pU p c σ G) x ≤ -1 := by
  obtain ⟨h1, ⟨h2, -⟩, ⟨-, h3, -⟩, -⟩ := h
  have hl := h2.b0.1
  intro x hx
  obtain ⟨i, hi, rfl⟩ := List.mem_map.mp hx
  have hi := rng_mem.mp hi
  have := (h1.2.2.2 i (by omega) (by omega)).1.2
  have e : pc_ (pU p c σ G) (σ i) = -(i + 1) := this
  omega
theorem RNX.does (h : RNX p c σ G μ f ρ w0 A0 w A s t u v) (hB : LB μ S P A) (hP : P ≤ 519900) (h3 : SB 3 A) (hb : bB (m_does μ cc a b A).2) (hv : CV cc a b) (hcc : cc ≤ 14) (hp : PFR (pU p c σ G) μ f (lvS σ μ A) w A cc a b r w') :
    RNS p μ f ρ w0 A0 w' (m_does μ cc a b A).2 s t u v := by
  have hlk := h.lk
  obtain ⟨h1, ⟨hl1, hl2⟩, ⟨hs1, hs2, hs3⟩, ht, ⟨hu, hc⟩, hk1, hk2, hk3⟩ := h
  obtain ⟨-, ⟨c2, σ2, G2, r1, r2, r3, ⟨r4, r5⟩, r6⟩, -⟩ := hp
  have hlo := LO.does hB hv hcc
  have hap : AP μ A (m_does μ cc a b A).2 := AP.does
  obtain ⟨A', hA'⟩ : ∃ A', A' = (m_does μ cc a b A).2 := ⟨_, rfl⟩
  have r3 : ∀ k, k < A 120 μ.1 0 → σ2 k = σ k ∧ G2 k = G k := r3
  have r4 : UPd c (SDb 10 (A 122 μ.1 0)) w w' := r4
  have r5 : CXt w c c2 := r5
  have hN := hB.2.2.2.2
  have hG : Gok μ G G2 A (m_does μ cc a b A).2 := ⟨fun k k0 k1 => (r3 k k1).2, r6⟩
  have hLV := hl1.does (by have := hN.2; omega) hB.1 hB.2.1 hv hcc hb hG
  rw [← hA'] at hlo hap hLV r1 r2 hb ⊢
  have e122 : A' 122 μ.1 0 = A 122 μ.1 0 := hlo.2 _ _ _ (by decide) (by decide)
  have e123 : A' 123 μ.1 0 = A 123 μ.1 0 := hlo.2 _ _ _ (by decide) (by decide)
  have e214 : A' 214 0 3 = A 214 0 3 := hlo.2 _ _ _ (by decide) (by decide)
  have e215 : A' 215 0 3 = A 215 0 3 := hlo.2 _ _ _ (by decide) (by decide)
  have hl := hl1.b0.1
  have hf := h1.1.2.1.1
  have hd3 := h1.1.2.2.1.2.2
  have hstl := h1.1.2.2.2.2.2.1
  have hst := SDb.std (lo := A 122 μ.1 0) (b0 := 10) (Or.inl rfl)
  have e43 : w' 43 f 0 = w 43 f 0 := ed_fr hf r4 hst hl.1 (by decide)
  have e50 : w' 50 f 0 = w 50 f 0 := ed_fr hf r4 hst hl.1 (by decide)
  have g86 : ∀ k : Nat, w' k (w 50 f 0) 0 = w k (w 50 f 0) 0 := fun k => r4.g (by have := hstl.1; omega) hstl.2 (fun z => by unfold SDb at z; omega)
  refine ⟨c2, σ2, G2, ?_, ⟨hLV, ?_⟩, ⟨?_, by rw [e122, e214]; omega, by rw [e215]; have := hap.2.1; omega⟩, by rw [e50, g86 80, g86 81, g86 82, g86 83]; exact ht, ⟨?_, ?_⟩, fun k hk => ?_, by omega, by rw [e122]; exact hk3⟩
  · have q := lvS_app (σ' := σ2) (A' := A') hl.2 r2 e122 (fun k hk => (r3 k hk).1)
    rw [← q]; exact r1
  · exact hl2.keepR (by decide) h3 (hlo.slb (by decide)) e214 e215 e122 e123 (fun j j0 j1 => hap.2.2.1 j j0 (by omega)) (fun j j0 j1 => hap.2.2.2 j j0 (by omega)) hb hLV.b0.2.2.1 (fun r => hlo.2 _ _ _ (by decide) (by decide)) (fun k k0 k1 => (r3 k (by omega)).2)
  · rw [e43]
    have q : lvK σ2 μ A' 3 = lvK σ μ A 3 := by
      unfold lvK; rw [e214, e122]
      exact List.map_congr_left fun i hi => (r3 i (by have := rng_mem.mp hi; omega)).1
    rw [q]
    exact hs1.frL hd3.1 hd3.2 (Or.inr rfl) (by decide) h3.2.2.2.2.1 r4 r5 (fun b' k x y z => by unfold SDb at z; omega) (fun k z => by unfold SDb at z; omega) hlk (fun b x z => by unfold SDb at z; omega) (hlo.slb (by decide))
  · exact hu.trans hc (r4.mono fun b k z => Or.inl (by rw [← hk3]; exact z))
  · intro x hx
    rw [r5 x (by rw [hu.t hx (Or.inl rfl)]; exact hx)]; exact hc x hx
  · obtain ⟨m1, m2⟩ := r3 k (by omega)
    obtain ⟨n1, n2⟩ := hk1 k hk
    exact ⟨m1.trans n1, m2.trans n2⟩
end RNP
