/-! a run: checkpoint, failure, the trial's numbers, going back -/
section RNQ
variable {p : RP} {w w' w0 A A' A0 ρ : Mm} {μ : MU} {f q a b cc r s t s' t' u v u' v' k l S P M : Int} {c σ σ' : Int → Int} {G : Int → Int → Int} {L : List Int}
theorem EQv.s0 (hE : bEl 0 A) (hC : bC 0 A) (hL : bL1 0 A) (e : ∀ (k : Nat) (i : Int), 200 ≤ k → k ≤ 206 → 0 ≤ i → i < st0 k → A' k 0 i = A k 0 i) : EQv TA 0 0 A A' := by
  obtain ⟨t200, t201, t202, t203, t204, t205, t206⟩ := st0_v
  have hL : 0 ≤ A 201 0 0 ∧ A 201 0 0 ≤ 400 := hL
  refine ⟨(e 201 _ (by decide) (by decide) (by decide) (by decide)).symm, fun i i0 i1 => (e 200 _ (by decide) (by decide) (by omega) (by omega)).symm, fun i i0 i1 => ⟨(e 202 _ (by decide) (by decide) (by omega) (by omega)).symm, fun _ => (e 203 _ (by decide) (by decide) (by omega) (by omega)).symm⟩, fun r r0 r1 _ => ?_⟩
  have h4 := hC (5 * 0 + r) (by omega) (by omega)
  refine ⟨(e 204 _ (by decide) (by decide) (by omega) (by omega)).symm, fun x x0 x1 => ?_⟩
  have h5 := hE (20 * 0 + 4 * r + x) (by omega) (by omega)
  exact ⟨(e 205 _ (by decide) (by decide) (by omega) (by omega)).symm, fun i i0 i1 => (e 206 _ (by decide) (by decide) (by omega) (by omega)).symm⟩
theorem RNX.cg (h : RNX p c σ G μ f ρ w0 A0 w A s t u v) (hE : bEl 0 A) (h3 : SB 3 A) (e : ∀ (c : Nat) (x i : Int), c ≠ 134 → c ≠ 135 → (c < 237 ∨ 239 < c) → A' c x i = A c x i) : RNX p c σ G μ f ρ w0 A0 w A' s t u v := by
  obtain ⟨h1, ⟨hl1, hl2⟩, ⟨hs1, hs2, hs3⟩, ht, hu, hk1, hk2, hk3⟩ := h
  have e' : ∀ {c : Nat} {x i : Int}, c ≠ 134 → c ≠ 135 → (c < 237 ∨ 239 < c) → A' c x i = A c x i := fun x y z => e _ _ _ x y z
  have e120 : A' 120 μ.1 0 = A 120 μ.1 0 := e' (by decide) (by decide) (by decide)
  have e122 : A' 122 μ.1 0 = A 122 μ.1 0 := e' (by decide) (by decide) (by decide)
  have e214 : A' 214 0 3 = A 214 0 3 := e' (by decide) (by decide) (by decide)
  have hl := hl1.b0.1
  have hb : bB A' := hl1.b0.2.2.2.cong fun i => e' (by decide) (by decide) (by decide)
  have hLS : lvS σ μ A' = lvS σ μ A := by unfold lvS; rw [e120, e122]
  have hLK : lvK σ μ A' 3 = lvK σ μ A 3 := by unfold lvK; rw [e214, e122]
  have q1 := h1.cA hl hE (AgO.of fun c x i z => e' (by omega) (by omega) (by omega)) (fun i => e' (by decide) (by decide) (by decide)) e120 (fun k _ _ => e' (by decide) (by decide) (by decide)) (fun c i z1 z2 _ _ => e' (by omega) (by omega) (by omega))
  refine ⟨by rw [hLS]; exact q1, ⟨hl1.cg hb fun c x i z => e' (by omega) (by omega) (by omega), hl2.keepR (by decide) h3 (fun k j x y _ _ => e' (by omega) (by omega) (by omega)) e214 (e' (by decide) (by decide) (by decide)) e122 (e' (by decide) (by decide) (by decide)) (fun j _ _ => e' (by decide) (by decide) (by decide)) (fun j _ _ => pby_cong (e' (by decide) (by decide) (by decide))) hb (hl1.b0.2.2.1.cong fun i => e' (by decide) (by decide) (by decide)) (fun r => e' (by decide) (by decide) (by decide)) (fun _ _ _ => rfl)⟩, ⟨?_, by rw [e122, e214, e120]; exact hs2, by rw [e' (c := 215) (by decide) (by decide) (by decide), e' (c := 121) (by decide) (by decide) (by decide)]; exact hs3⟩, ht, hu, hk1, by rw [e120]; exact hk2, by rw [e122]; exact hk3⟩
  rw [hLK]
  exact ⟨hs1.1.cgV (fun k j x y => e' (by omega) (by omega) (by omega)), hs1.2⟩
/-- only the trial's numbers change -/
theorem RNX.trl (h : RNX p c σ G μ f ρ w0 A0 w A s t u v) (h3 : SB 3 A) (hu80 : UPd c (fun b k => b = 86 ∧ 80 ≤ k ∧ k ≤ 83) w w') (h0 : ∀ a, w' 0 a 0 = w 0 a 0) (h80 : w' 80 (w 50 f 0) 0 = s') (h81 : w' 81 (w 50 f 0) 0 = t') (h82 : w' 82 (w 50 f 0) 0 = u') (h83 : w' 83 (w 50 f 0) 0 = v') : RNX p c σ G μ f ρ w0 A0 w' A s' t' u' v' := by
  have hlk := h.lk
  have hu86 : UPd c (fun b _ => b = 86) w w' := hu80.mono fun b k z => z.1
  obtain ⟨h1, hl1, ⟨hs1, hs2⟩, ht, ⟨hu, hc⟩, hk⟩ := h
  have hl := hl1.1.b0.1
  have hf := h1.1.2.1.1
  have hd3 := h1.1.2.2.1.2.2
  have hst : ∀ (b : Int) (k : Nat), b = 86 → STd (A 122 μ.1 0) b k := fun b k z => by unfold STd; omega
  have e43 : w' 43 f 0 = w 43 f 0 := ed_fr hf hu86 hst hl.1 (by decide)
  have e50 : w' 50 f 0 = w 50 f 0 := ed_fr hf hu86 hst hl.1 (by decide)
  refine ⟨h1.w86 hl hu86 h0, hl1, ⟨?_, hs2⟩, by rw [e50]; exact ⟨h80, h81, h82, h83⟩, ⟨?_, hc⟩, hk⟩
  · rw [e43]
    exact hs1.frL (c := c) (σ := σ) (G := G) hd3.1 hd3.2 (Or.inr rfl) (by decide) h3.2.2.2.2.1 hu86 CXt.refl (fun b' k x y => by omega) (fun k => by omega) hlk (fun b x => by omega) (fun k j _ _ _ _ => rfl)
  · exact hu.trans hc (hu80.mono fun b k z => Or.inr (Or.inr z))
/-- a checkpoint -/
theorem RNX.chk (h : RNX p c σ G μ f ρ w0 A0 w A s t u v) (hB : LB μ S P A) (hp : ∃ W, TM (w 11 (w 43 f 0) 0) (w 11 (w 41 f 0) 0) w W ∧ w' = q_ext (w 12 (w 43 f 0) 0) (w 12 (w 41 f 0) 0) (d_copy (w 43 f 0) (w 41 f 0) (t_all (w 11 (w 43 f 0) 0) (w 11 (w 41 f 0) 0) 8 W) 4)) : RNX p c σ G μ f ρ w0 A0 w' (m_saves μ 3 A) s t u v := by
  obtain ⟨h1, ⟨hl1, hl2⟩, ⟨hs1, hs2⟩, ht, ⟨hu, hc⟩, hk1, hk2, hk3⟩ := h
  have hl := hl1.b0.1
  have hSB := hB.1
  have hf := h1.1.2.1.1
  have hstl := h1.1.2.2.2.2.2.1
  have hd3 := h1.1.2.2.1.2.2.1
  obtain ⟨r1, r2, r3, r4⟩ := h1.saveP hl hSB.2.2.2.2.1 hSB.1.2 (Or.inr ⟨rfl, rfl, rfl⟩) hp
  have hst := SDb.std (lo := A 122 μ.1 0) (b0 := 30) (Or.inr (Or.inr rfl))
  have r4 : UPd c (SDb 30 (A 122 μ.1 0)) w w' := r4
  have e43 : w' 43 f 0 = w 43 f 0 := ed_fr hf r4 hst hl.1 (by decide)
  have e50 : w' 50 f 0 = w 50 f 0 := ed_fr hf r4 hst hl.1 (by decide)
  have e12 : w' 12 (w 43 f 0) 0 = w 12 (w 43 f 0) 0 := r4.g (by have := hd3.1.1; omega) hd3.1.2 (fun z => by unfold SDb at z; omega)
  have g86 : ∀ k : Nat, w' k (w 50 f 0) 0 = w k (w 50 f 0) 0 := fun k => r4.g (by have := hstl.1; omega) hstl.2 (fun z => by unfold SDb at z; omega)
  have e : ∀ {c : Nat} {x i : Int}, c < 200 ∨ (210 < c ∧ c ≠ 214 ∧ c ≠ 215) → m_saves μ 3 A c x i = A c x i := fun z => saves_at z
  have e120 : m_saves μ 3 A 120 μ.1 0 = A 120 μ.1 0 := e (by decide)
  have e122 : m_saves μ 3 A 122 μ.1 0 = A 122 μ.1 0 := e (by decide)
  have e214 : m_saves μ 3 A 214 0 3 = A 120 μ.1 0 := saves_214.1
  have e215 : m_saves μ 3 A 215 0 3 = A 121 μ.1 0 := saves_214.2
  have hLS : lvS σ μ (m_saves μ 3 A) = lvS σ μ A := by unfold lvS; rw [e120, e122]
  have hLK : lvK σ μ (m_saves μ 3 A) 3 = lvS σ μ A := by unfold lvK lvS; rw [e214, e122]
  refine ⟨by rw [hLS]; exact r1, ⟨?_, hl1.savR (by decide) hSB⟩, ⟨?_, by rw [e122, e214, e120]; omega, by rw [e215, e (c := 121) (by decide)]; exact Int.le_refl _⟩, by rw [e50, g86 80, g86 81, g86 82, g86 83]; exact ht, ⟨hu.trans hc (r4.mono fun b k z => Or.inr (Or.inl (by rw [← hk3]; exact z))), hc⟩, hk1, by rw [e120]; exact hk2, by rw [e122]; exact hk3⟩
  · refine hl1.keep e120 (e (by decide)) e122 (e (by decide)) (fun j _ _ => e (by decide)) (fun j _ _ => pby_cong (e (by decide))) (hl1.b0.2.2.2.cong fun i => e (by decide)) (hl1.b0.2.2.1.cong fun i => e (by decide)) (fun r => e (by decide)) ((EQv.s0 hSB.2.2.2.2.1 hSB.2.2.2.1 hSB.1 fun k i x y i0 i1 => ?_).mono fun _ _ _ _ => trivial)
    rw [saves_cpy k i x (by omega)]
    exact cpy_o ⟨x, by omega⟩ (Or.inl (by omega)) hSB.1.2
  · rw [hLK, e43]
    exact ⟨r2, by rw [e12]; exact r3⟩
/-- a run that failed: back to the checkpoint -/
theorem RNX.bck (h : RNX p c σ G μ f ρ w0 A0 w A s t u v) (hB : LB μ S P A) (h3 : SB 3 A) (hp : ∃ W, TM (w 11 (w 41 f 0) 0) (w 11 (w 43 f 0) 0) w W ∧ w' = q_ext (w 12 (w 41 f 0) 0) (w 12 (w 43 f 0) 0) (d_copy (w 41 f 0) (w 43 f 0) (t_tk (w 11 (w 41 f 0) 0) (w 11 (w 43 f 0) 0) (w 44 f 0) 8 W) 4)) :
    RLm (pU p c σ G) μ f (lvS σ μ (m_rest μ 3 0 A)) w' (m_rest μ 3 0 A) ∧ LIV μ G ρ (m_rest μ 3 0 A) ∧ UPd (pc_ p) (SRn (A0 122 μ.1 0)) w0 w' := by
  obtain ⟨h1, ⟨hl1, hl2⟩, ⟨hs1, hs2, hs3⟩, ht, ⟨hu, hc⟩, hk1, hk2, hk3⟩ := h
  have hl := hl1.b0.1
  have hSB := hB.1
  have e122 : m_rest μ 3 0 A 122 μ.1 0 = A 122 μ.1 0 := rest_at (by omega)
  have e120 : m_rest μ 3 0 A 120 μ.1 0 = A 214 0 3 := rest_120.1
  have hLK : lvS σ μ (m_rest μ 3 0 A) = lvK σ μ A 3 := by unfold lvS lvK; rw [e120, e122]
  have hsp : lvS σ μ A = lvK σ μ A 3 ++ (rng (A 120 μ.1 0 - A 214 0 3).toNat (A 214 0 3)).map σ := by
    unfold lvS lvK
    rw [show (A 120 μ.1 0 - A 122 μ.1 0).toNat = (A 214 0 3 - A 122 μ.1 0).toNat + (A 120 μ.1 0 - A 214 0 3).toNat by omega, rng_app, List.map_append, show A 122 μ.1 0 + ((A 214 0 3 - A 122 μ.1 0).toNat : Int) = A 214 0 3 by omega]
  have hnd : (lvK σ μ A 3).Nodup := by
    unfold lvK
    have hinj : ∀ i j, 0 ≤ i → i < A 120 μ.1 0 → 0 ≤ j → j < A 120 μ.1 0 → σ i = σ j → i = j := fun i j i0 i1 j0 j1 e => by
      have a1 : c (σ i) = -(i + 1) := (h1.2.2.2 i i0 i1).1.2
      have a2 : c (σ j) = -(j + 1) := (h1.2.2.2 j j0 j1).1.2
      rw [e] at a1; omega
    have key : ∀ (n : Nat) (i : Int), 0 ≤ i → i + n ≤ A 120 μ.1 0 → ((rng n i).map σ).Nodup := by
      intro n
      induction n with
      | zero => intro i _ _; exact List.nodup_nil
      | succ n ih =>
        intro i i0 i1
        simp only [rng, List.map_cons, List.nodup_cons]
        refine ⟨fun hm => ?_, ih (i + 1) (by omega) (by omega)⟩
        obtain ⟨j, hj, e⟩ := List.mem_map.mp hm
        have := rng_mem.mp hj
        have := hinj j i (by omega) (by omega) (by omega) (by omega) e
        omega
    exact key _ _ hl.1 (by omega)
  rw [hsp] at h1
  obtain ⟨r1, r2⟩ := h1.backP hl hSB.2.2.2.2.1 h3.2.2.2.2.1 hB.2.2.2.1 (Or.inr ⟨rfl, rfl, rfl⟩) hs1.1 hs1.2 hnd hs2.2 hp
  refine ⟨by rw [hLK]; exact r1, hl2, hu.trans hc (UPd.mono r2 fun b k z => Or.inl (by rw [← hk3]; exact z))⟩
end RNQ
