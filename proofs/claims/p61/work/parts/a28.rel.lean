/-! settling: how the class's loop ends -/
def STok (p : RP) (μ : MU) (f : Int) (L : List Int) (w A ρ : Mm) (N : Int × Mm) (w' : Mm) : Prop :=
  N.1 = 1 ∧ ∃ c σ G, RLm (pU p c σ G) μ f (L ++ (rng (N.2 120 μ.1 0 - A 120 μ.1 0).toNat (A 120 μ.1 0)).map σ) w' N.2 ∧ (A 120 μ.1 0 ≤ N.2 120 μ.1 0 ∧ N.2 120 μ.1 0 ≤ A 120 μ.1 0 + 8) ∧ (∀ k, k < A 120 μ.1 0 → σ k = ps_ p k ∧ G k = pg_ p k) ∧ (UPd (pc_ p) (SSe (A 122 μ.1 0)) w w' ∧ CXt w (pc_ p) c) ∧
    LIV μ G ρ N.2 ∧ (LB μ 30000 520000 N.2 ∧ AgO μ A N.2 ∧ N.2 121 μ.1 0 = A 121 μ.1 0 ∧ (∀ i, N.2 232 0 i = A 232 0 i) ∧ (∀ k, 0 ≤ k → k < A 120 μ.1 0 → N.2 212 0 k = A 212 0 k) ∧ ∀ (c : Nat) (i : Int), (200 ≤ c ∧ c ≤ 210 ∧ st0 c ≤ i) ∨ c = 214 ∨ c = 215 → N.2 c 0 i = A c 0 i)
def STno (p : RP) (μ : MU) (f : Int) (L : List Int) (w A : Mm) (N : Int × Mm) (w' : Mm) : Prop :=
  N.1 = 0 ∧ ∃ c σ G A9, RLm (pU p c σ G) μ f (L ++ (rng 8 (A 120 μ.1 0)).map σ) w' A9 ∧ A9 120 μ.1 0 = A 120 μ.1 0 + 8 ∧ (∀ k, k < A 120 μ.1 0 → σ k = ps_ p k ∧ G k = pg_ p k) ∧ (UPd (pc_ p) (SSe (A 122 μ.1 0)) w w' ∧ CXt w (pc_ p) c) ∧
    (AgO μ A A9 ∧ LB μ 30000 520000 A9 ∧ (∀ (c : Nat) (a i : Int), c ≠ 200 → c ≠ 212 → c ≠ 120 → A9 c a i = N.2 c a i) ∧ (∀ k, 0 ≤ k → k < A 120 μ.1 0 → A9 212 0 k = A 212 0 k) ∧ (∀ (c : Nat) (i : Int), (200 ≤ c ∧ c ≤ 210 ∧ st0 c ≤ i) ∨ c = 214 ∨ c = 215 → A9 c 0 i = A c 0 i) ∧ (∀ i, 400 ≤ i → A9 200 0 i = N.2 200 0 i) ∧ ∀ k, 0 ≤ k → k < A 120 μ.1 0 → N.2 212 0 k = A 212 0 k)
section STE
variable {p : RP} {w W wj A : Mm} {μ : MU} {f q g x j l v : Int} {L : List Int} {ρ : Mm} {N : Int × Mm}
theorem STj.none (h : STj p μ f L w A ρ N j wj) (hj : 0 ≤ j ∧ j < 8) (hb28 : ∀ j, 0 ≤ j → j < 3 → A 228 0 j = 0 ∨ A 228 0 j = 1) (e1 : l_ff wj (wj 46 f 0) (wj 11 (wj 41 f 0) 0) 3 0 (-1) = -1) : STok p μ f L w A ρ N wj := by
  obtain ⟨c, σ, G, Aj, h1, h2, h3, hu, h4, h5, ⟨b1, b2, b3, b4, b5, b6⟩, h6, -⟩ := h
  have el : m_ff Aj = -1 := (ff_eq h1 (fun j a b => by rw [b2.2 228 j (by omega)]; exact hb28 j a b)).symm.trans e1
  have eN : N = (1, Aj) := by
    rw [h6 (by omega), show (8 - j).toNat = (8 - (j + 1)).toNat + 1 by omega]
    show (if m_ff Aj = -1 then (1, Aj) else _) = _
    rw [if_pos el]
  rw [eN]
  refine ⟨rfl, c, σ, G, ?_, by show _ ≤ Aj 120 μ.1 0 ∧ Aj 120 μ.1 0 ≤ _; omega, h3, hu, h5, b1, b2, b3, b4, b5, b6⟩
  rw [show (Aj 120 μ.1 0 - A 120 μ.1 0).toNat = j.toNat by omega]; exact h1
theorem STj.done (h : STj p μ f L w A ρ N 8 wj) (h0 : RLm p μ f L w A) (hl : 0 ≤ A 122 μ.1 0 ∧ A 122 μ.1 0 ≤ A 120 μ.1 0) : STno p μ f L w A N (cpA wj (wj 20 (w 46 f 0) 0) (wj 19 (w 46 f 0) 0) 0 0 8) := by
  have q0 := h.eqs h0 hl.1
  obtain ⟨c, σ, G, Aj, h1, h2, h3, ⟨hu, hc⟩, h4, h5, ⟨b1, b2, b3, b4, b5, b6⟩, -, h6⟩ := h
  obtain ⟨q, v, B, hq4, hB, hN⟩ := h6 rfl
  have hLw := h0.2.1.1
  have e20 : wj 20 (w 46 f 0) 0 = w 20 (w 46 f 0) 0 := q0.2.2.2 20 (by decide)
  have e19 : wj 19 (w 46 f 0) 0 = w 19 (w 46 f 0) 0 := q0.2.2.2 19 (by decide)
  rw [e20, e19]
  have c50 : c (w 19 (w 46 f 0) 0) = 50 := (hc _ (by have := hLw.1.2.1.2.2.2.2.1; omega)).trans hLw.2.2.2.2.2.2.1
  have hlj : 0 ≤ Aj 122 μ.1 0 ∧ Aj 122 μ.1 0 ≤ Aj 120 μ.1 0 := by rw [b2.1 122 (by decide) (by decide) (by decide), h2]; omega
  obtain ⟨A9, hA9⟩ : ∃ A9, A9 = fl Aj 232 0 8 (fun k => Aj 233 0 (k + 1)) := ⟨_, rfl⟩
  have a9 : ∀ {c : Nat} {a i : Int}, c ≠ 232 → A9 c a i = Aj c a i := fun z => by rw [hA9, fl_at z]
  have hg : AgO μ Aj A9 := ⟨fun c _ _ _ => a9 (by omega), fun c i z => a9 (by omega)⟩
  have k := h1.act (A' := A9) (W := cpA wj (w 20 (w 46 f 0) 0) (w 19 (w 46 f 0) 0) 0 0 8) hlj (by
      unfold cpA; exact UPd.refl.sF (by decide) (Or.inr ⟨Or.inl c50, rfl⟩)) (fun a => cpA_k (by decide)) hg (a9 (by decide)) (fun k _ _ => a9 (by decide)) (fun c j z1 z2 => a9 (by omega)) (fun i i0 i1 => by
      rw [q0.1 46 (by decide), e19]
      unfold cpA
      rw [flA_v, if_pos (by omega), hA9, fl_v, if_pos (by omega), show i - 0 + 0 = i by omega]
      exact h4 i i0 i1)
  rw [hN]
  refine ⟨rfl, c, σ, G, A9, k, by rw [a9 (by decide), h2], h3, ⟨?_, hc⟩, ⟨b2.trans hg, b1.cng (fun c a i z => a9 (by omega)), fun c a i z1 z2 z3 => ?_, fun k z1 z2 => by rw [a9 (by decide)]; exact b5 k z1 z2, fun c i z => by rw [a9 (by omega)]; exact b6 c i z, fun i z => ?_, fun k z1 z2 => ?_⟩⟩
  · unfold cpA; exact hu.sF (by decide) (Or.inr (Or.inr ⟨Or.inl hLw.2.2.2.2.2.2.1, rfl⟩))
  · show A9 c a i = fl B 232 0 8 (fun k => B 233 0 (k + 1)) c a i
    rw [hA9, hB]
    by_cases y : c = 232
    · subst y
      have hf : (fun k => m_rep μ q v B 233 0 (k + 1)) = fun k => B 233 0 (k + 1) := by funext k; exact rep_o (by decide)
      rw [hf]
      unfold fl
      rw [rep_o (by decide)]
    · rw [fl_at y, fl_at y, rep_o ⟨z2, z3, z1⟩]
  · have hq' : Aj 201 0 0 ≤ 400 := b1.1.1.2
    have e200 : Aj 200 0 i = B 200 0 i := by rw [hB, rep_200, if_neg (by omega)]
    show A9 200 0 i = fl B 232 0 8 (fun k => B 233 0 (k + 1)) 200 0 i
    rw [a9 (by decide), fl_at (by decide)]; exact e200
  · show fl B 232 0 8 (fun k => B 233 0 (k + 1)) 212 0 k = _
    rw [fl_at (by decide), ← b5 k z1 z2, hB, rep_212]
    have h120 : Aj 120 μ.1 0 = B 120 μ.1 0 + 1 := by rw [hB, rep_120]
    rw [if_neg (by omega)]
/-- what a round of the loop meets -/
theorem STj.rng (h : STj p μ f L w A ρ N j wj) (hb28 : ∀ j, 0 ≤ j → j < 3 → A 228 0 j = 0 ∨ A 228 0 j = 1) (hb30 : bOt A) (e1 : l = l_ff wj (wj 46 f 0) (wj 11 (wj 41 f 0) 0) 3 0 (-1)) (e2 : l ≠ -1) (e3 : q = fnd (fun i => wj 1 (wj 28 (wj 11 (wj 41 f 0) 0) 0) i) (wj 1 (wj 16 (wj 46 f 0) 0) l) (wj 67 (wj 11 (wj 41 f 0) 0) 0).toNat 0) :
    (0 ≤ l ∧ l ≤ 2) ∧ (0 ≤ q ∧ q < wj 67 (wj 11 (wj 41 f 0) 0) 0) ∧ (0 ≤ wj 1 (wj 17 (wj 46 f 0) 0) l ∧ wj 1 (wj 17 (wj 46 f 0) 0) l ≤ 126) := by
  obtain ⟨c, σ, G, Aj, h1, h2, h3, hu, h4, h5, ⟨b1, b2, b3, b4, b5, b6⟩, h6, -⟩ := h
  have el : l = m_ff Aj := e1.trans (ff_eq h1 (fun j a b => by rw [b2.2 228 j (by omega)]; exact hb28 j a b))
  have hff : 0 ≤ l ∧ l ≤ 2 := by rcases ff_rng (w := Aj) with k | k <;> omega
  have hv := h1.2.1.2.1 l hff.1 (by omega)
  have hlow := h1.low
  have hb := b1.1.1
  have hb : 0 ≤ Aj 201 0 0 ∧ Aj 201 0 0 ≤ 400 := hb
  have eq : q = m_pof (Aj 229 0 l) Aj := by
    rw [e3, hv.2.1, hlow.2.2.2.1]
    unfold m_pof
    exact fnd_cgr _ _ fun i i0 i1 => h1.txt i0 (by omega)
  have hq1 : q ≠ -1 := by rw [eq, el]; exact ff_pof (by rw [← el]; exact e2)
  refine ⟨hff, ?_, ?_⟩
  · rcases fnd_spec (fun i => wj 1 (wj 28 (wj 11 (wj 41 f 0) 0) 0) i) (wj 1 (wj 16 (wj 46 f 0) 0) l) (wj 67 (wj 11 (wj 41 f 0) 0) 0).toNat 0 with ⟨k1, -⟩ | ⟨k1, k2, -⟩
    · exact absurd (e3.trans k1) hq1
    · rw [e3, hlow.2.2.2.1] at *; omega
  · rw [hv.2.2.1, b2.2 230 l (by omega)]; exact hb30 l hff.1 (by omega)
end STE
