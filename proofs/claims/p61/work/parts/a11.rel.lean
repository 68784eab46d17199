/-! steps appended one behind another -/
section RPS
variable {p : RP} {w W w1 w2 A A' A1 A2 : Mm} {μ : MU} {f x y lo : Int} {L : List Int} {P : (Int → Int) → Prop}
theorem RPF.of1 (h : RS1 p μ f L x w A w1 A1 P) (h120 : A1 120 μ.1 0 = A 120 μ.1 0 + 1) (hG : ∀ g, P g → A1 212 0 (A 120 μ.1 0) % 8 = 1 ∨ A1 212 0 (A 120 μ.1 0) % 8 = 2 → ∀ j, 0 ≤ j → j < wsz (A1 212 0 (A 120 μ.1 0)) → g j = A 200 0 (A1 212 0 (A 120 μ.1 0) / 8 % 512 + j)) : RPF p μ f L w A w1 A1 := by
  obtain ⟨c, σ, G, h1, h2, h3, h4, h5⟩ := h
  refine ⟨c, σ, G, ?_, by omega, fun k hk => h2 k (by omega), h5, fun k k0 k1 k2 => ?_⟩
  · rw [h120, show (A 120 μ.1 0 + 1 - A 120 μ.1 0).toNat = 1 by omega]
    simpa [rng, h3] using h1
  · have e : k = A 120 μ.1 0 := by omega
    subst e
    exact ⟨rfl, fun j j0 j1 => hG _ h4 k2 j j0 j1⟩
theorem RPF.pre (u0 : UPd (pc_ p) (fun _ _ => False) w W) (h : RPF p μ f L W A w1 A1) : RPF p μ f L w A w1 A1 := by
  obtain ⟨c, σ, G, h1, h2, h3, ⟨h4, h5⟩, h6⟩ := h
  exact ⟨c, σ, G, h1, h2, h3, ⟨(u0.mono fun _ _ z => z.elim).trans CXt.refl h4, fun a ha => h5 a (by rw [u0.t ha (Or.inl rfl)]; exact ha)⟩, h6⟩
/-- the same steps, other contents -/
theorem RPF.same (h : RPF p μ f L w A w1 A1) (k : ∀ p1 L1, RLm p1 μ f L1 w1 A1 → RLm p1 μ f L1 w2 A2 ∧ UPd (pc_ p1) (SDb 10 (A 122 μ.1 0)) w1 w2) (h120 : A2 120 μ.1 0 = A1 120 μ.1 0) (h212 : ∀ k, 0 ≤ k → k < A1 120 μ.1 0 → A2 212 0 k = A1 212 0 k) (h0 : 0 ≤ A 120 μ.1 0) : RPF p μ f L w A w2 A2 := by
  obtain ⟨c, σ, G, h1, h2, h3, ⟨h4, h5⟩, h6⟩ := h
  obtain ⟨k1, k2⟩ := k _ _ h1
  refine ⟨c, σ, G, by rw [h120]; exact k1, by omega, h3, ⟨h4.trans h5 k2, h5⟩, fun j j0 j1 j2 => ?_⟩
  rw [h120] at j1
  rw [h212 j (by omega) j1] at j2 ⊢
  exact h6 j j0 j1 j2
/-- one step more, which takes no characters away -/
theorem RPF.app1 (h : RPF p μ f L w A w1 A1) (k : ∀ p1 L1, RLm p1 μ f L1 w1 A1 → RS1 p1 μ f L1 y w1 A1 w2 A2 (fun _ => True)) (h122 : A1 122 μ.1 0 = A 122 μ.1 0) (h120 : A2 120 μ.1 0 = A1 120 μ.1 0 + 1) (h212 : ∀ k, 0 ≤ k → k < A1 120 μ.1 0 → A2 212 0 k = A1 212 0 k) (hk : 2 < A2 212 0 (A1 120 μ.1 0) % 8) (h0 : 0 ≤ A 120 μ.1 0) : RPF p μ f L w A w2 A2 := by
  obtain ⟨c, σ, G, h1, h2, h3, ⟨h4, h5⟩, h6⟩ := h
  obtain ⟨c2, σ2, G2, k1, k2, k3, -, k4, k5⟩ := k _ _ h1
  refine ⟨c2, σ2, G2, ?_, by omega, fun j hj => ?_, ⟨h4.trans h5 (by rw [← h122]; exact k4), h5.trans h4 k5⟩, fun j j0 j1 j2 => ?_⟩
  · have e : (rng (A2 120 μ.1 0 - A 120 μ.1 0).toNat (A 120 μ.1 0)).map σ2 = (rng (A1 120 μ.1 0 - A 120 μ.1 0).toNat (A 120 μ.1 0)).map σ ++ [y] := by
      rw [h120, show (A1 120 μ.1 0 + 1 - A 120 μ.1 0).toNat = (A1 120 μ.1 0 - A 120 μ.1 0).toNat + 1 by omega, rng_snoc, List.map_append]
      congr 1
      · exact List.map_congr_left fun i hi => (k2 i (by have := rng_mem.mp hi; omega)).1
      · simp only [List.map_cons, List.map_nil]
        rw [show A 120 μ.1 0 + ((A1 120 μ.1 0 - A 120 μ.1 0).toNat : Int) = A1 120 μ.1 0 by omega, k3]
    rw [e, ← List.append_assoc]; exact k1
  · obtain ⟨m1, m2⟩ := k2 j (by omega)
    obtain ⟨n1, n2⟩ := h3 j hj
    exact ⟨m1.trans n1, m2.trans n2⟩
  · by_cases e : j = A1 120 μ.1 0
    · rw [e] at j2; omega
    · rw [h212 j (by omega) (by omega)] at j2 ⊢
      obtain ⟨m1, m2⟩ := h6 j j0 (by omega) j2
      exact ⟨m1, fun i i0 i1 => by rw [(k2 j e).2]; exact m2 i i0 i1⟩
end RPS
