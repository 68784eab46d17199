/-! a run: what holds between its commands -/
section RNX
variable {p : RP} {S : Int → Nat → Prop} {w w' w0 V A A' A0 : Mm} {μ : MU} {f q d b b0 a lo i r s t k v l : Int} {c σ : Int → Int} {G : Int → Int → Int} {L L1 M : List Int} {ρ : Mm}
theorem vDk.cgL (h : vDk c w d V a) (ha : 1 ≤ a) (hB : bDk w d) (hE : bEl a V) (e : SLb a V A') : vDk c w d A' a := by
  obtain ⟨⟨⟨h1, h2, h3, h4⟩, hs⟩, h5, h6, h7⟩ := h
  obtain ⟨t200, t201, t202, t203, t204, t205, t206⟩ := st0_v
  have t0 : st0 207 = 1 ∧ st0 208 = 4 ∧ st0 209 = 4 ∧ st0 210 = 1 := by decide
  obtain ⟨t207, t208, t209, t210⟩ := t0
  have hB1 := hB.1
  have e0 : ∀ {j : Int}, 400 * a ≤ j → j < 400 * a + 400 → A' 200 0 j = V 200 0 j := fun x y => e 200 _ (by decide) (by decide) (by rw [t200]; omega) (by rw [t200]; omega)
  have e1 : A' 201 0 a = V 201 0 a := e 201 _ (by decide) (by decide) (by rw [t201]; omega) (by rw [t201]; omega)
  have e2 : ∀ {j : Int}, 6 * a ≤ j → j < 6 * a + 6 → A' 202 0 j = V 202 0 j := fun x y => e 202 _ (by decide) (by decide) (by rw [t202]; omega) (by rw [t202]; omega)
  have e3 : ∀ {j : Int}, 6 * a ≤ j → j < 6 * a + 6 → A' 203 0 j = V 203 0 j := fun x y => e 203 _ (by decide) (by decide) (by rw [t203]; omega) (by rw [t203]; omega)
  have e4 : ∀ {j : Int}, 5 * a ≤ j → j < 5 * a + 5 → A' 204 0 j = V 204 0 j := fun x y => e 204 _ (by decide) (by decide) (by rw [t204]; omega) (by rw [t204]; omega)
  have e5 : ∀ {j : Int}, 20 * a ≤ j → j < 20 * a + 20 → A' 205 0 j = V 205 0 j := fun x y => e 205 _ (by decide) (by decide) (by rw [t205]; omega) (by rw [t205]; omega)
  have e6 : ∀ {j : Int}, 400 * a ≤ j → j < 400 * a + 400 → A' 206 0 j = V 206 0 j := fun x y => e 206 _ (by decide) (by decide) (by rw [t206]; omega) (by rw [t206]; omega)
  have e7 : A' 207 0 a = V 207 0 a := e 207 _ (by decide) (by decide) (by rw [t207]; omega) (by rw [t207]; omega)
  have e8 : ∀ {j : Int}, 4 * a ≤ j → j < 4 * a + 4 → A' 208 0 j = V 208 0 j := fun x y => e 208 _ (by decide) (by decide) (by rw [t208]; omega) (by rw [t208]; omega)
  have e9 : ∀ {j : Int}, 4 * a ≤ j → j < 4 * a + 4 → A' 209 0 j = V 209 0 j := fun x y => e 209 _ (by decide) (by decide) (by rw [t209]; omega) (by rw [t209]; omega)
  have e10 : A' 210 0 a = V 210 0 a := e 210 _ (by decide) (by decide) (by rw [t210]; omega) (by rw [t210]; omega)
  refine ⟨⟨⟨by rw [e1]; exact h1, h2, fun j j0 j1 => by rw [e0 (by omega) (by omega)]; exact h3 j j0 j1, fun j j0 j1 => by rw [e2 (by omega) (by omega), e3 (by omega) (by omega)]; exact h4 j j0 j1⟩, fun r r0 r1 => ?_⟩, by rw [e7]; exact h5, by rw [e10]; exact h6, fun j j0 j1 => by rw [e8 (by omega) (by omega), e9 (by omega) (by omega)]; exact h7 j j0 j1⟩
  have hr := hs r r0 r1
  have hm : m_slt r ≤ 4 := by unfold m_slt; split <;> omega
  refine ⟨by rw [e4 (by omega) (by omega)]; exact hr.1, fun x x0 x1 => ?_⟩
  rw [e4 (by omega) (by omega), e5 (by omega) (by omega)]
  refine ⟨fun y => ?_, (hr.2 x x0 x1).2⟩
  have h20 := hE (20 * a + 4 * r + x) (by omega) (by omega)
  obtain ⟨c1, c2, c3, c4⟩ := (hr.2 x x0 x1).1 y
  refine ⟨c1, c2, c3, fun j j0 j1 => ?_⟩
  show _ = A' 206 0 (400 * a + 80 * r + 20 * x + j)
  rw [e6 (by omega) (by omega)]; exact c4 j j0 j1
theorem SVd.frL (h : SVd p w A q a L) (hd : sDk (pc_ p) b0 w q) (hBd : bDk w q) (hb : b0 = 20 ∨ b0 = 30) (ha : 1 ≤ a) (hE : bEl a A) (u : UPd (pc_ p) S w w') (hc : CXt w (pc_ p) c) (hS : ∀ (b' : Int) (k : Nat), b0 ≤ b' → b' ≤ b0 + 8 → ¬ S b' k) (h0 : ∀ k : Nat, ¬ S 0 k) (hL : ∀ x ∈ L, pc_ p x ≤ -1) (h68 : ∀ b, b ≤ -1 → ¬ S b 68) (e : SLb a A A') : SVd (pU p c σ G) w' A' q a L := by
  have f12 : w' 12 q 0 = w 12 q 0 := u.g (by have := hd.1.1; omega) hd.1.2 (hS _ _ (by omega) (by omega))
  refine ⟨(h.1.fr hd u hc (fun b' k x y _ => hS b' k x y) h0).cgL ha (hBd.fr hd u (fun b' k x y _ => hS b' k x y)) hE e, ?_⟩
  rw [f12]
  exact h.2.fr u hd.2.2.2.1 (fun k _ => hS _ _ (by omega) (by omega)) (fun x hx => ⟨_, rfl, h68 _ (hL x hx)⟩)
/-- the relation where only the trial changes -/
theorem RLm.w86 (h : RLm p μ f L w A) (hl : 0 ≤ A 122 μ.1 0 ∧ A 122 μ.1 0 ≤ A 120 μ.1 0) (u : UPd (pc_ p) (fun b _ => b = 86) w w') (h0 : ∀ a, w' 0 a 0 = w 0 a 0) : RLm p μ f L w' A := by
  obtain ⟨hO, hLs, ⟨hV, hQ, hLc⟩, hSp⟩ := id h
  have hf := hO.2.1.1
  have ho := hO.2.2.1.1.1
  have hst : ∀ (b : Int) (k : Nat), b = 86 → STd (A 122 μ.1 0) b k := fun b k z => by unfold STd; omega
  have e41 : w' 41 f 0 = w 41 f 0 := ed_fr hf u hst hl.1 (by decide)
  have e42 : w' 42 f 0 = w 42 f 0 := ed_fr hf u hst hl.1 (by decide)
  have e43 : w' 43 f 0 = w 43 f 0 := ed_fr hf u hst hl.1 (by decide)
  have e46 : w' 46 f 0 = w 46 f 0 := ed_fr hf u hst hl.1 (by decide)
  have hD : rDk (pc_ p) w' f := by
    obtain ⟨⟨a1, a2⟩, ⟨b1, b2⟩, c1, c2⟩ := hO.2.2.1
    unfold rDk
    rw [e41, e42, e43]
    exact ⟨⟨(a1.fr u CXt.refl (fun k x y => ⟨by omega, by omega⟩)).1, a2.fr a1 u (fun b' k x y _ => by omega)⟩, ⟨(b1.fr u CXt.refl (fun k x y => ⟨by omega, by omega⟩)).1, b2.fr b1 u (fun b' k x y _ => by omega)⟩, ⟨(c1.fr u CXt.refl (fun k x y => ⟨by omega, by omega⟩)).1, c2.fr c1 u (fun b' k x y _ => by omega)⟩⟩
  have e12 : w' 12 (w 41 f 0) 0 = w 12 (w 41 f 0) 0 := u.g (by have := ho.1.1; omega) ho.1.2 (by omega)
  have g16 : ∀ k : Nat, w' k (w 12 (w 41 f 0) 0) 0 = w k (w 12 (w 41 f 0) 0) 0 := fun k => u.g (by have := ho.2.2.2.1.1; omega) ho.2.2.2.1.2 (by omega)
  have gL : ∀ (k : Nat), ∀ x ∈ L, w' k x 0 = w k x 0 := fun k x hx => u.1 k x 0 (by have := hQ.2.2.2.2 x hx; omega) (by have := hLc x hx; omega)
  refine ⟨hO.fr (c' := pc_ p) (σ' := ps_ p) (G' := pg_ p) u CXt.refl hst hl.1 AgO.refl hSp hl.2 (fun _ _ _ => rfl) (fun x hx => hO.1 x (by rw [← h0]; exact hx)) hD, ?_, ?_, fun k k0 k1 => ?_⟩
  · rw [e46]; exact hLs.fr u CXt.refl hst (fun k z => by omega) hl.1 (AgO.refl (μ := μ)) (fun _ => rfl)
  · unfold rLv
    rw [e41, e12]
    exact ⟨hV.fr ho u CXt.refl (fun b' k x y _ => by omega) (fun k => by omega), hQ.cg (g16 _) (g16 _) (g16 _) (g16 _) (fun x hx => ⟨gL 0 x hx, gL 68 x hx⟩) (gL 33), hLc⟩
  · exact (hSp k k0 k1).fr u CXt.refl (fun y hy => by omega) (fun y => by omega) rfl
end RNX
