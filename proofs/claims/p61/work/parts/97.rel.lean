/-! what is not touched stays as it is -/
/-- what is touched at most: desks, links of loose steps, the answer -/
def STd (lo : Int) (b : Int) (k : Nat) : Prop := (10 ≤ b ∧ b ≤ 38) ∨ (b ≤ -(lo + 1) ∧ k = 33) ∨ (b = 1 ∧ k = 91) ∨ ((b = 50 ∨ b = 51) ∧ k = 1) ∨ b = 86
/-- the reference's numbers that only ends of calls change -/
def AgO (μ : MU) (A A' : Mm) : Prop := (∀ c : Nat, 122 ≤ c → c ≤ 133 → c ≠ 127 → A' c μ.1 0 = A c μ.1 0) ∧ ∀ (c : Nat) (i : Int), c = 211 ∨ (216 ≤ c ∧ c ≤ 225) ∨ (227 ≤ c ∧ c ≤ 231) ∨ (235 ≤ c ∧ c ≤ 236) → A' c 0 i = A c 0 i
section FRO
variable {c c' σ σ' ν al : Int → Int} {ρ : Int → Mm} {PL : Int → List Int} {S : Int → Nat → Prop} {w w' A A' : Mm} {μ : MU} {f q T b lo k m : Int}
theorem AgO.refl : AgO μ A A := ⟨fun _ _ _ _ => rfl, fun _ _ _ => rfl⟩
theorem AgO.trans {A2 : Mm} (h : AgO μ A A') (g : AgO μ A' A2) : AgO μ A A2 := ⟨fun c a b d => (g.1 c a b d).trans (h.1 c a b d), fun c i x => (g.2 c i x).trans (h.2 c i x)⟩
theorem AgO.chl (h : AgO μ A A') : m_chl μ k A' = m_chl μ k A := by
  unfold m_chl m_chF
  rw [h.1 124 (by decide) (by decide) (by decide)]
  congr 1
  funext j
  rw [h.2 216 j (by omega), h.2 217 j (by omega)]
theorem AgO.ixs (h : AgO μ A A') : ∀ L, ixN A' L = ixN A L
  | [] => rfl
  | p :: ps => by simp only [ixN]; rw [AgO.ixs h ps, h.2 220 p (by omega), h.2 218 p (by omega)]
theorem STd.no0 (hS : ∀ b k, S b k → STd lo b k) (hlo : 0 ≤ lo) (k : Nat) : ¬ S 0 k := fun h => by have := hS _ _ h; unfold STd at this; omega
theorem STd.no {b' : Int} {k' : Nat} (hS : ∀ b k, S b k → STd lo b k) (h : ¬ STd lo b' k') : ¬ S b' k' := fun x => h (hS _ _ x)
theorem STd.nb {b' : Int} (hS : ∀ b k, S b k → STd lo b k) (hlo : 0 ≤ lo) (h : (38 < b' ∧ b' ≠ 50 ∧ b' ≠ 51 ∧ b' ≠ 86) ∨ (1 < b' ∧ b' < 10)) (k' : Nat) : ¬ S b' k' := STd.no hS (by unfold STd; omega)
/-- the editor's references and numbers stay -/
theorem ed_fr (hf : w 0 f 0 = 13 ∧ c f = 1) (u : UPd c S w w') (hS : ∀ b k, S b k → STd lo b k) (hlo : 0 ≤ lo) {k : Nat} (hk : k ≠ 91) {i : Int} : w' k f i = w k f i :=
  u.g (by omega) hf.2 (STd.no hS (by unfold STd; omega))
theorem sTr.fr (h : sTr c w T) (u : UPd c S w w') (hc : CXt w c c') (hS : ∀ b k, S b k → STd lo b k) (hlo : 0 ≤ lo) : sTr c' w' T ∧ (w' 38 T 0 = w 38 T 0 ∧ w' 39 T 0 = w 39 T 0 ∧ w' 51 (w 38 T 0) 0 = w 51 (w 38 T 0) 0) := by
  obtain ⟨⟨a1, a2⟩, ⟨b1, b2⟩, ⟨c1, c2⟩, d1, d2, d3⟩ := h
  have f1 : w' 38 T 0 = w 38 T 0 := u.g (by omega) a2 (STd.nb hS hlo (by omega) _)
  have f2 : w' 39 T 0 = w 39 T 0 := u.g (by omega) a2 (STd.nb hS hlo (by omega) _)
  have f3 : w' 51 (w 38 T 0) 0 = w 51 (w 38 T 0) 0 := u.g (by omega) b2 (STd.nb hS hlo (by omega) _)
  refine ⟨⟨⟨u.tag a1 (by decide), (hc _ (by omega)).trans a2⟩, ?_, ?_, ?_⟩, f1, f2, f3⟩
  · rw [f1]; exact ⟨u.tag b1 (by decide), (hc _ (by omega)).trans b2⟩
  · rw [f1, f3]; exact ⟨u.tag c1 (by decide), (hc _ (by omega)).trans c2⟩
  · rw [f2]; exact ⟨u.tag d1 (by decide), (u.t (by omega) (by decide)).trans d2, (hc _ (by omega)).trans d3⟩
theorem vTr.fr (h : vTr ν al μ w A T) (g : sTr c w T) (u : UPd c S w w') (hS : ∀ b k, S b k → STd lo b k) (hlo : 0 ≤ lo) (hA : AgO μ A A') : vTr ν al μ w' A' T := by
  obtain ⟨-, f1, f2, f3⟩ := g.fr u CXt.refl hS hlo
  obtain ⟨⟨a1, a2⟩, ⟨b1, b2⟩, ⟨c1, c2⟩, d1, d2, d3⟩ := g
  obtain ⟨⟨h1, h2, h3, h4⟩, h5, h6, h7, h8, h9⟩ := h
  have x2 := STd.nb hS hlo (b' := 42) (by omega)
  have x1 := STd.nb hS hlo (b' := 41) (by omega)
  have x3 := STd.nb hS hlo (b' := 43) (by omega)
  have x4 := STd.nb hS hlo (b' := 44) (by omega)
  have e5 := hA.1 125 (by decide) (by decide) (by decide)
  have e4 := hA.1 124 (by decide) (by decide) (by decide)
  refine ⟨⟨?_, ?_, ?_, ?_⟩, fun i i0 i1 => ?_, fun j j0 j1 => ?_, ?_, ?_, ?_⟩
  · rw [f1, u.g (by omega) b2 (x2 _), e5]; exact h1
  · rw [f1, u.g (by omega) b2 (x2 _), e5, e4]; exact h2
  · rw [f1, f3, u.g (by omega) b2 (x2 _), u.t (by omega) (by decide)]; exact h3
  · rw [f1, f3, u.t (by omega) (by decide)]; exact h4
  · rw [f1, f3, u.g (by omega) c2 (x3 _)]; exact h5 i i0 (by omega)
  · rw [f2, u.g (by omega) d3 (x4 _), hA.2 227 j (by omega)]; exact h6 j j0 j1
  · rw [u.g (by omega) a2 (x1 _), hA.1 126 (by decide) (by decide) (by decide)]; exact h7
  · rw [u.g (by omega) a2 (x1 _), e4]; exact h8
  · rw [u.g (by omega) a2 (x1 _), hA.1 128 (by decide) (by decide) (by decide)]; exact h9
theorem vAl.fr (h : vAl al μ A) (hA : AgO μ A A') : vAl al μ A' := by
  obtain ⟨h1, h2, h3⟩ := h
  have e5 := hA.1 125 (by decide) (by decide) (by decide)
  have e4 := hA.1 124 (by decide) (by decide) (by decide)
  refine ⟨fun i i0 i1 => ?_, fun i j i0 ij j1 => h2 i j i0 ij (by omega), fun k k0 k1 k2 => ?_⟩
  · rw [hA.2 216 _ (by omega), e4]; exact h1 i i0 (by omega)
  · rw [hA.2 216 _ (by omega)] at k2
    rw [e5]; exact h3 k k0 (by omega) k2
theorem vNd.fr {k : Int} (h : vNd c σ ν ρ PL μ w A k) (hk : 0 ≤ k) (u : UPd c S w w') (hc : CXt w c c') (hS : ∀ b k, S b k → STd (A 122 μ.1 0) b k) (hlo : 0 ≤ A 122 μ.1 0) (hA : AgO μ A A') (hσ : ∀ i, 0 ≤ i → i < A 122 μ.1 0 → σ' i = σ i ∧ w 0 (σ i) 0 = 7 ∧ c (σ i) = -(i + 1)) : vNd c' σ' ν ρ PL μ w' A' k := by
  obtain ⟨⟨⟨a1, a2⟩, a3⟩, ⟨b1, b2⟩, ⟨⟨c1, c2⟩, c3⟩, ⟨d1, d2, d3, d4, d5⟩, e1⟩ := h
  have xx : ∀ (b' : Int) (k' : Nat), 1000 ≤ b' → ¬ S b' k' := fun b' k' hb => STd.nb hS hlo (by omega) k'
  have z := xx (1000 + 10 * k)
  have y0 : w 0 (ν k) 0 ≠ 0 := by omega
  have f24 : w' 24 (ν k) 0 = w 24 (ν k) 0 := u.g y0 a2 (z _ (by omega))
  have f25 : w' 25 (ν k) 0 = w 25 (ν k) 0 := u.g y0 a2 (z _ (by omega))
  have f26 : w' 26 (ν k) 0 = w 26 (ν k) 0 := u.g y0 a2 (z _ (by omega))
  have f27 : w' 27 (ν k) 0 = w 27 (ν k) 0 := u.g y0 a2 (z _ (by omega))
  have hL : (ixN A' (PL k)).map σ' = (ixN A (PL k)).map σ := by
    rw [hA.ixs]; exact List.map_congr_left fun i hi => (hσ i (e1 i hi).1 (e1 i hi).2).1
  have hm : ∀ x ∈ (ixN A (PL k)).map σ, w 0 x 0 = 7 ∧ ∃ i, (0 ≤ i ∧ i < A 122 μ.1 0) ∧ c x = -(i + 1) := fun x hx => by
    obtain ⟨i, hi, rfl⟩ := List.mem_map.mp hx
    exact ⟨(hσ i (e1 i hi).1 (e1 i hi).2).2.1, i, e1 i hi, (hσ i (e1 i hi).1 (e1 i hi).2).2.2⟩
  have g33 : ∀ (k' : Nat), k' ≠ 91 → ∀ x ∈ (ixN A (PL k)).map σ, w' k' x 0 = w k' x 0 := fun k' hk' x hx => by
    obtain ⟨y1, i, y2, y3⟩ := hm x hx
    exact u.g (by omega) y3 (STd.no hS (by unfold STd; omega))
  refine ⟨⟨⟨u.tag a1 (by decide), (hc _ y0).trans a2⟩, (u.g y0 a2 (z _ (by omega))).trans a3⟩, ?_, ?_, ⟨?_, ?_, ?_, ?_, ?_⟩, ?_⟩
  · rw [f24]
    exact ⟨(b1.fr u hc (fun k' _ _ => xx _ k' (by omega))).1, b2.fr b1 u hc (fun b' k' _ _ => xx b' k' (by omega)) (STd.no0 hS hlo)⟩
  · rw [f25, hL]
    have zq := xx (1000 + 10 * k + 6)
    refine ⟨⟨u.tag c1 (by decide), (hc _ (by omega)).trans c2⟩, c3.cg ?_ ?_ ?_ ?_ (fun x hx => ⟨g33 0 (by decide) x hx, g33 68 (by decide) x hx⟩) (g33 33 (by decide))⟩
    · exact u.g (by omega) c2 (zq _ (by omega))
    · exact u.g (by omega) c2 (zq _ (by omega))
    · exact u.g (by omega) c2 (zq _ (by omega))
    · exact u.g (by omega) c2 (zq _ (by omega))
  · rw [f26, hA.2 217 k (by omega)]; exact d1
  · rw [u.g y0 a2 (z _ (by omega)), hA.chl]; exact d2
  · rw [u.g y0 a2 (z _ (by omega)), hA.2 224 k (by omega)]; exact d3
  · rw [u.g y0 a2 (z _ (by omega)), hA.2 225 k (by omega)]; exact d4
  · rw [f27]; exact d5.imp id (fun h => u.tag h (by decide))
  · rw [hA.ixs, hA.1 122 (by decide) (by decide) (by decide)]; exact e1
theorem MT.fr (h : MT w q) (hq : c q = b ∧ c (w 21 q 0) = b + 1 ∧ c (w 22 q 0) = b + 2 ∧ c (w 23 q 0) = b + 3) (u : UPd c S w w') (hs : ∀ (b' : Int) (k : Nat), b ≤ b' → b' ≤ b + 3 → ¬ S b' k) : MT w' q ∧ (w' 21 q 0 = w 21 q 0 ∧ w' 22 q 0 = w 22 q 0 ∧ w' 23 q 0 = w 23 q 0 ∧ w' 62 q 0 = w 62 q 0) := by
  obtain ⟨h1, ⟨h2, h3, h4⟩, ⟨h5, h6, h7⟩, ⟨h8, h9, h10⟩, h11⟩ := h
  have z := hs b
  have f1 : w' 21 q 0 = w 21 q 0 := u.g (by omega) hq.1 (z _ (by omega) (by omega))
  have f2 : w' 22 q 0 = w 22 q 0 := u.g (by omega) hq.1 (z _ (by omega) (by omega))
  have f3 : w' 23 q 0 = w 23 q 0 := u.g (by omega) hq.1 (z _ (by omega) (by omega))
  have f4 : w' 62 q 0 = w 62 q 0 := u.g (by omega) hq.1 (z _ (by omega) (by omega))
  refine ⟨⟨u.tag h1 (by decide), ?_, ?_, ?_, ?_⟩, f1, f2, f3, f4⟩
  · rw [f1, f2, f3]; exact ⟨u.tag h2 (by decide), u.tag h3 (by decide), u.tag h4 (by decide)⟩
  · rw [f1, f2, f3, u.t (by omega) (by decide), u.t (by omega) (by decide), u.t (by omega) (by decide)]; exact ⟨h5, h6, h7⟩
  · rw [f1, f2, f3]; exact ⟨h8, h9, h10⟩
  · rw [f4]; exact h11
theorem vMc.fr (h : vMc c b w A q m) (u : UPd c S w w') (hc : CXt w c c') (hs : ∀ (b' : Int) (k : Nat), b ≤ b' → b' ≤ b + 3 → ¬ S b' k) (hA : AgO μ A A') : vMc c' b w' A' q m := by
  obtain ⟨⟨h1, h2⟩, h3, h4⟩ := h
  obtain ⟨k1, f1, f2, f3, f4⟩ := h1.fr h2 u hs
  obtain ⟨h5, ⟨h6, h7, h8⟩, -⟩ := h1
  obtain ⟨x0, x1, x2, x3⟩ := h2
  refine ⟨⟨k1, (hc _ (by omega)).trans x0, ?_, ?_, ?_⟩, ?_, fun k k0 k1 => ?_⟩
  · rw [f1]; exact (hc _ (by omega)).trans x1
  · rw [f2]; exact (hc _ (by omega)).trans x2
  · rw [f3]; exact (hc _ (by omega)).trans x3
  · rw [f4, hA.2 236 m (by omega)]; exact h3
  · rw [f1, f2, f3, hA.2 235 _ (by omega), hA.2 235 _ (by omega), hA.2 235 _ (by omega), u.g (by omega) x1 (hs _ 1 (by omega) (by omega)), u.g (by omega) x2 (hs _ 1 (by omega) (by omega)), u.g (by omega) x3 (hs _ 1 (by omega) (by omega))]
    exact h4 k k0 (by omega)
theorem vMs.fr (h : vMs c w A f) (hf : w 0 f 0 = 13 ∧ c f = 1) (u : UPd c S w w') (hc : CXt w c c') (hS : ∀ b k, S b k → STd lo b k) (hlo : 0 ≤ lo) (hA : AgO μ A A') : vMs c' w' A' f := by
  obtain ⟨⟨h1, h2, h3⟩, h4, h5⟩ := h
  have f1 : w' 48 f 0 = w 48 f 0 := ed_fr hf u hS hlo (by decide)
  have f2 : w' 49 f 0 = w 49 f 0 := ed_fr hf u hS hlo (by decide)
  refine ⟨?_, fun m m0 m1 => ?_, ?_⟩
  · rw [f1]; exact ⟨u.tag h1 (by decide), (u.t (by omega) (by decide)).trans h2, (hc _ (by omega)).trans h3⟩
  · rw [f1, u.g (by omega) h3 (STd.nb hS hlo (by omega) _)]
    exact (h4 m m0 m1).fr u hc (fun b' k _ _ => STd.nb hS hlo (by omega) k) hA
  · rw [f2]; exact h5.fr u hc (fun b' k _ _ => STd.nb hS hlo (by omega) k) hA
theorem vTs.fr (h : vTs c w q) (u : UPd c S w w') (hc : CXt w c c') (hS : ∀ b k, S b k → STd lo b k) (hlo : 0 ≤ lo) : vTs c' w' q := by
  obtain ⟨⟨a1, a2⟩, ⟨b1, b2, b3⟩, h3, h4⟩ := h
  have f1 : w' 37 q 0 = w 37 q 0 := u.g (by omega) a2 (STd.nb hS hlo (by omega) _)
  refine ⟨⟨u.tag a1 (by decide), (hc _ (by omega)).trans a2⟩, ?_, fun i i0 i1 => ?_, ?_⟩
  · rw [f1]; exact ⟨u.tag b1 (by decide), (u.t (by omega) (by decide)).trans b2, (hc _ (by omega)).trans b3⟩
  · rw [f1, u.g (by omega) b3 (STd.nb hS hlo (by omega) _)]
    exact ⟨u.tag (h3 i i0 i1).1 (by decide), (hc _ (by have := (h3 i i0 i1).1; omega)).trans (h3 i i0 i1).2⟩
  · rw [u.g (by omega) a2 (STd.nb hS hlo (by omega) _)]; exact h4
theorem vSc.fr (h : vSc c μ w A f) (u : UPd c S w w') (hc : CXt w c c') (hS : ∀ b k, S b k → STd lo b k) (hlo : 0 ≤ lo) (hA : AgO μ A A') : vSc c' μ w' A' f := by
  obtain ⟨hf, ⟨h1, h2, h3⟩, h4, h5, h6, h7, h8, h9⟩ := h
  have g : ∀ {k : Nat}, k ≠ 91 → w' k f 0 = w k f 0 := fun hk => ed_fr hf u hS hlo hk
  have e : ∀ {c : Nat}, 122 ≤ c → c ≤ 133 → c ≠ 127 → A' c μ.1 0 = A c μ.1 0 := fun a b d => hA.1 _ a b d
  refine ⟨⟨u.tag hf.1 (by decide), (hc _ (by omega)).trans hf.2⟩, ?_, fun j j0 j1 => ?_, ?_, ?_, ?_, ?_, ?_⟩
  · rw [g (by decide)]; exact ⟨u.tag h1 (by decide), (u.t (by omega) (by decide)).trans h2, (hc _ (by omega)).trans h3⟩
  · rw [g (by decide), u.g (by omega) h3 (STd.nb hS hlo (by omega) _), hA.2 211 j (by omega)]; exact h4 j j0 j1
  · rw [g (by decide), e (by decide) (by decide) (by decide)]; exact h5
  · rw [g (by decide), e (by decide) (by decide) (by decide)]; exact h6
  · rw [g (by decide), e (by decide) (by decide) (by decide)]; exact h7
  · rw [g (by decide), e (by decide) (by decide) (by decide)]; exact h8
  · rw [g (by decide), e (by decide) (by decide) (by decide)]; exact h9
theorem sTl.fr (h : sTl c w f) (hf : w 0 f 0 = 13 ∧ c f = 1) (u : UPd c S w w') (hc : CXt w c c') (hS : ∀ b k, S b k → STd lo b k) (hlo : 0 ≤ lo) : sTl c' w' f ∧ w' 50 f 0 = w 50 f 0 := by
  have f1 : w' 50 f 0 = w 50 f 0 := ed_fr hf u hS hlo (by decide)
  refine ⟨?_, f1⟩
  unfold sTl; rw [f1]; exact ⟨u.tag h.1 (by decide), (hc _ (by have := h.1; omega)).trans h.2⟩
theorem vLs.fr (h : vLs c w A q) (u : UPd c S w w') (hc : CXt w c c') (hS : ∀ b k, S b k → STd lo b k) (h50 : ∀ k, ¬ S 50 k) (hlo : 0 ≤ lo) (hA : AgO μ A A') (hA2 : ∀ i, A' 232 0 i = A 232 0 i) : vLs c' w' A' q := by
  obtain ⟨⟨⟨h1, ⟨h2, h3, h4, h5, h6, h7⟩, h8, h9, h10, h11, h12, h13⟩, x0, x1, x2, x3, x4, x5, x6⟩, v1, v2⟩ := h
  have z : ∀ (k : Nat), ¬ S 45 k := STd.nb hS hlo (by omega)
  have f1 : w' 15 q 0 = w 15 q 0 := u.g (by omega) x0 (z _)
  have f2 : w' 16 q 0 = w 16 q 0 := u.g (by omega) x0 (z _)
  have f3 : w' 17 q 0 = w 17 q 0 := u.g (by omega) x0 (z _)
  have f4 : w' 18 q 0 = w 18 q 0 := u.g (by omega) x0 (z _)
  have f5 : w' 19 q 0 = w 19 q 0 := u.g (by omega) x0 (z _)
  have f6 : w' 20 q 0 = w 20 q 0 := u.g (by omega) x0 (z _)
  refine ⟨⟨⟨u.tag h1 (by decide), ?_, ?_⟩, (hc _ (by omega)).trans x0, ?_, ?_, ?_, ?_, ?_, ?_⟩, fun j j0 j1 => ?_, fun j j0 j1 => ?_⟩
  · rw [f1, f2, f3, f4, f5, f6]; exact ⟨u.tag h2 (by decide), u.tag h3 (by decide), u.tag h4 (by decide), u.tag h5 (by decide), u.tag h6 (by decide), u.tag h7 (by decide)⟩
  · rw [f1, f2, f3, f4, f5, f6]; exact ⟨(u.t (by omega) (by decide)).trans h8, (u.t (by omega) (by decide)).trans h9, (u.t (by omega) (by decide)).trans h10, (u.t (by omega) (by decide)).trans h11, (u.t (by omega) (by decide)).trans h12, (u.t (by omega) (by decide)).trans h13⟩
  · rw [f1]; exact (hc _ (by omega)).trans x1
  · rw [f2]; exact (hc _ (by omega)).trans x2
  · rw [f3]; exact (hc _ (by omega)).trans x3
  · rw [f4]; exact (hc _ (by omega)).trans x4
  · rw [f5]; exact (hc _ (by omega)).trans x5
  · rw [f6]; exact (hc _ (by omega)).trans x6
  · rw [f1, f2, f3, f4, u.g (by omega) x1 (STd.nb hS hlo (by omega) _), u.g (by omega) x2 (STd.nb hS hlo (by omega) _), u.g (by omega) x3 (STd.nb hS hlo (by omega) _), u.g (by omega) x4 (STd.nb hS hlo (by omega) _), hA.2 228 j (by omega), hA.2 229 j (by omega), hA.2 230 j (by omega), hA.2 231 j (by omega)]; exact v1 j j0 j1
  · rw [f5, u.g (by omega) x5 (h50 _), hA2]; exact v2 j j0 j1
end FRO
