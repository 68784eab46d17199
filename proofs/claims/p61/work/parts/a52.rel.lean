/-! frames where the editor's numbers, macros and listeners change as well -/
def STm (lo : Int) (b : Int) (k : Nat) : Prop := STd lo b k ∨ (63 ≤ b ∧ b ≤ 85) ∨ (46 ≤ b ∧ b ≤ 49) ∨ (b = 1 ∧ 86 ≤ k ∧ k ≤ 91)
def AgM (μ : MU) (A A' : Mm) : Prop := (∀ c : Nat, 122 ≤ c → c ≤ 128 → c ≠ 127 → A' c μ.1 0 = A c μ.1 0) ∧ ∀ (c : Nat) (i : Int), (216 ≤ c ∧ c ≤ 225) ∨ c = 227 → A' c 0 i = A c 0 i
section FRM
variable {c c' σ σ' ν al : Int → Int} {ρ : Int → Mm} {PL : Int → List Int} {S : Int → Nat → Prop} {w w' A A' : Mm} {μ : MU} {f q T b lo k m : Int}
theorem AgM.refl : AgM μ A A := ⟨fun _ _ _ _ => rfl, fun _ _ _ => rfl⟩
theorem AgM.chl (h : AgM μ A A') : m_chl μ k A' = m_chl μ k A := by
  unfold m_chl m_chF
  rw [h.1 124 (by decide) (by decide) (by decide)]
  congr 1
  funext j
  rw [h.2 216 j (by omega), h.2 217 j (by omega)]
theorem AgM.ixs (h : AgM μ A A') : ∀ L, ixN A' L = ixN A L
  | [] => rfl
  | p :: ps => by simp only [ixN]; rw [AgM.ixs h ps, h.2 220 p (by omega), h.2 218 p (by omega)]
theorem STm.no0 (hS : ∀ b k, S b k → STm lo b k) (hlo : 0 ≤ lo) (k : Nat) : ¬ S 0 k := fun h => by have := hS _ _ h; unfold STm STd at this; omega
theorem STm.no {b' : Int} {k' : Nat} (hS : ∀ b k, S b k → STm lo b k) (h : ¬ STm lo b' k') : ¬ S b' k' := fun x => h (hS _ _ x)
theorem STm.nb {b' : Int} (hS : ∀ b k, S b k → STm lo b k) (hlo : 0 ≤ lo) (h : (38 < b' ∧ b' < 46) ∨ (51 < b' ∧ b' < 63) ∨ 86 < b' ∨ (1 < b' ∧ b' < 10)) (k' : Nat) : ¬ S b' k' := STm.no hS (by unfold STm STd; omega)
theorem ed_frm (hf : w 0 f 0 = 13 ∧ c f = 1) (u : UPd c S w w') (hS : ∀ b k, S b k → STm lo b k) (hlo : 0 ≤ lo) {k : Nat} (hk : k < 86 ∨ 91 < k) {i : Int} : w' k f i = w k f i :=
  u.g (by omega) hf.2 (STm.no hS (by unfold STm STd; omega))
theorem sTr.frm (h : sTr c w T) (u : UPd c S w w') (hc : CXt w c c') (hS : ∀ b k, S b k → STm lo b k) (hlo : 0 ≤ lo) : sTr c' w' T ∧ (w' 38 T 0 = w 38 T 0 ∧ w' 39 T 0 = w 39 T 0 ∧ w' 51 (w 38 T 0) 0 = w 51 (w 38 T 0) 0) := by
  obtain ⟨⟨a1, a2⟩, ⟨b1, b2⟩, ⟨c1, c2⟩, d1, d2, d3⟩ := h
  have f1 : w' 38 T 0 = w 38 T 0 := u.g (by omega) a2 (STm.nb hS hlo (by omega) _)
  have f2 : w' 39 T 0 = w 39 T 0 := u.g (by omega) a2 (STm.nb hS hlo (by omega) _)
  have f3 : w' 51 (w 38 T 0) 0 = w 51 (w 38 T 0) 0 := u.g (by omega) b2 (STm.nb hS hlo (by omega) _)
  refine ⟨⟨⟨u.tag a1 (by decide), (hc _ (by omega)).trans a2⟩, ?_, ?_, ?_⟩, f1, f2, f3⟩
  · rw [f1]; exact ⟨u.tag b1 (by decide), (hc _ (by omega)).trans b2⟩
  · rw [f1, f3]; exact ⟨u.tag c1 (by decide), (hc _ (by omega)).trans c2⟩
  · rw [f2]; exact ⟨u.tag d1 (by decide), (u.t (by omega) (by decide)).trans d2, (hc _ (by omega)).trans d3⟩
theorem vTr.frm (h : vTr ν al μ w A T) (g : sTr c w T) (u : UPd c S w w') (hS : ∀ b k, S b k → STm lo b k) (hlo : 0 ≤ lo) (hA : AgM μ A A') : vTr ν al μ w' A' T := by
  obtain ⟨-, f1, f2, f3⟩ := g.frm u CXt.refl hS hlo
  obtain ⟨⟨a1, a2⟩, ⟨b1, b2⟩, ⟨c1, c2⟩, d1, d2, d3⟩ := g
  obtain ⟨⟨h1, h2, h3, h4⟩, h5, h6, h7, h8, h9⟩ := h
  have x2 := STm.nb hS hlo (b' := 42) (by omega)
  have x1 := STm.nb hS hlo (b' := 41) (by omega)
  have x3 := STm.nb hS hlo (b' := 43) (by omega)
  have x4 := STm.nb hS hlo (b' := 44) (by omega)
  have e5 := hA.1 125 (by decide) (by decide) (by decide)
  have e4 := hA.1 124 (by decide) (by decide) (by decide)
  refine ⟨⟨?_, ?_, ?_, ?_⟩, fun i i0 i1 => ?_, fun j j0 j1 => ?_, ?_, ?_, ?_⟩
  · rw [f1, u.g (by omega) b2 (x2 _), e5]; exact h1
  · rw [f1, u.g (by omega) b2 (x2 _), e5, e4]; exact h2
  · rw [f1, f3, u.g (by omega) b2 (x2 _), u.t (by omega) (by decide)]; exact h3
  · rw [f1, f3, u.t (by omega) (by decide)]; exact h4
  · rw [f1, f3, u.g (by omega) c2 (x3 _)]; exact h5 i i0 (by omega)
  · rw [f2, u.g (by omega) d3 (x4 _), hA.2 227 j (by omega)]; exact h6 j j0 j1
  · rw [u.g (by omega) a2 (x1 _), hA.1 126 (by decide) (by decide) (by decide)]; exact h7
  · rw [u.g (by omega) a2 (x1 _), e4]; exact h8
  · rw [u.g (by omega) a2 (x1 _), hA.1 128 (by decide) (by decide) (by decide)]; exact h9
theorem vAl.frm (h : vAl al μ A) (hA : AgM μ A A') : vAl al μ A' := by
  obtain ⟨h1, h2, h3⟩ := h
  have e5 := hA.1 125 (by decide) (by decide) (by decide)
  have e4 := hA.1 124 (by decide) (by decide) (by decide)
  refine ⟨fun i i0 i1 => ?_, fun i j i0 ij j1 => h2 i j i0 ij (by omega), fun k k0 k1 k2 => ?_⟩
  · rw [hA.2 216 _ (by omega), e4]; exact h1 i i0 (by omega)
  · rw [hA.2 216 _ (by omega)] at k2
    rw [e5]; exact h3 k k0 (by omega) k2
theorem vNd.frm {k : Int} (h : vNd c σ ν ρ PL μ w A k) (hk : 0 ≤ k) (u : UPd c S w w') (hc : CXt w c c') (hS : ∀ b k, S b k → STm (A 122 μ.1 0) b k) (hlo : 0 ≤ A 122 μ.1 0) (hA : AgM μ A A') (hσ : ∀ i, 0 ≤ i → i < A 122 μ.1 0 → σ' i = σ i ∧ w 0 (σ i) 0 = 7 ∧ c (σ i) = -(i + 1)) : vNd c' σ' ν ρ PL μ w' A' k := by
  obtain ⟨⟨⟨a1, a2⟩, a3⟩, ⟨b1, b2⟩, ⟨⟨c1, c2⟩, c3⟩, ⟨d1, d2, d3, d4, d5⟩, e1⟩ := h
  have xx : ∀ (b' : Int) (k' : Nat), 1000 ≤ b' → ¬ S b' k' := fun b' k' hb => STm.nb hS hlo (by omega) k'
  have z := xx (1000 + 10 * k)
  have y0 : w 0 (ν k) 0 ≠ 0 := by omega
  have f24 : w' 24 (ν k) 0 = w 24 (ν k) 0 := u.g y0 a2 (z _ (by omega))
  have f25 : w' 25 (ν k) 0 = w 25 (ν k) 0 := u.g y0 a2 (z _ (by omega))
  have f26 : w' 26 (ν k) 0 = w 26 (ν k) 0 := u.g y0 a2 (z _ (by omega))
  have f27 : w' 27 (ν k) 0 = w 27 (ν k) 0 := u.g y0 a2 (z _ (by omega))
  have hL : (ixN A' (PL k)).map σ' = (ixN A (PL k)).map σ := by
    rw [hA.ixs]; exact List.map_congr_left fun i hi => (hσ i (e1 i hi).1 (e1 i hi).2).1
  have hm : ∀ x ∈ (ixN A (PL k)).map σ, w 0 x 0 = 7 ∧ ∃ i, (0 ≤ i ∧ i < A 122 μ.1 0) ∧ c x = -(i + 1) := fun x hx => by
    obtain ⟨i, hi, rfl⟩ := List.mem_map.mp hx
    exact ⟨(hσ i (e1 i hi).1 (e1 i hi).2).2.1, i, e1 i hi, (hσ i (e1 i hi).1 (e1 i hi).2).2.2⟩
  have g33 : ∀ (k' : Nat), k' ≠ 91 → ∀ x ∈ (ixN A (PL k)).map σ, w' k' x 0 = w k' x 0 := fun k' hk' x hx => by
    obtain ⟨y1, i, y2, y3⟩ := hm x hx
    exact u.g (by omega) y3 (STm.no hS (by unfold STm STd; omega))
  refine ⟨⟨⟨u.tag a1 (by decide), (hc _ y0).trans a2⟩, (u.g y0 a2 (z _ (by omega))).trans a3⟩, ?_, ?_, ⟨?_, ?_, ?_, ?_, ?_⟩, ?_⟩
  · rw [f24]
    exact ⟨(b1.fr u hc (fun k' _ _ => xx _ k' (by omega))).1, b2.fr b1 u hc (fun b' k' _ _ => xx b' k' (by omega)) (STm.no0 hS hlo)⟩
  · rw [f25, hL]
    have zq := xx (1000 + 10 * k + 6)
    refine ⟨⟨u.tag c1 (by decide), (hc _ (by omega)).trans c2⟩, c3.cg ?_ ?_ ?_ ?_ (fun x hx => ⟨g33 0 (by decide) x hx, g33 68 (by decide) x hx⟩) (g33 33 (by decide))⟩
    · exact u.g (by omega) c2 (zq _ (by omega))
    · exact u.g (by omega) c2 (zq _ (by omega))
    · exact u.g (by omega) c2 (zq _ (by omega))
    · exact u.g (by omega) c2 (zq _ (by omega))
  · rw [f26, hA.2 217 k (by omega)]; exact d1
  · rw [u.g y0 a2 (z _ (by omega)), hA.chl]; exact d2
  · rw [u.g y0 a2 (z _ (by omega)), hA.2 224 k (by omega)]; exact d3
  · rw [u.g y0 a2 (z _ (by omega)), hA.2 225 k (by omega)]; exact d4
  · rw [f27]; exact d5.imp id (fun h => u.tag h (by decide))
  · rw [hA.ixs, hA.1 122 (by decide) (by decide) (by decide)]; exact e1
theorem vTs.frm (h : vTs c w q) (u : UPd c S w w') (hc : CXt w c c') (hS : ∀ b k, S b k → STm lo b k) (hlo : 0 ≤ lo) : vTs c' w' q := by
  obtain ⟨⟨a1, a2⟩, ⟨b1, b2, b3⟩, h3, h4⟩ := h
  have f1 : w' 37 q 0 = w 37 q 0 := u.g (by omega) a2 (STm.nb hS hlo (by omega) _)
  refine ⟨⟨u.tag a1 (by decide), (hc _ (by omega)).trans a2⟩, ?_, fun i i0 i1 => ?_, ?_⟩
  · rw [f1]; exact ⟨u.tag b1 (by decide), (u.t (by omega) (by decide)).trans b2, (hc _ (by omega)).trans b3⟩
  · rw [f1, u.g (by omega) b3 (STm.nb hS hlo (by omega) _)]
    exact ⟨u.tag (h3 i i0 i1).1 (by decide), (hc _ (by have := (h3 i i0 i1).1; omega)).trans (h3 i i0 i1).2⟩
  · rw [u.g (by omega) a2 (STm.nb hS hlo (by omega) _)]; exact h4
theorem sTl.frm (h : sTl c w f) (hf : w 0 f 0 = 13 ∧ c f = 1) (u : UPd c S w w') (hc : CXt w c c') (hS : ∀ b k, S b k → STm lo b k) (hlo : 0 ≤ lo) : sTl c' w' f ∧ w' 50 f 0 = w 50 f 0 := by
  have f1 : w' 50 f 0 = w 50 f 0 := ed_frm hf u hS hlo (by decide)
  refine ⟨?_, f1⟩
  unfold sTl; rw [f1]; exact ⟨u.tag h.1 (by decide), (hc _ (by have := h.1; omega)).trans h.2⟩
/-- the relation, its editor's numbers, macros and listeners given -/
theorem RLm.gen {p : RP} {f : Int} {L : List Int} (h : RLm p μ f L w A) (hl : 0 ≤ A 122 μ.1 0 ∧ A 122 μ.1 0 ≤ A 120 μ.1 0) (u : UPd (pc_ p) (fun b k => (63 ≤ b ∧ b ≤ 85) ∨ (46 ≤ b ∧ b ≤ 49) ∨ (b = 1 ∧ 86 ≤ k ∧ k ≤ 91)) w w') (h0 : ∀ a, w' 0 a 0 = w 0 a 0) (hA : AgM μ A A') (e120 : A' 120 μ.1 0 = A 120 μ.1 0) (h212 : ∀ k, 0 ≤ k → k < A 120 μ.1 0 → A' 212 0 k = A 212 0 k) (hV2 : ∀ (k : Nat) (j : Int), 200 ≤ k → k ≤ 210 → A' k 0 j = A k 0 j)
    (hs : vSc (pc_ p) μ w' A' f) (hM : vMs (pc_ p) w' A' f) (hL : vLs (pc_ p) w' A' (w' 46 f 0)) : RLm p μ f L w' A' := by
  obtain ⟨⟨c0, hSc, hD, ⟨⟨t1, t2⟩, t3, t4⟩, -, hTl, hTs⟩, -, ⟨hV, hQ, hLc⟩, hSp⟩ := h
  have hf := hSc.1
  have hst : ∀ (b : Int) (k : Nat), ((63 ≤ b ∧ b ≤ 85) ∨ (46 ≤ b ∧ b ≤ 49) ∨ (b = 1 ∧ 86 ≤ k ∧ k ≤ 91)) → STm (A 122 μ.1 0) b k := fun b k z => Or.inr z
  have g : ∀ {k : Nat}, (k < 86 ∨ 91 < k) → w' k f 0 = w k f 0 := fun hk => ed_frm hf u hst hl.1 hk
  have e4 := hA.1 124 (by decide) (by decide) (by decide)
  refine ⟨⟨fun a ha => c0 a (by rw [← h0]; exact ha), hs, ?_, ⟨⟨?_, ?_⟩, t3.frm hA, fun k k0 k1 k2 => ?_⟩, hM, (hTl.frm hf u CXt.refl hst hl.1).1, ?_⟩, hL, ⟨?_, ?_, ?_⟩, fun k k0 k1 => ?_⟩
  · obtain ⟨⟨a1, a2⟩, ⟨b1, b2⟩, c1, c2⟩ := hD
    unfold rDk
    rw [g (by decide), g (by decide), g (by decide)]
    exact ⟨⟨(a1.fr u CXt.refl (fun k x y => ⟨by omega, by omega⟩)).1, a2.fr a1 u (fun b' k x y _ => by omega)⟩, ⟨(b1.fr u CXt.refl (fun k x y => ⟨by omega, by omega⟩)).1, b2.fr b1 u (fun b' k x y _ => by omega)⟩, ⟨(c1.fr u CXt.refl (fun k x y => ⟨by omega, by omega⟩)).1, c2.fr c1 u (fun b' k x y _ => by omega)⟩⟩
  · rw [g (by decide)]; exact (t1.frm u CXt.refl hst hl.1).1
  · rw [g (by decide)]; exact t2.frm t1 u hst hl.1 hA
  · rw [hA.2 216 k (by omega)] at k2
    exact (t4 k k0 (by omega) k2).frm k0 u CXt.refl hst hl.1 hA (fun i i0 i1 => ⟨rfl, (hSp i i0 (by omega)).1⟩)
  · rw [g (by decide)]; exact hTs.frm u CXt.refl hst hl.1
  · rw [g (by decide)]
    exact (hV.fr hD.1.1 u CXt.refl (fun b' k x y _ => by omega) (fun k => by omega)).cgV hV2
  · have e12 : w' 12 (w 41 f 0) 0 = w 12 (w 41 f 0) 0 := u.g (by have := hD.1.1.1.1; omega) hD.1.1.1.2 (by omega)
    have g16 : ∀ k : Nat, w' k (w 12 (w 41 f 0) 0) 0 = w k (w 12 (w 41 f 0) 0) 0 := fun k => u.g (by have := hD.1.1.2.2.2.1.1; omega) hD.1.1.2.2.2.1.2 (by omega)
    have gL : ∀ (k : Nat), ∀ x ∈ L, w' k x 0 = w k x 0 := fun k x hx => u.1 k x 0 (by have := hQ.2.2.2.2 x hx; omega) (by have := hLc x hx; omega)
    rw [g (by decide), e12]
    exact hQ.cg (g16 _) (g16 _) (g16 _) (g16 _) (fun x hx => ⟨gL 0 x hx, gL 68 x hx⟩) (gL 33)
  · rw [hA.1 122 (by decide) (by decide) (by decide)]; exact hLc
  · exact (hSp k k0 (by omega)).fr u CXt.refl (fun y hy => by omega) (fun y => by omega) (h212 k k0 (by omega))
end FRM
