/-! what the relation gives the class's methods; the deletion beside the ring -/
section RLB
variable {p : RP} {w W A A' X : Mm} {μ : MU} {f q n b x lo v r g m i k s : Int} {c : Int → Int} {L : List Int} {gf : Int → Int}
theorem tcA_b : ∀ L : List Int, 0 ≤ tcA w L ∧ tcA w L ≤ (L.length : Int)
  | [] => ⟨Int.le_refl 0, Int.le_refl 0⟩
  | x :: xs => by
    have := tcA_b xs
    simp only [tcA, List.length_cons]
    split <;> omega
theorem RLm.toQT (h : RLm p μ f L w A) (hLn : (L.length : Int) ≤ 100000) : QT w (w 12 (w 41 f 0) 0) := by
  obtain ⟨hO, hL, ⟨hV, hQ, hLc⟩, hSp⟩ := h
  have hs := hO.2.2.1.1.1
  have hb := tcA_b (w := w) L
  refine ⟨hs.2.2.2.1.1, ?_, by rw [hQ.2.2.1]; omega, by rw [hQ.2.2.2.1]; omega⟩
  rw [hQ.2.1]
  rcases lst_or L with rfl | ⟨M, y, rfl⟩
  · exact Or.inl rfl
  · rw [lsA_app]; exact Or.inr (hQ.2.2.2.2 y (by simp))
theorem sDk.toDTl (hs : sDk c b w q) (hB : bDk w q) : DTl w q := by
  obtain ⟨⟨a1, a2⟩, hS, hT, ⟨b1, b2⟩, ⟨c1, c2, c3⟩, d1, d2, d3⟩ := hs
  obtain ⟨B1, B2, B3, B4⟩ := hB
  exact ⟨a1, hS.1.1, ⟨c1, c2⟩, ⟨d1, d2⟩, B1, by omega, by omega⟩
theorem bDk.toDVb (hB : bDk w q) : DVb w q := fun j j0 j1 => by have := hB.2.2.2 j j0 j1; omega
theorem RLm.toDG (h : RLm p μ f L w A) (hM : bMl 0 A) (hLn : (L.length : Int) ≤ 100000) (hl1 : A 201 0 0 ≤ 400) : DG w (w 41 f 0) := by
  have hQT := h.toQT hLn
  obtain ⟨hO, hL, ⟨hV, hQ, hLc⟩, hSp⟩ := h
  have hs := hO.2.2.1.1.1
  have hB := hO.2.2.1.1.2
  have hap := hs.ap
  refine ⟨hs.toDTl hB, hB.toDVb, ⟨hs.2.1.toST, hV.1.1.toSZ, hV.1.1.toSB, fun j j0 j1 => ?_, hV.1.toSE⟩, hQT, hap.2.1.1, hap.2.1.2.1, hap.2.1.2.2.1, hap.2.2.1, hap.2.2.2.1⟩
  have h1 := (hV.1.1.2.2.2 j j0 j1).1
  have h2 := (hM (6 * 0 + j) (by omega) (by omega)).1
  omega
theorem RLm.toF (h : RLm p μ f L w A) : w 0 f 0 = 13 ∧ FBt w f ∧ w 0 (w 41 f 0) 0 = 2 ∧ w 0 (w 11 (w 41 f 0) 0) 0 = 6 := by
  obtain ⟨hO, hL, ⟨hV, hQ, hLc⟩, hSp⟩ := h
  have hs := hO.2.2.1.1.1
  exact ⟨hO.2.1.1.1, ⟨hO.2.1.1.1, hs.1.1, hs.2.1.1.1, hs.2.1.2.1.1⟩, hs.1.1, hs.2.1.1.1⟩
theorem RLm.toTr (h : RLm p μ f L w A) : (w 0 (w 44 f 0) 0 = 21 ∧ w 2 (w 44 f 0) 0 = 5) ∧ ∀ j, 0 ≤ j → j < 5 → w 1 (w 44 f 0) j = A 211 0 j := ⟨⟨h.1.2.1.2.1.1, h.1.2.1.2.1.2.1⟩, h.1.2.1.2.2.1⟩
/-- the desk's looks are the reference's -/
theorem RLm.low (h : RLm p μ f L w A) : d_low w (w 41 f 0) = m_vF A ∧ d_high w (w 41 f 0) = m_vT A ∧ w 61 (w 41 f 0) 0 = A 207 0 0 ∧ w 67 (w 11 (w 41 f 0) 0) 0 = A 201 0 0 ∧ w 60 (w 41 f 0) 0 = A 210 0 0 := by
  obtain ⟨hO, hL, ⟨⟨hV, v2, v3, v4⟩, hQ, hLc⟩, hSp⟩ := h
  have b := hO.2.2.1.1.2.1
  refine ⟨?_, ?_, v2, hV.1.1, v3⟩
  · unfold d_low m_vF
    rw [← v3]
    by_cases y : w 60 (w 41 f 0) 0 = 0
    · rw [if_pos y, if_pos y]
    · rw [if_neg y, if_neg y, (v4 _ (by omega) (by omega)).1, show 4 * 0 + (w 60 (w 41 f 0) 0 - 1) = w 60 (w 41 f 0) 0 - 1 by omega]
  · unfold d_high m_vT
    rw [← v3]
    by_cases y : w 60 (w 41 f 0) 0 = 0
    · rw [if_pos y, if_pos y]; exact hV.1.1
    · rw [if_neg y, if_neg y, (v4 _ (by omega) (by omega)).2, show 4 * 0 + (w 60 (w 41 f 0) 0 - 1) = w 60 (w 41 f 0) 0 - 1 by omega]
theorem RLm.txt (h : RLm p μ f L w A) {j : Int} (j0 : 0 ≤ j) (j1 : j < A 201 0 0) : w 1 (w 28 (w 11 (w 41 f 0) 0) 0) j = A 200 0 j := by
  obtain ⟨hO, hL, ⟨⟨hV, v2, v3, v4⟩, hQ, hLc⟩, hSp⟩ := h
  have := hV.1.2.2.1 j j0 (by rw [hV.1.1]; exact j1)
  rwa [show (400 : Int) * 0 + j = j by omega] at this
theorem RLm.mrk (h : RLm p μ f L w A) {j : Int} (j0 : 0 ≤ j) (j1 : j < 6) : w 1 (w 29 (w 11 (w 41 f 0) 0) 0) j = A 202 0 j := by
  obtain ⟨hO, hL, ⟨⟨hV, v2, v3, v4⟩, hQ, hLc⟩, hSp⟩ := h
  have := (hV.1.2.2.2 j j0 j1).1
  rwa [show (6 : Int) * 0 + j = j by omega] at this
/-- the editor's and the live desk's references stay -/
theorem RLm.eqs (h : RLm p μ f L w A) (hl : 0 ≤ lo) (u : UPd (pc_ p) (SDb 10 lo) w W) :
    (∀ k : Nat, k ≠ 91 → W k f 0 = w k f 0) ∧ (W 11 (w 41 f 0) 0 = w 11 (w 41 f 0) 0 ∧ W 12 (w 41 f 0) 0 = w 12 (w 41 f 0) 0 ∧ W 13 (w 41 f 0) 0 = w 13 (w 41 f 0) 0 ∧ W 14 (w 41 f 0) 0 = w 14 (w 41 f 0) 0) ∧ (W 28 (w 11 (w 41 f 0) 0) 0 = w 28 (w 11 (w 41 f 0) 0) 0 ∧ W 29 (w 11 (w 41 f 0) 0) 0 = w 29 (w 11 (w 41 f 0) 0) 0 ∧ W 30 (w 11 (w 41 f 0) 0) 0 = w 30 (w 11 (w 41 f 0) 0) 0 ∧ W 31 (w 11 (w 41 f 0) 0) 0 = w 31 (w 11 (w 41 f 0) 0) 0) := by
  have hf := h.1.2.1.1
  have hs := h.1.2.2.1.1.1
  exact ⟨fun k hk => ed_fr hf u (SDb.std (Or.inl rfl)) hl hk, (hs.fr u CXt.refl (fun k x y => ⟨fun z => by unfold SDb at z; omega, fun z => by unfold SDb at z; omega⟩)).2⟩
theorem cls_cg (e : ∀ (k : Nat) (j : Int), 200 ≤ k → k ≤ 210 → k ≠ 204 → k ≠ 205 → k ≠ 206 → X k 0 j = A k 0 j) : ∀ (k : Nat) (j : Int), 200 ≤ k → k ≤ 210 → k ≠ 204 → k ≠ 205 → k ≠ 206 → m_closes 0 q n X k 0 j = m_closes 0 q n A k 0 j := fun k j k0 k1 k4 k5 k6 => by
  have e' : ∀ {k : Nat} {j : Int}, 200 ≤ k → k ≤ 210 → k ≠ 204 → k ≠ 205 → k ≠ 206 → X k 0 j = A k 0 j := fun a b c d f => e _ _ a b c d f
  have hk : k = 200 ∨ k = 201 ∨ k = 202 ∨ k = 203 ∨ k = 207 ∨ k = 208 ∨ k = 209 ∨ k = 210 := by omega
  rcases hk with rfl | rfl | rfl | rfl | rfl | rfl | rfl | rfl
  · simp only [cls_200, e' (k := 200) (by decide) (by decide) (by decide) (by decide) (by decide), e' (k := 201) (by decide) (by decide) (by decide) (by decide) (by decide)]
  · simp only [cls_201, e' (k := 201) (by decide) (by decide) (by decide) (by decide) (by decide)]
  · simp only [cls_202, e' (k := 202) (by decide) (by decide) (by decide) (by decide) (by decide)]
  · rw [closes_at (by decide), closes_at (by decide)]; exact e' (by decide) (by decide) (by decide) (by decide) (by decide)
  · rw [closes_at (by decide), closes_at (by decide)]; exact e' (by decide) (by decide) (by decide) (by decide) (by decide)
  · simp only [cls_208, e' (k := 208) (by decide) (by decide) (by decide) (by decide) (by decide), e' (k := 210) (by decide) (by decide) (by decide) (by decide) (by decide)]
  · simp only [cls_209, e' (k := 209) (by decide) (by decide) (by decide) (by decide) (by decide), e' (k := 210) (by decide) (by decide) (by decide) (by decide) (by decide)]
  · rw [closes_at (by decide), closes_at (by decide)]; exact e' (by decide) (by decide) (by decide) (by decide) (by decide)
/-- how the class came from one world to the next: what is appended, what else stays -/
def RPF (p : RP) (μ : MU) (f : Int) (L : List Int) (w A w' A' : Mm) : Prop :=
  ∃ c σ G, RLm (pU p c σ G) μ f (L ++ (rng (A' 120 μ.1 0 - A 120 μ.1 0).toNat (A 120 μ.1 0)).map σ) w' A' ∧ A 120 μ.1 0 ≤ A' 120 μ.1 0 ∧ (∀ k, k < A 120 μ.1 0 → σ k = ps_ p k ∧ G k = pg_ p k) ∧ (UPd (pc_ p) (SDb 10 (A 122 μ.1 0)) w w' ∧ CXt w (pc_ p) c) ∧
    (∀ k, A 120 μ.1 0 ≤ k → k < A' 120 μ.1 0 → A' 212 0 k % 8 = 1 ∨ A' 212 0 k % 8 = 2 → k = A 120 μ.1 0 ∧ ∀ j, 0 ≤ j → j < wsz (A' 212 0 k) → G k j = A 200 0 (A' 212 0 k / 8 % 512 + j))
theorem RPF.refl (h : RLm p μ f L w A) : RPF p μ f L w A w A := by
  refine ⟨pc_ p, ps_ p, pg_ p, ?_, Int.le_refl _, fun _ _ => ⟨rfl, rfl⟩, ⟨UPd.refl, CXt.refl⟩, fun k a b => by omega⟩
  rw [show (A 120 μ.1 0 - A 120 μ.1 0).toNat = 0 by omega]
  have h' : RLm (pU p (pc_ p) (ps_ p) (pg_ p)) μ f L w A := h
  simpa [rng] using h'
end RLB
