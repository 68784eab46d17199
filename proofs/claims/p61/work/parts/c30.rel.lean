/-! the path of the current node: what the search for a change goes along -/
def pthB (ν : Int → Int) (PL : Int → List Int) (A : Mm) (x : Int) : Int → Nat → List (Int × List Int)
  | _, 0 => []
  | i, n + 1 => (ν (m_fan A x (i + 1)), ixN A (PL (m_fan A x (i + 1)))) :: pthB ν PL A x (i + 1) n
def tcW : List Int → Int
  | [] => 0
  | x :: xs => (if x % 8 ≤ 2 then 1 else 0) + tcW xs
/-- the traces' contents and the nodes' pointers down alone differ -/
def FT7 (w w' : Mm) : Prop := ∀ (K : Nat) (a j : Int), K ≠ 27 → K ≠ 36 → K ≠ 73 → K ≠ 74 → K ≠ 75 → K ≠ 76 → K ≠ 77 → w' K a j = w K a j
section PTH
variable {p : RP} {σ κ ν : Int → Int} {w w1 w' W A b : Mm} {k n x a f i lo hi M : Int} {μ : MU} {L : List Int} {PL : Int → List Int}
theorem wlist_ix : ∀ (n : Nat) (i : Int), wlist b n i = (rng n i).map (wdA b)
  | 0, _ => rfl
  | n + 1, i => by show b 212 0 i :: _ = wdA b i :: _; rw [wlist_ix n]; rfl
theorem nodeW_ix : ∀ L : List Int, nodeW b L = (ixN b L).map (wdA b)
  | [] => rfl
  | q :: qs => by
    show wlist b _ _ ++ nodeW b qs = (rng _ _ ++ ixN b qs).map _
    rw [List.map_append, wlist_ix, nodeW_ix qs]
theorem foP_hd {i : Int} : ∀ (n : Nat) (W : Mm), m_foP μ PL x b i (n + 1) W = m_foP μ PL x b (i + 1) n (m_foL μ (nodeW b (PL (m_fan b x (i + 1)))) W)
  | 0, W => by
    show m_foL μ (nodeW b (PL (m_fan b x (i + 1 + ((0 : Nat) : Int))))) W = _
    rw [show i + 1 + ((0 : Nat) : Int) = i + 1 by omega]; rfl
  | n + 1, W => by
    show m_foL μ (nodeW b (PL (m_fan b x (i + 1 + ((n + 1 : Nat) : Int))))) (m_foP μ PL x b i (n + 1) W) = m_foL μ (nodeW b (PL (m_fan b x (i + 1 + 1 + (n : Int))))) (m_foP μ PL x b (i + 1) n _)
    rw [foP_hd n W, show i + 1 + ((n + 1 : Nat) : Int) = i + 1 + 1 + (n : Int) by omega]
theorem foB_pth : ∀ (n : Nat) (i : Int) (W : Mm), foB μ A (pthB ν PL A x i n) W = m_foP μ PL x A i n W
  | 0, _, _ => rfl
  | n + 1, i, W => by
    rw [foP_hd]
    show foB μ A (pthB ν PL A x (i + 1) n) (m_foL μ ((ixN A (PL (m_fan A x (i + 1)))).map (wdA A)) W) = _
    rw [foB_pth n, ← nodeW_ix]
theorem lnB_pth : ∀ (n m : Nat), lnB (pthB ν PL A x (m : Int) n) = lnR PL x A (m + n) - lnR PL x A m
  | 0, m => by show (0 : Int) = _; rw [Nat.add_zero]; omega
  | n + 1, m => by
    show ((ixN A (PL (m_fan A x ((m : Int) + 1)))).length : Int) + lnB (pthB ν PL A x ((m : Int) + 1) n) = _
    have e := lnB_pth n (m + 1)
    rw [show (((m + 1 : Nat)) : Int) = (m : Int) + 1 by omega] at e
    have e2 := lnR_s (PL := PL) (x := x) (b := A) (n := m)
    rw [e, show m + (n + 1) = m + 1 + n by omega, e2, nodeW_ix, List.length_map]
    omega
theorem pth_mem : ∀ (n : Nat) (i : Int), ∀ y ∈ pthB ν PL A x i n, ∃ j, (i < j ∧ j ≤ i + n) ∧ y = (ν (m_fan A x j), ixN A (PL (m_fan A x j)))
  | 0, _, y, hy => absurd hy List.not_mem_nil
  | n + 1, i, y, hy => by
    rcases List.mem_cons.mp hy with e | hy
    · exact ⟨i + 1, ⟨by omega, by omega⟩, e⟩
    · obtain ⟨j, h1, h2⟩ := pth_mem n (i + 1) y hy
      exact ⟨j, ⟨by omega, by omega⟩, h2⟩
/-- nodes of the path -/
theorem fan_v (hT : TB μ M A) (hE : bEx μ A) (hx : alv μ A x) : (0 ≤ m_pln A x - 1 ∧ m_fan A x (m_pln A x - 1) = x) ∧ (∀ a, 0 ≤ a → a ≤ m_pln A x - 1 → alv μ A (m_fan A x a) ∧ m_pln A (m_fan A x a) = a + 1 ∧ (m_fan A x a = 0 ↔ a = 0)) ∧ ∀ a, 1 ≤ a → a ≤ m_pln A x - 1 → A 217 0 (m_fan A x a) = m_fan A x (a - 1) := by
  have h1 := pln_rng hT.pr _ x (Nat.le_refl _) (by have := hx.1; omega) hx.1.2
  have h2 := h1.2.2 hx.1.1
  have ha : ∀ a, 0 ≤ a → a ≤ m_pln A x - 1 → alv μ A (m_fan A x a) ∧ m_pln A (m_fan A x a) = a + 1 := fun a a0 a1 => by
    unfold m_fan
    obtain ⟨z1, z2, z3⟩ := anc_alive hT hE hx.1 hx.2 (m_pln A x - 1 - a).toNat (by omega)
    exact ⟨⟨⟨z1.1, by have := hx.1.2; omega⟩, z2⟩, by rw [z3]; omega⟩
  refine ⟨⟨by omega, ?_⟩, fun a a0 a1 => ⟨(ha a a0 a1).1, (ha a a0 a1).2, ?_⟩, fun a a0 a1 => ?_⟩
  · unfold m_fan; rw [show (m_pln A x - 1 - (m_pln A x - 1)).toNat = 0 by omega]; rfl
  · obtain ⟨z1, z2⟩ := ha a a0 a1
    constructor
    · intro z
      rw [z, hT.pln0] at z2; omega
    · intro z
      refine Classical.byContradiction fun c => ?_
      have := pln_one hT.pr (fun j j0 j1 => (hT.2.2.2.2.2.2 j (by omega) j1).2.2.1 j0) z1.1 c
      omega
  · unfold m_fan
    rw [show (m_pln A x - 1 - (a - 1)).toNat = (m_pln A x - 1 - a).toNat + 1 by omega]; rfl
theorem vSp.sw {c : Int → Int} {G : Int → Int → Int} (h : vSp c σ G w A k) (hw : 0 ≤ A 212 0 k ∧ A 212 0 k < 16777216) : SWk w σ A k := ⟨h.1.1, h.2.1, h.2.2.1, h.2.2.2.1, hw.1, hw.2⟩
theorem SWk.f7 (h : SWk w σ A k) (e : FT7 w w1) : SWk w1 σ A k := by
  unfold SWk at h ⊢
  have g : ∀ {K : Nat} {a j : Int}, K = 0 ∨ K = 68 ∨ K = 69 ∨ K = 70 → w1 K a j = w K a j := fun z => e _ _ _ (by omega) (by omega) (by omega) (by omega) (by omega) (by omega) (by omega)
  rw [g (by decide), g (by decide), g (by decide), g (by decide)]; exact h
theorem RLm.sw {L : List Int} (h : RLm p μ f L w A) (hTX : TI μ (pl_ p) A) (hT : TB μ M A) (hl : A 122 μ.1 0 ≤ A 120 μ.1 0) (ha : alv μ A k) : ∀ i ∈ ixN A (pl_ p k), SWk w (ps_ p) A i := fun i hi => by
  have hn := (h.nd ha).2.2.2.2 i hi
  by_cases c : k = 0
  · rw [c, hTX.2.1] at hi; exact absurd hi List.not_mem_nil
  · refine (h.2.2.2 i hn.1 (by omega)).sw ?_
    obtain ⟨q, hq, q1, q2⟩ := ixN_mem hi
    have key : ∀ (ps : List Int) (p0 : Int), CHL 640 A p0 ps → ∀ q ∈ ps, ∀ i, A 218 0 q ≤ i → i < A 218 0 q + A 220 0 q → 0 ≤ A 212 0 i ∧ A 212 0 i < 16777216 := fun ps => by
      induction ps with
      | nil => exact fun _ _ q hq => absurd hq List.not_mem_nil
      | cons y ys ih =>
        intro p0 hc q hq
        rcases List.mem_cons.mp hq with rfl | hq
        · exact hc.2.2.2.2.1
        · exact ih _ hc.2.2.2.2.2 q hq
    exact key _ _ (hTX.2.2.1 k (by have := ha.1; omega) ha).1 q hq i q1 q2
/-- the nodes below -/
theorem RLm.blw {L : List Int} (h : RLm p μ f L w A) (h00 : w 0 0 0 = 0) (hT : TB μ M A) (hE : bEx μ A) (hx : alv μ A x) (e : FT7 w w1) : ∀ (m : Nat) (a p0 : Int), 0 ≤ a → a + m = m_pln A x - 1 → p0 = (if a = m_pln A x - 1 then 0 else pn_ p (m_fan A x (a + 1))) → (∀ j, a < j → j ≤ m_pln A x - 1 → w1 27 (pn_ p (m_fan A x j)) 0 = if j = m_pln A x - 1 then 0 else pn_ p (m_fan A x (j + 1))) → BLW w1 (ps_ p) p0 (pthB (pn_ p) (pl_ p) A x a m)
  | 0, a, p0, _, h1, h2, _ => by
    show p0 = 0
    rw [h2, if_pos (by omega)]
  | m + 1, a, p0, h0, h1, h2, h3 => by
    rw [if_neg (by omega)] at h2
    have ha := ((fan_v hT hE hx).2.1 (a + 1) (by omega) (by omega)).1
    obtain ⟨⟨⟨⟨x1, x2⟩, x3⟩, -, ⟨x4, x5⟩, -⟩, z2, -⟩ := vNd.z.mp (h.nd ha)
    have g : ∀ {K : Nat} {a j : Int}, K = 0 ∨ K = 25 ∨ K = 33 ∨ K = 34 → w1 K a j = w K a j := fun z => e _ _ _ (by omega) (by omega) (by omega) (by omega) (by omega) (by omega) (by omega)
    refine ⟨⟨h2, ?_, ?_, ?_, ?_⟩, h.blw h00 hT hE hx e m (a + 1) _ (by omega) (by omega) (h3 (a + 1) (by omega) (by omega)) fun j j0 j1 => h3 j (by omega) j1⟩
    · intro z
      have z' : pn_ p (m_fan A x (a + 1)) = 0 := z
      rw [z', h00] at x1
      exact absurd x1 (by decide)
    · show w1 0 (pn_ p (m_fan A x (a + 1))) 0 = 5
      rw [g (by decide)]; exact x1
    · show w1 0 (w1 25 (pn_ p (m_fan A x (a + 1))) 0) 0 = 8
      rw [g (K := 25) (by decide), g (by decide)]; exact x4
    · show CHa w1 (w1 34 (w1 25 (pn_ p (m_fan A x (a + 1))) 0) 0) _ 0
      rw [g (K := 25) (by decide), g (by decide)]
      exact z2.1.cg fun y _ => g (by decide)
theorem tcW_nn : ∀ xs : List Int, 0 ≤ tcW xs
  | [] => Int.le_refl 0
  | x :: xs => by have := tcW_nn xs; unfold tcW; split <;> omega
theorem trL_fit : ∀ (xs : List Int) (W : Mm), (0 ≤ W 137 μ.1 0 ∧ W 137 μ.1 0 ≤ 8) → ((m_trL μ xs W).1 ≠ 0 ↔ 1 ≤ W 137 μ.1 0 + tcW xs ∧ W 137 μ.1 0 + tcW xs ≤ 8)
  | [], W, h => by
    show bi (W 137 μ.1 0 > 0) ≠ 0 ↔ 1 ≤ W 137 μ.1 0 + 0 ∧ W 137 μ.1 0 + 0 ≤ 8
    rw [show (bi (W 137 μ.1 0 > 0) ≠ 0 ↔ W 137 μ.1 0 > 0) from bi_ne]
    omega
  | x :: xs, W, h => by
    have hn := tcW_nn xs
    simp only [m_trL, tcW]
    by_cases c : x % 8 ≤ 2
    · rw [if_pos c, if_pos c]
      by_cases c2 : W 137 μ.1 0 = 8
      · rw [if_pos c2]
        exact ⟨fun z => absurd rfl z, fun z => by omega⟩
      · rw [if_neg c2, trL_fit xs _ (by rw [trB_137]; omega), trB_137]
        omega
    · rw [if_neg c, if_neg c, trL_fit xs W h]
      omega
theorem tc_eq : ∀ L : List Int, (∀ k ∈ L, SWk w σ A k) → tcA w (L.map σ) = tcW (L.map (wdA A))
  | [], _ => rfl
  | k :: L, h => by
    have hk := h k List.mem_cons_self
    show (if w 68 (σ k) 0 ≤ 3 then 1 else 0) + tcA w (L.map σ) = (if A 212 0 k % 8 ≤ 2 then 1 else 0) + tcW (L.map (wdA A))
    rw [tc_eq L fun j hj => h j (List.mem_cons_of_mem _ hj), hk.2.1]
    have h0 := hk.2.2.2.2.1
    congr 1
    unfold kdC
    by_cases c : A 212 0 k % 8 ≤ 2
    · rw [if_pos c, if_pos (show A 212 0 k % 8 < 4 by omega), if_pos (show A 212 0 k % 8 + 1 ≤ 3 by omega)]
    · rw [if_neg c]
      by_cases c2 : A 212 0 k % 8 < 4
      · rw [if_pos c2, if_neg (by omega)]
      · rw [if_neg c2, if_neg (by decide)]
/-- a trace meets the region -/
theorem tou_fnd {x : Int → Int} {W : Mm} (h : TRr μ x σ κ A n w W) : (fnd (fun i => bi (¬ (w 73 (x i) 0 ≤ hi ∧ lo ≤ w 74 (x i) 0))) 0 n.toNat 0 ≠ -1) ↔ 0 < sumN (m_tou lo hi W) (W 137 μ.1 0).toNat := by
  obtain ⟨h1, h2, h3, hn0, hn8⟩ := h
  have e : ∀ i, 0 ≤ i → i < n → (m_tou lo hi W i = bi (w 73 (x i) 0 ≤ hi ∧ lo ≤ w 74 (x i) 0)) := fun i i0 i1 => by
    obtain ⟨⟨a1, a2, -⟩, -⟩ := h1 i i0 i1
    unfold m_tou; rw [← a1, ← a2]
  rw [h3, sumN_cong fun i i0 i1 => e i i0 (by omega)]
  rcases fnd_spec (fun i => bi (¬ (w 73 (x i) 0 ≤ hi ∧ lo ≤ w 74 (x i) 0))) 0 n.toNat 0 with ⟨z1, z2⟩ | ⟨z1, z2, z3⟩
  · refine ⟨fun z => absurd z1 z, fun z => ?_⟩
    obtain ⟨k, k0, k1, k2⟩ := sumN_pos z
    have hk := bi_p k2
    exact absurd (bi_0.mpr (fun y => y hk)) (z2 k k0 (by omega))
  · refine ⟨fun _ => ?_, fun _ => by omega⟩
    have hq := bi_0.mp z3.1
    have hq2 : w 73 (x (fnd (fun i => bi (¬ (w 73 (x i) 0 ≤ hi ∧ lo ≤ w 74 (x i) 0))) 0 n.toNat 0)) 0 ≤ hi ∧ lo ≤ w 74 (x (fnd (fun i => bi (¬ (w 73 (x i) 0 ≤ hi ∧ lo ≤ w 74 (x i) 0))) 0 n.toNat 0)) 0 := Classical.byContradiction hq
    have := sumN_ge (f := fun i => bi (w 73 (x i) 0 ≤ hi ∧ lo ≤ w 74 (x i) 0)) (fun j => bi_n) (n := n.toNat) (y := fnd (fun i => bi (¬ (w 73 (x i) 0 ≤ hi ∧ lo ≤ w 74 (x i) 0))) 0 n.toNat 0) ⟨z1, by omega⟩
    have e1 := bi_1.mpr hq2
    omega
end PTH
