/-! following traces along chains of steps -/
/-- step k: what its word says -/
def SWk (w : Mm) (σ : Int → Int) (A : Mm) (k : Int) : Prop := w 0 (σ k) 0 = 7 ∧ w 68 (σ k) 0 = kdC (A 212 0 k % 8) ∧ (A 212 0 k % 8 ≤ 2 → w 69 (σ k) 0 = A 212 0 k / 8 % 512 ∧ w 70 (σ k) 0 = wsz (A 212 0 k)) ∧ (2 < A 212 0 k % 8 → w 69 (σ k) 0 = 0 ∧ w 70 (σ k) 0 = 0) ∧ 0 ≤ A 212 0 k ∧ A 212 0 k < 16777216
/-- the nodes below, one after the other, with their steps -/
def BLW (w : Mm) (σ : Int → Int) : Int → List (Int × List Int) → Prop
  | p, [] => p = 0
  | p, b :: bs => (p = b.1 ∧ b.1 ≠ 0 ∧ w 0 b.1 0 = 5 ∧ w 0 (w 25 b.1 0) 0 = 8 ∧ CHa w (w 34 (w 25 b.1 0) 0) (b.2.map σ) 0) ∧ BLW w σ (w 27 b.1 0) bs
def wdA (A : Mm) (k : Int) : Int := A 212 0 k
def foB (μ : MU) (A : Mm) : List (Int × List Int) → Mm → Mm
  | [], W => W
  | b :: bs, W => foB μ A bs (m_foL μ (b.2.map (wdA A)) W)
def lnB : List (Int × List Int) → Int
  | [] => 0
  | b :: bs => b.2.length + lnB bs
/-- the traces' contents alone differ -/
def FTc (w w' : Mm) : Prop := ∀ (K : Nat) (a j : Int), K ≠ 36 → K ≠ 73 → K ≠ 74 → K ≠ 75 → K ≠ 76 → K ≠ 77 → w' K a j = w K a j
/-- what is no trace stays -/
def FTg (w w' : Mm) : Prop := ∀ (K : Nat) (a j : Int), w 0 a 0 ≠ 9 → w 0 a 0 ≠ 10 → w' K a j = w K a j
def BNd (n N : Int) (W : Mm) : Prop := ∀ i, 0 ≤ i → i < n → (-N ≤ W 244 0 i ∧ W 244 0 i ≤ N) ∧ (-N ≤ W 245 0 i ∧ W 245 0 i ≤ N)
abbrev txT (w : Mm) (T : Int) : Int → Int := fun i => w 3 (w 37 T 0) i
def TRS (μ : MU) (T : Int) (σ κ : Int → Int) (A w : Mm) (n N : Int) (w1 W : Mm) : Prop := TRr μ (txT w T) σ κ A n w1 W ∧ w1 77 T 0 = n ∧ FTc w w1 ∧ BNd n N W ∧ FTg w w1
def txS (A : Mm) (k : Int) : Bool := decide (A 212 0 k % 8 ≤ 2)
def OWI (μ : MU) (T : Int) (σ : Int → Int) (A w : Mm) (R0 : Int × Mm) (F0 : List Int) (rest : Int) (q : Int) (L1 : List Int) (w1 : Mm) : Prop := ∃ n κ W, CHa w q (L1.map σ) 0 ∧ TRS μ T σ κ A w n (5000 * (30001 - (L1.length + rest))) w1 W ∧ m_trL μ (L1.map (wdA A)) W = R0 ∧ (rng n.toNat 0).map κ ++ L1.filter (txS A) = F0
def BLI (μ : MU) (T : Int) (σ : Int → Int) (A w WE : Mm) (F0 : List Int) (q : Int) (Bs : List (Int × List Int)) (w1 : Mm) : Prop := ∃ n κ W, BLW w σ q Bs ∧ TRS μ T σ κ A w n (5000 * (30001 - lnB Bs)) w1 W ∧ foB μ A Bs W = WE ∧ (rng n.toNat 0).map κ = F0
def BII (μ : MU) (T : Int) (σ : Int → Int) (A w WE : Mm) (F0 : List Int) (q : Int) (L : List Int) (Bs : List (Int × List Int)) (w1 : Mm) : Prop := ∃ n κ W, CHa w q (L.map σ) 0 ∧ TRS μ T σ κ A w n (5000 * (30001 - (L.length + lnB Bs))) w1 W ∧ foB μ A Bs (m_foL μ (L.map (wdA A)) W) = WE ∧ (rng n.toNat 0).map κ = F0
section FOL
variable {σ κ : Int → Int} {w w1 w' W A WE : Mm} {k n N N' q d i j z y T rest : Int} {μ : MU} {L : List Int} {Bs : List (Int × List Int)} {R0 : Int × Mm} {F0 : List Int}
theorem lnB_nn : ∀ Bs : List (Int × List Int), 0 ≤ lnB Bs
  | [] => Int.le_refl 0
  | b :: bs => by have := lnB_nn bs; unfold lnB; omega
theorem BNd.mv (h : BNd n N W) (hn : 0 ≤ n) (hk : 0 ≤ k ∧ k ≤ 4096) {y : Int} (hN : N + 5000 ≤ N') : BNd n N' (m_mvN μ d q k y n.toNat W) := fun i i0 i1 => by
  obtain ⟨e1, e2⟩ := mvN_v (μ := μ) (d := d) (q := q) (k := k) (y := y) (w := W) n.toNat i i0 (by omega)
  have := h i i0 i1
  rw [e1, e2]
  unfold mvA mvB
  repeat' split
  all_goals omega
theorem SWk.b (h : SWk w σ A k) : (-1000000000 ≤ w 69 (σ k) 0 ∧ w 69 (σ k) 0 ≤ 1000000000) ∧ (-1000000000 ≤ w 70 (σ k) 0 ∧ w 70 (σ k) 0 ≤ 1000000000) ∧ 0 ≤ wsz (A 212 0 k) ∧ wsz (A 212 0 k) ≤ 4096 := by
  obtain ⟨-, -, h1, h2, h3, h4⟩ := h
  have hw : 0 ≤ wsz (A 212 0 k) ∧ wsz (A 212 0 k) ≤ 4096 := by unfold wsz; split <;> omega
  by_cases c : A 212 0 k % 8 ≤ 2
  · obtain ⟨e1, e2⟩ := h1 c
    rw [e1, e2]; omega
  · obtain ⟨e1, e2⟩ := h2 (by omega)
    rw [e1, e2]; omega
theorem TRS.t (h : TRS μ T σ κ A w n N w1 W) (hT : TrT w T) (hX : TrX w T) (hN : N ≤ 1000000000) : TrT w1 T ∧ TrX w1 T ∧ TrBn w1 T (w1 77 T 0) ∧ (∀ i, w1 3 (w1 37 T 0) i = w 3 (w 37 T 0) i) := by
  obtain ⟨⟨h1, h2, h3, h4, h5⟩, e77, hF, hB, -⟩ := h
  have e : ∀ {K : Nat} {a j : Int}, K = 0 ∨ K = 2 ∨ K = 3 ∨ K = 37 → w1 K a j = w K a j := fun z => hF _ _ _ (by omega) (by omega) (by omega) (by omega) (by omega) (by omega)
  have e3 : ∀ i, w1 3 (w1 37 T 0) i = w 3 (w 37 T 0) i := fun i => by rw [e (by decide), e (by decide)]
  refine ⟨?_, ?_, fun i i0 i1 => ?_, e3⟩
  · unfold TrT
    rw [e (K := 37) (by decide), e (by decide), e (by decide), e (by decide), e77]
    exact ⟨hT.1, hT.2.1, hT.2.2.1, h4, h5⟩
  · refine ⟨fun i i0 i1 => by rw [e3, e (by decide)]; exact hX.1 i i0 i1, fun i j i0 i1 j0 j1 ij => by rw [e3, e3]; exact hX.2 i j i0 i1 j0 j1 ij⟩
  · rw [e77] at i1
    rw [e3]
    obtain ⟨⟨a1, a2, a3⟩, a4, -⟩ := h1 i i0 i1
    have hb := hB i i0 i1
    have hp := pw_le ⟨n.toNat, by omega⟩
    dsimp only at hp
    rw [show ((n.toNat : Nat) : Int) = n by omega] at hp
    have a1' : w1 73 (w 3 (w 37 T 0) i) 0 = W 244 0 i := a1
    have a2' : w1 74 (w 3 (w 37 T 0) i) 0 = W 245 0 i := a2
    have a4' : 0 ≤ w1 76 (w 3 (w 37 T 0) i) 0 ∧ w1 76 (w 3 (w 37 T 0) i) 0 < pw n := a4
    omega
theorem TrX.inj (hX : TrX w T) : xinj (txT w T) := fun i j i0 i1 j0 j1 ij => hX.2 i j i0 i1 j0 j1 ij
theorem FTc.refl : FTc w w := fun _ _ _ _ _ _ _ _ _ => rfl
theorem FTc.met {k p n : Int} {x : Int → Int} {c : Nat} (h : FTc w w1) : FTc w (ts_met x k p n w1 c) := fun K a j z1 z2 z3 z4 z5 z6 => by rw [ts_met_k z2 z3 z4]; exact h K a j z1 z2 z3 z4 z5 z6
theorem FTc.own {k p n q : Int} {x : Int → Int} {c : Nat} (h : FTc w w1) : FTc w (ts_own x q k p n w1 c) := fun K a j z1 z2 z3 z4 z5 z6 => by rw [ts_own_k z2 z3 z4 z5]; exact h K a j z1 z2 z3 z4 z5 z6
theorem FTc.u (h : FTc w w1) {K : Nat} {a v : Int} (hK : K = 36 ∨ (73 ≤ K ∧ K ≤ 77)) : FTc w (up w1 K a 0 v) := fun K' a' j z1 z2 z3 z4 z5 z6 => by rw [up_k _ (by omega)]; exact h K' a' j z1 z2 z3 z4 z5 z6
theorem FTc.beg (h : FTc w w1) {x t : Int} : FTc w (tr_begin x t w1) := ((((h.u (by decide)).u (by decide)).u (by decide)).u (by decide)).u (by decide)
theorem FTg.refl : FTg w w := fun _ _ _ _ _ => rfl
theorem FTg.met {k p n : Int} {c : Nat} (h : FTg w w1) (hX : TrX w T) (hc : c ≤ 8) : FTg w (ts_met (txT w T) k p n w1 c) := fun K a j z1 z2 => by rw [ts_met_a (fun m hm e => z1 (by rw [e]; exact hX.1 m (by omega) (by omega)))]; exact h K a j z1 z2
theorem FTg.own {k p n q : Int} {c : Nat} (h : FTg w w1) (hX : TrX w T) (hc : c ≤ 8) : FTg w (ts_own (txT w T) q k p n w1 c) := fun K a j z1 z2 => by rw [ts_own_a (fun m hm e => z1 (by rw [e]; exact hX.1 m (by omega) (by omega)))]; exact h K a j z1 z2
theorem FTg.u (h : FTg w w1) {K : Nat} {a i v : Int} (ha : w 0 a 0 = 9 ∨ w 0 a 0 = 10) : FTg w (up w1 K a i v) := fun K' a' j z1 z2 => by rw [up_a _ _ _ (fun e => by rw [e] at z1 z2; omega)]; exact h K' a' j z1 z2
theorem FTg.beg (h : FTg w w1) {x t : Int} (hx : w 0 x 0 = 9) : FTg w (tr_begin x t w1) := ((((h.u (Or.inl hx)).u (Or.inl hx)).u (Or.inl hx)).u (Or.inl hx)).u (Or.inl hx)
theorem CHa.hdm {p : Int} (h : CHa w p (L.map σ) 0) (hp : p ≠ 0) : ∃ k L', L = k :: L' ∧ p = σ k ∧ CHa w (w 33 p 0) (L'.map σ) 0 := by
  cases L with
  | nil => exact absurd h hp
  | cons k L' => obtain ⟨⟨e, -⟩, e2⟩ := h; exact ⟨k, L', rfl, e, by rw [e]; exact e2⟩
theorem CHa.tl (h : CHa w 0 (L.map σ) 0) : L = [] := by
  cases L with
  | nil => rfl
  | cons k L' => obtain ⟨⟨e, e0⟩, -⟩ := h; exact absurd e.symm e0
/-- a text step of the change itself -/
theorem OWI.txt (h : CHa w (w 33 (σ k) 0) (L.map σ) 0) (hs : TRS μ T σ κ A w n (5000 * (30001 - (((k :: L).length : Nat) + rest))) w1 W) (hX : TrX w T) (hT0 : w 0 T 0 = 10) (hR : m_trL μ ((k :: L).map (wdA A)) W = R0) (hR0 : R0.1 ≠ 0) (hF : (rng n.toNat 0).map κ ++ (k :: L).filter (txS A) = F0) (hk : SWk w σ A k) (hz : A 212 0 k % 8 ≤ 2) (hr : 0 ≤ rest ∧ L.length + 1 + rest ≤ 30000) :
    n < 8 ∧ OWI μ T σ A w R0 F0 rest (w 33 (σ k) 0) L (up (tr_begin (txT w T n) (σ k) (ts_own (txT w T) n (w 68 (σ k) 0) (w 69 (σ k) 0) (w 70 (σ k) 0) w1 n.toNat)) 77 T 0 (n + 1)) := by
  obtain ⟨h1, h2, h3, h4, h5⟩ := hs
  have hn := h1.2.2
  have hR' : m_trL μ (A 212 0 k :: L.map (wdA A)) W = R0 := hR
  simp only [m_trL] at hR'
  rw [if_pos hz] at hR'
  have hn8 : n < 8 := by
    by_cases c : W 137 μ.1 0 = 8
    · rw [if_pos c] at hR'; rw [← hR'] at hR0; exact absurd rfl hR0
    · omega
  rw [if_neg (by omega)] at hR'
  obtain ⟨k1, k2, k3, k4, k5, k6⟩ := id hk
  obtain ⟨e69, e70⟩ := k3 hz
  have e68 : w 68 (σ k) 0 = A 212 0 k % 8 + 1 := by rw [k2]; unfold kdC; rw [if_pos (by omega)]
  have hb := hk.b.2.2
  have e8 : w1 68 (σ k) 0 = w 68 (σ k) 0 := h3 _ _ _ (by decide) (by decide) (by decide) (by decide) (by decide) (by decide)
  have e9 : w1 69 (σ k) 0 = w 69 (σ k) 0 := h3 _ _ _ (by decide) (by decide) (by decide) (by decide) (by decide) (by decide)
  have e10 : w1 70 (σ k) 0 = w 70 (σ k) 0 := h3 _ _ _ (by decide) (by decide) (by decide) (by decide) (by decide) (by decide)
  have o := h1.own (y := σ k) (j := k) (T := T) hX.inj hn8 rfl hz k5 rfl (e8.trans e68) (e9.trans e69) (e10.trans e70)
  refine ⟨hn8, n + 1, cset κ n k, _, h, ⟨?_, up_s _ _ _ _ _, ((h3.own).beg).u (by decide), ?_, ((h5.own hX (by omega)).beg (hX.1 n hn.2.1 hn8)).u (Or.inr hT0)⟩, hR', ?_⟩
  · rw [e68, e69, e70]; exact o
  · have hm := h4.mv (μ := μ) (d := A 212 0 k % 8) (q := A 212 0 k / 8 % 512) (k := wsz (A 212 0 k)) (y := n) (N' := 5000 * (30001 - (L.length + rest))) hn.2.1 hb (by rw [List.length_cons]; omega)
    intro i i0 i1
    unfold m_trB m_trA
    rw [hn.1]
    simp (disch := decide) only [up_k]
    by_cases c : i = n
    · subst c
      rw [up_s, up_s]
      split <;> omega
    · simp (disch := first | decide | exact c) only [up_k, up_i]
      exact hm i i0 (by omega)
  · rw [← hF, show (n + 1).toNat = n.toNat + 1 by omega, rng_snoc, List.map_append, List.filter_cons_of_pos (by unfold txS; exact decide_eq_true hz), show (0 : Int) + ((n.toNat : Nat) : Int) = n by omega]
    rw [List.map_congr_left (g := κ) (fun j hj => cset_o (by rw [rng_mem] at hj; omega))]
    rw [List.append_assoc]
    show _ ++ ([cset κ n k n] ++ _) = _
    rw [cset_s]; rfl
theorem OWI.non (h : CHa w (w 33 (σ k) 0) (L.map σ) 0) (hs : TRS μ T σ κ A w n (5000 * (30001 - (((k :: L).length : Nat) + rest))) w1 W) (hR : m_trL μ ((k :: L).map (wdA A)) W = R0) (hF : (rng n.toNat 0).map κ ++ (k :: L).filter (txS A) = F0) (hk : SWk w σ A k) (hz : ¬ A 212 0 k % 8 ≤ 2) : ts_own (txT w T) n (w 68 (σ k) 0) (w 69 (σ k) 0) (w 70 (σ k) 0) w1 n.toNat = w1 ∧ OWI μ T σ A w R0 F0 rest (w 33 (σ k) 0) L w1 := by
  obtain ⟨h1, h2, h3, h4, h5⟩ := hs
  have hR' : m_trL μ (A 212 0 k :: L.map (wdA A)) W = R0 := hR
  simp only [m_trL] at hR'
  rw [if_neg hz] at hR'
  refine ⟨own_n (by rw [hk.2.1]; unfold kdC; split <;> omega) _, n, κ, W, h, ⟨h1, h2, h3, fun i i0 i1 => ?_, h5⟩, hR', by rw [← hF, List.filter_cons_of_neg (by unfold txS; simpa using hz)]⟩
  have := h4 i i0 i1
  rw [List.length_cons] at this
  omega
theorem OWI.fin (h : OWI μ T σ A w R0 F0 (lnB Bs) 0 L w1) (hR0 : R0.1 ≠ 0) (hB : BLW w σ q Bs) : BLI μ T σ A w (foB μ A Bs R0.2) F0 q Bs w1 := by
  obtain ⟨n, κ, W, h1, h2, h3, h4⟩ := h
  have hL := h1.tl
  subst hL
  have e : (bi (W 137 μ.1 0 > 0), W) = R0 := h3
  refine ⟨n, κ, W, hB, ?_, by rw [← e], by rw [← h4]; exact (List.append_nil _).symm⟩
  have h2' := h2
  rw [List.length_nil, show ((0 : Nat) : Int) + lnB Bs = lnB Bs by omega] at h2'
  exact h2'
/-- a step of a later change -/
theorem BII.st (h : CHa w (w 33 (σ k) 0) (L.map σ) 0) (hs : TRS μ T σ κ A w n (5000 * (30001 - (((k :: L).length : Nat) + lnB Bs))) w1 W) (hX : TrX w T) (hR : foB μ A Bs (m_foL μ ((k :: L).map (wdA A)) W) = WE) (hF : (rng n.toNat 0).map κ = F0) (hk : SWk w σ A k) : BII μ T σ A w WE F0 (w 33 (σ k) 0) L Bs (ts_met (txT w T) (w 68 (σ k) 0) (w 69 (σ k) 0) (w 70 (σ k) 0) w1 n.toNat) := by
  obtain ⟨h1, h2, h3, h4, h5⟩ := hs
  have hn := h1.2.2
  obtain ⟨k1, k2, k3, k4, k5, k6⟩ := id hk
  have hb := hk.b.2.2
  have hR' : foB μ A Bs (m_foL μ (A 212 0 k :: L.map (wdA A)) W) = WE := hR
  simp only [m_foL] at hR'
  by_cases hz : A 212 0 k % 8 ≤ 2
  · rw [if_pos hz] at hR'
    obtain ⟨e69, e70⟩ := k3 hz
    have e68 : w 68 (σ k) 0 = A 212 0 k % 8 + 1 := by rw [k2]; unfold kdC; rw [if_pos (by omega)]
    rw [e68, e69, e70]
    refine ⟨n, κ, _, h, ⟨h1.met hX.inj ⟨by omega, hz⟩, ?_, h3.met, ?_, h5.met hX (by omega)⟩, hR', hF⟩
    · rw [ts_met_k (by decide) (by decide) (by decide)]; exact h2
    · rw [hn.1]
      exact h4.mv hn.2.1 hb (by rw [List.length_cons]; omega)
  · rw [if_neg hz] at hR'
    rw [met_n (by rw [k2]; unfold kdC; split <;> omega)]
    refine ⟨n, κ, W, h, ⟨h1, h2, h3, fun i i0 i1 => ?_, h5⟩, hR', hF⟩
    have := h4 i i0 i1
    rw [List.length_cons] at this
    omega
theorem BLI.hd (h : BLI μ T σ A w WE F0 q Bs w1) (hq : q ≠ 0) : ∃ b bs, Bs = b :: bs ∧ q = b.1 ∧ (w 0 q 0 = 5 ∧ w 0 (w 25 q 0) 0 = 8) ∧ BII μ T σ A w WE F0 (w 34 (w 25 q 0) 0) b.2 bs w1 ∧ BLW w σ (w 27 q 0) bs := by
  obtain ⟨n, κ, W, h1, h2, h3, h4⟩ := h
  cases Bs with
  | nil => exact absurd h1 hq
  | cons b bs =>
    obtain ⟨⟨e1, e2, e3, e4, e5⟩, e6⟩ := h1
    subst e1
    exact ⟨b, bs, rfl, rfl, ⟨e3, e4⟩, ⟨n, κ, W, e5, h2, h3, h4⟩, e6⟩
theorem BLI.tl (h : BLI μ T σ A w WE F0 0 Bs w1) : ∃ n κ, TRS μ T σ κ A w n 150005000 w1 WE ∧ (rng n.toNat 0).map κ = F0 := by
  obtain ⟨n, κ, W, h1, h2, h3, h4⟩ := h
  cases Bs with
  | nil =>
    subst h3
    exact ⟨n, κ, h2, h4⟩
  | cons b bs => obtain ⟨⟨e1, e2, -⟩, -⟩ := h1; exact absurd e1.symm e2
theorem BII.tl (h : BII μ T σ A w WE F0 0 L Bs w1) (hB : BLW w σ q Bs) : BLI μ T σ A w WE F0 q Bs w1 := by
  obtain ⟨n, κ, W, h1, h2, h3, h4⟩ := h
  have hL := h1.tl
  subst hL
  have h2' := h2
  rw [List.length_nil, show ((0 : Nat) : Int) + lnB Bs = lnB Bs by omega] at h2'
  exact ⟨n, κ, W, hB, h2', h3, h4⟩
end FOL
