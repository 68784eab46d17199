theorem mov_v {μ : MU} {t d q k y : Int} {w : Mm} : m_mov μ t d q k y w 244 0 t = mvA d q k (w 244 0 t) (w 245 0 t) ∧ m_mov μ t d q k y w 245 0 t = mvB d q k (w 244 0 t) (w 245 0 t) := by
  unfold m_mov mvA mvB
  split
  · unfold m_mvR; rw [up_k _ (by decide), up_k _ (by decide)]; exact ⟨rfl, rfl⟩
  · split
    · unfold m_mvI; simp (disch := decide) only [up_k, up_s]; refine ⟨?_, ?_⟩ <;> first | rfl | trivial
    · unfold m_mvD; simp (disch := decide) only [up_k, up_s]; refine ⟨?_, ?_⟩ <;> first | rfl | trivial
theorem mov_138 {μ : MU} {t d q k y : Int} {w : Mm} : m_mov μ t d q k y w 138 μ.1 0 = 0 ↔ w 138 μ.1 0 = 0 ∧ ¬ cov d q k (w 244 0 t) (w 245 0 t) := by
  unfold m_mov cov
  split
  · unfold m_mvR; rw [up_s, bi_0]; omega
  · split
    · unfold m_mvI; simp (disch := decide) only [up_k, up_s]; rw [bi_0]; omega
    · unfold m_mvD; simp (disch := decide) only [up_k, up_s]; rw [bi_0]; omega
theorem mvN_v {μ : MU} {d q k y : Int} {w : Mm} : ∀ (n : Nat) (i : Int), 0 ≤ i → i < n → m_mvN μ d q k y n w 244 0 i = mvA d q k (w 244 0 i) (w 245 0 i) ∧ m_mvN μ d q k y n w 245 0 i = mvB d q k (w 244 0 i) (w 245 0 i)
  | 0, i, a, b => by omega
  | n + 1, i, a, b => by
    simp only [m_mvN]
    by_cases c : i = n
    · subst c
      have := mov_v (μ := μ) (t := n) (d := d) (q := q) (k := k) (y := y) (w := m_mvN μ d q k y n w)
      rw [mvN_o (Or.inl rfl) n (Int.le_refl _), mvN_o (Or.inr rfl) n (Int.le_refl _)] at this
      exact this
    · rw [mov_o (Or.inl rfl) c, mov_o (Or.inr rfl) c]; exact mvN_v n i a (by omega)
theorem mvN_138 {μ : MU} {d q k y : Int} {w : Mm} : ∀ (n : Nat), m_mvN μ d q k y n w 138 μ.1 0 = 0 ↔ w 138 μ.1 0 = 0 ∧ ∀ i : Int, 0 ≤ i → i < n → ¬ cov d q k (w 244 0 i) (w 245 0 i)
  | 0 => ⟨fun h => ⟨h, fun i a b => by omega⟩, fun h => h.1⟩
  | n + 1 => by
    simp only [m_mvN]
    rw [mov_138, mvN_138 n, mvN_o (Or.inl rfl) n (Int.le_refl _), mvN_o (Or.inr rfl) n (Int.le_refl _)]
    constructor
    · rintro ⟨⟨h1, h2⟩, h3⟩
      refine ⟨h1, fun i a b => ?_⟩
      by_cases c : i = n
      · subst c; exact h3
      · exact h2 i a (by omega)
    · rintro ⟨h1, h2⟩
      exact ⟨⟨h1, fun i a b => h2 i a (by omega)⟩, h2 n (by omega) (by omega)⟩
/-! lengths of the text along a list of steps -/
def okW (x L : Int) : Prop := x % 8 ≤ 2 → okS (x % 8) (x / 8 % 512) (wsz x) L ∧ x / 8 % 512 + wsz x ≤ 400
def lnW (x L : Int) : Int := if x % 8 ≤ 2 then lnA (x % 8) (wsz x) L else L
def LNL : List Int → Int → Prop
  | [], _ => True
  | x :: xs, L => okW x L ∧ LNL xs (lnW x L)
def lnL : List Int → Int → Int
  | [], L => L
  | x :: xs, L => lnL xs (lnW x L)
theorem LNL_app : ∀ (A B : List Int) (L : Int), LNL (A ++ B) L ↔ LNL A L ∧ LNL B (lnL A L)
  | [], B, L => ⟨fun h => ⟨trivial, h⟩, fun h => h.2⟩
  | x :: A, B, L => by
    show (_ ∧ LNL (A ++ B) _) ↔ (_ ∧ LNL A _) ∧ LNL B (lnL A _)
    rw [LNL_app A B]
    exact and_assoc.symm
theorem lnL_app : ∀ (A B : List Int) (L : Int), lnL (A ++ B) L = lnL B (lnL A L)
  | [], _, _ => rfl
  | x :: A, B, L => lnL_app A B _
def CT (μ : MU) (L : Int) (w : Mm) : Prop := w 138 μ.1 0 = 0 → TVr (fun i => w 244 0 i) (fun i => w 245 0 i) (w 137 μ.1 0) L
def KS (μ : MU) (w : Mm) : Prop := ∀ i, 0 ≤ i → i < w 137 μ.1 0 → (0 ≤ w 241 0 i ∧ w 241 0 i ≤ 2) ∧ ((0 ≤ w 242 0 i ∧ 0 ≤ w 243 0 i) ∧ w 242 0 i + w 243 0 i ≤ 400) ∧ (w 245 0 i - w 244 0 i = if w 241 0 i = 1 then 0 else w 243 0 i) ∧ (w 241 0 i = 2 → w 243 0 i = 1)
theorem mvN_137 {μ : MU} {d q k y : Int} {w : Mm} (n : Nat) : m_mvN μ d q k y n w 137 μ.1 0 = w 137 μ.1 0 := mvN_at (by decide) n
theorem CT.mvN {μ : MU} {L d q k y : Int} {w : Mm} (h : CT μ L w) (hn : 0 ≤ w 137 μ.1 0) (hs : okS d q k L) : CT μ (lnA d k L) (m_mvN μ d q k y (w 137 μ.1 0).toNat w) := by
  intro h0
  rw [mvN_138] at h0
  rw [mvN_137]
  exact (h h0.1).step hs (fun i a b => h0.2 i a (by omega)) (fun i a b => (mvN_v _ i a (by omega)).1) (fun i a b => (mvN_v _ i a (by omega)).2)
theorem KS.mvN {μ : MU} {d q k y : Int} {w : Mm} (h : KS μ w) (hn : 0 ≤ w 137 μ.1 0) : KS μ (m_mvN μ d q k y (w 137 μ.1 0).toNat w) := by
  intro i a b
  rw [mvN_137] at b
  have h1 := h i a b
  have h2 := mvN_v (μ := μ) (d := d) (q := q) (k := k) (y := y) (w := w) (w 137 μ.1 0).toNat i a (by omega)
  rw [mvN_at (by decide), mvN_at (by decide), mvN_at (by decide), h2.1, h2.2, mvA_B]
  exact h1
theorem trAB {μ : MU} {x L : Int} {w : Mm} (h : CT μ L w) (hk : KS μ w) (hn : 0 ≤ w 137 μ.1 0) (hx : x % 8 ≤ 2) (hw : okW x L) : CT μ (lnW x L) (m_trB μ x (w 137 μ.1 0) (m_trA μ x w)) ∧ KS μ (m_trB μ x (w 137 μ.1 0) (m_trA μ x w)) := by
  obtain ⟨hs, h4⟩ := hw hx
  have e8 : 0 ≤ x % 8 := Int.emod_nonneg _ (by decide)
  have e5 : 0 ≤ x / 8 % 512 := Int.emod_nonneg _ (by decide)
  have kA := hk.mvN (d := x % 8) (q := x / 8 % 512) (k := wsz x) (y := w 137 μ.1 0) hn
  have e1 : lnW x L = lnA (x % 8) (wsz x) L := by unfold lnW; rw [if_pos hx]
  refine ⟨?_, ?_⟩
  · intro h0
    have h0' : m_trA μ x w 138 μ.1 0 = 0 := by
      have e : m_trB μ x (w 137 μ.1 0) (m_trA μ x w) 138 μ.1 0 = m_trA μ x w 138 μ.1 0 := by unfold m_trB; simp (disch := decide) only [up_k]
      rw [e] at h0; exact h0
    unfold m_trA at h0'
    rw [mvN_138] at h0'
    rw [trB_137, e1]
    refine (h h0'.1).push hn hs (fun i a b => h0'.2 i a (by omega)) (fun i a b => ?_) (fun i a b => ?_) ?_ ?_ ⟨e8, hx⟩
    · show m_trB μ x _ _ 244 0 i = _
      unfold m_trB; simp (disch := decide) only [up_k, up_ii]
      rw [if_neg (by omega)]
      exact (mvN_v _ i a (by omega)).1
    · show m_trB μ x _ _ 245 0 i = _
      unfold m_trB; simp (disch := decide) only [up_k, up_ii]
      rw [if_neg (by omega)]
      exact (mvN_v _ i a (by omega)).2
    · show m_trB μ x _ _ 244 0 _ = _
      unfold m_trB; simp (disch := decide) only [up_k, up_s]
    · show m_trB μ x _ _ 245 0 _ = _
      unfold m_trB; simp (disch := decide) only [up_k, up_s]
  · intro i a b
    rw [trB_137] at b
    unfold m_trB; simp (disch := decide) only [up_k, up_ii]
    by_cases c : i = w 137 μ.1 0
    · simp only [if_pos c]
      have := hs.2.1
      have := hs.2.2.2.2
      refine ⟨⟨e8, hx⟩, ⟨⟨e5, by omega⟩, h4⟩, ?_, this⟩
      split <;> omega
    · simp only [if_neg c]
      exact kA i a (by rw [mvN_137]; omega)
theorem trL_tv {μ : MU} : ∀ (xs : List Int) (w : Mm) (L : Int), LNL xs L → CT μ L w → KS μ w → (0 ≤ w 137 μ.1 0 ∧ w 137 μ.1 0 ≤ 8) → (m_trL μ xs w).1 ≠ 0 → CT μ (lnL xs L) (m_trL μ xs w).2 ∧ KS μ (m_trL μ xs w).2
  | [], w, L, _, h, hk, _, _ => ⟨h, hk⟩
  | x :: xs, w, L, hl, h, hk, hn, hr => by
    obtain ⟨h1, h2⟩ := hl
    simp only [m_trL, lnL] at hr ⊢
    by_cases c : x % 8 ≤ 2
    · rw [if_pos c] at hr ⊢
      by_cases c2 : w 137 μ.1 0 = 8
      · rw [if_pos c2] at hr; exact absurd rfl hr
      · rw [if_neg c2] at hr ⊢
        obtain ⟨g1, g2⟩ := trAB h hk hn.1 c h1
        exact trL_tv xs _ _ h2 g1 g2 (by rw [trB_137]; omega) hr
    · rw [if_neg c] at hr ⊢
      have : lnW x L = L := by unfold lnW; rw [if_neg c]
      rw [this] at h2 ⊢
      exact trL_tv xs w L h2 h hk hn hr
theorem foL_tv {μ : MU} : ∀ (xs : List Int) (w : Mm) (L : Int), LNL xs L → CT μ L w → KS μ w → 0 ≤ w 137 μ.1 0 → CT μ (lnL xs L) (m_foL μ xs w) ∧ KS μ (m_foL μ xs w)
  | [], w, L, _, h, hk, _ => ⟨h, hk⟩
  | x :: xs, w, L, hl, h, hk, hn => by
    obtain ⟨h1, h2⟩ := hl
    simp only [m_foL, lnL]
    by_cases c : x % 8 ≤ 2
    · rw [if_pos c]
      have : lnW x L = lnA (x % 8) (wsz x) L := by unfold lnW; rw [if_pos c]
      rw [this] at h2 ⊢
      exact foL_tv xs _ _ h2 (h.mvN hn (h1 c).1) (hk.mvN hn) (by rw [mvN_137]; exact hn)
    · rw [if_neg c]
      have : lnW x L = L := by unfold lnW; rw [if_neg c]
      rw [this] at h2 ⊢
      exact foL_tv xs w L h2 h hk hn
/-- length of the text behind the first n changes of a path -/
def lnN (PL : Int → List Int) (x : Int) (b : Mm) (n : Nat) : Int := lnL ((RSn PL x b n).map Prod.fst) 0
def LNN (PL : Int → List Int) (x : Int) (b : Mm) (n : Nat) : Prop := LNL ((RSn PL x b n).map Prod.fst) 0
theorem LNN_s {PL : Int → List Int} {x : Int} {b : Mm} {n : Nat} : LNN PL x b (n + 1) ↔ LNN PL x b n ∧ LNL (nodeW b (PL (m_fan b x ((n : Int) + 1)))) (lnN PL x b n) := by
  unfold LNN lnN m_fan
  simp only [RSn, List.map_append]
  rw [LNL_app, nodeW_map]
theorem lnN_s {PL : Int → List Int} {x : Int} {b : Mm} {n : Nat} : lnN PL x b (n + 1) = lnL (nodeW b (PL (m_fan b x ((n : Int) + 1)))) (lnN PL x b n) := by
  unfold lnN m_fan
  simp only [RSn, List.map_append]
  rw [lnL_app, nodeW_map]
theorem LNN_mono {PL : Int → List Int} {x : Int} {b : Mm} {n : Nat} : ∀ {m : Nat}, n ≤ m → LNN PL x b m → LNN PL x b n
  | 0, h, g => by have : n = 0 := by omega
                  subst this; exact g
  | m + 1, h, g => by
    by_cases c : n = m + 1
    · subst c; exact g
    · exact LNN_mono (m := m) (by omega) (LNN_s.mp g).1
theorem foP_tv {μ : MU} {PL : Int → List Int} {x : Int} {b : Mm} {a : Nat} {W : Mm} (h : CT μ (lnN PL x b a) W) (hk : KS μ W) (hn : 0 ≤ W 137 μ.1 0) : ∀ n : Nat, LNN PL x b (a + n) → CT μ (lnN PL x b (a + n)) (m_foP μ PL x b a n W) ∧ KS μ (m_foP μ PL x b a n W) ∧ m_foP μ PL x b a n W 137 μ.1 0 = W 137 μ.1 0
  | 0, _ => ⟨h, hk, rfl⟩
  | n + 1, hl => by
    rw [show a + (n + 1) = (a + n) + 1 by omega] at hl ⊢
    obtain ⟨l1, l2⟩ := LNN_s.mp hl
    obtain ⟨g1, g2, g3⟩ := foP_tv h hk hn n l1
    rw [show (((a + n : Nat) : Int) + 1) = (a : Int) + 1 + (n : Int) by omega] at l2
    rw [lnN_s, show (((a + n : Nat) : Int) + 1) = (a : Int) + 1 + (n : Int) by omega]
    simp only [m_foP]
    have o := foL_tv _ _ _ l2 g1 g2 (by rw [g3]; exact hn)
    refine ⟨o.1, o.2, ?_⟩
    have : ∀ (ys : List Int) (V : Mm), m_foL μ ys V 137 μ.1 0 = V 137 μ.1 0 := fun ys => by
      induction ys with
      | nil => intro V; rfl
      | cons y ys ih =>
        intro V
        simp only [m_foL]
        rw [ih]
        split
        · exact mvN_137 _
        · rfl
    rw [this, g3]
/-- what the traces hold when a change is found -/
theorem fdR_tv {μ : MU} {PL : Int → List Int} {x lo hi : Int} {b : Mm} : ∀ (n : Nat) (W : Mm), (n : Int) ≤ m_pln b x - 1 → LNN PL x b (m_pln b x - 1).toNat → (m_fdR μ PL x b lo hi n W).1 ≠ -1 → (1 ≤ (m_fdR μ PL x b lo hi n W).1 ∧ (m_fdR μ PL x b lo hi n W).1 ≤ n) ∧ TVr (fun i => (m_fdR μ PL x b lo hi n W).2 244 0 i) (fun i => (m_fdR μ PL x b lo hi n W).2 245 0 i) ((m_fdR μ PL x b lo hi n W).2 137 μ.1 0) (lnN PL x b (m_pln b x - 1).toNat) ∧ KS μ (m_fdR μ PL x b lo hi n W).2 ∧ 1 ≤ (m_fdR μ PL x b lo hi n W).2 137 μ.1 0
  | 0, W, _, _, h => absurd rfl h
  | n + 1, W, hn, hl, h => by
    simp only [m_fdR] at h ⊢
    by_cases c : m_hit μ lo hi (m_can μ PL x b ((n : Int) + 1) W).1 (m_fol μ PL x b ((n : Int) + 1) (m_can μ PL x b ((n : Int) + 1) W))
    · rw [if_pos c] at h ⊢
      dsimp only at h ⊢
      obtain ⟨c1, c2, c3⟩ := c
      have l1 := LNN_mono (n := n + 1) (by omega) hl
      obtain ⟨l2, l3⟩ := LNN_s.mp l1
      have k0 : KS μ (up (up W 138 μ.1 0 0) 137 μ.1 0 0) := fun i a q => by rw [up_s] at q; omega
      have t0 : CT μ (lnN PL x b n) (up (up W 138 μ.1 0 0) 137 μ.1 0 0) := fun _ => ⟨fun i a q => by rw [up_s] at q; omega, fun i j a q r => by rw [up_s] at r; omega⟩
      have hc : CT μ (lnN PL x b (n + 1)) (m_can μ PL x b ((n : Int) + 1) W).2 ∧ KS μ (m_can μ PL x b ((n : Int) + 1) W).2 := by
        rw [lnN_s]
        unfold m_can at c1 ⊢
        split
        · rename_i cf
          rw [if_pos cf] at c1
          exact trL_tv _ _ _ l3 t0 k0 (by rw [up_s]; omega) c1
        · rename_i cf
          rw [if_neg cf] at c1; exact absurd rfl c1
      have ef : m_fol μ PL x b ((n : Int) + 1) (m_can μ PL x b ((n : Int) + 1) W) = m_foP μ PL x b ((n + 1 : Nat) : Int) (m_pln b x - 1 - ((n : Int) + 1)).toNat (m_can μ PL x b ((n : Int) + 1) W).2 := by
        unfold m_fol; rw [if_neg c1]; rfl
      have h137 : 1 ≤ m_fol μ PL x b ((n : Int) + 1) (m_can μ PL x b ((n : Int) + 1) W) 137 μ.1 0 := by
        by_cases z : m_fol μ PL x b ((n : Int) + 1) (m_can μ PL x b ((n : Int) + 1) W) 137 μ.1 0 ≤ 0
        · rw [show (m_fol μ PL x b ((n : Int) + 1) (m_can μ PL x b ((n : Int) + 1) W) 137 μ.1 0).toNat = 0 by omega] at c3
          exact absurd c3 (by show ¬ (0 : Int) < 0; decide)
        · omega
      have e137 : ∀ (k : Nat) (V : Mm), m_foP μ PL x b ((n + 1 : Nat) : Int) k V 137 μ.1 0 = V 137 μ.1 0 := fun k V => by
        induction k with
        | zero => rfl
        | succ k ih =>
          simp only [m_foP]
          have : ∀ (ys : List Int) (V : Mm), m_foL μ ys V 137 μ.1 0 = V 137 μ.1 0 := fun ys => by
            induction ys with
            | nil => intro V; rfl
            | cons y ys ih =>
              intro V
              simp only [m_foL]
              rw [ih]
              split
              · exact mvN_137 _
              · rfl
          rw [this, ih]
      have n0 : 0 ≤ (m_can μ PL x b ((n : Int) + 1) W).2 137 μ.1 0 := by
        rw [ef, e137] at h137; omega
      have o := foP_tv (a := n + 1) hc.1 hc.2 n0 (m_pln b x - 1 - ((n : Int) + 1)).toNat (by rw [show n + 1 + (m_pln b x - 1 - ((n : Int) + 1)).toNat = (m_pln b x - 1).toNat by omega]; exact hl)
      rw [show n + 1 + (m_pln b x - 1 - ((n : Int) + 1)).toNat = (m_pln b x - 1).toNat by omega, ← ef] at o
      exact ⟨by omega, o.1 c2, o.2.1, h137⟩
    · rw [if_neg c] at h ⊢
      have o := fdR_tv n _ (by omega) hl h
      exact ⟨by omega, o.2⟩
