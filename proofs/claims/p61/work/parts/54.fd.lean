/-- the traces that are begun are bounded by A, all by N -/
def bTd (A N : Int) (μ : MU) (w : Mm) : Prop := bTc N w ∧ ∀ t, 0 ≤ t → t < w 137 μ.1 0 → t < 8 → w 244 0 t ≤ A ∧ w 245 0 t ≤ A
theorem bTd.c {A N : Int} {μ : MU} {w : Mm} (h : bTd A N μ w) : bTc N w := h.1
theorem movB {μ : MU} {A t d q k y : Int} {w : Mm} (ha : (0 ≤ w 244 0 t ∧ w 244 0 t ≤ A) ∧ (0 ≤ w 245 0 t ∧ w 245 0 t ≤ A) ∧ w 244 0 t ≤ w 245 0 t) (hq : 0 ≤ q) (hk : 0 ≤ k ∧ k ≤ 5000) : (0 ≤ m_mov μ t d q k y w 244 0 t ∧ m_mov μ t d q k y w 244 0 t ≤ A + 5000) ∧ (0 ≤ m_mov μ t d q k y w 245 0 t ∧ m_mov μ t d q k y w 245 0 t ≤ A + 5000) ∧ m_mov μ t d q k y w 244 0 t ≤ m_mov μ t d q k y w 245 0 t := by
  unfold m_mov m_mvR m_mvI m_mvD
  split
  · simp (disch := decide) only [up_k]; omega
  · split
    · simp (disch := decide) only [up_k, up_s]; split <;> omega
    · simp (disch := decide) only [up_k, up_s]; split <;> omega
/-- of n traces that move, each moves once -/
theorem mvN_in {μ : MU} {A d q k y : Int} {w : Mm} (hq : 0 ≤ q) (hk : 0 ≤ k ∧ k ≤ 5000) : ∀ (n : Nat), (∀ t : Int, 0 ≤ t → t < n → (0 ≤ w 244 0 t ∧ w 244 0 t ≤ A) ∧ (0 ≤ w 245 0 t ∧ w 245 0 t ≤ A) ∧ w 244 0 t ≤ w 245 0 t) → ∀ t : Int, 0 ≤ t → t < n → m_mvN μ d q k y n w 244 0 t ≤ A + 5000 ∧ m_mvN μ d q k y n w 245 0 t ≤ A + 5000
  | 0, _, t, a, b => by omega
  | n + 1, h, t, a, b => by
    simp only [m_mvN]
    by_cases c : t = n
    · subst c
      have e4 : m_mvN μ d q k y n w 244 0 (n : Int) = w 244 0 n := mvN_o (Or.inl rfl) n (by omega)
      have e5 : m_mvN μ d q k y n w 245 0 (n : Int) = w 245 0 n := mvN_o (Or.inr rfl) n (by omega)
      have := movB (μ := μ) (A := A) (t := (n : Int)) (d := d) (q := q) (k := k) (y := y) (w := m_mvN μ d q k y n w) (by rw [e4, e5]; exact h n (by omega) (by omega)) hq hk
      omega
    · rw [mov_o (Or.inl rfl) c, mov_o (Or.inr rfl) c]
      exact mvN_in hq hk n (fun t' a' b' => h t' a' (by omega)) t a (by omega)
theorem bTd.mvN {μ : MU} {A N d q k y : Int} {w : Mm} (h : bTd A N μ w) (hn : 0 ≤ w 137 μ.1 0 ∧ w 137 μ.1 0 ≤ 8) (hq : 0 ≤ q) (hk : 0 ≤ k ∧ k ≤ 5000) (hA : A + 5000 ≤ N) : bTd (A + 5000) N μ (m_mvN μ d q k y (w 137 μ.1 0).toNat w) := by
  have hc := h.1.mvN (μ := μ) (d := d) (y := y) hq hk (w 137 μ.1 0).toNat (by omega)
  have hin := mvN_in (μ := μ) (A := A) (d := d) (y := y) (w := w) hq hk (w 137 μ.1 0).toNat (fun t a b => by
    have h1 := h.1 t a (by omega)
    have h2 := h.2 t a (by omega) (by omega)
    omega)
  have e137 : m_mvN μ d q k y (w 137 μ.1 0).toNat w 137 μ.1 0 = w 137 μ.1 0 := mvN_at (by decide) _
  refine ⟨fun t a b => ?_, fun t a b c => ?_⟩
  · have h1 := hc t a b
    by_cases ct : t < w 137 μ.1 0
    · have h2 := hin t a (by omega)
      omega
    · have e4 : m_mvN μ d q k y (w 137 μ.1 0).toNat w 244 0 t = w 244 0 t := mvN_o (Or.inl rfl) _ (by omega)
      have e5 : m_mvN μ d q k y (w 137 μ.1 0).toNat w 245 0 t = w 245 0 t := mvN_o (Or.inr rfl) _ (by omega)
      have h3 := h.1 t a b
      rw [e4, e5]; exact h3
  · rw [e137] at b
    exact hin t a (by omega)
theorem bTd.trB {μ : MU} {A N x : Int} {w : Mm} (h : bTd A N μ w) (hn : 0 ≤ w 137 μ.1 0 ∧ w 137 μ.1 0 < 8) (hx : 0 ≤ x ∧ x < 16777216) (hA : 10000 ≤ A) (hN : A ≤ N) : bTd A N μ (m_trB μ x (w 137 μ.1 0) w) := by
  refine ⟨h.1.trB hx (by omega), fun t a b c => ?_⟩
  rw [trB_137] at b
  have hz : 0 ≤ wsz x ∧ wsz x ≤ 5000 := by unfold wsz; split <;> omega
  unfold m_trB
  simp (disch := decide) only [up_k, up_ii]
  by_cases e : t = w 137 μ.1 0
  · rw [if_pos e, if_pos e]
    refine ⟨by omega, by split <;> omega⟩
  · rw [if_neg e, if_neg e]; exact h.2 t a (by omega) c
theorem trL_td {μ : MU} {N : Int} : ∀ (L : List Int) (w : Mm) (A : Int), bTd A N μ w → (0 ≤ w 137 μ.1 0 ∧ w 137 μ.1 0 ≤ 8) → 10000 ≤ A → A + 5000 * L.length ≤ N → (∀ x ∈ L, 0 ≤ x ∧ x < 16777216) → bTd (A + 5000 * L.length) N μ (m_trL μ L w).2
  | [], w, A, h, hn, hA, hN, _ => ⟨h.1, fun t a b c => by
      have := h.2 t a b c
      simp only [List.length_nil]
      show w 244 0 t ≤ _ ∧ w 245 0 t ≤ _
      omega⟩
  | x :: xs, w, A, h, hn, hA, hN, hx => by
    have hx0 := hx x List.mem_cons_self
    have hxs : ∀ y ∈ xs, 0 ≤ y ∧ y < 16777216 := fun y hy => hx y (List.mem_cons_of_mem _ hy)
    have hwz : 0 ≤ wsz x ∧ wsz x ≤ 5000 := by unfold wsz; split <;> omega
    simp only [m_trL, List.length_cons] at hN ⊢
    have wk : ∀ (A' : Int) (w' : Mm), bTd A' N μ w' → A' ≤ A + 5000 * ((xs.length + 1 : Nat) : Int) → bTd (A + 5000 * ((xs.length + 1 : Nat) : Int)) N μ w' := fun A' w' h1 h2 => ⟨h1.1, fun t a b c => by have := h1.2 t a b c; omega⟩
    split
    · split
      · exact wk A w h (by omega)
      · have h1 : bTd (A + 5000) N μ (m_trA μ x w) := h.mvN hn (by omega) hwz (by omega)
        have e137 : m_trA μ x w 137 μ.1 0 = w 137 μ.1 0 := mvN_at (by decide) _
        have h2 := h1.trB (x := x) (by rw [e137]; omega) hx0 (by omega) (by omega)
        rw [e137] at h2
        exact wk _ _ (trL_td xs _ (A + 5000) h2 (by rw [trB_137]; omega) (by omega) (by omega) hxs) (by omega)
    · exact wk _ _ (trL_td xs w A h hn hA (by omega) hxs) (by omega)
theorem foL_td {μ : MU} {N : Int} : ∀ (L : List Int) (w : Mm) (A : Int), bTd A N μ w → (0 ≤ w 137 μ.1 0 ∧ w 137 μ.1 0 ≤ 8) → 0 ≤ A → A + 5000 * L.length ≤ N → (∀ x ∈ L, 0 ≤ x ∧ x < 16777216) → bTd (A + 5000 * L.length) N μ (m_foL μ L w)
  | [], w, A, h, hn, hA, hN, _ => ⟨h.1, fun t a b c => by
      have := h.2 t a b c
      simp only [List.length_nil]
      show w 244 0 t ≤ _ ∧ w 245 0 t ≤ _
      omega⟩
  | x :: xs, w, A, h, hn, hA, hN, hx => by
    have hx0 := hx x List.mem_cons_self
    have hxs : ∀ y ∈ xs, 0 ≤ y ∧ y < 16777216 := fun y hy => hx y (List.mem_cons_of_mem _ hy)
    have hwz : 0 ≤ wsz x ∧ wsz x ≤ 5000 := by unfold wsz; split <;> omega
    simp only [m_foL, List.length_cons] at hN ⊢
    have wk : ∀ (A' : Int) (w' : Mm), bTd A' N μ w' → A' ≤ A + 5000 * ((xs.length + 1 : Nat) : Int) → bTd (A + 5000 * ((xs.length + 1 : Nat) : Int)) N μ w' := fun A' w' h1 h2 => ⟨h1.1, fun t a b c => by have := h1.2 t a b c; omega⟩
    split
    · have h1 : bTd (A + 5000) N μ (m_mvN μ (x % 8) (x / 8 % 512) (wsz x) (-1) (w 137 μ.1 0).toNat w) := h.mvN hn (by omega) hwz (by omega)
      have e137 : m_mvN μ (x % 8) (x / 8 % 512) (wsz x) (-1) (w 137 μ.1 0).toNat w 137 μ.1 0 = w 137 μ.1 0 := mvN_at (by decide) _
      exact wk _ _ (foL_td xs _ (A + 5000) h1 (by rw [e137]; exact hn) (by omega) (by omega) hxs) (by omega)
    · exact wk _ _ (foL_td xs w A h hn hA (by omega) hxs) (by omega)
