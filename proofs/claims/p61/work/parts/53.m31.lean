/-! the first change from the current one back that can be undone in a region -/
def m_fan (w : Mm) (x : Int) (i : Int) : Int := m_anc w x (m_pln w x - 1 - i).toNat
/-- the changes behind the i-th of the path move the traces, up to the n-th -/
def m_foP (μ : MU) (PL : Int → List Int) (x : Int) (b : Mm) (i : Int) : Nat → Mm → Mm
  | 0, w => w
  | n + 1, w => m_foL μ (nodeW b (PL (m_fan b x (i + 1 + n)))) (m_foP μ PL x b i n w)
/-- a trace lies at the region -/
def m_tou (lo hi : Int) (w : Mm) (t : Int) : Int := bi (w 244 0 t ≤ hi ∧ w 245 0 t ≥ lo)
def m_can (μ : MU) (PL : Int → List Int) (x : Int) (b : Mm) (i : Int) (w : Mm) : Int × Mm := if w 225 0 (m_fan b x i) % 2 = 0 then m_trL μ (nodeW b (PL (m_fan b x i))) (up (up w 138 μ.1 0 0) 137 μ.1 0 0) else (0, up w 138 μ.1 0 0)
def m_fol (μ : MU) (PL : Int → List Int) (x : Int) (b : Mm) (i : Int) (p : Int × Mm) : Mm := if p.1 = 0 then p.2 else m_foP μ PL x b i (m_pln b x - 1 - i).toNat p.2
abbrev m_hit (μ : MU) (lo hi : Int) (c : Int) (w : Mm) : Prop := c ≠ 0 ∧ w 138 μ.1 0 = 0 ∧ 0 < sumN (m_tou lo hi w) (w 137 μ.1 0).toNat
theorem FRt.trA {μ : MU} {x : Int} {b w : Mm} (h : FRt b w) : FRt b (m_trA μ x w) := h.mvN
theorem trL_ok {μ : MU} {b : Mm} : ∀ (L : List Int) (w : Mm) (N : Int), FRt b w → (0 ≤ w 137 μ.1 0 ∧ w 137 μ.1 0 ≤ 8) → bTc N w → 10000 ≤ N → (∀ x ∈ L, 0 ≤ x ∧ x < 16777216) → FRt b (m_trL μ L w).2 ∧ (0 ≤ (m_trL μ L w).2 137 μ.1 0 ∧ (m_trL μ L w).2 137 μ.1 0 ≤ 8) ∧ bTc (N + 5000 * L.length) (m_trL μ L w).2 ∧ ((m_trL μ L w).1 = 0 ∨ (m_trL μ L w).1 = 1)
  | [], w, N, h, hn, ht, hN, _ => ⟨h, hn, ht.mono (by simp only [List.length_nil]; omega), by show bi _ = 0 ∨ bi _ = 1; unfold bi; split <;> simp⟩
  | x :: xs, w, N, h, hn, ht, hN, hx => by
    have hx0 := hx x List.mem_cons_self
    have hxs : ∀ y ∈ xs, 0 ≤ y ∧ y < 16777216 := fun y hy => hx y (List.mem_cons_of_mem _ hy)
    have hwz : 0 ≤ wsz x ∧ wsz x ≤ 5000 := by unfold wsz; split <;> omega
    simp only [m_trL, List.length_cons]
    split
    · split
      · exact ⟨h, hn, ht.mono (by omega), Or.inl rfl⟩
      · have hA : bTc (N + 5000) (m_trA μ x w) := (ht.mvN (by omega) hwz _ (by omega)).mono (by omega)
        have := trL_ok (μ := μ) xs _ (N + 5000) (h.trA (μ := μ) (x := x)).trB (by rw [trB_137]; omega) (hA.trB (n := w 137 μ.1 0) hx0 (by omega)) (by omega) hxs
        exact ⟨this.1, this.2.1, this.2.2.1.mono (by omega), this.2.2.2⟩
    · have := trL_ok (μ := μ) xs w (N + 5000) h hn (ht.mono (by omega)) (by omega) hxs
      exact ⟨this.1, this.2.1, this.2.2.1.mono (by omega), this.2.2.2⟩
theorem foL_ok {μ : MU} {b : Mm} : ∀ (L : List Int) (w : Mm) (N : Int), FRt b w → (0 ≤ w 137 μ.1 0 ∧ w 137 μ.1 0 ≤ 8) → bTc N w → 0 ≤ N → (∀ x ∈ L, 0 ≤ x ∧ x < 16777216) → FRt b (m_foL μ L w) ∧ m_foL μ L w 137 μ.1 0 = w 137 μ.1 0 ∧ bTc (N + 5000 * L.length) (m_foL μ L w)
  | [], w, N, h, hn, ht, hN, _ => ⟨h, rfl, ht.mono (by simp only [List.length_nil]; omega)⟩
  | x :: xs, w, N, h, hn, ht, hN, hx => by
    have hx0 := hx x List.mem_cons_self
    have hxs : ∀ y ∈ xs, 0 ≤ y ∧ y < 16777216 := fun y hy => hx y (List.mem_cons_of_mem _ hy)
    have hwz : 0 ≤ wsz x ∧ wsz x ≤ 5000 := by unfold wsz; split <;> omega
    simp only [m_foL, List.length_cons]
    split
    · have e := mvN_at (μ := μ) (d := x % 8) (q := x / 8 % 512) (k := wsz x) (y := -1) (w := w) (c := 137) (a := μ.1) (i := 0) (by decide) (w 137 μ.1 0).toNat
      have := foL_ok (μ := μ) (b := b) xs (m_mvN μ (x % 8) (x / 8 % 512) (wsz x) (-1) (w 137 μ.1 0).toNat w) (N + 5000) h.mvN (by rw [e]; exact hn) ((ht.mvN (by omega) hwz _ (by omega)).mono (by omega)) (by omega) hxs
      exact ⟨this.1, this.2.1.trans e, this.2.2.mono (by omega)⟩
    · have := foL_ok (μ := μ) xs w (N + 5000) h hn (ht.mono (by omega)) (by omega) hxs
      exact ⟨this.1, this.2.1, this.2.2.mono (by omega)⟩
