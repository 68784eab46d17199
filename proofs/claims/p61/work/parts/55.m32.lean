theorem nodeW_cong {b b' : Mm} (e : ∀ c a i, c = 212 ∨ c = 213 ∨ (218 ≤ c ∧ c ≤ 220) → b' c a i = b c a i) (ps : List Int) : nodeW b' ps = nodeW b ps := by rw [← nodeW_map, ← nodeW_map, nodeL_cong e]
theorem wlist_rng {b : Mm} : ∀ (n : Nat) (i : Int), (∀ j, i ≤ j → j < i + n → 0 ≤ b 212 0 j ∧ b 212 0 j < 16777216) → ∀ x ∈ wlist b n i, 0 ≤ x ∧ x < 16777216
  | 0, _, _, x, h => by cases h
  | n + 1, i, e, x, h => by
    rcases List.mem_cons.mp h with rfl | h
    · exact e i (by omega) (by omega)
    · exact wlist_rng n (i + 1) (fun j a c => e j (by omega) (by omega)) x h
theorem CHL.rng {m : Int} {b : Mm} : ∀ {ps : List Int} {p : Int}, CHL m b p ps → ∀ x ∈ nodeW b ps, 0 ≤ x ∧ x < 16777216
  | [], _, _, x, h => by cases h
  | q :: qs, p, hC, x, h => by
    obtain ⟨h1, h2, h3, h4, h5, h6⟩ := hC
    rcases List.mem_append.mp h with h | h
    · exact wlist_rng _ _ (fun j a c => h5 j a (by omega)) x h
    · exact h6.rng x h
theorem anc_rng {m : Int} {w : Mm} (h : bPr m w) : ∀ (n : Nat) (x : Int), 0 ≤ x → x < m → (n : Int) < m_pln w x → 0 ≤ m_anc w x n ∧ m_anc w x n ≤ x
  | 0, x, h0, _, _ => ⟨h0, Int.le_refl _⟩
  | n + 1, x, h0, h1, hn => by
    rw [anc_par]
    have h2 := h x h0 h1
    rw [pln_s h ⟨h0, h1⟩] at hn
    by_cases c : w 217 0 x = -1
    · rw [c, pln_0] at hn; omega
    · have := anc_rng h n (w 217 0 x) (by omega) (by omega) (by omega)
      omega
/-- how many steps the first n changes of a path have -/
def lnR (PL : Int → List Int) (x : Int) (b : Mm) (n : Nat) : Int := ((RSn PL x b n).length : Int)
theorem lnR_s {PL : Int → List Int} {x : Int} {b : Mm} {n : Nat} : lnR PL x b (n + 1) = lnR PL x b n + ((nodeW b (PL (m_fan b x ((n : Int) + 1)))).length : Int) := by
  unfold lnR m_fan
  show (((RSn PL x b n ++ nodeL b _).length : Nat) : Int) = _
  rw [List.length_append, ← nodeW_map, List.length_map]
  omega
theorem lnR_mono {PL : Int → List Int} {x : Int} {b : Mm} {n : Nat} : ∀ {m : Nat}, n ≤ m → lnR PL x b n ≤ lnR PL x b m
  | 0, h => by have : n = 0 := by omega
               subst this; exact Int.le_refl _
  | m + 1, h => by
    by_cases c : n = m + 1
    · subst c; exact Int.le_refl _
    · rw [lnR_s]; have := lnR_mono (PL := PL) (x := x) (b := b) (n := n) (m := m) (by omega); omega
theorem foP_ok {μ : MU} {PL : Int → List Int} {x : Int} {b b' : Mm} {N A : Int} {a : Nat} {W : Mm} (hF : FRt b' W) (h8 : 0 ≤ W 137 μ.1 0 ∧ W 137 μ.1 0 ≤ 8) (hT : bTd A N μ W) (hA : 0 ≤ A) : ∀ n : Nat, (∀ k : Nat, k < n → ∀ y ∈ nodeW b (PL (m_fan b x ((a : Int) + 1 + k))), 0 ≤ y ∧ y < 16777216) → A + 5000 * (lnR PL x b (a + n) - lnR PL x b a) ≤ N → FRt b' (m_foP μ PL x b a n W) ∧ m_foP μ PL x b a n W 137 μ.1 0 = W 137 μ.1 0 ∧ bTd (A + 5000 * (lnR PL x b (a + n) - lnR PL x b a)) N μ (m_foP μ PL x b a n W)
  | 0, _, hN => ⟨hF, rfl, hT.1, fun t p q r => by
      have := hT.2 t p (show t < W 137 μ.1 0 from q) r
      simp only [Nat.add_zero]
      show W 244 0 t ≤ _ ∧ W 245 0 t ≤ _
      omega⟩
  | n + 1, hr, hN => by
    have e : lnR PL x b (a + (n + 1)) = lnR PL x b (a + n) + ((nodeW b (PL (m_fan b x ((a : Int) + 1 + n)))).length : Int) := by
      rw [show a + (n + 1) = (a + n) + 1 by omega, lnR_s, show (((a + n : Nat) : Int) + 1) = (a : Int) + 1 + (n : Int) by omega]
    have em := lnR_mono (PL := PL) (x := x) (b := b) (show a ≤ a + n by omega)
    rw [e] at hN ⊢
    obtain ⟨g1, g2, g3⟩ := foP_ok hF h8 hT hA n (fun k hk => hr k (by omega)) (by omega)
    have hx := hr n (by omega)
    have o1 := foL_ok (μ := μ) (b := b') (nodeW b (PL (m_fan b x ((a : Int) + 1 + n)))) _ N g1 (by rw [g2]; exact h8) g3.1 (by omega) hx
    have o2 := foL_td (μ := μ) (N := N) (nodeW b (PL (m_fan b x ((a : Int) + 1 + n)))) _ _ g3 (by rw [g2]; exact h8) (by omega) (by omega) hx
    simp only [m_foP]
    refine ⟨o1.1, o1.2.1.trans g2, o2.1, fun t p q r => ?_⟩
    have := o2.2 t p q r
    omega
def m_fdR (μ : MU) (PL : Int → List Int) (x : Int) (b : Mm) (lo hi : Int) : Nat → Mm → Int × Mm
  | 0, W => (-1, W)
  | n + 1, W => if m_hit μ lo hi (m_can μ PL x b ((n : Int) + 1) W).1 (m_fol μ PL x b ((n : Int) + 1) (m_can μ PL x b ((n : Int) + 1) W)) then ((n : Int) + 1, m_fol μ PL x b ((n : Int) + 1) (m_can μ PL x b ((n : Int) + 1) W)) else m_fdR μ PL x b lo hi n (m_fol μ PL x b ((n : Int) + 1) (m_can μ PL x b ((n : Int) + 1) W))
theorem tou_nn {lo hi k : Int} {w : Mm} : 0 ≤ m_tou lo hi w k := by unfold m_tou bi; split <;> decide
theorem tou_1 {f : Int → Int} {j : Int} (hj : 0 ≤ j) (hf : ∀ k, 0 ≤ f k) (h : bi (0 < sumN f j.toNat) ≠ 0 ∨ 0 < f j) : 1 = bi (0 < sumN f (j + 1).toNat) := by
  have h1 := sumN_nn hf j.toNat
  have h2 := hf j
  rw [sumN_su hj]
  refine bi_t ?_
  rcases h with h | h
  · have := bi_ne.mp h; omega
  · omega
theorem tou_0 {f : Int → Int} {j : Int} (hj : 0 ≤ j) (h : bi (0 < sumN f j.toNat) = 0) (h2 : f j = 0) : 0 = bi (0 < sumN f (j + 1).toNat) := by
  rw [sumN_su hj]
  refine bi_f ?_
  have := bi_0.mp h
  omega
theorem FRt.up {b w : Mm} (h : FRt b w) {c : Nat} {x i v : Int} (hc : c = 137 ∨ c = 138) : FRt b (up w c x i v) := fun c' a' i' h1 h2 h3 => by rw [up_k _ (by omega)]; exact h c' a' i' h1 h2 h3
theorem bTc.up {N : Int} {w : Mm} (h : bTc N w) {c : Nat} {x i v : Int} (hc : c = 137 ∨ c = 138) : bTc N (up w c x i v) := fun t a b => by rw [up_k _ (by omega), up_k _ (by omega)]; exact h t a b
theorem bTd.up138 {A N : Int} {μ : MU} {w : Mm} (h : bTd A N μ w) {x i v : Int} : bTd A N μ (up w 138 x i v) := ⟨h.1.up (Or.inr rfl), fun t a b c => by rw [up_k _ (by decide), up_k _ (by decide)]; rw [up_k _ (by decide)] at b; exact h.2 t a b c⟩
theorem can_ok {μ : MU} {PL : Int → List Int} {x : Int} {b b' W : Mm} {i : Int} {N : Int} (hF : FRt b' W) (h8 : 0 ≤ W 137 μ.1 0 ∧ W 137 μ.1 0 ≤ 8) (hT : bTc N W) (hr : ∀ y ∈ nodeW b (PL (m_fan b x i)), 0 ≤ y ∧ y < 16777216) (hN : 10000 + 5000 * ((nodeW b (PL (m_fan b x i))).length : Int) ≤ N) : FRt b' (m_can μ PL x b i W).2 ∧ (0 ≤ (m_can μ PL x b i W).2 137 μ.1 0 ∧ (m_can μ PL x b i W).2 137 μ.1 0 ≤ 8) ∧ bTc N (m_can μ PL x b i W).2 ∧ ((m_can μ PL x b i W).1 = 0 ∨ (m_can μ PL x b i W).1 = 1) ∧ ((m_can μ PL x b i W).1 ≠ 0 → bTd (10000 + 5000 * ((nodeW b (PL (m_fan b x i))).length : Int)) N μ (m_can μ PL x b i W).2) := by
  unfold m_can
  split
  · have q0 : up (up W 138 μ.1 0 0) 137 μ.1 0 0 137 μ.1 0 = 0 := up_s _ _ _ _ _
    have q1 : bTc N (up (up W 138 μ.1 0 0) 137 μ.1 0 0) := (hT.up (Or.inr rfl)).up (Or.inl rfl)
    have q2 : bTd 10000 N μ (up (up W 138 μ.1 0 0) 137 μ.1 0 0) := ⟨q1, fun t a c d => by rw [q0] at c; omega⟩
    have q3 := trL_ok (μ := μ) (b := b') (nodeW b (PL (m_fan b x i))) _ N ((hF.up (Or.inr rfl)).up (Or.inl rfl)) (by rw [q0]; omega) q1 (by omega) hr
    have q4 := trL_td (μ := μ) (N := N) (nodeW b (PL (m_fan b x i))) _ 10000 q2 (by rw [q0]; omega) (by omega) (by omega) hr
    exact ⟨q3.1, q3.2.1, q4.1, q3.2.2.2, fun _ => q4⟩
  · exact ⟨hF.up (Or.inr rfl), by dsimp only; rw [up_k _ (by decide)]; exact h8, hT.up (Or.inr rfl), Or.inl rfl, fun h => absurd rfl h⟩
