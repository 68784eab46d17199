theorem sumN_su {f : Int → Int} {j : Int} (hj : 0 ≤ j) : sumN f (j + 1).toNat = sumN f j.toNat + f j := (sumN_s hj rfl rfl).symm
def m_chF (node : Int) (w : Mm) (k : Int) : Int := bi (1 ≤ k ∧ w 216 0 k = 1 ∧ w 217 0 k = node)
def m_chl (μ : MU) (node : Int) (w : Mm) : Int := sumN (m_chF node w) (w 124 μ.1 0).toNat
def m_nwst (μ : MU) (node : Int) (w : Mm) : Int := lst (m_chF node w) (w 124 μ.1 0).toNat
def m_bkF (k : Int) (w : Mm) (j : Int) : Int := bi (w 227 0 j = k)
def m_mgF (μ : MU) (w : Mm) (k : Int) : Int := bi (w 216 0 k = 1 ∧ k ≠ w 126 μ.1 0 ∧ m_chl μ k w = 1 ∧ sumN (m_bkF k w) 5 = 0)
def m_mgb (μ : MU) (w : Mm) : Int := fnd (m_mgF μ w) 1 (w 124 μ.1 0 - 1).toNat 1
def m_nxt (μ : MU) (w : Mm) : Int := if w 125 μ.1 0 > w 128 μ.1 0 then m_mgb μ w else -1
def m_flg (a b : Int) : Int := ((I ((I ((I a &&& I b).toInt) &&& I 1).toInt)) ||| I 2).toInt
def m_mrg1 (μ : MU) (x : Int) (w : Mm) : Mm := up (up (up (up (up (up w 223 0 (w 222 0 x) (w 221 0 (m_nwst μ x w))) 221 0 (m_nwst μ x w) (w 221 0 x)) 217 0 (m_nwst μ x w) (w 217 0 x)) 225 0 (m_nwst μ x w) (m_flg (w 225 0 (m_nwst μ x w)) (w 225 0 x))) 216 0 x 0) 125 μ.1 0 (w 125 μ.1 0 - 1)
def m_mrg (μ : MU) : Nat → Int → Mm → Int × Mm
  | 0, c, w => (c, w)
  | n + 1, c, w => if m_nxt μ w = -1 then (c, w) else m_mrg μ n (c + 1) (m_mrg1 μ (m_nxt μ w) w)
def m_mrgs (μ : MU) (w : Mm) : Int × Mm := m_mrg μ 1000 0 w
def m_mk1 (μ : MU) (flag : Int) (w : Mm) : Mm :=
  up (up (up (up (up (up (up (up (up (up (up (up (up (up (up w 216 0 (w 124 μ.1 0) 1) 217 0 (w 124 μ.1 0) (w 126 μ.1 0)) 218 0 (w 124 μ.1 0) (w 122 μ.1 0)) 219 0 (w 124 μ.1 0) (w 123 μ.1 0)) 220 0 (w 124 μ.1 0) (w 120 μ.1 0 - w 122 μ.1 0)) 221 0 (w 124 μ.1 0) (w 124 μ.1 0)) 222 0 (w 124 μ.1 0) (w 124 μ.1 0)) 223 0 (w 124 μ.1 0) (-1)) 224 0 (w 124 μ.1 0) (w 207 0 0)) 225 0 (w 124 μ.1 0) flag) 126 μ.1 0 (w 124 μ.1 0)) 124 μ.1 0 (w 124 μ.1 0 + 1)) 125 μ.1 0 (w 125 μ.1 0 + 1)) 122 μ.1 0 (w 120 μ.1 0)) 123 μ.1 0 (w 121 μ.1 0)
def m_mks (μ : MU) (flag : Int) (w : Mm) : Mm := (m_mrgs μ (m_mk1 μ flag w)).2
def bTn (μ : MU) (M : Int) (w : Mm) : Prop := ∀ k, 0 ≤ k → k < w 124 μ.1 0 → (w 216 0 k = 0 ∨ w 216 0 k = 1) ∧ (-1 ≤ w 217 0 k ∧ w 217 0 k < k) ∧ (1 ≤ k → 0 ≤ w 217 0 k) ∧ (0 ≤ w 225 0 k ∧ w 225 0 k ≤ 3) ∧ (-1 ≤ w 221 0 k ∧ w 221 0 k < w 124 μ.1 0) ∧ (0 ≤ w 222 0 k ∧ w 222 0 k < w 124 μ.1 0) ∧ (-1 ≤ w 223 0 k ∧ w 223 0 k < w 124 μ.1 0) ∧ (0 ≤ w 224 0 k ∧ w 224 0 k ≤ 400) ∧ ((0 ≤ w 218 0 k ∧ w 218 0 k ≤ 30000) ∧ 0 ≤ w 220 0 k ∧ w 220 0 k ≤ 30000 + 8 * M) ∧ (0 ≤ w 219 0 k ∧ w 219 0 k ≤ 524288)
def TB (μ : MU) (M : Int) (w : Mm) : Prop := (1 ≤ w 124 μ.1 0 ∧ w 124 μ.1 0 ≤ M) ∧ (1 ≤ w 125 μ.1 0 ∧ w 125 μ.1 0 ≤ w 124 μ.1 0) ∧ (0 ≤ w 126 μ.1 0 ∧ w 126 μ.1 0 < w 124 μ.1 0) ∧ (2 ≤ w 128 μ.1 0 ∧ w 128 μ.1 0 ≤ 600) ∧ (0 ≤ w 122 μ.1 0 ∧ w 122 μ.1 0 ≤ 30000) ∧ (0 ≤ w 123 μ.1 0 ∧ w 123 μ.1 0 ≤ 524288) ∧ bTn μ M w
theorem nxt_p {μ : MU} {w : Mm} (h : w 125 μ.1 0 > w 128 μ.1 0) : m_mgb μ w = m_nxt μ w := by unfold m_nxt; rw [if_pos h]
theorem nxt_n {μ : MU} {w : Mm} (h : ¬ w 125 μ.1 0 > w 128 μ.1 0) : -1 = m_nxt μ w := by unfold m_nxt; rw [if_neg h]
theorem bi_o {p : Prop} [Decidable p] (h : bi p = 1) : p := by unfold bi at h; split at h; assumption; omega
theorem bi_p {p : Prop} [Decidable p] (h : 0 < bi p) : p := by unfold bi at h; split at h; assumption; omega
theorem bi_n {p : Prop} [Decidable p] : 0 ≤ bi p := by unfold bi; split <;> omega
theorem mrg_facts {μ : MU} {M : Int} {w : Mm} (hT : TB μ M w) (hx : m_nxt μ w ≠ -1) : (1 ≤ m_nxt μ w ∧ m_nxt μ w < w 124 μ.1 0 ∧ w 216 0 (m_nxt μ w) = 1 ∧ m_nxt μ w ≠ w 126 μ.1 0 ∧ w 125 μ.1 0 > w 128 μ.1 0 ∧ m_nxt μ w = m_mgb μ w ∧ m_chl μ (m_nxt μ w) w = 1 ∧ sumN (m_bkF (m_nxt μ w) w) 5 = 0) ∧ (m_nxt μ w < m_nwst μ (m_nxt μ w) w ∧ m_nwst μ (m_nxt μ w) w < w 124 μ.1 0 ∧ w 216 0 (m_nwst μ (m_nxt μ w) w) = 1 ∧ w 217 0 (m_nwst μ (m_nxt μ w) w) = m_nxt μ w) := by
  obtain ⟨t1, t2, t3, t4, t5, t6, t7⟩ := hT
  have e0 : w 125 μ.1 0 > w 128 μ.1 0 := by
    apply Classical.byContradiction; intro h; unfold m_nxt at hx; rw [if_neg h] at hx; exact hx rfl
  have e1 : m_nxt μ w = m_mgb μ w := by unfold m_nxt; rw [if_pos e0]
  rw [e1] at hx ⊢
  have h1 := fnd_spec (m_mgF μ w) 1 (w 124 μ.1 0 - 1).toNat 1
  rw [show fnd (m_mgF μ w) 1 (w 124 μ.1 0 - 1).toNat 1 = m_mgb μ w from rfl] at h1
  rcases h1 with h1 | ⟨h1, h2, h3, h4⟩
  · exact absurd h1.1 hx
  · have h5 := bi_o h3
    have hp : 0 < sumN (m_chF (m_mgb μ w) w) (w 124 μ.1 0).toNat := by have := h5.2.2.1; unfold m_chl at this; omega
    obtain ⟨k, k1, k2, k3⟩ := sumN_pos hp
    have k4 := bi_p k3
    have h6 := lst_spec (m_chF (m_mgb μ w) w) (w 124 μ.1 0).toNat
    rw [show lst (m_chF (m_mgb μ w) w) (w 124 μ.1 0).toNat = m_nwst μ (m_mgb μ w) w from rfl] at h6
    rcases h6 with h6 | ⟨g1, g2, g3, g4⟩
    · exact absurd (bi_t k4).symm (h6.2 k k1 k2)
    · have g5 := bi_o g3
      have g6 := t7 _ g1 (by omega)
      exact ⟨⟨h1, by omega, h5.1, h5.2.1, e0, rfl, h5.2.2.1, h5.2.2.2⟩, by omega, by omega, g5.2.1, g5.2.2⟩
theorem flg_val {a b : Int} (ha : 0 ≤ a ∧ a ≤ 3) (hb : 0 ≤ b ∧ b ≤ 3) : m_flg a b = 2 + (a % 2) * (b % 2) := by
  have h1 : a = 0 ∨ a = 1 ∨ a = 2 ∨ a = 3 := by omega
  have h2 : b = 0 ∨ b = 1 ∨ b = 2 ∨ b = 3 := by omega
  rcases h1 with rfl | rfl | rfl | rfl <;> rcases h2 with rfl | rfl | rfl | rfl <;> decide +kernel
theorem flg_rng {a b : Int} (ha : 0 ≤ a ∧ a ≤ 3) (hb : 0 ≤ b ∧ b ≤ 3) : 0 ≤ m_flg a b ∧ m_flg a b ≤ 3 := by
  have h1 : a = 0 ∨ a = 1 ∨ a = 2 ∨ a = 3 := by omega
  have h2 : b = 0 ∨ b = 1 ∨ b = 2 ∨ b = 3 := by omega
  rcases h1 with rfl | rfl | rfl | rfl <;> rcases h2 with rfl | rfl | rfl | rfl <;> decide +kernel
theorem up_ii {w : Mm} {c : Nat} {a i j v : Int} : up w c a i v c a j = if j = i then v else w c a j := by
  simp only [up, true_and]
theorem TB.mrg1 {μ : MU} {M : Int} {w : Mm} (hT : TB μ M w) (hx : m_nxt μ w ≠ -1) : TB μ M (m_mrg1 μ (m_nxt μ w) w) := by
  obtain ⟨⟨f1, f2, f3, f4, f5, f6, f7, f8⟩, g1, g2, g3, g4⟩ := mrg_facts hT hx
  obtain ⟨t1, t2, t3, t4, t5, t6, t7⟩ := hT
  generalize m_nxt μ w = x at *
  unfold m_mrg1
  generalize m_nwst μ x w = y at *
  have hX := t7 x (by omega) (by omega)
  have hY := t7 y (by omega) (by omega)
  have hfl := flg_rng hY.2.2.2.1 hX.2.2.2.1
  generalize m_flg (w 225 0 y) (w 225 0 x) = fv at *
  refine ⟨?_, ?_, ?_, ?_, ?_, ?_, ?_⟩
  · simp (disch := decide) only [up_k]; exact t1
  · simp (disch := decide) only [up_k, up_s]; omega
  · simp (disch := decide) only [up_k]; exact t3
  · simp (disch := decide) only [up_k]; exact t4
  · simp (disch := decide) only [up_k]; exact t5
  · simp (disch := decide) only [up_k]; exact t6
  · intro k k1 k2
    simp (disch := decide) only [up_k] at k2
    simp (disch := decide) only [up_k, up_ii]
    have hK := t7 k k1 k2
    refine ⟨?_, ?_, ?_, ?_, ?_, hK.2.2.2.2.2.1, ?_, hK.2.2.2.2.2.2.2⟩
    · split
      · exact Or.inl rfl
      · exact hK.1
    · split
      · omega
      · exact hK.2.1
    · split
      · intro _; exact hX.2.2.1 (by omega)
      · exact hK.2.2.1
    · split
      · exact hfl
      · exact hK.2.2.2.1
    · split
      · exact hX.2.2.2.2.1
      · exact hK.2.2.2.2.1
    · split
      · exact hY.2.2.2.2.1
      · exact hK.2.2.2.2.2.2.1
theorem mrg1_alive {μ : MU} {x : Int} {w : Mm} : m_mrg1 μ x w 125 μ.1 0 = w 125 μ.1 0 - 1 := by
  unfold m_mrg1; rw [up_s]
theorem TB.mrg {μ : MU} {M : Int} : ∀ (n : Nat) (c : Int) (w : Mm), TB μ M w → TB μ M (m_mrg μ n c w).2
  | 0, c, w, h => h
  | n + 1, c, w, h => by
    unfold m_mrg
    split
    · exact h
    · next hx => exact TB.mrg n _ _ (h.mrg1 hx)
theorem TB.mk1 {μ : MU} {M f : Int} {w : Mm} (h : TB μ M w) (hf : 0 ≤ f ∧ f ≤ 3) (hs : w 122 μ.1 0 ≤ w 120 μ.1 0 ∧ w 120 μ.1 0 ≤ 30000) (hp : 0 ≤ w 121 μ.1 0 ∧ w 121 μ.1 0 ≤ 524288) (h7 : 0 ≤ w 207 0 0 ∧ w 207 0 0 ≤ 400) : TB μ (M + 1) (m_mk1 μ f w) := by
  obtain ⟨t1, t2, t3, t4, t5, t6, t7⟩ := h
  unfold m_mk1
  refine ⟨?_, ?_, ?_, ?_, ?_, ?_, ?_⟩
  · simp (disch := decide) only [up_k, up_s]; omega
  · simp (disch := decide) only [up_k, up_s]; omega
  · simp (disch := decide) only [up_k, up_s]; omega
  · simp (disch := decide) only [up_k, up_s]; omega
  · simp (disch := decide) only [up_k, up_s]; omega
  · simp (disch := decide) only [up_k, up_s]; omega
  · intro k k1 k2
    simp (disch := decide) only [up_k, up_s] at k2
    simp (disch := decide) only [up_k, up_s, up_ii]
    by_cases c : k = w 124 μ.1 0
    · simp only [if_pos c]; exact ⟨by simp, by omega, fun _ => by omega, by omega, by omega, by omega, by omega, by omega, by omega, by omega⟩
    · simp only [if_neg c]
      have hK := t7 k k1 (by omega)
      omega
