/-! a node that was just made: one insertion, or merged -/
def NE (μ : MU) (A : Mm) : Prop := ∀ q, 1 ≤ q → q < A 124 μ.1 0 → 1 ≤ A 220 0 q
def I2n (n : Int) (A : Mm) : Prop := (A 225 0 n = 0 ∧ A 221 0 n = n ∧ A 223 0 n = -1) ∨ (A 225 0 n ≠ 0 ∧ A 221 0 n ≠ n)
def MIx (μ : MU) (n : Int) (A : Mm) : Prop := (A 126 μ.1 0 = n ∧ 1 ≤ n) ∧ (∀ k, 1 ≤ k → k < A 124 μ.1 0 → A 216 0 k = 1 → A 222 0 k = k) ∧ (∀ k, 1 ≤ k → k < A 124 μ.1 0 → A 216 0 k = 1 → k ≠ n → A 221 0 k ≠ n) ∧ I2n n A
section MIX
variable {μ : MU} {n k x M M' : Int} {A : Mm} {ρ : Int → Mm} {G : Int → Int → Int} {PL : Int → List Int}
theorem MIx.mrg1 (h : MIx μ n A) (hT : TB μ M A) (hx : m_nxt μ A ≠ -1) : MIx μ n (m_mrg1 μ (m_nxt μ A) A) := by
  obtain ⟨⟨x1, x2, x3, x4, -⟩, y1, y2, y3, y4⟩ := mrg_facts hT hx
  obtain ⟨⟨h0, hn⟩, h1, h2, h3⟩ := h
  obtain ⟨x, hx'⟩ : ∃ x, x = m_nxt μ A := ⟨_, rfl⟩
  rw [← hx'] at x1 x2 x3 x4 y1 y2 y3 y4 ⊢
  obtain ⟨y, hy⟩ : ∃ y, y = m_nwst μ x A := ⟨_, rfl⟩
  rw [← hy] at y1 y2 y3 y4
  have e216 : ∀ j, m_mrg1 μ x A 216 0 j = if j = x then 0 else A 216 0 j := fun j => by
    unfold m_mrg1; rw [up_k _ (by decide)]
    by_cases c : j = x
    · rw [c, up_s, if_pos rfl]
    · rw [up_i _ _ _ _ _ _ c, up_k _ (by decide), up_k _ (by decide), up_k _ (by decide), up_k _ (by decide), if_neg c]
  have e221 : ∀ j, m_mrg1 μ x A 221 0 j = if j = y then A 221 0 x else A 221 0 j := fun j => by
    unfold m_mrg1; rw [← hy, up_k _ (by decide), up_k _ (by decide), up_k _ (by decide), up_k _ (by decide)]
    by_cases c : j = y
    · rw [c, up_s, if_pos rfl]
    · rw [up_i _ _ _ _ _ _ c, up_k _ (by decide), if_neg c]
  have e223 : ∀ j, j ≠ A 222 0 x → m_mrg1 μ x A 223 0 j = A 223 0 j := fun j c => by
    unfold m_mrg1; rw [up_k _ (by decide), up_k _ (by decide), up_k _ (by decide), up_k _ (by decide), up_k _ (by decide), up_i _ _ _ _ _ _ c]
  have e225 : ∀ j, m_mrg1 μ x A 225 0 j = if j = y then m_flg (A 225 0 y) (A 225 0 x) else A 225 0 j := fun j => by rw [mrg1_225, ← hy]
  have e222 : ∀ j, m_mrg1 μ x A 222 0 j = A 222 0 j := fun j => by
    unfold m_mrg1; rw [up_k _ (by decide), up_k _ (by decide), up_k _ (by decide), up_k _ (by decide), up_k _ (by decide), up_k _ (by decide)]
  have e124 : m_mrg1 μ x A 124 μ.1 0 = A 124 μ.1 0 := by
    unfold m_mrg1; rw [up_k _ (by decide), up_k _ (by decide), up_k _ (by decide), up_k _ (by decide), up_k _ (by decide), up_k _ (by decide)]
  have e126 : m_mrg1 μ x A 126 μ.1 0 = A 126 μ.1 0 := by
    unfold m_mrg1; rw [up_k _ (by decide), up_k _ (by decide), up_k _ (by decide), up_k _ (by decide), up_k _ (by decide), up_k _ (by decide)]
  have x22 : A 222 0 x = x := h1 x x1 x2 x3
  have x21 : A 221 0 x ≠ n := h2 x x1 x2 x3 (by omega)
  have fl2 : m_flg (A 225 0 y) (A 225 0 x) ≠ 0 := by
    have b := fun k k0 k1 => (hT.2.2.2.2.2.2 k k0 k1).2.2.2.1
    rw [flg_val (b y (by omega) y2) (b x (by omega) x2)]
    have := b y (by omega) y2
    have z1 : A 225 0 y % 2 = 0 ∨ A 225 0 y % 2 = 1 := by omega
    have z2 : A 225 0 x % 2 = 0 ∨ A 225 0 x % 2 = 1 := by omega
    rcases z1 with z1 | z1 <;> rcases z2 with z2 | z2 <;> rw [z1, z2] <;> decide
  refine ⟨⟨e126.trans h0, hn⟩, fun k k0 k1 k2 => ?_, fun k k0 k1 k2 k3 => ?_, ?_⟩
  · rw [e124] at k1
    rw [e216] at k2
    rw [e222]
    by_cases c : k = x
    · rw [if_pos c] at k2; omega
    · rw [if_neg c] at k2; exact h1 k k0 k1 k2
  · rw [e124] at k1
    rw [e216] at k2
    rw [e221]
    by_cases c : k = x
    · rw [if_pos c] at k2; omega
    · rw [if_neg c] at k2
      by_cases c2 : k = y
      · rw [if_pos c2]; exact x21
      · rw [if_neg c2]; exact h2 k k0 k1 k2 k3
  · unfold I2n
    rw [e225, e221, e223 n (by omega)]
    by_cases c : n = y
    · rw [if_pos c, if_pos c]; exact Or.inr ⟨fl2, x21⟩
    · rw [if_neg c, if_neg c]; exact h3
theorem MIx.mrg : ∀ (j : Nat) (c : Int) (A : Mm), MIx μ n A → TB μ M A → MIx μ n (m_mrg μ j c A).2
  | 0, _, _, h, _ => h
  | j + 1, c, A, h, hT => by
    simp only [m_mrg]
    by_cases hx : m_nxt μ A = -1
    · rw [if_pos hx]; exact h
    · rw [if_neg hx]; exact MIx.mrg j _ _ (h.mrg1 hT hx) (hT.mrg1' hx)
theorem MIx.mks (h : ∀ k, 1 ≤ k → alv μ A k → A 222 0 k = k) (hT : TB μ M A) (hTb : TB μ M' (m_mk1 μ 0 A)) : MIx μ (A 124 μ.1 0) (m_mks μ 0 A) := by
  have h124 := hT.1
  obtain ⟨m216, m217, m218, m219, m220, m221, m222, m223, m224, m225⟩ := mk1_v (μ := μ) (g := 0) (A := A)
  obtain ⟨m126, m124, m125, m122, m123⟩ := mk1_m (μ := μ) (g := 0) (A := A)
  refine MIx.mrg (M := M') _ _ _ ⟨⟨m126, by omega⟩, fun k k0 k1 k2 => ?_, fun k k0 k1 k2 k3 => ?_, Or.inl ⟨m225, m221, m223⟩⟩ hTb
  · by_cases c : k = A 124 μ.1 0
    · rw [c]; exact m222
    · rw [m124] at k1
      rw [mk1_o (by decide) c] at k2 ⊢
      exact h k k0 ⟨⟨by omega, by omega⟩, k2⟩
  · rw [m124] at k1
    rw [mk1_o (by decide) k3]
    have := (hT.2.2.2.2.2.2 k (by omega) (by omega)).2.2.2.2.1
    omega
theorem TX.cnt (h : TX μ ρ G PL A) (hT : TB μ M A) (hI : I2n n A) (ha : alv μ A n) (hn : 1 ≤ n) (hNE : NE μ A) : (ixN A (PL n)).length = 1 ↔ (A 220 0 n = 1 ∧ A 225 0 n = 0) := by
  have hlt := h.1.1.lt hT ha
  rcases hI with ⟨e1, e2, e3⟩ | ⟨e1, e2⟩
  · rw [h.one ha hn e2 e3]
    have := hNE n hn ha.1.2
    show (rng _ _ ++ []).length = 1 ↔ _
    rw [List.append_nil, rng_len]
    omega
  · obtain ⟨q1, ⟨N, q2, -⟩, -⟩ := h.1.1.2.2.1 n hn ha
    refine ⟨fun z => ?_, fun z => absurd z.2 e1⟩
    exfalso
    rw [q2] at q1 z hlt
    cases N with
    | nil => exact e2 q1.1
    | cons q N' =>
      have l1 := hlt q List.mem_cons_self
      have l2 := hlt n (List.mem_append_right _ (List.mem_singleton.mpr rfl))
      have k1 := hNE q l1.1 l1.2
      have k2 := hNE n l2.1 l2.2
      rw [List.cons_append] at z
      have z' : (rng (A 220 0 q).toNat (A 218 0 q) ++ ixN A (N' ++ [n])).length = 1 := z
      rw [List.length_append, rng_len, ixN_ap, List.length_append] at z'
      have z2 : (ixN A [n]).length = (A 220 0 n).toNat := by
        show (rng _ _ ++ []).length = _
        rw [List.append_nil, rng_len]
      omega
end MIX
