theorem up_self {w : Mm} {c : Nat} {a i : Int} : up w c a i (w c a i) = w := by
  funext c' a' i'
  simp only [up]
  split
  · rename_i h; rw [h.1, h.2.1, h.2.2]
  · rfl
/-- the opposite of a step moves a trace ahead of it -/
def m_opx (t k o : Int) (w : Mm) : Mm := up (up w 244 0 o (w 244 0 o + if w 246 0 (8 * o + t) = 1 then k else 0)) 245 0 o (w 244 0 o + if w 246 0 (8 * o + t) = 1 then k else 0)
def m_op1 (μ : MU) (t q k o : Int) (w : Mm) : Mm := if w 241 0 t = 1 ∧ w 244 0 o = q ∧ w 245 0 o = q then m_opx t k o w else if w 241 0 t = 2 then w else m_mov μ o (if w 241 0 t = 0 then 1 else 0) q k (-1) w
def m_opN (μ : MU) (t q k : Int) : Nat → Mm → Mm
  | 0, w => w
  | n + 1, w => m_op1 μ t q k n (m_opN μ t q k n w)
def m_opD (μ : MU) (q k : Int) (w : Mm) : Mm := up (m_del μ q k w) 207 0 0 (dbF (m_del μ q k w 207 0 0) q k)
def m_opI (μ : MU) (q k : Int) (w : Mm) : Mm := up (m_ins μ q k w) 207 0 0 (mvF (m_ins μ q k w 207 0 0) q k 0)
def m_opp (μ : MU) (PL : Int → List Int) (nd t : Int) (w : Mm) : Int × Mm :=
  if w 241 0 t = 0 then (1, m_opN μ t (w 244 0 t) (w 243 0 t) t.toNat (m_opD μ (w 244 0 t) (w 243 0 t) w))
  else if w 241 0 t = 2 then (1, m_opN μ t (w 244 0 t) (w 243 0 t) t.toNat (m_rep μ (w 244 0 t) (m_rem μ PL nd t w 240 0 0) (m_rem μ PL nd t w)))
  else if w 201 0 0 + w 243 0 t > 400 then (0, w) else (1, m_opN μ t (w 244 0 t) (w 243 0 t) t.toNat (m_opI μ (w 244 0 t) (w 243 0 t) (m_rem μ PL nd t w)))
theorem mov_246 {μ : MU} {t d q k a i : Int} {w : Mm} (hd : d = 0 ∨ d = 1) : m_mov μ t d q k (-1) w 246 a i = w 246 a i := by
  unfold m_mov
  rcases hd with rfl | rfl
  · rw [if_neg (show ¬ ((0 : Int) = 2) by decide), if_pos rfl]
    unfold m_mvI; simp (disch := decide) only [up_k]
  · rw [if_neg (show ¬ ((1 : Int) = 2) by decide), if_neg (show ¬ ((1 : Int) = 0) by decide)]
    unfold m_mvD
    rw [if_pos (show ((-1 : Int)) < 0 by decide), if_pos (show ((-1 : Int)) < 0 by decide), show 8 * t + 0 = 8 * t by omega]
    by_cases e2 : a = 0 ∧ i = 8 * t
    · rw [e2.1, e2.2, up_s]
    · have : ∀ (V : Mm) (v : Int), up V 246 0 (8 * t) v 246 a i = V 246 a i := fun V v => by
        simp only [up]; rw [if_neg (by omega)]
      rw [this]; simp (disch := decide) only [up_k]
theorem op1_at {μ : MU} {t q k o : Int} {w : Mm} {c : Nat} {a i : Int} (h : c ≠ 138 ∧ c ≠ 244 ∧ c ≠ 245) : m_op1 μ t q k o w c a i = w c a i := by
  unfold m_op1
  split
  · unfold m_opx; rw [up_k _ h.2.2, up_k _ h.2.1]
  · split
    · rfl
    · by_cases e : c = 246
      · subst e
        exact mov_246 (by split; exact Or.inr rfl; exact Or.inl rfl)
      · exact mov_at ⟨h.1, h.2.1, h.2.2, e⟩
theorem opN_at {μ : MU} {t q k : Int} {w : Mm} {c : Nat} {a i : Int} (h : c ≠ 138 ∧ c ≠ 244 ∧ c ≠ 245) : ∀ n, m_opN μ t q k n w c a i = w c a i
  | 0 => rfl
  | n + 1 => by simp only [m_opN]; rw [op1_at h, opN_at h n]
theorem op1_o {μ : MU} {t q k o i : Int} {w : Mm} {c : Nat} (hc : c = 244 ∨ c = 245) (h : i ≠ o) : m_op1 μ t q k o w c 0 i = w c 0 i := by
  unfold m_op1
  split
  · unfold m_opx
    rcases hc with rfl | rfl
    · rw [up_k _ (by decide), up_i _ _ _ _ _ _ h]
    · rw [up_i _ _ _ _ _ _ h, up_k _ (by decide)]
  · split
    · rfl
    · exact mov_o hc h
theorem opN_o {μ : MU} {t q k i : Int} {w : Mm} {c : Nat} (hc : c = 244 ∨ c = 245) : ∀ n : Nat, (n : Int) ≤ i → m_opN μ t q k n w c 0 i = w c 0 i
  | 0, _ => rfl
  | n + 1, h => by simp only [m_opN]; rw [op1_o hc (by omega), opN_o hc n (by omega)]
theorem opN_s {μ : MU} {t q k j : Int} {w W : Mm} (hj : 0 ≤ j) (h : W = m_op1 μ t q k j (m_opN μ t q k j.toNat w)) : W = m_opN μ t q k (j + 1).toNat w := by
  rw [h, show (j + 1).toNat = j.toNat + 1 by omega]
  simp only [m_opN]
  rw [show ((j.toNat : Nat) : Int) = j by omega]
