def m_pEn (μ : MU) (s e : Int) (b w : Mm) : Mm := m_poolN μ (fun i => b 206 0 (80 * s + 20 * e + i)) (b 205 0 (4 * s + e)).toNat w
def m_tel (μ : MU) (s : Int) (b : Mm) : Nat → Mm → Mm
  | 0, w => w
  | n + 1, w => m_pEn μ s n b (m_pool μ (b 205 0 (4 * s + n)) (m_tel μ s b n w))
def m_tells (μ : MU) (s : Int) (w : Mm) : Mm := m_tel μ s w (w 204 0 s).toNat (m_pool μ (w 204 0 s) (m_step μ 4 0 s w))
theorem pEn_at {μ : MU} {s e : Int} {b w : Mm} {c : Nat} {a i : Int} (h : c ≠ 213 ∧ c ≠ 121) : m_pEn μ s e b w c a i = w c a i := poolN_at h
theorem tel_at {μ : MU} {s : Int} {n : Nat} {b w : Mm} {c : Nat} {a i : Int} (h : c ≠ 213 ∧ c ≠ 121) : m_tel μ s b n w c a i = w c a i := by
  induction n with
  | zero => rfl
  | succ n ih => exact ((pEn_at h).trans (pool_at h)).trans ih
def bL (s : Int) (w : Mm) : Prop := ∀ e, 0 ≤ e → e < 4 → 0 ≤ w 205 0 (4 * s + e) ∧ w 205 0 (4 * s + e) ≤ 20
theorem tel_n {μ : MU} {s : Int} {n : Nat} {b w : Mm} (hb : bL s b) (hn : n ≤ 4) : w 121 μ.1 0 + n ≤ m_tel μ s b n w 121 μ.1 0 ∧ m_tel μ s b n w 121 μ.1 0 ≤ w 121 μ.1 0 + 21 * n := by
  induction n with
  | zero => simp [m_tel]
  | succ n ih =>
    have h1 := ih (by omega)
    have h2 := hb n (by omega) (by omega)
    simp only [m_tel, m_pEn, poolN_n, pool_n]
    omega
def m_psh (t k : Int) (w : Mm) : Mm :=
  let c1 := if w 204 0 (5 * t + 4) < 4 then w 204 0 (5 * t + 4) + 1 else 4
  m_tak t 4 0 k (fl (fl (up w 204 0 (5 * t + 4) c1) 205 (20 * t + 16 + 1) (c1 - 1) (fun i => w 205 0 (i - 1))) 206 (400 * t + 320 + 20) (20 * (c1 - 1)) (fun i => w 206 0 (i - 20)))
def m_trn (t : Int) (w : Mm) : Mm :=
  let l := w 204 0 (5 * t + 4) - 1
  m_tak t 4 l (w 205 0 (20 * t + 16)) (fl (fl (fl w 240 0 20 (fun i => w 206 0 (400 * t + 320 + i))) 205 (20 * t + 16) l (fun i => w 205 0 (i + 1))) 206 (400 * t + 320) (20 * l) (fun i => w 206 0 (i + 20)))
theorem psh_step {t i c1 : Int} {w : Mm} (ht : 0 ≤ t) (hi : 1 ≤ i ∧ i ≤ c1 - 1) : m_mvE t i (i - 1) (fl (fl (up w 204 0 (5 * t + 4) c1) 205 (20 * t + 16 + (i) + 1) (c1 - 1 - (i)) (fun i => w 205 0 (i - 1))) 206 (400 * t + 320 + 20 * ((i) + 1)) (20 * (c1 - 1 - (i))) (fun i => w 206 0 (i - 20))) = (fl (fl (up w 204 0 (5 * t + 4) c1) 205 (20 * t + 16 + (i + -1) + 1) (c1 - 1 - (i + -1)) (fun i => w 205 0 (i - 1))) 206 (400 * t + 320 + 20 * ((i + -1) + 1)) (20 * (c1 - 1 - (i + -1))) (fun i => w 206 0 (i - 20))) := by
  funext c x j
  by_cases h5 : c = 205 ∧ x = 0
  · obtain ⟨rfl, rfl⟩ := h5
    simp only [m_mvE, fl, up, true_and, false_and]
    (repeat' split) <;> first | rfl | (exfalso; omega) | (congr 1; omega) | omega
  · by_cases h6 : c = 206 ∧ x = 0
    · obtain ⟨rfl, rfl⟩ := h6
      simp only [m_mvE, fl, up, true_and, false_and]
      (repeat' split) <;> first | rfl | (exfalso; omega) | (congr 1; omega) | omega
    · simp only [m_mvE, fl, up, true_and, false_and]
      (repeat' split) <;> first | rfl | (exfalso; omega) | (congr 1; omega) | omega
theorem trn_step {t i : Int} {w : Mm} (ht : 0 ≤ t) (hi : 1 ≤ i) : m_mvE t (i - 1) i (fl (fl (fl w 240 0 20 (fun i => w 206 0 (400 * t + 320 + i))) 205 (20 * t + 16) ((i) - 1) (fun i => w 205 0 (i + 1))) 206 (400 * t + 320) (20 * ((i) - 1)) (fun i => w 206 0 (i + 20))) = (fl (fl (fl w 240 0 20 (fun i => w 206 0 (400 * t + 320 + i))) 205 (20 * t + 16) ((i + 1) - 1) (fun i => w 205 0 (i + 1))) 206 (400 * t + 320) (20 * ((i + 1) - 1)) (fun i => w 206 0 (i + 20))) := by
  funext c x j
  by_cases h5 : c = 205 ∧ x = 0
  · obtain ⟨rfl, rfl⟩ := h5
    simp only [m_mvE, fl, up, true_and, false_and]
    (repeat' split) <;> first | rfl | (exfalso; omega) | (congr 1; omega) | omega
  · by_cases h6 : c = 206 ∧ x = 0
    · obtain ⟨rfl, rfl⟩ := h6
      simp only [m_mvE, fl, up, true_and, false_and]
      (repeat' split) <;> first | rfl | (exfalso; omega) | (congr 1; omega) | omega
    · simp only [m_mvE, fl, up, true_and, false_and]
      (repeat' split) <;> first | rfl | (exfalso; omega) | (congr 1; omega) | omega
