/-- a stretch of an array of the reference -/
def fl (w : Mm) (c : Nat) (lo n : Int) (f : Int → Int) : Mm := fun c' a i => if c' = c ∧ a = 0 ∧ lo ≤ i ∧ i < lo + n then f i else w c' a i
theorem fl_0 (w : Mm) (c : Nat) (lo : Int) (f : Int → Int) : fl w c lo 0 f = w := by
  funext c' a i; unfold fl; rw [if_neg]; omega
theorem fl_step {w : Mm} {c : Nat} {lo n i v : Int} {f : Int → Int} (hn : 0 ≤ n) (hi : i = lo + n) (hv : v = f i) : up (fl w c lo n f) c 0 i v = fl w c lo (n + 1) f := by
  funext c' a j
  unfold up fl
  by_cases h : c' = c ∧ a = 0 ∧ j = i
  · rw [if_pos h, if_pos (by omega), hv, h.2.2]
  · rw [if_neg h]
    by_cases h2 : c' = c ∧ a = 0 ∧ lo ≤ j ∧ j < lo + n
    · rw [if_pos h2, if_pos (by omega)]
    · rw [if_neg h2, if_neg (by omega)]
def m_cpS (a b s : Int) (w : Mm) : Mm := (fl (fl (up w 204 0 (5 * a + s) (w 204 0 (5 * b + s))) 205 (20 * a + 4 * s) 4 (fun i => w 205 0 (i - 20 * a + 20 * b))) 206 (400 * a + 80 * s) 80 (fun i => w 206 0 (i - 400 * a + 400 * b)))
theorem fl_comm {w : Mm} {c c' : Nat} {lo n a i v : Int} {f : Int → Int} (h : c' ≠ c) : up (fl w c lo n f) c' a i v = fl (up w c' a i v) c lo n f := by
  funext x y j
  grind [fl, up]
theorem fl_step2 {w : Mm} {c c' : Nat} {lo n lo' n' i j v u : Int} {f g : Int → Int} (hc : c ≠ c') (hn : 0 ≤ n) (hi : i = lo + n) (hv : v = f i) (hn' : 0 ≤ n') (hj : j = lo' + n') (hu : u = g j) : up (up (fl (fl w c lo n f) c' lo' n' g) c 0 i v) c' 0 j u = fl (fl w c lo (n + 1) f) c' lo' (n' + 1) g := by
  rw [fl_comm hc, fl_step hn hi hv, fl_step hn' hj hu]
theorem fl_down {w : Mm} {c : Nat} {lo n lo' v : Int} {f : Int → Int} (hn : 0 ≤ n) (hl : lo = lo' + 1) (hv : v = f lo') : up (fl w c lo n f) c 0 lo' v = fl w c lo' (n + 1) f := by
  funext c' a j
  unfold up fl
  by_cases h : c' = c ∧ a = 0 ∧ j = lo'
  · rw [if_pos h, if_pos (by omega), hv, h.2.2]
  · rw [if_neg h]
    by_cases h2 : c' = c ∧ a = 0 ∧ lo ≤ j ∧ j < lo + n
    · rw [if_pos h2, if_pos (by omega)]
    · rw [if_neg h2, if_neg (by omega)]
def m_cpT (a b : Int) (w : Mm) : Mm := (fl (fl (fl (up w 201 0 a (w 201 0 b)) 200 (400 * a) (w 201 0 b) (fun i => w 200 0 (i - 400 * a + 400 * b))) 202 (6 * a) 6 (fun i => w 202 0 (i - 6 * a + 6 * b))) 203 (6 * a) 6 (fun i => w 203 0 (i - 6 * a + 6 * b)))
def m_cpP (a b : Int) (w : Mm) : Mm := (fl (fl (up (up w 207 0 a (w 207 0 b)) 210 0 a (w 210 0 b)) 208 (4 * a) 4 (fun i => w 208 0 (i - 4 * a + 4 * b))) 209 (4 * a) 4 (fun i => w 209 0 (i - 4 * a + 4 * b)))
def m_cpQ (T : Int → Bool) (k a b : Int) (w : Mm) : Mm := fun c x i =>
  if c = 204 ∧ x = 0 ∧ 5 * a ≤ i ∧ i < 5 * a + k ∧ T (i - 5 * a) = true then w 204 0 (i - 5 * a + 5 * b)
  else if c = 205 ∧ x = 0 ∧ 20 * a ≤ i ∧ i < 20 * a + 4 * k ∧ T ((i - 20 * a) / 4) = true then w 205 0 (i - 20 * a + 20 * b)
  else if c = 206 ∧ x = 0 ∧ 400 * a ≤ i ∧ i < 400 * a + 80 * k ∧ T ((i - 400 * a) / 80) = true then w 206 0 (i - 400 * a + 400 * b) else w c x i
theorem cpQ_0 (T : Int → Bool) (a b : Int) (w : Mm) : m_cpQ T 0 a b w = w := by
  funext c x i
  unfold m_cpQ
  rw [if_neg (by omega), if_neg (by omega), if_neg (by omega)]
theorem cpQ_skip {T : Int → Bool} {k a b : Int} {w : Mm} (hk : 0 ≤ k) (h : ¬ T k = true) : m_cpQ T (k + 1) a b w = m_cpQ T k a b w := by
  funext c x i
  unfold m_cpQ
  have e1 : (c = 204 ∧ x = 0 ∧ 5 * a ≤ i ∧ i < 5 * a + (k + 1) ∧ T (i - 5 * a) = true) ↔ (c = 204 ∧ x = 0 ∧ 5 * a ≤ i ∧ i < 5 * a + k ∧ T (i - 5 * a) = true) := by
    constructor
    · rintro ⟨h1, h2, h3, h4, h5⟩
      refine ⟨h1, h2, h3, ?_, h5⟩
      by_cases q : i - 5 * a = k
      · rw [q] at h5; exact absurd h5 h
      · omega
    · rintro ⟨h1, h2, h3, h4, h5⟩; exact ⟨h1, h2, h3, by omega, h5⟩
  have e2 : (c = 205 ∧ x = 0 ∧ 20 * a ≤ i ∧ i < 20 * a + 4 * (k + 1) ∧ T ((i - 20 * a) / 4) = true) ↔ (c = 205 ∧ x = 0 ∧ 20 * a ≤ i ∧ i < 20 * a + 4 * k ∧ T ((i - 20 * a) / 4) = true) := by
    constructor
    · rintro ⟨h1, h2, h3, h4, h5⟩
      refine ⟨h1, h2, h3, ?_, h5⟩
      by_cases q : (i - 20 * a) / 4 = k
      · rw [q] at h5; exact absurd h5 h
      · omega
    · rintro ⟨h1, h2, h3, h4, h5⟩; exact ⟨h1, h2, h3, by omega, h5⟩
  have e3 : (c = 206 ∧ x = 0 ∧ 400 * a ≤ i ∧ i < 400 * a + 80 * (k + 1) ∧ T ((i - 400 * a) / 80) = true) ↔ (c = 206 ∧ x = 0 ∧ 400 * a ≤ i ∧ i < 400 * a + 80 * k ∧ T ((i - 400 * a) / 80) = true) := by
    constructor
    · rintro ⟨h1, h2, h3, h4, h5⟩
      refine ⟨h1, h2, h3, ?_, h5⟩
      by_cases q : (i - 400 * a) / 80 = k
      · rw [q] at h5; exact absurd h5 h
      · omega
    · rintro ⟨h1, h2, h3, h4, h5⟩; exact ⟨h1, h2, h3, by omega, h5⟩
  simp only [e1, e2, e3]
theorem cpQ_do {T : Int → Bool} {k a b : Int} {w : Mm} (hk : 0 ≤ k ∧ k ≤ 4) (hab : a ≠ b) (h : T k = true) : m_cpS a b k (m_cpQ T k a b w) = m_cpQ T (k + 1) a b w := by
  funext c x i
  unfold m_cpS
  by_cases hx : x = 0
  · subst hx
    by_cases h1 : c = 204
    · subst h1
      by_cases q : i = 5 * a + k
      · have : i - 5 * a = k := by omega
        grind [fl, up, m_cpQ]
      · have : i - 5 * a ≠ k := by omega
        grind [fl, up, m_cpQ]
    · by_cases h2 : c = 205
      · subst h2
        by_cases q : 20 * a + 4 * k ≤ i ∧ i < 20 * a + 4 * k + 4
        · have : (i - 20 * a) / 4 = k := by omega
          grind [fl, up, m_cpQ]
        · grind [fl, up, m_cpQ]
      · by_cases h3 : c = 206
        · subst h3
          by_cases q : 400 * a + 80 * k ≤ i ∧ i < 400 * a + 80 * k + 80
          · have : (i - 400 * a) / 80 = k := by omega
            grind [fl, up, m_cpQ]
          · grind [fl, up, m_cpQ]
        · grind [fl, up, m_cpQ]
  · grind [fl, up, m_cpQ]
