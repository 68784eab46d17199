def m_vF (w : Mm) : Int := if w 210 0 0 = 0 then 0 else w 208 0 (w 210 0 0 - 1)
def m_vT (w : Mm) : Int := if w 210 0 0 = 0 then w 201 0 0 else w 209 0 (w 210 0 0 - 1)
abbrev m_iV (p : Int) (w : Mm) : Prop := m_vF w ≤ p ∧ p ≤ m_vT w
theorem psh_at {t k : Int} {w : Mm} {c : Nat} {a i : Int} (h : c < 204 ∨ 206 < c) : m_psh t k w c a i = w c a i := by
  simp only [m_psh, m_tak, fl, up]
  rw [if_neg (by omega), if_neg (by omega), if_neg (by omega), if_neg (by omega), if_neg (by omega)]
theorem trn_at {t : Int} {w : Mm} {c : Nat} {a i : Int} (h : c ≠ 205 ∧ c ≠ 206 ∧ c ≠ 240) : m_trn t w c a i = w c a i := by
  simp only [m_trn, m_tak, fl, up]
  rw [if_neg (by omega), if_neg (by omega), if_neg (by omega), if_neg (by omega), if_neg (by omega)]
theorem tak_at {t s e k : Int} {w : Mm} {c : Nat} {a i : Int} (h : c ≠ 205 ∧ c ≠ 206) : m_tak t s e k w c a i = w c a i := by
  simp only [m_tak, fl, up]
  rw [if_neg (by omega), if_neg (by omega)]
theorem fl_at {w : Mm} {c c' : Nat} {lo n a i : Int} {f : Int → Int} (h : c' ≠ c) : fl w c lo n f c' a i = w c' a i := by
  simp only [fl]; rw [if_neg (by omega)]
theorem del_at {μ : MU} {q k : Int} {w : Mm} {c : Nat} {a i : Int} (h : c ≠ 212 ∧ c ≠ 120 ∧ (c < 200 ∨ (202 < c ∧ c < 208) ∨ 209 < c)) : m_del μ q k w c a i = w c a i := by
  unfold m_del; rw [step_at ⟨h.1, h.2.1⟩, closes_at h.2.2]
theorem rep_at {μ : MU} {q k : Int} {w : Mm} {c : Nat} {a i : Int} (h : c ≠ 212 ∧ c ≠ 120 ∧ c ≠ 200) : m_rep μ q k w c a i = w c a i := by
  unfold m_rep; rw [step_at ⟨h.1, h.2.1⟩, up_k _ h.2.2]
theorem ins_at {μ : MU} {q k : Int} {w : Mm} {c : Nat} {a i : Int} (h : c ≠ 212 ∧ c ≠ 120 ∧ c ≠ 213 ∧ c ≠ 121 ∧ (c < 200 ∨ (202 < c ∧ c < 208) ∨ 209 < c)) : m_ins μ q k w c a i = w c a i := by
  unfold m_ins; rw [poolN_at ⟨h.2.2.1, h.2.2.2.1⟩, fl_at (by omega), step_at ⟨h.1, h.2.1⟩, opens_at h.2.2.2.2]
def m_rd (k : Int) (w : Mm) : Mm := fl w 240 0 k (fun i => w 200 0 (w 207 0 0 + i))
/-- the first place at or behind i, of n, at which f is c; -1 if there is none -/
def fnd (f : Int → Int) (c : Int) : Nat → Int → Int
  | 0, _ => -1
  | n + 1, i => if f i = c then i else fnd f c n (i + 1)
theorem fnd_no {f : Int → Int} {c i : Int} {n : Nat} (h : n = 0) : fnd f c n i = -1 := by subst h; rfl
theorem fnd_hit {f : Int → Int} {c i : Int} {n : Nat} (h : n ≠ 0) (e : f i = c) : fnd f c n i = i := by
  cases n with
  | zero => exact absurd rfl h
  | succ n => simp only [fnd]; rw [if_pos e]
theorem fnd_next {f : Int → Int} {c i : Int} {n n' : Nat} (h : n = n' + 1) (e : f i ≠ c) : fnd f c n i = fnd f c n' (i + 1) := by
  subst h; simp only [fnd]; rw [if_neg e]
theorem fnd_spec (f : Int → Int) (c : Int) : ∀ (n : Nat) (i : Int), (fnd f c n i = -1 ∧ ∀ j, i ≤ j → j < i + n → f j ≠ c) ∨ (i ≤ fnd f c n i ∧ fnd f c n i < i + n ∧ f (fnd f c n i) = c ∧ ∀ j, i ≤ j → j < fnd f c n i → f j ≠ c)
  | 0, i => Or.inl ⟨rfl, fun j h1 h2 => by omega⟩
  | n + 1, i => by
    by_cases e : f i = c
    · rw [fnd_hit (by omega) e]; exact Or.inr ⟨by omega, by omega, e, fun j h1 h2 => by omega⟩
    · rw [fnd_next rfl e]
      rcases fnd_spec f c n (i + 1) with ⟨h1, h2⟩ | ⟨h1, h2, h3, h4⟩
      · refine Or.inl ⟨h1, fun j h3 h4 => ?_⟩
        by_cases c1 : j = i
        · subst c1; exact e
        · exact h2 j (by omega) (by omega)
      · refine Or.inr ⟨by omega, by omega, h3, fun j h5 h6 => ?_⟩
        by_cases c1 : j = i
        · subst c1; exact e
        · exact h4 j (by omega) h6
def m_sea2 (μ : MU) (k : Int) (w : Mm) : Int × Mm := if k = -1 then (2, w) else (0, up (up w 207 0 0 (k + 1)) 136 μ.1 0 (k + 1))
def m_sea (μ : MU) (c : Int) (w : Mm) : Int × Mm := m_sea2 μ (fnd (fun i => w 200 0 i) c (m_vT w - w 207 0 0).toNat (w 207 0 0)) w
def m_mkp (μ : MU) (k g : Int) (w : Mm) : Mm := m_step μ 3 (w 207 0 0) (2 * k + g) (up (up (up w 136 μ.1 0 (w 202 0 k)) 202 0 k (w 207 0 0)) 203 0 k g)
def m_clr (μ : MU) (k : Int) (w : Mm) : Int × Mm := if w 202 0 k = -1 then (3, w) else (0, m_step μ 3 511 (2 * k) (up (up w 136 μ.1 0 (w 202 0 k)) 202 0 k (-1)))
def m_nar1 (μ : MU) (k : Int) (w : Mm) : Mm := up (up (up (up w 208 0 (w 210 0 0) (if w 202 0 k < w 207 0 0 then w 202 0 k else w 207 0 0)) 209 0 (w 210 0 0) (if w 202 0 k < w 207 0 0 then w 207 0 0 else w 202 0 k)) 210 0 0 (w 210 0 0 + 1)) 136 μ.1 0 (w 210 0 0 + 1)
def m_nar (μ : MU) (k : Int) (w : Mm) : Int × Mm := if ¬ (w 202 0 k ≠ -1 ∧ m_vF w ≤ w 202 0 k ∧ w 202 0 k ≤ m_vT w) then (3, w) else if w 210 0 0 = 4 then (6, w) else (0, m_nar1 μ k w)
