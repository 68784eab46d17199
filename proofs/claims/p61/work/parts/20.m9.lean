/-- fewer locals are known -/
def lwk : List (Option Value) → List (Option Value) → Prop
  | [], [] => True
  | a :: as, b :: bs => (a = none ∨ a = b) ∧ lwk as bs
  | _, _ => False
theorem lwk_len : ∀ {a b : List (Option Value)}, lwk a b → a.length = b.length
  | [], [], _ => rfl
  | a :: as, b :: bs, h => by simp only [List.length_cons]; rw [lwk_len h.2]
  | [], b :: bs, h => h.elim
  | a :: as, [], h => h.elim
theorem lwk_get : ∀ {a b : List (Option Value)}, lwk a b → ∀ {i : Nat} {v : Value}, lget a i = some v → lget b i = some v
  | [], [], _, i, v, e => by simp [lget] at e
  | a :: as, b :: bs, h, 0, v, e => by
    simp only [lget] at e ⊢
    rcases h.1 with h1 | h1
    · rw [h1] at e; cases e
    · rw [← h1]; exact e
  | a :: as, b :: bs, h, i + 1, v, e => by
    simp only [lget] at e ⊢
    exact lwk_get h.2 e
  | [], b :: bs, h, _, _, _ => h.elim
  | a :: as, [], h, _, _, _ => h.elim
theorem X_wk {κ : KC} {P S : Nat} {w : Mm} {pc : Nat} {ls ls' : List (Option Value)} {st : List Value} (h : lwk ls' ls) (k : X κ P S w pc ls' st) : X κ P S w pc ls st :=
  fun H locs la c n h1 h2 h3 h4 h5 h6 => k H locs la c n h1 h2 h3 ⟨h4.1, h4.2.1, (lwk_len h).trans h4.2.2.1, fun i v e => h4.2.2.2 i v (lwk_get h e)⟩ h5 h6
def sumN (f : Int → Int) : Nat → Int
  | 0 => 0
  | n + 1 => sumN f n + f n
theorem sumN_s {f : Int → Int} {j s v : Int} (hj : 0 ≤ j) (hs : s = sumN f j.toNat) (hv : v = f j) : s + v = sumN f (j + 1).toNat := by
  rw [show (j + 1).toNat = j.toNat + 1 by omega]
  show s + v = sumN f j.toNat + f (j.toNat : Int)
  rw [show ((j.toNat : Nat) : Int) = j by omega, hs, hv]
theorem sumN_nn {f : Int → Int} (hf : ∀ k, 0 ≤ f k) : ∀ n, 0 ≤ sumN f n
  | 0 => Int.le_refl _
  | n + 1 => by have := sumN_nn hf n; have := hf n; simp only [sumN]; omega
theorem sumN_pos {f : Int → Int} : ∀ {n : Nat}, (0 < sumN f n) → ∃ k : Int, 0 ≤ k ∧ k < n ∧ 0 < f k
  | 0, h => by simp only [sumN] at h; omega
  | n + 1, h => by
    simp only [sumN] at h
    by_cases c : 0 < f n
    · exact ⟨n, by omega, by omega, c⟩
    · obtain ⟨k, h1, h2, h3⟩ := sumN_pos (f := f) (n := n) (by omega)
      exact ⟨k, h1, by omega, h3⟩
/-- the last place below n at which f is 1; -1 if there is none -/
def lst (f : Int → Int) : Nat → Int
  | 0 => -1
  | n + 1 => if f n = 1 then n else lst f n
theorem lst_s {f : Int → Int} {j s v : Int} (hj : 0 ≤ j) (hs : s = lst f j.toNat) (hv : (f j = 1 ∧ v = j) ∨ (f j ≠ 1 ∧ v = s)) : v = lst f (j + 1).toNat := by
  rw [show (j + 1).toNat = j.toNat + 1 by omega]
  show v = if f (j.toNat : Int) = 1 then (j.toNat : Int) else lst f j.toNat
  rw [show ((j.toNat : Nat) : Int) = j by omega]
  rcases hv with ⟨h1, h2⟩ | ⟨h1, h2⟩
  · rw [if_pos h1]; exact h2
  · rw [if_neg h1, h2]; exact hs
theorem lst_spec (f : Int → Int) : ∀ n : Nat, (lst f n = -1 ∧ ∀ k : Int, 0 ≤ k → k < n → f k ≠ 1) ∨ (0 ≤ lst f n ∧ lst f n < n ∧ f (lst f n) = 1 ∧ ∀ k : Int, lst f n < k → k < n → f k ≠ 1)
  | 0 => Or.inl ⟨rfl, fun k h1 h2 => by omega⟩
  | n + 1 => by
    simp only [lst]
    by_cases e : f n = 1
    · rw [if_pos e]; exact Or.inr ⟨by omega, by omega, e, fun k h1 h2 => by omega⟩
    · rw [if_neg e]
      rcases lst_spec f n with ⟨h1, h2⟩ | ⟨h1, h2, h3, h4⟩
      · refine Or.inl ⟨h1, fun k h3 h4 => ?_⟩
        by_cases c : k = n
        · subst c; exact e
        · exact h2 k h3 (by omega)
      · refine Or.inr ⟨h1, by omega, h3, fun k h5 h6 => ?_⟩
        by_cases c : k = n
        · subst c; exact e
        · exact h4 k h5 (by omega)
/-- listener j comes ahead of listener k -/
def m_ahd (w : Mm) (k j : Int) : Int := bi (w 228 0 j = 1 ∧ (w 231 0 j < w 231 0 k ∨ (w 231 0 j = w 231 0 k ∧ j < k)))
def m_orF (p : Int) (w : Mm) (k : Int) : Int := bi (w 228 0 k = 1 ∧ sumN (m_ahd w k) 3 = p)
def m_ord (p : Int) (w : Mm) : Int := fnd (m_orF p w) 1 3 0
def m_pof (c : Int) (w : Mm) : Int := fnd (fun i => w 200 0 i) c (w 201 0 0).toNat 0
theorem ord_rng (p : Int) (w : Mm) : m_ord p w = -1 ∨ (0 ≤ m_ord p w ∧ m_ord p w ≤ 2) := by
  have := fnd_spec (m_orF p w) 1 3 0
  unfold m_ord; omega
theorem pof_rng (c : Int) (w : Mm) (h : 0 ≤ w 201 0 0) : m_pof c w = -1 ∨ (0 ≤ m_pof c w ∧ m_pof c w < w 201 0 0 ∧ w 200 0 (m_pof c w) = c) := by
  rcases fnd_spec (fun i => w 200 0 i) c (w 201 0 0).toNat 0 with h1 | h1
  · exact Or.inl h1.1
  · refine Or.inr ⟨h1.1, ?_, h1.2.2.1⟩
    have := h1.2.1
    unfold m_pof; omega
def m_nrun (μ : MU) : Nat → Int → Mm → Option (Int × Mm)
  | 0, _, _ => none
  | n + 1, d, w =>
    if d ≤ 0 then some (1, w) else
    if (if w 234 0 d < 3 then m_ord (w 234 0 d) w else -1) = -1 then m_nrun μ n (d - 1) (up w 234 0 d (w 234 0 d + 1)) else
    if m_pof (w 229 0 (m_ord (w 234 0 d) w)) (up w 234 0 d (w 234 0 d + 1)) = -1 then m_nrun μ n d (up w 234 0 d (w 234 0 d + 1)) else
    if d = 8 then some (0, fl (up (up w 234 0 d (w 234 0 d + 1)) 233 0 d (m_ord (w 234 0 d) w)) 232 0 8 (fun k => up (up w 234 0 d (w 234 0 d + 1)) 233 0 d (m_ord (w 234 0 d) w) 233 0 (k + 1))) else
    m_nrun μ n (d + 1) (up (m_rep μ (m_pof (w 229 0 (m_ord (w 234 0 d) w)) (up (up w 234 0 d (w 234 0 d + 1)) 233 0 d (m_ord (w 234 0 d) w))) (w 230 0 (m_ord (w 234 0 d) w)) (up (up w 234 0 d (w 234 0 d + 1)) 233 0 d (m_ord (w 234 0 d) w))) 234 0 (d + 1) 0)
def bPo (w : Mm) : Prop := ∀ i, 0 ≤ i → i < 9 → 0 ≤ w 234 0 i ∧ w 234 0 i ≤ 4
def bPd (d : Int) (w : Mm) : Prop := ∀ i, 1 ≤ i → i ≤ d → w 234 0 i ≤ 3
def bOt (w : Mm) : Prop := ∀ i, 0 ≤ i → i < 3 → 0 ≤ w 230 0 i ∧ w 230 0 i ≤ 126
def NI (μ : MU) (S P : Int) (d : Int) (w : Mm) : Prop := LB μ S P w ∧ bPo w ∧ bPd d w ∧ bOt w ∧ d ≤ 8
theorem LB.cong {μ : MU} {S P : Int} {w w' : Mm} (h : LB μ S P w) (e : ∀ c a i, 200 ≤ c → c ≤ 240 → (c ≤ 211 ∨ 240 ≤ c) → w' c a i = w c a i) (e1 : w' 120 μ.1 0 = w 120 μ.1 0) (e2 : w' 121 μ.1 0 = w 121 μ.1 0) : LB μ S P w' := by
  obtain ⟨h1, h2, h3, h4, h5⟩ := h
  exact ⟨h1.cong fun c a i x y => e c a i (by omega) (by omega) (by omega), h2.cong (fun c a i x y => e c a i (by omega) (by omega) (by omega)) (e _ _ _ (by decide) (by decide) (by decide)), h3.cong fun i => e _ _ _ (by decide) (by decide) (by decide), h4.cong fun i => e _ _ _ (by decide) (by decide) (by decide), h5.cong e1 e2⟩
theorem LB.up_o {μ : MU} {S P : Int} {w : Mm} (h : LB μ S P w) {c : Nat} {a i v : Int} (hc : (c < 200 ∧ c ≠ 120 ∧ c ≠ 121) ∨ (211 < c ∧ c ≠ 240)) : LB μ S P (up w c a i v) :=
  h.cong (fun c' _ _ _ _ _ => up_k _ (by omega) _ _ _ _ _) (up_k _ (by omega) _ _ _ _ _) (up_k _ (by omega) _ _ _ _ _)
theorem bPo.u {w : Mm} (h : bPo w) {d v : Int} (hv : 0 ≤ v ∧ v ≤ 4) : bPo (up w 234 0 d v) := by
  intro i a b
  simp only [up, true_and]
  split
  · exact hv
  · exact h i a b
theorem bPd.u {w : Mm} {d : Int} (h : bPd d w) {x v : Int} (hv : v ≤ 3) : bPd d (up w 234 0 x v) := by
  intro i a b
  simp only [up, true_and]
  split
  · exact hv
  · exact h i a b
theorem NI.pop {μ : MU} {S P d : Int} {w : Mm} (h : NI μ S P d w) (hd : 1 ≤ d) : NI μ S P (d - 1) (up w 234 0 d (w 234 0 d + 1)) := by
  obtain ⟨h1, h2, h3, h4, h5⟩ := h
  have := h3 d hd (Int.le_refl _)
  have := h2 d (by omega) (by omega)
  refine ⟨h1.up_o (by decide), h2.u (by omega), fun i a b => ?_, fun i a b => ?_, by omega⟩
  · rw [up_i _ _ _ _ _ _ (by omega)]; exact h3 i a (by omega)
  · rw [up_k _ (by decide)]; exact h4 i a b
theorem NI.on {μ : MU} {S P d : Int} {w : Mm} (h : NI μ S P d w) (hd : 1 ≤ d) (hp : w 234 0 d < 3) : NI μ S P d (up w 234 0 d (w 234 0 d + 1)) := by
  obtain ⟨h1, h2, h3, h4, h5⟩ := h
  have := h2 d (by omega) (by omega)
  refine ⟨h1.up_o (by decide), h2.u (by omega), h3.u (by omega), fun i a b => ?_, by omega⟩
  rw [up_k _ (by decide)]; exact h4 i a b
theorem NI.tr {μ : MU} {S P d x l : Int} {w : Mm} (h : NI μ S P d w) : NI μ S P d (up w 233 0 x l) := by
  obtain ⟨h1, h2, h3, h4, h5⟩ := h
  refine ⟨h1.up_o (by decide), fun i a b => ?_, fun i a b => ?_, fun i a b => ?_, h5⟩
  · rw [up_k _ (by decide)]; exact h2 i a b
  · rw [up_k _ (by decide)]; exact h3 i a b
  · rw [up_k _ (by decide)]; exact h4 i a b
theorem NI.dn {μ : MU} {S P d q c : Int} {w : Mm} (h : NI μ S P d w) (hd : d < 8) (hd1 : 1 ≤ d) (hc : 0 ≤ c ∧ c ≤ 126) : NI μ (S + 1) P (d + 1) (up (m_rep μ q c w) 234 0 (d + 1) 0) := by
  obtain ⟨h1, h2, h3, h4, h5⟩ := h
  refine ⟨(h1.rep hc).up_o (by decide), ?_, fun i a b => ?_, fun i a b => ?_, by omega⟩
  · refine bPo.u (fun i a b => ?_) (by decide)
    rw [rep_at (by decide)]; exact h2 i a b
  · simp only [up, true_and]
    split
    · decide
    · rw [rep_at (by decide)]; exact h3 i a (by omega)
  · rw [up_k _ (by decide), rep_at (by decide)]; exact h4 i a b
theorem NI.mono {μ : MU} {S P S' d : Int} {w : Mm} (h : NI μ S P d w) (hs : S ≤ S') : NI μ S' P d w := ⟨h.1.mono hs (Int.le_refl _), h.2⟩
