/-- traces lie in bounds -/
def bTc (N : Int) (w : Mm) : Prop := ∀ t, 0 ≤ t → t < 8 → (0 ≤ w 244 0 t ∧ w 244 0 t ≤ N) ∧ (0 ≤ w 245 0 t ∧ w 245 0 t ≤ N) ∧ w 244 0 t ≤ w 245 0 t
theorem bTc.mono {N N' : Int} {w : Mm} (h : bTc N w) (hn : N ≤ N') : bTc N' w := fun t a b => by have := h t a b; omega
theorem mov_at {μ : MU} {t d q k y : Int} {w : Mm} {c : Nat} {a i : Int} (h : c ≠ 138 ∧ c ≠ 244 ∧ c ≠ 245 ∧ c ≠ 246) : m_mov μ t d q k y w c a i = w c a i := by
  unfold m_mov m_mvR m_mvI m_mvD
  split
  · exact up_k _ h.1 _ _ _ _ _
  · split
    · rw [up_k _ h.2.2.1, up_k _ h.2.1, up_k _ h.1]
    · rw [up_k _ h.2.2.2, up_k _ h.2.2.1, up_k _ h.2.1, up_k _ h.1]
theorem bTc.mov {μ : MU} {N t d q k y : Int} {w : Mm} (h : bTc N w) (ht : 0 ≤ t ∧ t < 8) (hq : 0 ≤ q) (hk : 0 ≤ k ∧ k ≤ 5000) : bTc (N + 5000) (m_mov μ t d q k y w) := by
  intro j j0 j8
  have hj := h j j0 j8
  unfold m_mov m_mvR m_mvI m_mvD
  split
  · rw [up_k _ (by decide), up_k _ (by decide)]; omega
  · split
    · simp (disch := decide) only [up_k, up_ii]
      by_cases c : j = t
      · subst c; rw [if_pos rfl, if_pos rfl]; split <;> omega
      · rw [if_neg c, if_neg c]; omega
    · simp (disch := decide) only [up_k, up_ii]
      by_cases c : j = t
      · subst c; rw [if_pos rfl, if_pos rfl]; split <;> omega
      · rw [if_neg c, if_neg c]; omega
/-- the first n traces move -/
def m_mvN (μ : MU) (d q k y : Int) : Nat → Mm → Mm
  | 0, w => w
  | n + 1, w => m_mov μ n d q k y (m_mvN μ d q k y n w)
theorem mvN_at {μ : MU} {d q k y : Int} {w : Mm} {c : Nat} {a i : Int} (h : c ≠ 138 ∧ c ≠ 244 ∧ c ≠ 245 ∧ c ≠ 246) : ∀ n, m_mvN μ d q k y n w c a i = w c a i
  | 0 => rfl
  | n + 1 => by simp only [m_mvN]; rw [mov_at h, mvN_at h n]
theorem mov_o {μ : MU} {t d q k y i : Int} {w : Mm} {c : Nat} (hc : c = 244 ∨ c = 245) (h : i ≠ t) : m_mov μ t d q k y w c 0 i = w c 0 i := by
  unfold m_mov m_mvR m_mvI m_mvD
  rcases hc with rfl | rfl
  · split
    · exact up_k _ (by decide) _ _ _ _ _
    · split
      · rw [up_k _ (by decide), up_i _ _ _ _ _ _ h, up_k _ (by decide)]
      · rw [up_k _ (by decide), up_k _ (by decide), up_i _ _ _ _ _ _ h, up_k _ (by decide)]
  · split
    · exact up_k _ (by decide) _ _ _ _ _
    · split
      · rw [up_i _ _ _ _ _ _ h, up_k _ (by decide), up_k _ (by decide)]
      · rw [up_k _ (by decide), up_i _ _ _ _ _ _ h, up_k _ (by decide), up_k _ (by decide)]
theorem mvN_o {μ : MU} {d q k y i : Int} {w : Mm} {c : Nat} (hc : c = 244 ∨ c = 245) : ∀ n : Nat, (n : Int) ≤ i → m_mvN μ d q k y n w c 0 i = w c 0 i
  | 0, _ => rfl
  | n + 1, h => by simp only [m_mvN]; rw [mov_o hc (by omega), mvN_o hc n (by omega)]
theorem bTc.mvN {μ : MU} {N d q k y : Int} {w : Mm} (h : bTc N w) (hq : 0 ≤ q) (hk : 0 ≤ k ∧ k ≤ 5000) : ∀ n : Nat, n ≤ 8 → bTc (N + 5000) (m_mvN μ d q k y n w)
  | 0, _ => h.mono (by omega)
  | n + 1, hn => by
    have ih := bTc.mvN (μ := μ) (d := d) (y := y) h hq hk n (by omega)
    intro t a b
    simp only [m_mvN]
    by_cases c : t = n
    · have h1 : bTc N (fun c' a' i' => if c' = 244 ∧ a' = 0 then w 244 0 i' else if c' = 245 ∧ a' = 0 then w 245 0 i' else m_mvN μ d q k y n w c' a' i') := fun t' a' b' => h t' a' b'
      have h2 := ih t a b
      have ht := h t a b
      have e4 : m_mvN μ d q k y n w 244 0 t = w 244 0 t := mvN_o (Or.inl rfl) n (by omega)
      have e5 : m_mvN μ d q k y n w 245 0 t = w 245 0 t := mvN_o (Or.inr rfl) n (by omega)
      subst c
      unfold m_mov m_mvR m_mvI m_mvD
      split
      · rw [up_k _ (by decide), up_k _ (by decide), e4, e5]; omega
      · split
        · simp (disch := decide) only [up_k, up_s]
          rw [e4, e5]; split <;> omega
        · simp (disch := decide) only [up_k, up_s]
          rw [e4, e5]; split <;> omega
    · rw [mov_o (Or.inl rfl) c, mov_o (Or.inr rfl) c]; exact ih t a b
def wsz (x : Int) : Int := if x % 8 = 2 then 1 else x / 4096
/-- a text step of the change whose traces are begun -/
def m_trA (μ : MU) (x : Int) (w : Mm) : Mm := m_mvN μ (x % 8) (x / 8 % 512) (wsz x) (w 137 μ.1 0) (w 137 μ.1 0).toNat w
def m_trB (μ : MU) (x : Int) (n : Int) (w : Mm) : Mm := up (up (up (up (up (up w 241 0 n (x % 8)) 242 0 n (x / 8 % 512)) 243 0 n (wsz x)) 244 0 n (x / 8 % 512)) 245 0 n (if x % 8 = 1 then x / 8 % 512 else x / 8 % 512 + wsz x)) 137 μ.1 0 (n + 1)
def wlist (b : Mm) : Nat → Int → List Int
  | 0, _ => []
  | n + 1, i => b 212 0 i :: wlist b n (i + 1)
def nodeW (b : Mm) : List Int → List Int
  | [] => []
  | p :: ps => wlist b (b 220 0 p).toNat (b 218 0 p) ++ nodeW b ps
def m_trL (μ : MU) : List Int → Mm → Int × Mm
  | [], w => (bi (w 137 μ.1 0 > 0), w)
  | x :: xs, w => if x % 8 ≤ 2 then (if w 137 μ.1 0 = 8 then (0, w) else m_trL μ xs (m_trB μ x (w 137 μ.1 0) (m_trA μ x w))) else m_trL μ xs w
/-- the steps of another change move the traces -/
def m_foL (μ : MU) : List Int → Mm → Mm
  | [], w => w
  | x :: xs, w => m_foL μ xs (if x % 8 ≤ 2 then m_mvN μ (x % 8) (x / 8 % 512) (wsz x) (-1) (w 137 μ.1 0).toNat w else w)
theorem wlist_map {b : Mm} : ∀ (n : Nat) (i t : Int), (plist b n i t).map Prod.fst = wlist b n i
  | 0, _, _ => rfl
  | n + 1, i, t => by simp only [plist, wlist, List.map_cons]; rw [wlist_map n]
theorem nodeW_map {b : Mm} : ∀ ps, (nodeL b ps).map Prod.fst = nodeW b ps
  | [] => rfl
  | p :: ps => by simp only [nodeL, nodeW, List.map_append]; rw [wlist_map, nodeW_map ps]
