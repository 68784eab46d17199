theorem fl_stp {w : Mm} {c : Nat} {lo n n' i v : Int} {f : Int → Int} (hn : 0 ≤ n) (hn' : n' = n + 1) (hi : i = lo + n) (hv : v = f i) : up (fl w c lo n f) c 0 i v = fl w c lo n' f := by
  subst hn'; exact fl_step hn hi hv
theorem fl_dwn {w : Mm} {c : Nat} {lo n lo' n' i v : Int} {f : Int → Int} (hn : 0 ≤ n) (hl : lo = lo' + 1) (hn' : n' = n + 1) (hi : i = lo') (hv : v = f i) : up (fl w c lo n f) c 0 i v = fl w c lo' n' f := by
  subst hn'; subst hi; exact fl_down hn hl hv
theorem fl_00 {w : Mm} {c : Nat} {lo n : Int} {f : Int → Int} (h : n = 0) : w = fl w c lo n f := by subst h; exact (fl_0 w c lo f).symm
theorem fl_stp2 {w : Mm} {c c' : Nat} {lo n m lo' n' m' i j v u : Int} {f g : Int → Int} (hc : c ≠ c') (hn : 0 ≤ n) (hm : m = n + 1) (hi : i = lo + n) (hv : v = f i) (hn' : 0 ≤ n') (hm' : m' = n' + 1) (hj : j = lo' + n') (hu : u = g j) : up (up (fl (fl w c lo n f) c' lo' n' g) c 0 i v) c' 0 j u = fl (fl w c lo m f) c' lo' m' g := by
  subst hm; subst hm'; exact fl_step2 hc hn hi hv hn' hj hu
def bM (s : Int) (w : Mm) : Prop := ∀ i, 6 * s ≤ i → i < 6 * s + 6 → -1 ≤ w 202 0 i ∧ w 202 0 i ≤ 400
def bE (w : Mm) : Prop := ∀ i, 0 ≤ i → i < 4 → (0 ≤ w 208 0 i ∧ w 208 0 i ≤ 400) ∧ (0 ≤ w 209 0 i ∧ w 209 0 i ≤ 400)
def m_opens (s q k : Int) (w : Mm) : Mm :=
  let W1 := fl w 200 (400 * s + q + k) (w 201 0 s - q) (fun i => w 200 0 (i - k))
  let W2 := up W1 201 0 s (w 201 0 s + k)
  let W3 := fl W2 202 (6 * s) 6 (fun i => if w 202 0 i = -1 then -1 else mvF (w 202 0 i) q k (bi (w 203 0 i = 1)))
  fl (fl W3 208 0 (if s = 0 then w 210 0 0 else 0) (fun i => mvF (w 208 0 i) q k 0)) 209 0 (if s = 0 then w 210 0 0 else 0) (fun i => mvF (w 209 0 i) q k 1)
def m_closes (s q k : Int) (w : Mm) : Mm :=
  let W2 := fl (up w 201 0 s (w 201 0 s - k)) 200 (400 * s + q) (w 201 0 s - k - q) (fun i => w 200 0 (i + k))
  let W3 := fl W2 202 (6 * s) 6 (fun i => dbF (w 202 0 i) q k)
  fl (fl W3 208 0 (if s = 0 then w 210 0 0 else 0) (fun i => dbF (w 208 0 i) q k)) 209 0 (if s = 0 then w 210 0 0 else 0) (fun i => dbF (w 209 0 i) q k)
theorem opens_at {s q k : Int} {w : Mm} {c : Nat} {a i : Int} (h : c < 200 ∨ (202 < c ∧ c < 208) ∨ 209 < c) : m_opens s q k w c a i = w c a i := by
  simp only [m_opens, fl, up]
  rw [if_neg (by omega), if_neg (by omega), if_neg (by omega), if_neg (by omega), if_neg (by omega)]
theorem closes_at {s q k : Int} {w : Mm} {c : Nat} {a i : Int} (h : c < 200 ∨ (202 < c ∧ c < 208) ∨ 209 < c) : m_closes s q k w c a i = w c a i := by
  simp only [m_closes, fl, up]
  rw [if_neg (by omega), if_neg (by omega), if_neg (by omega), if_neg (by omega), if_neg (by omega)]
theorem step_at {μ : MU} {k p v : Int} {w : Mm} {c : Nat} {a i : Int} (h : c ≠ 212 ∧ c ≠ 120) : m_step μ k p v w c a i = w c a i := by
  unfold m_step; rw [up_k _ h.2, up_k _ h.1]
theorem pool_at {μ : MU} {v : Int} {w : Mm} {c : Nat} {a i : Int} (h : c ≠ 213 ∧ c ≠ 121) : m_pool μ v w c a i = w c a i := by
  unfold m_pool; rw [up_k _ h.2, up_k _ h.1]
def m_poolN (μ : MU) (f : Int → Int) : Nat → Mm → Mm
  | 0, w => w
  | n + 1, w => m_pool μ (f (n : Int)) (m_poolN μ f n w)
theorem poolN_at {μ : MU} {f : Int → Int} {n : Nat} {w : Mm} {c : Nat} {a i : Int} (h : c ≠ 213 ∧ c ≠ 121) : m_poolN μ f n w c a i = w c a i := by
  induction n with
  | zero => rfl
  | succ n ih => exact (pool_at h).trans ih
theorem pool_n {μ : MU} {v : Int} {w : Mm} : m_pool μ v w 121 μ.1 0 = w 121 μ.1 0 + 1 := by unfold m_pool; exact up_s _ _ _ _ _
theorem poolN_n {μ : MU} {f : Int → Int} {n : Nat} {w : Mm} : m_poolN μ f n w 121 μ.1 0 = w 121 μ.1 0 + n := by
  induction n with
  | zero => simp [m_poolN]
  | succ n ih => simp only [m_poolN, pool_n, ih]; omega
theorem pool_up {μ : MU} {v : Int} {w : Mm} {c : Nat} {a i x : Int} (h : c ≠ 213 ∧ c ≠ 121) : up (m_pool μ v w) c a i x = m_pool μ v (up w c a i x) := by
  unfold m_pool
  funext c' a' i'
  have h1 := h.1
  have h2 := h.2
  have e1 : ∀ b j, up w c a i x 213 b j = w 213 b j := fun b j => up_k w (Ne.symm h1) _ _ _ _ _
  have e2 : ∀ b j, up w c a i x 121 b j = w 121 b j := fun b j => up_k w (Ne.symm h2) _ _ _ _ _
  simp only [e1, e2]
  grind [up]
theorem poolN_up {μ : MU} {f : Int → Int} {n : Nat} {w : Mm} {c : Nat} {a i x : Int} (h : c ≠ 213 ∧ c ≠ 121) : up (m_poolN μ f n w) c a i x = m_poolN μ f n (up w c a i x) := by
  induction n with
  | zero => rfl
  | succ n ih => exact (pool_up h).trans (congrArg _ ih)
def m_ins (μ : MU) (q k : Int) (w : Mm) : Mm := m_poolN μ (fun i => w 240 0 i) k.toNat (fl (m_step μ 0 q k (m_opens 0 q k w)) 200 q k (fun i => w 240 0 (i - q)))
def m_del (μ : MU) (q k : Int) (w : Mm) : Mm := m_step μ 1 q k (m_closes 0 q k w)
def m_rep (μ : MU) (q c : Int) (w : Mm) : Mm := m_step μ 2 q c (up w 200 0 q c)
def m_tak (t s e k : Int) (w : Mm) : Mm := fl (up w 205 0 (20 * t + 4 * s + e) k) 206 (400 * t + 80 * s + 20 * e) k (fun i => w 240 0 (i - (400 * t + 80 * s + 20 * e)))
def m_mvE (t a b : Int) (w : Mm) : Mm := fl (up w 205 0 (20 * t + 16 + a) (w 205 0 (20 * t + 16 + b))) 206 (400 * t + 320 + 20 * a) 20 (fun i => w 206 0 (i - 20 * a + 20 * b))
