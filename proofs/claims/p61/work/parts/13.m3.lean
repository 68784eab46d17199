/-! bits -/
theorem I_of (x : Int32) : I x.toInt = x := by unfold I; exact Int32.ofInt_toInt x
theorem I_rng (x : Int32) : IR x.toInt := by have h1 := Int32.le_toInt x; have h2 := Int32.toInt_lt x; omega
theorem I_nI {z : Int} (h : 0 ≤ z) : I z = nI z.toNat := by
  obtain ⟨n, rfl⟩ := Int.eq_ofNat_of_zero_le h
  rfl
theorem nI_I (n : Nat) : nI n = I (n : Int) := rfl
theorem fa_or (a b : Nat) : nI a ||| nI b = nI (a ||| b) := by
  apply Int32.toBitVec_inj.1
  show BitVec.ofNat 32 a ||| BitVec.ofNat 32 b = BitVec.ofNat 32 (a ||| b)
  apply BitVec.eq_of_getLsbD_eq
  intro i hi
  simp [hi]
theorem fa_or_sum {a k : Nat} (b : Nat) (h : a < 2 ^ k) : nI (2 ^ k * b) ||| nI a = nI (2 ^ k * b + a) := by rw [fa_or, Nat.two_pow_add_eq_or_of_lt h]
theorem I_or {x y : Int} (k : Nat) (M : Int) (hM : M = ((2 ^ k : Nat) : Int)) (hx : 0 ≤ x ∧ x < M) (hy : 0 ≤ y) : I x ||| I (M * y) = I (x + M * y) := by
  obtain ⟨a, rfl⟩ := Int.eq_ofNat_of_zero_le hx.1
  obtain ⟨b, rfl⟩ := Int.eq_ofNat_of_zero_le hy
  subst hM
  have h := fa_or_sum (a := a) (k := k) b (by exact_mod_cast hx.2)
  have e1 : I (((2 ^ k : Nat) : Int) * (b : Int)) = nI (2 ^ k * b) := by rw [nI_I]; push_cast; rfl
  rw [e1, ← nI_I a, Int32.or_comm, h, nI_I, Int.add_comm]
  push_cast
  rfl
theorem I_shl {x : Int} (s : Int32) (k : Nat) (M : Int) (hM : M = ((2 ^ k : Nat) : Int)) (hs : (s.toBitVec.smod 32).toNat = k) (hx : 0 ≤ x) (hb : x * M < 4294967296) : I x <<< s = I (M * x) := by
  obtain ⟨a, rfl⟩ := Int.eq_ofNat_of_zero_le hx
  subst hM
  have h1 : a * 2 ^ k < 2 ^ 32 := by
    have h2 : ((a * 2 ^ k : Nat) : Int) < 4294967296 := by rw [Int.natCast_mul]; exact hb
    omega
  rw [← nI_I, pk_shlN s k hs h1, nI_I, Int.mul_comm]
  push_cast
  rfl
theorem I_shr {x : Int} (s : Int32) (k : Nat) (M : Int) (hM : M = ((2 ^ k : Nat) : Int)) (hs : (s.toBitVec.smod 32).toNat = k) (hx : 0 ≤ x) (hb : x < 2147483648) : I x >>> s = I (x / M) := by
  obtain ⟨a, rfl⟩ := Int.eq_ofNat_of_zero_le hx
  subst hM
  rw [← nI_I, pk_shrN (by omega) s k hs, nI_I]
  push_cast
  rfl
theorem I_and {x : Int} (m : Int32) (k : Nat) (M : Int) (hM : M = ((2 ^ k : Nat) : Int)) (hm : m.toBitVec.toNat = 2 ^ k - 1) (hx : 0 ≤ x) (hb : x < 4294967296) : I x &&& m = I (x % M) := by
  obtain ⟨a, rfl⟩ := Int.eq_ofNat_of_zero_le hx
  subst hM
  rw [← nI_I, pk_andN (by omega) k hm, nI_I]
  push_cast
  rfl
/-! the reference's pool of bytes and its steps -/
def wput (x r v : Int) : Int := ((I x &&& ((I 255 <<< (I (8 * r) &&& 31)) ^^^ I (-1))) ||| (I v <<< (I (8 * r) &&& 31))).toInt
def wget (x r : Int) : Int := ((I x >>> (I (8 * r) &&& 31)) &&& I 255).toInt
def pby (w : Mm) (n : Int) : Int := wget (w 213 0 (n / 4)) (n % 4)
def m_pool (μ : MU) (v : Int) (w : Mm) : Mm := up (up w 213 0 (w 121 μ.1 0 / 4) (wput (w 213 0 (w 121 μ.1 0 / 4)) (w 121 μ.1 0 % 4) v)) 121 μ.1 0 (w 121 μ.1 0 + 1)
def m_step (μ : MU) (k p v : Int) (w : Mm) : Mm := up (up w 212 0 (w 120 μ.1 0) (k + 8 * p + 4096 * v)) 120 μ.1 0 (w 120 μ.1 0 + 1)
theorem I_div4 {x : Int} (hx : 0 ≤ x) (hb : x < 2147483648) : I x / I 4 = I (x / 4) := by
  obtain ⟨a, rfl⟩ := Int.eq_ofNat_of_zero_le hx
  rw [← nI_I, show I 4 = nI 4 from rfl, pk_div (by omega) (by omega) (by omega), nI_I]
  push_cast
  rfl
theorem I_rem4 {x : Int} (hx : 0 ≤ x) (hb : x < 2147483648) : I x - I x / I 4 * I 4 = I (x % 4) := by
  obtain ⟨a, rfl⟩ := Int.eq_ofNat_of_zero_le hx
  rw [← nI_I, show I 4 = nI 4 from rfl, pk_rem (by omega) (by omega) (by omega), nI_I]
  push_cast
  rfl
theorem I_div2 {x : Int} (hx : 0 ≤ x) (hb : x < 2147483648) : I x / I 2 = I (x / 2) := by
  obtain ⟨a, rfl⟩ := Int.eq_ofNat_of_zero_le hx
  rw [← nI_I, show I 2 = nI 2 from rfl, pk_div (by omega) (by omega) (by omega), nI_I]
  push_cast
  rfl
theorem I_rem2 {x : Int} (hx : 0 ≤ x) (hb : x < 2147483648) : I x - I x / I 2 * I 2 = I (x % 2) := by
  obtain ⟨a, rfl⟩ := Int.eq_ofNat_of_zero_le hx
  rw [← nI_I, show I 2 = nI 2 from rfl, pk_rem (by omega) (by omega) (by omega), nI_I]
  push_cast
  rfl
def mvF (place q k at_ : Int) : Int := if place > q ∨ (place = q ∧ at_ ≠ 0) then place + k else place
def dbF (place q k : Int) : Int := if place > q + k then place - k else if place > q then q else place
def m_cpA (a b : Int) (w : Mm) : Mm := m_cpQ (fun _ => true) 5 a b w
def m_saves (μ : MU) (a : Int) (w : Mm) : Mm := up (up (m_cpA a 0 (m_cpP a 0 (m_cpT a 0 w))) 214 0 a (w 120 μ.1 0)) 215 0 a (w 121 μ.1 0)
def m_rest (μ : MU) (b all : Int) (w : Mm) : Mm := up (up (m_cpQ (fun s => decide (all = 1 ∨ w 211 0 s = 1)) 5 0 b (m_cpP 0 b (m_cpT 0 b w))) 120 μ.1 0 (w 214 0 b)) 121 μ.1 0 (w 215 0 b)
theorem cpQ_at {T : Int → Bool} {k a b : Int} {w : Mm} {c : Nat} {x i : Int} (h : c ≠ 204 ∧ c ≠ 205 ∧ c ≠ 206) : m_cpQ T k a b w c x i = w c x i := by
  unfold m_cpQ; rw [if_neg (fun q => h.1 q.1), if_neg (fun q => h.2.1 q.1), if_neg (fun q => h.2.2 q.1)]
theorem cpP_at {a b : Int} {w : Mm} {c : Nat} {x i : Int} (h : c < 207 ∨ 210 < c) : m_cpP a b w c x i = w c x i := by
  unfold m_cpP fl up; rw [if_neg (by omega), if_neg (by omega), if_neg (by omega), if_neg (by omega)]
theorem cpT_at {a b : Int} {w : Mm} {c : Nat} {x i : Int} (h : c < 200 ∨ 203 < c) : m_cpT a b w c x i = w c x i := by
  unfold m_cpT fl up; rw [if_neg (by omega), if_neg (by omega), if_neg (by omega), if_neg (by omega)]
