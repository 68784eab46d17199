/-! bits -/
theorem I_of (x : Int32) : I x.toInt = x := by unfold I; exact Int32.ofInt_toInt x
theorem I_rng (x : Int32) : IR x.toInt := by have h1 := Int32.le_toInt x; have h2 := Int32.toInt_lt x; omega
theorem I_nI {z : Int} (h : 0 ≤ z) : I z = nI z.toNat := by
  obtain ⟨n, rfl⟩ := Int.eq_ofNat_of_zero_le h
  rfl
theorem nI_I (n : Nat) : nI n = I (n : Int) := rfl
theorem fa_or (a b : Nat) : nI a ||| nI b = nI (a ||| b) := by
  apply Int32.toBitVec_inj.1
  show BitVec.ofNat 32 a ||| BitVec.ofNat 32 b = BitVec.ofNat 32 (a ||| b)
  apply BitVec.eq_of_getLsbD_eq
  intro i hi
  simp [hi]
theorem fa_or_sum {a k : Nat} (b : Nat) (h : a < 2 ^ k) : nI (2 ^ k * b) ||| nI a = nI (2 ^ k * b + a) := by rw [fa_or, Nat.two_pow_add_eq_or_of_lt h]
theorem I_or {x y : Int} (k : Nat) (M : Int) (hM : M = ((2 ^ k : Nat) : Int)) (hx : 0 ≤ x ∧ x < M) (hy : 0 ≤ y) : I x ||| I (M * y) = I (x + M * y) := by
  obtain ⟨a, rfl⟩ := Int.eq_ofNat_of_zero_le hx.1
  obtain ⟨b, rfl⟩ := Int.eq_ofNat_of_zero_le hy
  subst hM
  have h := fa_or_sum (a := a) (k := k) b (by exact_mod_cast hx.2)
  have e1 : I (((2 ^ k : Nat) : Int) * (b : Int)) = nI (2 ^ k * b) := by rw [nI_I]; push_cast; rfl
  rw [e1, ← nI_I a, Int32.or_comm, h, nI_I, Int.add_comm]
  push_cast
  rfl
theorem I_shl {x : Int} (s : Int32) (k : Nat) (M : Int) (hM : M = ((2 ^ k : Nat) : Int)) (hs : (s.toBitVec.smod 32).toNat = k) (hx : 0 ≤ x) (hb : x * M < 4294967296) : I x <<< s = I (M * x) := by
  obtain ⟨a, rfl⟩ := Int.eq_ofNat_of_zero_le hx
  subst hM
  have h1 : a * 2 ^ k < 2 ^ 32 := by
    have h2 : ((a * 2 ^ k : Nat) : Int) < 4294967296 := by rw [Int.natCast_mul]; exact hb
    omega
  rw [← nI_I, pk_shlN s k hs h1, nI_I, Int.mul_comm]
  push_cast
  rfl
theorem I_shr {x : Int} (s : Int32) (k : Nat) (M : Int) (hM : M = ((2 ^ k : Nat) : Int)) (hs : (s.toBitVec.smod 32).toNat = k) (hx : 0 ≤ x) (hb : x < 2147483648) : I x >>> s = I (x / M) := by
  obtain ⟨a, rfl⟩ := Int.eq_ofNat_of_zero_le hx
  subst hM
  rw [← nI_I, pk_shrN (by omega) s k hs, nI_I]
  push_cast
  rfl
theorem I_and {x : Int} (m : Int32) (k : Nat) (M : Int) (hM : M = ((2 ^ k : Nat) : Int)) (hm : m.toBitVec.toNat = 2 ^ k - 1) (hx : 0 ≤ x) (hb : x < 4294967296) : I x &&& m = I (x % M) := by
  obtain ⟨a, rfl⟩ := Int.eq_ofNat_of_zero_le hx
  subst hM
  rw [← nI_I, pk_andN (by omega) k hm, nI_I]
  push_cast
  rfl
/-! the reference's pool of bytes and its steps -/
def wput (x r v : Int) : Int := ((I x &&& ((I 255 <<< (I (8 * r) &&& 31)) ^^^ I (-1))) ||| (I v <<< (I (8 * r) &&& 31))).toInt
def wget (x r : Int) : Int := ((I x >>> (I (8 * r) &&& 31)) &&& I 255).toInt
def pby (w : Mm) (n : Int) : Int := wget (w 213 0 (n / 4)) (n % 4)
def m_pool (μ : MU) (v : Int) (w : Mm) : Mm := up (up w 213 0 (w 121 μ.1 0 / 4) (wput (w 213 0 (w 121 μ.1 0 / 4)) (w 121 μ.1 0 % 4) v)) 121 μ.1 0 (w 121 μ.1 0 + 1)
def m_step (μ : MU) (k p v : Int) (w : Mm) : Mm := up (up w 212 0 (w 120 μ.1 0) (k + 8 * p + 4096 * v)) 120 μ.1 0 (w 120 μ.1 0 + 1)
theorem I_div4 {x : Int} (hx : 0 ≤ x) (hb : x < 2147483648) : I x / I 4 = I (x / 4) := by
  obtain ⟨a, rfl⟩ := Int.eq_ofNat_of_zero_le hx
  rw [← nI_I, show I 4 = nI 4 from rfl, pk_div (by omega) (by omega) (by omega), nI_I]
  push_cast
  rfl
theorem I_rem4 {x : Int} (hx : 0 ≤ x) (hb : x < 2147483648) : I x - I x / I 4 * I 4 = I (x % 4) := by
  obtain ⟨a, rfl⟩ := Int.eq_ofNat_of_zero_le hx
  rw [← nI_I, show I 4 = nI 4 from rfl, pk_rem (by omega) (by omega) (by omega), nI_I]
  push_cast
  rfl
theorem I_div2 {x : Int} (hx : 0 ≤ x) (hb : x < 2147483648) : I x / I 2 = I (x / 2) := by
  obtain ⟨a, rfl⟩ := Int.eq_ofNat_of_zero_le hx
  rw [← nI_I, show I 2 = nI 2 from rfl, pk_div (by omega) (by omega) (by omega), nI_I]
  push_cast
  rfl
theorem I_rem2 {x : Int} (hx : 0 ≤ x) (hb : x < 2147483648) : I x - I x / I 2 * I 2 = I (x % 2) := by
  obtain ⟨a, rfl⟩ := Int.eq_ofNat_of_zero_le hx
  rw [← nI_I, show I 2 = nI 2 from rfl, pk_rem (by omega) (by omega) (by omega), nI_I]
  push_cast
  rfl
theorem dX13_pools_0 : decode cX13_pools 0 = .ok (.bipush 8, 2) := by decide +kernel
theorem dX13_pools_2 : decode cX13_pools 2 = .ok (.aload_n 0, 1) := by decide +kernel
theorem dX13_pools_3 : decode cX13_pools 3 = .ok (.getfield 192, 3) := by decide +kernel
theorem dX13_pools_6 : decode cX13_pools 6 = .ok (.iconst 4, 1) := by decide +kernel
theorem dX13_pools_7 : decode cX13_pools 7 = .ok (.irem, 1) := by decide +kernel
theorem dX13_pools_8 : decode cX13_pools 8 = .ok (.imul, 1) := by decide +kernel
theorem dX13_pools_9 : decode cX13_pools 9 = .ok (.istore_n 2, 1) := by decide +kernel
theorem dX13_pools_10 : decode cX13_pools 10 = .ok (.aload_n 0, 1) := by decide +kernel
theorem dX13_pools_11 : decode cX13_pools 11 = .ok (.getfield 192, 3) := by decide +kernel
theorem dX13_pools_14 : decode cX13_pools 14 = .ok (.iconst 4, 1) := by decide +kernel
theorem dX13_pools_15 : decode cX13_pools 15 = .ok (.idiv, 1) := by decide +kernel
theorem dX13_pools_16 : decode cX13_pools 16 = .ok (.istore_n 3, 1) := by decide +kernel
theorem dX13_pools_17 : decode cX13_pools 17 = .ok (.aload_n 0, 1) := by decide +kernel
theorem dX13_pools_18 : decode cX13_pools 18 = .ok (.getfield 50, 3) := by decide +kernel
theorem dX13_pools_21 : decode cX13_pools 21 = .ok (.iload_n 3, 1) := by decide +kernel
theorem dX13_pools_22 : decode cX13_pools 22 = .ok (.aload_n 0, 1) := by decide +kernel
theorem dX13_pools_23 : decode cX13_pools 23 = .ok (.getfield 50, 3) := by decide +kernel
theorem dX13_pools_26 : decode cX13_pools 26 = .ok (.iload_n 3, 1) := by decide +kernel
theorem dX13_pools_27 : decode cX13_pools 27 = .ok (.iaload, 1) := by decide +kernel
theorem dX13_pools_28 : decode cX13_pools 28 = .ok (.sipush 255, 3) := by decide +kernel
theorem dX13_pools_31 : decode cX13_pools 31 = .ok (.iload_n 2, 1) := by decide +kernel
theorem dX13_pools_32 : decode cX13_pools 32 = .ok (.ishl, 1) := by decide +kernel
theorem dX13_pools_33 : decode cX13_pools 33 = .ok (.iconst (-1), 1) := by decide +kernel
theorem dX13_pools_34 : decode cX13_pools 34 = .ok (.ixor, 1) := by decide +kernel
theorem dX13_pools_35 : decode cX13_pools 35 = .ok (.iand, 1) := by decide +kernel
theorem dX13_pools_36 : decode cX13_pools 36 = .ok (.iload_n 1, 1) := by decide +kernel
theorem dX13_pools_37 : decode cX13_pools 37 = .ok (.iload_n 2, 1) := by decide +kernel
theorem dX13_pools_38 : decode cX13_pools 38 = .ok (.ishl, 1) := by decide +kernel
theorem dX13_pools_39 : decode cX13_pools 39 = .ok (.ior, 1) := by decide +kernel
theorem dX13_pools_40 : decode cX13_pools 40 = .ok (.iastore, 1) := by decide +kernel
theorem dX13_pools_41 : decode cX13_pools 41 = .ok (.aload_n 0, 1) := by decide +kernel
theorem dX13_pools_42 : decode cX13_pools 42 = .ok (.dup, 1) := by decide +kernel
theorem dX13_pools_43 : decode cX13_pools 43 = .ok (.getfield 192, 3) := by decide +kernel
theorem dX13_pools_46 : decode cX13_pools 46 = .ok (.iconst 1, 1) := by decide +kernel
theorem dX13_pools_47 : decode cX13_pools 47 = .ok (.iadd, 1) := by decide +kernel
theorem dX13_pools_48 : decode cX13_pools 48 = .ok (.putfield 192, 3) := by decide +kernel
theorem dX13_pools_51 : decode cX13_pools 51 = .ok (.return_, 1) := by decide +kernel
set_option maxRecDepth 4000 in
theorem c_pools (γ : LC) (μ : MU) (w : Mm) (v : Int) (hp : 0 ≤ w 121 μ.1 0 ∧ w 121 μ.1 0 < 524288) : CMv γ μ 0 mX13_pools [.int (I v)] w (fun w' => w' = m_pool μ v w) := by
  refine CMv_of rfl (by simp [rv_cat, Value.category]) rfl ?_
  rintro κ hO hF rfl hR
  have hD := hF.dp
  show X κ 0 0 w 0 [some (rv μ.1), some (.int (I v)), none, none] []
  refine X_bipush 2 hO dX13_pools_0 rfl (by decide) ?_
  refine X_aload_n 3 hO dX13_pools_2 rfl rfl ?_
  refine ga_192 6 hO hR dX13_pools_3 rfl (fun hi_3 => ?_)
  refine X_iconst 7 hO dX13_pools_6 rfl ?_
  refine X_irem 8 hO dX13_pools_7 rfl (by decide) (I_rem4 (by omega) (by omega)) ?_
  refine X_imul 9 hO dX13_pools_8 rfl ?_
  refine X_istore_n 10 hO dX13_pools_9 rfl rfl ?_
  refine X_aload_n 11 hO dX13_pools_10 rfl rfl ?_
  refine ga_192 14 hO hR dX13_pools_11 rfl (fun hi_11 => ?_)
  refine X_iconst 15 hO dX13_pools_14 rfl ?_
  refine X_idiv 16 hO dX13_pools_15 rfl (by decide) (I_div4 (by omega) (by omega)) ?_
  refine X_istore_n 17 hO dX13_pools_16 rfl rfl ?_
  refine X_aload_n 18 hO dX13_pools_17 rfl rfl ?_
  refine ga_50 21 hO hR dX13_pools_18 rfl ?_
  refine X_iload_n 22 hO dX13_pools_21 rfl rfl ?_
  refine X_aload_n 23 hO dX13_pools_22 rfl rfl ?_
  refine ga_50 26 hO hR dX13_pools_23 rfl ?_
  refine X_iload_n 27 hO dX13_pools_26 rfl rfl ?_
  refine ma_ld (L := 131072) (c := 213) 28 hO hR rfl rfl rfl dX13_pools_27 rfl (by omega) (by omega) (fun hi_27 => ?_)
  refine X_sipush 31 hO dX13_pools_28 rfl (by decide) ?_
  refine X_iload_n 32 hO dX13_pools_31 rfl rfl ?_
  refine X_ishl 33 hO dX13_pools_32 rfl ((I_of _).symm) ?_
  refine X_iconst 34 hO dX13_pools_33 rfl ?_
  refine X_ixor 35 hO dX13_pools_34 rfl ((I_of _).symm) ?_
  refine X_iand 36 hO dX13_pools_35 rfl ((I_of _).symm) ?_
  refine X_iload_n 37 hO dX13_pools_36 rfl rfl ?_
  refine X_iload_n 38 hO dX13_pools_37 rfl rfl ?_
  refine X_ishl 39 hO dX13_pools_38 rfl ((I_of _).symm) ?_
  refine X_ior 40 hO dX13_pools_39 rfl ((I_of _).symm) ?_
  refine ma_st (L := 131072) (c := 213) 41 hO hR rfl rfl rfl dX13_pools_40 rfl (by omega) (by omega) (I_rng _) (fun hR => ?_)
  refine X_aload_n 42 hO dX13_pools_41 rfl rfl ?_
  refine X_dup 43 hO dX13_pools_42 rfl (by first | rfl | exact rv_cat _) ?_
  refine ga_192 46 hO hR dX13_pools_43 rfl (fun hi_43 => ?_)
  refine X_iconst 47 hO dX13_pools_46 rfl ?_
  refine X_iadd 48 hO dX13_pools_47 rfl ?_
  refine pa_192 51 hO hR dX13_pools_48 rfl (by rw [up_k _ (by decide)]; omega) (fun hR => ?_)
  exact XM_vret hO hF hR rfl dX13_pools_51 (by unfold m_pool wput; simp only [I_of]; rw [up_k _ (by decide)])
theorem dX13_pooled_0 : decode cX13_pooled 0 = .ok (.aload_n 0, 1) := by decide +kernel
theorem dX13_pooled_1 : decode cX13_pooled 1 = .ok (.getfield 50, 3) := by decide +kernel
theorem dX13_pooled_4 : decode cX13_pooled 4 = .ok (.iload_n 1, 1) := by decide +kernel
theorem dX13_pooled_5 : decode cX13_pooled 5 = .ok (.iconst 4, 1) := by decide +kernel
theorem dX13_pooled_6 : decode cX13_pooled 6 = .ok (.idiv, 1) := by decide +kernel
theorem dX13_pooled_7 : decode cX13_pooled 7 = .ok (.iaload, 1) := by decide +kernel
theorem dX13_pooled_8 : decode cX13_pooled 8 = .ok (.bipush 8, 2) := by decide +kernel
theorem dX13_pooled_10 : decode cX13_pooled 10 = .ok (.iload_n 1, 1) := by decide +kernel
theorem dX13_pooled_11 : decode cX13_pooled 11 = .ok (.iconst 4, 1) := by decide +kernel
theorem dX13_pooled_12 : decode cX13_pooled 12 = .ok (.irem, 1) := by decide +kernel
theorem dX13_pooled_13 : decode cX13_pooled 13 = .ok (.imul, 1) := by decide +kernel
theorem dX13_pooled_14 : decode cX13_pooled 14 = .ok (.ishr, 1) := by decide +kernel
theorem dX13_pooled_15 : decode cX13_pooled 15 = .ok (.sipush 255, 3) := by decide +kernel
theorem dX13_pooled_18 : decode cX13_pooled 18 = .ok (.iand, 1) := by decide +kernel
theorem dX13_pooled_19 : decode cX13_pooled 19 = .ok (.ireturn, 1) := by decide +kernel
set_option maxRecDepth 4000 in
theorem c_pooled (γ : LC) (μ : MU) (w : Mm) (a : Int) (ha : 0 ≤ a ∧ a < 524288) : CMi γ μ 0 mX13_pooled [.int (I a)] w (fun r w' => r = pby w a ∧ w = w') := by
  refine CMi_of rfl (by simp [rv_cat, Value.category]) rfl ?_
  rintro κ hO hF rfl hR
  have hD := hF.dp
  show X κ 0 0 w 0 [some (rv μ.1), some (.int (I a))] []
  refine X_aload_n 1 hO dX13_pooled_0 rfl rfl ?_
  refine ga_50 4 hO hR dX13_pooled_1 rfl ?_
  refine X_iload_n 5 hO dX13_pooled_4 rfl rfl ?_
  refine X_iconst 6 hO dX13_pooled_5 rfl ?_
  refine X_idiv 7 hO dX13_pooled_6 rfl (by decide) (I_div4 (by omega) (by omega)) ?_
  refine ma_ld (L := 131072) (c := 213) 8 hO hR rfl rfl rfl dX13_pooled_7 rfl (by omega) (by omega) (fun hi_7 => ?_)
  refine X_bipush 10 hO dX13_pooled_8 rfl (by decide) ?_
  refine X_iload_n 11 hO dX13_pooled_10 rfl rfl ?_
  refine X_iconst 12 hO dX13_pooled_11 rfl ?_
  refine X_irem 13 hO dX13_pooled_12 rfl (by decide) (I_rem4 (by omega) (by omega)) ?_
  refine X_imul 14 hO dX13_pooled_13 rfl ?_
  refine X_ishr 15 hO dX13_pooled_14 rfl ((I_of _).symm) ?_
  refine X_sipush 18 hO dX13_pooled_15 rfl (by decide) ?_
  refine X_iand 19 hO dX13_pooled_18 rfl ((I_of _).symm) ?_
  exact XM_iret hO hF hR rfl (by first | exact Or.inl rfl | exact Or.inr ⟨rfl, by omega⟩) dX13_pooled_19 (I_rng _) ⟨(by unfold pby wget; simp only [I_of]), rfl⟩
theorem dX13_steps_0 : decode cX13_steps 0 = .ok (.aload_n 0, 1) := by decide +kernel
theorem dX13_steps_1 : decode cX13_steps 1 = .ok (.getfield 46, 3) := by decide +kernel
theorem dX13_steps_4 : decode cX13_steps 4 = .ok (.aload_n 0, 1) := by decide +kernel
theorem dX13_steps_5 : decode cX13_steps 5 = .ok (.getfield 189, 3) := by decide +kernel
theorem dX13_steps_8 : decode cX13_steps 8 = .ok (.iload_n 1, 1) := by decide +kernel
theorem dX13_steps_9 : decode cX13_steps 9 = .ok (.iload_n 2, 1) := by decide +kernel
theorem dX13_steps_10 : decode cX13_steps 10 = .ok (.iconst 3, 1) := by decide +kernel
theorem dX13_steps_11 : decode cX13_steps 11 = .ok (.ishl, 1) := by decide +kernel
theorem dX13_steps_12 : decode cX13_steps 12 = .ok (.ior, 1) := by decide +kernel
theorem dX13_steps_13 : decode cX13_steps 13 = .ok (.iload_n 3, 1) := by decide +kernel
theorem dX13_steps_14 : decode cX13_steps 14 = .ok (.bipush 12, 2) := by decide +kernel
theorem dX13_steps_16 : decode cX13_steps 16 = .ok (.ishl, 1) := by decide +kernel
theorem dX13_steps_17 : decode cX13_steps 17 = .ok (.ior, 1) := by decide +kernel
theorem dX13_steps_18 : decode cX13_steps 18 = .ok (.iastore, 1) := by decide +kernel
theorem dX13_steps_19 : decode cX13_steps 19 = .ok (.aload_n 0, 1) := by decide +kernel
theorem dX13_steps_20 : decode cX13_steps 20 = .ok (.dup, 1) := by decide +kernel
theorem dX13_steps_21 : decode cX13_steps 21 = .ok (.getfield 189, 3) := by decide +kernel
theorem dX13_steps_24 : decode cX13_steps 24 = .ok (.iconst 1, 1) := by decide +kernel
theorem dX13_steps_25 : decode cX13_steps 25 = .ok (.iadd, 1) := by decide +kernel
theorem dX13_steps_26 : decode cX13_steps 26 = .ok (.putfield 189, 3) := by decide +kernel
theorem dX13_steps_29 : decode cX13_steps 29 = .ok (.return_, 1) := by decide +kernel
set_option maxRecDepth 4000 in
theorem c_steps (γ : LC) (μ : MU) (w : Mm) (k p v : Int) (hs : 0 ≤ w 120 μ.1 0 ∧ w 120 μ.1 0 < 30000) (hk : 0 ≤ k ∧ k < 8) (hp : 0 ≤ p ∧ p < 512) (hv : 0 ≤ v ∧ v < 4096) : CMv γ μ 0 mX13_steps [.int (I k), .int (I p), .int (I v)] w (fun w' => w' = m_step μ k p v w) := by
  refine CMv_of rfl (by simp [rv_cat, Value.category]) rfl ?_
  rintro κ hO hF rfl hR
  have hD := hF.dp
  show X κ 0 0 w 0 [some (rv μ.1), some (.int (I k)), some (.int (I p)), some (.int (I v))] []
  refine X_aload_n 1 hO dX13_steps_0 rfl rfl ?_
  refine ga_46 4 hO hR dX13_steps_1 rfl ?_
  refine X_aload_n 5 hO dX13_steps_4 rfl rfl ?_
  refine ga_189 8 hO hR dX13_steps_5 rfl (fun hi_5 => ?_)
  refine X_iload_n 9 hO dX13_steps_8 rfl rfl ?_
  refine X_iload_n 10 hO dX13_steps_9 rfl rfl ?_
  refine X_iconst 11 hO dX13_steps_10 rfl ?_
  refine X_ishl 12 hO dX13_steps_11 rfl (I_shl _ 3 8 rfl (by decide) (by omega) (by omega)) ?_
  refine X_ior 13 hO dX13_steps_12 rfl (I_or 3 8 rfl (by omega) (by omega)) ?_
  refine X_iload_n 14 hO dX13_steps_13 rfl rfl ?_
  refine X_bipush 16 hO dX13_steps_14 rfl (by decide) ?_
  refine X_ishl 17 hO dX13_steps_16 rfl (I_shl _ 12 4096 rfl (by decide) (by omega) (by omega)) ?_
  refine X_ior 18 hO dX13_steps_17 rfl (I_or 12 4096 rfl (by omega) (by omega)) ?_
  refine ma_st (L := 30000) (c := 212) 19 hO hR rfl rfl rfl dX13_steps_18 rfl (by omega) (by omega) (by omega) (fun hR => ?_)
  refine X_aload_n 20 hO dX13_steps_19 rfl rfl ?_
  refine X_dup 21 hO dX13_steps_20 rfl (by first | rfl | exact rv_cat _) ?_
  refine ga_189 24 hO hR dX13_steps_21 rfl (fun hi_21 => ?_)
  refine X_iconst 25 hO dX13_steps_24 rfl ?_
  refine X_iadd 26 hO dX13_steps_25 rfl ?_
  refine pa_189 29 hO hR dX13_steps_26 rfl (by rw [up_k _ (by decide)]; omega) (fun hR => ?_)
  exact XM_vret hO hF hR rfl dX13_steps_29 (by unfold m_step; rw [up_k _ (by decide)])
def mvF (place q k at_ : Int) : Int := if place > q ∨ (place = q ∧ at_ ≠ 0) then place + k else place
def dbF (place q k : Int) : Int := if place > q + k then place - k else if place > q then q else place
theorem dX13_movedBy_0 : decode cX13_movedBy 0 = .ok (.iload_n 1, 1) := by decide +kernel
theorem dX13_movedBy_1 : decode cX13_movedBy 1 = .ok (.iload_n 2, 1) := by decide +kernel
theorem dX13_movedBy_2 : decode cX13_movedBy 2 = .ok (.if_icmp .gt 13, 3) := by decide +kernel
theorem dX13_movedBy_5 : decode cX13_movedBy 5 = .ok (.iload_n 1, 1) := by decide +kernel
theorem dX13_movedBy_6 : decode cX13_movedBy 6 = .ok (.iload_n 2, 1) := by decide +kernel
theorem dX13_movedBy_7 : decode cX13_movedBy 7 = .ok (.if_icmp .ne 14, 3) := by decide +kernel
theorem dX13_movedBy_10 : decode cX13_movedBy 10 = .ok (.iload 4, 2) := by decide +kernel
theorem dX13_movedBy_12 : decode cX13_movedBy 12 = .ok (.ifCond .eq 9, 3) := by decide +kernel
theorem dX13_movedBy_15 : decode cX13_movedBy 15 = .ok (.iload_n 1, 1) := by decide +kernel
theorem dX13_movedBy_16 : decode cX13_movedBy 16 = .ok (.iload_n 3, 1) := by decide +kernel
theorem dX13_movedBy_17 : decode cX13_movedBy 17 = .ok (.iadd, 1) := by decide +kernel
theorem dX13_movedBy_18 : decode cX13_movedBy 18 = .ok (.goto 4, 3) := by decide +kernel
theorem dX13_movedBy_21 : decode cX13_movedBy 21 = .ok (.iload_n 1, 1) := by decide +kernel
theorem dX13_movedBy_22 : decode cX13_movedBy 22 = .ok (.ireturn, 1) := by decide +kernel
set_option maxRecDepth 4000 in
theorem c_movedBy (γ : LC) (μ : MU) (w : Mm) (p q k b : Int) (hp : IR p) (hq : IR q) (hk : IR (p + k)) (hb : b = 0 ∨ b = 1) : CMi γ μ 0 mX13_movedBy [.int (I p), .int (I q), .int (I k), .int (I b)] w (fun r w' => r = mvF p q k b ∧ w = w') := by
  refine CMi_of rfl (by simp [rv_cat, Value.category]) rfl ?_
  rintro κ hO hF rfl hR
  have hD := hF.dp
  show X κ 0 0 w 0 [some (rv μ.1), some (.int (I p)), some (.int (I q)), some (.int (I k)), some (.int (I b))] []
  refine X_iload_n 1 hO dX13_movedBy_0 rfl rfl ?_
  refine X_iload_n 2 hO dX13_movedBy_1 rfl rfl ?_
  refine X_icmp_gt 5 15 hO dX13_movedBy_2 rfl rfl (by omega) (by omega) (fun hc_2 => ?_) (fun hc_2 => ?_)
  ·
    refine X_iload_n 16 hO dX13_movedBy_15 rfl rfl ?_
    refine X_iload_n 17 hO dX13_movedBy_16 rfl rfl ?_
    refine X_iadd 18 hO dX13_movedBy_17 rfl ?_
    refine X_goto hO dX13_movedBy_18 (tgt := 22) rfl ?_
    exact XM_iret hO hF hR rfl (by first | exact Or.inl rfl | exact Or.inr ⟨rfl, by omega⟩) dX13_movedBy_22 (by omega) ⟨(by unfold mvF; first | rw [if_pos (by omega)] | rw [if_neg (by omega)]), rfl⟩
  ·
    refine X_iload_n 6 hO dX13_movedBy_5 rfl rfl ?_
    refine X_iload_n 7 hO dX13_movedBy_6 rfl rfl ?_
    refine X_icmp_ne 10 21 hO dX13_movedBy_7 rfl rfl (by omega) (by omega) (fun hc_7 => ?_) (fun hc_7 => ?_)
    ·
      refine X_iload_n 22 hO dX13_movedBy_21 rfl rfl ?_
      exact XM_iret hO hF hR rfl (by first | exact Or.inl rfl | exact Or.inr ⟨rfl, by omega⟩) dX13_movedBy_22 (by omega) ⟨(by unfold mvF; first | rw [if_pos (by omega)] | rw [if_neg (by omega)]), rfl⟩
    ·
      refine X_iload 12 hO dX13_movedBy_10 rfl rfl ?_
      refine X_if_eq 15 21 hO dX13_movedBy_12 rfl rfl (by omega) (fun hc_12 => ?_) (fun hc_12 => ?_)
      ·
        refine X_iload_n 22 hO dX13_movedBy_21 rfl rfl ?_
        exact XM_iret hO hF hR rfl (by first | exact Or.inl rfl | exact Or.inr ⟨rfl, by omega⟩) dX13_movedBy_22 (by omega) ⟨(by unfold mvF; first | rw [if_pos (by omega)] | rw [if_neg (by omega)]), rfl⟩
      ·
        refine X_iload_n 16 hO dX13_movedBy_15 rfl rfl ?_
        refine X_iload_n 17 hO dX13_movedBy_16 rfl rfl ?_
        refine X_iadd 18 hO dX13_movedBy_17 rfl ?_
        refine X_goto hO dX13_movedBy_18 (tgt := 22) rfl ?_
        exact XM_iret hO hF hR rfl (by first | exact Or.inl rfl | exact Or.inr ⟨rfl, by omega⟩) dX13_movedBy_22 (by omega) ⟨(by unfold mvF; first | rw [if_pos (by omega)] | rw [if_neg (by omega)]), rfl⟩
theorem dX13_drawnBack_0 : decode cX13_drawnBack 0 = .ok (.iload_n 0, 1) := by decide +kernel
theorem dX13_drawnBack_1 : decode cX13_drawnBack 1 = .ok (.iload_n 1, 1) := by decide +kernel
theorem dX13_drawnBack_2 : decode cX13_drawnBack 2 = .ok (.iload_n 2, 1) := by decide +kernel
theorem dX13_drawnBack_3 : decode cX13_drawnBack 3 = .ok (.iadd, 1) := by decide +kernel
theorem dX13_drawnBack_4 : decode cX13_drawnBack 4 = .ok (.if_icmp .le 9, 3) := by decide +kernel
theorem dX13_drawnBack_7 : decode cX13_drawnBack 7 = .ok (.iload_n 0, 1) := by decide +kernel
theorem dX13_drawnBack_8 : decode cX13_drawnBack 8 = .ok (.iload_n 2, 1) := by decide +kernel
theorem dX13_drawnBack_9 : decode cX13_drawnBack 9 = .ok (.isub, 1) := by decide +kernel
theorem dX13_drawnBack_10 : decode cX13_drawnBack 10 = .ok (.goto 13, 3) := by decide +kernel
theorem dX13_drawnBack_13 : decode cX13_drawnBack 13 = .ok (.iload_n 0, 1) := by decide +kernel
theorem dX13_drawnBack_14 : decode cX13_drawnBack 14 = .ok (.iload_n 1, 1) := by decide +kernel
theorem dX13_drawnBack_15 : decode cX13_drawnBack 15 = .ok (.if_icmp .le 7, 3) := by decide +kernel
theorem dX13_drawnBack_18 : decode cX13_drawnBack 18 = .ok (.iload_n 1, 1) := by decide +kernel
theorem dX13_drawnBack_19 : decode cX13_drawnBack 19 = .ok (.goto 4, 3) := by decide +kernel
theorem dX13_drawnBack_22 : decode cX13_drawnBack 22 = .ok (.iload_n 0, 1) := by decide +kernel
theorem dX13_drawnBack_23 : decode cX13_drawnBack 23 = .ok (.ireturn, 1) := by decide +kernel
set_option maxRecDepth 4000 in
theorem c_drawnBack (γ : LC) (w : Mm) (p q k : Int) (hp : IR p) (hq : IR q) (hk : IR (q + k)) (hk2 : IR (p - k)) : CSi γ 0 mX13_drawnBack [.int (I p), .int (I q), .int (I k)] w (fun r => r = dbF p q k) := by
  refine CSi_of rfl (by simp [rv_cat, Value.category]) rfl ?_
  rintro κ hO hF rfl
  have hD := hF.dp
  show X κ 0 0 w 0 [some (.int (I p)), some (.int (I q)), some (.int (I k))] []
  refine X_iload_n 1 hO dX13_drawnBack_0 rfl rfl ?_
  refine X_iload_n 2 hO dX13_drawnBack_1 rfl rfl ?_
  refine X_iload_n 3 hO dX13_drawnBack_2 rfl rfl ?_
  refine X_iadd 4 hO dX13_drawnBack_3 rfl ?_
  refine X_icmp_le 7 13 hO dX13_drawnBack_4 rfl rfl (by omega) (by omega) (fun hc_4 => ?_) (fun hc_4 => ?_)
  ·
    refine X_iload_n 14 hO dX13_drawnBack_13 rfl rfl ?_
    refine X_iload_n 15 hO dX13_drawnBack_14 rfl rfl ?_
    refine X_icmp_le 18 22 hO dX13_drawnBack_15 rfl rfl (by omega) (by omega) (fun hc_15 => ?_) (fun hc_15 => ?_)
    ·
      refine X_iload_n 23 hO dX13_drawnBack_22 rfl rfl ?_
      exact XS_iret hO hF rfl (by first | exact Or.inl rfl | exact Or.inr ⟨rfl, by omega⟩) dX13_drawnBack_23 (by omega) (by unfold dbF; first | rw [if_pos (by omega)] | (rw [if_neg (by omega), if_pos (by omega)]) | (rw [if_neg (by omega), if_neg (by omega)])) rfl
    ·
      refine X_iload_n 19 hO dX13_drawnBack_18 rfl rfl ?_
      refine X_goto hO dX13_drawnBack_19 (tgt := 23) rfl ?_
      exact XS_iret hO hF rfl (by first | exact Or.inl rfl | exact Or.inr ⟨rfl, by omega⟩) dX13_drawnBack_23 (by omega) (by unfold dbF; first | rw [if_pos (by omega)] | (rw [if_neg (by omega), if_pos (by omega)]) | (rw [if_neg (by omega), if_neg (by omega)])) rfl
  ·
    refine X_iload_n 8 hO dX13_drawnBack_7 rfl rfl ?_
    refine X_iload_n 9 hO dX13_drawnBack_8 rfl rfl ?_
    refine X_isub 10 hO dX13_drawnBack_9 rfl ?_
    refine X_goto hO dX13_drawnBack_10 (tgt := 23) rfl ?_
    exact XS_iret hO hF rfl (by first | exact Or.inl rfl | exact Or.inr ⟨rfl, by omega⟩) dX13_drawnBack_23 (by omega) (by unfold dbF; first | rw [if_pos (by omega)] | (rw [if_neg (by omega), if_pos (by omega)]) | (rw [if_neg (by omega), if_neg (by omega)])) rfl
def m_cpA (a b : Int) (w : Mm) : Mm := m_cpQ (fun _ => true) 5 a b w
def m_saves (μ : MU) (a : Int) (w : Mm) : Mm := up (up (m_cpA a 0 (m_cpP a 0 (m_cpT a 0 w))) 214 0 a (w 120 μ.1 0)) 215 0 a (w 121 μ.1 0)
def m_rest (μ : MU) (b all : Int) (w : Mm) : Mm := up (up (m_cpQ (fun s => decide (all = 1 ∨ w 211 0 s = 1)) 5 0 b (m_cpP 0 b (m_cpT 0 b w))) 120 μ.1 0 (w 214 0 b)) 121 μ.1 0 (w 215 0 b)
theorem cpQ_at {T : Int → Bool} {k a b : Int} {w : Mm} {c : Nat} {x i : Int} (h : c ≠ 204 ∧ c ≠ 205 ∧ c ≠ 206) : m_cpQ T k a b w c x i = w c x i := by
  unfold m_cpQ; rw [if_neg (fun q => h.1 q.1), if_neg (fun q => h.2.1 q.1), if_neg (fun q => h.2.2 q.1)]
theorem cpP_at {a b : Int} {w : Mm} {c : Nat} {x i : Int} (h : c < 207 ∨ 210 < c) : m_cpP a b w c x i = w c x i := by
  unfold m_cpP fl up; rw [if_neg (by omega), if_neg (by omega), if_neg (by omega), if_neg (by omega)]
theorem cpT_at {a b : Int} {w : Mm} {c : Nat} {x i : Int} (h : c < 200 ∨ 203 < c) : m_cpT a b w c x i = w c x i := by
  unfold m_cpT fl up; rw [if_neg (by omega), if_neg (by omega), if_neg (by omega), if_neg (by omega)]
theorem dX13_saves_0 : decode cX13_saves 0 = .ok (.aload_n 0, 1) := by decide +kernel
theorem dX13_saves_1 : decode cX13_saves 1 = .ok (.iload_n 1, 1) := by decide +kernel
theorem dX13_saves_2 : decode cX13_saves 2 = .ok (.iconst 0, 1) := by decide +kernel
theorem dX13_saves_3 : decode cX13_saves 3 = .ok (.invokevirtual 178, 3) := by decide +kernel
theorem dX13_saves_6 : decode cX13_saves 6 = .ok (.aload_n 0, 1) := by decide +kernel
theorem dX13_saves_7 : decode cX13_saves 7 = .ok (.iload_n 1, 1) := by decide +kernel
theorem dX13_saves_8 : decode cX13_saves 8 = .ok (.iconst 0, 1) := by decide +kernel
theorem dX13_saves_9 : decode cX13_saves 9 = .ok (.invokevirtual 182, 3) := by decide +kernel
theorem dX13_saves_12 : decode cX13_saves 12 = .ok (.iconst 0, 1) := by decide +kernel
theorem dX13_saves_13 : decode cX13_saves 13 = .ok (.istore_n 2, 1) := by decide +kernel
theorem dX13_saves_14 : decode cX13_saves 14 = .ok (.iload_n 2, 1) := by decide +kernel
theorem dX13_saves_15 : decode cX13_saves 15 = .ok (.iconst 5, 1) := by decide +kernel
theorem dX13_saves_16 : decode cX13_saves 16 = .ok (.if_icmp .ge 16, 3) := by decide +kernel
theorem dX13_saves_19 : decode cX13_saves 19 = .ok (.aload_n 0, 1) := by decide +kernel
theorem dX13_saves_20 : decode cX13_saves 20 = .ok (.iload_n 1, 1) := by decide +kernel
theorem dX13_saves_21 : decode cX13_saves 21 = .ok (.iconst 0, 1) := by decide +kernel
theorem dX13_saves_22 : decode cX13_saves 22 = .ok (.iload_n 2, 1) := by decide +kernel
theorem dX13_saves_23 : decode cX13_saves 23 = .ok (.invokevirtual 185, 3) := by decide +kernel
theorem dX13_saves_26 : decode cX13_saves 26 = .ok (.iinc 2 1, 3) := by decide +kernel
theorem dX13_saves_29 : decode cX13_saves 29 = .ok (.goto (-15), 3) := by decide +kernel
theorem dX13_saves_32 : decode cX13_saves 32 = .ok (.aload_n 0, 1) := by decide +kernel
theorem dX13_saves_33 : decode cX13_saves 33 = .ok (.getfield 53, 3) := by decide +kernel
theorem dX13_saves_36 : decode cX13_saves 36 = .ok (.iload_n 1, 1) := by decide +kernel
theorem dX13_saves_37 : decode cX13_saves 37 = .ok (.aload_n 0, 1) := by decide +kernel
theorem dX13_saves_38 : decode cX13_saves 38 = .ok (.getfield 189, 3) := by decide +kernel
theorem dX13_saves_41 : decode cX13_saves 41 = .ok (.iastore, 1) := by decide +kernel
theorem dX13_saves_42 : decode cX13_saves 42 = .ok (.aload_n 0, 1) := by decide +kernel
theorem dX13_saves_43 : decode cX13_saves 43 = .ok (.getfield 56, 3) := by decide +kernel
theorem dX13_saves_46 : decode cX13_saves 46 = .ok (.iload_n 1, 1) := by decide +kernel
theorem dX13_saves_47 : decode cX13_saves 47 = .ok (.aload_n 0, 1) := by decide +kernel
theorem dX13_saves_48 : decode cX13_saves 48 = .ok (.getfield 192, 3) := by decide +kernel
theorem dX13_saves_51 : decode cX13_saves 51 = .ok (.iastore, 1) := by decide +kernel
theorem dX13_saves_52 : decode cX13_saves 52 = .ok (.return_, 1) := by decide +kernel
set_option maxRecDepth 4000 in
theorem c_saves (γ : LC) (μ : MU) (w : Mm) (a : Int) (ha : 1 ≤ a ∧ a ≤ 3) (hl : 0 ≤ w 201 0 0 ∧ w 201 0 0 ≤ 400) : CMv γ μ 1 mX13_saves [.int (I a)] w (fun w' => w' = m_saves μ a w) := by
  refine CMv_of rfl (by simp [rv_cat, Value.category]) rfl ?_
  rintro κ hO hF rfl hR
  have hD := hF.dp
  show X κ 0 0 w 0 [some (rv μ.1), some (.int (I a)), none] []
  refine X_aload_n 1 hO dX13_saves_0 rfl rfl ?_
  refine X_iload_n 2 hO dX13_saves_1 rfl rfl ?_
  refine X_iconst 3 hO dX13_saves_2 rfl ?_
  refine XM_callVv 6 hO hD hR lX13_178 [_, _] rfl dX13_saves_3 rfl (c_copiesText _ _ _ _ _ (by omega) (by omega) (by omega) (by omega)) (by decide) (by simp [rv_cat, Value.category]) (fun w_3 hp_3 hR => ?_)
  subst hp_3
  refine X_aload_n 7 hO dX13_saves_6 rfl rfl ?_
  refine X_iload_n 8 hO dX13_saves_7 rfl rfl ?_
  refine X_iconst 9 hO dX13_saves_8 rfl ?_
  refine XM_callVv 12 hO hD hR lX13_182 [_, _] rfl dX13_saves_9 rfl (c_copiesPlaces _ _ _ _ _ (by omega) (by omega) (by omega)) (by decide) (by simp [rv_cat, Value.category]) (fun w_9 hp_9 hR => ?_)
  subst hp_9
  refine X_iconst 13 hO dX13_saves_12 rfl ?_
  refine X_istore_n 14 hO dX13_saves_13 rfl rfl ?_
  have LP14 : ∀ (n : Nat) (k : Int), (5 - k).toNat < n → (0 ≤ k ∧ k ≤ 5) → RM (m_cpQ (fun _ => true) k a 0 (m_cpP a 0 (m_cpT a 0 w))) μ → X κ 0 0 (m_cpQ (fun _ => true) k a 0 (m_cpP a 0 (m_cpT a 0 w))) 14 [some (rv μ.1), some (.int (I a)), some (.int (I k))] [] := by
    intro n
    induction n with
    | zero => intro k hm; exact absurd hm (Nat.not_lt_zero _)
    | succ n ih =>
      intro k hm hk hR
      refine X_iload_n 15 hO dX13_saves_14 rfl rfl ?_
      refine X_iconst 16 hO dX13_saves_15 rfl ?_
      refine X_icmp_ge 19 32 hO dX13_saves_16 rfl rfl (by omega) (by omega) (fun hc_16 => ?_) (fun hc_16 => ?_)
      ·
        have e4 : k = 5 := by omega
        subst e4
        refine X_aload_n 33 hO dX13_saves_32 rfl rfl ?_
        refine ga_53 36 hO hR dX13_saves_33 rfl ?_
        refine X_iload_n 37 hO dX13_saves_36 rfl rfl ?_
        refine X_aload_n 38 hO dX13_saves_37 rfl rfl ?_
        refine ga_189 41 hO hR dX13_saves_38 rfl (fun hi_38 => ?_)
        refine ma_st (L := 4) (c := 214) 42 hO hR rfl rfl rfl dX13_saves_41 rfl (by omega) (by omega) (by omega) (fun hR => ?_)
        refine X_aload_n 43 hO dX13_saves_42 rfl rfl ?_
        refine ga_56 46 hO hR dX13_saves_43 rfl ?_
        refine X_iload_n 47 hO dX13_saves_46 rfl rfl ?_
        refine X_aload_n 48 hO dX13_saves_47 rfl rfl ?_
        refine ga_192 51 hO hR dX13_saves_48 rfl (fun hi_48 => ?_)
        refine ma_st (L := 4) (c := 215) 52 hO hR rfl rfl rfl dX13_saves_51 rfl (by omega) (by omega) (by omega) (fun hR => ?_)
        exact XM_vret hO hF hR rfl dX13_saves_52 (by unfold m_saves m_cpA; rw [up_k _ (by decide), cpQ_at (by decide), cpQ_at (by decide), cpP_at (by decide), cpP_at (by decide), cpT_at (by decide), cpT_at (by decide)])
      ·
        refine X_aload_n 20 hO dX13_saves_19 rfl rfl ?_
        refine X_iload_n 21 hO dX13_saves_20 rfl rfl ?_
        refine X_iconst 22 hO dX13_saves_21 rfl ?_
        refine X_iload_n 23 hO dX13_saves_22 rfl rfl ?_
        refine XM_callVv 26 hO hD hR lX13_185 [_, _, _] rfl dX13_saves_23 rfl (c_copiesStore _ _ _ _ _ _ (by omega) (by omega) (by omega) (by omega)) (by decide) (by simp [rv_cat, Value.category]) (fun w_23 hp_23 hR => ?_)
        subst hp_23
        refine X_iinc 29 hO dX13_saves_26 rfl rfl ?_
        refine X_goto hO dX13_saves_29 (tgt := 14) rfl ?_
        exact X_eqR hR (cpQ_do (by omega) (by omega) rfl) (fun hR => ih (k + 1) (by omega) (by omega) hR)
  exact X_eqR hR (cpQ_0 _ _ _ _).symm (fun hR => LP14 _ 0 (Nat.lt_succ_self _) (by omega) hR)
theorem dX13_restores_0 : decode cX13_restores 0 = .ok (.aload_n 0, 1) := by decide +kernel
theorem dX13_restores_1 : decode cX13_restores 1 = .ok (.iconst 0, 1) := by decide +kernel
theorem dX13_restores_2 : decode cX13_restores 2 = .ok (.iload_n 1, 1) := by decide +kernel
theorem dX13_restores_3 : decode cX13_restores 3 = .ok (.invokevirtual 178, 3) := by decide +kernel
theorem dX13_restores_6 : decode cX13_restores 6 = .ok (.aload_n 0, 1) := by decide +kernel
theorem dX13_restores_7 : decode cX13_restores 7 = .ok (.iconst 0, 1) := by decide +kernel
theorem dX13_restores_8 : decode cX13_restores 8 = .ok (.iload_n 1, 1) := by decide +kernel
theorem dX13_restores_9 : decode cX13_restores 9 = .ok (.invokevirtual 182, 3) := by decide +kernel
theorem dX13_restores_12 : decode cX13_restores 12 = .ok (.iconst 0, 1) := by decide +kernel
theorem dX13_restores_13 : decode cX13_restores 13 = .ok (.istore_n 3, 1) := by decide +kernel
theorem dX13_restores_14 : decode cX13_restores 14 = .ok (.iload_n 3, 1) := by decide +kernel
theorem dX13_restores_15 : decode cX13_restores 15 = .ok (.iconst 5, 1) := by decide +kernel
theorem dX13_restores_16 : decode cX13_restores 16 = .ok (.if_icmp .ge 30, 3) := by decide +kernel
theorem dX13_restores_19 : decode cX13_restores 19 = .ok (.iload_n 2, 1) := by decide +kernel
theorem dX13_restores_20 : decode cX13_restores 20 = .ok (.ifCond .ne 13, 3) := by decide +kernel
theorem dX13_restores_23 : decode cX13_restores 23 = .ok (.aload_n 0, 1) := by decide +kernel
theorem dX13_restores_24 : decode cX13_restores 24 = .ok (.getfield 43, 3) := by decide +kernel
theorem dX13_restores_27 : decode cX13_restores 27 = .ok (.iload_n 3, 1) := by decide +kernel
theorem dX13_restores_28 : decode cX13_restores 28 = .ok (.iaload, 1) := by decide +kernel
theorem dX13_restores_29 : decode cX13_restores 29 = .ok (.iconst 1, 1) := by decide +kernel
theorem dX13_restores_30 : decode cX13_restores 30 = .ok (.if_icmp .ne 10, 3) := by decide +kernel
theorem dX13_restores_33 : decode cX13_restores 33 = .ok (.aload_n 0, 1) := by decide +kernel
theorem dX13_restores_34 : decode cX13_restores 34 = .ok (.iconst 0, 1) := by decide +kernel
theorem dX13_restores_35 : decode cX13_restores 35 = .ok (.iload_n 1, 1) := by decide +kernel
theorem dX13_restores_36 : decode cX13_restores 36 = .ok (.iload_n 3, 1) := by decide +kernel
theorem dX13_restores_37 : decode cX13_restores 37 = .ok (.invokevirtual 185, 3) := by decide +kernel
theorem dX13_restores_40 : decode cX13_restores 40 = .ok (.iinc 3 1, 3) := by decide +kernel
theorem dX13_restores_43 : decode cX13_restores 43 = .ok (.goto (-29), 3) := by decide +kernel
theorem dX13_restores_46 : decode cX13_restores 46 = .ok (.aload_n 0, 1) := by decide +kernel
theorem dX13_restores_47 : decode cX13_restores 47 = .ok (.aload_n 0, 1) := by decide +kernel
theorem dX13_restores_48 : decode cX13_restores 48 = .ok (.getfield 53, 3) := by decide +kernel
theorem dX13_restores_51 : decode cX13_restores 51 = .ok (.iload_n 1, 1) := by decide +kernel
theorem dX13_restores_52 : decode cX13_restores 52 = .ok (.iaload, 1) := by decide +kernel
theorem dX13_restores_53 : decode cX13_restores 53 = .ok (.putfield 189, 3) := by decide +kernel
theorem dX13_restores_56 : decode cX13_restores 56 = .ok (.aload_n 0, 1) := by decide +kernel
theorem dX13_restores_57 : decode cX13_restores 57 = .ok (.aload_n 0, 1) := by decide +kernel
theorem dX13_restores_58 : decode cX13_restores 58 = .ok (.getfield 56, 3) := by decide +kernel
theorem dX13_restores_61 : decode cX13_restores 61 = .ok (.iload_n 1, 1) := by decide +kernel
theorem dX13_restores_62 : decode cX13_restores 62 = .ok (.iaload, 1) := by decide +kernel
theorem dX13_restores_63 : decode cX13_restores 63 = .ok (.putfield 192, 3) := by decide +kernel
theorem dX13_restores_66 : decode cX13_restores 66 = .ok (.return_, 1) := by decide +kernel
set_option maxRecDepth 4000 in
theorem c_restores (γ : LC) (μ : MU) (w : Mm) (b all : Int) (hb : 1 ≤ b ∧ b ≤ 3) (ha : all = 0 ∨ all = 1) (hl : 0 ≤ w 201 0 b ∧ w 201 0 b ≤ 400) : CMv γ μ 1 mX13_restores [.int (I b), .int (I all)] w (fun w' => w' = m_rest μ b all w) := by
  refine CMv_of rfl (by simp [rv_cat, Value.category]) rfl ?_
  rintro κ hO hF rfl hR
  have hD := hF.dp
  show X κ 0 0 w 0 [some (rv μ.1), some (.int (I b)), some (.int (I all)), none] []
  refine X_aload_n 1 hO dX13_restores_0 rfl rfl ?_
  refine X_iconst 2 hO dX13_restores_1 rfl ?_
  refine X_iload_n 3 hO dX13_restores_2 rfl rfl ?_
  refine XM_callVv 6 hO hD hR lX13_178 [_, _] rfl dX13_restores_3 rfl (c_copiesText _ _ _ _ _ (by omega) (by omega) (by omega) (by omega)) (by decide) (by simp [rv_cat, Value.category]) (fun w_3 hp_3 hR => ?_)
  subst hp_3
  refine X_aload_n 7 hO dX13_restores_6 rfl rfl ?_
  refine X_iconst 8 hO dX13_restores_7 rfl ?_
  refine X_iload_n 9 hO dX13_restores_8 rfl rfl ?_
  refine XM_callVv 12 hO hD hR lX13_182 [_, _] rfl dX13_restores_9 rfl (c_copiesPlaces _ _ _ _ _ (by omega) (by omega) (by omega)) (by decide) (by simp [rv_cat, Value.category]) (fun w_9 hp_9 hR => ?_)
  subst hp_9
  refine X_iconst 13 hO dX13_restores_12 rfl ?_
  refine X_istore_n 14 hO dX13_restores_13 rfl rfl ?_
  have LP14 : ∀ (n : Nat) (k : Int), (5 - k).toNat < n → (0 ≤ k ∧ k ≤ 5) → RM (m_cpQ (fun s => decide (all = 1 ∨ w 211 0 s = 1)) k 0 b (m_cpP 0 b (m_cpT 0 b w))) μ → X κ 0 0 (m_cpQ (fun s => decide (all = 1 ∨ w 211 0 s = 1)) k 0 b (m_cpP 0 b (m_cpT 0 b w))) 14 [some (rv μ.1), some (.int (I b)), some (.int (I all)), some (.int (I k))] [] := by
    intro n
    induction n with
    | zero => intro k hm; exact absurd hm (Nat.not_lt_zero _)
    | succ n ih =>
      intro k hm hk hR
      have et : m_cpQ (fun s => decide (all = 1 ∨ w 211 0 s = 1)) k 0 b (m_cpP 0 b (m_cpT 0 b w)) 211 0 k = w 211 0 k := by rw [cpQ_at (by decide), cpP_at (by decide), cpT_at (by decide)]
      refine X_iload_n 15 hO dX13_restores_14 rfl rfl ?_
      refine X_iconst 16 hO dX13_restores_15 rfl ?_
      refine X_icmp_ge 19 46 hO dX13_restores_16 rfl rfl (by omega) (by omega) (fun hc_16 => ?_) (fun hc_16 => ?_)
      ·
        have e4 : k = 5 := by omega
        subst e4
        refine X_aload_n 47 hO dX13_restores_46 rfl rfl ?_
        refine X_aload_n 48 hO dX13_restores_47 rfl rfl ?_
        refine ga_53 51 hO hR dX13_restores_48 rfl ?_
        refine X_iload_n 52 hO dX13_restores_51 rfl rfl ?_
        refine ma_ld (L := 4) (c := 214) 53 hO hR rfl rfl rfl dX13_restores_52 rfl (by omega) (by omega) (fun hi_52 => ?_)
        refine pa_189 56 hO hR dX13_restores_53 rfl (by omega) (fun hR => ?_)
        refine X_aload_n 57 hO dX13_restores_56 rfl rfl ?_
        refine X_aload_n 58 hO dX13_restores_57 rfl rfl ?_
        refine ga_56 61 hO hR dX13_restores_58 rfl ?_
        refine X_iload_n 62 hO dX13_restores_61 rfl rfl ?_
        refine ma_ld (L := 4) (c := 215) 63 hO hR rfl rfl rfl dX13_restores_62 rfl (by omega) (by omega) (fun hi_62 => ?_)
        refine pa_192 66 hO hR dX13_restores_63 rfl (by omega) (fun hR => ?_)
        exact XM_vret hO hF hR rfl dX13_restores_66 (by unfold m_rest; rw [up_k _ (by decide), cpQ_at (by decide), cpQ_at (by decide), cpP_at (by decide), cpP_at (by decide), cpT_at (by decide), cpT_at (by decide)])
      ·
        refine X_iload_n 20 hO dX13_restores_19 rfl rfl ?_
        refine X_if_ne 23 33 hO dX13_restores_20 rfl rfl (by omega) (fun hc_20 => ?_) (fun hc_20 => ?_)
        ·
          refine X_aload_n 34 hO dX13_restores_33 rfl rfl ?_
          refine X_iconst 35 hO dX13_restores_34 rfl ?_
          refine X_iload_n 36 hO dX13_restores_35 rfl rfl ?_
          refine X_iload_n 37 hO dX13_restores_36 rfl rfl ?_
          refine XM_callVv 40 hO hD hR lX13_185 [_, _, _] rfl dX13_restores_37 rfl (c_copiesStore _ _ _ _ _ _ (by omega) (by omega) (by omega) (by omega)) (by decide) (by simp [rv_cat, Value.category]) (fun w_37 hp_37 hR => ?_)
          subst hp_37
          refine X_iinc 43 hO dX13_restores_40 rfl rfl ?_
          refine X_goto hO dX13_restores_43 (tgt := 14) rfl ?_
          first
            | exact X_eqR hR (cpQ_do (by omega) (by omega) (decide_eq_true (by omega))) (fun hR => ih (k + 1) (by omega) (by omega) hR)
            | exact X_eqR hR (cpQ_skip (by omega) (by rw [decide_eq_true_iff]; omega)).symm (fun hR => ih (k + 1) (by omega) (by omega) hR)
        ·
          refine X_aload_n 24 hO dX13_restores_23 rfl rfl ?_
          refine ga_43 27 hO hR dX13_restores_24 rfl ?_
          refine X_iload_n 28 hO dX13_restores_27 rfl rfl ?_
          refine ma_ld (L := 5) (c := 211) 29 hO hR rfl rfl rfl dX13_restores_28 rfl (by omega) (by omega) (fun hi_28 => ?_)
          refine X_iconst 30 hO dX13_restores_29 rfl ?_
          refine X_icmp_ne 33 40 hO dX13_restores_30 rfl rfl (by omega) (by omega) (fun hc_30 => ?_) (fun hc_30 => ?_)
          ·
            refine X_iinc 43 hO dX13_restores_40 rfl rfl ?_
            refine X_goto hO dX13_restores_43 (tgt := 14) rfl ?_
            first
              | exact X_eqR hR (cpQ_do (by omega) (by omega) (decide_eq_true (by omega))) (fun hR => ih (k + 1) (by omega) (by omega) hR)
              | exact X_eqR hR (cpQ_skip (by omega) (by rw [decide_eq_true_iff]; omega)).symm (fun hR => ih (k + 1) (by omega) (by omega) hR)
          ·
            refine X_aload_n 34 hO dX13_restores_33 rfl rfl ?_
            refine X_iconst 35 hO dX13_restores_34 rfl ?_
            refine X_iload_n 36 hO dX13_restores_35 rfl rfl ?_
            refine X_iload_n 37 hO dX13_restores_36 rfl rfl ?_
            refine XM_callVv 40 hO hD hR lX13_185 [_, _, _] rfl dX13_restores_37 rfl (c_copiesStore _ _ _ _ _ _ (by omega) (by omega) (by omega) (by omega)) (by decide) (by simp [rv_cat, Value.category]) (fun w_37 hp_37 hR => ?_)
            subst hp_37
            refine X_iinc 43 hO dX13_restores_40 rfl rfl ?_
            refine X_goto hO dX13_restores_43 (tgt := 14) rfl ?_
            first
              | exact X_eqR hR (cpQ_do (by omega) (by omega) (decide_eq_true (by omega))) (fun hR => ih (k + 1) (by omega) (by omega) hR)
              | exact X_eqR hR (cpQ_skip (by omega) (by rw [decide_eq_true_iff]; omega)).symm (fun hR => ih (k + 1) (by omega) (by omega) hR)
  exact X_eqR hR (cpQ_0 _ _ _ _).symm (fun hR => LP14 _ 0 (Nat.lt_succ_self _) (by omega) hR)
