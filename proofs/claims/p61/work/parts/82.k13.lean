/-! what the editor answers when it is asked -/
def nodeOf (w : Mm) (f n : Int) : Int := t_find w (w 51 (w 38 (w 45 f 0) 0) 0) n ((if w 93 (w 38 (w 45 f 0) 0) 0 - 1 < n then w 93 (w 38 (w 45 f 0) 0) 0 - 1 else n) + 1).toNat
theorem t_find_t (w : Mm) (B n : Int) : ∀ k : Nat, t_find w B n k = 0 ∨ ∃ i : Int, 0 ≤ i ∧ i < k ∧ t_find w B n k = w 3 B i
  | 0 => Or.inl rfl
  | k + 1 => by
    simp only [t_find]
    split
    · split
      · exact Or.inr ⟨k, by omega, by omega, rfl⟩
      · exact Or.inl rfl
    · rcases t_find_t w B n k with h | ⟨i, h1, h2, h3⟩
      · exact Or.inl h
      · exact Or.inr ⟨i, h1, by omega, h3⟩
theorem nodeOf_t {w : Mm} {f n : Int} (hT : TRt w (w 45 f 0)) (h : nodeOf w f n ≠ 0) : w 0 (nodeOf w f n) 0 = 5 ∧ 0 ≤ w 26 (nodeOf w f n) 0 := by
  obtain ⟨t0, hl, hx, -, -, -⟩ := hT
  rcases t_find_t w (w 51 (w 38 (w 45 f 0) 0) 0) n ((if w 93 (w 38 (w 45 f 0) 0) 0 - 1 < n then w 93 (w 38 (w 45 f 0) 0) 0 - 1 else n) + 1).toNat with e | ⟨i, h1, h2, e⟩
  · exact absurd e h
  · have h3 : i < w 93 (w 38 (w 45 f 0) 0) 0 := by
      have : (if w 93 (w 38 (w 45 f 0) 0) 0 - 1 < n then w 93 (w 38 (w 45 f 0) 0) 0 - 1 else n) ≤ w 93 (w 38 (w 45 f 0) 0) 0 - 1 := by split <;> omega
      omega
    have := hx i h1 h3
    rw [← e] at this
    exact this
/-- a node's shape -/
def NDt (w : Mm) (x : Int) : Prop := ST w (w 24 x 0) ∧ SZ w (w 24 x 0) ∧ SE w (w 24 x 0) ∧ w 0 (w 25 x 0) 0 = 8 ∧ (w 26 x 0 = 0 ∨ w 0 (w 26 x 0) 0 = 5)
def nb (w : Mm) (x : Int) : Int := if x = 0 then -1 else w 63 x 0
theorem dX12_charAt_0 : decode cX12_charAt 0 = .ok (.iload_n 1, 1) := by decide +kernel
theorem dX12_charAt_1 : decode cX12_charAt 1 = .ok (.aload_n 0, 1) := by decide +kernel
theorem dX12_charAt_2 : decode cX12_charAt 2 = .ok (.getfield 10, 3) := by decide +kernel
theorem dX12_charAt_5 : decode cX12_charAt 5 = .ok (.getfield 223, 3) := by decide +kernel
theorem dX12_charAt_8 : decode cX12_charAt 8 = .ok (.getfield 227, 3) := by decide +kernel
theorem dX12_charAt_11 : decode cX12_charAt 11 = .ok (.invokestatic 132, 3) := by decide +kernel
theorem dX12_charAt_14 : decode cX12_charAt 14 = .ok (.aload_n 0, 1) := by decide +kernel
theorem dX12_charAt_15 : decode cX12_charAt 15 = .ok (.getfield 10, 3) := by decide +kernel
theorem dX12_charAt_18 : decode cX12_charAt 18 = .ok (.getfield 223, 3) := by decide +kernel
theorem dX12_charAt_21 : decode cX12_charAt 21 = .ok (.getfield 267, 3) := by decide +kernel
theorem dX12_charAt_24 : decode cX12_charAt 24 = .ok (.iload_n 1, 1) := by decide +kernel
theorem dX12_charAt_25 : decode cX12_charAt 25 = .ok (.iaload, 1) := by decide +kernel
theorem dX12_charAt_26 : decode cX12_charAt 26 = .ok (.ireturn, 1) := by decide +kernel
set_option maxRecDepth 4000 in
theorem kX12_charAt (γ : LC) (w : Mm) (f i : Int) (hF0 : FBt w f) (hz : SZ w (w 11 (w 41 f 0) 0)) (hi : IR i) : KI γ 7 mX12_charAt [rv f, .int (I i)] w (1) (6) (fun r w' => (0 ≤ i ∧ i < w 67 (w 11 (w 41 f 0) 0) 0) ∧ r = w 1 (w 28 (w 11 (w 41 f 0) 0) 0) i ∧ w' = w) (fun E w' => E = "java/lang/IndexOutOfBoundsException" ∧ (¬ (0 ≤ i ∧ i < w 67 (w 11 (w 41 f 0) 0) 0)) ∧ w' = w) := by
  refine MX_of rfl rfl (by simp [rv_cat, int_cat]) rfl ?_
  rintro κ hO hF rfl
  have hD := hF.dp
  show X κ (1) (6) w 0 [some (rv f), some (.int (I i))] []
  obtain ⟨t0, t1, t2, t3⟩ := id hF0
  obtain ⟨z1, z2, z3⟩ := id hz
  refine X_iload_n 1 hO dX12_charAt_0 rfl rfl ?_
  refine X_aload_n 2 hO dX12_charAt_1 rfl rfl ?_
  refine gX12_10 5 hO dX12_charAt_2 rfl (by first | assumption | omega | (simp (disch := first | decide | assumption | omega) only [up_k, up_s, up_a, up_i, flA_k, flA_a, flA_n, cpA_k, cpA_a, newO_o, newA_o, newO_t, newA_t, newA_n] <;> first | assumption | omega)) ?_
  try simp (disch := first | decide | assumption | omega) only [up_k, up_s, up_a, up_i, flA_k, flA_a, flA_n, cpA_k, cpA_a, newO_o, newA_o, newO_t, newA_t, newA_n]
  refine gX12_223 8 hO dX12_charAt_5 rfl (by first | assumption | omega | (simp (disch := first | decide | assumption | omega) only [up_k, up_s, up_a, up_i, flA_k, flA_a, flA_n, cpA_k, cpA_a, newO_o, newA_o, newO_t, newA_t, newA_n] <;> first | assumption | omega)) ?_
  try simp (disch := first | decide | assumption | omega) only [up_k, up_s, up_a, up_i, flA_k, flA_a, flA_n, cpA_k, cpA_a, newO_o, newA_o, newO_t, newA_t, newA_n]
  refine gX12_227 11 hO dX12_charAt_8 rfl (by first | assumption | omega | (simp (disch := first | decide | assumption | omega) only [up_k, up_s, up_a, up_i, flA_k, flA_a, flA_n, cpA_k, cpA_a, newO_o, newA_o, newO_t, newA_t, newA_n] <;> first | assumption | omega)) (fun hi_8 => ?_)
  try simp (disch := first | decide | assumption | omega) only [up_k, up_s, up_a, up_i, flA_k, flA_a, flA_n, cpA_k, cpA_a, newO_o, newA_o, newO_t, newA_t, newA_n] at hi_8 ⊢
  refine X_kSv 14 hO hD lX12_132 [_, _] rfl dX12_charAt_11 rfl (kX12_requireIndex _ _ _ _ (by omega) (by omega)) (by decide) (by simp [rv_cat, int_cat]) (by first | decide | exact Nat.zero_le _ | omega) (by first | decide | exact Nat.zero_le _ | omega) (fun w_11 hp_11 => ?_) (fun E w_ hx_ => (XE_out hO hF hx_))
  obtain ⟨e1_11, e2_11⟩ := hp_11
  subst w_11
  refine X_aload_n 15 hO dX12_charAt_14 rfl rfl ?_
  refine gX12_10 18 hO dX12_charAt_15 rfl (by first | assumption | omega | (simp (disch := first | decide | assumption | omega) only [up_k, up_s, up_a, up_i, flA_k, flA_a, flA_n, cpA_k, cpA_a, newO_o, newA_o, newO_t, newA_t, newA_n] <;> first | assumption | omega)) ?_
  try simp (disch := first | decide | assumption | omega) only [up_k, up_s, up_a, up_i, flA_k, flA_a, flA_n, cpA_k, cpA_a, newO_o, newA_o, newO_t, newA_t, newA_n]
  refine gX12_223 21 hO dX12_charAt_18 rfl (by first | assumption | omega | (simp (disch := first | decide | assumption | omega) only [up_k, up_s, up_a, up_i, flA_k, flA_a, flA_n, cpA_k, cpA_a, newO_o, newA_o, newO_t, newA_t, newA_n] <;> first | assumption | omega)) ?_
  try simp (disch := first | decide | assumption | omega) only [up_k, up_s, up_a, up_i, flA_k, flA_a, flA_n, cpA_k, cpA_a, newO_o, newA_o, newO_t, newA_t, newA_n]
  refine gX12_267 24 hO dX12_charAt_21 rfl (by first | assumption | omega | (simp (disch := first | decide | assumption | omega) only [up_k, up_s, up_a, up_i, flA_k, flA_a, flA_n, cpA_k, cpA_a, newO_o, newA_o, newO_t, newA_t, newA_n] <;> first | assumption | omega)) ?_
  try simp (disch := first | decide | assumption | omega) only [up_k, up_s, up_a, up_i, flA_k, flA_a, flA_n, cpA_k, cpA_a, newO_o, newA_o, newO_t, newA_t, newA_n]
  refine X_iload_n 25 hO dX12_charAt_24 rfl rfl ?_
  refine X_iald 26 hO dX12_charAt_25 rfl (by first | assumption | omega | (simp (disch := first | decide | assumption | omega) only [up_k, up_s, up_a, up_i, flA_k, flA_a, flA_n, cpA_k, cpA_a, newO_o, newA_o, newO_t, newA_t, newA_n] <;> first | assumption | omega)) (by first | assumption | omega | (simp (disch := first | decide | assumption | omega) only [up_k, up_s, up_a, up_i, flA_k, flA_a, flA_n, cpA_k, cpA_a, newO_o, newA_o, newO_t, newA_t, newA_n] <;> first | assumption | omega)) (fun hi_25 => ?_)
  try simp (disch := first | decide | assumption | omega) only [up_k, up_s, up_a, up_i, flA_k, flA_a, flA_n, cpA_k, cpA_a, newO_o, newA_o, newO_t, newA_t, newA_n] at hi_25 ⊢
  exact X_iret hO hF rfl (by first | exact Or.inl rfl | exact Or.inr ⟨rfl, bi_01 _⟩ | exact Or.inr ⟨rfl, by omega⟩) dX12_charAt_26 ⟨_, rfl, (by omega), ⟨e1_11, rfl, rfl⟩⟩
theorem sumN_bi (p : Int → Prop) [∀ i, Decidable (p i)] : ∀ n : Nat, 0 ≤ sumN (fun i => bi (p i)) n ∧ sumN (fun i => bi (p i)) n ≤ n
  | 0 => ⟨Int.le_refl _, Int.le_refl _⟩
  | n + 1 => by
    have h := sumN_bi p n
    have h2 := bi_01 (p (n : Int))
    simp only [sumN]
    constructor <;> omega
theorem dX12_lines_0 : decode cX12_lines 0 = .ok (.aload_n 0, 1) := by decide +kernel
theorem dX12_lines_1 : decode cX12_lines 1 = .ok (.aload_n 0, 1) := by decide +kernel
theorem dX12_lines_2 : decode cX12_lines 2 = .ok (.getfield 10, 3) := by decide +kernel
theorem dX12_lines_5 : decode cX12_lines 5 = .ok (.getfield 223, 3) := by decide +kernel
theorem dX12_lines_8 : decode cX12_lines 8 = .ok (.getfield 227, 3) := by decide +kernel
theorem dX12_lines_11 : decode cX12_lines 11 = .ok (.invokevirtual 274, 3) := by decide +kernel
theorem dX12_lines_14 : decode cX12_lines 14 = .ok (.iconst 1, 1) := by decide +kernel
theorem dX12_lines_15 : decode cX12_lines 15 = .ok (.iadd, 1) := by decide +kernel
theorem dX12_lines_16 : decode cX12_lines 16 = .ok (.ireturn, 1) := by decide +kernel
set_option maxRecDepth 4000 in
theorem kX12_lines (γ : LC) (w : Mm) (f : Int) (hF0 : FBt w f) (hz : SZ w (w 11 (w 41 f 0) 0)) : KI γ 2 mX12_lines [rv f] w (0) (0) (fun r w' => r = sumN (fun i => bi (w 1 (w 28 (w 11 (w 41 f 0) 0) 0) i = 10)) (w 67 (w 11 (w 41 f 0) 0) 0).toNat + 1 ∧ w' = w) NX := by
  refine MX_of rfl rfl (by simp [rv_cat, int_cat]) rfl ?_
  rintro κ hO hF rfl
  have hD := hF.dp
  show X κ (0) (0) w 0 [some (rv f)] []
  obtain ⟨t0, t1, t2, t3⟩ := id hF0
  obtain ⟨z1, z2, z3⟩ := id hz
  refine X_aload_n 1 hO dX12_lines_0 rfl rfl ?_
  refine X_aload_n 2 hO dX12_lines_1 rfl rfl ?_
  refine gX12_10 5 hO dX12_lines_2 rfl (by first | assumption | omega | (simp (disch := first | decide | assumption | omega) only [up_k, up_s, up_a, up_i, flA_k, flA_a, flA_n, cpA_k, cpA_a, newO_o, newA_o, newO_t, newA_t, newA_n] <;> first | assumption | omega)) ?_
  try simp (disch := first | decide | assumption | omega) only [up_k, up_s, up_a, up_i, flA_k, flA_a, flA_n, cpA_k, cpA_a, newO_o, newA_o, newO_t, newA_t, newA_n]
  refine gX12_223 8 hO dX12_lines_5 rfl (by first | assumption | omega | (simp (disch := first | decide | assumption | omega) only [up_k, up_s, up_a, up_i, flA_k, flA_a, flA_n, cpA_k, cpA_a, newO_o, newA_o, newO_t, newA_t, newA_n] <;> first | assumption | omega)) ?_
  try simp (disch := first | decide | assumption | omega) only [up_k, up_s, up_a, up_i, flA_k, flA_a, flA_n, cpA_k, cpA_a, newO_o, newA_o, newO_t, newA_t, newA_n]
  refine gX12_227 11 hO dX12_lines_8 rfl (by first | assumption | omega | (simp (disch := first | decide | assumption | omega) only [up_k, up_s, up_a, up_i, flA_k, flA_a, flA_n, cpA_k, cpA_a, newO_o, newA_o, newO_t, newA_t, newA_n] <;> first | assumption | omega)) (fun hi_8 => ?_)
  try simp (disch := first | decide | assumption | omega) only [up_k, up_s, up_a, up_i, flA_k, flA_a, flA_n, cpA_k, cpA_a, newO_o, newA_o, newO_t, newA_t, newA_n] at hi_8 ⊢
  refine X_kVi (t := 13) 14 hO hD lX12_274 rfl (by decide) [_] rfl dX12_lines_11 rfl (by first | assumption | omega | (simp (disch := first | decide | assumption | omega) only [up_k, up_s, up_a, up_i, flA_k, flA_a, flA_n, cpA_k, cpA_a, newO_o, newA_o, newO_t, newA_t, newA_n] <;> first | assumption | omega)) (kX12_lineFeedsAhead _ _ _ _ hF0 (by omega) (by omega)) (by decide) (by simp [rv_cat, int_cat]) (by first | decide | exact Nat.zero_le _ | omega) (by first | decide | exact Nat.zero_le _ | omega) (fun r_11 w_11 hr_11 hp_11 => ?_) (fun E w_ hx_ => hx_.elim)
  obtain ⟨e1_11, e2_11⟩ := hp_11
  subst r_11
  subst w_11
  have hsb := sumN_bi (fun i => w 1 (w 28 (w 11 (w 41 f 0) 0) 0) i = 10) (w 67 (w 11 (w 41 f 0) 0) 0).toNat
  refine X_iconst 15 hO dX12_lines_14 rfl ?_
  refine X_iadd 16 hO dX12_lines_15 rfl ?_
  exact X_iret hO hF rfl (by first | exact Or.inl rfl | exact Or.inr ⟨rfl, bi_01 _⟩ | exact Or.inr ⟨rfl, by omega⟩) dX12_lines_16 ⟨_, rfl, (by omega), ⟨rfl, rfl⟩⟩
theorem dX12_lineOf_0 : decode cX12_lineOf 0 = .ok (.iload_n 1, 1) := by decide +kernel
theorem dX12_lineOf_1 : decode cX12_lineOf 1 = .ok (.aload_n 0, 1) := by decide +kernel
theorem dX12_lineOf_2 : decode cX12_lineOf 2 = .ok (.getfield 10, 3) := by decide +kernel
theorem dX12_lineOf_5 : decode cX12_lineOf 5 = .ok (.getfield 223, 3) := by decide +kernel
theorem dX12_lineOf_8 : decode cX12_lineOf 8 = .ok (.getfield 227, 3) := by decide +kernel
theorem dX12_lineOf_11 : decode cX12_lineOf 11 = .ok (.iconst 1, 1) := by decide +kernel
theorem dX12_lineOf_12 : decode cX12_lineOf 12 = .ok (.iadd, 1) := by decide +kernel
theorem dX12_lineOf_13 : decode cX12_lineOf 13 = .ok (.invokestatic 132, 3) := by decide +kernel
theorem dX12_lineOf_16 : decode cX12_lineOf 16 = .ok (.aload_n 0, 1) := by decide +kernel
theorem dX12_lineOf_17 : decode cX12_lineOf 17 = .ok (.iload_n 1, 1) := by decide +kernel
theorem dX12_lineOf_18 : decode cX12_lineOf 18 = .ok (.invokevirtual 274, 3) := by decide +kernel
theorem dX12_lineOf_21 : decode cX12_lineOf 21 = .ok (.ireturn, 1) := by decide +kernel
set_option maxRecDepth 4000 in
theorem kX12_lineOf (γ : LC) (w : Mm) (f i : Int) (hF0 : FBt w f) (hz : SZ w (w 11 (w 41 f 0) 0)) (hi : IR i) : KI γ 7 mX12_lineOf [rv f, .int (I i)] w (1) (6) (fun r w' => (0 ≤ i ∧ i < w 67 (w 11 (w 41 f 0) 0) 0 + 1) ∧ r = sumN (fun i => bi (w 1 (w 28 (w 11 (w 41 f 0) 0) 0) i = 10)) (i).toNat ∧ w' = w) (fun E w' => E = "java/lang/IndexOutOfBoundsException" ∧ (¬ (0 ≤ i ∧ i < w 67 (w 11 (w 41 f 0) 0) 0 + 1)) ∧ w' = w) := by
  refine MX_of rfl rfl (by simp [rv_cat, int_cat]) rfl ?_
  rintro κ hO hF rfl
  have hD := hF.dp
  show X κ (1) (6) w 0 [some (rv f), some (.int (I i))] []
  obtain ⟨t0, t1, t2, t3⟩ := id hF0
  obtain ⟨z1, z2, z3⟩ := id hz
  refine X_iload_n 1 hO dX12_lineOf_0 rfl rfl ?_
  refine X_aload_n 2 hO dX12_lineOf_1 rfl rfl ?_
  refine gX12_10 5 hO dX12_lineOf_2 rfl (by first | assumption | omega | (simp (disch := first | decide | assumption | omega) only [up_k, up_s, up_a, up_i, flA_k, flA_a, flA_n, cpA_k, cpA_a, newO_o, newA_o, newO_t, newA_t, newA_n] <;> first | assumption | omega)) ?_
  try simp (disch := first | decide | assumption | omega) only [up_k, up_s, up_a, up_i, flA_k, flA_a, flA_n, cpA_k, cpA_a, newO_o, newA_o, newO_t, newA_t, newA_n]
  refine gX12_223 8 hO dX12_lineOf_5 rfl (by first | assumption | omega | (simp (disch := first | decide | assumption | omega) only [up_k, up_s, up_a, up_i, flA_k, flA_a, flA_n, cpA_k, cpA_a, newO_o, newA_o, newO_t, newA_t, newA_n] <;> first | assumption | omega)) ?_
  try simp (disch := first | decide | assumption | omega) only [up_k, up_s, up_a, up_i, flA_k, flA_a, flA_n, cpA_k, cpA_a, newO_o, newA_o, newO_t, newA_t, newA_n]
  refine gX12_227 11 hO dX12_lineOf_8 rfl (by first | assumption | omega | (simp (disch := first | decide | assumption | omega) only [up_k, up_s, up_a, up_i, flA_k, flA_a, flA_n, cpA_k, cpA_a, newO_o, newA_o, newO_t, newA_t, newA_n] <;> first | assumption | omega)) (fun hi_8 => ?_)
  try simp (disch := first | decide | assumption | omega) only [up_k, up_s, up_a, up_i, flA_k, flA_a, flA_n, cpA_k, cpA_a, newO_o, newA_o, newO_t, newA_t, newA_n] at hi_8 ⊢
  refine X_iconst 12 hO dX12_lineOf_11 rfl ?_
  refine X_iadd 13 hO dX12_lineOf_12 rfl ?_
  refine X_kSv 16 hO hD lX12_132 [_, _] rfl dX12_lineOf_13 rfl (kX12_requireIndex _ _ _ _ (by omega) (by omega)) (by decide) (by simp [rv_cat, int_cat]) (by first | decide | exact Nat.zero_le _ | omega) (by first | decide | exact Nat.zero_le _ | omega) (fun w_13 hp_13 => ?_) (fun E w_ hx_ => (XE_out hO hF hx_))
  obtain ⟨e1_13, e2_13⟩ := hp_13
  subst w_13
  refine X_aload_n 17 hO dX12_lineOf_16 rfl rfl ?_
  refine X_iload_n 18 hO dX12_lineOf_17 rfl rfl ?_
  refine X_kVi (t := 13) 21 hO hD lX12_274 rfl (by decide) [_] rfl dX12_lineOf_18 rfl (by first | assumption | omega | (simp (disch := first | decide | assumption | omega) only [up_k, up_s, up_a, up_i, flA_k, flA_a, flA_n, cpA_k, cpA_a, newO_o, newA_o, newO_t, newA_t, newA_n] <;> first | assumption | omega)) (kX12_lineFeedsAhead _ _ _ _ hF0 (by omega) (by omega)) (by decide) (by simp [rv_cat, int_cat]) (by first | decide | exact Nat.zero_le _ | omega) (by first | decide | exact Nat.zero_le _ | omega) (fun r_18 w_18 hr_18 hp_18 => ?_) (fun E w_ hx_ => hx_.elim)
  obtain ⟨e1_18, e2_18⟩ := hp_18
  subst r_18
  subst w_18
  exact X_iret hO hF rfl (by first | exact Or.inl rfl | exact Or.inr ⟨rfl, bi_01 _⟩ | exact Or.inr ⟨rfl, by omega⟩) dX12_lineOf_21 ⟨_, rfl, (by omega), ⟨e1_13, rfl, rfl⟩⟩
theorem dX12_markAt_0 : decode cX12_markAt 0 = .ok (.iload_n 1, 1) := by decide +kernel
theorem dX12_markAt_1 : decode cX12_markAt 1 = .ok (.bipush 6, 2) := by decide +kernel
theorem dX12_markAt_3 : decode cX12_markAt 3 = .ok (.invokestatic 132, 3) := by decide +kernel
theorem dX12_markAt_6 : decode cX12_markAt 6 = .ok (.aload_n 0, 1) := by decide +kernel
theorem dX12_markAt_7 : decode cX12_markAt 7 = .ok (.getfield 10, 3) := by decide +kernel
theorem dX12_markAt_10 : decode cX12_markAt 10 = .ok (.getfield 223, 3) := by decide +kernel
theorem dX12_markAt_13 : decode cX12_markAt 13 = .ok (.getfield 284, 3) := by decide +kernel
theorem dX12_markAt_16 : decode cX12_markAt 16 = .ok (.iload_n 1, 1) := by decide +kernel
theorem dX12_markAt_17 : decode cX12_markAt 17 = .ok (.iaload, 1) := by decide +kernel
theorem dX12_markAt_18 : decode cX12_markAt 18 = .ok (.ireturn, 1) := by decide +kernel
set_option maxRecDepth 4000 in
theorem kX12_markAt (γ : LC) (w : Mm) (f i : Int) (hF0 : FBt w f) (hs : ST w (w 11 (w 41 f 0) 0)) (hi : IR i) : KI γ 7 mX12_markAt [rv f, .int (I i)] w (1) (6) (fun r w' => (0 ≤ i ∧ i < 6) ∧ r = w 1 (w 29 (w 11 (w 41 f 0) 0) 0) i ∧ w' = w) (fun E w' => E = "java/lang/IndexOutOfBoundsException" ∧ (¬ (0 ≤ i ∧ i < 6)) ∧ w' = w) := by
  refine MX_of rfl rfl (by simp [rv_cat, int_cat]) rfl ?_
  rintro κ hO hF rfl
  have hD := hF.dp
  show X κ (1) (6) w 0 [some (rv f), some (.int (I i))] []
  obtain ⟨t0, t1, t2, t3⟩ := id hF0
  obtain ⟨s0, ⟨s1, s2, s3, s4⟩, ⟨s5, s6, s7⟩, s8⟩ := id hs
  refine X_iload_n 1 hO dX12_markAt_0 rfl rfl ?_
  refine X_bipush 3 hO dX12_markAt_1 rfl (by decide) ?_
  refine X_kSv 6 hO hD lX12_132 [_, _] rfl dX12_markAt_3 rfl (kX12_requireIndex _ _ _ _ (by omega) (by omega)) (by decide) (by simp [rv_cat, int_cat]) (by first | decide | exact Nat.zero_le _ | omega) (by first | decide | exact Nat.zero_le _ | omega) (fun w_3 hp_3 => ?_) (fun E w_ hx_ => (XE_out hO hF hx_))
  obtain ⟨e1_3, e2_3⟩ := hp_3
  subst w_3
  refine X_aload_n 7 hO dX12_markAt_6 rfl rfl ?_
  refine gX12_10 10 hO dX12_markAt_7 rfl (by first | assumption | omega | (simp (disch := first | decide | assumption | omega) only [up_k, up_s, up_a, up_i, flA_k, flA_a, flA_n, cpA_k, cpA_a, newO_o, newA_o, newO_t, newA_t, newA_n] <;> first | assumption | omega)) ?_
  try simp (disch := first | decide | assumption | omega) only [up_k, up_s, up_a, up_i, flA_k, flA_a, flA_n, cpA_k, cpA_a, newO_o, newA_o, newO_t, newA_t, newA_n]
  refine gX12_223 13 hO dX12_markAt_10 rfl (by first | assumption | omega | (simp (disch := first | decide | assumption | omega) only [up_k, up_s, up_a, up_i, flA_k, flA_a, flA_n, cpA_k, cpA_a, newO_o, newA_o, newO_t, newA_t, newA_n] <;> first | assumption | omega)) ?_
  try simp (disch := first | decide | assumption | omega) only [up_k, up_s, up_a, up_i, flA_k, flA_a, flA_n, cpA_k, cpA_a, newO_o, newA_o, newO_t, newA_t, newA_n]
  refine gX12_284 16 hO dX12_markAt_13 rfl (by first | assumption | omega | (simp (disch := first | decide | assumption | omega) only [up_k, up_s, up_a, up_i, flA_k, flA_a, flA_n, cpA_k, cpA_a, newO_o, newA_o, newO_t, newA_t, newA_n] <;> first | assumption | omega)) ?_
  try simp (disch := first | decide | assumption | omega) only [up_k, up_s, up_a, up_i, flA_k, flA_a, flA_n, cpA_k, cpA_a, newO_o, newA_o, newO_t, newA_t, newA_n]
  refine X_iload_n 17 hO dX12_markAt_16 rfl rfl ?_
  refine X_iald 18 hO dX12_markAt_17 rfl (by first | assumption | omega | (simp (disch := first | decide | assumption | omega) only [up_k, up_s, up_a, up_i, flA_k, flA_a, flA_n, cpA_k, cpA_a, newO_o, newA_o, newO_t, newA_t, newA_n] <;> first | assumption | omega)) (by first | assumption | omega | (simp (disch := first | decide | assumption | omega) only [up_k, up_s, up_a, up_i, flA_k, flA_a, flA_n, cpA_k, cpA_a, newO_o, newA_o, newO_t, newA_t, newA_n] <;> first | assumption | omega)) (fun hi_17 => ?_)
  try simp (disch := first | decide | assumption | omega) only [up_k, up_s, up_a, up_i, flA_k, flA_a, flA_n, cpA_k, cpA_a, newO_o, newA_o, newO_t, newA_t, newA_n] at hi_17 ⊢
  exact X_iret hO hF rfl (by first | exact Or.inl rfl | exact Or.inr ⟨rfl, bi_01 _⟩ | exact Or.inr ⟨rfl, by omega⟩) dX12_markAt_18 ⟨_, rfl, (by omega), ⟨e1_3, rfl, rfl⟩⟩
theorem dX12_viewStart_0 : decode cX12_viewStart 0 = .ok (.aload_n 0, 1) := by decide +kernel
theorem dX12_viewStart_1 : decode cX12_viewStart 1 = .ok (.getfield 10, 3) := by decide +kernel
theorem dX12_viewStart_4 : decode cX12_viewStart 4 = .ok (.invokevirtual 287, 3) := by decide +kernel
theorem dX12_viewStart_7 : decode cX12_viewStart 7 = .ok (.ireturn, 1) := by decide +kernel
set_option maxRecDepth 4000 in
theorem kX12_viewStart (γ : LC) (w : Mm) (f : Int) (t0 : w 0 f 0 = 13) (hd : DTl w (w 41 f 0)) (hv : DVb w (w 41 f 0)) : KI γ 2 mX12_viewStart [rv f] w (0) (0) (fun r w' => r = d_low w (w 41 f 0) ∧ w' = w) NX := by
  refine MX_of rfl rfl (by simp [rv_cat, int_cat]) rfl ?_
  rintro κ hO hF rfl
  have hD := hF.dp
  show X κ (0) (0) w 0 [some (rv f)] []
  have t1 := hd.1
  refine X_aload_n 1 hO dX12_viewStart_0 rfl rfl ?_
  refine gX12_10 4 hO dX12_viewStart_1 rfl (by first | assumption | omega | (simp (disch := first | decide | assumption | omega) only [up_k, up_s, up_a, up_i, flA_k, flA_a, flA_n, cpA_k, cpA_a, newO_o, newA_o, newO_t, newA_t, newA_n] <;> first | assumption | omega)) ?_
  try simp (disch := first | decide | assumption | omega) only [up_k, up_s, up_a, up_i, flA_k, flA_a, flA_n, cpA_k, cpA_a, newO_o, newA_o, newO_t, newA_t, newA_n]
  refine X_kVi (t := 2) 7 hO hD lX12_287 rfl (by decide) [] rfl dX12_viewStart_4 rfl (by first | assumption | omega | (simp (disch := first | decide | assumption | omega) only [up_k, up_s, up_a, up_i, flA_k, flA_a, flA_n, cpA_k, cpA_a, newO_o, newA_o, newO_t, newA_t, newA_n] <;> first | assumption | omega)) (kX1_low _ _ _ hd hv) (by decide) (by simp [rv_cat, int_cat]) (by first | decide | exact Nat.zero_le _ | omega) (by first | decide | exact Nat.zero_le _ | omega) (fun r_4 w_4 hr_4 hp_4 => ?_) (fun E w_ hx_ => hx_.elim)
  obtain ⟨e1_4, e2_4⟩ := hp_4
  subst r_4
  subst w_4
  exact X_iret hO hF rfl (by first | exact Or.inl rfl | exact Or.inr ⟨rfl, bi_01 _⟩ | exact Or.inr ⟨rfl, by omega⟩) dX12_viewStart_7 ⟨_, rfl, (by omega), ⟨rfl, rfl⟩⟩
theorem dX12_viewEnd_0 : decode cX12_viewEnd 0 = .ok (.aload_n 0, 1) := by decide +kernel
theorem dX12_viewEnd_1 : decode cX12_viewEnd 1 = .ok (.getfield 10, 3) := by decide +kernel
theorem dX12_viewEnd_4 : decode cX12_viewEnd 4 = .ok (.invokevirtual 290, 3) := by decide +kernel
theorem dX12_viewEnd_7 : decode cX12_viewEnd 7 = .ok (.ireturn, 1) := by decide +kernel
set_option maxRecDepth 4000 in
theorem kX12_viewEnd (γ : LC) (w : Mm) (f : Int) (t0 : w 0 f 0 = 13) (hd : DTl w (w 41 f 0)) (hv : DVb w (w 41 f 0)) : KI γ 2 mX12_viewEnd [rv f] w (0) (0) (fun r w' => r = d_high w (w 41 f 0) ∧ w' = w) NX := by
  refine MX_of rfl rfl (by simp [rv_cat, int_cat]) rfl ?_
  rintro κ hO hF rfl
  have hD := hF.dp
  show X κ (0) (0) w 0 [some (rv f)] []
  have t1 := hd.1
  refine X_aload_n 1 hO dX12_viewEnd_0 rfl rfl ?_
  refine gX12_10 4 hO dX12_viewEnd_1 rfl (by first | assumption | omega | (simp (disch := first | decide | assumption | omega) only [up_k, up_s, up_a, up_i, flA_k, flA_a, flA_n, cpA_k, cpA_a, newO_o, newA_o, newO_t, newA_t, newA_n] <;> first | assumption | omega)) ?_
  try simp (disch := first | decide | assumption | omega) only [up_k, up_s, up_a, up_i, flA_k, flA_a, flA_n, cpA_k, cpA_a, newO_o, newA_o, newO_t, newA_t, newA_n]
  refine X_kVi (t := 2) 7 hO hD lX12_290 rfl (by decide) [] rfl dX12_viewEnd_4 rfl (by first | assumption | omega | (simp (disch := first | decide | assumption | omega) only [up_k, up_s, up_a, up_i, flA_k, flA_a, flA_n, cpA_k, cpA_a, newO_o, newA_o, newO_t, newA_t, newA_n] <;> first | assumption | omega)) (kX1_high _ _ _ hd hv) (by decide) (by simp [rv_cat, int_cat]) (by first | decide | exact Nat.zero_le _ | omega) (by first | decide | exact Nat.zero_le _ | omega) (fun r_4 w_4 hr_4 hp_4 => ?_) (fun E w_ hx_ => hx_.elim)
  obtain ⟨e1_4, e2_4⟩ := hp_4
  subst r_4
  subst w_4
  exact X_iret hO hF rfl (by first | exact Or.inl rfl | exact Or.inr ⟨rfl, bi_01 _⟩ | exact Or.inr ⟨rfl, by omega⟩) dX12_viewEnd_7 ⟨_, rfl, (by omega), ⟨rfl, rfl⟩⟩
theorem dX12_now_0 : decode cX12_now 0 = .ok (.aload_n 0, 1) := by decide +kernel
theorem dX12_now_1 : decode cX12_now 1 = .ok (.getfield 29, 3) := by decide +kernel
theorem dX12_now_4 : decode cX12_now 4 = .ok (.getfield 98, 3) := by decide +kernel
theorem dX12_now_7 : decode cX12_now 7 = .ok (.getfield 181, 3) := by decide +kernel
theorem dX12_now_10 : decode cX12_now 10 = .ok (.ireturn, 1) := by decide +kernel
set_option maxRecDepth 4000 in
theorem kX12_now (γ : LC) (w : Mm) (f : Int) (t0 : w 0 f 0 = 13) (t1 : w 0 (w 45 f 0) 0 = 11) (t2 : w 0 (w 40 (w 45 f 0) 0) 0 = 5) : KI γ 1 mX12_now [rv f] w (0) (0) (fun r w' => r = w 63 (w 40 (w 45 f 0) 0) 0 ∧ w' = w) NX := by
  refine MX_of rfl rfl (by simp [rv_cat, int_cat]) rfl ?_
  rintro κ hO hF rfl
  have hD := hF.dp
  show X κ (0) (0) w 0 [some (rv f)] []
  refine X_aload_n 1 hO dX12_now_0 rfl rfl ?_
  refine gX12_29 4 hO dX12_now_1 rfl (by first | assumption | omega | (simp (disch := first | decide | assumption | omega) only [up_k, up_s, up_a, up_i, flA_k, flA_a, flA_n, cpA_k, cpA_a, newO_o, newA_o, newO_t, newA_t, newA_n] <;> first | assumption | omega)) ?_
  try simp (disch := first | decide | assumption | omega) only [up_k, up_s, up_a, up_i, flA_k, flA_a, flA_n, cpA_k, cpA_a, newO_o, newA_o, newO_t, newA_t, newA_n]
  refine gX12_98 7 hO dX12_now_4 rfl (by first | assumption | omega | (simp (disch := first | decide | assumption | omega) only [up_k, up_s, up_a, up_i, flA_k, flA_a, flA_n, cpA_k, cpA_a, newO_o, newA_o, newO_t, newA_t, newA_n] <;> first | assumption | omega)) ?_
  try simp (disch := first | decide | assumption | omega) only [up_k, up_s, up_a, up_i, flA_k, flA_a, flA_n, cpA_k, cpA_a, newO_o, newA_o, newO_t, newA_t, newA_n]
  refine gX12_181 10 hO dX12_now_7 rfl (by first | assumption | omega | (simp (disch := first | decide | assumption | omega) only [up_k, up_s, up_a, up_i, flA_k, flA_a, flA_n, cpA_k, cpA_a, newO_o, newA_o, newO_t, newA_t, newA_n] <;> first | assumption | omega)) (fun hi_7 => ?_)
  try simp (disch := first | decide | assumption | omega) only [up_k, up_s, up_a, up_i, flA_k, flA_a, flA_n, cpA_k, cpA_a, newO_o, newA_o, newO_t, newA_t, newA_n] at hi_7 ⊢
  exact X_iret hO hF rfl (by first | exact Or.inl rfl | exact Or.inr ⟨rfl, bi_01 _⟩ | exact Or.inr ⟨rfl, by omega⟩) dX12_now_10 ⟨_, rfl, (by omega), ⟨rfl, rfl⟩⟩
theorem dX12_nodes_0 : decode cX12_nodes 0 = .ok (.aload_n 0, 1) := by decide +kernel
theorem dX12_nodes_1 : decode cX12_nodes 1 = .ok (.getfield 29, 3) := by decide +kernel
theorem dX12_nodes_4 : decode cX12_nodes 4 = .ok (.getfield 293, 3) := by decide +kernel
theorem dX12_nodes_7 : decode cX12_nodes 7 = .ok (.invokeinterface 297 1, 5) := by decide +kernel
theorem dX12_nodes_12 : decode cX12_nodes 12 = .ok (.ireturn, 1) := by decide +kernel
set_option maxRecDepth 4000 in
theorem kX12_nodes (γ : LC) (w : Mm) (f : Int) (t0 : w 0 f 0 = 13) (hT : TRt w (w 45 f 0)) : KI γ 2 mX12_nodes [rv f] w (0) (0) (fun r w' => r = w 93 (w 38 (w 45 f 0) 0) 0 ∧ w' = w) NX := by
  refine MX_of rfl rfl (by simp [rv_cat, int_cat]) rfl ?_
  rintro κ hO hF rfl
  have hD := hF.dp
  show X κ (0) (0) w 0 [some (rv f)] []
  have t1 := hT.1
  have hl := hT.2.1
  have l0 := hl.1
  refine X_aload_n 1 hO dX12_nodes_0 rfl rfl ?_
  refine gX12_29 4 hO dX12_nodes_1 rfl (by first | assumption | omega | (simp (disch := first | decide | assumption | omega) only [up_k, up_s, up_a, up_i, flA_k, flA_a, flA_n, cpA_k, cpA_a, newO_o, newA_o, newO_t, newA_t, newA_n] <;> first | assumption | omega)) ?_
  try simp (disch := first | decide | assumption | omega) only [up_k, up_s, up_a, up_i, flA_k, flA_a, flA_n, cpA_k, cpA_a, newO_o, newA_o, newO_t, newA_t, newA_n]
  refine gX12_293 7 hO dX12_nodes_4 rfl (by first | assumption | omega | (simp (disch := first | decide | assumption | omega) only [up_k, up_s, up_a, up_i, flA_k, flA_a, flA_n, cpA_k, cpA_a, newO_o, newA_o, newO_t, newA_t, newA_n] <;> first | assumption | omega)) ?_
  try simp (disch := first | decide | assumption | omega) only [up_k, up_s, up_a, up_i, flA_k, flA_a, flA_n, cpA_k, cpA_a, newO_o, newA_o, newO_t, newA_t, newA_n]
  refine X_kFi 12 hO hD fX12_297 [] rfl dX12_nodes_7 rfl (by first | assumption | omega | (simp (disch := first | decide | assumption | omega) only [up_k, up_s, up_a, up_i, flA_k, flA_a, flA_n, cpA_k, cpA_a, newO_o, newA_o, newO_t, newA_t, newA_n] <;> first | assumption | omega)) (kJx4a65c_size_8abf5 _ _ _ hl) (by decide) (by simp [rv_cat, int_cat]) (by first | decide | exact Nat.zero_le _ | omega) (by first | decide | exact Nat.zero_le _ | omega) (fun r_7 w_7 hr_7 hp_7 => ?_) (fun E w_ hx_ => hx_.elim)
  obtain ⟨e1_7, e2_7⟩ := hp_7
  subst r_7
  subst w_7
  exact X_iret hO hF rfl (by first | exact Or.inl rfl | exact Or.inr ⟨rfl, bi_01 _⟩ | exact Or.inr ⟨rfl, by omega⟩) dX12_nodes_12 ⟨_, rfl, (by omega), ⟨rfl, rfl⟩⟩
theorem dX12_parentOf_0 : decode cX12_parentOf 0 = .ok (.aload_n 0, 1) := by decide +kernel
theorem dX12_parentOf_1 : decode cX12_parentOf 1 = .ok (.iload_n 1, 1) := by decide +kernel
theorem dX12_parentOf_2 : decode cX12_parentOf 2 = .ok (.invokevirtual 215, 3) := by decide +kernel
theorem dX12_parentOf_5 : decode cX12_parentOf 5 = .ok (.getfield 204, 3) := by decide +kernel
theorem dX12_parentOf_8 : decode cX12_parentOf 8 = .ok (.invokestatic 301, 3) := by decide +kernel
theorem dX12_parentOf_11 : decode cX12_parentOf 11 = .ok (.ireturn, 1) := by decide +kernel
set_option maxRecDepth 4000 in
theorem kX12_parentOf (γ : LC) (w : Mm) (f n : Int) (t0 : w 0 f 0 = 13) (hT : TRt w (w 45 f 0)) (hN : ∀ x, w 0 x 0 = 5 → NDt w x) (hn : IR n) : KI γ 8 mX12_parentOf [rv f, .int (I n)] w (1) (6) (fun r w' => nodeOf w f n ≠ 0 ∧ r = nb w (w 26 (nodeOf w f n) 0) ∧ w' = w) (fun E w' => E = "java/lang/IndexOutOfBoundsException" ∧ (nodeOf w f n = 0) ∧ w' = w) := by
  refine MX_of rfl rfl (by simp [rv_cat, int_cat]) rfl ?_
  rintro κ hO hF rfl
  have hD := hF.dp
  show X κ (1) (6) w 0 [some (rv f), some (.int (I n))] []
  refine X_aload_n 1 hO dX12_parentOf_0 rfl rfl ?_
  refine X_iload_n 2 hO dX12_parentOf_1 rfl rfl ?_
  refine X_kVr (t := 13) 5 hO hD lX12_215 rfl (by decide) [_] rfl dX12_parentOf_2 rfl (by first | assumption | omega | (simp (disch := first | decide | assumption | omega) only [up_k, up_s, up_a, up_i, flA_k, flA_a, flA_n, cpA_k, cpA_a, newO_o, newA_o, newO_t, newA_t, newA_n] <;> first | assumption | omega)) (kX12_requireNode _ _ _ _ t0 hT hn) (by decide) (by simp [rv_cat, int_cat]) (by first | decide | exact Nat.zero_le _ | omega) (by first | decide | exact Nat.zero_le _ | omega) (fun r_2 w_2 hp_2 => ?_) (fun E w_ hx_ => (XE_out hO hF hx_))
  obtain ⟨e0_2, e1_2, e2_2⟩ := hp_2
  subst w_2
  have e1_2 : r_2 = nodeOf w f n := e1_2
  subst r_2
  have hn5 := (nodeOf_t hT e0_2).1
  have hn6 := (nodeOf_t hT e0_2).2
  obtain ⟨hs, hz, hE, hq8, hpp⟩ := hN _ hn5
  have hs0 := hs.1
  obtain ⟨z1, z2, z3⟩ := id hz
  refine gX12_204 8 hO dX12_parentOf_5 rfl (by first | assumption | omega | (simp (disch := first | decide | assumption | omega) only [up_k, up_s, up_a, up_i, flA_k, flA_a, flA_n, cpA_k, cpA_a, newO_o, newA_o, newO_t, newA_t, newA_n] <;> first | assumption | omega)) ?_
  try simp (disch := first | decide | assumption | omega) only [up_k, up_s, up_a, up_i, flA_k, flA_a, flA_n, cpA_k, cpA_a, newO_o, newA_o, newO_t, newA_t, newA_n]
  refine X_kSi 11 hO hD lX12_301 [_] rfl dX12_parentOf_8 rfl (kX12_numberOf _ _ _ (by assumption)) (by decide) (by simp [rv_cat, int_cat]) (by first | decide | exact Nat.zero_le _ | omega) (by first | decide | exact Nat.zero_le _ | omega) (fun r_8 w_8 hr_8 hp_8 => ?_) (fun E w_ hx_ => hx_.elim)
  obtain ⟨e1_8, e2_8⟩ := hp_8
  subst w_8
  exact X_iret hO hF rfl (by first | exact Or.inl rfl | exact Or.inr ⟨rfl, bi_01 _⟩ | exact Or.inr ⟨rfl, by omega⟩) dX12_parentOf_11 ⟨_, rfl, (by omega), ⟨e0_2, e1_8, rfl⟩⟩
theorem dX12_stepsOf_0 : decode cX12_stepsOf 0 = .ok (.aload_n 0, 1) := by decide +kernel
theorem dX12_stepsOf_1 : decode cX12_stepsOf 1 = .ok (.iload_n 1, 1) := by decide +kernel
theorem dX12_stepsOf_2 : decode cX12_stepsOf 2 = .ok (.invokevirtual 215, 3) := by decide +kernel
theorem dX12_stepsOf_5 : decode cX12_stepsOf 5 = .ok (.getfield 102, 3) := by decide +kernel
theorem dX12_stepsOf_8 : decode cX12_stepsOf 8 = .ok (.getfield 108, 3) := by decide +kernel
theorem dX12_stepsOf_11 : decode cX12_stepsOf 11 = .ok (.ireturn, 1) := by decide +kernel
set_option maxRecDepth 4000 in
theorem kX12_stepsOf (γ : LC) (w : Mm) (f n : Int) (t0 : w 0 f 0 = 13) (hT : TRt w (w 45 f 0)) (hN : ∀ x, w 0 x 0 = 5 → NDt w x) (hn : IR n) : KI γ 8 mX12_stepsOf [rv f, .int (I n)] w (1) (6) (fun r w' => nodeOf w f n ≠ 0 ∧ r = w 71 (w 25 (nodeOf w f n) 0) 0 ∧ w' = w) (fun E w' => E = "java/lang/IndexOutOfBoundsException" ∧ (nodeOf w f n = 0) ∧ w' = w) := by
  refine MX_of rfl rfl (by simp [rv_cat, int_cat]) rfl ?_
  rintro κ hO hF rfl
  have hD := hF.dp
  show X κ (1) (6) w 0 [some (rv f), some (.int (I n))] []
  refine X_aload_n 1 hO dX12_stepsOf_0 rfl rfl ?_
  refine X_iload_n 2 hO dX12_stepsOf_1 rfl rfl ?_
  refine X_kVr (t := 13) 5 hO hD lX12_215 rfl (by decide) [_] rfl dX12_stepsOf_2 rfl (by first | assumption | omega | (simp (disch := first | decide | assumption | omega) only [up_k, up_s, up_a, up_i, flA_k, flA_a, flA_n, cpA_k, cpA_a, newO_o, newA_o, newO_t, newA_t, newA_n] <;> first | assumption | omega)) (kX12_requireNode _ _ _ _ t0 hT hn) (by decide) (by simp [rv_cat, int_cat]) (by first | decide | exact Nat.zero_le _ | omega) (by first | decide | exact Nat.zero_le _ | omega) (fun r_2 w_2 hp_2 => ?_) (fun E w_ hx_ => (XE_out hO hF hx_))
  obtain ⟨e0_2, e1_2, e2_2⟩ := hp_2
  subst w_2
  have e1_2 : r_2 = nodeOf w f n := e1_2
  subst r_2
  have hn5 := (nodeOf_t hT e0_2).1
  have hn6 := (nodeOf_t hT e0_2).2
  obtain ⟨hs, hz, hE, hq8, hpp⟩ := hN _ hn5
  have hs0 := hs.1
  obtain ⟨z1, z2, z3⟩ := id hz
  refine gX12_102 8 hO dX12_stepsOf_5 rfl (by first | assumption | omega | (simp (disch := first | decide | assumption | omega) only [up_k, up_s, up_a, up_i, flA_k, flA_a, flA_n, cpA_k, cpA_a, newO_o, newA_o, newO_t, newA_t, newA_n] <;> first | assumption | omega)) ?_
  try simp (disch := first | decide | assumption | omega) only [up_k, up_s, up_a, up_i, flA_k, flA_a, flA_n, cpA_k, cpA_a, newO_o, newA_o, newO_t, newA_t, newA_n]
  refine gX12_108 11 hO dX12_stepsOf_8 rfl (by first | assumption | omega | (simp (disch := first | decide | assumption | omega) only [up_k, up_s, up_a, up_i, flA_k, flA_a, flA_n, cpA_k, cpA_a, newO_o, newA_o, newO_t, newA_t, newA_n] <;> first | assumption | omega)) (fun hi_8 => ?_)
  try simp (disch := first | decide | assumption | omega) only [up_k, up_s, up_a, up_i, flA_k, flA_a, flA_n, cpA_k, cpA_a, newO_o, newA_o, newO_t, newA_t, newA_n] at hi_8 ⊢
  exact X_iret hO hF rfl (by first | exact Or.inl rfl | exact Or.inr ⟨rfl, bi_01 _⟩ | exact Or.inr ⟨rfl, by omega⟩) dX12_stepsOf_11 ⟨_, rfl, (by omega), ⟨e0_2, rfl, rfl⟩⟩
theorem dX12_lengthByReplay_0 : decode cX12_lengthByReplay 0 = .ok (.aload_n 0, 1) := by decide +kernel
theorem dX12_lengthByReplay_1 : decode cX12_lengthByReplay 1 = .ok (.iload_n 1, 1) := by decide +kernel
theorem dX12_lengthByReplay_2 : decode cX12_lengthByReplay 2 = .ok (.invokevirtual 215, 3) := by decide +kernel
theorem dX12_lengthByReplay_5 : decode cX12_lengthByReplay 5 = .ok (.getfield 308, 3) := by decide +kernel
theorem dX12_lengthByReplay_8 : decode cX12_lengthByReplay 8 = .ok (.getfield 227, 3) := by decide +kernel
theorem dX12_lengthByReplay_11 : decode cX12_lengthByReplay 11 = .ok (.ireturn, 1) := by decide +kernel
set_option maxRecDepth 4000 in
theorem kX12_lengthByReplay (γ : LC) (w : Mm) (f n : Int) (t0 : w 0 f 0 = 13) (hT : TRt w (w 45 f 0)) (hN : ∀ x, w 0 x 0 = 5 → NDt w x) (hn : IR n) : KI γ 8 mX12_lengthByReplay [rv f, .int (I n)] w (1) (6) (fun r w' => nodeOf w f n ≠ 0 ∧ r = w 67 (w 24 (nodeOf w f n) 0) 0 ∧ w' = w) (fun E w' => E = "java/lang/IndexOutOfBoundsException" ∧ (nodeOf w f n = 0) ∧ w' = w) := by
  refine MX_of rfl rfl (by simp [rv_cat, int_cat]) rfl ?_
  rintro κ hO hF rfl
  have hD := hF.dp
  show X κ (1) (6) w 0 [some (rv f), some (.int (I n))] []
  refine X_aload_n 1 hO dX12_lengthByReplay_0 rfl rfl ?_
  refine X_iload_n 2 hO dX12_lengthByReplay_1 rfl rfl ?_
  refine X_kVr (t := 13) 5 hO hD lX12_215 rfl (by decide) [_] rfl dX12_lengthByReplay_2 rfl (by first | assumption | omega | (simp (disch := first | decide | assumption | omega) only [up_k, up_s, up_a, up_i, flA_k, flA_a, flA_n, cpA_k, cpA_a, newO_o, newA_o, newO_t, newA_t, newA_n] <;> first | assumption | omega)) (kX12_requireNode _ _ _ _ t0 hT hn) (by decide) (by simp [rv_cat, int_cat]) (by first | decide | exact Nat.zero_le _ | omega) (by first | decide | exact Nat.zero_le _ | omega) (fun r_2 w_2 hp_2 => ?_) (fun E w_ hx_ => (XE_out hO hF hx_))
  obtain ⟨e0_2, e1_2, e2_2⟩ := hp_2
  subst w_2
  have e1_2 : r_2 = nodeOf w f n := e1_2
  subst r_2
  have hn5 := (nodeOf_t hT e0_2).1
  have hn6 := (nodeOf_t hT e0_2).2
  obtain ⟨hs, hz, hE, hq8, hpp⟩ := hN _ hn5
  have hs0 := hs.1
  obtain ⟨z1, z2, z3⟩ := id hz
  refine gX12_308 8 hO dX12_lengthByReplay_5 rfl (by first | assumption | omega | (simp (disch := first | decide | assumption | omega) only [up_k, up_s, up_a, up_i, flA_k, flA_a, flA_n, cpA_k, cpA_a, newO_o, newA_o, newO_t, newA_t, newA_n] <;> first | assumption | omega)) ?_
  try simp (disch := first | decide | assumption | omega) only [up_k, up_s, up_a, up_i, flA_k, flA_a, flA_n, cpA_k, cpA_a, newO_o, newA_o, newO_t, newA_t, newA_n]
  refine gX12_227 11 hO dX12_lengthByReplay_8 rfl (by first | assumption | omega | (simp (disch := first | decide | assumption | omega) only [up_k, up_s, up_a, up_i, flA_k, flA_a, flA_n, cpA_k, cpA_a, newO_o, newA_o, newO_t, newA_t, newA_n] <;> first | assumption | omega)) (fun hi_8 => ?_)
  try simp (disch := first | decide | assumption | omega) only [up_k, up_s, up_a, up_i, flA_k, flA_a, flA_n, cpA_k, cpA_a, newO_o, newA_o, newO_t, newA_t, newA_n] at hi_8 ⊢
  exact X_iret hO hF rfl (by first | exact Or.inl rfl | exact Or.inr ⟨rfl, bi_01 _⟩ | exact Or.inr ⟨rfl, by omega⟩) dX12_lengthByReplay_11 ⟨_, rfl, (by omega), ⟨e0_2, rfl, rfl⟩⟩
theorem t_last_t (w : Mm) (B p : Int) : ∀ k : Nat, t_last w B p k = 0 ∨ ∃ i : Int, 0 ≤ i ∧ i < k ∧ t_last w B p k = w 3 B i
  | 0 => Or.inl rfl
  | k + 1 => by
    simp only [t_last]
    split
    · exact Or.inr ⟨k, by omega, by omega, rfl⟩
    · rcases t_last_t w B p k with h | ⟨i, h1, h2, h3⟩
      · exact Or.inl h
      · exact Or.inr ⟨i, h1, by omega, h3⟩
theorem t_last_5 {w : Mm} {T p : Int} (hT : TRt w T) : t_last w (w 51 (w 38 T 0) 0) p (w 93 (w 38 T 0) 0).toNat = 0 ∨ w 0 (t_last w (w 51 (w 38 T 0) 0) p (w 93 (w 38 T 0) 0).toNat) 0 = 5 := by
  rcases t_last_t w (w 51 (w 38 T 0) 0) p (w 93 (w 38 T 0) 0).toNat with h | ⟨i, h1, h2, h3⟩
  · exact Or.inl h
  · refine Or.inr ?_
    rw [h3]
    exact (hT.2.2.1 i h1 (by omega)).1
theorem dX12_bookmarkAt_0 : decode cX12_bookmarkAt 0 = .ok (.iload_n 1, 1) := by decide +kernel
theorem dX12_bookmarkAt_1 : decode cX12_bookmarkAt 1 = .ok (.iconst 5, 1) := by decide +kernel
theorem dX12_bookmarkAt_2 : decode cX12_bookmarkAt 2 = .ok (.invokestatic 132, 3) := by decide +kernel
theorem dX12_bookmarkAt_5 : decode cX12_bookmarkAt 5 = .ok (.aload_n 0, 1) := by decide +kernel
theorem dX12_bookmarkAt_6 : decode cX12_bookmarkAt 6 = .ok (.getfield 29, 3) := by decide +kernel
theorem dX12_bookmarkAt_9 : decode cX12_bookmarkAt 9 = .ok (.getfield 304, 3) := by decide +kernel
theorem dX12_bookmarkAt_12 : decode cX12_bookmarkAt 12 = .ok (.iload_n 1, 1) := by decide +kernel
theorem dX12_bookmarkAt_13 : decode cX12_bookmarkAt 13 = .ok (.aaload, 1) := by decide +kernel
theorem dX12_bookmarkAt_14 : decode cX12_bookmarkAt 14 = .ok (.invokestatic 301, 3) := by decide +kernel
theorem dX12_bookmarkAt_17 : decode cX12_bookmarkAt 17 = .ok (.ireturn, 1) := by decide +kernel
set_option maxRecDepth 4000 in
theorem kX12_bookmarkAt (γ : LC) (w : Mm) (f i : Int) (t0 : w 0 f 0 = 13) (hT : TRt w (w 45 f 0)) (hb5 : ∀ i, 0 ≤ i → i < 5 → w 3 (w 39 (w 45 f 0) 0) i = 0 ∨ w 0 (w 3 (w 39 (w 45 f 0) 0) i) 0 = 5) (hi : IR i) : KI γ 7 mX12_bookmarkAt [rv f, .int (I i)] w (1) (6) (fun r w' => (0 ≤ i ∧ i < 5) ∧ r = nb w (w 3 (w 39 (w 45 f 0) 0) i) ∧ w' = w) (fun E w' => E = "java/lang/IndexOutOfBoundsException" ∧ (¬ (0 ≤ i ∧ i < 5)) ∧ w' = w) := by
  refine MX_of rfl rfl (by simp [rv_cat, int_cat]) rfl ?_
  rintro κ hO hF rfl
  have hD := hF.dp
  show X κ (1) (6) w 0 [some (rv f), some (.int (I i))] []
  obtain ⟨t1, hl, hx, ⟨b1, b2⟩, b3, c1⟩ := id hT
  refine X_iload_n 1 hO dX12_bookmarkAt_0 rfl rfl ?_
  refine X_iconst 2 hO dX12_bookmarkAt_1 rfl ?_
  refine X_kSv 5 hO hD lX12_132 [_, _] rfl dX12_bookmarkAt_2 rfl (kX12_requireIndex _ _ _ _ (by omega) (by omega)) (by decide) (by simp [rv_cat, int_cat]) (by first | decide | exact Nat.zero_le _ | omega) (by first | decide | exact Nat.zero_le _ | omega) (fun w_2 hp_2 => ?_) (fun E w_ hx_ => (XE_out hO hF hx_))
  obtain ⟨e1_2, e2_2⟩ := hp_2
  subst w_2
  refine X_aload_n 6 hO dX12_bookmarkAt_5 rfl rfl ?_
  refine gX12_29 9 hO dX12_bookmarkAt_6 rfl (by first | assumption | omega | (simp (disch := first | decide | assumption | omega) only [up_k, up_s, up_a, up_i, flA_k, flA_a, flA_n, cpA_k, cpA_a, newO_o, newA_o, newO_t, newA_t, newA_n] <;> first | assumption | omega)) ?_
  try simp (disch := first | decide | assumption | omega) only [up_k, up_s, up_a, up_i, flA_k, flA_a, flA_n, cpA_k, cpA_a, newO_o, newA_o, newO_t, newA_t, newA_n]
  refine gX12_304 12 hO dX12_bookmarkAt_9 rfl (by first | assumption | omega | (simp (disch := first | decide | assumption | omega) only [up_k, up_s, up_a, up_i, flA_k, flA_a, flA_n, cpA_k, cpA_a, newO_o, newA_o, newO_t, newA_t, newA_n] <;> first | assumption | omega)) ?_
  try simp (disch := first | decide | assumption | omega) only [up_k, up_s, up_a, up_i, flA_k, flA_a, flA_n, cpA_k, cpA_a, newO_o, newA_o, newO_t, newA_t, newA_n]
  refine X_iload_n 13 hO dX12_bookmarkAt_12 rfl rfl ?_
  refine X_aald (t := 25) (C := "Foldback$Node") 14 hO rfl (by decide) dX12_bookmarkAt_13 rfl (by first | assumption | omega | (simp (disch := first | decide | assumption | omega) only [up_k, up_s, up_a, up_i, flA_k, flA_a, flA_n, cpA_k, cpA_a, newO_o, newA_o, newO_t, newA_t, newA_n] <;> first | assumption | omega)) (by first | assumption | omega | (simp (disch := first | decide | assumption | omega) only [up_k, up_s, up_a, up_i, flA_k, flA_a, flA_n, cpA_k, cpA_a, newO_o, newA_o, newO_t, newA_t, newA_n] <;> first | assumption | omega)) ?_
  try simp (disch := first | decide | assumption | omega) only [up_k, up_s, up_a, up_i, flA_k, flA_a, flA_n, cpA_k, cpA_a, newO_o, newA_o, newO_t, newA_t, newA_n]
  have hb6 := hb5 i (by omega) (by omega)
  refine X_kSi 17 hO hD lX12_301 [_] rfl dX12_bookmarkAt_14 rfl (kX12_numberOf _ _ _ (by assumption)) (by decide) (by simp [rv_cat, int_cat]) (by first | decide | exact Nat.zero_le _ | omega) (by first | decide | exact Nat.zero_le _ | omega) (fun r_14 w_14 hr_14 hp_14 => ?_) (fun E w_ hx_ => hx_.elim)
  obtain ⟨e1_14, e2_14⟩ := hp_14
  subst w_14
  exact X_iret hO hF rfl (by first | exact Or.inl rfl | exact Or.inr ⟨rfl, bi_01 _⟩ | exact Or.inr ⟨rfl, by omega⟩) dX12_bookmarkAt_17 ⟨_, rfl, (by omega), ⟨e1_2, e1_14, rfl⟩⟩
theorem dX12_failureReason_0 : decode cX12_failureReason 0 = .ok (.aload_n 0, 1) := by decide +kernel
theorem dX12_failureReason_1 : decode cX12_failureReason 1 = .ok (.getfield 61, 3) := by decide +kernel
theorem dX12_failureReason_4 : decode cX12_failureReason 4 = .ok (.getfield 324, 3) := by decide +kernel
theorem dX12_failureReason_7 : decode cX12_failureReason 7 = .ok (.ireturn, 1) := by decide +kernel
set_option maxRecDepth 4000 in
theorem kX12_failureReason (γ : LC) (w : Mm) (f : Int) (t0 : w 0 f 0 = 13) (t1 : w 0 (w 50 f 0) 0 = 12) : KI γ 1 mX12_failureReason [rv f] w (0) (0) (fun r w' => r = w 84 (w 50 f 0) 0 ∧ w' = w) NX := by
  refine MX_of rfl rfl (by simp [rv_cat, int_cat]) rfl ?_
  rintro κ hO hF rfl
  have hD := hF.dp
  show X κ (0) (0) w 0 [some (rv f)] []
  refine X_aload_n 1 hO dX12_failureReason_0 rfl rfl ?_
  refine gX12_61 4 hO dX12_failureReason_1 rfl (by first | assumption | omega | (simp (disch := first | decide | assumption | omega) only [up_k, up_s, up_a, up_i, flA_k, flA_a, flA_n, cpA_k, cpA_a, newO_o, newA_o, newO_t, newA_t, newA_n] <;> first | assumption | omega)) ?_
  try simp (disch := first | decide | assumption | omega) only [up_k, up_s, up_a, up_i, flA_k, flA_a, flA_n, cpA_k, cpA_a, newO_o, newA_o, newO_t, newA_t, newA_n]
  refine gX12_324 7 hO dX12_failureReason_4 rfl (by first | assumption | omega | (simp (disch := first | decide | assumption | omega) only [up_k, up_s, up_a, up_i, flA_k, flA_a, flA_n, cpA_k, cpA_a, newO_o, newA_o, newO_t, newA_t, newA_n] <;> first | assumption | omega)) (fun hi_4 => ?_)
  try simp (disch := first | decide | assumption | omega) only [up_k, up_s, up_a, up_i, flA_k, flA_a, flA_n, cpA_k, cpA_a, newO_o, newA_o, newO_t, newA_t, newA_n] at hi_4 ⊢
  exact X_iret hO hF rfl (by first | exact Or.inl rfl | exact Or.inr ⟨rfl, bi_01 _⟩ | exact Or.inr ⟨rfl, by omega⟩) dX12_failureReason_7 ⟨_, rfl, (by omega), ⟨rfl, rfl⟩⟩
theorem dX12_failureCommand_0 : decode cX12_failureCommand 0 = .ok (.aload_n 0, 1) := by decide +kernel
theorem dX12_failureCommand_1 : decode cX12_failureCommand 1 = .ok (.getfield 61, 3) := by decide +kernel
theorem dX12_failureCommand_4 : decode cX12_failureCommand 4 = .ok (.getfield 327, 3) := by decide +kernel
theorem dX12_failureCommand_7 : decode cX12_failureCommand 7 = .ok (.ireturn, 1) := by decide +kernel
set_option maxRecDepth 4000 in
theorem kX12_failureCommand (γ : LC) (w : Mm) (f : Int) (t0 : w 0 f 0 = 13) (t1 : w 0 (w 50 f 0) 0 = 12) : KI γ 1 mX12_failureCommand [rv f] w (0) (0) (fun r w' => r = w 85 (w 50 f 0) 0 ∧ w' = w) NX := by
  refine MX_of rfl rfl (by simp [rv_cat, int_cat]) rfl ?_
  rintro κ hO hF rfl
  have hD := hF.dp
  show X κ (0) (0) w 0 [some (rv f)] []
  refine X_aload_n 1 hO dX12_failureCommand_0 rfl rfl ?_
  refine gX12_61 4 hO dX12_failureCommand_1 rfl (by first | assumption | omega | (simp (disch := first | decide | assumption | omega) only [up_k, up_s, up_a, up_i, flA_k, flA_a, flA_n, cpA_k, cpA_a, newO_o, newA_o, newO_t, newA_t, newA_n] <;> first | assumption | omega)) ?_
  try simp (disch := first | decide | assumption | omega) only [up_k, up_s, up_a, up_i, flA_k, flA_a, flA_n, cpA_k, cpA_a, newO_o, newA_o, newO_t, newA_t, newA_n]
  refine gX12_327 7 hO dX12_failureCommand_4 rfl (by first | assumption | omega | (simp (disch := first | decide | assumption | omega) only [up_k, up_s, up_a, up_i, flA_k, flA_a, flA_n, cpA_k, cpA_a, newO_o, newA_o, newO_t, newA_t, newA_n] <;> first | assumption | omega)) (fun hi_4 => ?_)
  try simp (disch := first | decide | assumption | omega) only [up_k, up_s, up_a, up_i, flA_k, flA_a, flA_n, cpA_k, cpA_a, newO_o, newA_o, newO_t, newA_t, newA_n] at hi_4 ⊢
  exact X_iret hO hF rfl (by first | exact Or.inl rfl | exact Or.inr ⟨rfl, bi_01 _⟩ | exact Or.inr ⟨rfl, by omega⟩) dX12_failureCommand_7 ⟨_, rfl, (by omega), ⟨rfl, rfl⟩⟩
