/-! macros, trials, single traces, listeners' looks -/
def MT (w : Mm) (m : Int) : Prop := w 0 m 0 = 4 ∧ (w 0 (w 21 m 0) 0 = 20 ∧ w 0 (w 22 m 0) 0 = 20 ∧ w 0 (w 23 m 0) 0 = 20) ∧ (w 2 (w 21 m 0) 0 = 16 ∧ w 2 (w 22 m 0) 0 = 16 ∧ w 2 (w 23 m 0) 0 = 16) ∧ (w 21 m 0 ≠ w 22 m 0 ∧ w 21 m 0 ≠ w 23 m 0 ∧ w 22 m 0 ≠ w 23 m 0) ∧ (0 ≤ w 62 m 0 ∧ w 62 m 0 ≤ 16)
def c_app (m a b c : Int) (w : Mm) : Mm := if w 62 m 0 < 16 then up (up (up (up w 1 (w 21 m 0) (w 62 m 0) a) 1 (w 22 m 0) (w 62 m 0) b) 1 (w 23 m 0) (w 62 m 0) c) 62 m 0 (w 62 m 0 + 1) else w
def tr_shift (x k : Int) (w : Mm) : Mm := up (up w 73 x 0 (w 73 x 0 + k)) 74 x 0 (w 74 x 0 + k)
def tr_ins (x p n : Int) (w : Mm) : Mm := if p < w 73 x 0 ∨ (p = w 73 x 0 ∧ w 73 x 0 < w 74 x 0) then tr_shift x n w else if p < w 74 x 0 ∨ p = w 73 x 0 then up w 75 x 0 1 else w
def tr_del (x p n : Int) (w : Mm) : Mm := if p + n ≤ w 73 x 0 then tr_shift x (-n) w else if p < w 74 x 0 then up w 75 x 0 1 else w
def tr_meet (x k p n : Int) (w : Mm) : Mm := if k = 1 then tr_ins x p n w else if k = 2 then tr_del x p n w else if k = 3 ∧ w 73 x 0 ≤ p ∧ p < w 74 x 0 then up w 75 x 0 1 else w
def tr_begin (x t : Int) (w : Mm) : Mm := up (up (up (up (up w 36 x 0 t) 73 x 0 (w 69 t 0)) 74 x 0 (if w 68 t 0 = 2 then w 69 t 0 else w 69 t 0 + w 70 t 0)) 75 x 0 0) 76 x 0 0
def l_ff (w : Mm) (L s : Int) : Nat → Int → Int → Int
  | 0, _, b => b
  | n + 1, j, b => l_ff w L s n (j + 1) (if (w 1 (w 15 L 0) j ≠ 0 ∧ (b = -1 ∨ w 1 (w 18 L 0) j < w 1 (w 18 L 0) b)) ∧ fnd (fun i => w 1 (w 28 s 0) i) (w 1 (w 16 L 0) j) (w 67 s 0).toNat 0 ≠ -1 then j else b)
def LT (w : Mm) (L : Int) : Prop := w 0 L 0 = 3 ∧ (w 0 (w 15 L 0) 0 = 21 ∧ w 0 (w 16 L 0) 0 = 20 ∧ w 0 (w 17 L 0) 0 = 20 ∧ w 0 (w 18 L 0) 0 = 20 ∧ w 0 (w 19 L 0) 0 = 20 ∧ w 0 (w 20 L 0) 0 = 20) ∧ (w 2 (w 15 L 0) 0 = 3 ∧ w 2 (w 16 L 0) 0 = 3 ∧ w 2 (w 17 L 0) 0 = 3 ∧ w 2 (w 18 L 0) 0 = 3 ∧ w 2 (w 19 L 0) 0 = 8 ∧ w 2 (w 20 L 0) 0 = 8)
theorem l_ff_s {w : Mm} {L s : Int} {n m : Nat} {j b b2 : Int} (e : n = m + 1) (h : b2 = (if (w 1 (w 15 L 0) j ≠ 0 ∧ (b = -1 ∨ w 1 (w 18 L 0) j < w 1 (w 18 L 0) b)) ∧ fnd (fun i => w 1 (w 28 s 0) i) (w 1 (w 16 L 0) j) (w 67 s 0).toNat 0 ≠ -1 then j else b)) : l_ff w L s n j b = l_ff w L s m (j + 1) b2 := by
  subst e; rw [h]; rfl
theorem dX3_append_0 : decode cX3_append 0 = .ok (.aload_n 0, 1) := by decide +kernel
theorem dX3_append_1 : decode cX3_append 1 = .ok (.getfield 21, 3) := by decide +kernel
theorem dX3_append_4 : decode cX3_append 4 = .ok (.bipush 16, 2) := by decide +kernel
theorem dX3_append_6 : decode cX3_append 6 = .ok (.if_icmp .ge 43, 3) := by decide +kernel
theorem dX3_append_9 : decode cX3_append 9 = .ok (.aload_n 0, 1) := by decide +kernel
theorem dX3_append_10 : decode cX3_append 10 = .ok (.getfield 9, 3) := by decide +kernel
theorem dX3_append_13 : decode cX3_append 13 = .ok (.aload_n 0, 1) := by decide +kernel
theorem dX3_append_14 : decode cX3_append 14 = .ok (.getfield 21, 3) := by decide +kernel
theorem dX3_append_17 : decode cX3_append 17 = .ok (.iload_n 1, 1) := by decide +kernel
theorem dX3_append_18 : decode cX3_append 18 = .ok (.iastore, 1) := by decide +kernel
theorem dX3_append_19 : decode cX3_append 19 = .ok (.aload_n 0, 1) := by decide +kernel
theorem dX3_append_20 : decode cX3_append 20 = .ok (.getfield 15, 3) := by decide +kernel
theorem dX3_append_23 : decode cX3_append 23 = .ok (.aload_n 0, 1) := by decide +kernel
theorem dX3_append_24 : decode cX3_append 24 = .ok (.getfield 21, 3) := by decide +kernel
theorem dX3_append_27 : decode cX3_append 27 = .ok (.iload_n 2, 1) := by decide +kernel
theorem dX3_append_28 : decode cX3_append 28 = .ok (.iastore, 1) := by decide +kernel
theorem dX3_append_29 : decode cX3_append 29 = .ok (.aload_n 0, 1) := by decide +kernel
theorem dX3_append_30 : decode cX3_append 30 = .ok (.getfield 18, 3) := by decide +kernel
theorem dX3_append_33 : decode cX3_append 33 = .ok (.aload_n 0, 1) := by decide +kernel
theorem dX3_append_34 : decode cX3_append 34 = .ok (.getfield 21, 3) := by decide +kernel
theorem dX3_append_37 : decode cX3_append 37 = .ok (.iload_n 3, 1) := by decide +kernel
theorem dX3_append_38 : decode cX3_append 38 = .ok (.iastore, 1) := by decide +kernel
theorem dX3_append_39 : decode cX3_append 39 = .ok (.aload_n 0, 1) := by decide +kernel
theorem dX3_append_40 : decode cX3_append 40 = .ok (.dup, 1) := by decide +kernel
theorem dX3_append_41 : decode cX3_append 41 = .ok (.getfield 21, 3) := by decide +kernel
theorem dX3_append_44 : decode cX3_append 44 = .ok (.iconst 1, 1) := by decide +kernel
theorem dX3_append_45 : decode cX3_append 45 = .ok (.iadd, 1) := by decide +kernel
theorem dX3_append_46 : decode cX3_append 46 = .ok (.putfield 21, 3) := by decide +kernel
theorem dX3_append_49 : decode cX3_append 49 = .ok (.return_, 1) := by decide +kernel
set_option maxRecDepth 4000 in
theorem kX3_append (γ : LC) (w : Mm) (m a b c : Int) (hm : MT w m) (ha : IR a) (hb : IR b) (hc : IR c) : KV γ 1 mX3_append [rv m, .int (I a), .int (I b), .int (I c)] w (0) (0) (fun w' => w' = c_app m a b c w) NX := by
  refine MX_of rfl rfl (by simp [rv_cat, int_cat]) rfl ?_
  rintro κ hO hF rfl
  have hD := hF.dp
  show X κ (0) (0) w 0 [some (rv m), some (.int (I a)), some (.int (I b)), some (.int (I c))] []
  obtain ⟨t0, ⟨t1, t2, t3⟩, ⟨t4, t5, t6⟩, ⟨t7, t8, t9⟩, t10⟩ := id hm
  refine X_aload_n 1 hO dX3_append_0 rfl rfl ?_
  refine gX3_21 4 hO dX3_append_1 rfl (by first | assumption | omega | (simp (disch := first | decide | assumption | omega) only [up_k, up_s, up_a, up_i, flA_k, flA_a, flA_n, cpA_k, cpA_a, newO_o, newA_o, newO_t, newA_t, newA_n] <;> first | assumption | omega)) (fun hi_1 => ?_)
  try simp (disch := first | decide | assumption | omega) only [up_k, up_s, up_a, up_i, flA_k, flA_a, flA_n, cpA_k, cpA_a, newO_o, newA_o, newO_t, newA_t, newA_n] at hi_1 ⊢
  refine X_bipush 6 hO dX3_append_4 rfl (by decide) ?_
  refine X_icmp_ge 9 49 hO dX3_append_6 rfl rfl (by omega) (by omega) (fun hc_6 => ?_) (fun hc_6 => ?_)
  ·
    exact X_vret hO hF rfl dX3_append_49 ⟨rfl, (by unfold c_app; (repeat (first | rw [if_pos (by omega)] | rw [if_neg (by omega)])); (try rfl))⟩
  ·
    refine X_aload_n 10 hO dX3_append_9 rfl rfl ?_
    refine gX3_9 13 hO dX3_append_10 rfl (by first | assumption | omega | (simp (disch := first | decide | assumption | omega) only [up_k, up_s, up_a, up_i, flA_k, flA_a, flA_n, cpA_k, cpA_a, newO_o, newA_o, newO_t, newA_t, newA_n] <;> first | assumption | omega)) ?_
    try simp (disch := first | decide | assumption | omega) only [up_k, up_s, up_a, up_i, flA_k, flA_a, flA_n, cpA_k, cpA_a, newO_o, newA_o, newO_t, newA_t, newA_n]
    refine X_aload_n 14 hO dX3_append_13 rfl rfl ?_
    refine gX3_21 17 hO dX3_append_14 rfl (by first | assumption | omega | (simp (disch := first | decide | assumption | omega) only [up_k, up_s, up_a, up_i, flA_k, flA_a, flA_n, cpA_k, cpA_a, newO_o, newA_o, newO_t, newA_t, newA_n] <;> first | assumption | omega)) (fun hi_14 => ?_)
    try simp (disch := first | decide | assumption | omega) only [up_k, up_s, up_a, up_i, flA_k, flA_a, flA_n, cpA_k, cpA_a, newO_o, newA_o, newO_t, newA_t, newA_n] at hi_14 ⊢
    refine X_iload_n 18 hO dX3_append_17 rfl rfl ?_
    refine X_iast 19 hO dX3_append_18 rfl (by first | assumption | omega | (simp (disch := first | decide | assumption | omega) only [up_k, up_s, up_a, up_i, flA_k, flA_a, flA_n, cpA_k, cpA_a, newO_o, newA_o, newO_t, newA_t, newA_n] <;> first | assumption | omega)) (by first | assumption | omega | (simp (disch := first | decide | assumption | omega) only [up_k, up_s, up_a, up_i, flA_k, flA_a, flA_n, cpA_k, cpA_a, newO_o, newA_o, newO_t, newA_t, newA_n] <;> first | assumption | omega)) (by omega) ?_
    refine X_aload_n 20 hO dX3_append_19 rfl rfl ?_
    refine gX3_15 23 hO dX3_append_20 rfl (by first | assumption | omega | (simp (disch := first | decide | assumption | omega) only [up_k, up_s, up_a, up_i, flA_k, flA_a, flA_n, cpA_k, cpA_a, newO_o, newA_o, newO_t, newA_t, newA_n] <;> first | assumption | omega)) ?_
    try simp (disch := first | decide | assumption | omega) only [up_k, up_s, up_a, up_i, flA_k, flA_a, flA_n, cpA_k, cpA_a, newO_o, newA_o, newO_t, newA_t, newA_n]
    refine X_aload_n 24 hO dX3_append_23 rfl rfl ?_
    refine gX3_21 27 hO dX3_append_24 rfl (by first | assumption | omega | (simp (disch := first | decide | assumption | omega) only [up_k, up_s, up_a, up_i, flA_k, flA_a, flA_n, cpA_k, cpA_a, newO_o, newA_o, newO_t, newA_t, newA_n] <;> first | assumption | omega)) (fun hi_24 => ?_)
    try simp (disch := first | decide | assumption | omega) only [up_k, up_s, up_a, up_i, flA_k, flA_a, flA_n, cpA_k, cpA_a, newO_o, newA_o, newO_t, newA_t, newA_n] at hi_24 ⊢
    refine X_iload_n 28 hO dX3_append_27 rfl rfl ?_
    refine X_iast 29 hO dX3_append_28 rfl (by first | assumption | omega | (simp (disch := first | decide | assumption | omega) only [up_k, up_s, up_a, up_i, flA_k, flA_a, flA_n, cpA_k, cpA_a, newO_o, newA_o, newO_t, newA_t, newA_n] <;> first | assumption | omega)) (by first | assumption | omega | (simp (disch := first | decide | assumption | omega) only [up_k, up_s, up_a, up_i, flA_k, flA_a, flA_n, cpA_k, cpA_a, newO_o, newA_o, newO_t, newA_t, newA_n] <;> first | assumption | omega)) (by omega) ?_
    refine X_aload_n 30 hO dX3_append_29 rfl rfl ?_
    refine gX3_18 33 hO dX3_append_30 rfl (by first | assumption | omega | (simp (disch := first | decide | assumption | omega) only [up_k, up_s, up_a, up_i, flA_k, flA_a, flA_n, cpA_k, cpA_a, newO_o, newA_o, newO_t, newA_t, newA_n] <;> first | assumption | omega)) ?_
    try simp (disch := first | decide | assumption | omega) only [up_k, up_s, up_a, up_i, flA_k, flA_a, flA_n, cpA_k, cpA_a, newO_o, newA_o, newO_t, newA_t, newA_n]
    refine X_aload_n 34 hO dX3_append_33 rfl rfl ?_
    refine gX3_21 37 hO dX3_append_34 rfl (by first | assumption | omega | (simp (disch := first | decide | assumption | omega) only [up_k, up_s, up_a, up_i, flA_k, flA_a, flA_n, cpA_k, cpA_a, newO_o, newA_o, newO_t, newA_t, newA_n] <;> first | assumption | omega)) (fun hi_34 => ?_)
    try simp (disch := first | decide | assumption | omega) only [up_k, up_s, up_a, up_i, flA_k, flA_a, flA_n, cpA_k, cpA_a, newO_o, newA_o, newO_t, newA_t, newA_n] at hi_34 ⊢
    refine X_iload_n 38 hO dX3_append_37 rfl rfl ?_
    refine X_iast 39 hO dX3_append_38 rfl (by first | assumption | omega | (simp (disch := first | decide | assumption | omega) only [up_k, up_s, up_a, up_i, flA_k, flA_a, flA_n, cpA_k, cpA_a, newO_o, newA_o, newO_t, newA_t, newA_n] <;> first | assumption | omega)) (by first | assumption | omega | (simp (disch := first | decide | assumption | omega) only [up_k, up_s, up_a, up_i, flA_k, flA_a, flA_n, cpA_k, cpA_a, newO_o, newA_o, newO_t, newA_t, newA_n] <;> first | assumption | omega)) (by omega) ?_
    refine X_aload_n 40 hO dX3_append_39 rfl rfl ?_
    refine X_dup 41 hO dX3_append_40 rfl (by first | rfl | exact rv_cat _) ?_
    refine gX3_21 44 hO dX3_append_41 rfl (by first | assumption | omega | (simp (disch := first | decide | assumption | omega) only [up_k, up_s, up_a, up_i, flA_k, flA_a, flA_n, cpA_k, cpA_a, newO_o, newA_o, newO_t, newA_t, newA_n] <;> first | assumption | omega)) (fun hi_41 => ?_)
    try simp (disch := first | decide | assumption | omega) only [up_k, up_s, up_a, up_i, flA_k, flA_a, flA_n, cpA_k, cpA_a, newO_o, newA_o, newO_t, newA_t, newA_n] at hi_41 ⊢
    refine X_iconst 45 hO dX3_append_44 rfl ?_
    refine X_iadd 46 hO dX3_append_45 rfl ?_
    refine pX3_21 49 hO dX3_append_46 rfl (by first | assumption | omega | (simp (disch := first | decide | assumption | omega) only [up_k, up_s, up_a, up_i, flA_k, flA_a, flA_n, cpA_k, cpA_a, newO_o, newA_o, newO_t, newA_t, newA_n] <;> first | assumption | omega)) (by omega) ?_
    exact X_vret hO hF rfl dX3_append_49 ⟨rfl, (by unfold c_app; (repeat (first | rw [if_pos (by omega)] | rw [if_neg (by omega)])); (try rfl))⟩
theorem dX11_begin_0 : decode cX11_begin 0 = .ok (.aload_n 0, 1) := by decide +kernel
theorem dX11_begin_1 : decode cX11_begin 1 = .ok (.iconst 0, 1) := by decide +kernel
theorem dX11_begin_2 : decode cX11_begin 2 = .ok (.putfield 18, 3) := by decide +kernel
theorem dX11_begin_5 : decode cX11_begin 5 = .ok (.aload_n 0, 1) := by decide +kernel
theorem dX11_begin_6 : decode cX11_begin 6 = .ok (.iconst 0, 1) := by decide +kernel
theorem dX11_begin_7 : decode cX11_begin 7 = .ok (.putfield 21, 3) := by decide +kernel
theorem dX11_begin_10 : decode cX11_begin 10 = .ok (.aload_n 0, 1) := by decide +kernel
theorem dX11_begin_11 : decode cX11_begin 11 = .ok (.iconst 0, 1) := by decide +kernel
theorem dX11_begin_12 : decode cX11_begin 12 = .ok (.putfield 24, 3) := by decide +kernel
theorem dX11_begin_15 : decode cX11_begin 15 = .ok (.aload_n 0, 1) := by decide +kernel
theorem dX11_begin_16 : decode cX11_begin 16 = .ok (.iconst (-1), 1) := by decide +kernel
theorem dX11_begin_17 : decode cX11_begin 17 = .ok (.putfield 9, 3) := by decide +kernel
theorem dX11_begin_20 : decode cX11_begin 20 = .ok (.return_, 1) := by decide +kernel
set_option maxRecDepth 4000 in
theorem kX11_begin (γ : LC) (w : Mm) (t : Int) (h0 : w 0 t 0 = 12) : KV γ 1 mX11_begin [rv t] w (0) (0) (fun w' => w' = up (up (up (up w 80 t 0 0) 81 t 0 0) 82 t 0 0) 83 t 0 (-1)) NX := by
  refine MX_of rfl rfl (by simp [rv_cat, int_cat]) rfl ?_
  rintro κ hO hF rfl
  have hD := hF.dp
  show X κ (0) (0) w 0 [some (rv t)] []
  refine X_aload_n 1 hO dX11_begin_0 rfl rfl ?_
  refine X_iconst 2 hO dX11_begin_1 rfl ?_
  refine pX11_18 5 hO dX11_begin_2 rfl (by first | assumption | omega | (simp (disch := first | decide | assumption | omega) only [up_k, up_s, up_a, up_i, flA_k, flA_a, flA_n, cpA_k, cpA_a, newO_o, newA_o, newO_t, newA_t, newA_n] <;> first | assumption | omega)) (by omega) ?_
  refine X_aload_n 6 hO dX11_begin_5 rfl rfl ?_
  refine X_iconst 7 hO dX11_begin_6 rfl ?_
  refine pX11_21 10 hO dX11_begin_7 rfl (by first | assumption | omega | (simp (disch := first | decide | assumption | omega) only [up_k, up_s, up_a, up_i, flA_k, flA_a, flA_n, cpA_k, cpA_a, newO_o, newA_o, newO_t, newA_t, newA_n] <;> first | assumption | omega)) (by omega) ?_
  refine X_aload_n 11 hO dX11_begin_10 rfl rfl ?_
  refine X_iconst 12 hO dX11_begin_11 rfl ?_
  refine pX11_24 15 hO dX11_begin_12 rfl (by first | assumption | omega | (simp (disch := first | decide | assumption | omega) only [up_k, up_s, up_a, up_i, flA_k, flA_a, flA_n, cpA_k, cpA_a, newO_o, newA_o, newO_t, newA_t, newA_n] <;> first | assumption | omega)) (by omega) ?_
  refine X_aload_n 16 hO dX11_begin_15 rfl rfl ?_
  refine X_iconst 17 hO dX11_begin_16 rfl ?_
  refine pX11_9 20 hO dX11_begin_17 rfl (by first | assumption | omega | (simp (disch := first | decide | assumption | omega) only [up_k, up_s, up_a, up_i, flA_k, flA_a, flA_n, cpA_k, cpA_a, newO_o, newA_o, newO_t, newA_t, newA_n] <;> first | assumption | omega)) (by omega) ?_
  exact X_vret hO hF rfl dX11_begin_20 ⟨rfl, rfl⟩
theorem dX11_fail_0 : decode cX11_fail 0 = .ok (.aload_n 0, 1) := by decide +kernel
theorem dX11_fail_1 : decode cX11_fail 1 = .ok (.iload_n 1, 1) := by decide +kernel
theorem dX11_fail_2 : decode cX11_fail 2 = .ok (.putfield 24, 3) := by decide +kernel
theorem dX11_fail_5 : decode cX11_fail 5 = .ok (.aload_n 0, 1) := by decide +kernel
theorem dX11_fail_6 : decode cX11_fail 6 = .ok (.iload_n 2, 1) := by decide +kernel
theorem dX11_fail_7 : decode cX11_fail 7 = .ok (.putfield 9, 3) := by decide +kernel
theorem dX11_fail_10 : decode cX11_fail 10 = .ok (.iconst 0, 1) := by decide +kernel
theorem dX11_fail_11 : decode cX11_fail 11 = .ok (.ireturn, 1) := by decide +kernel
set_option maxRecDepth 4000 in
theorem kX11_fail (γ : LC) (w : Mm) (t r0 p : Int) (h0 : w 0 t 0 = 12) (h1 : IR r0) (h2 : IR p) : KI γ 1 mX11_fail [rv t, .int (I r0), .int (I p)] w (0) (0) (fun r w' => r = 0 ∧ w' = up (up w 82 t 0 r0) 83 t 0 p) NX := by
  refine MX_of rfl rfl (by simp [rv_cat, int_cat]) rfl ?_
  rintro κ hO hF rfl
  have hD := hF.dp
  show X κ (0) (0) w 0 [some (rv t), some (.int (I r0)), some (.int (I p))] []
  refine X_aload_n 1 hO dX11_fail_0 rfl rfl ?_
  refine X_iload_n 2 hO dX11_fail_1 rfl rfl ?_
  refine pX11_24 5 hO dX11_fail_2 rfl (by first | assumption | omega | (simp (disch := first | decide | assumption | omega) only [up_k, up_s, up_a, up_i, flA_k, flA_a, flA_n, cpA_k, cpA_a, newO_o, newA_o, newO_t, newA_t, newA_n] <;> first | assumption | omega)) (by omega) ?_
  refine X_aload_n 6 hO dX11_fail_5 rfl rfl ?_
  refine X_iload_n 7 hO dX11_fail_6 rfl rfl ?_
  refine pX11_9 10 hO dX11_fail_7 rfl (by first | assumption | omega | (simp (disch := first | decide | assumption | omega) only [up_k, up_s, up_a, up_i, flA_k, flA_a, flA_n, cpA_k, cpA_a, newO_o, newA_o, newO_t, newA_t, newA_n] <;> first | assumption | omega)) (by omega) ?_
  refine X_iconst 11 hO dX11_fail_10 rfl ?_
  exact X_iret hO hF rfl (by first | exact Or.inl rfl | exact Or.inr ⟨rfl, bi_01 _⟩ | exact Or.inr ⟨rfl, by omega⟩) dX11_fail_11 ⟨_, rfl, (by omega), ⟨rfl, rfl⟩⟩
theorem dX11_publish_0 : decode cX11_publish 0 = .ok (.aload_n 0, 1) := by decide +kernel
theorem dX11_publish_1 : decode cX11_publish 1 = .ok (.aload_n 0, 1) := by decide +kernel
theorem dX11_publish_2 : decode cX11_publish 2 = .ok (.getfield 24, 3) := by decide +kernel
theorem dX11_publish_5 : decode cX11_publish 5 = .ok (.putfield 27, 3) := by decide +kernel
theorem dX11_publish_8 : decode cX11_publish 8 = .ok (.aload_n 0, 1) := by decide +kernel
theorem dX11_publish_9 : decode cX11_publish 9 = .ok (.aload_n 0, 1) := by decide +kernel
theorem dX11_publish_10 : decode cX11_publish 10 = .ok (.getfield 9, 3) := by decide +kernel
theorem dX11_publish_13 : decode cX11_publish 13 = .ok (.putfield 15, 3) := by decide +kernel
theorem dX11_publish_16 : decode cX11_publish 16 = .ok (.return_, 1) := by decide +kernel
set_option maxRecDepth 4000 in
theorem kX11_publish (γ : LC) (w : Mm) (t : Int) (h0 : w 0 t 0 = 12) : KV γ 1 mX11_publish [rv t] w (0) (0) (fun w' => w' = up (up w 84 t 0 (w 82 t 0)) 85 t 0 (w 83 t 0)) NX := by
  refine MX_of rfl rfl (by simp [rv_cat, int_cat]) rfl ?_
  rintro κ hO hF rfl
  have hD := hF.dp
  show X κ (0) (0) w 0 [some (rv t)] []
  refine X_aload_n 1 hO dX11_publish_0 rfl rfl ?_
  refine X_aload_n 2 hO dX11_publish_1 rfl rfl ?_
  refine gX11_24 5 hO dX11_publish_2 rfl (by first | assumption | omega | (simp (disch := first | decide | assumption | omega) only [up_k, up_s, up_a, up_i, flA_k, flA_a, flA_n, cpA_k, cpA_a, newO_o, newA_o, newO_t, newA_t, newA_n] <;> first | assumption | omega)) (fun hi_2 => ?_)
  try simp (disch := first | decide | assumption | omega) only [up_k, up_s, up_a, up_i, flA_k, flA_a, flA_n, cpA_k, cpA_a, newO_o, newA_o, newO_t, newA_t, newA_n] at hi_2 ⊢
  refine pX11_27 8 hO dX11_publish_5 rfl (by first | assumption | omega | (simp (disch := first | decide | assumption | omega) only [up_k, up_s, up_a, up_i, flA_k, flA_a, flA_n, cpA_k, cpA_a, newO_o, newA_o, newO_t, newA_t, newA_n] <;> first | assumption | omega)) (by omega) ?_
  refine X_aload_n 9 hO dX11_publish_8 rfl rfl ?_
  refine X_aload_n 10 hO dX11_publish_9 rfl rfl ?_
  refine gX11_9 13 hO dX11_publish_10 rfl (by first | assumption | omega | (simp (disch := first | decide | assumption | omega) only [up_k, up_s, up_a, up_i, flA_k, flA_a, flA_n, cpA_k, cpA_a, newO_o, newA_o, newO_t, newA_t, newA_n] <;> first | assumption | omega)) (fun hi_10 => ?_)
  try simp (disch := first | decide | assumption | omega) only [up_k, up_s, up_a, up_i, flA_k, flA_a, flA_n, cpA_k, cpA_a, newO_o, newA_o, newO_t, newA_t, newA_n] at hi_10 ⊢
  refine pX11_15 16 hO dX11_publish_13 rfl (by first | assumption | omega | (simp (disch := first | decide | assumption | omega) only [up_k, up_s, up_a, up_i, flA_k, flA_a, flA_n, cpA_k, cpA_a, newO_o, newA_o, newO_t, newA_t, newA_n] <;> first | assumption | omega)) (by omega) ?_
  exact X_vret hO hF rfl dX11_publish_16 ⟨rfl, rfl⟩
theorem dX8_shift_0 : decode cX8_shift 0 = .ok (.aload_n 0, 1) := by decide +kernel
theorem dX8_shift_1 : decode cX8_shift 1 = .ok (.dup, 1) := by decide +kernel
theorem dX8_shift_2 : decode cX8_shift 2 = .ok (.getfield 21, 3) := by decide +kernel
theorem dX8_shift_5 : decode cX8_shift 5 = .ok (.iload_n 1, 1) := by decide +kernel
theorem dX8_shift_6 : decode cX8_shift 6 = .ok (.iadd, 1) := by decide +kernel
theorem dX8_shift_7 : decode cX8_shift 7 = .ok (.putfield 21, 3) := by decide +kernel
theorem dX8_shift_10 : decode cX8_shift 10 = .ok (.aload_n 0, 1) := by decide +kernel
theorem dX8_shift_11 : decode cX8_shift 11 = .ok (.dup, 1) := by decide +kernel
theorem dX8_shift_12 : decode cX8_shift 12 = .ok (.getfield 30, 3) := by decide +kernel
theorem dX8_shift_15 : decode cX8_shift 15 = .ok (.iload_n 1, 1) := by decide +kernel
theorem dX8_shift_16 : decode cX8_shift 16 = .ok (.iadd, 1) := by decide +kernel
theorem dX8_shift_17 : decode cX8_shift 17 = .ok (.putfield 30, 3) := by decide +kernel
theorem dX8_shift_20 : decode cX8_shift 20 = .ok (.return_, 1) := by decide +kernel
set_option maxRecDepth 4000 in
theorem kX8_shift (γ : LC) (w : Mm) (x k : Int) (hx : w 0 x 0 = 9) (h1 : IR (w 73 x 0 + k)) (h2 : IR (w 74 x 0 + k)) : KV γ 1 mX8_shift [rv x, .int (I k)] w (0) (0) (fun w' => w' = tr_shift x k w) NX := by
  refine MX_of rfl rfl (by simp [rv_cat, int_cat]) rfl ?_
  rintro κ hO hF rfl
  have hD := hF.dp
  show X κ (0) (0) w 0 [some (rv x), some (.int (I k))] []
  refine X_aload_n 1 hO dX8_shift_0 rfl rfl ?_
  refine X_dup 2 hO dX8_shift_1 rfl (by first | rfl | exact rv_cat _) ?_
  refine gX8_21 5 hO dX8_shift_2 rfl (by first | assumption | omega | (simp (disch := first | decide | assumption | omega) only [up_k, up_s, up_a, up_i, flA_k, flA_a, flA_n, cpA_k, cpA_a, newO_o, newA_o, newO_t, newA_t, newA_n] <;> first | assumption | omega)) (fun hi_2 => ?_)
  try simp (disch := first | decide | assumption | omega) only [up_k, up_s, up_a, up_i, flA_k, flA_a, flA_n, cpA_k, cpA_a, newO_o, newA_o, newO_t, newA_t, newA_n] at hi_2 ⊢
  refine X_iload_n 6 hO dX8_shift_5 rfl rfl ?_
  refine X_iadd 7 hO dX8_shift_6 rfl ?_
  refine pX8_21 10 hO dX8_shift_7 rfl (by first | assumption | omega | (simp (disch := first | decide | assumption | omega) only [up_k, up_s, up_a, up_i, flA_k, flA_a, flA_n, cpA_k, cpA_a, newO_o, newA_o, newO_t, newA_t, newA_n] <;> first | assumption | omega)) (by omega) ?_
  refine X_aload_n 11 hO dX8_shift_10 rfl rfl ?_
  refine X_dup 12 hO dX8_shift_11 rfl (by first | rfl | exact rv_cat _) ?_
  refine gX8_30 15 hO dX8_shift_12 rfl (by first | assumption | omega | (simp (disch := first | decide | assumption | omega) only [up_k, up_s, up_a, up_i, flA_k, flA_a, flA_n, cpA_k, cpA_a, newO_o, newA_o, newO_t, newA_t, newA_n] <;> first | assumption | omega)) (fun hi_12 => ?_)
  try simp (disch := first | decide | assumption | omega) only [up_k, up_s, up_a, up_i, flA_k, flA_a, flA_n, cpA_k, cpA_a, newO_o, newA_o, newO_t, newA_t, newA_n] at hi_12 ⊢
  refine X_iload_n 16 hO dX8_shift_15 rfl rfl ?_
  refine X_iadd 17 hO dX8_shift_16 rfl ?_
  refine pX8_30 20 hO dX8_shift_17 rfl (by first | assumption | omega | (simp (disch := first | decide | assumption | omega) only [up_k, up_s, up_a, up_i, flA_k, flA_a, flA_n, cpA_k, cpA_a, newO_o, newA_o, newO_t, newA_t, newA_n] <;> first | assumption | omega)) (by omega) ?_
  exact X_vret hO hF rfl dX8_shift_20 ⟨rfl, rfl⟩
theorem dX8_meetInsertion_0 : decode cX8_meetInsertion 0 = .ok (.iload_n 1, 1) := by decide +kernel
theorem dX8_meetInsertion_1 : decode cX8_meetInsertion 1 = .ok (.aload_n 0, 1) := by decide +kernel
theorem dX8_meetInsertion_2 : decode cX8_meetInsertion 2 = .ok (.getfield 21, 3) := by decide +kernel
theorem dX8_meetInsertion_5 : decode cX8_meetInsertion 5 = .ok (.if_icmp .lt 22, 3) := by decide +kernel
theorem dX8_meetInsertion_8 : decode cX8_meetInsertion 8 = .ok (.iload_n 1, 1) := by decide +kernel
theorem dX8_meetInsertion_9 : decode cX8_meetInsertion 9 = .ok (.aload_n 0, 1) := by decide +kernel
theorem dX8_meetInsertion_10 : decode cX8_meetInsertion 10 = .ok (.getfield 21, 3) := by decide +kernel
theorem dX8_meetInsertion_13 : decode cX8_meetInsertion 13 = .ok (.if_icmp .ne 22, 3) := by decide +kernel
theorem dX8_meetInsertion_16 : decode cX8_meetInsertion 16 = .ok (.aload_n 0, 1) := by decide +kernel
theorem dX8_meetInsertion_17 : decode cX8_meetInsertion 17 = .ok (.getfield 21, 3) := by decide +kernel
theorem dX8_meetInsertion_20 : decode cX8_meetInsertion 20 = .ok (.aload_n 0, 1) := by decide +kernel
theorem dX8_meetInsertion_21 : decode cX8_meetInsertion 21 = .ok (.getfield 30, 3) := by decide +kernel
theorem dX8_meetInsertion_24 : decode cX8_meetInsertion 24 = .ok (.if_icmp .ge 11, 3) := by decide +kernel
theorem dX8_meetInsertion_27 : decode cX8_meetInsertion 27 = .ok (.aload_n 0, 1) := by decide +kernel
theorem dX8_meetInsertion_28 : decode cX8_meetInsertion 28 = .ok (.iload_n 2, 1) := by decide +kernel
theorem dX8_meetInsertion_29 : decode cX8_meetInsertion 29 = .ok (.invokevirtual 47, 3) := by decide +kernel
theorem dX8_meetInsertion_32 : decode cX8_meetInsertion 32 = .ok (.goto 24, 3) := by decide +kernel
theorem dX8_meetInsertion_35 : decode cX8_meetInsertion 35 = .ok (.iload_n 1, 1) := by decide +kernel
theorem dX8_meetInsertion_36 : decode cX8_meetInsertion 36 = .ok (.aload_n 0, 1) := by decide +kernel
theorem dX8_meetInsertion_37 : decode cX8_meetInsertion 37 = .ok (.getfield 30, 3) := by decide +kernel
theorem dX8_meetInsertion_40 : decode cX8_meetInsertion 40 = .ok (.if_icmp .lt 11, 3) := by decide +kernel
theorem dX8_meetInsertion_43 : decode cX8_meetInsertion 43 = .ok (.iload_n 1, 1) := by decide +kernel
theorem dX8_meetInsertion_44 : decode cX8_meetInsertion 44 = .ok (.aload_n 0, 1) := by decide +kernel
theorem dX8_meetInsertion_45 : decode cX8_meetInsertion 45 = .ok (.getfield 21, 3) := by decide +kernel
theorem dX8_meetInsertion_48 : decode cX8_meetInsertion 48 = .ok (.if_icmp .ne 8, 3) := by decide +kernel
theorem dX8_meetInsertion_51 : decode cX8_meetInsertion 51 = .ok (.aload_n 0, 1) := by decide +kernel
theorem dX8_meetInsertion_52 : decode cX8_meetInsertion 52 = .ok (.iconst 1, 1) := by decide +kernel
theorem dX8_meetInsertion_53 : decode cX8_meetInsertion 53 = .ok (.putfield 33, 3) := by decide +kernel
theorem dX8_meetInsertion_56 : decode cX8_meetInsertion 56 = .ok (.return_, 1) := by decide +kernel
set_option maxRecDepth 4000 in
theorem kX8_meetInsertion (γ : LC) (w : Mm) (x p n : Int) (hx : w 0 x 0 = 9) (hp : IR p) (h1 : IR (w 73 x 0 + n)) (h2 : IR (w 74 x 0 + n)) : KV γ 2 mX8_meetInsertion [rv x, .int (I p), .int (I n)] w (0) (0) (fun w' => w' = tr_ins x p n w) NX := by
  refine MX_of rfl rfl (by simp [rv_cat, int_cat]) rfl ?_
  rintro κ hO hF rfl
  have hD := hF.dp
  show X κ (0) (0) w 0 [some (rv x), some (.int (I p)), some (.int (I n))] []
  refine X_iload_n 1 hO dX8_meetInsertion_0 rfl rfl ?_
  refine X_aload_n 2 hO dX8_meetInsertion_1 rfl rfl ?_
  refine gX8_21 5 hO dX8_meetInsertion_2 rfl (by first | assumption | omega | (simp (disch := first | decide | assumption | omega) only [up_k, up_s, up_a, up_i, flA_k, flA_a, flA_n, cpA_k, cpA_a, newO_o, newA_o, newO_t, newA_t, newA_n] <;> first | assumption | omega)) (fun hi_2 => ?_)
  try simp (disch := first | decide | assumption | omega) only [up_k, up_s, up_a, up_i, flA_k, flA_a, flA_n, cpA_k, cpA_a, newO_o, newA_o, newO_t, newA_t, newA_n] at hi_2 ⊢
  refine X_icmp_lt 8 27 hO dX8_meetInsertion_5 rfl rfl (by omega) (by omega) (fun hc_5 => ?_) (fun hc_5 => ?_)
  ·
    refine X_aload_n 28 hO dX8_meetInsertion_27 rfl rfl ?_
    refine X_iload_n 29 hO dX8_meetInsertion_28 rfl rfl ?_
    refine X_kVv (t := 9) 32 hO hD lX8_47 rfl (by decide) [_] rfl dX8_meetInsertion_29 rfl (by first | assumption | omega | (simp (disch := first | decide | assumption | omega) only [up_k, up_s, up_a, up_i, flA_k, flA_a, flA_n, cpA_k, cpA_a, newO_o, newA_o, newO_t, newA_t, newA_n] <;> first | assumption | omega)) (kX8_shift _ _ _ _ hx (by omega) (by omega)) (by decide) (by simp [rv_cat, int_cat]) (by first | decide | exact Nat.zero_le _ | omega) (by first | decide | exact Nat.zero_le _ | omega) (fun w_29 hp_29 => ?_) (fun E w_ hx_ => hx_.elim)
    subst w_29
    refine X_goto hO dX8_meetInsertion_32 (tgt := 56) rfl ?_
    exact X_vret hO hF rfl dX8_meetInsertion_56 ⟨rfl, (by first | (exfalso; omega) | (unfold tr_ins; (repeat (first | rw [if_pos (by omega)] | rw [if_neg (by omega)])); (try rfl); done))⟩
  ·
    refine X_iload_n 9 hO dX8_meetInsertion_8 rfl rfl ?_
    refine X_aload_n 10 hO dX8_meetInsertion_9 rfl rfl ?_
    refine gX8_21 13 hO dX8_meetInsertion_10 rfl (by first | assumption | omega | (simp (disch := first | decide | assumption | omega) only [up_k, up_s, up_a, up_i, flA_k, flA_a, flA_n, cpA_k, cpA_a, newO_o, newA_o, newO_t, newA_t, newA_n] <;> first | assumption | omega)) (fun hi_10 => ?_)
    try simp (disch := first | decide | assumption | omega) only [up_k, up_s, up_a, up_i, flA_k, flA_a, flA_n, cpA_k, cpA_a, newO_o, newA_o, newO_t, newA_t, newA_n] at hi_10 ⊢
    refine X_icmp_ne 16 35 hO dX8_meetInsertion_13 rfl rfl (by omega) (by omega) (fun hc_13 => ?_) (fun hc_13 => ?_)
    ·
      refine X_iload_n 36 hO dX8_meetInsertion_35 rfl rfl ?_
      refine X_aload_n 37 hO dX8_meetInsertion_36 rfl rfl ?_
      refine gX8_30 40 hO dX8_meetInsertion_37 rfl (by first | assumption | omega | (simp (disch := first | decide | assumption | omega) only [up_k, up_s, up_a, up_i, flA_k, flA_a, flA_n, cpA_k, cpA_a, newO_o, newA_o, newO_t, newA_t, newA_n] <;> first | assumption | omega)) (fun hi_37 => ?_)
      try simp (disch := first | decide | assumption | omega) only [up_k, up_s, up_a, up_i, flA_k, flA_a, flA_n, cpA_k, cpA_a, newO_o, newA_o, newO_t, newA_t, newA_n] at hi_37 ⊢
      refine X_icmp_lt 43 51 hO dX8_meetInsertion_40 rfl rfl (by omega) (by omega) (fun hc_40 => ?_) (fun hc_40 => ?_)
      ·
        refine X_aload_n 52 hO dX8_meetInsertion_51 rfl rfl ?_
        refine X_iconst 53 hO dX8_meetInsertion_52 rfl ?_
        refine pX8_33 56 hO dX8_meetInsertion_53 rfl (by first | assumption | omega | (simp (disch := first | decide | assumption | omega) only [up_k, up_s, up_a, up_i, flA_k, flA_a, flA_n, cpA_k, cpA_a, newO_o, newA_o, newO_t, newA_t, newA_n] <;> first | assumption | omega)) (by omega) ?_
        exact X_vret hO hF rfl dX8_meetInsertion_56 ⟨rfl, (by first | (exfalso; omega) | (unfold tr_ins; (repeat (first | rw [if_pos (by omega)] | rw [if_neg (by omega)])); (try rfl); done))⟩
      ·
        refine X_iload_n 44 hO dX8_meetInsertion_43 rfl rfl ?_
        refine X_aload_n 45 hO dX8_meetInsertion_44 rfl rfl ?_
        refine gX8_21 48 hO dX8_meetInsertion_45 rfl (by first | assumption | omega | (simp (disch := first | decide | assumption | omega) only [up_k, up_s, up_a, up_i, flA_k, flA_a, flA_n, cpA_k, cpA_a, newO_o, newA_o, newO_t, newA_t, newA_n] <;> first | assumption | omega)) (fun hi_45 => ?_)
        try simp (disch := first | decide | assumption | omega) only [up_k, up_s, up_a, up_i, flA_k, flA_a, flA_n, cpA_k, cpA_a, newO_o, newA_o, newO_t, newA_t, newA_n] at hi_45 ⊢
        refine X_icmp_ne 51 56 hO dX8_meetInsertion_48 rfl rfl (by omega) (by omega) (fun hc_48 => ?_) (fun hc_48 => ?_)
        ·
          exact X_vret hO hF rfl dX8_meetInsertion_56 ⟨rfl, (by first | (exfalso; omega) | (unfold tr_ins; (repeat (first | rw [if_pos (by omega)] | rw [if_neg (by omega)])); (try rfl); done))⟩
        ·
          refine X_aload_n 52 hO dX8_meetInsertion_51 rfl rfl ?_
          refine X_iconst 53 hO dX8_meetInsertion_52 rfl ?_
          refine pX8_33 56 hO dX8_meetInsertion_53 rfl (by first | assumption | omega | (simp (disch := first | decide | assumption | omega) only [up_k, up_s, up_a, up_i, flA_k, flA_a, flA_n, cpA_k, cpA_a, newO_o, newA_o, newO_t, newA_t, newA_n] <;> first | assumption | omega)) (by omega) ?_
          exact X_vret hO hF rfl dX8_meetInsertion_56 ⟨rfl, (by first | (exfalso; omega) | (unfold tr_ins; (repeat (first | rw [if_pos (by omega)] | rw [if_neg (by omega)])); (try rfl); done))⟩
    ·
      refine X_aload_n 17 hO dX8_meetInsertion_16 rfl rfl ?_
      refine gX8_21 20 hO dX8_meetInsertion_17 rfl (by first | assumption | omega | (simp (disch := first | decide | assumption | omega) only [up_k, up_s, up_a, up_i, flA_k, flA_a, flA_n, cpA_k, cpA_a, newO_o, newA_o, newO_t, newA_t, newA_n] <;> first | assumption | omega)) (fun hi_17 => ?_)
      try simp (disch := first | decide | assumption | omega) only [up_k, up_s, up_a, up_i, flA_k, flA_a, flA_n, cpA_k, cpA_a, newO_o, newA_o, newO_t, newA_t, newA_n] at hi_17 ⊢
      refine X_aload_n 21 hO dX8_meetInsertion_20 rfl rfl ?_
      refine gX8_30 24 hO dX8_meetInsertion_21 rfl (by first | assumption | omega | (simp (disch := first | decide | assumption | omega) only [up_k, up_s, up_a, up_i, flA_k, flA_a, flA_n, cpA_k, cpA_a, newO_o, newA_o, newO_t, newA_t, newA_n] <;> first | assumption | omega)) (fun hi_21 => ?_)
      try simp (disch := first | decide | assumption | omega) only [up_k, up_s, up_a, up_i, flA_k, flA_a, flA_n, cpA_k, cpA_a, newO_o, newA_o, newO_t, newA_t, newA_n] at hi_21 ⊢
      refine X_icmp_ge 27 35 hO dX8_meetInsertion_24 rfl rfl (by omega) (by omega) (fun hc_24 => ?_) (fun hc_24 => ?_)
      ·
        refine X_iload_n 36 hO dX8_meetInsertion_35 rfl rfl ?_
        refine X_aload_n 37 hO dX8_meetInsertion_36 rfl rfl ?_
        refine gX8_30 40 hO dX8_meetInsertion_37 rfl (by first | assumption | omega | (simp (disch := first | decide | assumption | omega) only [up_k, up_s, up_a, up_i, flA_k, flA_a, flA_n, cpA_k, cpA_a, newO_o, newA_o, newO_t, newA_t, newA_n] <;> first | assumption | omega)) (fun hi_37 => ?_)
        try simp (disch := first | decide | assumption | omega) only [up_k, up_s, up_a, up_i, flA_k, flA_a, flA_n, cpA_k, cpA_a, newO_o, newA_o, newO_t, newA_t, newA_n] at hi_37 ⊢
        refine X_icmp_lt 43 51 hO dX8_meetInsertion_40 rfl rfl (by omega) (by omega) (fun hc_40 => ?_) (fun hc_40 => ?_)
        ·
          refine X_aload_n 52 hO dX8_meetInsertion_51 rfl rfl ?_
          refine X_iconst 53 hO dX8_meetInsertion_52 rfl ?_
          refine pX8_33 56 hO dX8_meetInsertion_53 rfl (by first | assumption | omega | (simp (disch := first | decide | assumption | omega) only [up_k, up_s, up_a, up_i, flA_k, flA_a, flA_n, cpA_k, cpA_a, newO_o, newA_o, newO_t, newA_t, newA_n] <;> first | assumption | omega)) (by omega) ?_
          exact X_vret hO hF rfl dX8_meetInsertion_56 ⟨rfl, (by first | (exfalso; omega) | (unfold tr_ins; (repeat (first | rw [if_pos (by omega)] | rw [if_neg (by omega)])); (try rfl); done))⟩
        ·
          refine X_iload_n 44 hO dX8_meetInsertion_43 rfl rfl ?_
          refine X_aload_n 45 hO dX8_meetInsertion_44 rfl rfl ?_
          refine gX8_21 48 hO dX8_meetInsertion_45 rfl (by first | assumption | omega | (simp (disch := first | decide | assumption | omega) only [up_k, up_s, up_a, up_i, flA_k, flA_a, flA_n, cpA_k, cpA_a, newO_o, newA_o, newO_t, newA_t, newA_n] <;> first | assumption | omega)) (fun hi_45 => ?_)
          try simp (disch := first | decide | assumption | omega) only [up_k, up_s, up_a, up_i, flA_k, flA_a, flA_n, cpA_k, cpA_a, newO_o, newA_o, newO_t, newA_t, newA_n] at hi_45 ⊢
          refine X_icmp_ne 51 56 hO dX8_meetInsertion_48 rfl rfl (by omega) (by omega) (fun hc_48 => ?_) (fun hc_48 => ?_)
          ·
            exact X_vret hO hF rfl dX8_meetInsertion_56 ⟨rfl, (by first | (exfalso; omega) | (unfold tr_ins; (repeat (first | rw [if_pos (by omega)] | rw [if_neg (by omega)])); (try rfl); done))⟩
          ·
            refine X_aload_n 52 hO dX8_meetInsertion_51 rfl rfl ?_
            refine X_iconst 53 hO dX8_meetInsertion_52 rfl ?_
            refine pX8_33 56 hO dX8_meetInsertion_53 rfl (by first | assumption | omega | (simp (disch := first | decide | assumption | omega) only [up_k, up_s, up_a, up_i, flA_k, flA_a, flA_n, cpA_k, cpA_a, newO_o, newA_o, newO_t, newA_t, newA_n] <;> first | assumption | omega)) (by omega) ?_
            exact X_vret hO hF rfl dX8_meetInsertion_56 ⟨rfl, (by first | (exfalso; omega) | (unfold tr_ins; (repeat (first | rw [if_pos (by omega)] | rw [if_neg (by omega)])); (try rfl); done))⟩
      ·
        refine X_aload_n 28 hO dX8_meetInsertion_27 rfl rfl ?_
        refine X_iload_n 29 hO dX8_meetInsertion_28 rfl rfl ?_
        refine X_kVv (t := 9) 32 hO hD lX8_47 rfl (by decide) [_] rfl dX8_meetInsertion_29 rfl (by first | assumption | omega | (simp (disch := first | decide | assumption | omega) only [up_k, up_s, up_a, up_i, flA_k, flA_a, flA_n, cpA_k, cpA_a, newO_o, newA_o, newO_t, newA_t, newA_n] <;> first | assumption | omega)) (kX8_shift _ _ _ _ hx (by omega) (by omega)) (by decide) (by simp [rv_cat, int_cat]) (by first | decide | exact Nat.zero_le _ | omega) (by first | decide | exact Nat.zero_le _ | omega) (fun w_29 hp_29 => ?_) (fun E w_ hx_ => hx_.elim)
        subst w_29
        refine X_goto hO dX8_meetInsertion_32 (tgt := 56) rfl ?_
        exact X_vret hO hF rfl dX8_meetInsertion_56 ⟨rfl, (by first | (exfalso; omega) | (unfold tr_ins; (repeat (first | rw [if_pos (by omega)] | rw [if_neg (by omega)])); (try rfl); done))⟩
theorem dX8_meetDeletion_0 : decode cX8_meetDeletion 0 = .ok (.iload_n 1, 1) := by decide +kernel
theorem dX8_meetDeletion_1 : decode cX8_meetDeletion 1 = .ok (.iload_n 2, 1) := by decide +kernel
theorem dX8_meetDeletion_2 : decode cX8_meetDeletion 2 = .ok (.iadd, 1) := by decide +kernel
theorem dX8_meetDeletion_3 : decode cX8_meetDeletion 3 = .ok (.aload_n 0, 1) := by decide +kernel
theorem dX8_meetDeletion_4 : decode cX8_meetDeletion 4 = .ok (.getfield 21, 3) := by decide +kernel
theorem dX8_meetDeletion_7 : decode cX8_meetDeletion 7 = .ok (.if_icmp .gt 12, 3) := by decide +kernel
theorem dX8_meetDeletion_10 : decode cX8_meetDeletion 10 = .ok (.aload_n 0, 1) := by decide +kernel
theorem dX8_meetDeletion_11 : decode cX8_meetDeletion 11 = .ok (.iload_n 2, 1) := by decide +kernel
theorem dX8_meetDeletion_12 : decode cX8_meetDeletion 12 = .ok (.ineg, 1) := by decide +kernel
theorem dX8_meetDeletion_13 : decode cX8_meetDeletion 13 = .ok (.invokevirtual 47, 3) := by decide +kernel
theorem dX8_meetDeletion_16 : decode cX8_meetDeletion 16 = .ok (.goto 16, 3) := by decide +kernel
theorem dX8_meetDeletion_19 : decode cX8_meetDeletion 19 = .ok (.iload_n 1, 1) := by decide +kernel
theorem dX8_meetDeletion_20 : decode cX8_meetDeletion 20 = .ok (.aload_n 0, 1) := by decide +kernel
theorem dX8_meetDeletion_21 : decode cX8_meetDeletion 21 = .ok (.getfield 30, 3) := by decide +kernel
theorem dX8_meetDeletion_24 : decode cX8_meetDeletion 24 = .ok (.if_icmp .ge 8, 3) := by decide +kernel
theorem dX8_meetDeletion_27 : decode cX8_meetDeletion 27 = .ok (.aload_n 0, 1) := by decide +kernel
theorem dX8_meetDeletion_28 : decode cX8_meetDeletion 28 = .ok (.iconst 1, 1) := by decide +kernel
theorem dX8_meetDeletion_29 : decode cX8_meetDeletion 29 = .ok (.putfield 33, 3) := by decide +kernel
theorem dX8_meetDeletion_32 : decode cX8_meetDeletion 32 = .ok (.return_, 1) := by decide +kernel
set_option maxRecDepth 4000 in
theorem kX8_meetDeletion (γ : LC) (w : Mm) (x p n : Int) (hx : w 0 x 0 = 9) (hp : IR p) (h3 : IR (w 73 x 0 - n)) (h4 : IR (w 74 x 0 - n)) (h5 : IR (p + n)) : KV γ 2 mX8_meetDeletion [rv x, .int (I p), .int (I n)] w (0) (0) (fun w' => w' = tr_del x p n w) NX := by
  refine MX_of rfl rfl (by simp [rv_cat, int_cat]) rfl ?_
  rintro κ hO hF rfl
  have hD := hF.dp
  show X κ (0) (0) w 0 [some (rv x), some (.int (I p)), some (.int (I n))] []
  refine X_iload_n 1 hO dX8_meetDeletion_0 rfl rfl ?_
  refine X_iload_n 2 hO dX8_meetDeletion_1 rfl rfl ?_
  refine X_iadd 3 hO dX8_meetDeletion_2 rfl ?_
  refine X_aload_n 4 hO dX8_meetDeletion_3 rfl rfl ?_
  refine gX8_21 7 hO dX8_meetDeletion_4 rfl (by first | assumption | omega | (simp (disch := first | decide | assumption | omega) only [up_k, up_s, up_a, up_i, flA_k, flA_a, flA_n, cpA_k, cpA_a, newO_o, newA_o, newO_t, newA_t, newA_n] <;> first | assumption | omega)) (fun hi_4 => ?_)
  try simp (disch := first | decide | assumption | omega) only [up_k, up_s, up_a, up_i, flA_k, flA_a, flA_n, cpA_k, cpA_a, newO_o, newA_o, newO_t, newA_t, newA_n] at hi_4 ⊢
  refine X_icmp_gt 10 19 hO dX8_meetDeletion_7 rfl rfl (by omega) (by omega) (fun hc_7 => ?_) (fun hc_7 => ?_)
  ·
    refine X_iload_n 20 hO dX8_meetDeletion_19 rfl rfl ?_
    refine X_aload_n 21 hO dX8_meetDeletion_20 rfl rfl ?_
    refine gX8_30 24 hO dX8_meetDeletion_21 rfl (by first | assumption | omega | (simp (disch := first | decide | assumption | omega) only [up_k, up_s, up_a, up_i, flA_k, flA_a, flA_n, cpA_k, cpA_a, newO_o, newA_o, newO_t, newA_t, newA_n] <;> first | assumption | omega)) (fun hi_21 => ?_)
    try simp (disch := first | decide | assumption | omega) only [up_k, up_s, up_a, up_i, flA_k, flA_a, flA_n, cpA_k, cpA_a, newO_o, newA_o, newO_t, newA_t, newA_n] at hi_21 ⊢
    refine X_icmp_ge 27 32 hO dX8_meetDeletion_24 rfl rfl (by omega) (by omega) (fun hc_24 => ?_) (fun hc_24 => ?_)
    ·
      exact X_vret hO hF rfl dX8_meetDeletion_32 ⟨rfl, (by first | (exfalso; omega) | (unfold tr_del; (repeat (first | rw [if_pos (by omega)] | rw [if_neg (by omega)])); (try rfl); done))⟩
    ·
      refine X_aload_n 28 hO dX8_meetDeletion_27 rfl rfl ?_
      refine X_iconst 29 hO dX8_meetDeletion_28 rfl ?_
      refine pX8_33 32 hO dX8_meetDeletion_29 rfl (by first | assumption | omega | (simp (disch := first | decide | assumption | omega) only [up_k, up_s, up_a, up_i, flA_k, flA_a, flA_n, cpA_k, cpA_a, newO_o, newA_o, newO_t, newA_t, newA_n] <;> first | assumption | omega)) (by omega) ?_
      exact X_vret hO hF rfl dX8_meetDeletion_32 ⟨rfl, (by first | (exfalso; omega) | (unfold tr_del; (repeat (first | rw [if_pos (by omega)] | rw [if_neg (by omega)])); (try rfl); done))⟩
  ·
    refine X_aload_n 11 hO dX8_meetDeletion_10 rfl rfl ?_
    refine X_iload_n 12 hO dX8_meetDeletion_11 rfl rfl ?_
    refine X_ineg 13 hO dX8_meetDeletion_12 rfl ?_
    refine X_kVv (t := 9) 16 hO hD lX8_47 rfl (by decide) [_] rfl dX8_meetDeletion_13 rfl (by first | assumption | omega | (simp (disch := first | decide | assumption | omega) only [up_k, up_s, up_a, up_i, flA_k, flA_a, flA_n, cpA_k, cpA_a, newO_o, newA_o, newO_t, newA_t, newA_n] <;> first | assumption | omega)) (kX8_shift _ _ _ _ hx (by omega) (by omega)) (by decide) (by simp [rv_cat, int_cat]) (by first | decide | exact Nat.zero_le _ | omega) (by first | decide | exact Nat.zero_le _ | omega) (fun w_13 hp_13 => ?_) (fun E w_ hx_ => hx_.elim)
    subst w_13
    refine X_goto hO dX8_meetDeletion_16 (tgt := 32) rfl ?_
    exact X_vret hO hF rfl dX8_meetDeletion_32 ⟨rfl, (by first | (exfalso; omega) | (unfold tr_del; (repeat (first | rw [if_pos (by omega)] | rw [if_neg (by omega)])); (try rfl); done))⟩
theorem dX8_meet_0 : decode cX8_meet 0 = .ok (.iload_n 1, 1) := by decide +kernel
theorem dX8_meet_1 : decode cX8_meet 1 = .ok (.iconst 1, 1) := by decide +kernel
theorem dX8_meet_2 : decode cX8_meet 2 = .ok (.if_icmp .ne 12, 3) := by decide +kernel
theorem dX8_meet_5 : decode cX8_meet 5 = .ok (.aload_n 0, 1) := by decide +kernel
theorem dX8_meet_6 : decode cX8_meet 6 = .ok (.iload_n 2, 1) := by decide +kernel
theorem dX8_meet_7 : decode cX8_meet 7 = .ok (.iload_n 3, 1) := by decide +kernel
theorem dX8_meet_8 : decode cX8_meet 8 = .ok (.invokevirtual 40, 3) := by decide +kernel
theorem dX8_meet_11 : decode cX8_meet 11 = .ok (.goto 43, 3) := by decide +kernel
theorem dX8_meet_14 : decode cX8_meet 14 = .ok (.iload_n 1, 1) := by decide +kernel
theorem dX8_meet_15 : decode cX8_meet 15 = .ok (.iconst 2, 1) := by decide +kernel
theorem dX8_meet_16 : decode cX8_meet 16 = .ok (.if_icmp .ne 12, 3) := by decide +kernel
theorem dX8_meet_19 : decode cX8_meet 19 = .ok (.aload_n 0, 1) := by decide +kernel
theorem dX8_meet_20 : decode cX8_meet 20 = .ok (.iload_n 2, 1) := by decide +kernel
theorem dX8_meet_21 : decode cX8_meet 21 = .ok (.iload_n 3, 1) := by decide +kernel
theorem dX8_meet_22 : decode cX8_meet 22 = .ok (.invokevirtual 44, 3) := by decide +kernel
theorem dX8_meet_25 : decode cX8_meet 25 = .ok (.goto 29, 3) := by decide +kernel
theorem dX8_meet_28 : decode cX8_meet 28 = .ok (.iload_n 1, 1) := by decide +kernel
theorem dX8_meet_29 : decode cX8_meet 29 = .ok (.iconst 3, 1) := by decide +kernel
theorem dX8_meet_30 : decode cX8_meet 30 = .ok (.if_icmp .ne 24, 3) := by decide +kernel
theorem dX8_meet_33 : decode cX8_meet 33 = .ok (.iload_n 2, 1) := by decide +kernel
theorem dX8_meet_34 : decode cX8_meet 34 = .ok (.aload_n 0, 1) := by decide +kernel
theorem dX8_meet_35 : decode cX8_meet 35 = .ok (.getfield 21, 3) := by decide +kernel
theorem dX8_meet_38 : decode cX8_meet 38 = .ok (.if_icmp .lt 16, 3) := by decide +kernel
theorem dX8_meet_41 : decode cX8_meet 41 = .ok (.iload_n 2, 1) := by decide +kernel
theorem dX8_meet_42 : decode cX8_meet 42 = .ok (.aload_n 0, 1) := by decide +kernel
theorem dX8_meet_43 : decode cX8_meet 43 = .ok (.getfield 30, 3) := by decide +kernel
theorem dX8_meet_46 : decode cX8_meet 46 = .ok (.if_icmp .ge 8, 3) := by decide +kernel
theorem dX8_meet_49 : decode cX8_meet 49 = .ok (.aload_n 0, 1) := by decide +kernel
theorem dX8_meet_50 : decode cX8_meet 50 = .ok (.iconst 1, 1) := by decide +kernel
theorem dX8_meet_51 : decode cX8_meet 51 = .ok (.putfield 33, 3) := by decide +kernel
theorem dX8_meet_54 : decode cX8_meet 54 = .ok (.return_, 1) := by decide +kernel
set_option maxRecDepth 4000 in
theorem kX8_meet (γ : LC) (w : Mm) (x k p n : Int) (hx : w 0 x 0 = 9) (hk : IR k) (hp : IR p) (h1 : IR (w 73 x 0 + n)) (h2 : IR (w 74 x 0 + n)) (h3 : IR (w 73 x 0 - n)) (h4 : IR (w 74 x 0 - n)) (h5 : IR (p + n)) : KV γ 3 mX8_meet [rv x, .int (I k), .int (I p), .int (I n)] w (0) (0) (fun w' => w' = tr_meet x k p n w) NX := by
  refine MX_of rfl rfl (by simp [rv_cat, int_cat]) rfl ?_
  rintro κ hO hF rfl
  have hD := hF.dp
  show X κ (0) (0) w 0 [some (rv x), some (.int (I k)), some (.int (I p)), some (.int (I n))] []
  refine X_iload_n 1 hO dX8_meet_0 rfl rfl ?_
  refine X_iconst 2 hO dX8_meet_1 rfl ?_
  refine X_icmp_ne 5 14 hO dX8_meet_2 rfl rfl (by omega) (by omega) (fun hc_2 => ?_) (fun hc_2 => ?_)
  ·
    refine X_iload_n 15 hO dX8_meet_14 rfl rfl ?_
    refine X_iconst 16 hO dX8_meet_15 rfl ?_
    refine X_icmp_ne 19 28 hO dX8_meet_16 rfl rfl (by omega) (by omega) (fun hc_16 => ?_) (fun hc_16 => ?_)
    ·
      refine X_iload_n 29 hO dX8_meet_28 rfl rfl ?_
      refine X_iconst 30 hO dX8_meet_29 rfl ?_
      refine X_icmp_ne 33 54 hO dX8_meet_30 rfl rfl (by omega) (by omega) (fun hc_30 => ?_) (fun hc_30 => ?_)
      ·
        exact X_vret hO hF rfl dX8_meet_54 ⟨rfl, (by first | (exfalso; omega) | (unfold tr_meet; (repeat (first | rw [if_pos (by omega)] | rw [if_neg (by omega)])); (try rfl); done))⟩
      ·
        refine X_iload_n 34 hO dX8_meet_33 rfl rfl ?_
        refine X_aload_n 35 hO dX8_meet_34 rfl rfl ?_
        refine gX8_21 38 hO dX8_meet_35 rfl (by first | assumption | omega | (simp (disch := first | decide | assumption | omega) only [up_k, up_s, up_a, up_i, flA_k, flA_a, flA_n, cpA_k, cpA_a, newO_o, newA_o, newO_t, newA_t, newA_n] <;> first | assumption | omega)) (fun hi_35 => ?_)
        try simp (disch := first | decide | assumption | omega) only [up_k, up_s, up_a, up_i, flA_k, flA_a, flA_n, cpA_k, cpA_a, newO_o, newA_o, newO_t, newA_t, newA_n] at hi_35 ⊢
        refine X_icmp_lt 41 54 hO dX8_meet_38 rfl rfl (by omega) (by omega) (fun hc_38 => ?_) (fun hc_38 => ?_)
        ·
          exact X_vret hO hF rfl dX8_meet_54 ⟨rfl, (by first | (exfalso; omega) | (unfold tr_meet; (repeat (first | rw [if_pos (by omega)] | rw [if_neg (by omega)])); (try rfl); done))⟩
        ·
          refine X_iload_n 42 hO dX8_meet_41 rfl rfl ?_
          refine X_aload_n 43 hO dX8_meet_42 rfl rfl ?_
          refine gX8_30 46 hO dX8_meet_43 rfl (by first | assumption | omega | (simp (disch := first | decide | assumption | omega) only [up_k, up_s, up_a, up_i, flA_k, flA_a, flA_n, cpA_k, cpA_a, newO_o, newA_o, newO_t, newA_t, newA_n] <;> first | assumption | omega)) (fun hi_43 => ?_)
          try simp (disch := first | decide | assumption | omega) only [up_k, up_s, up_a, up_i, flA_k, flA_a, flA_n, cpA_k, cpA_a, newO_o, newA_o, newO_t, newA_t, newA_n] at hi_43 ⊢
          refine X_icmp_ge 49 54 hO dX8_meet_46 rfl rfl (by omega) (by omega) (fun hc_46 => ?_) (fun hc_46 => ?_)
          ·
            exact X_vret hO hF rfl dX8_meet_54 ⟨rfl, (by first | (exfalso; omega) | (unfold tr_meet; (repeat (first | rw [if_pos (by omega)] | rw [if_neg (by omega)])); (try rfl); done))⟩
          ·
            refine X_aload_n 50 hO dX8_meet_49 rfl rfl ?_
            refine X_iconst 51 hO dX8_meet_50 rfl ?_
            refine pX8_33 54 hO dX8_meet_51 rfl (by first | assumption | omega | (simp (disch := first | decide | assumption | omega) only [up_k, up_s, up_a, up_i, flA_k, flA_a, flA_n, cpA_k, cpA_a, newO_o, newA_o, newO_t, newA_t, newA_n] <;> first | assumption | omega)) (by omega) ?_
            exact X_vret hO hF rfl dX8_meet_54 ⟨rfl, (by first | (exfalso; omega) | (unfold tr_meet; (repeat (first | rw [if_pos (by omega)] | rw [if_neg (by omega)])); (try rfl); done))⟩
    ·
      refine X_aload_n 20 hO dX8_meet_19 rfl rfl ?_
      refine X_iload_n 21 hO dX8_meet_20 rfl rfl ?_
      refine X_iload_n 22 hO dX8_meet_21 rfl rfl ?_
      refine X_kVv (t := 9) 25 hO hD lX8_44 rfl (by decide) [_, _] rfl dX8_meet_22 rfl (by first | assumption | omega | (simp (disch := first | decide | assumption | omega) only [up_k, up_s, up_a, up_i, flA_k, flA_a, flA_n, cpA_k, cpA_a, newO_o, newA_o, newO_t, newA_t, newA_n] <;> first | assumption | omega)) (kX8_meetDeletion _ _ _ _ _ hx hp h3 h4 h5) (by decide) (by simp [rv_cat, int_cat]) (by first | decide | exact Nat.zero_le _ | omega) (by first | decide | exact Nat.zero_le _ | omega) (fun w_22 hp_22 => ?_) (fun E w_ hx_ => hx_.elim)
      subst w_22
      refine X_goto hO dX8_meet_25 (tgt := 54) rfl ?_
      exact X_vret hO hF rfl dX8_meet_54 ⟨rfl, (by first | (exfalso; omega) | (unfold tr_meet; (repeat (first | rw [if_pos (by omega)] | rw [if_neg (by omega)])); (try rfl); done))⟩
  ·
    refine X_aload_n 6 hO dX8_meet_5 rfl rfl ?_
    refine X_iload_n 7 hO dX8_meet_6 rfl rfl ?_
    refine X_iload_n 8 hO dX8_meet_7 rfl rfl ?_
    refine X_kVv (t := 9) 11 hO hD lX8_40 rfl (by decide) [_, _] rfl dX8_meet_8 rfl (by first | assumption | omega | (simp (disch := first | decide | assumption | omega) only [up_k, up_s, up_a, up_i, flA_k, flA_a, flA_n, cpA_k, cpA_a, newO_o, newA_o, newO_t, newA_t, newA_n] <;> first | assumption | omega)) (kX8_meetInsertion _ _ _ _ _ hx hp h1 h2) (by decide) (by simp [rv_cat, int_cat]) (by first | decide | exact Nat.zero_le _ | omega) (by first | decide | exact Nat.zero_le _ | omega) (fun w_8 hp_8 => ?_) (fun E w_ hx_ => hx_.elim)
    subst w_8
    refine X_goto hO dX8_meet_11 (tgt := 54) rfl ?_
    exact X_vret hO hF rfl dX8_meet_54 ⟨rfl, (by first | (exfalso; omega) | (unfold tr_meet; (repeat (first | rw [if_pos (by omega)] | rw [if_neg (by omega)])); (try rfl); done))⟩
theorem dX8_begin_0 : decode cX8_begin 0 = .ok (.aload_n 0, 1) := by decide +kernel
theorem dX8_begin_1 : decode cX8_begin 1 = .ok (.aload_n 1, 1) := by decide +kernel
theorem dX8_begin_2 : decode cX8_begin 2 = .ok (.putfield 9, 3) := by decide +kernel
theorem dX8_begin_5 : decode cX8_begin 5 = .ok (.aload_n 0, 1) := by decide +kernel
theorem dX8_begin_6 : decode cX8_begin 6 = .ok (.aload_n 1, 1) := by decide +kernel
theorem dX8_begin_7 : decode cX8_begin 7 = .ok (.getfield 15, 3) := by decide +kernel
theorem dX8_begin_10 : decode cX8_begin 10 = .ok (.putfield 21, 3) := by decide +kernel
theorem dX8_begin_13 : decode cX8_begin 13 = .ok (.aload_n 0, 1) := by decide +kernel
theorem dX8_begin_14 : decode cX8_begin 14 = .ok (.aload_n 1, 1) := by decide +kernel
theorem dX8_begin_15 : decode cX8_begin 15 = .ok (.getfield 24, 3) := by decide +kernel
theorem dX8_begin_18 : decode cX8_begin 18 = .ok (.iconst 2, 1) := by decide +kernel
theorem dX8_begin_19 : decode cX8_begin 19 = .ok (.if_icmp .ne 10, 3) := by decide +kernel
theorem dX8_begin_22 : decode cX8_begin 22 = .ok (.aload_n 1, 1) := by decide +kernel
theorem dX8_begin_23 : decode cX8_begin 23 = .ok (.getfield 15, 3) := by decide +kernel
theorem dX8_begin_26 : decode cX8_begin 26 = .ok (.goto 12, 3) := by decide +kernel
theorem dX8_begin_29 : decode cX8_begin 29 = .ok (.aload_n 1, 1) := by decide +kernel
theorem dX8_begin_30 : decode cX8_begin 30 = .ok (.getfield 15, 3) := by decide +kernel
theorem dX8_begin_33 : decode cX8_begin 33 = .ok (.aload_n 1, 1) := by decide +kernel
theorem dX8_begin_34 : decode cX8_begin 34 = .ok (.getfield 27, 3) := by decide +kernel
theorem dX8_begin_37 : decode cX8_begin 37 = .ok (.iadd, 1) := by decide +kernel
theorem dX8_begin_38 : decode cX8_begin 38 = .ok (.putfield 30, 3) := by decide +kernel
theorem dX8_begin_41 : decode cX8_begin 41 = .ok (.aload_n 0, 1) := by decide +kernel
theorem dX8_begin_42 : decode cX8_begin 42 = .ok (.iconst 0, 1) := by decide +kernel
theorem dX8_begin_43 : decode cX8_begin 43 = .ok (.putfield 33, 3) := by decide +kernel
theorem dX8_begin_46 : decode cX8_begin 46 = .ok (.aload_n 0, 1) := by decide +kernel
theorem dX8_begin_47 : decode cX8_begin 47 = .ok (.iconst 0, 1) := by decide +kernel
theorem dX8_begin_48 : decode cX8_begin 48 = .ok (.putfield 37, 3) := by decide +kernel
theorem dX8_begin_51 : decode cX8_begin 51 = .ok (.return_, 1) := by decide +kernel
set_option maxRecDepth 4000 in
theorem kX8_begin (γ : LC) (w : Mm) (x t : Int) (hx : w 0 x 0 = 9) (ht : w 0 t 0 = 7) (h1 : IR (w 69 t 0 + w 70 t 0)) : KV γ 1 mX8_begin [rv x, rv t] w (0) (0) (fun w' => w' = tr_begin x t w) NX := by
  refine MX_of rfl rfl (by simp [rv_cat, int_cat]) rfl ?_
  rintro κ hO hF rfl
  have hD := hF.dp
  show X κ (0) (0) w 0 [some (rv x), some (rv t)] []
  refine X_aload_n 1 hO dX8_begin_0 rfl rfl ?_
  refine X_aload_n 2 hO dX8_begin_1 rfl rfl ?_
  refine pX8_9 5 hO dX8_begin_2 rfl (by first | assumption | omega | (simp (disch := first | decide | assumption | omega) only [up_k, up_s, up_a, up_i, flA_k, flA_a, flA_n, cpA_k, cpA_a, newO_o, newA_o, newO_t, newA_t, newA_n] <;> first | assumption | omega)) ?_
  refine X_aload_n 6 hO dX8_begin_5 rfl rfl ?_
  refine X_aload_n 7 hO dX8_begin_6 rfl rfl ?_
  refine gX8_15 10 hO dX8_begin_7 rfl (by first | assumption | omega | (simp (disch := first | decide | assumption | omega) only [up_k, up_s, up_a, up_i, flA_k, flA_a, flA_n, cpA_k, cpA_a, newO_o, newA_o, newO_t, newA_t, newA_n] <;> first | assumption | omega)) (fun hi_7 => ?_)
  try simp (disch := first | decide | assumption | omega) only [up_k, up_s, up_a, up_i, flA_k, flA_a, flA_n, cpA_k, cpA_a, newO_o, newA_o, newO_t, newA_t, newA_n] at hi_7 ⊢
  refine pX8_21 13 hO dX8_begin_10 rfl (by first | assumption | omega | (simp (disch := first | decide | assumption | omega) only [up_k, up_s, up_a, up_i, flA_k, flA_a, flA_n, cpA_k, cpA_a, newO_o, newA_o, newO_t, newA_t, newA_n] <;> first | assumption | omega)) (by omega) ?_
  have JP38 : ∀ (z : Int), (z = if w 68 t 0 = 2 then w 69 t 0 else w 69 t 0 + w 70 t 0) → (IR z) → X κ (0) (0) (up (up w 36 x 0 t) 73 x 0 (w 69 t 0)) 38 [some (rv x), some (rv t)] [.int (I z), rv x] := by
    intro z hz hzi
    refine pX8_30 41 hO dX8_begin_38 rfl (by first | assumption | omega | (simp (disch := first | decide | assumption | omega) only [up_k, up_s, up_a, up_i, flA_k, flA_a, flA_n, cpA_k, cpA_a, newO_o, newA_o, newO_t, newA_t, newA_n] <;> first | assumption | omega)) (by omega) ?_
    refine X_aload_n 42 hO dX8_begin_41 rfl rfl ?_
    refine X_iconst 43 hO dX8_begin_42 rfl ?_
    refine pX8_33 46 hO dX8_begin_43 rfl (by first | assumption | omega | (simp (disch := first | decide | assumption | omega) only [up_k, up_s, up_a, up_i, flA_k, flA_a, flA_n, cpA_k, cpA_a, newO_o, newA_o, newO_t, newA_t, newA_n] <;> first | assumption | omega)) (by omega) ?_
    refine X_aload_n 47 hO dX8_begin_46 rfl rfl ?_
    refine X_iconst 48 hO dX8_begin_47 rfl ?_
    refine pX8_37 51 hO dX8_begin_48 rfl (by first | assumption | omega | (simp (disch := first | decide | assumption | omega) only [up_k, up_s, up_a, up_i, flA_k, flA_a, flA_n, cpA_k, cpA_a, newO_o, newA_o, newO_t, newA_t, newA_n] <;> first | assumption | omega)) (by omega) ?_
    exact X_vret hO hF rfl dX8_begin_51 ⟨rfl, (by subst hz; rfl)⟩
  refine X_aload_n 14 hO dX8_begin_13 rfl rfl ?_
  refine X_aload_n 15 hO dX8_begin_14 rfl rfl ?_
  refine gX8_24 18 hO dX8_begin_15 rfl (by first | assumption | omega | (simp (disch := first | decide | assumption | omega) only [up_k, up_s, up_a, up_i, flA_k, flA_a, flA_n, cpA_k, cpA_a, newO_o, newA_o, newO_t, newA_t, newA_n] <;> first | assumption | omega)) (fun hi_15 => ?_)
  try simp (disch := first | decide | assumption | omega) only [up_k, up_s, up_a, up_i, flA_k, flA_a, flA_n, cpA_k, cpA_a, newO_o, newA_o, newO_t, newA_t, newA_n] at hi_15 ⊢
  refine X_iconst 19 hO dX8_begin_18 rfl ?_
  refine X_icmp_ne 22 29 hO dX8_begin_19 rfl rfl (by omega) (by omega) (fun hc_19 => ?_) (fun hc_19 => ?_)
  ·
    refine X_aload_n 30 hO dX8_begin_29 rfl rfl ?_
    refine gX8_15 33 hO dX8_begin_30 rfl (by first | assumption | omega | (simp (disch := first | decide | assumption | omega) only [up_k, up_s, up_a, up_i, flA_k, flA_a, flA_n, cpA_k, cpA_a, newO_o, newA_o, newO_t, newA_t, newA_n] <;> first | assumption | omega)) (fun hi_30 => ?_)
    try simp (disch := first | decide | assumption | omega) only [up_k, up_s, up_a, up_i, flA_k, flA_a, flA_n, cpA_k, cpA_a, newO_o, newA_o, newO_t, newA_t, newA_n] at hi_30 ⊢
    refine X_aload_n 34 hO dX8_begin_33 rfl rfl ?_
    refine gX8_27 37 hO dX8_begin_34 rfl (by first | assumption | omega | (simp (disch := first | decide | assumption | omega) only [up_k, up_s, up_a, up_i, flA_k, flA_a, flA_n, cpA_k, cpA_a, newO_o, newA_o, newO_t, newA_t, newA_n] <;> first | assumption | omega)) (fun hi_34 => ?_)
    try simp (disch := first | decide | assumption | omega) only [up_k, up_s, up_a, up_i, flA_k, flA_a, flA_n, cpA_k, cpA_a, newO_o, newA_o, newO_t, newA_t, newA_n] at hi_34 ⊢
    refine X_iadd 38 hO dX8_begin_37 rfl ?_
    exact JP38 _ (by first | rw [if_pos (by omega)] | rw [if_neg (by omega)]) (by omega)
  ·
    refine X_aload_n 23 hO dX8_begin_22 rfl rfl ?_
    refine gX8_15 26 hO dX8_begin_23 rfl (by first | assumption | omega | (simp (disch := first | decide | assumption | omega) only [up_k, up_s, up_a, up_i, flA_k, flA_a, flA_n, cpA_k, cpA_a, newO_o, newA_o, newO_t, newA_t, newA_n] <;> first | assumption | omega)) (fun hi_23 => ?_)
    try simp (disch := first | decide | assumption | omega) only [up_k, up_s, up_a, up_i, flA_k, flA_a, flA_n, cpA_k, cpA_a, newO_o, newA_o, newO_t, newA_t, newA_n] at hi_23 ⊢
    refine X_goto hO dX8_begin_26 (tgt := 38) rfl ?_
    exact JP38 _ (by first | rw [if_pos (by omega)] | rw [if_neg (by omega)]) (by omega)
theorem dX2_activate_0 : decode cX2_activate 0 = .ok (.aload_n 0, 1) := by decide +kernel
theorem dX2_activate_1 : decode cX2_activate 1 = .ok (.getfield 9, 3) := by decide +kernel
theorem dX2_activate_4 : decode cX2_activate 4 = .ok (.iload_n 1, 1) := by decide +kernel
theorem dX2_activate_5 : decode cX2_activate 5 = .ok (.iconst 1, 1) := by decide +kernel
theorem dX2_activate_6 : decode cX2_activate 6 = .ok (.bastore, 1) := by decide +kernel
theorem dX2_activate_7 : decode cX2_activate 7 = .ok (.aload_n 0, 1) := by decide +kernel
theorem dX2_activate_8 : decode cX2_activate 8 = .ok (.getfield 15, 3) := by decide +kernel
theorem dX2_activate_11 : decode cX2_activate 11 = .ok (.iload_n 1, 1) := by decide +kernel
theorem dX2_activate_12 : decode cX2_activate 12 = .ok (.iload_n 2, 1) := by decide +kernel
theorem dX2_activate_13 : decode cX2_activate 13 = .ok (.iastore, 1) := by decide +kernel
theorem dX2_activate_14 : decode cX2_activate 14 = .ok (.aload_n 0, 1) := by decide +kernel
theorem dX2_activate_15 : decode cX2_activate 15 = .ok (.getfield 19, 3) := by decide +kernel
theorem dX2_activate_18 : decode cX2_activate 18 = .ok (.iload_n 1, 1) := by decide +kernel
theorem dX2_activate_19 : decode cX2_activate 19 = .ok (.iload_n 3, 1) := by decide +kernel
theorem dX2_activate_20 : decode cX2_activate 20 = .ok (.iastore, 1) := by decide +kernel
theorem dX2_activate_21 : decode cX2_activate 21 = .ok (.aload_n 0, 1) := by decide +kernel
theorem dX2_activate_22 : decode cX2_activate 22 = .ok (.getfield 22, 3) := by decide +kernel
theorem dX2_activate_25 : decode cX2_activate 25 = .ok (.iload_n 1, 1) := by decide +kernel
theorem dX2_activate_26 : decode cX2_activate 26 = .ok (.iload 4, 2) := by decide +kernel
theorem dX2_activate_28 : decode cX2_activate 28 = .ok (.iastore, 1) := by decide +kernel
theorem dX2_activate_29 : decode cX2_activate 29 = .ok (.return_, 1) := by decide +kernel
set_option maxRecDepth 4000 in
theorem kX2_activate (γ : LC) (w : Mm) (L q a b c : Int) (hL : LT w L) (hq : 0 ≤ q ∧ q < 3) (ha : IR a) (hb : IR b) (hc : IR c) : KV γ 1 mX2_activate [rv L, .int (I q), .int (I a), .int (I b), .int (I c)] w (0) (0) (fun w' => w' = up (up (up (up w 1 (w 15 L 0) q 1) 1 (w 16 L 0) q a) 1 (w 17 L 0) q b) 1 (w 18 L 0) q c) NX := by
  refine MX_of rfl rfl (by simp [rv_cat, int_cat]) rfl ?_
  rintro κ hO hF rfl
  have hD := hF.dp
  show X κ (0) (0) w 0 [some (rv L), some (.int (I q)), some (.int (I a)), some (.int (I b)), some (.int (I c))] []
  obtain ⟨t0, ⟨t1, t2, t3, t4, t5, t6⟩, ⟨u1, u2, u3, u4, u5, u6⟩⟩ := id hL
  refine X_aload_n 1 hO dX2_activate_0 rfl rfl ?_
  refine gX2_9 4 hO dX2_activate_1 rfl (by first | assumption | omega | (simp (disch := first | decide | assumption | omega) only [up_k, up_s, up_a, up_i, flA_k, flA_a, flA_n, cpA_k, cpA_a, newO_o, newA_o, newO_t, newA_t, newA_n] <;> first | assumption | omega)) ?_
  try simp (disch := first | decide | assumption | omega) only [up_k, up_s, up_a, up_i, flA_k, flA_a, flA_n, cpA_k, cpA_a, newO_o, newA_o, newO_t, newA_t, newA_n]
  refine X_iload_n 5 hO dX2_activate_4 rfl rfl ?_
  refine X_iconst 6 hO dX2_activate_5 rfl ?_
  refine X_zast 7 hO dX2_activate_6 rfl (by first | assumption | omega | (simp (disch := first | decide | assumption | omega) only [up_k, up_s, up_a, up_i, flA_k, flA_a, flA_n, cpA_k, cpA_a, newO_o, newA_o, newO_t, newA_t, newA_n] <;> first | assumption | omega)) (by first | assumption | omega | (simp (disch := first | decide | assumption | omega) only [up_k, up_s, up_a, up_i, flA_k, flA_a, flA_n, cpA_k, cpA_a, newO_o, newA_o, newO_t, newA_t, newA_n] <;> first | assumption | omega)) (Or.inr rfl) ?_
  refine X_aload_n 8 hO dX2_activate_7 rfl rfl ?_
  refine gX2_15 11 hO dX2_activate_8 rfl (by first | assumption | omega | (simp (disch := first | decide | assumption | omega) only [up_k, up_s, up_a, up_i, flA_k, flA_a, flA_n, cpA_k, cpA_a, newO_o, newA_o, newO_t, newA_t, newA_n] <;> first | assumption | omega)) ?_
  try simp (disch := first | decide | assumption | omega) only [up_k, up_s, up_a, up_i, flA_k, flA_a, flA_n, cpA_k, cpA_a, newO_o, newA_o, newO_t, newA_t, newA_n]
  refine X_iload_n 12 hO dX2_activate_11 rfl rfl ?_
  refine X_iload_n 13 hO dX2_activate_12 rfl rfl ?_
  refine X_iast 14 hO dX2_activate_13 rfl (by first | assumption | omega | (simp (disch := first | decide | assumption | omega) only [up_k, up_s, up_a, up_i, flA_k, flA_a, flA_n, cpA_k, cpA_a, newO_o, newA_o, newO_t, newA_t, newA_n] <;> first | assumption | omega)) (by first | assumption | omega | (simp (disch := first | decide | assumption | omega) only [up_k, up_s, up_a, up_i, flA_k, flA_a, flA_n, cpA_k, cpA_a, newO_o, newA_o, newO_t, newA_t, newA_n] <;> first | assumption | omega)) (by omega) ?_
  refine X_aload_n 15 hO dX2_activate_14 rfl rfl ?_
  refine gX2_19 18 hO dX2_activate_15 rfl (by first | assumption | omega | (simp (disch := first | decide | assumption | omega) only [up_k, up_s, up_a, up_i, flA_k, flA_a, flA_n, cpA_k, cpA_a, newO_o, newA_o, newO_t, newA_t, newA_n] <;> first | assumption | omega)) ?_
  try simp (disch := first | decide | assumption | omega) only [up_k, up_s, up_a, up_i, flA_k, flA_a, flA_n, cpA_k, cpA_a, newO_o, newA_o, newO_t, newA_t, newA_n]
  refine X_iload_n 19 hO dX2_activate_18 rfl rfl ?_
  refine X_iload_n 20 hO dX2_activate_19 rfl rfl ?_
  refine X_iast 21 hO dX2_activate_20 rfl (by first | assumption | omega | (simp (disch := first | decide | assumption | omega) only [up_k, up_s, up_a, up_i, flA_k, flA_a, flA_n, cpA_k, cpA_a, newO_o, newA_o, newO_t, newA_t, newA_n] <;> first | assumption | omega)) (by first | assumption | omega | (simp (disch := first | decide | assumption | omega) only [up_k, up_s, up_a, up_i, flA_k, flA_a, flA_n, cpA_k, cpA_a, newO_o, newA_o, newO_t, newA_t, newA_n] <;> first | assumption | omega)) (by omega) ?_
  refine X_aload_n 22 hO dX2_activate_21 rfl rfl ?_
  refine gX2_22 25 hO dX2_activate_22 rfl (by first | assumption | omega | (simp (disch := first | decide | assumption | omega) only [up_k, up_s, up_a, up_i, flA_k, flA_a, flA_n, cpA_k, cpA_a, newO_o, newA_o, newO_t, newA_t, newA_n] <;> first | assumption | omega)) ?_
  try simp (disch := first | decide | assumption | omega) only [up_k, up_s, up_a, up_i, flA_k, flA_a, flA_n, cpA_k, cpA_a, newO_o, newA_o, newO_t, newA_t, newA_n]
  refine X_iload_n 26 hO dX2_activate_25 rfl rfl ?_
  refine X_iload 28 hO dX2_activate_26 rfl rfl ?_
  refine X_iast 29 hO dX2_activate_28 rfl (by first | assumption | omega | (simp (disch := first | decide | assumption | omega) only [up_k, up_s, up_a, up_i, flA_k, flA_a, flA_n, cpA_k, cpA_a, newO_o, newA_o, newO_t, newA_t, newA_n] <;> first | assumption | omega)) (by first | assumption | omega | (simp (disch := first | decide | assumption | omega) only [up_k, up_s, up_a, up_i, flA_k, flA_a, flA_n, cpA_k, cpA_a, newO_o, newA_o, newO_t, newA_t, newA_n] <;> first | assumption | omega)) (by omega) ?_
  exact X_vret hO hF rfl dX2_activate_29 ⟨rfl, rfl⟩
