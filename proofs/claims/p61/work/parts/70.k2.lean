/-! steps and their chains -/
def q_app (s q : Int) (w : Mm) : Mm :=
  let W1 := if w 35 s 0 = 0 then up w 34 s 0 q else up w 33 (w 35 s 0) 0 q
  let W2 := up (up W1 35 s 0 q) 71 s 0 (w 71 s 0 + 1)
  if w 68 q 0 ≤ 3 then up W2 72 s 0 (w 72 s 0 + 1) else W2
def q_join (s o : Int) (w : Mm) : Mm :=
  if w 34 o 0 = 0 then w else
  let W1 := if w 35 s 0 = 0 then up w 34 s 0 (w 34 o 0) else up w 33 (w 35 s 0) 0 (w 34 o 0)
  up (up (up W1 35 s 0 (w 35 o 0)) 71 s 0 (w 71 s 0 + w 71 o 0)) 72 s 0 (w 72 s 0 + w 72 o 0)
def q_drop (s : Int) (w : Mm) : Mm :=
  if w 34 s 0 = 0 then w else
  let W1 := up w 34 s 0 (w 33 (w 34 s 0) 0)
  let W2 := if w 33 (w 34 s 0) 0 = 0 then up W1 35 s 0 0 else W1
  up (up W2 71 s 0 (w 71 s 0 - 1)) 72 s 0 (w 72 s 0 - 1)
def q_emp (s : Int) (w : Mm) : Mm := up (up (up (up w 34 s 0 0) 35 s 0 0) 71 s 0 0) 72 s 0 0
def q_ext (s o : Int) (w : Mm) : Mm :=
  let W1 := up (up (up (up w 34 s 0 (w 34 o 0)) 35 s 0 (w 35 o 0)) 71 s 0 (w 71 o 0)) 72 s 0 (w 72 o 0)
  if w 35 o 0 = 0 then W1 else up W1 33 (w 35 o 0) 0 0
theorem dX0_init_0 : decode cX0_init 0 = .ok (.aload_n 0, 1) := by decide +kernel
theorem dX0_init_1 : decode cX0_init 1 = .ok (.invokespecial 1, 3) := by decide +kernel
theorem dX0_init_4 : decode cX0_init 4 = .ok (.aload_n 0, 1) := by decide +kernel
theorem dX0_init_5 : decode cX0_init 5 = .ok (.aload_n 1, 1) := by decide +kernel
theorem dX0_init_6 : decode cX0_init 6 = .ok (.putfield 7, 3) := by decide +kernel
theorem dX0_init_9 : decode cX0_init 9 = .ok (.return_, 1) := by decide +kernel
set_option maxRecDepth 4000 in
theorem kX0_init (γ : LC) (w : Mm) (q a : Int) (hq : 0 < q) (ht : w 0 q 0 = 1) : KV γ 1 mX0_init [rv q, rv a] w (0) (0) (fun w' => w' = up w 10 q 0 a) NX := by
  refine MX_of rfl rfl (by simp [rv_cat, int_cat]) rfl ?_
  rintro κ hO hF rfl
  have hD := hF.dp
  show X κ (0) (0) w 0 [some (rv q), some (rv a)] []
  refine X_aload_n 1 hO dX0_init_0 rfl rfl ?_
  refine X_objInit 4 hO w_786 dX0_init_1 rfl hD (by decide) (by assumption) (by simp [rv_cat, int_cat]) ?_
  refine X_aload_n 5 hO dX0_init_4 rfl rfl ?_
  refine X_aload_n 6 hO dX0_init_5 rfl rfl ?_
  refine pX0_7 9 hO hF.2.2.2.2 dX0_init_6 rfl (by first | assumption | omega | (simp (disch := first | decide | assumption | omega) only [up_k, up_s, up_a, up_i, flA_k, flA_a, newO_o, newA_o]; first | assumption | omega)) ?_
  exact X_vret hO hF rfl dX0_init_9 ⟨rfl, rfl⟩
theorem dX6_init_0 : decode cX6_init 0 = .ok (.aload_n 0, 1) := by decide +kernel
theorem dX6_init_1 : decode cX6_init 1 = .ok (.invokespecial 1, 3) := by decide +kernel
theorem dX6_init_4 : decode cX6_init 4 = .ok (.aload_n 0, 1) := by decide +kernel
theorem dX6_init_5 : decode cX6_init 5 = .ok (.iload_n 1, 1) := by decide +kernel
theorem dX6_init_6 : decode cX6_init 6 = .ok (.putfield 7, 3) := by decide +kernel
theorem dX6_init_9 : decode cX6_init 9 = .ok (.aload_n 0, 1) := by decide +kernel
theorem dX6_init_10 : decode cX6_init 10 = .ok (.iload_n 2, 1) := by decide +kernel
theorem dX6_init_11 : decode cX6_init 11 = .ok (.putfield 13, 3) := by decide +kernel
theorem dX6_init_14 : decode cX6_init 14 = .ok (.aload_n 0, 1) := by decide +kernel
theorem dX6_init_15 : decode cX6_init 15 = .ok (.iload_n 3, 1) := by decide +kernel
theorem dX6_init_16 : decode cX6_init 16 = .ok (.putfield 16, 3) := by decide +kernel
theorem dX6_init_19 : decode cX6_init 19 = .ok (.aload_n 0, 1) := by decide +kernel
theorem dX6_init_20 : decode cX6_init 20 = .ok (.aload 4, 2) := by decide +kernel
theorem dX6_init_22 : decode cX6_init 22 = .ok (.putfield 19, 3) := by decide +kernel
theorem dX6_init_25 : decode cX6_init 25 = .ok (.return_, 1) := by decide +kernel
set_option maxRecDepth 4000 in
theorem kX6_init (γ : LC) (w : Mm) (q k p n c : Int) (hq : 0 < q) (ht : w 0 q 0 = 7) (hk : IR k) (hp : IR p) (hn : IR n) : KV γ 2 mX6_init [rv q, .int (I k), .int (I p), .int (I n), rv c] w (0) (0) (fun w' => w' = up (up (up (up w 68 q 0 k) 69 q 0 p) 70 q 0 n) 32 q 0 c) NX := by
  refine MX_of rfl rfl (by simp [rv_cat, int_cat]) rfl ?_
  rintro κ hO hF rfl
  have hD := hF.dp
  show X κ (0) (0) w 0 [some (rv q), some (.int (I k)), some (.int (I p)), some (.int (I n)), some (rv c)] []
  refine X_aload_n 1 hO dX6_init_0 rfl rfl ?_
  refine X_objInit 4 hO w_815 dX6_init_1 rfl hD (by decide) (by assumption) (by simp [rv_cat, int_cat]) ?_
  refine X_aload_n 5 hO dX6_init_4 rfl rfl ?_
  refine X_iload_n 6 hO dX6_init_5 rfl rfl ?_
  refine pX6_7 9 hO hF.2.2.2.2 dX6_init_6 rfl (by first | assumption | omega | (simp (disch := first | decide | assumption | omega) only [up_k, up_s, up_a, up_i, flA_k, flA_a, newO_o, newA_o]; first | assumption | omega)) (by omega) ?_
  refine X_aload_n 10 hO dX6_init_9 rfl rfl ?_
  refine X_iload_n 11 hO dX6_init_10 rfl rfl ?_
  refine pX6_13 14 hO hF.2.2.2.2 dX6_init_11 rfl (by first | assumption | omega | (simp (disch := first | decide | assumption | omega) only [up_k, up_s, up_a, up_i, flA_k, flA_a, newO_o, newA_o]; first | assumption | omega)) (by omega) ?_
  refine X_aload_n 15 hO dX6_init_14 rfl rfl ?_
  refine X_iload_n 16 hO dX6_init_15 rfl rfl ?_
  refine pX6_16 19 hO dX6_init_16 rfl (by first | assumption | omega | (simp (disch := first | decide | assumption | omega) only [up_k, up_s, up_a, up_i, flA_k, flA_a, newO_o, newA_o]; first | assumption | omega)) (by omega) ?_
  refine X_aload_n 20 hO dX6_init_19 rfl rfl ?_
  refine X_aload 22 hO dX6_init_20 rfl rfl ?_
  refine pX6_19 25 hO hF.2.2.2.2 dX6_init_22 rfl (by first | assumption | omega | (simp (disch := first | decide | assumption | omega) only [up_k, up_s, up_a, up_i, flA_k, flA_a, newO_o, newA_o]; first | assumption | omega)) ?_
  exact X_vret hO hF rfl dX6_init_25 ⟨rfl, rfl⟩
theorem dX7_init_0 : decode cX7_init 0 = .ok (.aload_n 0, 1) := by decide +kernel
theorem dX7_init_1 : decode cX7_init 1 = .ok (.invokespecial 3, 3) := by decide +kernel
theorem dX7_init_4 : decode cX7_init 4 = .ok (.return_, 1) := by decide +kernel
set_option maxRecDepth 4000 in
theorem kX7_init (γ : LC) (w : Mm) (q : Int) (hq : 0 < q) : KV γ 1 mX7_init [rv q] w (0) (0) (fun w' => w' = w) NX := by
  refine MX_of rfl rfl (by simp [rv_cat, int_cat]) rfl ?_
  rintro κ hO hF rfl
  have hD := hF.dp
  show X κ (0) (0) w 0 [some (rv q)] []
  refine X_aload_n 1 hO dX7_init_0 rfl rfl ?_
  refine X_objInit 4 hO w_208 dX7_init_1 rfl hD (by decide) (by assumption) (by simp [rv_cat, int_cat]) ?_
  exact X_vret hO hF rfl dX7_init_4 ⟨rfl, rfl⟩
theorem dX7_append_0 : decode cX7_append 0 = .ok (.aload_n 0, 1) := by decide +kernel
theorem dX7_append_1 : decode cX7_append 1 = .ok (.getfield 9, 3) := by decide +kernel
theorem dX7_append_4 : decode cX7_append 4 = .ok (.ifnonnull 11, 3) := by decide +kernel
theorem dX7_append_7 : decode cX7_append 7 = .ok (.aload_n 0, 1) := by decide +kernel
theorem dX7_append_8 : decode cX7_append 8 = .ok (.aload_n 1, 1) := by decide +kernel
theorem dX7_append_9 : decode cX7_append 9 = .ok (.putfield 15, 3) := by decide +kernel
theorem dX7_append_12 : decode cX7_append 12 = .ok (.goto 11, 3) := by decide +kernel
theorem dX7_append_15 : decode cX7_append 15 = .ok (.aload_n 0, 1) := by decide +kernel
theorem dX7_append_16 : decode cX7_append 16 = .ok (.getfield 9, 3) := by decide +kernel
theorem dX7_append_19 : decode cX7_append 19 = .ok (.aload_n 1, 1) := by decide +kernel
theorem dX7_append_20 : decode cX7_append 20 = .ok (.putfield 18, 3) := by decide +kernel
theorem dX7_append_23 : decode cX7_append 23 = .ok (.aload_n 0, 1) := by decide +kernel
theorem dX7_append_24 : decode cX7_append 24 = .ok (.aload_n 1, 1) := by decide +kernel
theorem dX7_append_25 : decode cX7_append 25 = .ok (.putfield 9, 3) := by decide +kernel
theorem dX7_append_28 : decode cX7_append 28 = .ok (.aload_n 0, 1) := by decide +kernel
theorem dX7_append_29 : decode cX7_append 29 = .ok (.dup, 1) := by decide +kernel
theorem dX7_append_30 : decode cX7_append 30 = .ok (.getfield 23, 3) := by decide +kernel
theorem dX7_append_33 : decode cX7_append 33 = .ok (.iconst 1, 1) := by decide +kernel
theorem dX7_append_34 : decode cX7_append 34 = .ok (.iadd, 1) := by decide +kernel
theorem dX7_append_35 : decode cX7_append 35 = .ok (.putfield 23, 3) := by decide +kernel
theorem dX7_append_38 : decode cX7_append 38 = .ok (.aload_n 1, 1) := by decide +kernel
theorem dX7_append_39 : decode cX7_append 39 = .ok (.getfield 27, 3) := by decide +kernel
theorem dX7_append_42 : decode cX7_append 42 = .ok (.iconst 3, 1) := by decide +kernel
theorem dX7_append_43 : decode cX7_append 43 = .ok (.if_icmp .gt 13, 3) := by decide +kernel
theorem dX7_append_46 : decode cX7_append 46 = .ok (.aload_n 0, 1) := by decide +kernel
theorem dX7_append_47 : decode cX7_append 47 = .ok (.dup, 1) := by decide +kernel
theorem dX7_append_48 : decode cX7_append 48 = .ok (.getfield 30, 3) := by decide +kernel
theorem dX7_append_51 : decode cX7_append 51 = .ok (.iconst 1, 1) := by decide +kernel
theorem dX7_append_52 : decode cX7_append 52 = .ok (.iadd, 1) := by decide +kernel
theorem dX7_append_53 : decode cX7_append 53 = .ok (.putfield 30, 3) := by decide +kernel
theorem dX7_append_56 : decode cX7_append 56 = .ok (.return_, 1) := by decide +kernel
set_option maxRecDepth 4000 in
theorem kX7_append (γ : LC) (w : Mm) (s q : Int) (hs : w 0 s 0 = 8) (hq : w 0 q 0 = 7) (hl : w 35 s 0 = 0 ∨ w 0 (w 35 s 0) 0 = 7) (hc : 0 ≤ w 71 s 0 ∧ w 71 s 0 ≤ 100000) (hc2 : 0 ≤ w 72 s 0 ∧ w 72 s 0 ≤ 100000) : KV γ 1 mX7_append [rv s, rv q] w (0) (0) (fun w' => w' = q_app s q w) NX := by
  refine MX_of rfl rfl (by simp [rv_cat, int_cat]) rfl ?_
  rintro κ hO hF rfl
  have hD := hF.dp
  show X κ (0) (0) w 0 [some (rv s), some (rv q)] []
  have JP23 : ∀ (W1 : Mm), (W1 = if w 35 s 0 = 0 then up w 34 s 0 q else up w 33 (w 35 s 0) 0 q) → X κ (0) (0) (W1) 23 [some (rv s), some (rv q)] [] := by
    intro W1 hW
    have e0 : ∀ x, W1 0 x 0 = w 0 x 0 := fun x => by rw [hW]; split <;> exact up_k _ (by decide) _ _ _ _ _
    have e71 : W1 71 s 0 = w 71 s 0 := by rw [hW]; split <;> exact up_k _ (by decide) _ _ _ _ _
    have e72 : W1 72 s 0 = w 72 s 0 := by rw [hW]; split <;> exact up_k _ (by decide) _ _ _ _ _
    have e68 : W1 68 q 0 = w 68 q 0 := by rw [hW]; split <;> exact up_k _ (by decide) _ _ _ _ _
    have t1 : W1 0 s 0 = 8 := (e0 s).trans hs
    have t2 : W1 0 q 0 = 7 := (e0 q).trans hq
    refine X_aload_n 24 hO dX7_append_23 rfl rfl ?_
    refine X_aload_n 25 hO dX7_append_24 rfl rfl ?_
    refine pX7_9 28 hO dX7_append_25 rfl (by first | assumption | omega | (simp (disch := first | decide | assumption | omega) only [up_k, up_s, up_a, up_i, flA_k, flA_a, newO_o, newA_o]; first | assumption | omega)) ?_
    refine X_aload_n 29 hO dX7_append_28 rfl rfl ?_
    refine X_dup 30 hO dX7_append_29 rfl (by first | rfl | exact rv_cat _) ?_
    refine gX7_23 33 hO dX7_append_30 rfl (by first | assumption | omega | (simp (disch := first | decide | assumption | omega) only [up_k, up_s, up_a, up_i, flA_k, flA_a, newO_o, newA_o]; first | assumption | omega)) (fun hi_30 => ?_)
    try simp (disch := first | decide | assumption | omega) only [up_k, up_s, up_a, up_i, flA_k, flA_a, newO_o, newA_o] at hi_30 ⊢
    rw [e71]
    refine X_iconst 34 hO dX7_append_33 rfl ?_
    refine X_iadd 35 hO dX7_append_34 rfl ?_
    refine pX7_23 38 hO dX7_append_35 rfl (by first | assumption | omega | (simp (disch := first | decide | assumption | omega) only [up_k, up_s, up_a, up_i, flA_k, flA_a, newO_o, newA_o]; first | assumption | omega)) (by omega) ?_
    refine X_aload_n 39 hO dX7_append_38 rfl rfl ?_
    refine gX7_27 42 hO dX7_append_39 rfl (by first | assumption | omega | (simp (disch := first | decide | assumption | omega) only [up_k, up_s, up_a, up_i, flA_k, flA_a, newO_o, newA_o]; first | assumption | omega)) (fun hi_39 => ?_)
    try simp (disch := first | decide | assumption | omega) only [up_k, up_s, up_a, up_i, flA_k, flA_a, newO_o, newA_o] at hi_39 ⊢
    rw [e68] at hi_39 ⊢
    refine X_iconst 43 hO dX7_append_42 rfl ?_
    refine X_icmp_gt 46 56 hO dX7_append_43 rfl rfl (by omega) (by omega) (fun hc_43 => ?_) (fun hc_43 => ?_)
    ·
      exact X_vret hO hF rfl dX7_append_56 ⟨rfl, by rw [hW]; unfold q_app; dsimp only; first | rw [if_pos (show w 68 q 0 ≤ 3 by omega)] | rw [if_neg (show ¬ w 68 q 0 ≤ 3 by omega)]⟩
    ·
      refine X_aload_n 47 hO dX7_append_46 rfl rfl ?_
      refine X_dup 48 hO dX7_append_47 rfl (by first | rfl | exact rv_cat _) ?_
      refine gX7_30 51 hO dX7_append_48 rfl (by first | assumption | omega | (simp (disch := first | decide | assumption | omega) only [up_k, up_s, up_a, up_i, flA_k, flA_a, newO_o, newA_o]; first | assumption | omega)) (fun hi_48 => ?_)
      try simp (disch := first | decide | assumption | omega) only [up_k, up_s, up_a, up_i, flA_k, flA_a, newO_o, newA_o] at hi_48 ⊢
      rw [e72]
      refine X_iconst 52 hO dX7_append_51 rfl ?_
      refine X_iadd 53 hO dX7_append_52 rfl ?_
      refine pX7_30 56 hO dX7_append_53 rfl (by first | assumption | omega | (simp (disch := first | decide | assumption | omega) only [up_k, up_s, up_a, up_i, flA_k, flA_a, newO_o, newA_o]; first | assumption | omega)) (by omega) ?_
      exact X_vret hO hF rfl dX7_append_56 ⟨rfl, by rw [hW]; unfold q_app; dsimp only; first | rw [if_pos (show w 68 q 0 ≤ 3 by omega)] | rw [if_neg (show ¬ w 68 q 0 ≤ 3 by omega)]⟩
  refine X_aload_n 1 hO dX7_append_0 rfl rfl ?_
  refine gX7_9 4 hO dX7_append_1 rfl (by first | assumption | omega | (simp (disch := first | decide | assumption | omega) only [up_k, up_s, up_a, up_i, flA_k, flA_a, newO_o, newA_o]; first | assumption | omega)) ?_
  try simp (disch := first | decide | assumption | omega) only [up_k, up_s, up_a, up_i, flA_k, flA_a, newO_o, newA_o]
  refine X_ifnonnull 7 15 hO dX7_append_4 rfl rfl (fun hc_4 => ?_) (fun hc_4 => ?_)
  ·
    refine X_aload_n 16 hO dX7_append_15 rfl rfl ?_
    refine gX7_9 19 hO dX7_append_16 rfl (by first | assumption | omega | (simp (disch := first | decide | assumption | omega) only [up_k, up_s, up_a, up_i, flA_k, flA_a, newO_o, newA_o]; first | assumption | omega)) ?_
    try simp (disch := first | decide | assumption | omega) only [up_k, up_s, up_a, up_i, flA_k, flA_a, newO_o, newA_o]
    refine X_aload_n 20 hO dX7_append_19 rfl rfl ?_
    refine pX7_18 23 hO dX7_append_20 rfl (by omega) ?_
    exact JP23 _ (by first | rw [if_pos (by omega)] | rw [if_neg (by omega)])
  ·
    refine X_aload_n 8 hO dX7_append_7 rfl rfl ?_
    refine X_aload_n 9 hO dX7_append_8 rfl rfl ?_
    refine pX7_15 12 hO dX7_append_9 rfl (by first | assumption | omega | (simp (disch := first | decide | assumption | omega) only [up_k, up_s, up_a, up_i, flA_k, flA_a, newO_o, newA_o]; first | assumption | omega)) ?_
    refine X_goto hO dX7_append_12 (tgt := 23) rfl ?_
    exact JP23 _ (by first | rw [if_pos (by omega)] | rw [if_neg (by omega)])
theorem dX7_join_0 : decode cX7_join 0 = .ok (.aload_n 1, 1) := by decide +kernel
theorem dX7_join_1 : decode cX7_join 1 = .ok (.getfield 15, 3) := by decide +kernel
theorem dX7_join_4 : decode cX7_join 4 = .ok (.ifnonnull 4, 3) := by decide +kernel
theorem dX7_join_7 : decode cX7_join 7 = .ok (.return_, 1) := by decide +kernel
theorem dX7_join_8 : decode cX7_join 8 = .ok (.aload_n 0, 1) := by decide +kernel
theorem dX7_join_9 : decode cX7_join 9 = .ok (.getfield 9, 3) := by decide +kernel
theorem dX7_join_12 : decode cX7_join 12 = .ok (.ifnonnull 14, 3) := by decide +kernel
theorem dX7_join_15 : decode cX7_join 15 = .ok (.aload_n 0, 1) := by decide +kernel
theorem dX7_join_16 : decode cX7_join 16 = .ok (.aload_n 1, 1) := by decide +kernel
theorem dX7_join_17 : decode cX7_join 17 = .ok (.getfield 15, 3) := by decide +kernel
theorem dX7_join_20 : decode cX7_join 20 = .ok (.putfield 15, 3) := by decide +kernel
theorem dX7_join_23 : decode cX7_join 23 = .ok (.goto 14, 3) := by decide +kernel
theorem dX7_join_26 : decode cX7_join 26 = .ok (.aload_n 0, 1) := by decide +kernel
theorem dX7_join_27 : decode cX7_join 27 = .ok (.getfield 9, 3) := by decide +kernel
theorem dX7_join_30 : decode cX7_join 30 = .ok (.aload_n 1, 1) := by decide +kernel
theorem dX7_join_31 : decode cX7_join 31 = .ok (.getfield 15, 3) := by decide +kernel
theorem dX7_join_34 : decode cX7_join 34 = .ok (.putfield 18, 3) := by decide +kernel
theorem dX7_join_37 : decode cX7_join 37 = .ok (.aload_n 0, 1) := by decide +kernel
theorem dX7_join_38 : decode cX7_join 38 = .ok (.aload_n 1, 1) := by decide +kernel
theorem dX7_join_39 : decode cX7_join 39 = .ok (.getfield 9, 3) := by decide +kernel
theorem dX7_join_42 : decode cX7_join 42 = .ok (.putfield 9, 3) := by decide +kernel
theorem dX7_join_45 : decode cX7_join 45 = .ok (.aload_n 0, 1) := by decide +kernel
theorem dX7_join_46 : decode cX7_join 46 = .ok (.dup, 1) := by decide +kernel
theorem dX7_join_47 : decode cX7_join 47 = .ok (.getfield 23, 3) := by decide +kernel
theorem dX7_join_50 : decode cX7_join 50 = .ok (.aload_n 1, 1) := by decide +kernel
theorem dX7_join_51 : decode cX7_join 51 = .ok (.getfield 23, 3) := by decide +kernel
theorem dX7_join_54 : decode cX7_join 54 = .ok (.iadd, 1) := by decide +kernel
theorem dX7_join_55 : decode cX7_join 55 = .ok (.putfield 23, 3) := by decide +kernel
theorem dX7_join_58 : decode cX7_join 58 = .ok (.aload_n 0, 1) := by decide +kernel
theorem dX7_join_59 : decode cX7_join 59 = .ok (.dup, 1) := by decide +kernel
theorem dX7_join_60 : decode cX7_join 60 = .ok (.getfield 30, 3) := by decide +kernel
theorem dX7_join_63 : decode cX7_join 63 = .ok (.aload_n 1, 1) := by decide +kernel
theorem dX7_join_64 : decode cX7_join 64 = .ok (.getfield 30, 3) := by decide +kernel
theorem dX7_join_67 : decode cX7_join 67 = .ok (.iadd, 1) := by decide +kernel
theorem dX7_join_68 : decode cX7_join 68 = .ok (.putfield 30, 3) := by decide +kernel
theorem dX7_join_71 : decode cX7_join 71 = .ok (.return_, 1) := by decide +kernel
set_option maxRecDepth 4000 in
theorem kX7_join (γ : LC) (w : Mm) (s o : Int) (hs : w 0 s 0 = 8) (ho : w 0 o 0 = 8) (hso : s ≠ o) (hl : w 35 s 0 = 0 ∨ w 0 (w 35 s 0) 0 = 7) (hc : 0 ≤ w 71 s 0 ∧ w 71 s 0 ≤ 100000) (hc2 : 0 ≤ w 72 s 0 ∧ w 72 s 0 ≤ 100000) (hd : 0 ≤ w 71 o 0 ∧ w 71 o 0 ≤ 100000) (hd2 : 0 ≤ w 72 o 0 ∧ w 72 o 0 ≤ 100000) : KV γ 1 mX7_join [rv s, rv o] w (0) (0) (fun w' => w' = q_join s o w) NX := by
  refine MX_of rfl rfl (by simp [rv_cat, int_cat]) rfl ?_
  rintro κ hO hF rfl
  have hD := hF.dp
  show X κ (0) (0) w 0 [some (rv s), some (rv o)] []
  refine X_aload_n 1 hO dX7_join_0 rfl rfl ?_
  refine gX7_15 4 hO dX7_join_1 rfl (by first | assumption | omega | (simp (disch := first | decide | assumption | omega) only [up_k, up_s, up_a, up_i, flA_k, flA_a, newO_o, newA_o]; first | assumption | omega)) ?_
  try simp (disch := first | decide | assumption | omega) only [up_k, up_s, up_a, up_i, flA_k, flA_a, newO_o, newA_o]
  refine X_ifnonnull 7 8 hO dX7_join_4 rfl rfl (fun hc_4 => ?_) (fun hc_4 => ?_)
  ·
    have JP37 : ∀ (W1 : Mm), (W1 = if w 35 s 0 = 0 then up w 34 s 0 (w 34 o 0) else up w 33 (w 35 s 0) 0 (w 34 o 0)) → X κ (0) (0) (W1) 37 [some (rv s), some (rv o)] [] := by
      intro W1 hW
      have hos : o ≠ s := fun h => hso h.symm
      have e0 : ∀ x, W1 0 x 0 = w 0 x 0 := fun x => by rw [hW]; split <;> exact up_k _ (by decide) _ _ _ _ _
      have e1 : ∀ c x, c = 71 ∨ c = 72 ∨ c = 35 → W1 c x 0 = w c x 0 := fun c x h => by rw [hW]; split <;> exact up_k _ (by omega) _ _ _ _ _
      have t1 : W1 0 s 0 = 8 := (e0 s).trans hs
      have t2 : W1 0 o 0 = 8 := (e0 o).trans ho
      refine X_aload_n 38 hO dX7_join_37 rfl rfl ?_
      refine X_aload_n 39 hO dX7_join_38 rfl rfl ?_
      refine gX7_9 42 hO dX7_join_39 rfl (by first | assumption | omega | (simp (disch := first | decide | assumption | omega) only [up_k, up_s, up_a, up_i, flA_k, flA_a, newO_o, newA_o]; first | assumption | omega)) ?_
      try simp (disch := first | decide | assumption | omega) only [up_k, up_s, up_a, up_i, flA_k, flA_a, newO_o, newA_o]
      rw [e1 35 _ (by decide)]
      refine pX7_9 45 hO dX7_join_42 rfl (by first | assumption | omega | (simp (disch := first | decide | assumption | omega) only [up_k, up_s, up_a, up_i, flA_k, flA_a, newO_o, newA_o]; first | assumption | omega)) ?_
      refine X_aload_n 46 hO dX7_join_45 rfl rfl ?_
      refine X_dup 47 hO dX7_join_46 rfl (by first | rfl | exact rv_cat _) ?_
      refine gX7_23 50 hO dX7_join_47 rfl (by first | assumption | omega | (simp (disch := first | decide | assumption | omega) only [up_k, up_s, up_a, up_i, flA_k, flA_a, newO_o, newA_o]; first | assumption | omega)) (fun hi_47 => ?_)
      try simp (disch := first | decide | assumption | omega) only [up_k, up_s, up_a, up_i, flA_k, flA_a, newO_o, newA_o] at hi_47 ⊢
      rw [e1 71 _ (by decide)] at hi_47 ⊢
      refine X_aload_n 51 hO dX7_join_50 rfl rfl ?_
      refine gX7_23 54 hO dX7_join_51 rfl (by first | assumption | omega | (simp (disch := first | decide | assumption | omega) only [up_k, up_s, up_a, up_i, flA_k, flA_a, newO_o, newA_o]; first | assumption | omega)) (fun hi_51 => ?_)
      try simp (disch := first | decide | assumption | omega) only [up_k, up_s, up_a, up_i, flA_k, flA_a, newO_o, newA_o] at hi_51 ⊢
      rw [e1 71 _ (by decide)] at hi_51 ⊢
      refine X_iadd 55 hO dX7_join_54 rfl ?_
      refine pX7_23 58 hO dX7_join_55 rfl (by first | assumption | omega | (simp (disch := first | decide | assumption | omega) only [up_k, up_s, up_a, up_i, flA_k, flA_a, newO_o, newA_o]; first | assumption | omega)) (by omega) ?_
      refine X_aload_n 59 hO dX7_join_58 rfl rfl ?_
      refine X_dup 60 hO dX7_join_59 rfl (by first | rfl | exact rv_cat _) ?_
      refine gX7_30 63 hO dX7_join_60 rfl (by first | assumption | omega | (simp (disch := first | decide | assumption | omega) only [up_k, up_s, up_a, up_i, flA_k, flA_a, newO_o, newA_o]; first | assumption | omega)) (fun hi_60 => ?_)
      try simp (disch := first | decide | assumption | omega) only [up_k, up_s, up_a, up_i, flA_k, flA_a, newO_o, newA_o] at hi_60 ⊢
      rw [e1 72 _ (by decide)] at hi_60 ⊢
      refine X_aload_n 64 hO dX7_join_63 rfl rfl ?_
      refine gX7_30 67 hO dX7_join_64 rfl (by first | assumption | omega | (simp (disch := first | decide | assumption | omega) only [up_k, up_s, up_a, up_i, flA_k, flA_a, newO_o, newA_o]; first | assumption | omega)) (fun hi_64 => ?_)
      try simp (disch := first | decide | assumption | omega) only [up_k, up_s, up_a, up_i, flA_k, flA_a, newO_o, newA_o] at hi_64 ⊢
      rw [e1 72 _ (by decide)] at hi_64 ⊢
      refine X_iadd 68 hO dX7_join_67 rfl ?_
      refine pX7_30 71 hO dX7_join_68 rfl (by first | assumption | omega | (simp (disch := first | decide | assumption | omega) only [up_k, up_s, up_a, up_i, flA_k, flA_a, newO_o, newA_o]; first | assumption | omega)) (by omega) ?_
      exact X_vret hO hF rfl dX7_join_71 ⟨rfl, by rw [hW]; unfold q_join; rw [if_neg (by omega)]⟩
    refine X_aload_n 9 hO dX7_join_8 rfl rfl ?_
    refine gX7_9 12 hO dX7_join_9 rfl (by first | assumption | omega | (simp (disch := first | decide | assumption | omega) only [up_k, up_s, up_a, up_i, flA_k, flA_a, newO_o, newA_o]; first | assumption | omega)) ?_
    try simp (disch := first | decide | assumption | omega) only [up_k, up_s, up_a, up_i, flA_k, flA_a, newO_o, newA_o]
    refine X_ifnonnull 15 26 hO dX7_join_12 rfl rfl (fun hc_12 => ?_) (fun hc_12 => ?_)
    ·
      refine X_aload_n 27 hO dX7_join_26 rfl rfl ?_
      refine gX7_9 30 hO dX7_join_27 rfl (by first | assumption | omega | (simp (disch := first | decide | assumption | omega) only [up_k, up_s, up_a, up_i, flA_k, flA_a, newO_o, newA_o]; first | assumption | omega)) ?_
      try simp (disch := first | decide | assumption | omega) only [up_k, up_s, up_a, up_i, flA_k, flA_a, newO_o, newA_o]
      refine X_aload_n 31 hO dX7_join_30 rfl rfl ?_
      refine gX7_15 34 hO dX7_join_31 rfl (by first | assumption | omega | (simp (disch := first | decide | assumption | omega) only [up_k, up_s, up_a, up_i, flA_k, flA_a, newO_o, newA_o]; first | assumption | omega)) ?_
      try simp (disch := first | decide | assumption | omega) only [up_k, up_s, up_a, up_i, flA_k, flA_a, newO_o, newA_o]
      refine pX7_18 37 hO dX7_join_34 rfl (by omega) ?_
      exact JP37 _ (by first | rw [if_pos (by omega)] | rw [if_neg (by omega)])
    ·
      refine X_aload_n 16 hO dX7_join_15 rfl rfl ?_
      refine X_aload_n 17 hO dX7_join_16 rfl rfl ?_
      refine gX7_15 20 hO dX7_join_17 rfl (by first | assumption | omega | (simp (disch := first | decide | assumption | omega) only [up_k, up_s, up_a, up_i, flA_k, flA_a, newO_o, newA_o]; first | assumption | omega)) ?_
      try simp (disch := first | decide | assumption | omega) only [up_k, up_s, up_a, up_i, flA_k, flA_a, newO_o, newA_o]
      refine pX7_15 23 hO dX7_join_20 rfl (by first | assumption | omega | (simp (disch := first | decide | assumption | omega) only [up_k, up_s, up_a, up_i, flA_k, flA_a, newO_o, newA_o]; first | assumption | omega)) ?_
      refine X_goto hO dX7_join_23 (tgt := 37) rfl ?_
      exact JP37 _ (by first | rw [if_pos (by omega)] | rw [if_neg (by omega)])
  ·
    exact X_vret hO hF rfl dX7_join_7 ⟨rfl, by unfold q_join; rw [if_pos (by omega)]⟩
theorem dX7_dropFirst_0 : decode cX7_dropFirst 0 = .ok (.aload_n 0, 1) := by decide +kernel
theorem dX7_dropFirst_1 : decode cX7_dropFirst 1 = .ok (.getfield 15, 3) := by decide +kernel
theorem dX7_dropFirst_4 : decode cX7_dropFirst 4 = .ok (.ifnonnull 4, 3) := by decide +kernel
theorem dX7_dropFirst_7 : decode cX7_dropFirst 7 = .ok (.return_, 1) := by decide +kernel
theorem dX7_dropFirst_8 : decode cX7_dropFirst 8 = .ok (.aload_n 0, 1) := by decide +kernel
theorem dX7_dropFirst_9 : decode cX7_dropFirst 9 = .ok (.aload_n 0, 1) := by decide +kernel
theorem dX7_dropFirst_10 : decode cX7_dropFirst 10 = .ok (.getfield 15, 3) := by decide +kernel
theorem dX7_dropFirst_13 : decode cX7_dropFirst 13 = .ok (.getfield 18, 3) := by decide +kernel
theorem dX7_dropFirst_16 : decode cX7_dropFirst 16 = .ok (.putfield 15, 3) := by decide +kernel
theorem dX7_dropFirst_19 : decode cX7_dropFirst 19 = .ok (.aload_n 0, 1) := by decide +kernel
theorem dX7_dropFirst_20 : decode cX7_dropFirst 20 = .ok (.getfield 15, 3) := by decide +kernel
theorem dX7_dropFirst_23 : decode cX7_dropFirst 23 = .ok (.ifnonnull 8, 3) := by decide +kernel
theorem dX7_dropFirst_26 : decode cX7_dropFirst 26 = .ok (.aload_n 0, 1) := by decide +kernel
theorem dX7_dropFirst_27 : decode cX7_dropFirst 27 = .ok (.aconst_null, 1) := by decide +kernel
theorem dX7_dropFirst_28 : decode cX7_dropFirst 28 = .ok (.putfield 9, 3) := by decide +kernel
theorem dX7_dropFirst_31 : decode cX7_dropFirst 31 = .ok (.aload_n 0, 1) := by decide +kernel
theorem dX7_dropFirst_32 : decode cX7_dropFirst 32 = .ok (.dup, 1) := by decide +kernel
theorem dX7_dropFirst_33 : decode cX7_dropFirst 33 = .ok (.getfield 23, 3) := by decide +kernel
theorem dX7_dropFirst_36 : decode cX7_dropFirst 36 = .ok (.iconst 1, 1) := by decide +kernel
theorem dX7_dropFirst_37 : decode cX7_dropFirst 37 = .ok (.isub, 1) := by decide +kernel
theorem dX7_dropFirst_38 : decode cX7_dropFirst 38 = .ok (.putfield 23, 3) := by decide +kernel
theorem dX7_dropFirst_41 : decode cX7_dropFirst 41 = .ok (.aload_n 0, 1) := by decide +kernel
theorem dX7_dropFirst_42 : decode cX7_dropFirst 42 = .ok (.dup, 1) := by decide +kernel
theorem dX7_dropFirst_43 : decode cX7_dropFirst 43 = .ok (.getfield 30, 3) := by decide +kernel
theorem dX7_dropFirst_46 : decode cX7_dropFirst 46 = .ok (.iconst 1, 1) := by decide +kernel
theorem dX7_dropFirst_47 : decode cX7_dropFirst 47 = .ok (.isub, 1) := by decide +kernel
theorem dX7_dropFirst_48 : decode cX7_dropFirst 48 = .ok (.putfield 30, 3) := by decide +kernel
theorem dX7_dropFirst_51 : decode cX7_dropFirst 51 = .ok (.return_, 1) := by decide +kernel
set_option maxRecDepth 4000 in
theorem kX7_dropFirst (γ : LC) (w : Mm) (s : Int) (hs : w 0 s 0 = 8) (hl : w 34 s 0 = 0 ∨ w 0 (w 34 s 0) 0 = 7) (hc : 0 ≤ w 71 s 0 ∧ w 71 s 0 ≤ 100000) (hc2 : 0 ≤ w 72 s 0 ∧ w 72 s 0 ≤ 100000) : KV γ 1 mX7_dropFirst [rv s] w (0) (0) (fun w' => w' = q_drop s w) NX := by
  refine MX_of rfl rfl (by simp [rv_cat, int_cat]) rfl ?_
  rintro κ hO hF rfl
  have hD := hF.dp
  show X κ (0) (0) w 0 [some (rv s)] []
  refine X_aload_n 1 hO dX7_dropFirst_0 rfl rfl ?_
  refine gX7_15 4 hO dX7_dropFirst_1 rfl (by first | assumption | omega | (simp (disch := first | decide | assumption | omega) only [up_k, up_s, up_a, up_i, flA_k, flA_a, newO_o, newA_o]; first | assumption | omega)) ?_
  try simp (disch := first | decide | assumption | omega) only [up_k, up_s, up_a, up_i, flA_k, flA_a, newO_o, newA_o]
  refine X_ifnonnull 7 8 hO dX7_dropFirst_4 rfl rfl (fun hc_4 => ?_) (fun hc_4 => ?_)
  ·
    have JP31 : ∀ (W2 : Mm), (W2 = if w 33 (w 34 s 0) 0 = 0 then up (up w 34 s 0 (w 33 (w 34 s 0) 0)) 35 s 0 0 else up w 34 s 0 (w 33 (w 34 s 0) 0)) → X κ (0) (0) (W2) 31 [some (rv s)] [] := by
      intro W2 hW
      have e1 : ∀ c x, c = 71 ∨ c = 72 ∨ c = 0 → W2 c x 0 = w c x 0 := fun c x h => by rw [hW]; split <;> (try rw [up_k _ (by omega)]) <;> exact up_k _ (by omega) _ _ _ _ _
      have t1 : W2 0 s 0 = 8 := (e1 0 s (by decide)).trans hs
      refine X_aload_n 32 hO dX7_dropFirst_31 rfl rfl ?_
      refine X_dup 33 hO dX7_dropFirst_32 rfl (by first | rfl | exact rv_cat _) ?_
      refine gX7_23 36 hO dX7_dropFirst_33 rfl (by first | assumption | omega | (simp (disch := first | decide | assumption | omega) only [up_k, up_s, up_a, up_i, flA_k, flA_a, newO_o, newA_o]; first | assumption | omega)) (fun hi_33 => ?_)
      try simp (disch := first | decide | assumption | omega) only [up_k, up_s, up_a, up_i, flA_k, flA_a, newO_o, newA_o] at hi_33 ⊢
      rw [e1 71 _ (by decide)] at hi_33 ⊢
      refine X_iconst 37 hO dX7_dropFirst_36 rfl ?_
      refine X_isub 38 hO dX7_dropFirst_37 rfl ?_
      refine pX7_23 41 hO dX7_dropFirst_38 rfl (by first | assumption | omega | (simp (disch := first | decide | assumption | omega) only [up_k, up_s, up_a, up_i, flA_k, flA_a, newO_o, newA_o]; first | assumption | omega)) (by omega) ?_
      refine X_aload_n 42 hO dX7_dropFirst_41 rfl rfl ?_
      refine X_dup 43 hO dX7_dropFirst_42 rfl (by first | rfl | exact rv_cat _) ?_
      refine gX7_30 46 hO dX7_dropFirst_43 rfl (by first | assumption | omega | (simp (disch := first | decide | assumption | omega) only [up_k, up_s, up_a, up_i, flA_k, flA_a, newO_o, newA_o]; first | assumption | omega)) (fun hi_43 => ?_)
      try simp (disch := first | decide | assumption | omega) only [up_k, up_s, up_a, up_i, flA_k, flA_a, newO_o, newA_o] at hi_43 ⊢
      rw [e1 72 _ (by decide)] at hi_43 ⊢
      refine X_iconst 47 hO dX7_dropFirst_46 rfl ?_
      refine X_isub 48 hO dX7_dropFirst_47 rfl ?_
      refine pX7_30 51 hO dX7_dropFirst_48 rfl (by first | assumption | omega | (simp (disch := first | decide | assumption | omega) only [up_k, up_s, up_a, up_i, flA_k, flA_a, newO_o, newA_o]; first | assumption | omega)) (by omega) ?_
      exact X_vret hO hF rfl dX7_dropFirst_51 ⟨rfl, by rw [hW]; unfold q_drop; rw [if_neg (by omega)]⟩
    refine X_aload_n 9 hO dX7_dropFirst_8 rfl rfl ?_
    refine X_aload_n 10 hO dX7_dropFirst_9 rfl rfl ?_
    refine gX7_15 13 hO dX7_dropFirst_10 rfl (by first | assumption | omega | (simp (disch := first | decide | assumption | omega) only [up_k, up_s, up_a, up_i, flA_k, flA_a, newO_o, newA_o]; first | assumption | omega)) ?_
    try simp (disch := first | decide | assumption | omega) only [up_k, up_s, up_a, up_i, flA_k, flA_a, newO_o, newA_o]
    refine gX7_18 16 hO dX7_dropFirst_13 rfl (by omega) ?_
    try simp (disch := first | decide | assumption | omega) only [up_k, up_s, up_a, up_i, flA_k, flA_a, newO_o, newA_o]
    refine pX7_15 19 hO dX7_dropFirst_16 rfl (by first | assumption | omega | (simp (disch := first | decide | assumption | omega) only [up_k, up_s, up_a, up_i, flA_k, flA_a, newO_o, newA_o]; first | assumption | omega)) ?_
    refine X_aload_n 20 hO dX7_dropFirst_19 rfl rfl ?_
    refine gX7_15 23 hO dX7_dropFirst_20 rfl (by first | assumption | omega | (simp (disch := first | decide | assumption | omega) only [up_k, up_s, up_a, up_i, flA_k, flA_a, newO_o, newA_o]; first | assumption | omega)) ?_
    try simp (disch := first | decide | assumption | omega) only [up_k, up_s, up_a, up_i, flA_k, flA_a, newO_o, newA_o]
    refine X_ifnonnull 26 31 hO dX7_dropFirst_23 rfl rfl (fun hc_23 => ?_) (fun hc_23 => ?_)
    ·
      exact JP31 _ (by first | rw [if_pos (by omega)] | rw [if_neg (by omega)])
    ·
      refine X_aload_n 27 hO dX7_dropFirst_26 rfl rfl ?_
      refine X_null 28 hO dX7_dropFirst_27 rfl ?_
      refine pX7_9 31 hO dX7_dropFirst_28 rfl (by first | assumption | omega | (simp (disch := first | decide | assumption | omega) only [up_k, up_s, up_a, up_i, flA_k, flA_a, newO_o, newA_o]; first | assumption | omega)) ?_
      exact JP31 _ (by first | rw [if_pos (by omega)] | rw [if_neg (by omega)])
  ·
    exact X_vret hO hF rfl dX7_dropFirst_7 ⟨rfl, by unfold q_drop; rw [if_pos (by omega)]⟩
theorem dX7_empty_0 : decode cX7_empty 0 = .ok (.aload_n 0, 1) := by decide +kernel
theorem dX7_empty_1 : decode cX7_empty 1 = .ok (.aconst_null, 1) := by decide +kernel
theorem dX7_empty_2 : decode cX7_empty 2 = .ok (.putfield 15, 3) := by decide +kernel
theorem dX7_empty_5 : decode cX7_empty 5 = .ok (.aload_n 0, 1) := by decide +kernel
theorem dX7_empty_6 : decode cX7_empty 6 = .ok (.aconst_null, 1) := by decide +kernel
theorem dX7_empty_7 : decode cX7_empty 7 = .ok (.putfield 9, 3) := by decide +kernel
theorem dX7_empty_10 : decode cX7_empty 10 = .ok (.aload_n 0, 1) := by decide +kernel
theorem dX7_empty_11 : decode cX7_empty 11 = .ok (.iconst 0, 1) := by decide +kernel
theorem dX7_empty_12 : decode cX7_empty 12 = .ok (.putfield 23, 3) := by decide +kernel
theorem dX7_empty_15 : decode cX7_empty 15 = .ok (.aload_n 0, 1) := by decide +kernel
theorem dX7_empty_16 : decode cX7_empty 16 = .ok (.iconst 0, 1) := by decide +kernel
theorem dX7_empty_17 : decode cX7_empty 17 = .ok (.putfield 30, 3) := by decide +kernel
theorem dX7_empty_20 : decode cX7_empty 20 = .ok (.return_, 1) := by decide +kernel
set_option maxRecDepth 4000 in
theorem kX7_empty (γ : LC) (w : Mm) (s : Int) (hs : w 0 s 0 = 8) : KV γ 1 mX7_empty [rv s] w (0) (0) (fun w' => w' = q_emp s w) NX := by
  refine MX_of rfl rfl (by simp [rv_cat, int_cat]) rfl ?_
  rintro κ hO hF rfl
  have hD := hF.dp
  show X κ (0) (0) w 0 [some (rv s)] []
  refine X_aload_n 1 hO dX7_empty_0 rfl rfl ?_
  refine X_null 2 hO dX7_empty_1 rfl ?_
  refine pX7_15 5 hO dX7_empty_2 rfl (by first | assumption | omega | (simp (disch := first | decide | assumption | omega) only [up_k, up_s, up_a, up_i, flA_k, flA_a, newO_o, newA_o]; first | assumption | omega)) ?_
  refine X_aload_n 6 hO dX7_empty_5 rfl rfl ?_
  refine X_null 7 hO dX7_empty_6 rfl ?_
  refine pX7_9 10 hO dX7_empty_7 rfl (by first | assumption | omega | (simp (disch := first | decide | assumption | omega) only [up_k, up_s, up_a, up_i, flA_k, flA_a, newO_o, newA_o]; first | assumption | omega)) ?_
  refine X_aload_n 11 hO dX7_empty_10 rfl rfl ?_
  refine X_iconst 12 hO dX7_empty_11 rfl ?_
  refine pX7_23 15 hO dX7_empty_12 rfl (by first | assumption | omega | (simp (disch := first | decide | assumption | omega) only [up_k, up_s, up_a, up_i, flA_k, flA_a, newO_o, newA_o]; first | assumption | omega)) (by omega) ?_
  refine X_aload_n 16 hO dX7_empty_15 rfl rfl ?_
  refine X_iconst 17 hO dX7_empty_16 rfl ?_
  refine pX7_30 20 hO dX7_empty_17 rfl (by first | assumption | omega | (simp (disch := first | decide | assumption | omega) only [up_k, up_s, up_a, up_i, flA_k, flA_a, newO_o, newA_o]; first | assumption | omega)) (by omega) ?_
  exact X_vret hO hF rfl dX7_empty_20 ⟨rfl, rfl⟩
theorem dX7_takeExtent_0 : decode cX7_takeExtent 0 = .ok (.aload_n 0, 1) := by decide +kernel
theorem dX7_takeExtent_1 : decode cX7_takeExtent 1 = .ok (.aload_n 1, 1) := by decide +kernel
theorem dX7_takeExtent_2 : decode cX7_takeExtent 2 = .ok (.getfield 15, 3) := by decide +kernel
theorem dX7_takeExtent_5 : decode cX7_takeExtent 5 = .ok (.putfield 15, 3) := by decide +kernel
theorem dX7_takeExtent_8 : decode cX7_takeExtent 8 = .ok (.aload_n 0, 1) := by decide +kernel
theorem dX7_takeExtent_9 : decode cX7_takeExtent 9 = .ok (.aload_n 1, 1) := by decide +kernel
theorem dX7_takeExtent_10 : decode cX7_takeExtent 10 = .ok (.getfield 9, 3) := by decide +kernel
theorem dX7_takeExtent_13 : decode cX7_takeExtent 13 = .ok (.putfield 9, 3) := by decide +kernel
theorem dX7_takeExtent_16 : decode cX7_takeExtent 16 = .ok (.aload_n 0, 1) := by decide +kernel
theorem dX7_takeExtent_17 : decode cX7_takeExtent 17 = .ok (.aload_n 1, 1) := by decide +kernel
theorem dX7_takeExtent_18 : decode cX7_takeExtent 18 = .ok (.getfield 23, 3) := by decide +kernel
theorem dX7_takeExtent_21 : decode cX7_takeExtent 21 = .ok (.putfield 23, 3) := by decide +kernel
theorem dX7_takeExtent_24 : decode cX7_takeExtent 24 = .ok (.aload_n 0, 1) := by decide +kernel
theorem dX7_takeExtent_25 : decode cX7_takeExtent 25 = .ok (.aload_n 1, 1) := by decide +kernel
theorem dX7_takeExtent_26 : decode cX7_takeExtent 26 = .ok (.getfield 30, 3) := by decide +kernel
theorem dX7_takeExtent_29 : decode cX7_takeExtent 29 = .ok (.putfield 30, 3) := by decide +kernel
theorem dX7_takeExtent_32 : decode cX7_takeExtent 32 = .ok (.aload_n 0, 1) := by decide +kernel
theorem dX7_takeExtent_33 : decode cX7_takeExtent 33 = .ok (.getfield 9, 3) := by decide +kernel
theorem dX7_takeExtent_36 : decode cX7_takeExtent 36 = .ok (.ifnull 11, 3) := by decide +kernel
theorem dX7_takeExtent_39 : decode cX7_takeExtent 39 = .ok (.aload_n 0, 1) := by decide +kernel
theorem dX7_takeExtent_40 : decode cX7_takeExtent 40 = .ok (.getfield 9, 3) := by decide +kernel
theorem dX7_takeExtent_43 : decode cX7_takeExtent 43 = .ok (.aconst_null, 1) := by decide +kernel
theorem dX7_takeExtent_44 : decode cX7_takeExtent 44 = .ok (.putfield 18, 3) := by decide +kernel
theorem dX7_takeExtent_47 : decode cX7_takeExtent 47 = .ok (.return_, 1) := by decide +kernel
set_option maxRecDepth 4000 in
theorem kX7_takeExtent (γ : LC) (w : Mm) (s o : Int) (hs : w 0 s 0 = 8) (ho : w 0 o 0 = 8) (hso : s ≠ o) (hl : w 35 o 0 = 0 ∨ w 0 (w 35 o 0) 0 = 7) : KV γ 1 mX7_takeExtent [rv s, rv o] w (0) (0) (fun w' => w' = q_ext s o w) NX := by
  refine MX_of rfl rfl (by simp [rv_cat, int_cat]) rfl ?_
  rintro κ hO hF rfl
  have hD := hF.dp
  show X κ (0) (0) w 0 [some (rv s), some (rv o)] []
  have hos : o ≠ s := fun h => hso h.symm
  refine X_aload_n 1 hO dX7_takeExtent_0 rfl rfl ?_
  refine X_aload_n 2 hO dX7_takeExtent_1 rfl rfl ?_
  refine gX7_15 5 hO dX7_takeExtent_2 rfl (by first | assumption | omega | (simp (disch := first | decide | assumption | omega) only [up_k, up_s, up_a, up_i, flA_k, flA_a, newO_o, newA_o]; first | assumption | omega)) ?_
  try simp (disch := first | decide | assumption | omega) only [up_k, up_s, up_a, up_i, flA_k, flA_a, newO_o, newA_o]
  refine pX7_15 8 hO dX7_takeExtent_5 rfl (by first | assumption | omega | (simp (disch := first | decide | assumption | omega) only [up_k, up_s, up_a, up_i, flA_k, flA_a, newO_o, newA_o]; first | assumption | omega)) ?_
  refine X_aload_n 9 hO dX7_takeExtent_8 rfl rfl ?_
  refine X_aload_n 10 hO dX7_takeExtent_9 rfl rfl ?_
  refine gX7_9 13 hO dX7_takeExtent_10 rfl (by first | assumption | omega | (simp (disch := first | decide | assumption | omega) only [up_k, up_s, up_a, up_i, flA_k, flA_a, newO_o, newA_o]; first | assumption | omega)) ?_
  try simp (disch := first | decide | assumption | omega) only [up_k, up_s, up_a, up_i, flA_k, flA_a, newO_o, newA_o]
  refine pX7_9 16 hO dX7_takeExtent_13 rfl (by first | assumption | omega | (simp (disch := first | decide | assumption | omega) only [up_k, up_s, up_a, up_i, flA_k, flA_a, newO_o, newA_o]; first | assumption | omega)) ?_
  refine X_aload_n 17 hO dX7_takeExtent_16 rfl rfl ?_
  refine X_aload_n 18 hO dX7_takeExtent_17 rfl rfl ?_
  refine gX7_23 21 hO dX7_takeExtent_18 rfl (by first | assumption | omega | (simp (disch := first | decide | assumption | omega) only [up_k, up_s, up_a, up_i, flA_k, flA_a, newO_o, newA_o]; first | assumption | omega)) (fun hi_18 => ?_)
  try simp (disch := first | decide | assumption | omega) only [up_k, up_s, up_a, up_i, flA_k, flA_a, newO_o, newA_o] at hi_18 ⊢
  refine pX7_23 24 hO dX7_takeExtent_21 rfl (by first | assumption | omega | (simp (disch := first | decide | assumption | omega) only [up_k, up_s, up_a, up_i, flA_k, flA_a, newO_o, newA_o]; first | assumption | omega)) (by omega) ?_
  refine X_aload_n 25 hO dX7_takeExtent_24 rfl rfl ?_
  refine X_aload_n 26 hO dX7_takeExtent_25 rfl rfl ?_
  refine gX7_30 29 hO dX7_takeExtent_26 rfl (by first | assumption | omega | (simp (disch := first | decide | assumption | omega) only [up_k, up_s, up_a, up_i, flA_k, flA_a, newO_o, newA_o]; first | assumption | omega)) (fun hi_26 => ?_)
  try simp (disch := first | decide | assumption | omega) only [up_k, up_s, up_a, up_i, flA_k, flA_a, newO_o, newA_o] at hi_26 ⊢
  refine pX7_30 32 hO dX7_takeExtent_29 rfl (by first | assumption | omega | (simp (disch := first | decide | assumption | omega) only [up_k, up_s, up_a, up_i, flA_k, flA_a, newO_o, newA_o]; first | assumption | omega)) (by omega) ?_
  refine X_aload_n 33 hO dX7_takeExtent_32 rfl rfl ?_
  refine gX7_9 36 hO dX7_takeExtent_33 rfl (by first | assumption | omega | (simp (disch := first | decide | assumption | omega) only [up_k, up_s, up_a, up_i, flA_k, flA_a, newO_o, newA_o]; first | assumption | omega)) ?_
  try simp (disch := first | decide | assumption | omega) only [up_k, up_s, up_a, up_i, flA_k, flA_a, newO_o, newA_o]
  refine X_ifnull 39 47 hO dX7_takeExtent_36 rfl rfl (fun hc_36 => ?_) (fun hc_36 => ?_)
  ·
    exact X_vret hO hF rfl dX7_takeExtent_47 ⟨rfl, by unfold q_ext; dsimp only; first | rw [if_pos (by omega)] | rw [if_neg (by omega)]⟩
  ·
    refine X_aload_n 40 hO dX7_takeExtent_39 rfl rfl ?_
    refine gX7_9 43 hO dX7_takeExtent_40 rfl (by first | assumption | omega | (simp (disch := first | decide | assumption | omega) only [up_k, up_s, up_a, up_i, flA_k, flA_a, newO_o, newA_o]; first | assumption | omega)) ?_
    try simp (disch := first | decide | assumption | omega) only [up_k, up_s, up_a, up_i, flA_k, flA_a, newO_o, newA_o]
    refine X_null 44 hO dX7_takeExtent_43 rfl ?_
    refine pX7_18 47 hO dX7_takeExtent_44 rfl (by simp (disch := decide) only [up_k]; omega) ?_
    exact X_vret hO hF rfl dX7_takeExtent_47 ⟨rfl, by unfold q_ext; dsimp only; first | rw [if_pos (by omega)] | rw [if_neg (by omega)]⟩
