/-! a node goes from the list -/
def a_frm (l i : Int) (w : Mm) : Mm := up (up (if i < w 93 l 0 - 1 then cpQ (up w 92 l 0 (w 92 l 0 + 1)) (w 51 l 0) (w 51 l 0) (i + 1) i (w 93 l 0 - 1 - i) else up w 92 l 0 (w 92 l 0 + 1)) 93 l 0 (w 93 l 0 - 1)) 3 (w 51 l 0) (w 93 l 0 - 1) 0
def EL5 (w : Mm) (l : Int) : Prop := ∀ i, 0 ≤ i → i < w 93 l 0 → w 3 (w 51 l 0) i = 0 ∨ w 0 (w 3 (w 51 l 0) i) 0 = 5
theorem dJx4a65c_fastRemove_b59b0_0 : decode cJx4a65c_fastRemove_b59b0 0 = .ok (.aload_n 0, 1) := by decide +kernel
theorem dJx4a65c_fastRemove_b59b0_1 : decode cJx4a65c_fastRemove_b59b0 1 = .ok (.dup, 1) := by decide +kernel
theorem dJx4a65c_fastRemove_b59b0_2 : decode cJx4a65c_fastRemove_b59b0 2 = .ok (.getfield 63, 3) := by decide +kernel
theorem dJx4a65c_fastRemove_b59b0_5 : decode cJx4a65c_fastRemove_b59b0 5 = .ok (.iconst 1, 1) := by decide +kernel
theorem dJx4a65c_fastRemove_b59b0_6 : decode cJx4a65c_fastRemove_b59b0 6 = .ok (.iadd, 1) := by decide +kernel
theorem dJx4a65c_fastRemove_b59b0_7 : decode cJx4a65c_fastRemove_b59b0 7 = .ok (.putfield 63, 3) := by decide +kernel
theorem dJx4a65c_fastRemove_b59b0_10 : decode cJx4a65c_fastRemove_b59b0 10 = .ok (.aload_n 0, 1) := by decide +kernel
theorem dJx4a65c_fastRemove_b59b0_11 : decode cJx4a65c_fastRemove_b59b0 11 = .ok (.getfield 48, 3) := by decide +kernel
theorem dJx4a65c_fastRemove_b59b0_14 : decode cJx4a65c_fastRemove_b59b0 14 = .ok (.iconst 1, 1) := by decide +kernel
theorem dJx4a65c_fastRemove_b59b0_15 : decode cJx4a65c_fastRemove_b59b0 15 = .ok (.isub, 1) := by decide +kernel
theorem dJx4a65c_fastRemove_b59b0_16 : decode cJx4a65c_fastRemove_b59b0 16 = .ok (.dup, 1) := by decide +kernel
theorem dJx4a65c_fastRemove_b59b0_17 : decode cJx4a65c_fastRemove_b59b0 17 = .ok (.istore_n 3, 1) := by decide +kernel
theorem dJx4a65c_fastRemove_b59b0_18 : decode cJx4a65c_fastRemove_b59b0 18 = .ok (.iload_n 2, 1) := by decide +kernel
theorem dJx4a65c_fastRemove_b59b0_19 : decode cJx4a65c_fastRemove_b59b0 19 = .ok (.if_icmp .le 15, 3) := by decide +kernel
theorem dJx4a65c_fastRemove_b59b0_22 : decode cJx4a65c_fastRemove_b59b0 22 = .ok (.aload_n 1, 1) := by decide +kernel
theorem dJx4a65c_fastRemove_b59b0_23 : decode cJx4a65c_fastRemove_b59b0 23 = .ok (.iload_n 2, 1) := by decide +kernel
theorem dJx4a65c_fastRemove_b59b0_24 : decode cJx4a65c_fastRemove_b59b0 24 = .ok (.iconst 1, 1) := by decide +kernel
theorem dJx4a65c_fastRemove_b59b0_25 : decode cJx4a65c_fastRemove_b59b0 25 = .ok (.iadd, 1) := by decide +kernel
theorem dJx4a65c_fastRemove_b59b0_26 : decode cJx4a65c_fastRemove_b59b0 26 = .ok (.aload_n 1, 1) := by decide +kernel
theorem dJx4a65c_fastRemove_b59b0_27 : decode cJx4a65c_fastRemove_b59b0 27 = .ok (.iload_n 2, 1) := by decide +kernel
theorem dJx4a65c_fastRemove_b59b0_28 : decode cJx4a65c_fastRemove_b59b0 28 = .ok (.iload_n 3, 1) := by decide +kernel
theorem dJx4a65c_fastRemove_b59b0_29 : decode cJx4a65c_fastRemove_b59b0 29 = .ok (.iload_n 2, 1) := by decide +kernel
theorem dJx4a65c_fastRemove_b59b0_30 : decode cJx4a65c_fastRemove_b59b0 30 = .ok (.isub, 1) := by decide +kernel
theorem dJx4a65c_fastRemove_b59b0_31 : decode cJx4a65c_fastRemove_b59b0 31 = .ok (.invokestatic 112, 3) := by decide +kernel
theorem dJx4a65c_fastRemove_b59b0_34 : decode cJx4a65c_fastRemove_b59b0 34 = .ok (.aload_n 1, 1) := by decide +kernel
theorem dJx4a65c_fastRemove_b59b0_35 : decode cJx4a65c_fastRemove_b59b0 35 = .ok (.aload_n 0, 1) := by decide +kernel
theorem dJx4a65c_fastRemove_b59b0_36 : decode cJx4a65c_fastRemove_b59b0 36 = .ok (.iload_n 3, 1) := by decide +kernel
theorem dJx4a65c_fastRemove_b59b0_37 : decode cJx4a65c_fastRemove_b59b0 37 = .ok (.dup_x1, 1) := by decide +kernel
theorem dJx4a65c_fastRemove_b59b0_38 : decode cJx4a65c_fastRemove_b59b0 38 = .ok (.putfield 48, 3) := by decide +kernel
theorem dJx4a65c_fastRemove_b59b0_41 : decode cJx4a65c_fastRemove_b59b0 41 = .ok (.aconst_null, 1) := by decide +kernel
theorem dJx4a65c_fastRemove_b59b0_42 : decode cJx4a65c_fastRemove_b59b0 42 = .ok (.aastore, 1) := by decide +kernel
theorem dJx4a65c_fastRemove_b59b0_43 : decode cJx4a65c_fastRemove_b59b0 43 = .ok (.return_, 1) := by decide +kernel
set_option maxRecDepth 4000 in
theorem kJx4a65c_fastRemove_b59b0 (γ : LC) (w : Mm) (l i : Int) (hl : LSt w l) (he : EL5 w l) (hi : 0 ≤ i ∧ i < w 93 l 0) (hm : IR (w 92 l 0 + 1)) : KV γ 1 mJx4a65c_fastRemove_b59b0 [rv l, rv (w 51 l 0), .int (I i)] w (0) (0) (fun w' => w' = a_frm l i w) NX := by
  refine MX_of rfl rfl (by simp [rv_cat, int_cat]) rfl ?_
  rintro κ hO hF rfl
  have hD := hF.dp
  show X κ (0) (0) w 0 [some (rv l), some (rv (w 51 l 0)), some (.int (I i)), none] []
  obtain ⟨l0, l1, l2, l3, l4⟩ := id hl
  refine X_aload_n 1 hO dJx4a65c_fastRemove_b59b0_0 rfl rfl ?_
  refine X_dup 2 hO dJx4a65c_fastRemove_b59b0_1 rfl (by first | rfl | exact rv_cat _) ?_
  refine gJx4a65c_63 5 hO dJx4a65c_fastRemove_b59b0_2 rfl (by first | assumption | omega | (simp (disch := first | decide | assumption | omega) only [up_k, up_s, up_a, up_i, flA_k, flA_a, flA_n, cpA_k, cpA_a, newO_o, newA_o, newO_t, newA_t, newA_n, cpQ_k, cpQ_a] <;> first | assumption | omega)) (fun hi_2 => ?_)
  try simp (disch := first | decide | assumption | omega) only [up_k, up_s, up_a, up_i, flA_k, flA_a, flA_n, cpA_k, cpA_a, newO_o, newA_o, newO_t, newA_t, newA_n, cpQ_k, cpQ_a] at hi_2 ⊢
  refine X_iconst 6 hO dJx4a65c_fastRemove_b59b0_5 rfl ?_
  refine X_iadd 7 hO dJx4a65c_fastRemove_b59b0_6 rfl ?_
  refine pJx4a65c_63 10 hO dJx4a65c_fastRemove_b59b0_7 rfl (by first | assumption | omega | (simp (disch := first | decide | assumption | omega) only [up_k, up_s, up_a, up_i, flA_k, flA_a, flA_n, cpA_k, cpA_a, newO_o, newA_o, newO_t, newA_t, newA_n, cpQ_k, cpQ_a] <;> first | assumption | omega)) (by omega) ?_
  refine X_aload_n 11 hO dJx4a65c_fastRemove_b59b0_10 rfl rfl ?_
  refine gJx4a65c_48 14 hO dJx4a65c_fastRemove_b59b0_11 rfl (by first | assumption | omega | (simp (disch := first | decide | assumption | omega) only [up_k, up_s, up_a, up_i, flA_k, flA_a, flA_n, cpA_k, cpA_a, newO_o, newA_o, newO_t, newA_t, newA_n, cpQ_k, cpQ_a] <;> first | assumption | omega)) (fun hi_11 => ?_)
  try simp (disch := first | decide | assumption | omega) only [up_k, up_s, up_a, up_i, flA_k, flA_a, flA_n, cpA_k, cpA_a, newO_o, newA_o, newO_t, newA_t, newA_n, cpQ_k, cpQ_a] at hi_11 ⊢
  refine X_iconst 15 hO dJx4a65c_fastRemove_b59b0_14 rfl ?_
  refine X_isub 16 hO dJx4a65c_fastRemove_b59b0_15 rfl ?_
  refine X_dup 17 hO dJx4a65c_fastRemove_b59b0_16 rfl (by first | rfl | exact rv_cat _) ?_
  refine X_istore_n 18 hO dJx4a65c_fastRemove_b59b0_17 rfl rfl ?_
  refine X_iload_n 19 hO dJx4a65c_fastRemove_b59b0_18 rfl rfl ?_
  refine X_icmp_le 22 34 hO dJx4a65c_fastRemove_b59b0_19 rfl rfl (by omega) (by omega) (fun hc_19 => ?_) (fun hc_19 => ?_)
  ·
    refine X_aload_n 35 hO dJx4a65c_fastRemove_b59b0_34 rfl rfl ?_
    refine X_aload_n 36 hO dJx4a65c_fastRemove_b59b0_35 rfl rfl ?_
    refine X_iload_n 37 hO dJx4a65c_fastRemove_b59b0_36 rfl rfl ?_
    refine X_dup_x1 38 hO dJx4a65c_fastRemove_b59b0_37 rfl (by first | rfl | exact rv_cat _) (by first | rfl | exact rv_cat _) ?_
    refine pJx4a65c_48 41 hO dJx4a65c_fastRemove_b59b0_38 rfl (by first | assumption | omega | (simp (disch := first | decide | assumption | omega) only [up_k, up_s, up_a, up_i, flA_k, flA_a, flA_n, cpA_k, cpA_a, newO_o, newA_o, newO_t, newA_t, newA_n, cpQ_k, cpQ_a] <;> first | assumption | omega)) (by omega) ?_
    refine X_null 42 hO dJx4a65c_fastRemove_b59b0_41 rfl ?_
    refine X_aast (t := 27) (tv := 5) (C := "java/lang/Object") 43 hO rfl (by decide) (by decide) rfl (Or.inl (by decide)) dJx4a65c_fastRemove_b59b0_42 rfl (by first | assumption | omega | (simp (disch := first | decide | assumption | omega) only [up_k, up_s, up_a, up_i, flA_k, flA_a, flA_n, cpA_k, cpA_a, newO_o, newA_o, newO_t, newA_t, newA_n, cpQ_k, cpQ_a] <;> first | assumption | omega)) (by first | assumption | omega | (simp (disch := first | decide | assumption | omega) only [up_k, up_s, up_a, up_i, flA_k, flA_a, flA_n, cpA_k, cpA_a, newO_o, newA_o, newO_t, newA_t, newA_n, cpQ_k, cpQ_a] <;> first | assumption | omega)) (Or.inl rfl) ?_
    exact X_vret hO hF rfl dJx4a65c_fastRemove_b59b0_43 ⟨rfl, (by unfold a_frm; first | (rw [if_pos (by omega)]; done) | (rw [if_neg (by omega)]; done))⟩
  ·
    refine X_aload_n 23 hO dJx4a65c_fastRemove_b59b0_22 rfl rfl ?_
    refine X_iload_n 24 hO dJx4a65c_fastRemove_b59b0_23 rfl rfl ?_
    refine X_iconst 25 hO dJx4a65c_fastRemove_b59b0_24 rfl ?_
    refine X_iadd 26 hO dJx4a65c_fastRemove_b59b0_25 rfl ?_
    refine X_aload_n 27 hO dJx4a65c_fastRemove_b59b0_26 rfl rfl ?_
    refine X_iload_n 28 hO dJx4a65c_fastRemove_b59b0_27 rfl rfl ?_
    refine X_iload_n 29 hO dJx4a65c_fastRemove_b59b0_28 rfl rfl ?_
    refine X_iload_n 30 hO dJx4a65c_fastRemove_b59b0_29 rfl rfl ?_
    refine X_isub 31 hO dJx4a65c_fastRemove_b59b0_30 rfl ?_
    refine X_copyq 34 hO w_1078 dJx4a65c_fastRemove_b59b0_31 rfl  (by first | assumption | omega | (simp (disch := first | decide | assumption | omega) only [up_k, up_s, up_a, up_i, flA_k, flA_a, flA_n, cpA_k, cpA_a, newO_o, newA_o, newO_t, newA_t, newA_n, cpQ_k, cpQ_a] <;> first | assumption | omega)) (by first | assumption | omega | (simp (disch := first | decide | assumption | omega) only [up_k, up_s, up_a, up_i, flA_k, flA_a, flA_n, cpA_k, cpA_a, newO_o, newA_o, newO_t, newA_t, newA_n, cpQ_k, cpQ_a] <;> first | assumption | omega)) (by simp (disch := decide) only [up_k]; omega) (by simp (disch := decide) only [up_k]; omega) (by omega) (fun j g1 g2 => by simp (disch := decide) only [up_k]; exact he j (by omega) (by omega)) hD (by decide) (by simp [rv_cat, int_cat]) ?_
    refine X_aload_n 35 hO dJx4a65c_fastRemove_b59b0_34 rfl rfl ?_
    refine X_aload_n 36 hO dJx4a65c_fastRemove_b59b0_35 rfl rfl ?_
    refine X_iload_n 37 hO dJx4a65c_fastRemove_b59b0_36 rfl rfl ?_
    refine X_dup_x1 38 hO dJx4a65c_fastRemove_b59b0_37 rfl (by first | rfl | exact rv_cat _) (by first | rfl | exact rv_cat _) ?_
    refine pJx4a65c_48 41 hO dJx4a65c_fastRemove_b59b0_38 rfl (by first | assumption | omega | (simp (disch := first | decide | assumption | omega) only [up_k, up_s, up_a, up_i, flA_k, flA_a, flA_n, cpA_k, cpA_a, newO_o, newA_o, newO_t, newA_t, newA_n, cpQ_k, cpQ_a] <;> first | assumption | omega)) (by omega) ?_
    refine X_null 42 hO dJx4a65c_fastRemove_b59b0_41 rfl ?_
    refine X_aast (t := 27) (tv := 5) (C := "java/lang/Object") 43 hO rfl (by decide) (by decide) rfl (Or.inl (by decide)) dJx4a65c_fastRemove_b59b0_42 rfl (by first | assumption | omega | (simp (disch := first | decide | assumption | omega) only [up_k, up_s, up_a, up_i, flA_k, flA_a, flA_n, cpA_k, cpA_a, newO_o, newA_o, newO_t, newA_t, newA_n, cpQ_k, cpQ_a] <;> first | assumption | omega)) (by first | assumption | omega | (simp (disch := first | decide | assumption | omega) only [up_k, up_s, up_a, up_i, flA_k, flA_a, flA_n, cpA_k, cpA_a, newO_o, newA_o, newO_t, newA_t, newA_n, cpQ_k, cpQ_a] <;> first | assumption | omega)) (Or.inl rfl) ?_
    exact X_vret hO hF rfl dJx4a65c_fastRemove_b59b0_43 ⟨rfl, (by unfold a_frm; first | (rw [if_pos (by omega)]; done) | (rw [if_neg (by omega)]; done))⟩
theorem dJx4a65c_remove_915e3_0 : decode cJx4a65c_remove_915e3 0 = .ok (.iload_n 1, 1) := by decide +kernel
theorem dJx4a65c_remove_915e3_1 : decode cJx4a65c_remove_915e3 1 = .ok (.aload_n 0, 1) := by decide +kernel
theorem dJx4a65c_remove_915e3_2 : decode cJx4a65c_remove_915e3 2 = .ok (.getfield 48, 3) := by decide +kernel
theorem dJx4a65c_remove_915e3_5 : decode cJx4a65c_remove_915e3 5 = .ok (.invokestatic 118, 3) := by decide +kernel
theorem dJx4a65c_remove_915e3_8 : decode cJx4a65c_remove_915e3 8 = .ok (.pop, 1) := by decide +kernel
theorem dJx4a65c_remove_915e3_9 : decode cJx4a65c_remove_915e3 9 = .ok (.aload_n 0, 1) := by decide +kernel
theorem dJx4a65c_remove_915e3_10 : decode cJx4a65c_remove_915e3 10 = .ok (.getfield 9, 3) := by decide +kernel
theorem dJx4a65c_remove_915e3_13 : decode cJx4a65c_remove_915e3 13 = .ok (.astore_n 2, 1) := by decide +kernel
theorem dJx4a65c_remove_915e3_14 : decode cJx4a65c_remove_915e3 14 = .ok (.aload_n 2, 1) := by decide +kernel
theorem dJx4a65c_remove_915e3_15 : decode cJx4a65c_remove_915e3 15 = .ok (.iload_n 1, 1) := by decide +kernel
theorem dJx4a65c_remove_915e3_16 : decode cJx4a65c_remove_915e3 16 = .ok (.aaload, 1) := by decide +kernel
theorem dJx4a65c_remove_915e3_17 : decode cJx4a65c_remove_915e3 17 = .ok (.astore_n 3, 1) := by decide +kernel
theorem dJx4a65c_remove_915e3_18 : decode cJx4a65c_remove_915e3 18 = .ok (.aload_n 0, 1) := by decide +kernel
theorem dJx4a65c_remove_915e3_19 : decode cJx4a65c_remove_915e3 19 = .ok (.aload_n 2, 1) := by decide +kernel
theorem dJx4a65c_remove_915e3_20 : decode cJx4a65c_remove_915e3 20 = .ok (.iload_n 1, 1) := by decide +kernel
theorem dJx4a65c_remove_915e3_21 : decode cJx4a65c_remove_915e3 21 = .ok (.invokevirtual 144, 3) := by decide +kernel
theorem dJx4a65c_remove_915e3_24 : decode cJx4a65c_remove_915e3 24 = .ok (.aload_n 3, 1) := by decide +kernel
theorem dJx4a65c_remove_915e3_25 : decode cJx4a65c_remove_915e3 25 = .ok (.areturn, 1) := by decide +kernel
set_option maxRecDepth 4000 in
theorem kJx4a65c_remove_915e3 (γ : LC) (w : Mm) (l i : Int) (hl : LSt w l) (he : EL5 w l) (hi : 0 ≤ i ∧ i < w 93 l 0) (hm : IR (w 92 l 0 + 1)) : KR γ 3 mJx4a65c_remove_915e3 [rv l, .int (I i)] w (0) (0) (fun r w' => r = w 3 (w 51 l 0) i ∧ w' = a_frm l i w) NX := by
  refine MX_of rfl rfl (by simp [rv_cat, int_cat]) rfl ?_
  rintro κ hO hF rfl
  have hD := hF.dp
  show X κ (0) (0) w 0 [some (rv l), some (.int (I i)), none, none] []
  obtain ⟨l0, l1, l2, l3, l4⟩ := id hl
  refine X_iload_n 1 hO dJx4a65c_remove_915e3_0 rfl rfl ?_
  refine X_aload_n 2 hO dJx4a65c_remove_915e3_1 rfl rfl ?_
  refine gJx4a65c_48 5 hO dJx4a65c_remove_915e3_2 rfl (by first | assumption | omega | (simp (disch := first | decide | assumption | omega) only [up_k, up_s, up_a, up_i, flA_k, flA_a, flA_n, cpA_k, cpA_a, newO_o, newA_o, newO_t, newA_t, newA_n, cpQ_k, cpQ_a] <;> first | assumption | omega)) (fun hi_2 => ?_)
  try simp (disch := first | decide | assumption | omega) only [up_k, up_s, up_a, up_i, flA_k, flA_a, flA_n, cpA_k, cpA_a, newO_o, newA_o, newO_t, newA_t, newA_n, cpQ_k, cpQ_a] at hi_2 ⊢
  refine X_kSi 8 hO hD lJx4a65c_118 [_, _] rfl dJx4a65c_remove_915e3_5 rfl (kJ15_checkIndex_7cf53 _ _ _ _ hi (by omega)) (by decide) (by simp [rv_cat, int_cat]) (by first | decide | exact Nat.zero_le _ | omega) (by first | decide | exact Nat.zero_le _ | omega) (fun r_5 w_5 hr_5 hp_5 => ?_) (fun E w_ hx_ => hx_.elim)
  obtain ⟨e1_5, e2_5⟩ := hp_5
  subst r_5
  subst w_5
  refine X_pop 9 hO dJx4a65c_remove_915e3_8 rfl (by first | rfl | exact rv_cat _) ?_
  refine X_aload_n 10 hO dJx4a65c_remove_915e3_9 rfl rfl ?_
  refine gJx4a65c_9 13 hO dJx4a65c_remove_915e3_10 rfl (by first | assumption | omega | (simp (disch := first | decide | assumption | omega) only [up_k, up_s, up_a, up_i, flA_k, flA_a, flA_n, cpA_k, cpA_a, newO_o, newA_o, newO_t, newA_t, newA_n, cpQ_k, cpQ_a] <;> first | assumption | omega)) ?_
  try simp (disch := first | decide | assumption | omega) only [up_k, up_s, up_a, up_i, flA_k, flA_a, flA_n, cpA_k, cpA_a, newO_o, newA_o, newO_t, newA_t, newA_n, cpQ_k, cpQ_a]
  refine X_astore_n 14 hO dJx4a65c_remove_915e3_13 rfl rfl ?_
  refine X_aload_n 15 hO dJx4a65c_remove_915e3_14 rfl rfl ?_
  refine X_iload_n 16 hO dJx4a65c_remove_915e3_15 rfl rfl ?_
  refine X_aald (t := 27) (C := "java/lang/Object") 17 hO rfl (by decide) dJx4a65c_remove_915e3_16 rfl (by first | assumption | omega | (simp (disch := first | decide | assumption | omega) only [up_k, up_s, up_a, up_i, flA_k, flA_a, flA_n, cpA_k, cpA_a, newO_o, newA_o, newO_t, newA_t, newA_n, cpQ_k, cpQ_a] <;> first | assumption | omega)) (by first | assumption | omega | (simp (disch := first | decide | assumption | omega) only [up_k, up_s, up_a, up_i, flA_k, flA_a, flA_n, cpA_k, cpA_a, newO_o, newA_o, newO_t, newA_t, newA_n, cpQ_k, cpQ_a] <;> first | assumption | omega)) ?_
  try simp (disch := first | decide | assumption | omega) only [up_k, up_s, up_a, up_i, flA_k, flA_a, flA_n, cpA_k, cpA_a, newO_o, newA_o, newO_t, newA_t, newA_n, cpQ_k, cpQ_a]
  refine X_astore_n 18 hO dJx4a65c_remove_915e3_17 rfl rfl ?_
  refine X_aload_n 19 hO dJx4a65c_remove_915e3_18 rfl rfl ?_
  refine X_aload_n 20 hO dJx4a65c_remove_915e3_19 rfl rfl ?_
  refine X_iload_n 21 hO dJx4a65c_remove_915e3_20 rfl rfl ?_
  refine X_kVv (t := 15) 24 hO hD lJx4a65c_144 rfl (by decide) [_, _] rfl dJx4a65c_remove_915e3_21 rfl (by first | assumption | omega | (simp (disch := first | decide | assumption | omega) only [up_k, up_s, up_a, up_i, flA_k, flA_a, flA_n, cpA_k, cpA_a, newO_o, newA_o, newO_t, newA_t, newA_n, cpQ_k, cpQ_a] <;> first | assumption | omega)) (kJx4a65c_fastRemove_b59b0 _ _ _ _ hl he hi hm) (by decide) (by simp [rv_cat, int_cat]) (by first | decide | exact Nat.zero_le _ | omega) (by first | decide | exact Nat.zero_le _ | omega) (fun w_21 hp_21 => ?_) (fun E w_ hx_ => hx_.elim)
  subst w_21
  refine X_aload_n 25 hO dJx4a65c_remove_915e3_24 rfl rfl ?_
  exact X_aret hO hF rfl (by first | exact Or.inl ⟨_, rfl⟩ | exact Or.inr ⟨_, rfl⟩) dJx4a65c_remove_915e3_25 ⟨_, rfl, ⟨rfl, rfl⟩⟩
