/-! the list of nodes, the tree looked at -/
def LSt (w : Mm) (l : Int) : Prop := w 0 l 0 = 15 ∧ w 0 (w 51 l 0) 0 = 27 ∧ 0 ≤ w 93 l 0 ∧ w 93 l 0 ≤ w 2 (w 51 l 0) 0 ∧ w 2 (w 51 l 0) 0 ≤ 100000
def t_find (w : Mm) (B n : Int) : Nat → Int
  | 0 => 0
  | k + 1 => if w 63 (w 3 B k) 0 ≤ n then (if w 63 (w 3 B k) 0 = n then w 3 B k else 0) else t_find w B n k
def t_last (w : Mm) (B p : Int) : Nat → Int
  | 0 => 0
  | k + 1 => if w 26 (w 3 B k) 0 = p then w 3 B k else t_last w B p k
theorem t_find_s {w : Mm} {B n j : Int} {m : Nat} (hj : 0 ≤ j) (e : m = (j + 1).toNat) : t_find w B n m = if w 63 (w 3 B j) 0 ≤ n then (if w 63 (w 3 B j) 0 = n then w 3 B j else 0) else t_find w B n j.toNat := by
  subst e
  rw [show (j + 1).toNat = j.toNat + 1 by omega]
  simp only [t_find]
  rw [show ((j.toNat : Nat) : Int) = j by omega]
theorem t_last_s {w : Mm} {B p j : Int} {m : Nat} (hj : 0 ≤ j) (e : m = (j + 1).toNat) : t_last w B p m = if w 26 (w 3 B j) 0 = p then w 3 B j else t_last w B p j.toNat := by
  subst e
  rw [show (j + 1).toNat = j.toNat + 1 by omega]
  simp only [t_last]
  rw [show ((j.toNat : Nat) : Int) = j by omega]
/-- the tree's shape: a list of nodes, their parents, the bookmarks -/
def TRt (w : Mm) (T : Int) : Prop := w 0 T 0 = 11 ∧ LSt w (w 38 T 0) ∧ (∀ i, 0 ≤ i → i < w 93 (w 38 T 0) 0 → w 0 (w 3 (w 51 (w 38 T 0) 0) i) 0 = 5 ∧ 0 ≤ w 26 (w 3 (w 51 (w 38 T 0) 0) i) 0) ∧ (w 0 (w 39 T 0) 0 = 25 ∧ w 2 (w 39 T 0) 0 = 5) ∧ (∀ i, 0 ≤ i → i < 5 → 0 ≤ w 3 (w 39 T 0) i) ∧ 0 ≤ w 40 T 0
theorem dJ3_checkIndex_8e157_0 : decode cJ3_checkIndex_8e157 0 = .ok (.iload_n 0, 1) := by decide +kernel
theorem dJ3_checkIndex_8e157_1 : decode cJ3_checkIndex_8e157 1 = .ok (.ifCond .lt 8, 3) := by decide +kernel
theorem dJ3_checkIndex_8e157_4 : decode cJ3_checkIndex_8e157 4 = .ok (.iload_n 0, 1) := by decide +kernel
theorem dJ3_checkIndex_8e157_5 : decode cJ3_checkIndex_8e157 5 = .ok (.iload_n 1, 1) := by decide +kernel
theorem dJ3_checkIndex_8e157_6 : decode cJ3_checkIndex_8e157 6 = .ok (.if_icmp .lt 10, 3) := by decide +kernel
theorem dJ3_checkIndex_8e157_9 : decode cJ3_checkIndex_8e157 9 = .ok (.aload_n 2, 1) := by decide +kernel
theorem dJ3_checkIndex_8e157_10 : decode cJ3_checkIndex_8e157 10 = .ok (.iload_n 0, 1) := by decide +kernel
theorem dJ3_checkIndex_8e157_11 : decode cJ3_checkIndex_8e157 11 = .ok (.iload_n 1, 1) := by decide +kernel
theorem dJ3_checkIndex_8e157_12 : decode cJ3_checkIndex_8e157 12 = .ok (.invokestatic 95, 3) := by decide +kernel
theorem dJ3_checkIndex_8e157_15 : decode cJ3_checkIndex_8e157 15 = .ok (.athrow, 1) := by decide +kernel
theorem dJ3_checkIndex_8e157_16 : decode cJ3_checkIndex_8e157 16 = .ok (.iload_n 0, 1) := by decide +kernel
theorem dJ3_checkIndex_8e157_17 : decode cJ3_checkIndex_8e157 17 = .ok (.ireturn, 1) := by decide +kernel
set_option maxRecDepth 4000 in
theorem kJ3_checkIndex_8e157 (γ : LC) (w : Mm) (i n q : Int) (h : 0 ≤ i ∧ i < n) (hn : IR n) : KI γ 1 mJ3_checkIndex_8e157 [.int (I i), .int (I n), rv q] w (0) (0) (fun r w' => r = i ∧ w' = w) NX := by
  refine MX_of rfl rfl (by simp [rv_cat, int_cat]) rfl ?_
  rintro κ hO hF rfl
  have hD := hF.dp
  show X κ (0) (0) w 0 [some (.int (I i)), some (.int (I n)), some (rv q)] []
  refine X_iload_n 1 hO dJ3_checkIndex_8e157_0 rfl rfl ?_
  refine X_if_lt 4 9 hO dJ3_checkIndex_8e157_1 rfl rfl (by omega) (fun hc_1 => ?_) (fun hc_1 => ?_)
  ·
    exfalso; omega
  ·
    refine X_iload_n 5 hO dJ3_checkIndex_8e157_4 rfl rfl ?_
    refine X_iload_n 6 hO dJ3_checkIndex_8e157_5 rfl rfl ?_
    refine X_icmp_lt 9 16 hO dJ3_checkIndex_8e157_6 rfl rfl (by omega) (by omega) (fun hc_6 => ?_) (fun hc_6 => ?_)
    ·
      refine X_iload_n 17 hO dJ3_checkIndex_8e157_16 rfl rfl ?_
      exact X_iret hO hF rfl (by first | exact Or.inl rfl | exact Or.inr ⟨rfl, bi_01 _⟩ | exact Or.inr ⟨rfl, by omega⟩) dJ3_checkIndex_8e157_17 ⟨_, rfl, (by omega), ⟨rfl, rfl⟩⟩
    ·
      exfalso; omega
theorem dJ15_checkIndex_7cf53_0 : decode cJ15_checkIndex_7cf53 0 = .ok (.iload_n 0, 1) := by decide +kernel
theorem dJ15_checkIndex_7cf53_1 : decode cJ15_checkIndex_7cf53 1 = .ok (.iload_n 1, 1) := by decide +kernel
theorem dJ15_checkIndex_7cf53_2 : decode cJ15_checkIndex_7cf53 2 = .ok (.aconst_null, 1) := by decide +kernel
theorem dJ15_checkIndex_7cf53_3 : decode cJ15_checkIndex_7cf53 3 = .ok (.invokestatic 105, 3) := by decide +kernel
theorem dJ15_checkIndex_7cf53_6 : decode cJ15_checkIndex_7cf53 6 = .ok (.ireturn, 1) := by decide +kernel
set_option maxRecDepth 4000 in
theorem kJ15_checkIndex_7cf53 (γ : LC) (w : Mm) (i n : Int) (h : 0 ≤ i ∧ i < n) (hn : IR n) : KI γ 2 mJ15_checkIndex_7cf53 [.int (I i), .int (I n)] w (0) (0) (fun r w' => r = i ∧ w' = w) NX := by
  refine MX_of rfl rfl (by simp [rv_cat, int_cat]) rfl ?_
  rintro κ hO hF rfl
  have hD := hF.dp
  show X κ (0) (0) w 0 [some (.int (I i)), some (.int (I n))] []
  refine X_iload_n 1 hO dJ15_checkIndex_7cf53_0 rfl rfl ?_
  refine X_iload_n 2 hO dJ15_checkIndex_7cf53_1 rfl rfl ?_
  refine X_null 3 hO dJ15_checkIndex_7cf53_2 rfl ?_
  refine X_kSi 6 hO hD lJ15_105 [_, _, _] rfl dJ15_checkIndex_7cf53_3 rfl (kJ3_checkIndex_8e157 _ _ _ _ _ h hn) (by decide) (by simp [rv_cat, int_cat]) (by first | decide | exact Nat.zero_le _ | omega) (by first | decide | exact Nat.zero_le _ | omega) (fun r_3 w_3 hr_3 hp_3 => ?_) (fun E w_ hx_ => hx_.elim)
  obtain ⟨e1_3, e2_3⟩ := hp_3
  subst r_3
  subst w_3
  exact X_iret hO hF rfl (by first | exact Or.inl rfl | exact Or.inr ⟨rfl, bi_01 _⟩ | exact Or.inr ⟨rfl, by omega⟩) dJ15_checkIndex_7cf53_6 ⟨_, rfl, (by omega), ⟨rfl, rfl⟩⟩
theorem dJx4a65c_size_8abf5_0 : decode cJx4a65c_size_8abf5 0 = .ok (.aload_n 0, 1) := by decide +kernel
theorem dJx4a65c_size_8abf5_1 : decode cJx4a65c_size_8abf5 1 = .ok (.getfield 48, 3) := by decide +kernel
theorem dJx4a65c_size_8abf5_4 : decode cJx4a65c_size_8abf5 4 = .ok (.ireturn, 1) := by decide +kernel
set_option maxRecDepth 4000 in
theorem kJx4a65c_size_8abf5 (γ : LC) (w : Mm) (l : Int) (hl : LSt w l) : KI γ 1 mJx4a65c_size_8abf5 [rv l] w (0) (0) (fun r w' => r = w 93 l 0 ∧ w' = w) NX := by
  refine MX_of rfl rfl (by simp [rv_cat, int_cat]) rfl ?_
  rintro κ hO hF rfl
  have hD := hF.dp
  show X κ (0) (0) w 0 [some (rv l)] []
  obtain ⟨l0, l1, l2, l3, l4⟩ := id hl
  refine X_aload_n 1 hO dJx4a65c_size_8abf5_0 rfl rfl ?_
  refine gJx4a65c_48 4 hO dJx4a65c_size_8abf5_1 rfl (by first | assumption | omega | (simp (disch := first | decide | assumption | omega) only [up_k, up_s, up_a, up_i, flA_k, flA_a, flA_n, cpA_k, cpA_a, newO_o, newA_o, newO_t, newA_t, newA_n] <;> first | assumption | omega)) (fun hi_1 => ?_)
  try simp (disch := first | decide | assumption | omega) only [up_k, up_s, up_a, up_i, flA_k, flA_a, flA_n, cpA_k, cpA_a, newO_o, newA_o, newO_t, newA_t, newA_n] at hi_1 ⊢
  exact X_iret hO hF rfl (by first | exact Or.inl rfl | exact Or.inr ⟨rfl, bi_01 _⟩ | exact Or.inr ⟨rfl, by omega⟩) dJx4a65c_size_8abf5_4 ⟨_, rfl, (by omega), ⟨rfl, rfl⟩⟩
theorem dJx4a65c_elementData_915e3_0 : decode cJx4a65c_elementData_915e3 0 = .ok (.aload_n 0, 1) := by decide +kernel
theorem dJx4a65c_elementData_915e3_1 : decode cJx4a65c_elementData_915e3 1 = .ok (.getfield 9, 3) := by decide +kernel
theorem dJx4a65c_elementData_915e3_4 : decode cJx4a65c_elementData_915e3 4 = .ok (.iload_n 1, 1) := by decide +kernel
theorem dJx4a65c_elementData_915e3_5 : decode cJx4a65c_elementData_915e3 5 = .ok (.aaload, 1) := by decide +kernel
theorem dJx4a65c_elementData_915e3_6 : decode cJx4a65c_elementData_915e3 6 = .ok (.areturn, 1) := by decide +kernel
set_option maxRecDepth 4000 in
theorem kJx4a65c_elementData_915e3 (γ : LC) (w : Mm) (l i : Int) (hl : LSt w l) (hi : 0 ≤ i ∧ i < w 93 l 0) : KR γ 1 mJx4a65c_elementData_915e3 [rv l, .int (I i)] w (0) (0) (fun r w' => r = w 3 (w 51 l 0) i ∧ w' = w) NX := by
  refine MX_of rfl rfl (by simp [rv_cat, int_cat]) rfl ?_
  rintro κ hO hF rfl
  have hD := hF.dp
  show X κ (0) (0) w 0 [some (rv l), some (.int (I i))] []
  obtain ⟨l0, l1, l2, l3, l4⟩ := id hl
  refine X_aload_n 1 hO dJx4a65c_elementData_915e3_0 rfl rfl ?_
  refine gJx4a65c_9 4 hO dJx4a65c_elementData_915e3_1 rfl (by first | assumption | omega | (simp (disch := first | decide | assumption | omega) only [up_k, up_s, up_a, up_i, flA_k, flA_a, flA_n, cpA_k, cpA_a, newO_o, newA_o, newO_t, newA_t, newA_n] <;> first | assumption | omega)) ?_
  try simp (disch := first | decide | assumption | omega) only [up_k, up_s, up_a, up_i, flA_k, flA_a, flA_n, cpA_k, cpA_a, newO_o, newA_o, newO_t, newA_t, newA_n]
  refine X_iload_n 5 hO dJx4a65c_elementData_915e3_4 rfl rfl ?_
  refine X_aald (t := 27) (C := "java/lang/Object") 6 hO rfl (by decide) dJx4a65c_elementData_915e3_5 rfl (by first | assumption | omega | (simp (disch := first | decide | assumption | omega) only [up_k, up_s, up_a, up_i, flA_k, flA_a, flA_n, cpA_k, cpA_a, newO_o, newA_o, newO_t, newA_t, newA_n] <;> first | assumption | omega)) (by first | assumption | omega | (simp (disch := first | decide | assumption | omega) only [up_k, up_s, up_a, up_i, flA_k, flA_a, flA_n, cpA_k, cpA_a, newO_o, newA_o, newO_t, newA_t, newA_n] <;> first | assumption | omega)) ?_
  try simp (disch := first | decide | assumption | omega) only [up_k, up_s, up_a, up_i, flA_k, flA_a, flA_n, cpA_k, cpA_a, newO_o, newA_o, newO_t, newA_t, newA_n]
  exact X_aret hO hF rfl (by first | exact Or.inl ⟨_, rfl⟩ | exact Or.inr ⟨_, rfl⟩) dJx4a65c_elementData_915e3_6 ⟨_, rfl, ⟨rfl, rfl⟩⟩
theorem dJx4a65c_get_915e3_0 : decode cJx4a65c_get_915e3 0 = .ok (.iload_n 1, 1) := by decide +kernel
theorem dJx4a65c_get_915e3_1 : decode cJx4a65c_get_915e3 1 = .ok (.aload_n 0, 1) := by decide +kernel
theorem dJx4a65c_get_915e3_2 : decode cJx4a65c_get_915e3 2 = .ok (.getfield 48, 3) := by decide +kernel
theorem dJx4a65c_get_915e3_5 : decode cJx4a65c_get_915e3 5 = .ok (.invokestatic 118, 3) := by decide +kernel
theorem dJx4a65c_get_915e3_8 : decode cJx4a65c_get_915e3 8 = .ok (.pop, 1) := by decide +kernel
theorem dJx4a65c_get_915e3_9 : decode cJx4a65c_get_915e3 9 = .ok (.aload_n 0, 1) := by decide +kernel
theorem dJx4a65c_get_915e3_10 : decode cJx4a65c_get_915e3 10 = .ok (.iload_n 1, 1) := by decide +kernel
theorem dJx4a65c_get_915e3_11 : decode cJx4a65c_get_915e3 11 = .ok (.invokevirtual 123, 3) := by decide +kernel
theorem dJx4a65c_get_915e3_14 : decode cJx4a65c_get_915e3 14 = .ok (.areturn, 1) := by decide +kernel
set_option maxRecDepth 4000 in
theorem kJx4a65c_get_915e3 (γ : LC) (w : Mm) (l i : Int) (hl : LSt w l) (hi : 0 ≤ i ∧ i < w 93 l 0) : KR γ 3 mJx4a65c_get_915e3 [rv l, .int (I i)] w (0) (0) (fun r w' => r = w 3 (w 51 l 0) i ∧ w' = w) NX := by
  refine MX_of rfl rfl (by simp [rv_cat, int_cat]) rfl ?_
  rintro κ hO hF rfl
  have hD := hF.dp
  show X κ (0) (0) w 0 [some (rv l), some (.int (I i))] []
  obtain ⟨l0, l1, l2, l3, l4⟩ := id hl
  refine X_iload_n 1 hO dJx4a65c_get_915e3_0 rfl rfl ?_
  refine X_aload_n 2 hO dJx4a65c_get_915e3_1 rfl rfl ?_
  refine gJx4a65c_48 5 hO dJx4a65c_get_915e3_2 rfl (by first | assumption | omega | (simp (disch := first | decide | assumption | omega) only [up_k, up_s, up_a, up_i, flA_k, flA_a, flA_n, cpA_k, cpA_a, newO_o, newA_o, newO_t, newA_t, newA_n] <;> first | assumption | omega)) (fun hi_2 => ?_)
  try simp (disch := first | decide | assumption | omega) only [up_k, up_s, up_a, up_i, flA_k, flA_a, flA_n, cpA_k, cpA_a, newO_o, newA_o, newO_t, newA_t, newA_n] at hi_2 ⊢
  refine X_kSi 8 hO hD lJx4a65c_118 [_, _] rfl dJx4a65c_get_915e3_5 rfl (kJ15_checkIndex_7cf53 _ _ _ _ hi (by omega)) (by decide) (by simp [rv_cat, int_cat]) (by first | decide | exact Nat.zero_le _ | omega) (by first | decide | exact Nat.zero_le _ | omega) (fun r_5 w_5 hr_5 hp_5 => ?_) (fun E w_ hx_ => hx_.elim)
  obtain ⟨e1_5, e2_5⟩ := hp_5
  subst r_5
  subst w_5
  refine X_pop 9 hO dJx4a65c_get_915e3_8 rfl (by first | rfl | exact rv_cat _) ?_
  refine X_aload_n 10 hO dJx4a65c_get_915e3_9 rfl rfl ?_
  refine X_iload_n 11 hO dJx4a65c_get_915e3_10 rfl rfl ?_
  refine X_kVr (t := 15) 14 hO hD lJx4a65c_123 rfl (by decide) [_] rfl dJx4a65c_get_915e3_11 rfl (by first | assumption | omega | (simp (disch := first | decide | assumption | omega) only [up_k, up_s, up_a, up_i, flA_k, flA_a, flA_n, cpA_k, cpA_a, newO_o, newA_o, newO_t, newA_t, newA_n] <;> first | assumption | omega)) (kJx4a65c_elementData_915e3 _ _ _ _ hl hi) (by decide) (by simp [rv_cat, int_cat]) (by first | decide | exact Nat.zero_le _ | omega) (by first | decide | exact Nat.zero_le _ | omega) (fun r_11 w_11 hp_11 => ?_) (fun E w_ hx_ => hx_.elim)
  obtain ⟨e1_11, e2_11⟩ := hp_11
  subst r_11
  subst w_11
  exact X_aret hO hF rfl (by first | exact Or.inl ⟨_, rfl⟩ | exact Or.inr ⟨_, rfl⟩) dJx4a65c_get_915e3_14 ⟨_, rfl, ⟨rfl, rfl⟩⟩
theorem dX10_find_0 : decode cX10_find 0 = .ok (.iload_n 1, 1) := by decide +kernel
theorem dX10_find_1 : decode cX10_find 1 = .ok (.aload_n 0, 1) := by decide +kernel
theorem dX10_find_2 : decode cX10_find 2 = .ok (.getfield 12, 3) := by decide +kernel
theorem dX10_find_5 : decode cX10_find 5 = .ok (.invokeinterface 44 1, 5) := by decide +kernel
theorem dX10_find_10 : decode cX10_find 10 = .ok (.iconst 1, 1) := by decide +kernel
theorem dX10_find_11 : decode cX10_find 11 = .ok (.isub, 1) := by decide +kernel
theorem dX10_find_12 : decode cX10_find 12 = .ok (.invokestatic 48, 3) := by decide +kernel
theorem dX10_find_15 : decode cX10_find 15 = .ok (.istore_n 2, 1) := by decide +kernel
theorem dX10_find_16 : decode cX10_find 16 = .ok (.iload_n 2, 1) := by decide +kernel
theorem dX10_find_17 : decode cX10_find 17 = .ok (.ifCond .lt 45, 3) := by decide +kernel
theorem dX10_find_20 : decode cX10_find 20 = .ok (.aload_n 0, 1) := by decide +kernel
theorem dX10_find_21 : decode cX10_find 21 = .ok (.getfield 12, 3) := by decide +kernel
theorem dX10_find_24 : decode cX10_find 24 = .ok (.iload_n 2, 1) := by decide +kernel
theorem dX10_find_25 : decode cX10_find 25 = .ok (.invokeinterface 54 2, 5) := by decide +kernel
theorem dX10_find_30 : decode cX10_find 30 = .ok (.checkcast 18, 3) := by decide +kernel
theorem dX10_find_33 : decode cX10_find 33 = .ok (.astore_n 3, 1) := by decide +kernel
theorem dX10_find_34 : decode cX10_find 34 = .ok (.aload_n 3, 1) := by decide +kernel
theorem dX10_find_35 : decode cX10_find 35 = .ok (.getfield 58, 3) := by decide +kernel
theorem dX10_find_38 : decode cX10_find 38 = .ok (.iload_n 1, 1) := by decide +kernel
theorem dX10_find_39 : decode cX10_find 39 = .ok (.if_icmp .gt 17, 3) := by decide +kernel
theorem dX10_find_42 : decode cX10_find 42 = .ok (.aload_n 3, 1) := by decide +kernel
theorem dX10_find_43 : decode cX10_find 43 = .ok (.getfield 58, 3) := by decide +kernel
theorem dX10_find_46 : decode cX10_find 46 = .ok (.iload_n 1, 1) := by decide +kernel
theorem dX10_find_47 : decode cX10_find 47 = .ok (.if_icmp .ne 7, 3) := by decide +kernel
theorem dX10_find_50 : decode cX10_find 50 = .ok (.aload_n 3, 1) := by decide +kernel
theorem dX10_find_51 : decode cX10_find 51 = .ok (.goto 4, 3) := by decide +kernel
theorem dX10_find_54 : decode cX10_find 54 = .ok (.aconst_null, 1) := by decide +kernel
theorem dX10_find_55 : decode cX10_find 55 = .ok (.areturn, 1) := by decide +kernel
theorem dX10_find_56 : decode cX10_find 56 = .ok (.iinc 2 (-1), 3) := by decide +kernel
theorem dX10_find_59 : decode cX10_find 59 = .ok (.goto (-43), 3) := by decide +kernel
theorem dX10_find_62 : decode cX10_find 62 = .ok (.aconst_null, 1) := by decide +kernel
theorem dX10_find_63 : decode cX10_find 63 = .ok (.areturn, 1) := by decide +kernel
set_option maxRecDepth 4000 in
theorem kX10_find (γ : LC) (w : Mm) (T n : Int) (hT : TRt w T) (hn : IR n) : KR γ 4 mX10_find [rv T, .int (I n)] w (0) (0) (fun r w' => r = t_find w (w 51 (w 38 T 0) 0) n ((if w 93 (w 38 T 0) 0 - 1 < n then w 93 (w 38 T 0) 0 - 1 else n) + 1).toNat ∧ w' = w) NX := by
  refine MX_of rfl rfl (by simp [rv_cat, int_cat]) rfl ?_
  rintro κ hO hF rfl
  have hD := hF.dp
  show X κ (0) (0) w 0 [some (rv T), some (.int (I n)), none, none] []
  obtain ⟨t0, hl, hx, ⟨b1, b2⟩, b3, c1⟩ := id hT
  obtain ⟨l0, l1, l2, l3, l4⟩ := id hl
  obtain ⟨e, he⟩ : ∃ e, e = (if w 93 (w 38 T 0) 0 - 1 < n then w 93 (w 38 T 0) 0 - 1 else n) := ⟨_, rfl⟩
  have e1 : e < w 93 (w 38 T 0) 0 ∧ IR e := by rw [he]; split <;> omega
  refine X_iload_n 1 hO dX10_find_0 rfl rfl ?_
  refine X_aload_n 2 hO dX10_find_1 rfl rfl ?_
  refine gX10_12 5 hO dX10_find_2 rfl (by first | assumption | omega | (simp (disch := first | decide | assumption | omega) only [up_k, up_s, up_a, up_i, flA_k, flA_a, flA_n, cpA_k, cpA_a, newO_o, newA_o, newO_t, newA_t, newA_n] <;> first | assumption | omega)) ?_
  try simp (disch := first | decide | assumption | omega) only [up_k, up_s, up_a, up_i, flA_k, flA_a, flA_n, cpA_k, cpA_a, newO_o, newA_o, newO_t, newA_t, newA_n]
  refine X_kFi 10 hO hD fX10_44 [] rfl dX10_find_5 rfl (by first | assumption | omega | (simp (disch := first | decide | assumption | omega) only [up_k, up_s, up_a, up_i, flA_k, flA_a, flA_n, cpA_k, cpA_a, newO_o, newA_o, newO_t, newA_t, newA_n] <;> first | assumption | omega)) (kJx4a65c_size_8abf5 _ _ _ hl) (by decide) (by simp [rv_cat, int_cat]) (by first | decide | exact Nat.zero_le _ | omega) (by first | decide | exact Nat.zero_le _ | omega) (fun r_5 w_5 hr_5 hp_5 => ?_) (fun E w_ hx_ => hx_.elim)
  obtain ⟨e1_5, e2_5⟩ := hp_5
  subst r_5
  subst w_5
  refine X_iconst 11 hO dX10_find_10 rfl ?_
  refine X_isub 12 hO dX10_find_11 rfl ?_
  refine X_mmin 15 hO w_1343 dX10_find_12 rfl (by omega) (by omega) hD (by decide) (by simp [rv_cat, int_cat]) ?_
  rw [← he]
  refine X_istore_n 16 hO dX10_find_15 rfl rfl ?_
  have LP16 : ∀ (nn : Nat) (j : Int), (j + 1).toNat < nn → (-1 ≤ j ∨ j = e) → (j ≤ e) → (t_find w (w 51 (w 38 T 0) 0) n (e + 1).toNat = t_find w (w 51 (w 38 T 0) 0) n (j + 1).toNat) → X κ (0) (0) (w) 16 [some (rv T), some (.int (I n)), some (.int (I j)), none] [] := by
    intro nn
    induction nn with
    | zero => intro j hm; exact absurd hm (Nat.not_lt_zero _)
    | succ nn ih =>
      intro j hm hj hj2 hE
      refine X_iload_n 17 hO dX10_find_16 rfl rfl ?_
      refine X_if_lt 20 62 hO dX10_find_17 rfl rfl (by omega) (fun hc_17 => ?_) (fun hc_17 => ?_)
      ·
        refine X_null 63 hO dX10_find_62 rfl ?_
        exact X_aret hO hF rfl (by first | exact Or.inl ⟨_, rfl⟩ | exact Or.inr ⟨_, rfl⟩) dX10_find_63 ⟨_, rfl, (by show _ = _ ∧ _; rw [← he, hE, show (j + 1).toNat = 0 by omega]; exact ⟨rfl, rfl⟩)⟩
      ·
        refine X_aload_n 21 hO dX10_find_20 rfl rfl ?_
        refine gX10_12 24 hO dX10_find_21 rfl (by first | assumption | omega | (simp (disch := first | decide | assumption | omega) only [up_k, up_s, up_a, up_i, flA_k, flA_a, flA_n, cpA_k, cpA_a, newO_o, newA_o, newO_t, newA_t, newA_n] <;> first | assumption | omega)) ?_
        try simp (disch := first | decide | assumption | omega) only [up_k, up_s, up_a, up_i, flA_k, flA_a, flA_n, cpA_k, cpA_a, newO_o, newA_o, newO_t, newA_t, newA_n]
        refine X_iload_n 25 hO dX10_find_24 rfl rfl ?_
        refine X_kFr 30 hO hD fX10_54 [_] rfl dX10_find_25 rfl (by first | assumption | omega | (simp (disch := first | decide | assumption | omega) only [up_k, up_s, up_a, up_i, flA_k, flA_a, flA_n, cpA_k, cpA_a, newO_o, newA_o, newO_t, newA_t, newA_n] <;> first | assumption | omega)) (kJx4a65c_get_915e3 _ _ _ _ hl (by omega)) (by decide) (by simp [rv_cat, int_cat]) (by first | decide | exact Nat.zero_le _ | omega) (by first | decide | exact Nat.zero_le _ | omega) (fun r_25 w_25 hp_25 => ?_) (fun E w_ hx_ => hx_.elim)
        obtain ⟨e1_25, e2_25⟩ := hp_25
        subst r_25
        subst w_25
        have hxj := (hx j (by omega) (by omega)).1
        refine X_cast (t := 5) 33 hO w_284 rfl (by decide) dX10_find_30 rfl (Or.inr hxj) ?_
        refine X_astore_n 34 hO dX10_find_33 rfl rfl ?_
        refine X_aload_n 35 hO dX10_find_34 rfl rfl ?_
        refine gX10_58 38 hO dX10_find_35 rfl (by first | assumption | omega | (simp (disch := first | decide | assumption | omega) only [up_k, up_s, up_a, up_i, flA_k, flA_a, flA_n, cpA_k, cpA_a, newO_o, newA_o, newO_t, newA_t, newA_n] <;> first | assumption | omega)) (fun hi_35 => ?_)
        try simp (disch := first | decide | assumption | omega) only [up_k, up_s, up_a, up_i, flA_k, flA_a, flA_n, cpA_k, cpA_a, newO_o, newA_o, newO_t, newA_t, newA_n] at hi_35 ⊢
        refine X_iload_n 39 hO dX10_find_38 rfl rfl ?_
        refine X_icmp_gt 42 56 hO dX10_find_39 rfl rfl (by omega) (by omega) (fun hc_39 => ?_) (fun hc_39 => ?_)
        ·
          refine X_iinc 59 hO dX10_find_56 rfl rfl ?_
          refine X_goto hO dX10_find_59 (tgt := 16) rfl ?_
          exact X_wk (by simp only [lwk, lset, true_or, or_true, and_self]) (ih (j + -1) (by omega) (by omega) (by omega) (hE.trans (by rw [t_find_s (j := j) (by omega) rfl, if_neg (by omega), show j + -1 + 1 = j by omega])))
        ·
          have JP55 : ∀ (z : Int), (z = if w 63 (w 3 (w 51 (w 38 T 0) 0) j) 0 = n then w 3 (w 51 (w 38 T 0) 0) j else 0) → X κ (0) (0) (w) 55 [some (rv T), some (.int (I n)), some (.int (I j)), some (rv (w 3 (w 51 (w 38 T 0) 0) j))] [rv z] := by
            intro z hz
            exact X_aret hO hF rfl (by first | exact Or.inl ⟨_, rfl⟩ | exact Or.inr ⟨_, rfl⟩) dX10_find_55 ⟨_, rfl, (by show _ = _ ∧ _; rw [← he, hE, t_find_s (j := j) (by omega) rfl, if_pos (by omega)]; exact ⟨hz, rfl⟩)⟩
          refine X_aload_n 43 hO dX10_find_42 rfl rfl ?_
          refine gX10_58 46 hO dX10_find_43 rfl (by first | assumption | omega | (simp (disch := first | decide | assumption | omega) only [up_k, up_s, up_a, up_i, flA_k, flA_a, flA_n, cpA_k, cpA_a, newO_o, newA_o, newO_t, newA_t, newA_n] <;> first | assumption | omega)) (fun hi_43 => ?_)
          try simp (disch := first | decide | assumption | omega) only [up_k, up_s, up_a, up_i, flA_k, flA_a, flA_n, cpA_k, cpA_a, newO_o, newA_o, newO_t, newA_t, newA_n] at hi_43 ⊢
          refine X_iload_n 47 hO dX10_find_46 rfl rfl ?_
          refine X_icmp_ne 50 54 hO dX10_find_47 rfl rfl (by omega) (by omega) (fun hc_47 => ?_) (fun hc_47 => ?_)
          ·
            refine X_null 55 hO dX10_find_54 rfl ?_
            exact JP55 _ (by first | rw [if_pos (by omega)] | rw [if_neg (by omega)])
          ·
            refine X_aload_n 51 hO dX10_find_50 rfl rfl ?_
            refine X_goto hO dX10_find_51 (tgt := 55) rfl ?_
            exact JP55 _ (by first | rw [if_pos (by omega)] | rw [if_neg (by omega)])
  exact X_wk (by simp only [lwk, lset, true_or, or_true, and_self]) (LP16 _ e (Nat.lt_succ_self _) (Or.inr rfl) (by omega) rfl)
theorem dX10_lastChild_0 : decode cX10_lastChild 0 = .ok (.aload_n 0, 1) := by decide +kernel
theorem dX10_lastChild_1 : decode cX10_lastChild 1 = .ok (.getfield 12, 3) := by decide +kernel
theorem dX10_lastChild_4 : decode cX10_lastChild 4 = .ok (.invokeinterface 44 1, 5) := by decide +kernel
theorem dX10_lastChild_9 : decode cX10_lastChild 9 = .ok (.iconst 1, 1) := by decide +kernel
theorem dX10_lastChild_10 : decode cX10_lastChild 10 = .ok (.isub, 1) := by decide +kernel
theorem dX10_lastChild_11 : decode cX10_lastChild 11 = .ok (.istore_n 2, 1) := by decide +kernel
theorem dX10_lastChild_12 : decode cX10_lastChild 12 = .ok (.iload_n 2, 1) := by decide +kernel
theorem dX10_lastChild_13 : decode cX10_lastChild 13 = .ok (.ifCond .lt 33, 3) := by decide +kernel
theorem dX10_lastChild_16 : decode cX10_lastChild 16 = .ok (.aload_n 0, 1) := by decide +kernel
theorem dX10_lastChild_17 : decode cX10_lastChild 17 = .ok (.getfield 12, 3) := by decide +kernel
theorem dX10_lastChild_20 : decode cX10_lastChild 20 = .ok (.iload_n 2, 1) := by decide +kernel
theorem dX10_lastChild_21 : decode cX10_lastChild 21 = .ok (.invokeinterface 54 2, 5) := by decide +kernel
theorem dX10_lastChild_26 : decode cX10_lastChild 26 = .ok (.checkcast 18, 3) := by decide +kernel
theorem dX10_lastChild_29 : decode cX10_lastChild 29 = .ok (.astore_n 3, 1) := by decide +kernel
theorem dX10_lastChild_30 : decode cX10_lastChild 30 = .ok (.aload_n 3, 1) := by decide +kernel
theorem dX10_lastChild_31 : decode cX10_lastChild 31 = .ok (.getfield 61, 3) := by decide +kernel
theorem dX10_lastChild_34 : decode cX10_lastChild 34 = .ok (.aload_n 1, 1) := by decide +kernel
theorem dX10_lastChild_35 : decode cX10_lastChild 35 = .ok (.if_acmp .ne 5, 3) := by decide +kernel
theorem dX10_lastChild_38 : decode cX10_lastChild 38 = .ok (.aload_n 3, 1) := by decide +kernel
theorem dX10_lastChild_39 : decode cX10_lastChild 39 = .ok (.areturn, 1) := by decide +kernel
theorem dX10_lastChild_40 : decode cX10_lastChild 40 = .ok (.iinc 2 (-1), 3) := by decide +kernel
theorem dX10_lastChild_43 : decode cX10_lastChild 43 = .ok (.goto (-31), 3) := by decide +kernel
theorem dX10_lastChild_46 : decode cX10_lastChild 46 = .ok (.aconst_null, 1) := by decide +kernel
theorem dX10_lastChild_47 : decode cX10_lastChild 47 = .ok (.areturn, 1) := by decide +kernel
set_option maxRecDepth 4000 in
theorem kX10_lastChild (γ : LC) (w : Mm) (T p : Int) (hT : TRt w T) (hp : 0 ≤ p) : KR γ 4 mX10_lastChild [rv T, rv p] w (0) (0) (fun r w' => r = t_last w (w 51 (w 38 T 0) 0) p (w 93 (w 38 T 0) 0).toNat ∧ w' = w) NX := by
  refine MX_of rfl rfl (by simp [rv_cat, int_cat]) rfl ?_
  rintro κ hO hF rfl
  have hD := hF.dp
  show X κ (0) (0) w 0 [some (rv T), some (rv p), none, none] []
  obtain ⟨t0, hl, hx, ⟨b1, b2⟩, b3, c1⟩ := id hT
  obtain ⟨l0, l1, l2, l3, l4⟩ := id hl
  refine X_aload_n 1 hO dX10_lastChild_0 rfl rfl ?_
  refine gX10_12 4 hO dX10_lastChild_1 rfl (by first | assumption | omega | (simp (disch := first | decide | assumption | omega) only [up_k, up_s, up_a, up_i, flA_k, flA_a, flA_n, cpA_k, cpA_a, newO_o, newA_o, newO_t, newA_t, newA_n] <;> first | assumption | omega)) ?_
  try simp (disch := first | decide | assumption | omega) only [up_k, up_s, up_a, up_i, flA_k, flA_a, flA_n, cpA_k, cpA_a, newO_o, newA_o, newO_t, newA_t, newA_n]
  refine X_kFi 9 hO hD fX10_44 [] rfl dX10_lastChild_4 rfl (by first | assumption | omega | (simp (disch := first | decide | assumption | omega) only [up_k, up_s, up_a, up_i, flA_k, flA_a, flA_n, cpA_k, cpA_a, newO_o, newA_o, newO_t, newA_t, newA_n] <;> first | assumption | omega)) (kJx4a65c_size_8abf5 _ _ _ hl) (by decide) (by simp [rv_cat, int_cat]) (by first | decide | exact Nat.zero_le _ | omega) (by first | decide | exact Nat.zero_le _ | omega) (fun r_4 w_4 hr_4 hp_4 => ?_) (fun E w_ hx_ => hx_.elim)
  obtain ⟨e1_4, e2_4⟩ := hp_4
  subst r_4
  subst w_4
  refine X_iconst 10 hO dX10_lastChild_9 rfl ?_
  refine X_isub 11 hO dX10_lastChild_10 rfl ?_
  refine X_istore_n 12 hO dX10_lastChild_11 rfl rfl ?_
  have LP12 : ∀ (nn : Nat) (j : Int), (j + 1).toNat < nn → (-1 ≤ j ∧ j < w 93 (w 38 T 0) 0) → (t_last w (w 51 (w 38 T 0) 0) p (w 93 (w 38 T 0) 0).toNat = t_last w (w 51 (w 38 T 0) 0) p (j + 1).toNat) → X κ (0) (0) (w) 12 [some (rv T), some (rv p), some (.int (I j)), none] [] := by
    intro nn
    induction nn with
    | zero => intro j hm; exact absurd hm (Nat.not_lt_zero _)
    | succ nn ih =>
      intro j hm hj hE
      refine X_iload_n 13 hO dX10_lastChild_12 rfl rfl ?_
      refine X_if_lt 16 46 hO dX10_lastChild_13 rfl rfl (by omega) (fun hc_13 => ?_) (fun hc_13 => ?_)
      ·
        refine X_null 47 hO dX10_lastChild_46 rfl ?_
        exact X_aret hO hF rfl (by first | exact Or.inl ⟨_, rfl⟩ | exact Or.inr ⟨_, rfl⟩) dX10_lastChild_47 ⟨_, rfl, (by show _ = _ ∧ _; rw [hE, show (j + 1).toNat = 0 by omega]; exact ⟨rfl, rfl⟩)⟩
      ·
        refine X_aload_n 17 hO dX10_lastChild_16 rfl rfl ?_
        refine gX10_12 20 hO dX10_lastChild_17 rfl (by first | assumption | omega | (simp (disch := first | decide | assumption | omega) only [up_k, up_s, up_a, up_i, flA_k, flA_a, flA_n, cpA_k, cpA_a, newO_o, newA_o, newO_t, newA_t, newA_n] <;> first | assumption | omega)) ?_
        try simp (disch := first | decide | assumption | omega) only [up_k, up_s, up_a, up_i, flA_k, flA_a, flA_n, cpA_k, cpA_a, newO_o, newA_o, newO_t, newA_t, newA_n]
        refine X_iload_n 21 hO dX10_lastChild_20 rfl rfl ?_
        refine X_kFr 26 hO hD fX10_54 [_] rfl dX10_lastChild_21 rfl (by first | assumption | omega | (simp (disch := first | decide | assumption | omega) only [up_k, up_s, up_a, up_i, flA_k, flA_a, flA_n, cpA_k, cpA_a, newO_o, newA_o, newO_t, newA_t, newA_n] <;> first | assumption | omega)) (kJx4a65c_get_915e3 _ _ _ _ hl (by omega)) (by decide) (by simp [rv_cat, int_cat]) (by first | decide | exact Nat.zero_le _ | omega) (by first | decide | exact Nat.zero_le _ | omega) (fun r_21 w_21 hp_21 => ?_) (fun E w_ hx_ => hx_.elim)
        obtain ⟨e1_21, e2_21⟩ := hp_21
        subst r_21
        subst w_21
        have hxj := (hx j (by omega) (by omega)).1
        have hxk := (hx j (by omega) (by omega)).2
        refine X_cast (t := 5) 29 hO w_284 rfl (by decide) dX10_lastChild_26 rfl (Or.inr hxj) ?_
        refine X_astore_n 30 hO dX10_lastChild_29 rfl rfl ?_
        refine X_aload_n 31 hO dX10_lastChild_30 rfl rfl ?_
        refine gX10_61 34 hO dX10_lastChild_31 rfl (by first | assumption | omega | (simp (disch := first | decide | assumption | omega) only [up_k, up_s, up_a, up_i, flA_k, flA_a, flA_n, cpA_k, cpA_a, newO_o, newA_o, newO_t, newA_t, newA_n] <;> first | assumption | omega)) ?_
        try simp (disch := first | decide | assumption | omega) only [up_k, up_s, up_a, up_i, flA_k, flA_a, flA_n, cpA_k, cpA_a, newO_o, newA_o, newO_t, newA_t, newA_n]
        refine X_aload_n 35 hO dX10_lastChild_34 rfl rfl ?_
        refine X_acmp_ne 38 40 hO dX10_lastChild_35 rfl rfl (by omega) (by omega) (fun hc_35 => ?_) (fun hc_35 => ?_)
        ·
          refine X_iinc 43 hO dX10_lastChild_40 rfl rfl ?_
          refine X_goto hO dX10_lastChild_43 (tgt := 12) rfl ?_
          exact X_wk (by simp only [lwk, lset, true_or, or_true, and_self]) (ih (j + -1) (by omega) (by omega) (hE.trans (by rw [t_last_s (j := j) (by omega) rfl, if_neg (by omega), show j + -1 + 1 = j by omega])))
        ·
          refine X_aload_n 39 hO dX10_lastChild_38 rfl rfl ?_
          exact X_aret hO hF rfl (by first | exact Or.inl ⟨_, rfl⟩ | exact Or.inr ⟨_, rfl⟩) dX10_lastChild_39 ⟨_, rfl, (by show _ = _ ∧ _; rw [hE, t_last_s (j := j) (by omega) rfl, if_pos (by omega)]; exact ⟨rfl, rfl⟩)⟩
  exact X_wk (by simp only [lwk, lset, true_or, or_true, and_self]) (LP12 _ (w 93 (w 38 T 0) 0 - 1) (Nat.lt_succ_self _) (by omega) (by rw [show w 93 (w 38 T 0) 0 - 1 + 1 = w 93 (w 38 T 0) 0 by omega]))
theorem dX10_canBeMerged_0 : decode cX10_canBeMerged 0 = .ok (.aload_n 1, 1) := by decide +kernel
theorem dX10_canBeMerged_1 : decode cX10_canBeMerged 1 = .ok (.getfield 61, 3) := by decide +kernel
theorem dX10_canBeMerged_4 : decode cX10_canBeMerged 4 = .ok (.ifnull 19, 3) := by decide +kernel
theorem dX10_canBeMerged_7 : decode cX10_canBeMerged 7 = .ok (.aload_n 1, 1) := by decide +kernel
theorem dX10_canBeMerged_8 : decode cX10_canBeMerged 8 = .ok (.aload_n 0, 1) := by decide +kernel
theorem dX10_canBeMerged_9 : decode cX10_canBeMerged 9 = .ok (.getfield 27, 3) := by decide +kernel
theorem dX10_canBeMerged_12 : decode cX10_canBeMerged 12 = .ok (.if_acmp .eq 11, 3) := by decide +kernel
theorem dX10_canBeMerged_15 : decode cX10_canBeMerged 15 = .ok (.aload_n 1, 1) := by decide +kernel
theorem dX10_canBeMerged_16 : decode cX10_canBeMerged 16 = .ok (.getfield 64, 3) := by decide +kernel
theorem dX10_canBeMerged_19 : decode cX10_canBeMerged 19 = .ok (.iconst 1, 1) := by decide +kernel
theorem dX10_canBeMerged_20 : decode cX10_canBeMerged 20 = .ok (.if_icmp .eq 5, 3) := by decide +kernel
theorem dX10_canBeMerged_23 : decode cX10_canBeMerged 23 = .ok (.iconst 0, 1) := by decide +kernel
theorem dX10_canBeMerged_24 : decode cX10_canBeMerged 24 = .ok (.ireturn, 1) := by decide +kernel
theorem dX10_canBeMerged_25 : decode cX10_canBeMerged 25 = .ok (.iconst 0, 1) := by decide +kernel
theorem dX10_canBeMerged_26 : decode cX10_canBeMerged 26 = .ok (.istore_n 2, 1) := by decide +kernel
theorem dX10_canBeMerged_27 : decode cX10_canBeMerged 27 = .ok (.iload_n 2, 1) := by decide +kernel
theorem dX10_canBeMerged_28 : decode cX10_canBeMerged 28 = .ok (.iconst 5, 1) := by decide +kernel
theorem dX10_canBeMerged_29 : decode cX10_canBeMerged 29 = .ok (.if_icmp .ge 21, 3) := by decide +kernel
theorem dX10_canBeMerged_32 : decode cX10_canBeMerged 32 = .ok (.aload_n 0, 1) := by decide +kernel
theorem dX10_canBeMerged_33 : decode cX10_canBeMerged 33 = .ok (.getfield 20, 3) := by decide +kernel
theorem dX10_canBeMerged_36 : decode cX10_canBeMerged 36 = .ok (.iload_n 2, 1) := by decide +kernel
theorem dX10_canBeMerged_37 : decode cX10_canBeMerged 37 = .ok (.aaload, 1) := by decide +kernel
theorem dX10_canBeMerged_38 : decode cX10_canBeMerged 38 = .ok (.aload_n 1, 1) := by decide +kernel
theorem dX10_canBeMerged_39 : decode cX10_canBeMerged 39 = .ok (.if_acmp .ne 5, 3) := by decide +kernel
theorem dX10_canBeMerged_42 : decode cX10_canBeMerged 42 = .ok (.iconst 0, 1) := by decide +kernel
theorem dX10_canBeMerged_43 : decode cX10_canBeMerged 43 = .ok (.ireturn, 1) := by decide +kernel
theorem dX10_canBeMerged_44 : decode cX10_canBeMerged 44 = .ok (.iinc 2 1, 3) := by decide +kernel
theorem dX10_canBeMerged_47 : decode cX10_canBeMerged 47 = .ok (.goto (-20), 3) := by decide +kernel
theorem dX10_canBeMerged_50 : decode cX10_canBeMerged 50 = .ok (.iconst 1, 1) := by decide +kernel
theorem dX10_canBeMerged_51 : decode cX10_canBeMerged 51 = .ok (.ireturn, 1) := by decide +kernel
set_option maxRecDepth 4000 in
theorem kX10_canBeMerged (γ : LC) (w : Mm) (T x : Int) (hT : TRt w T) (hx5 : w 0 x 0 = 5) (hx0 : 0 ≤ x) : KI γ 1 mX10_canBeMerged [rv T, rv x] w (0) (0) (fun r w' => r = bi (w 26 x 0 ≠ 0 ∧ x ≠ w 40 T 0 ∧ w 64 x 0 = 1 ∧ fnd (fun i => bi (w 3 (w 39 T 0) i ≠ x)) 0 5 0 = -1) ∧ w' = w) NX := by
  refine MX_of rfl rfl (by simp [rv_cat, int_cat]) rfl ?_
  rintro κ hO hF rfl
  have hD := hF.dp
  show X κ (0) (0) w 0 [some (rv T), some (rv x), none] []
  obtain ⟨t0, hl, hx, ⟨b1, b2⟩, b3, c1⟩ := id hT
  obtain ⟨l0, l1, l2, l3, l4⟩ := id hl
  refine X_aload_n 1 hO dX10_canBeMerged_0 rfl rfl ?_
  refine gX10_61 4 hO dX10_canBeMerged_1 rfl (by first | assumption | omega | (simp (disch := first | decide | assumption | omega) only [up_k, up_s, up_a, up_i, flA_k, flA_a, flA_n, cpA_k, cpA_a, newO_o, newA_o, newO_t, newA_t, newA_n] <;> first | assumption | omega)) ?_
  try simp (disch := first | decide | assumption | omega) only [up_k, up_s, up_a, up_i, flA_k, flA_a, flA_n, cpA_k, cpA_a, newO_o, newA_o, newO_t, newA_t, newA_n]
  refine X_ifnull 7 23 hO dX10_canBeMerged_4 rfl rfl (fun hc_4 => ?_) (fun hc_4 => ?_)
  ·
    refine X_iconst 24 hO dX10_canBeMerged_23 rfl ?_
    exact X_iret hO hF rfl (by first | exact Or.inl rfl | exact Or.inr ⟨rfl, bi_01 _⟩ | exact Or.inr ⟨rfl, by omega⟩) dX10_canBeMerged_24 ⟨_, rfl, (by omega), ⟨bi_f (by omega), rfl⟩⟩
  ·
    refine X_aload_n 8 hO dX10_canBeMerged_7 rfl rfl ?_
    refine X_aload_n 9 hO dX10_canBeMerged_8 rfl rfl ?_
    refine gX10_27 12 hO dX10_canBeMerged_9 rfl (by first | assumption | omega | (simp (disch := first | decide | assumption | omega) only [up_k, up_s, up_a, up_i, flA_k, flA_a, flA_n, cpA_k, cpA_a, newO_o, newA_o, newO_t, newA_t, newA_n] <;> first | assumption | omega)) ?_
    try simp (disch := first | decide | assumption | omega) only [up_k, up_s, up_a, up_i, flA_k, flA_a, flA_n, cpA_k, cpA_a, newO_o, newA_o, newO_t, newA_t, newA_n]
    refine X_acmp_eq 15 23 hO dX10_canBeMerged_12 rfl rfl (by omega) (by omega) (fun hc_12 => ?_) (fun hc_12 => ?_)
    ·
      refine X_iconst 24 hO dX10_canBeMerged_23 rfl ?_
      exact X_iret hO hF rfl (by first | exact Or.inl rfl | exact Or.inr ⟨rfl, bi_01 _⟩ | exact Or.inr ⟨rfl, by omega⟩) dX10_canBeMerged_24 ⟨_, rfl, (by omega), ⟨bi_f (by omega), rfl⟩⟩
    ·
      refine X_aload_n 16 hO dX10_canBeMerged_15 rfl rfl ?_
      refine gX10_64 19 hO dX10_canBeMerged_16 rfl (by first | assumption | omega | (simp (disch := first | decide | assumption | omega) only [up_k, up_s, up_a, up_i, flA_k, flA_a, flA_n, cpA_k, cpA_a, newO_o, newA_o, newO_t, newA_t, newA_n] <;> first | assumption | omega)) (fun hi_16 => ?_)
      try simp (disch := first | decide | assumption | omega) only [up_k, up_s, up_a, up_i, flA_k, flA_a, flA_n, cpA_k, cpA_a, newO_o, newA_o, newO_t, newA_t, newA_n] at hi_16 ⊢
      refine X_iconst 20 hO dX10_canBeMerged_19 rfl ?_
      refine X_icmp_eq 23 25 hO dX10_canBeMerged_20 rfl rfl (by omega) (by omega) (fun hc_20 => ?_) (fun hc_20 => ?_)
      ·
        refine X_iconst 26 hO dX10_canBeMerged_25 rfl ?_
        refine X_istore_n 27 hO dX10_canBeMerged_26 rfl rfl ?_
        have LP27 : ∀ (nn : Nat) (j : Int), (5 - j).toNat < nn → (0 ≤ j ∧ j ≤ 5) → (fnd (fun i => bi (w 3 (w 39 T 0) i ≠ x)) 0 5 0 = fnd (fun i => bi (w 3 (w 39 T 0) i ≠ x)) 0 (5 - j).toNat j) → X κ (0) (0) (w) 27 [some (rv T), some (rv x), some (.int (I j))] [] := by
          intro nn
          induction nn with
          | zero => intro j hm; exact absurd hm (Nat.not_lt_zero _)
          | succ nn ih =>
            intro j hm hj hE
            refine X_iload_n 28 hO dX10_canBeMerged_27 rfl rfl ?_
            refine X_iconst 29 hO dX10_canBeMerged_28 rfl ?_
            refine X_icmp_ge 32 50 hO dX10_canBeMerged_29 rfl rfl (by omega) (by omega) (fun hc_29 => ?_) (fun hc_29 => ?_)
            ·
              refine X_iconst 51 hO dX10_canBeMerged_50 rfl ?_
              exact X_iret hO hF rfl (by first | exact Or.inl rfl | exact Or.inr ⟨rfl, bi_01 _⟩ | exact Or.inr ⟨rfl, by omega⟩) dX10_canBeMerged_51 ⟨_, rfl, (by omega), ⟨(by rw [hE, fnd_no (by omega)]; exact bi_t ⟨by omega, by omega, by omega, rfl⟩), rfl⟩⟩
            ·
              refine X_aload_n 33 hO dX10_canBeMerged_32 rfl rfl ?_
              refine gX10_20 36 hO dX10_canBeMerged_33 rfl (by first | assumption | omega | (simp (disch := first | decide | assumption | omega) only [up_k, up_s, up_a, up_i, flA_k, flA_a, flA_n, cpA_k, cpA_a, newO_o, newA_o, newO_t, newA_t, newA_n] <;> first | assumption | omega)) ?_
              try simp (disch := first | decide | assumption | omega) only [up_k, up_s, up_a, up_i, flA_k, flA_a, flA_n, cpA_k, cpA_a, newO_o, newA_o, newO_t, newA_t, newA_n]
              refine X_iload_n 37 hO dX10_canBeMerged_36 rfl rfl ?_
              refine X_aald (t := 25) (C := "Foldback$Node") 38 hO rfl (by decide) dX10_canBeMerged_37 rfl (by first | assumption | omega | (simp (disch := first | decide | assumption | omega) only [up_k, up_s, up_a, up_i, flA_k, flA_a, flA_n, cpA_k, cpA_a, newO_o, newA_o, newO_t, newA_t, newA_n] <;> first | assumption | omega)) (by first | assumption | omega | (simp (disch := first | decide | assumption | omega) only [up_k, up_s, up_a, up_i, flA_k, flA_a, flA_n, cpA_k, cpA_a, newO_o, newA_o, newO_t, newA_t, newA_n] <;> first | assumption | omega)) ?_
              try simp (disch := first | decide | assumption | omega) only [up_k, up_s, up_a, up_i, flA_k, flA_a, flA_n, cpA_k, cpA_a, newO_o, newA_o, newO_t, newA_t, newA_n]
              have hbj := b3 j (by omega) (by omega)
              refine X_aload_n 39 hO dX10_canBeMerged_38 rfl rfl ?_
              refine X_acmp_ne 42 44 hO dX10_canBeMerged_39 rfl rfl (by omega) (by omega) (fun hc_39 => ?_) (fun hc_39 => ?_)
              ·
                refine X_iinc 47 hO dX10_canBeMerged_44 rfl rfl ?_
                refine X_goto hO dX10_canBeMerged_47 (tgt := 27) rfl ?_
                exact ih (j + 1) (by omega) (by omega) (hE.trans (fnd_next (by omega) (by rw [← bi_t (by omega)]; decide)))
              ·
                refine X_iconst 43 hO dX10_canBeMerged_42 rfl ?_
                exact X_iret hO hF rfl (by first | exact Or.inl rfl | exact Or.inr ⟨rfl, bi_01 _⟩ | exact Or.inr ⟨rfl, by omega⟩) dX10_canBeMerged_43 ⟨_, rfl, (by omega), ⟨(by have hh := fnd_hit (f := (fun i => bi (w 3 (w 39 T 0) i ≠ x))) (c := 0) (n := (5 - j).toNat) (i := j) (by omega) (bi_f (by omega)).symm; rw [hE, hh]; exact bi_f (by omega)), rfl⟩⟩
        exact LP27 _ 0 (Nat.lt_succ_self _) (by omega) rfl
      ·
        refine X_iconst 24 hO dX10_canBeMerged_23 rfl ?_
        exact X_iret hO hF rfl (by first | exact Or.inl rfl | exact Or.inr ⟨rfl, bi_01 _⟩ | exact Or.inr ⟨rfl, by omega⟩) dX10_canBeMerged_24 ⟨_, rfl, (by omega), ⟨bi_f (by omega), rfl⟩⟩
