/-! bookmarks set and cleared -/
theorem dX12_setBookmark_0 : decode cX12_setBookmark 0 = .ok (.iload_n 1, 1) := by decide +kernel
theorem dX12_setBookmark_1 : decode cX12_setBookmark 1 = .ok (.iconst 5, 1) := by decide +kernel
theorem dX12_setBookmark_2 : decode cX12_setBookmark 2 = .ok (.invokestatic 132, 3) := by decide +kernel
theorem dX12_setBookmark_5 : decode cX12_setBookmark 5 = .ok (.aload_n 0, 1) := by decide +kernel
theorem dX12_setBookmark_6 : decode cX12_setBookmark 6 = .ok (.iload_n 1, 1) := by decide +kernel
theorem dX12_setBookmark_7 : decode cX12_setBookmark 7 = .ok (.aload_n 0, 1) := by decide +kernel
theorem dX12_setBookmark_8 : decode cX12_setBookmark 8 = .ok (.getfield 29, 3) := by decide +kernel
theorem dX12_setBookmark_11 : decode cX12_setBookmark 11 = .ok (.getfield 98, 3) := by decide +kernel
theorem dX12_setBookmark_14 : decode cX12_setBookmark 14 = .ok (.invokevirtual 244, 3) := by decide +kernel
theorem dX12_setBookmark_17 : decode cX12_setBookmark 17 = .ok (.ireturn, 1) := by decide +kernel
set_option maxRecDepth 4000 in
theorem kX12_setBookmark (γ : LC) (w : Mm) (f i : Int) (t0 : w 0 f 0 = 13) (hT : TRt w (w 45 f 0)) (hb5 : ∀ i, 0 ≤ i → i < 5 → w 3 (w 39 (w 45 f 0) 0) i = 0 ∨ w 0 (w 3 (w 39 (w 45 f 0) 0) i) 0 = 5) (hi : IR i) (hcur : w 0 (w 40 (w 45 f 0) 0) 0 = 5) : KI γ 8 mX12_setBookmark [rv f, .int (I i)] w (1) (6) (fun r w' => (0 ≤ i ∧ i < 5) ∧ r = nb w (w 3 (w 39 (w 45 f 0) 0) i) ∧ w' = up (up w 3 (w 39 (w 45 f 0) 0) i (w 40 (w 45 f 0) 0)) 88 f 0 0) (fun E w' => E = "java/lang/IndexOutOfBoundsException" ∧ (¬ (0 ≤ i ∧ i < 5)) ∧ w' = w) := by
  refine MX_of rfl rfl (by simp [rv_cat, int_cat]) rfl ?_
  rintro κ hO hF rfl
  have hD := hF.dp
  show X κ (1) (6) w 0 [some (rv f), some (.int (I i))] []
  have t1 := hT.1
  refine X_iload_n 1 hO dX12_setBookmark_0 rfl rfl ?_
  refine X_iconst 2 hO dX12_setBookmark_1 rfl ?_
  refine X_kSv 5 hO hD lX12_132 [_, _] rfl dX12_setBookmark_2 rfl (kX12_requireIndex _ _ _ _ (by omega) (by omega)) (by decide) (by simp [rv_cat, int_cat]) (by first | decide | exact Nat.zero_le _ | omega) (by first | decide | exact Nat.zero_le _ | omega) (fun w_2 hp_2 => ?_) (fun E w_ hx_ => (XE_out hO hF hx_))
  obtain ⟨e1_2, e2_2⟩ := hp_2
  subst w_2
  refine X_aload_n 6 hO dX12_setBookmark_5 rfl rfl ?_
  refine X_iload_n 7 hO dX12_setBookmark_6 rfl rfl ?_
  refine X_aload_n 8 hO dX12_setBookmark_7 rfl rfl ?_
  refine gX12_29 11 hO dX12_setBookmark_8 rfl (by first | assumption | omega | (simp (disch := first | decide | assumption | omega) only [up_k, up_s, up_a, up_i, flA_k, flA_a, flA_n, cpA_k, cpA_a, newO_o, newA_o, newO_t, newA_t, newA_n, cpQ_k, cpQ_a] <;> first | assumption | omega)) ?_
  try simp (disch := first | decide | assumption | omega) only [up_k, up_s, up_a, up_i, flA_k, flA_a, flA_n, cpA_k, cpA_a, newO_o, newA_o, newO_t, newA_t, newA_n, cpQ_k, cpQ_a]
  refine gX12_98 14 hO dX12_setBookmark_11 rfl (by first | assumption | omega | (simp (disch := first | decide | assumption | omega) only [up_k, up_s, up_a, up_i, flA_k, flA_a, flA_n, cpA_k, cpA_a, newO_o, newA_o, newO_t, newA_t, newA_n, cpQ_k, cpQ_a] <;> first | assumption | omega)) ?_
  try simp (disch := first | decide | assumption | omega) only [up_k, up_s, up_a, up_i, flA_k, flA_a, flA_n, cpA_k, cpA_a, newO_o, newA_o, newO_t, newA_t, newA_n, cpQ_k, cpQ_a]
  refine X_kVi (t := 13) 17 hO hD lX12_244 rfl (by decide) [_, _] rfl dX12_setBookmark_14 rfl (by first | assumption | omega | (simp (disch := first | decide | assumption | omega) only [up_k, up_s, up_a, up_i, flA_k, flA_a, flA_n, cpA_k, cpA_a, newO_o, newA_o, newO_t, newA_t, newA_n, cpQ_k, cpQ_a] <;> first | assumption | omega)) (kX12_exchangeBookmark _ _ _ _ _ t0 hT hb5 (by omega) (Or.inr hcur)) (by decide) (by simp [rv_cat, int_cat]) (by first | decide | exact Nat.zero_le _ | omega) (by first | decide | exact Nat.zero_le _ | omega) (fun r_14 w_14 hr_14 hp_14 => ?_) (fun E w_ hx_ => hx_.elim)
  obtain ⟨e1_14, e2_14⟩ := hp_14
  subst w_14
  exact X_iret hO hF rfl (by first | exact Or.inl rfl | exact Or.inr ⟨rfl, bi_01 _⟩ | exact Or.inr ⟨rfl, by omega⟩) dX12_setBookmark_17 ⟨_, rfl, (by omega), ⟨e1_2, e1_14, rfl⟩⟩
theorem dX12_clearBookmark_0 : decode cX12_clearBookmark 0 = .ok (.iload_n 1, 1) := by decide +kernel
theorem dX12_clearBookmark_1 : decode cX12_clearBookmark 1 = .ok (.iconst 5, 1) := by decide +kernel
theorem dX12_clearBookmark_2 : decode cX12_clearBookmark 2 = .ok (.invokestatic 132, 3) := by decide +kernel
theorem dX12_clearBookmark_5 : decode cX12_clearBookmark 5 = .ok (.aload_n 0, 1) := by decide +kernel
theorem dX12_clearBookmark_6 : decode cX12_clearBookmark 6 = .ok (.iload_n 1, 1) := by decide +kernel
theorem dX12_clearBookmark_7 : decode cX12_clearBookmark 7 = .ok (.aconst_null, 1) := by decide +kernel
theorem dX12_clearBookmark_8 : decode cX12_clearBookmark 8 = .ok (.invokevirtual 244, 3) := by decide +kernel
theorem dX12_clearBookmark_11 : decode cX12_clearBookmark 11 = .ok (.ireturn, 1) := by decide +kernel
set_option maxRecDepth 4000 in
theorem kX12_clearBookmark (γ : LC) (w : Mm) (f i : Int) (t0 : w 0 f 0 = 13) (hT : TRt w (w 45 f 0)) (hb5 : ∀ i, 0 ≤ i → i < 5 → w 3 (w 39 (w 45 f 0) 0) i = 0 ∨ w 0 (w 3 (w 39 (w 45 f 0) 0) i) 0 = 5) (hi : IR i) : KI γ 8 mX12_clearBookmark [rv f, .int (I i)] w (1) (6) (fun r w' => (0 ≤ i ∧ i < 5) ∧ r = nb w (w 3 (w 39 (w 45 f 0) 0) i) ∧ w' = up (up w 3 (w 39 (w 45 f 0) 0) i (0)) 88 f 0 0) (fun E w' => E = "java/lang/IndexOutOfBoundsException" ∧ (¬ (0 ≤ i ∧ i < 5)) ∧ w' = w) := by
  refine MX_of rfl rfl (by simp [rv_cat, int_cat]) rfl ?_
  rintro κ hO hF rfl
  have hD := hF.dp
  show X κ (1) (6) w 0 [some (rv f), some (.int (I i))] []
  have t1 := hT.1
  refine X_iload_n 1 hO dX12_clearBookmark_0 rfl rfl ?_
  refine X_iconst 2 hO dX12_clearBookmark_1 rfl ?_
  refine X_kSv 5 hO hD lX12_132 [_, _] rfl dX12_clearBookmark_2 rfl (kX12_requireIndex _ _ _ _ (by omega) (by omega)) (by decide) (by simp [rv_cat, int_cat]) (by first | decide | exact Nat.zero_le _ | omega) (by first | decide | exact Nat.zero_le _ | omega) (fun w_2 hp_2 => ?_) (fun E w_ hx_ => (XE_out hO hF hx_))
  obtain ⟨e1_2, e2_2⟩ := hp_2
  subst w_2
  refine X_aload_n 6 hO dX12_clearBookmark_5 rfl rfl ?_
  refine X_iload_n 7 hO dX12_clearBookmark_6 rfl rfl ?_
  refine X_null 8 hO dX12_clearBookmark_7 rfl ?_
  refine X_kVi (t := 13) 11 hO hD lX12_244 rfl (by decide) [_, _] rfl dX12_clearBookmark_8 rfl (by first | assumption | omega | (simp (disch := first | decide | assumption | omega) only [up_k, up_s, up_a, up_i, flA_k, flA_a, flA_n, cpA_k, cpA_a, newO_o, newA_o, newO_t, newA_t, newA_n, cpQ_k, cpQ_a] <;> first | assumption | omega)) (kX12_exchangeBookmark _ _ _ _ _ t0 hT hb5 (by omega) (Or.inl rfl)) (by decide) (by simp [rv_cat, int_cat]) (by first | decide | exact Nat.zero_le _ | omega) (by first | decide | exact Nat.zero_le _ | omega) (fun r_8 w_8 hr_8 hp_8 => ?_) (fun E w_ hx_ => hx_.elim)
  obtain ⟨e1_8, e2_8⟩ := hp_8
  subst w_8
  exact X_iret hO hF rfl (by first | exact Or.inl rfl | exact Or.inr ⟨rfl, bi_01 _⟩ | exact Or.inr ⟨rfl, by omega⟩) dX12_clearBookmark_11 ⟨_, rfl, (by omega), ⟨e1_2, e1_8, rfl⟩⟩
