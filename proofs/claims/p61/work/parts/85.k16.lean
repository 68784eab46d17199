/-! macros and nodes made -/
theorem dX3_init_0 : decode cX3_init 0 = .ok (.aload_n 0, 1) := by decide +kernel
theorem dX3_init_1 : decode cX3_init 1 = .ok (.invokespecial 3, 3) := by decide +kernel
theorem dX3_init_4 : decode cX3_init 4 = .ok (.aload_n 0, 1) := by decide +kernel
theorem dX3_init_5 : decode cX3_init 5 = .ok (.bipush 16, 2) := by decide +kernel
theorem dX3_init_7 : decode cX3_init 7 = .ok (.newarray .int, 2) := by decide +kernel
theorem dX3_init_9 : decode cX3_init 9 = .ok (.putfield 9, 3) := by decide +kernel
theorem dX3_init_12 : decode cX3_init 12 = .ok (.aload_n 0, 1) := by decide +kernel
theorem dX3_init_13 : decode cX3_init 13 = .ok (.bipush 16, 2) := by decide +kernel
theorem dX3_init_15 : decode cX3_init 15 = .ok (.newarray .int, 2) := by decide +kernel
theorem dX3_init_17 : decode cX3_init 17 = .ok (.putfield 15, 3) := by decide +kernel
theorem dX3_init_20 : decode cX3_init 20 = .ok (.aload_n 0, 1) := by decide +kernel
theorem dX3_init_21 : decode cX3_init 21 = .ok (.bipush 16, 2) := by decide +kernel
theorem dX3_init_23 : decode cX3_init 23 = .ok (.newarray .int, 2) := by decide +kernel
theorem dX3_init_25 : decode cX3_init 25 = .ok (.putfield 18, 3) := by decide +kernel
theorem dX3_init_28 : decode cX3_init 28 = .ok (.return_, 1) := by decide +kernel
set_option maxRecDepth 4000 in
theorem kX3_init (γ : LC) (w : Mm) (m : Int) (hq : 0 < m) (ht : w 0 m 0 = 4) : KV γ 1 mX3_init [rv m] w (3) (48) (fun w' => ∃ q1 q2 q3, (0 < q1 ∧ 0 < q2 ∧ 0 < q3) ∧ (w 0 q1 0 = 0 ∧ w 0 q2 0 = 0 ∧ w 0 q3 0 = 0) ∧ (q1 ≠ q2 ∧ q1 ≠ q3 ∧ q2 ≠ q3) ∧ w' = up (newA (up (newA (up (newA w q1 20 16) 21 m 0 q1) q2 20 16) 22 m 0 q2) q3 20 16) 23 m 0 q3) NX := by
  refine MX_of rfl rfl (by simp [rv_cat, int_cat]) rfl ?_
  rintro κ hO hF rfl
  have hD := hF.dp
  show X κ (3) (48) w 0 [some (rv m)] []
  refine X_aload_n 1 hO dX3_init_0 rfl rfl ?_
  refine X_objInit 4 hO w_495 dX3_init_1 rfl hD (by decide) (by assumption) (by simp [rv_cat, int_cat]) ?_
  refine X_aload_n 5 hO dX3_init_4 rfl rfl ?_
  refine X_bipush 7 hO dX3_init_5 rfl (by decide) ?_
  refine X_newi 9 hO w_aci (by omega) (by omega) (by omega) dX3_init_7 rfl (fun q_7 hq_7 hf_7 => ?_)
  have s1 : m ≠ q_7 := fun h => by rw [h] at ht; omega
  refine pX3_9 12 hO hF.2.2.2.2 dX3_init_9 rfl (by first | assumption | omega | (simp (disch := first | decide | assumption | omega) only [up_k, up_s, up_a, up_i, flA_k, flA_a, flA_n, cpA_k, cpA_a, newO_o, newA_o, newO_t, newA_t, newA_n] <;> first | assumption | omega)) ?_
  refine X_aload_n 13 hO dX3_init_12 rfl rfl ?_
  refine X_bipush 15 hO dX3_init_13 rfl (by decide) ?_
  refine X_newi 17 hO w_aci (by omega) (by omega) (by omega) dX3_init_15 rfl (fun q_15 hq_15 hf_15 => ?_)
  have a12 : q_7 ≠ q_15 := fun h => by rw [← h, up_k _ (by decide), newA_t] at hf_15; omega
  rw [up_k _ (by decide), newA_o (Ne.symm a12)] at hf_15
  have s2 : m ≠ q_15 := fun h => by rw [h] at ht; omega
  refine pX3_15 20 hO hF.2.2.2.2 dX3_init_17 rfl (by first | assumption | omega | (simp (disch := first | decide | assumption | omega) only [up_k, up_s, up_a, up_i, flA_k, flA_a, flA_n, cpA_k, cpA_a, newO_o, newA_o, newO_t, newA_t, newA_n] <;> first | assumption | omega)) ?_
  refine X_aload_n 21 hO dX3_init_20 rfl rfl ?_
  refine X_bipush 23 hO dX3_init_21 rfl (by decide) ?_
  refine X_newi 25 hO w_aci (by omega) (by omega) (by omega) dX3_init_23 rfl (fun q_23 hq_23 hf_23 => ?_)
  have a13 : q_7 ≠ q_23 := fun h => by rw [← h, up_k _ (by decide), newA_o a12, up_k _ (by decide), newA_t] at hf_23; omega
  have a23 : q_15 ≠ q_23 := fun h => by rw [← h, up_k _ (by decide), newA_t] at hf_23; omega
  rw [up_k _ (by decide), newA_o (Ne.symm a23), up_k _ (by decide), newA_o (Ne.symm a13)] at hf_23
  have s3 : m ≠ q_23 := fun h => by rw [h] at ht; omega
  refine pX3_18 28 hO hF.2.2.2.2 dX3_init_25 rfl (by first | assumption | omega | (simp (disch := first | decide | assumption | omega) only [up_k, up_s, up_a, up_i, flA_k, flA_a, flA_n, cpA_k, cpA_a, newO_o, newA_o, newO_t, newA_t, newA_n] <;> first | assumption | omega)) ?_
  exact X_vret hO hF rfl dX3_init_28 ⟨rfl, ⟨q_7, q_15, q_23, ⟨hq_7, hq_15, hq_23⟩, ⟨hf_7, hf_15, hf_23⟩, ⟨a12, a13, a23⟩, rfl⟩⟩
theorem dX4_init_0 : decode cX4_init 0 = .ok (.aload_n 0, 1) := by decide +kernel
theorem dX4_init_1 : decode cX4_init 1 = .ok (.invokespecial 1, 3) := by decide +kernel
theorem dX4_init_4 : decode cX4_init 4 = .ok (.aload_n 0, 1) := by decide +kernel
theorem dX4_init_5 : decode cX4_init 5 = .ok (.new 7, 3) := by decide +kernel
theorem dX4_init_8 : decode cX4_init 8 = .ok (.dup, 1) := by decide +kernel
theorem dX4_init_9 : decode cX4_init 9 = .ok (.invokespecial 9, 3) := by decide +kernel
theorem dX4_init_12 : decode cX4_init 12 = .ok (.putfield 10, 3) := by decide +kernel
theorem dX4_init_15 : decode cX4_init 15 = .ok (.aload_n 0, 1) := by decide +kernel
theorem dX4_init_16 : decode cX4_init 16 = .ok (.iload_n 1, 1) := by decide +kernel
theorem dX4_init_17 : decode cX4_init 17 = .ok (.putfield 16, 3) := by decide +kernel
theorem dX4_init_20 : decode cX4_init 20 = .ok (.aload_n 0, 1) := by decide +kernel
theorem dX4_init_21 : decode cX4_init 21 = .ok (.aload_n 2, 1) := by decide +kernel
theorem dX4_init_22 : decode cX4_init 22 = .ok (.putfield 20, 3) := by decide +kernel
theorem dX4_init_25 : decode cX4_init 25 = .ok (.aload_n 0, 1) := by decide +kernel
theorem dX4_init_26 : decode cX4_init 26 = .ok (.new 24, 3) := by decide +kernel
theorem dX4_init_29 : decode cX4_init 29 = .ok (.dup, 1) := by decide +kernel
theorem dX4_init_30 : decode cX4_init 30 = .ok (.iload_n 3, 1) := by decide +kernel
theorem dX4_init_31 : decode cX4_init 31 = .ok (.invokespecial 26, 3) := by decide +kernel
theorem dX4_init_34 : decode cX4_init 34 = .ok (.putfield 29, 3) := by decide +kernel
theorem dX4_init_37 : decode cX4_init 37 = .ok (.return_, 1) := by decide +kernel
set_option maxRecDepth 4000 in
theorem kX4_init (γ : LC) (w : Mm) (x n p m : Int) (sS : Nat) (hq : 0 < x) (ht : w 0 x 0 = 5) (hn : IR n) (hm : IR m) (hm2 : m ≤ 100000) (hmS : m ≤ sS) : KV γ 3 mX4_init [rv x, .int (I n), rv p, .int (I m)] w (6) (sS + 29) (fun w' => ∃ q1 q2 a1 a2 a3 a4, (0 < q1 ∧ 0 < q2 ∧ w 0 q1 0 = 0 ∧ w 0 q2 0 = 0 ∧ q1 ≠ q2) ∧ (0 < a1 ∧ 0 < a2 ∧ 0 < a3 ∧ 0 < a4) ∧ ((newO (up (up (up (newO w q1 8) 25 x 0 q1) 63 x 0 n) 26 x 0 p) q2 6) 0 a1 0 = 0 ∧ (newO (up (up (up (newO w q1 8) 25 x 0 q1) 63 x 0 n) 26 x 0 p) q2 6) 0 a2 0 = 0 ∧ (newO (up (up (up (newO w q1 8) 25 x 0 q1) 63 x 0 n) 26 x 0 p) q2 6) 0 a3 0 = 0 ∧ (newO (up (up (up (newO w q1 8) 25 x 0 q1) 63 x 0 n) 26 x 0 p) q2 6) 0 a4 0 = 0) ∧ (a1 ≠ a2 ∧ a1 ≠ a3 ∧ a1 ≠ a4 ∧ a2 ≠ a3 ∧ a2 ≠ a4 ∧ a3 ≠ a4) ∧ w' = up (flA (t_new q2 a1 a2 a3 a4 (if 0 < m then m else 0) (newO (up (up (up (newO w q1 8) 25 x 0 q1) 63 x 0 n) 26 x 0 p) q2 6)) 1 a1 0 6 (fun _ => -1)) 24 x 0 q2) NX := by
  refine MX_of rfl rfl (by simp [rv_cat, int_cat]) rfl ?_
  rintro κ hO hF rfl
  have hD := hF.dp
  show X κ (6) (sS + 29) w 0 [some (rv x), some (.int (I n)), some (rv p), some (.int (I m))] []
  refine X_aload_n 1 hO dX4_init_0 rfl rfl ?_
  refine X_objInit 4 hO w_290 dX4_init_1 rfl hD (by decide) (by assumption) (by simp [rv_cat, int_cat]) ?_
  refine X_aload_n 5 hO dX4_init_4 rfl rfl ?_
  refine n_8 8 hO w_291 (by omega) (by omega) dX4_init_5 rfl (fun q_5 hq_5 hf_5 => ?_)
  have s1 : x ≠ q_5 := fun h => by rw [h] at ht; omega
  refine X_dup 9 hO dX4_init_8 rfl (by first | rfl | exact rv_cat _) ?_
  refine X_kNv 12 hO hD nX4_9 [] rfl dX4_init_9 rfl (by assumption) (kX7_init _ _ _ (by assumption)) (by decide) (by simp [rv_cat, int_cat]) (by first | decide | exact Nat.zero_le _ | omega) (by first | decide | exact Nat.zero_le _ | omega) (fun w_9 hp_9 => ?_) (fun E w_ hx_ => hx_.elim)
  subst w_9
  refine pX4_10 15 hO dX4_init_12 rfl (by first | assumption | omega | (simp (disch := first | decide | assumption | omega) only [up_k, up_s, up_a, up_i, flA_k, flA_a, flA_n, cpA_k, cpA_a, newO_o, newA_o, newO_t, newA_t, newA_n] <;> first | assumption | omega)) ?_
  refine X_aload_n 16 hO dX4_init_15 rfl rfl ?_
  refine X_iload_n 17 hO dX4_init_16 rfl rfl ?_
  refine pX4_16 20 hO hF.2.2.2.2 dX4_init_17 rfl (by first | assumption | omega | (simp (disch := first | decide | assumption | omega) only [up_k, up_s, up_a, up_i, flA_k, flA_a, flA_n, cpA_k, cpA_a, newO_o, newA_o, newO_t, newA_t, newA_n] <;> first | assumption | omega)) (by omega) ?_
  refine X_aload_n 21 hO dX4_init_20 rfl rfl ?_
  refine X_aload_n 22 hO dX4_init_21 rfl rfl ?_
  refine pX4_20 25 hO dX4_init_22 rfl (by first | assumption | omega | (simp (disch := first | decide | assumption | omega) only [up_k, up_s, up_a, up_i, flA_k, flA_a, flA_n, cpA_k, cpA_a, newO_o, newA_o, newO_t, newA_t, newA_n] <;> first | assumption | omega)) ?_
  refine X_aload_n 26 hO dX4_init_25 rfl rfl ?_
  refine n_6 29 hO w_293 (by omega) (by omega) dX4_init_26 rfl (fun q_26 hq_26 hf_26 => ?_)
  have a12 : q_5 ≠ q_26 := fun h => by rw [← h, up_k _ (by decide), up_k _ (by decide), up_k _ (by decide), newO_t] at hf_26; omega
  rw [up_k _ (by decide), up_k _ (by decide), up_k _ (by decide), newO_o (Ne.symm a12)] at hf_26
  have s2 : x ≠ q_26 := fun h => by rw [h] at ht; omega
  have hV5 : (newO (up (up (up (newO w q_5 8) 25 x 0 q_5) 63 x 0 n) 26 x 0 p) q_26 6) 0 x 0 = 5 := by simp (disch := first | decide | assumption | omega) only [up_k, up_s, up_a, up_i, flA_k, flA_a, flA_n, cpA_k, cpA_a, newO_o, newA_o, newO_t, newA_t, newA_n]; exact ht
  refine X_dup 30 hO dX4_init_29 rfl (by first | rfl | exact rv_cat _) ?_
  refine X_iload_n 31 hO dX4_init_30 rfl rfl ?_
  refine X_kIv 34 hO hD lX4_26 [_] rfl dX4_init_31 rfl (by assumption) (kX5_init _ _ _ _ sS (by assumption) (newO_t) (by omega) (by omega) (by omega)) (by decide) (by simp [rv_cat, int_cat]) (by first | decide | exact Nat.zero_le _ | omega) (by first | decide | exact Nat.zero_le _ | omega) (fun w_31 hp_31 => ?_) (fun E w_ hx_ => hx_.elim)
  obtain ⟨a1, a2, a3, a4, hap, haf, had, ew_31⟩ := hp_31
  subst ew_31
  obtain ⟨f1, f2, f3, f4⟩ := id haf
  have xa1 : x ≠ a1 := fun h => by rw [← h, hV5] at f1; omega
  have xa2 : x ≠ a2 := fun h => by rw [← h, hV5] at f2; omega
  have xa3 : x ≠ a3 := fun h => by rw [← h, hV5] at f3; omega
  have xa4 : x ≠ a4 := fun h => by rw [← h, hV5] at f4; omega
  refine pX4_29 37 hO hF.2.2.2.2 dX4_init_34 rfl (by unfold t_new; simp (disch := first | decide | assumption | omega) only [up_k, up_s, up_a, up_i, flA_k, flA_a, flA_n, cpA_k, cpA_a, newO_o, newA_o, newO_t, newA_t, newA_n]; exact ht) ?_
  exact X_vret hO hF rfl dX4_init_37 ⟨rfl, ⟨q_5, q_26, a1, a2, a3, a4, ⟨hq_5, hq_26, hf_5, hf_26, a12⟩, hap, haf, had, rfl⟩⟩
