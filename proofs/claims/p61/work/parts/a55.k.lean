/-! listen -/
theorem dX12_listen_0 : decode cX12_listen 0 = .ok (.iload_n 1, 1) := by decide +kernel
theorem dX12_listen_1 : decode cX12_listen 1 = .ok (.iconst 3, 1) := by decide +kernel
theorem dX12_listen_2 : decode cX12_listen 2 = .ok (.invokestatic 132, 3) := by decide +kernel
theorem dX12_listen_5 : decode cX12_listen 5 = .ok (.iload_n 2, 1) := by decide +kernel
theorem dX12_listen_6 : decode cX12_listen 6 = .ok (.invokestatic 69, 3) := by decide +kernel
theorem dX12_listen_9 : decode cX12_listen 9 = .ok (.iload_n 3, 1) := by decide +kernel
theorem dX12_listen_10 : decode cX12_listen 10 = .ok (.invokestatic 69, 3) := by decide +kernel
theorem dX12_listen_13 : decode cX12_listen 13 = .ok (.iload 4, 2) := by decide +kernel
theorem dX12_listen_15 : decode cX12_listen 15 = .ok (.iconst 0, 1) := by decide +kernel
theorem dX12_listen_16 : decode cX12_listen 16 = .ok (.bipush 9, 2) := by decide +kernel
theorem dX12_listen_18 : decode cX12_listen 18 = .ok (.invokestatic 129, 3) := by decide +kernel
theorem dX12_listen_21 : decode cX12_listen 21 = .ok (.iload_n 2, 1) := by decide +kernel
theorem dX12_listen_22 : decode cX12_listen 22 = .ok (.iload_n 3, 1) := by decide +kernel
theorem dX12_listen_23 : decode cX12_listen 23 = .ok (.if_icmp .ne 14, 3) := by decide +kernel
theorem dX12_listen_26 : decode cX12_listen 26 = .ok (.new 255, 3) := by decide +kernel
theorem dX12_listen_29 : decode cX12_listen 29 = .ok (.dup, 1) := by decide +kernel
theorem dX12_listen_30 : decode cX12_listen 30 = .ok (.ldc_w 257, 3) := by decide +kernel
theorem dX12_listen_33 : decode cX12_listen 33 = .ok (.invokespecial 259, 3) := by decide +kernel
theorem dX12_listen_36 : decode cX12_listen 36 = .ok (.athrow, 1) := by decide +kernel
theorem dX12_listen_37 : decode cX12_listen 37 = .ok (.aload_n 0, 1) := by decide +kernel
theorem dX12_listen_38 : decode cX12_listen 38 = .ok (.getfield 36, 3) := by decide +kernel
theorem dX12_listen_41 : decode cX12_listen 41 = .ok (.iload_n 1, 1) := by decide +kernel
theorem dX12_listen_42 : decode cX12_listen 42 = .ok (.iload_n 2, 1) := by decide +kernel
theorem dX12_listen_43 : decode cX12_listen 43 = .ok (.iload_n 3, 1) := by decide +kernel
theorem dX12_listen_44 : decode cX12_listen 44 = .ok (.iload 4, 2) := by decide +kernel
theorem dX12_listen_46 : decode cX12_listen 46 = .ok (.invokevirtual 260, 3) := by decide +kernel
theorem dX12_listen_49 : decode cX12_listen 49 = .ok (.aload_n 0, 1) := by decide +kernel
theorem dX12_listen_50 : decode cX12_listen 50 = .ok (.iconst 0, 1) := by decide +kernel
theorem dX12_listen_51 : decode cX12_listen 51 = .ok (.putfield 113, 3) := by decide +kernel
theorem dX12_listen_54 : decode cX12_listen 54 = .ok (.return_, 1) := by decide +kernel
set_option maxRecDepth 4000 in
theorem kX12_listen (γ : LC) (w : Mm) (f q a b d : Int) (p : RP) (μ : MU) (L : List Int) (A : Mm) (h : RLm p μ f L w A) (hl : 0 ≤ A 122 μ.1 0 ∧ A 122 μ.1 0 ≤ A 120 μ.1 0) (hq : IR q) (ha : IR a) (hb : IR b) (hd : IR d) : KV γ 7 mX12_listen [rv f, .int (I q), .int (I a), .int (I b), .int (I d)] w (5) (30) (fun w' => ((0 ≤ q ∧ q < 3) ∧ (isC a ∧ isC b ∧ (0 ≤ d ∧ d ≤ 9) ∧ a ≠ b)) ∧ RLm p μ f L w' (o_listen μ q a b d A)) (fun E w' => w' = w ∧ ((E = "java/lang/IndexOutOfBoundsException" ∧ ¬ (0 ≤ q ∧ q < 3)) ∨ (E = "java/lang/IllegalArgumentException" ∧ (0 ≤ q ∧ q < 3) ∧ ¬ (isC a ∧ isC b ∧ (0 ≤ d ∧ d ≤ 9) ∧ a ≠ b)))) := by
  refine MX_of rfl rfl (by simp [rv_cat, int_cat]) rfl ?_
  rintro κ hO hF rfl
  have hD := hF.dp
  show X κ (5) (30) w 0 [some (rv f), some (.int (I q)), some (.int (I a)), some (.int (I b)), some (.int (I d))] []
  have t0 := h.1.2.1.1.1
  have hLT := h.2.1.1.1
  have t46 := hLT.1
  refine X_iload_n 1 hO dX12_listen_0 rfl rfl ?_
  refine X_iconst 2 hO dX12_listen_1 rfl ?_
  refine X_kSv 5 hO hD lX12_132 [_, _] rfl dX12_listen_2 rfl (kX12_requireIndex _ _ _ _ (by omega) (by omega)) (by decide) (by simp [rv_cat, int_cat]) (by first | decide | exact Nat.zero_le _ | omega) (by first | decide | exact Nat.zero_le _ | omega) (fun w_2 hp_2 => ?_) (fun E w_ hx_ => (XE_out hO hF (by obtain ⟨e1, e2, e3⟩ := hx_; exact ⟨e3, Or.inl ⟨e1, e2⟩⟩)))
  obtain ⟨e1_2, e2_2⟩ := hp_2
  subst w_2
  refine X_iload_n 6 hO dX12_listen_5 rfl rfl ?_
  refine X_kSv 9 hO hD lX12_69 [_] rfl dX12_listen_6 rfl (kX12_requireCharacter _ _ _ (by omega)) (by decide) (by simp [rv_cat, int_cat]) (by first | decide | exact Nat.zero_le _ | omega) (by first | decide | exact Nat.zero_le _ | omega) (fun w_6 hp_6 => ?_) (fun E w_ hx_ => (XE_out hO hF (by obtain ⟨e1, e2, e3⟩ := hx_; exact ⟨e3, Or.inr ⟨e1, e1_2, fun z => e2 z.1⟩⟩)))
  obtain ⟨e1_6, e2_6⟩ := hp_6
  subst w_6
  refine X_iload_n 10 hO dX12_listen_9 rfl rfl ?_
  refine X_kSv 13 hO hD lX12_69 [_] rfl dX12_listen_10 rfl (kX12_requireCharacter _ _ _ (by omega)) (by decide) (by simp [rv_cat, int_cat]) (by first | decide | exact Nat.zero_le _ | omega) (by first | decide | exact Nat.zero_le _ | omega) (fun w_10 hp_10 => ?_) (fun E w_ hx_ => (XE_out hO hF (by obtain ⟨e1, e2, e3⟩ := hx_; exact ⟨e3, Or.inr ⟨e1, e1_2, fun z => e2 z.2.1⟩⟩)))
  obtain ⟨e1_10, e2_10⟩ := hp_10
  subst w_10
  refine X_iload 15 hO dX12_listen_13 rfl rfl ?_
  refine X_iconst 16 hO dX12_listen_15 rfl ?_
  refine X_bipush 18 hO dX12_listen_16 rfl (by decide) ?_
  refine X_kSv 21 hO hD lX12_129 [_, _, _] rfl dX12_listen_18 rfl (kX12_requireRange _ _ _ _ _ (by omega) (by omega) (by omega)) (by decide) (by simp [rv_cat, int_cat]) (by first | decide | exact Nat.zero_le _ | omega) (by first | decide | exact Nat.zero_le _ | omega) (fun w_18 hp_18 => ?_) (fun E w_ hx_ => (XE_out hO hF (by obtain ⟨e1, e2, e3⟩ := hx_; exact ⟨e3, Or.inr ⟨e1, e1_2, fun z => e2 z.2.2.1⟩⟩)))
  obtain ⟨e1_18, e2_18⟩ := hp_18
  subst w_18
  refine X_iload_n 22 hO dX12_listen_21 rfl rfl ?_
  refine X_iload_n 23 hO dX12_listen_22 rfl rfl ?_
  refine X_icmp_ne 26 37 hO dX12_listen_23 rfl rfl (by omega) (by omega) (fun hc_23 => ?_) (fun hc_23 => ?_)
  ·
    refine X_aload_n 38 hO dX12_listen_37 rfl rfl ?_
    refine gX12_36 41 hO dX12_listen_38 rfl (by first | assumption | omega | (simp (disch := first | decide | assumption | omega) only [up_k, up_s, up_a, up_i, flA_k, flA_a, flA_n, cpA_k, cpA_a, newO_o, newA_o, newO_t, newA_t, newA_n, cpQ_k, cpQ_a] <;> first | assumption | omega)) ?_
    try simp (disch := first | decide | assumption | omega) only [up_k, up_s, up_a, up_i, flA_k, flA_a, flA_n, cpA_k, cpA_a, newO_o, newA_o, newO_t, newA_t, newA_n, cpQ_k, cpQ_a]
    refine X_iload_n 42 hO dX12_listen_41 rfl rfl ?_
    refine X_iload_n 43 hO dX12_listen_42 rfl rfl ?_
    refine X_iload_n 44 hO dX12_listen_43 rfl rfl ?_
    refine X_iload 46 hO dX12_listen_44 rfl rfl ?_
    refine X_kVv (t := 3) 49 hO hD lX12_260 rfl (by decide) [_, _, _, _] rfl dX12_listen_46 rfl (by first | assumption | omega | (simp (disch := first | decide | assumption | omega) only [up_k, up_s, up_a, up_i, flA_k, flA_a, flA_n, cpA_k, cpA_a, newO_o, newA_o, newO_t, newA_t, newA_n, cpQ_k, cpQ_a] <;> first | assumption | omega)) (kX2_activate _ _ _ _ _ _ _ hLT e1_2 ha hb hd) (by decide) (by simp [rv_cat, int_cat]) (by first | decide | exact Nat.zero_le _ | omega) (by first | decide | exact Nat.zero_le _ | omega) (fun w_46 hp_46 => ?_) (fun E w_ hx_ => hx_.elim)
    subst w_46
    refine X_aload_n 50 hO dX12_listen_49 rfl rfl ?_
    refine X_iconst 51 hO dX12_listen_50 rfl ?_
    refine pX12_113 54 hO dX12_listen_51 rfl (by first | assumption | omega | (simp (disch := first | decide | assumption | omega) only [up_k, up_s, up_a, up_i, flA_k, flA_a, flA_n, cpA_k, cpA_a, newO_o, newA_o, newO_t, newA_t, newA_n, cpQ_k, cpQ_a] <;> first | assumption | omega)) (by omega) ?_
    exact X_vret hO hF rfl dX12_listen_54 ⟨rfl, (by
      have hC : isC a ∧ isC b ∧ (0 ≤ d ∧ d ≤ 9) ∧ a ≠ b := ⟨e1_6, e1_10, e1_18, by omega⟩
      refine ⟨⟨e1_2, hC⟩, ?_⟩
      have eo : o_listen μ q a b d A = up (up (up (up (up (m_th μ 0 A) 228 0 q 1) 229 0 q a) 230 0 q b) 231 0 q d) 129 μ.1 0 (-1) := by unfold o_listen; rw [if_pos (by omega), if_pos hC]
      rw [eo]
      exact h.lsn hl e1_2 rfl)⟩
  ·
    exact X_throwIAEW hO hF (by decide) (text := "a character is not replaced by itself") (by decide) dX12_listen_26 dX12_listen_29 dX12_listen_30 dX12_listen_33 dX12_listen_36 (by first | exact ⟨rfl, Or.inr ⟨rfl, e1_2, fun z => z.2.2.2 (by omega)⟩⟩) (by first | decide | omega) (by first | decide | omega) (by simp [rv_cat, int_cat])
