/-! what is required, refused; looks at the editor -/
def FBt (w : Mm) (f : Int) : Prop := w 0 f 0 = 13 ∧ w 0 (w 41 f 0) 0 = 2 ∧ w 0 (w 11 (w 41 f 0) 0) 0 = 6 ∧ w 0 (w 28 (w 11 (w 41 f 0) 0) 0) 0 = 20
theorem dX12_requireIndex_0 : decode cX12_requireIndex 0 = .ok (.iload_n 0, 1) := by decide +kernel
theorem dX12_requireIndex_1 : decode cX12_requireIndex 1 = .ok (.ifCond .lt 8, 3) := by decide +kernel
theorem dX12_requireIndex_4 : decode cX12_requireIndex 4 = .ok (.iload_n 0, 1) := by decide +kernel
theorem dX12_requireIndex_5 : decode cX12_requireIndex 5 = .ok (.iload_n 1, 1) := by decide +kernel
theorem dX12_requireIndex_6 : decode cX12_requireIndex 6 = .ok (.if_icmp .lt 14, 3) := by decide +kernel
theorem dX12_requireIndex_9 : decode cX12_requireIndex 9 = .ok (.new 333, 3) := by decide +kernel
theorem dX12_requireIndex_12 : decode cX12_requireIndex 12 = .ok (.dup, 1) := by decide +kernel
theorem dX12_requireIndex_13 : decode cX12_requireIndex 13 = .ok (.ldc_w 335, 3) := by decide +kernel
theorem dX12_requireIndex_16 : decode cX12_requireIndex 16 = .ok (.invokespecial 337, 3) := by decide +kernel
theorem dX12_requireIndex_19 : decode cX12_requireIndex 19 = .ok (.athrow, 1) := by decide +kernel
theorem dX12_requireIndex_20 : decode cX12_requireIndex 20 = .ok (.return_, 1) := by decide +kernel
set_option maxRecDepth 4000 in
theorem kX12_requireIndex (γ : LC) (w : Mm) (i n : Int) (hi : IR i) (hn : IR n) : KV γ 6 mX12_requireIndex [.int (I i), .int (I n)] w (1) (6) (fun w' => (0 ≤ i ∧ i < n) ∧ w' = w) (fun E w' => E = "java/lang/IndexOutOfBoundsException" ∧ (¬ (0 ≤ i ∧ i < n)) ∧ w' = w) := by
  refine MX_of rfl rfl (by simp [rv_cat, int_cat]) rfl ?_
  rintro κ hO hF rfl
  have hD := hF.dp
  show X κ (1) (6) w 0 [some (.int (I i)), some (.int (I n))] []
  refine X_iload_n 1 hO dX12_requireIndex_0 rfl rfl ?_
  refine X_if_lt 4 9 hO dX12_requireIndex_1 rfl rfl (by omega) (fun hc_1 => ?_) (fun hc_1 => ?_)
  ·
    exact X_throwIOOW hO hF (by decide) (text := "there is none with this number") (by decide) dX12_requireIndex_9 dX12_requireIndex_12 dX12_requireIndex_13 dX12_requireIndex_16 dX12_requireIndex_19 (by first | exact ⟨rfl, by omega, rfl⟩) (by first | decide | omega) (by first | decide | omega) (by simp [rv_cat, int_cat])
  ·
    refine X_iload_n 5 hO dX12_requireIndex_4 rfl rfl ?_
    refine X_iload_n 6 hO dX12_requireIndex_5 rfl rfl ?_
    refine X_icmp_lt 9 20 hO dX12_requireIndex_6 rfl rfl (by omega) (by omega) (fun hc_6 => ?_) (fun hc_6 => ?_)
    ·
      exact X_vret hO hF rfl dX12_requireIndex_20 ⟨rfl, ⟨by omega, rfl⟩⟩
    ·
      exact X_throwIOOW hO hF (by decide) (text := "there is none with this number") (by decide) dX12_requireIndex_9 dX12_requireIndex_12 dX12_requireIndex_13 dX12_requireIndex_16 dX12_requireIndex_19 (by first | exact ⟨rfl, by omega, rfl⟩) (by first | decide | omega) (by first | decide | omega) (by simp [rv_cat, int_cat])
theorem dX12_requireRange_0 : decode cX12_requireRange 0 = .ok (.iload_n 0, 1) := by decide +kernel
theorem dX12_requireRange_1 : decode cX12_requireRange 1 = .ok (.iload_n 1, 1) := by decide +kernel
theorem dX12_requireRange_2 : decode cX12_requireRange 2 = .ok (.if_icmp .lt 8, 3) := by decide +kernel
theorem dX12_requireRange_5 : decode cX12_requireRange 5 = .ok (.iload_n 0, 1) := by decide +kernel
theorem dX12_requireRange_6 : decode cX12_requireRange 6 = .ok (.iload_n 2, 1) := by decide +kernel
theorem dX12_requireRange_7 : decode cX12_requireRange 7 = .ok (.if_icmp .le 14, 3) := by decide +kernel
theorem dX12_requireRange_10 : decode cX12_requireRange 10 = .ok (.new 255, 3) := by decide +kernel
theorem dX12_requireRange_13 : decode cX12_requireRange 13 = .ok (.dup, 1) := by decide +kernel
theorem dX12_requireRange_14 : decode cX12_requireRange 14 = .ok (.ldc_w 338, 3) := by decide +kernel
theorem dX12_requireRange_17 : decode cX12_requireRange 17 = .ok (.invokespecial 259, 3) := by decide +kernel
theorem dX12_requireRange_20 : decode cX12_requireRange 20 = .ok (.athrow, 1) := by decide +kernel
theorem dX12_requireRange_21 : decode cX12_requireRange 21 = .ok (.return_, 1) := by decide +kernel
set_option maxRecDepth 4000 in
theorem kX12_requireRange (γ : LC) (w : Mm) (i a b : Int) (hi : IR i) (ha : IR a) (hb : IR b) : KV γ 6 mX12_requireRange [.int (I i), .int (I a), .int (I b)] w (1) (6) (fun w' => (a ≤ i ∧ i ≤ b) ∧ w' = w) (fun E w' => E = "java/lang/IllegalArgumentException" ∧ (¬ (a ≤ i ∧ i ≤ b)) ∧ w' = w) := by
  refine MX_of rfl rfl (by simp [rv_cat, int_cat]) rfl ?_
  rintro κ hO hF rfl
  have hD := hF.dp
  show X κ (1) (6) w 0 [some (.int (I i)), some (.int (I a)), some (.int (I b))] []
  refine X_iload_n 1 hO dX12_requireRange_0 rfl rfl ?_
  refine X_iload_n 2 hO dX12_requireRange_1 rfl rfl ?_
  refine X_icmp_lt 5 10 hO dX12_requireRange_2 rfl rfl (by omega) (by omega) (fun hc_2 => ?_) (fun hc_2 => ?_)
  ·
    exact X_throwIAEW hO hF (by decide) (text := "the argument is out of range") (by decide) dX12_requireRange_10 dX12_requireRange_13 dX12_requireRange_14 dX12_requireRange_17 dX12_requireRange_20 (by first | exact ⟨rfl, by omega, rfl⟩) (by first | decide | omega) (by first | decide | omega) (by simp [rv_cat, int_cat])
  ·
    refine X_iload_n 6 hO dX12_requireRange_5 rfl rfl ?_
    refine X_iload_n 7 hO dX12_requireRange_6 rfl rfl ?_
    refine X_icmp_le 10 21 hO dX12_requireRange_7 rfl rfl (by omega) (by omega) (fun hc_7 => ?_) (fun hc_7 => ?_)
    ·
      exact X_vret hO hF rfl dX12_requireRange_21 ⟨rfl, ⟨by omega, rfl⟩⟩
    ·
      exact X_throwIAEW hO hF (by decide) (text := "the argument is out of range") (by decide) dX12_requireRange_10 dX12_requireRange_13 dX12_requireRange_14 dX12_requireRange_17 dX12_requireRange_20 (by first | exact ⟨rfl, by omega, rfl⟩) (by first | decide | omega) (by first | decide | omega) (by simp [rv_cat, int_cat])
theorem dX12_requireCharacter_0 : decode cX12_requireCharacter 0 = .ok (.iload_n 0, 1) := by decide +kernel
theorem dX12_requireCharacter_1 : decode cX12_requireCharacter 1 = .ok (.bipush 10, 2) := by decide +kernel
theorem dX12_requireCharacter_3 : decode cX12_requireCharacter 3 = .ok (.if_icmp .eq 26, 3) := by decide +kernel
theorem dX12_requireCharacter_6 : decode cX12_requireCharacter 6 = .ok (.iload_n 0, 1) := by decide +kernel
theorem dX12_requireCharacter_7 : decode cX12_requireCharacter 7 = .ok (.bipush 32, 2) := by decide +kernel
theorem dX12_requireCharacter_9 : decode cX12_requireCharacter 9 = .ok (.if_icmp .lt 9, 3) := by decide +kernel
theorem dX12_requireCharacter_12 : decode cX12_requireCharacter 12 = .ok (.iload_n 0, 1) := by decide +kernel
theorem dX12_requireCharacter_13 : decode cX12_requireCharacter 13 = .ok (.bipush 126, 2) := by decide +kernel
theorem dX12_requireCharacter_15 : decode cX12_requireCharacter 15 = .ok (.if_icmp .le 14, 3) := by decide +kernel
theorem dX12_requireCharacter_18 : decode cX12_requireCharacter 18 = .ok (.new 255, 3) := by decide +kernel
theorem dX12_requireCharacter_21 : decode cX12_requireCharacter 21 = .ok (.dup, 1) := by decide +kernel
theorem dX12_requireCharacter_22 : decode cX12_requireCharacter 22 = .ok (.ldc_w 340, 3) := by decide +kernel
theorem dX12_requireCharacter_25 : decode cX12_requireCharacter 25 = .ok (.invokespecial 259, 3) := by decide +kernel
theorem dX12_requireCharacter_28 : decode cX12_requireCharacter 28 = .ok (.athrow, 1) := by decide +kernel
theorem dX12_requireCharacter_29 : decode cX12_requireCharacter 29 = .ok (.return_, 1) := by decide +kernel
set_option maxRecDepth 4000 in
theorem kX12_requireCharacter (γ : LC) (w : Mm) (i : Int) (hi : IR i) : KV γ 6 mX12_requireCharacter [.int (I i)] w (1) (6) (fun w' => (i = 10 ∨ (32 ≤ i ∧ i ≤ 126)) ∧ w' = w) (fun E w' => E = "java/lang/IllegalArgumentException" ∧ (¬ (i = 10 ∨ (32 ≤ i ∧ i ≤ 126))) ∧ w' = w) := by
  refine MX_of rfl rfl (by simp [rv_cat, int_cat]) rfl ?_
  rintro κ hO hF rfl
  have hD := hF.dp
  show X κ (1) (6) w 0 [some (.int (I i))] []
  refine X_iload_n 1 hO dX12_requireCharacter_0 rfl rfl ?_
  refine X_bipush 3 hO dX12_requireCharacter_1 rfl (by decide) ?_
  refine X_icmp_eq 6 29 hO dX12_requireCharacter_3 rfl rfl (by omega) (by omega) (fun hc_3 => ?_) (fun hc_3 => ?_)
  ·
    exact X_vret hO hF rfl dX12_requireCharacter_29 ⟨rfl, ⟨by omega, rfl⟩⟩
  ·
    refine X_iload_n 7 hO dX12_requireCharacter_6 rfl rfl ?_
    refine X_bipush 9 hO dX12_requireCharacter_7 rfl (by decide) ?_
    refine X_icmp_lt 12 18 hO dX12_requireCharacter_9 rfl rfl (by omega) (by omega) (fun hc_9 => ?_) (fun hc_9 => ?_)
    ·
      exact X_throwIAEW hO hF (by decide) (text := "the character is out of range") (by decide) dX12_requireCharacter_18 dX12_requireCharacter_21 dX12_requireCharacter_22 dX12_requireCharacter_25 dX12_requireCharacter_28 (by first | exact ⟨rfl, by omega, rfl⟩) (by first | decide | omega) (by first | decide | omega) (by simp [rv_cat, int_cat])
    ·
      refine X_iload_n 13 hO dX12_requireCharacter_12 rfl rfl ?_
      refine X_bipush 15 hO dX12_requireCharacter_13 rfl (by decide) ?_
      refine X_icmp_le 18 29 hO dX12_requireCharacter_15 rfl rfl (by omega) (by omega) (fun hc_15 => ?_) (fun hc_15 => ?_)
      ·
        exact X_vret hO hF rfl dX12_requireCharacter_29 ⟨rfl, ⟨by omega, rfl⟩⟩
      ·
        exact X_throwIAEW hO hF (by decide) (text := "the character is out of range") (by decide) dX12_requireCharacter_18 dX12_requireCharacter_21 dX12_requireCharacter_22 dX12_requireCharacter_25 dX12_requireCharacter_28 (by first | exact ⟨rfl, by omega, rfl⟩) (by first | decide | omega) (by first | decide | omega) (by simp [rv_cat, int_cat])
theorem dX12_refuseInGroup_0 : decode cX12_refuseInGroup 0 = .ok (.aload_n 0, 1) := by decide +kernel
theorem dX12_refuseInGroup_1 : decode cX12_refuseInGroup 1 = .ok (.getfield 87, 3) := by decide +kernel
theorem dX12_refuseInGroup_4 : decode cX12_refuseInGroup 4 = .ok (.ifCond .eq 13, 3) := by decide +kernel
theorem dX12_refuseInGroup_7 : decode cX12_refuseInGroup 7 = .ok (.new 163, 3) := by decide +kernel
theorem dX12_refuseInGroup_10 : decode cX12_refuseInGroup 10 = .ok (.dup, 1) := by decide +kernel
theorem dX12_refuseInGroup_11 : decode cX12_refuseInGroup 11 = .ok (.ldc 177, 2) := by decide +kernel
theorem dX12_refuseInGroup_13 : decode cX12_refuseInGroup 13 = .ok (.invokespecial 167, 3) := by decide +kernel
theorem dX12_refuseInGroup_16 : decode cX12_refuseInGroup 16 = .ok (.athrow, 1) := by decide +kernel
theorem dX12_refuseInGroup_17 : decode cX12_refuseInGroup 17 = .ok (.return_, 1) := by decide +kernel
set_option maxRecDepth 4000 in
theorem kX12_refuseInGroup (γ : LC) (w : Mm) (f : Int) (hf : w 0 f 0 = 13) : KV γ 6 mX12_refuseInGroup [rv f] w (1) (6) (fun w' => w 87 f 0 = 0 ∧ w' = w) (fun E w' => E = "java/lang/IllegalStateException" ∧ (w 87 f 0 ≠ 0) ∧ w' = w) := by
  refine MX_of rfl rfl (by simp [rv_cat, int_cat]) rfl ?_
  rintro κ hO hF rfl
  have hD := hF.dp
  show X κ (1) (6) w 0 [some (rv f)] []
  refine X_aload_n 1 hO dX12_refuseInGroup_0 rfl rfl ?_
  refine gX12_87 4 hO dX12_refuseInGroup_1 rfl (by first | assumption | omega | (simp (disch := first | decide | assumption | omega) only [up_k, up_s, up_a, up_i, flA_k, flA_a, flA_n, cpA_k, cpA_a, newO_o, newA_o, newO_t, newA_t, newA_n] <;> first | assumption | omega)) (fun hi_1 => ?_)
  try simp (disch := first | decide | assumption | omega) only [up_k, up_s, up_a, up_i, flA_k, flA_a, flA_n, cpA_k, cpA_a, newO_o, newA_o, newO_t, newA_t, newA_n] at hi_1 ⊢
  refine X_if_eq 7 17 hO dX12_refuseInGroup_4 rfl rfl (by omega) (fun hc_4 => ?_) (fun hc_4 => ?_)
  ·
    try simp only [bi_0, bi_ne, ne_eq, Classical.not_not] at hc_4
    exact X_vret hO hF rfl dX12_refuseInGroup_17 ⟨rfl, ⟨by omega, rfl⟩⟩
  ·
    try simp only [bi_0, bi_ne, ne_eq, Classical.not_not] at hc_4
    exact X_throwISE hO hF (by decide) (text := "a group is open") (by decide) dX12_refuseInGroup_7 dX12_refuseInGroup_10 dX12_refuseInGroup_11 dX12_refuseInGroup_13 dX12_refuseInGroup_16 (by first | exact ⟨rfl, by omega, rfl⟩) (by first | decide | omega) (by first | decide | omega) (by simp [rv_cat, int_cat])
theorem dX12_requireNode_0 : decode cX12_requireNode 0 = .ok (.aload_n 0, 1) := by decide +kernel
theorem dX12_requireNode_1 : decode cX12_requireNode 1 = .ok (.getfield 29, 3) := by decide +kernel
theorem dX12_requireNode_4 : decode cX12_requireNode 4 = .ok (.iload_n 1, 1) := by decide +kernel
theorem dX12_requireNode_5 : decode cX12_requireNode 5 = .ok (.invokevirtual 342, 3) := by decide +kernel
theorem dX12_requireNode_8 : decode cX12_requireNode 8 = .ok (.astore_n 2, 1) := by decide +kernel
theorem dX12_requireNode_9 : decode cX12_requireNode 9 = .ok (.aload_n 2, 1) := by decide +kernel
theorem dX12_requireNode_10 : decode cX12_requireNode 10 = .ok (.ifnonnull 14, 3) := by decide +kernel
theorem dX12_requireNode_13 : decode cX12_requireNode 13 = .ok (.new 333, 3) := by decide +kernel
theorem dX12_requireNode_16 : decode cX12_requireNode 16 = .ok (.dup, 1) := by decide +kernel
theorem dX12_requireNode_17 : decode cX12_requireNode 17 = .ok (.ldc_w 344, 3) := by decide +kernel
theorem dX12_requireNode_20 : decode cX12_requireNode 20 = .ok (.invokespecial 337, 3) := by decide +kernel
theorem dX12_requireNode_23 : decode cX12_requireNode 23 = .ok (.athrow, 1) := by decide +kernel
theorem dX12_requireNode_24 : decode cX12_requireNode 24 = .ok (.aload_n 2, 1) := by decide +kernel
theorem dX12_requireNode_25 : decode cX12_requireNode 25 = .ok (.areturn, 1) := by decide +kernel
set_option maxRecDepth 4000 in
theorem kX12_requireNode (γ : LC) (w : Mm) (f n : Int) (hf : w 0 f 0 = 13) (hT : TRt w (w 45 f 0)) (hn : IR n) : KR γ 6 mX12_requireNode [rv f, .int (I n)] w (1) (6) (fun r w' => r ≠ 0 ∧ r = t_find w (w 51 (w 38 (w 45 f 0) 0) 0) n ((if w 93 (w 38 (w 45 f 0) 0) 0 - 1 < n then w 93 (w 38 (w 45 f 0) 0) 0 - 1 else n) + 1).toNat ∧ w' = w) (fun E w' => E = "java/lang/IndexOutOfBoundsException" ∧ (t_find w (w 51 (w 38 (w 45 f 0) 0) 0) n ((if w 93 (w 38 (w 45 f 0) 0) 0 - 1 < n then w 93 (w 38 (w 45 f 0) 0) 0 - 1 else n) + 1).toNat = 0) ∧ w' = w) := by
  refine MX_of rfl rfl (by simp [rv_cat, int_cat]) rfl ?_
  rintro κ hO hF rfl
  have hD := hF.dp
  show X κ (1) (6) w 0 [some (rv f), some (.int (I n)), none] []
  have t0 := hT.1
  refine X_aload_n 1 hO dX12_requireNode_0 rfl rfl ?_
  refine gX12_29 4 hO dX12_requireNode_1 rfl (by first | assumption | omega | (simp (disch := first | decide | assumption | omega) only [up_k, up_s, up_a, up_i, flA_k, flA_a, flA_n, cpA_k, cpA_a, newO_o, newA_o, newO_t, newA_t, newA_n] <;> first | assumption | omega)) ?_
  try simp (disch := first | decide | assumption | omega) only [up_k, up_s, up_a, up_i, flA_k, flA_a, flA_n, cpA_k, cpA_a, newO_o, newA_o, newO_t, newA_t, newA_n]
  refine X_iload_n 5 hO dX12_requireNode_4 rfl rfl ?_
  refine X_kVr (t := 11) 8 hO hD lX12_342 rfl (by decide) [_] rfl dX12_requireNode_5 rfl (by first | assumption | omega | (simp (disch := first | decide | assumption | omega) only [up_k, up_s, up_a, up_i, flA_k, flA_a, flA_n, cpA_k, cpA_a, newO_o, newA_o, newO_t, newA_t, newA_n] <;> first | assumption | omega)) (kX10_find _ _ _ _ hT (by omega)) (by decide) (by simp [rv_cat, int_cat]) (by first | decide | exact Nat.zero_le _ | omega) (by first | decide | exact Nat.zero_le _ | omega) (fun r_5 w_5 hp_5 => ?_) (fun E w_ hx_ => hx_.elim)
  obtain ⟨e1_5, e2_5⟩ := hp_5
  subst r_5
  subst w_5
  refine X_astore_n 9 hO dX12_requireNode_8 rfl rfl ?_
  refine X_aload_n 10 hO dX12_requireNode_9 rfl rfl ?_
  refine X_ifnonnull 13 24 hO dX12_requireNode_10 rfl rfl (fun hc_10 => ?_) (fun hc_10 => ?_)
  ·
    refine X_aload_n 25 hO dX12_requireNode_24 rfl rfl ?_
    exact X_aret hO hF rfl (by first | exact Or.inl ⟨_, rfl⟩ | exact Or.inr ⟨_, rfl⟩) dX12_requireNode_25 ⟨_, rfl, ⟨(by assumption), rfl, rfl⟩⟩
  ·
    exact X_throwIOOW hO hF (by decide) (text := "there is no such node") (by decide) dX12_requireNode_13 dX12_requireNode_16 dX12_requireNode_17 dX12_requireNode_20 dX12_requireNode_23 (by first | exact ⟨rfl, (by assumption), rfl⟩) (by first | decide | omega) (by first | decide | omega) (by simp [rv_cat, int_cat])
theorem dX12_isLetterOrDigit_0 : decode cX12_isLetterOrDigit 0 = .ok (.iload_n 0, 1) := by decide +kernel
theorem dX12_isLetterOrDigit_1 : decode cX12_isLetterOrDigit 1 = .ok (.bipush 65, 2) := by decide +kernel
theorem dX12_isLetterOrDigit_3 : decode cX12_isLetterOrDigit 3 = .ok (.if_icmp .lt 9, 3) := by decide +kernel
theorem dX12_isLetterOrDigit_6 : decode cX12_isLetterOrDigit 6 = .ok (.iload_n 0, 1) := by decide +kernel
theorem dX12_isLetterOrDigit_7 : decode cX12_isLetterOrDigit 7 = .ok (.bipush 90, 2) := by decide +kernel
theorem dX12_isLetterOrDigit_9 : decode cX12_isLetterOrDigit 9 = .ok (.if_icmp .le 27, 3) := by decide +kernel
theorem dX12_isLetterOrDigit_12 : decode cX12_isLetterOrDigit 12 = .ok (.iload_n 0, 1) := by decide +kernel
theorem dX12_isLetterOrDigit_13 : decode cX12_isLetterOrDigit 13 = .ok (.bipush 97, 2) := by decide +kernel
theorem dX12_isLetterOrDigit_15 : decode cX12_isLetterOrDigit 15 = .ok (.if_icmp .lt 9, 3) := by decide +kernel
theorem dX12_isLetterOrDigit_18 : decode cX12_isLetterOrDigit 18 = .ok (.iload_n 0, 1) := by decide +kernel
theorem dX12_isLetterOrDigit_19 : decode cX12_isLetterOrDigit 19 = .ok (.bipush 122, 2) := by decide +kernel
theorem dX12_isLetterOrDigit_21 : decode cX12_isLetterOrDigit 21 = .ok (.if_icmp .le 15, 3) := by decide +kernel
theorem dX12_isLetterOrDigit_24 : decode cX12_isLetterOrDigit 24 = .ok (.iload_n 0, 1) := by decide +kernel
theorem dX12_isLetterOrDigit_25 : decode cX12_isLetterOrDigit 25 = .ok (.bipush 48, 2) := by decide +kernel
theorem dX12_isLetterOrDigit_27 : decode cX12_isLetterOrDigit 27 = .ok (.if_icmp .lt 13, 3) := by decide +kernel
theorem dX12_isLetterOrDigit_30 : decode cX12_isLetterOrDigit 30 = .ok (.iload_n 0, 1) := by decide +kernel
theorem dX12_isLetterOrDigit_31 : decode cX12_isLetterOrDigit 31 = .ok (.bipush 57, 2) := by decide +kernel
theorem dX12_isLetterOrDigit_33 : decode cX12_isLetterOrDigit 33 = .ok (.if_icmp .gt 7, 3) := by decide +kernel
theorem dX12_isLetterOrDigit_36 : decode cX12_isLetterOrDigit 36 = .ok (.iconst 1, 1) := by decide +kernel
theorem dX12_isLetterOrDigit_37 : decode cX12_isLetterOrDigit 37 = .ok (.goto 4, 3) := by decide +kernel
theorem dX12_isLetterOrDigit_40 : decode cX12_isLetterOrDigit 40 = .ok (.iconst 0, 1) := by decide +kernel
theorem dX12_isLetterOrDigit_41 : decode cX12_isLetterOrDigit 41 = .ok (.ireturn, 1) := by decide +kernel
set_option maxRecDepth 4000 in
theorem kX12_isLetterOrDigit (γ : LC) (w : Mm) (c : Int) (hc : IR c) : KI γ 1 mX12_isLetterOrDigit [.int (I c)] w (0) (0) (fun r w' => r = bi ((97 ≤ c ∧ c ≤ 122) ∨ (65 ≤ c ∧ c ≤ 90) ∨ (48 ≤ c ∧ c ≤ 57)) ∧ w' = w) NX := by
  refine MX_of rfl rfl (by simp [rv_cat, int_cat]) rfl ?_
  rintro κ hO hF rfl
  have hD := hF.dp
  show X κ (0) (0) w 0 [some (.int (I c))] []
  refine X_iload_n 1 hO dX12_isLetterOrDigit_0 rfl rfl ?_
  refine X_bipush 3 hO dX12_isLetterOrDigit_1 rfl (by decide) ?_
  refine X_icmp_lt 6 12 hO dX12_isLetterOrDigit_3 rfl rfl (by omega) (by omega) (fun hc_3 => ?_) (fun hc_3 => ?_)
  ·
    refine X_iload_n 13 hO dX12_isLetterOrDigit_12 rfl rfl ?_
    refine X_bipush 15 hO dX12_isLetterOrDigit_13 rfl (by decide) ?_
    refine X_icmp_lt 18 24 hO dX12_isLetterOrDigit_15 rfl rfl (by omega) (by omega) (fun hc_15 => ?_) (fun hc_15 => ?_)
    ·
      refine X_iload_n 25 hO dX12_isLetterOrDigit_24 rfl rfl ?_
      refine X_bipush 27 hO dX12_isLetterOrDigit_25 rfl (by decide) ?_
      refine X_icmp_lt 30 40 hO dX12_isLetterOrDigit_27 rfl rfl (by omega) (by omega) (fun hc_27 => ?_) (fun hc_27 => ?_)
      ·
        refine X_iconst 41 hO dX12_isLetterOrDigit_40 rfl ?_
        exact X_iret hO hF rfl (by first | exact Or.inl rfl | exact Or.inr ⟨rfl, bi_01 _⟩ | exact Or.inr ⟨rfl, by omega⟩) dX12_isLetterOrDigit_41 ⟨_, rfl, (by omega), ⟨by first | exact bi_t (by omega) | exact bi_f (by omega), rfl⟩⟩
      ·
        refine X_iload_n 31 hO dX12_isLetterOrDigit_30 rfl rfl ?_
        refine X_bipush 33 hO dX12_isLetterOrDigit_31 rfl (by decide) ?_
        refine X_icmp_gt 36 40 hO dX12_isLetterOrDigit_33 rfl rfl (by omega) (by omega) (fun hc_33 => ?_) (fun hc_33 => ?_)
        ·
          refine X_iconst 41 hO dX12_isLetterOrDigit_40 rfl ?_
          exact X_iret hO hF rfl (by first | exact Or.inl rfl | exact Or.inr ⟨rfl, bi_01 _⟩ | exact Or.inr ⟨rfl, by omega⟩) dX12_isLetterOrDigit_41 ⟨_, rfl, (by omega), ⟨by first | exact bi_t (by omega) | exact bi_f (by omega), rfl⟩⟩
        ·
          refine X_iconst 37 hO dX12_isLetterOrDigit_36 rfl ?_
          refine X_goto hO dX12_isLetterOrDigit_37 (tgt := 41) rfl ?_
          exact X_iret hO hF rfl (by first | exact Or.inl rfl | exact Or.inr ⟨rfl, bi_01 _⟩ | exact Or.inr ⟨rfl, by omega⟩) dX12_isLetterOrDigit_41 ⟨_, rfl, (by omega), ⟨by first | exact bi_t (by omega) | exact bi_f (by omega), rfl⟩⟩
    ·
      refine X_iload_n 19 hO dX12_isLetterOrDigit_18 rfl rfl ?_
      refine X_bipush 21 hO dX12_isLetterOrDigit_19 rfl (by decide) ?_
      refine X_icmp_le 24 36 hO dX12_isLetterOrDigit_21 rfl rfl (by omega) (by omega) (fun hc_21 => ?_) (fun hc_21 => ?_)
      ·
        refine X_iconst 37 hO dX12_isLetterOrDigit_36 rfl ?_
        refine X_goto hO dX12_isLetterOrDigit_37 (tgt := 41) rfl ?_
        exact X_iret hO hF rfl (by first | exact Or.inl rfl | exact Or.inr ⟨rfl, bi_01 _⟩ | exact Or.inr ⟨rfl, by omega⟩) dX12_isLetterOrDigit_41 ⟨_, rfl, (by omega), ⟨by first | exact bi_t (by omega) | exact bi_f (by omega), rfl⟩⟩
      ·
        refine X_iload_n 25 hO dX12_isLetterOrDigit_24 rfl rfl ?_
        refine X_bipush 27 hO dX12_isLetterOrDigit_25 rfl (by decide) ?_
        refine X_icmp_lt 30 40 hO dX12_isLetterOrDigit_27 rfl rfl (by omega) (by omega) (fun hc_27 => ?_) (fun hc_27 => ?_)
        ·
          refine X_iconst 41 hO dX12_isLetterOrDigit_40 rfl ?_
          exact X_iret hO hF rfl (by first | exact Or.inl rfl | exact Or.inr ⟨rfl, bi_01 _⟩ | exact Or.inr ⟨rfl, by omega⟩) dX12_isLetterOrDigit_41 ⟨_, rfl, (by omega), ⟨by first | exact bi_t (by omega) | exact bi_f (by omega), rfl⟩⟩
        ·
          refine X_iload_n 31 hO dX12_isLetterOrDigit_30 rfl rfl ?_
          refine X_bipush 33 hO dX12_isLetterOrDigit_31 rfl (by decide) ?_
          refine X_icmp_gt 36 40 hO dX12_isLetterOrDigit_33 rfl rfl (by omega) (by omega) (fun hc_33 => ?_) (fun hc_33 => ?_)
          ·
            refine X_iconst 41 hO dX12_isLetterOrDigit_40 rfl ?_
            exact X_iret hO hF rfl (by first | exact Or.inl rfl | exact Or.inr ⟨rfl, bi_01 _⟩ | exact Or.inr ⟨rfl, by omega⟩) dX12_isLetterOrDigit_41 ⟨_, rfl, (by omega), ⟨by first | exact bi_t (by omega) | exact bi_f (by omega), rfl⟩⟩
          ·
            refine X_iconst 37 hO dX12_isLetterOrDigit_36 rfl ?_
            refine X_goto hO dX12_isLetterOrDigit_37 (tgt := 41) rfl ?_
            exact X_iret hO hF rfl (by first | exact Or.inl rfl | exact Or.inr ⟨rfl, bi_01 _⟩ | exact Or.inr ⟨rfl, by omega⟩) dX12_isLetterOrDigit_41 ⟨_, rfl, (by omega), ⟨by first | exact bi_t (by omega) | exact bi_f (by omega), rfl⟩⟩
  ·
    refine X_iload_n 7 hO dX12_isLetterOrDigit_6 rfl rfl ?_
    refine X_bipush 9 hO dX12_isLetterOrDigit_7 rfl (by decide) ?_
    refine X_icmp_le 12 36 hO dX12_isLetterOrDigit_9 rfl rfl (by omega) (by omega) (fun hc_9 => ?_) (fun hc_9 => ?_)
    ·
      refine X_iconst 37 hO dX12_isLetterOrDigit_36 rfl ?_
      refine X_goto hO dX12_isLetterOrDigit_37 (tgt := 41) rfl ?_
      exact X_iret hO hF rfl (by first | exact Or.inl rfl | exact Or.inr ⟨rfl, bi_01 _⟩ | exact Or.inr ⟨rfl, by omega⟩) dX12_isLetterOrDigit_41 ⟨_, rfl, (by omega), ⟨by first | exact bi_t (by omega) | exact bi_f (by omega), rfl⟩⟩
    ·
      refine X_iload_n 13 hO dX12_isLetterOrDigit_12 rfl rfl ?_
      refine X_bipush 15 hO dX12_isLetterOrDigit_13 rfl (by decide) ?_
      refine X_icmp_lt 18 24 hO dX12_isLetterOrDigit_15 rfl rfl (by omega) (by omega) (fun hc_15 => ?_) (fun hc_15 => ?_)
      ·
        refine X_iload_n 25 hO dX12_isLetterOrDigit_24 rfl rfl ?_
        refine X_bipush 27 hO dX12_isLetterOrDigit_25 rfl (by decide) ?_
        refine X_icmp_lt 30 40 hO dX12_isLetterOrDigit_27 rfl rfl (by omega) (by omega) (fun hc_27 => ?_) (fun hc_27 => ?_)
        ·
          refine X_iconst 41 hO dX12_isLetterOrDigit_40 rfl ?_
          exact X_iret hO hF rfl (by first | exact Or.inl rfl | exact Or.inr ⟨rfl, bi_01 _⟩ | exact Or.inr ⟨rfl, by omega⟩) dX12_isLetterOrDigit_41 ⟨_, rfl, (by omega), ⟨by first | exact bi_t (by omega) | exact bi_f (by omega), rfl⟩⟩
        ·
          refine X_iload_n 31 hO dX12_isLetterOrDigit_30 rfl rfl ?_
          refine X_bipush 33 hO dX12_isLetterOrDigit_31 rfl (by decide) ?_
          refine X_icmp_gt 36 40 hO dX12_isLetterOrDigit_33 rfl rfl (by omega) (by omega) (fun hc_33 => ?_) (fun hc_33 => ?_)
          ·
            refine X_iconst 41 hO dX12_isLetterOrDigit_40 rfl ?_
            exact X_iret hO hF rfl (by first | exact Or.inl rfl | exact Or.inr ⟨rfl, bi_01 _⟩ | exact Or.inr ⟨rfl, by omega⟩) dX12_isLetterOrDigit_41 ⟨_, rfl, (by omega), ⟨by first | exact bi_t (by omega) | exact bi_f (by omega), rfl⟩⟩
          ·
            refine X_iconst 37 hO dX12_isLetterOrDigit_36 rfl ?_
            refine X_goto hO dX12_isLetterOrDigit_37 (tgt := 41) rfl ?_
            exact X_iret hO hF rfl (by first | exact Or.inl rfl | exact Or.inr ⟨rfl, bi_01 _⟩ | exact Or.inr ⟨rfl, by omega⟩) dX12_isLetterOrDigit_41 ⟨_, rfl, (by omega), ⟨by first | exact bi_t (by omega) | exact bi_f (by omega), rfl⟩⟩
      ·
        refine X_iload_n 19 hO dX12_isLetterOrDigit_18 rfl rfl ?_
        refine X_bipush 21 hO dX12_isLetterOrDigit_19 rfl (by decide) ?_
        refine X_icmp_le 24 36 hO dX12_isLetterOrDigit_21 rfl rfl (by omega) (by omega) (fun hc_21 => ?_) (fun hc_21 => ?_)
        ·
          refine X_iconst 37 hO dX12_isLetterOrDigit_36 rfl ?_
          refine X_goto hO dX12_isLetterOrDigit_37 (tgt := 41) rfl ?_
          exact X_iret hO hF rfl (by first | exact Or.inl rfl | exact Or.inr ⟨rfl, bi_01 _⟩ | exact Or.inr ⟨rfl, by omega⟩) dX12_isLetterOrDigit_41 ⟨_, rfl, (by omega), ⟨by first | exact bi_t (by omega) | exact bi_f (by omega), rfl⟩⟩
        ·
          refine X_iload_n 25 hO dX12_isLetterOrDigit_24 rfl rfl ?_
          refine X_bipush 27 hO dX12_isLetterOrDigit_25 rfl (by decide) ?_
          refine X_icmp_lt 30 40 hO dX12_isLetterOrDigit_27 rfl rfl (by omega) (by omega) (fun hc_27 => ?_) (fun hc_27 => ?_)
          ·
            refine X_iconst 41 hO dX12_isLetterOrDigit_40 rfl ?_
            exact X_iret hO hF rfl (by first | exact Or.inl rfl | exact Or.inr ⟨rfl, bi_01 _⟩ | exact Or.inr ⟨rfl, by omega⟩) dX12_isLetterOrDigit_41 ⟨_, rfl, (by omega), ⟨by first | exact bi_t (by omega) | exact bi_f (by omega), rfl⟩⟩
          ·
            refine X_iload_n 31 hO dX12_isLetterOrDigit_30 rfl rfl ?_
            refine X_bipush 33 hO dX12_isLetterOrDigit_31 rfl (by decide) ?_
            refine X_icmp_gt 36 40 hO dX12_isLetterOrDigit_33 rfl rfl (by omega) (by omega) (fun hc_33 => ?_) (fun hc_33 => ?_)
            ·
              refine X_iconst 41 hO dX12_isLetterOrDigit_40 rfl ?_
              exact X_iret hO hF rfl (by first | exact Or.inl rfl | exact Or.inr ⟨rfl, bi_01 _⟩ | exact Or.inr ⟨rfl, by omega⟩) dX12_isLetterOrDigit_41 ⟨_, rfl, (by omega), ⟨by first | exact bi_t (by omega) | exact bi_f (by omega), rfl⟩⟩
            ·
              refine X_iconst 37 hO dX12_isLetterOrDigit_36 rfl ?_
              refine X_goto hO dX12_isLetterOrDigit_37 (tgt := 41) rfl ?_
              exact X_iret hO hF rfl (by first | exact Or.inl rfl | exact Or.inr ⟨rfl, bi_01 _⟩ | exact Or.inr ⟨rfl, by omega⟩) dX12_isLetterOrDigit_41 ⟨_, rfl, (by omega), ⟨by first | exact bi_t (by omega) | exact bi_f (by omega), rfl⟩⟩
theorem dX12_numberOf_0 : decode cX12_numberOf 0 = .ok (.aload_n 0, 1) := by decide +kernel
theorem dX12_numberOf_1 : decode cX12_numberOf 1 = .ok (.ifnonnull 7, 3) := by decide +kernel
theorem dX12_numberOf_4 : decode cX12_numberOf 4 = .ok (.iconst (-1), 1) := by decide +kernel
theorem dX12_numberOf_5 : decode cX12_numberOf 5 = .ok (.goto 7, 3) := by decide +kernel
theorem dX12_numberOf_8 : decode cX12_numberOf 8 = .ok (.aload_n 0, 1) := by decide +kernel
theorem dX12_numberOf_9 : decode cX12_numberOf 9 = .ok (.getfield 181, 3) := by decide +kernel
theorem dX12_numberOf_12 : decode cX12_numberOf 12 = .ok (.ireturn, 1) := by decide +kernel
set_option maxRecDepth 4000 in
theorem kX12_numberOf (γ : LC) (w : Mm) (x : Int) (hx : x = 0 ∨ w 0 x 0 = 5) : KI γ 1 mX12_numberOf [rv x] w (0) (0) (fun r w' => r = (if x = 0 then -1 else w 63 x 0) ∧ w' = w) NX := by
  refine MX_of rfl rfl (by simp [rv_cat, int_cat]) rfl ?_
  rintro κ hO hF rfl
  have hD := hF.dp
  show X κ (0) (0) w 0 [some (rv x)] []
  refine X_aload_n 1 hO dX12_numberOf_0 rfl rfl ?_
  refine X_ifnonnull 4 8 hO dX12_numberOf_1 rfl rfl (fun hc_1 => ?_) (fun hc_1 => ?_)
  ·
    refine X_aload_n 9 hO dX12_numberOf_8 rfl rfl ?_
    refine gX12_181 12 hO dX12_numberOf_9 rfl (by first | assumption | omega | (simp (disch := first | decide | assumption | omega) only [up_k, up_s, up_a, up_i, flA_k, flA_a, flA_n, cpA_k, cpA_a, newO_o, newA_o, newO_t, newA_t, newA_n] <;> first | assumption | omega)) (fun hi_9 => ?_)
    try simp (disch := first | decide | assumption | omega) only [up_k, up_s, up_a, up_i, flA_k, flA_a, flA_n, cpA_k, cpA_a, newO_o, newA_o, newO_t, newA_t, newA_n] at hi_9 ⊢
    exact X_iret hO hF rfl (by first | exact Or.inl rfl | exact Or.inr ⟨rfl, bi_01 _⟩ | exact Or.inr ⟨rfl, by omega⟩) dX12_numberOf_12 ⟨_, rfl, (by omega), ⟨by first | rw [if_pos (by omega)] | rw [if_neg (by omega)], rfl⟩⟩
  ·
    refine X_iconst 5 hO dX12_numberOf_4 rfl ?_
    refine X_goto hO dX12_numberOf_5 (tgt := 12) rfl ?_
    exact X_iret hO hF rfl (by first | exact Or.inl rfl | exact Or.inr ⟨rfl, bi_01 _⟩ | exact Or.inr ⟨rfl, by omega⟩) dX12_numberOf_12 ⟨_, rfl, (by omega), ⟨by first | rw [if_pos (by omega)] | rw [if_neg (by omega)], rfl⟩⟩
theorem dX12_length_0 : decode cX12_length 0 = .ok (.aload_n 0, 1) := by decide +kernel
theorem dX12_length_1 : decode cX12_length 1 = .ok (.getfield 10, 3) := by decide +kernel
theorem dX12_length_4 : decode cX12_length 4 = .ok (.getfield 223, 3) := by decide +kernel
theorem dX12_length_7 : decode cX12_length 7 = .ok (.getfield 227, 3) := by decide +kernel
theorem dX12_length_10 : decode cX12_length 10 = .ok (.ireturn, 1) := by decide +kernel
set_option maxRecDepth 4000 in
theorem kX12_length (γ : LC) (w : Mm) (f : Int) (hf : FBt w f) : KI γ 1 mX12_length [rv f] w (0) (0) (fun r w' => r = w 67 (w 11 (w 41 f 0) 0) 0 ∧ w' = w) NX := by
  refine MX_of rfl rfl (by simp [rv_cat, int_cat]) rfl ?_
  rintro κ hO hF rfl
  have hD := hF.dp
  show X κ (0) (0) w 0 [some (rv f)] []
  obtain ⟨t0, t1, t2, t3⟩ := id hf
  refine X_aload_n 1 hO dX12_length_0 rfl rfl ?_
  refine gX12_10 4 hO dX12_length_1 rfl (by first | assumption | omega | (simp (disch := first | decide | assumption | omega) only [up_k, up_s, up_a, up_i, flA_k, flA_a, flA_n, cpA_k, cpA_a, newO_o, newA_o, newO_t, newA_t, newA_n] <;> first | assumption | omega)) ?_
  try simp (disch := first | decide | assumption | omega) only [up_k, up_s, up_a, up_i, flA_k, flA_a, flA_n, cpA_k, cpA_a, newO_o, newA_o, newO_t, newA_t, newA_n]
  refine gX12_223 7 hO dX12_length_4 rfl (by first | assumption | omega | (simp (disch := first | decide | assumption | omega) only [up_k, up_s, up_a, up_i, flA_k, flA_a, flA_n, cpA_k, cpA_a, newO_o, newA_o, newO_t, newA_t, newA_n] <;> first | assumption | omega)) ?_
  try simp (disch := first | decide | assumption | omega) only [up_k, up_s, up_a, up_i, flA_k, flA_a, flA_n, cpA_k, cpA_a, newO_o, newA_o, newO_t, newA_t, newA_n]
  refine gX12_227 10 hO dX12_length_7 rfl (by first | assumption | omega | (simp (disch := first | decide | assumption | omega) only [up_k, up_s, up_a, up_i, flA_k, flA_a, flA_n, cpA_k, cpA_a, newO_o, newA_o, newO_t, newA_t, newA_n] <;> first | assumption | omega)) (fun hi_7 => ?_)
  try simp (disch := first | decide | assumption | omega) only [up_k, up_s, up_a, up_i, flA_k, flA_a, flA_n, cpA_k, cpA_a, newO_o, newA_o, newO_t, newA_t, newA_n] at hi_7 ⊢
  exact X_iret hO hF rfl (by first | exact Or.inl rfl | exact Or.inr ⟨rfl, bi_01 _⟩ | exact Or.inr ⟨rfl, by omega⟩) dX12_length_10 ⟨_, rfl, (by omega), ⟨rfl, rfl⟩⟩
theorem dX12_point_0 : decode cX12_point 0 = .ok (.aload_n 0, 1) := by decide +kernel
theorem dX12_point_1 : decode cX12_point 1 = .ok (.getfield 10, 3) := by decide +kernel
theorem dX12_point_4 : decode cX12_point 4 = .ok (.getfield 271, 3) := by decide +kernel
theorem dX12_point_7 : decode cX12_point 7 = .ok (.ireturn, 1) := by decide +kernel
set_option maxRecDepth 4000 in
theorem kX12_point (γ : LC) (w : Mm) (f : Int) (hf : FBt w f) : KI γ 1 mX12_point [rv f] w (0) (0) (fun r w' => r = w 61 (w 41 f 0) 0 ∧ w' = w) NX := by
  refine MX_of rfl rfl (by simp [rv_cat, int_cat]) rfl ?_
  rintro κ hO hF rfl
  have hD := hF.dp
  show X κ (0) (0) w 0 [some (rv f)] []
  obtain ⟨t0, t1, t2, t3⟩ := id hf
  refine X_aload_n 1 hO dX12_point_0 rfl rfl ?_
  refine gX12_10 4 hO dX12_point_1 rfl (by first | assumption | omega | (simp (disch := first | decide | assumption | omega) only [up_k, up_s, up_a, up_i, flA_k, flA_a, flA_n, cpA_k, cpA_a, newO_o, newA_o, newO_t, newA_t, newA_n] <;> first | assumption | omega)) ?_
  try simp (disch := first | decide | assumption | omega) only [up_k, up_s, up_a, up_i, flA_k, flA_a, flA_n, cpA_k, cpA_a, newO_o, newA_o, newO_t, newA_t, newA_n]
  refine gX12_271 7 hO dX12_point_4 rfl (by first | assumption | omega | (simp (disch := first | decide | assumption | omega) only [up_k, up_s, up_a, up_i, flA_k, flA_a, flA_n, cpA_k, cpA_a, newO_o, newA_o, newO_t, newA_t, newA_n] <;> first | assumption | omega)) (fun hi_4 => ?_)
  try simp (disch := first | decide | assumption | omega) only [up_k, up_s, up_a, up_i, flA_k, flA_a, flA_n, cpA_k, cpA_a, newO_o, newA_o, newO_t, newA_t, newA_n] at hi_4 ⊢
  exact X_iret hO hF rfl (by first | exact Or.inl rfl | exact Or.inr ⟨rfl, bi_01 _⟩ | exact Or.inr ⟨rfl, by omega⟩) dX12_point_7 ⟨_, rfl, (by omega), ⟨rfl, rfl⟩⟩
theorem dX12_lineFeedsAhead_0 : decode cX12_lineFeedsAhead 0 = .ok (.iconst 0, 1) := by decide +kernel
theorem dX12_lineFeedsAhead_1 : decode cX12_lineFeedsAhead 1 = .ok (.istore_n 2, 1) := by decide +kernel
theorem dX12_lineFeedsAhead_2 : decode cX12_lineFeedsAhead 2 = .ok (.iconst 0, 1) := by decide +kernel
theorem dX12_lineFeedsAhead_3 : decode cX12_lineFeedsAhead 3 = .ok (.istore_n 3, 1) := by decide +kernel
theorem dX12_lineFeedsAhead_4 : decode cX12_lineFeedsAhead 4 = .ok (.iload_n 3, 1) := by decide +kernel
theorem dX12_lineFeedsAhead_5 : decode cX12_lineFeedsAhead 5 = .ok (.iload_n 1, 1) := by decide +kernel
theorem dX12_lineFeedsAhead_6 : decode cX12_lineFeedsAhead 6 = .ok (.if_icmp .ge 29, 3) := by decide +kernel
theorem dX12_lineFeedsAhead_9 : decode cX12_lineFeedsAhead 9 = .ok (.aload_n 0, 1) := by decide +kernel
theorem dX12_lineFeedsAhead_10 : decode cX12_lineFeedsAhead 10 = .ok (.getfield 10, 3) := by decide +kernel
theorem dX12_lineFeedsAhead_13 : decode cX12_lineFeedsAhead 13 = .ok (.getfield 223, 3) := by decide +kernel
theorem dX12_lineFeedsAhead_16 : decode cX12_lineFeedsAhead 16 = .ok (.getfield 267, 3) := by decide +kernel
theorem dX12_lineFeedsAhead_19 : decode cX12_lineFeedsAhead 19 = .ok (.iload_n 3, 1) := by decide +kernel
theorem dX12_lineFeedsAhead_20 : decode cX12_lineFeedsAhead 20 = .ok (.iaload, 1) := by decide +kernel
theorem dX12_lineFeedsAhead_21 : decode cX12_lineFeedsAhead 21 = .ok (.bipush 10, 2) := by decide +kernel
theorem dX12_lineFeedsAhead_23 : decode cX12_lineFeedsAhead 23 = .ok (.if_icmp .ne 6, 3) := by decide +kernel
theorem dX12_lineFeedsAhead_26 : decode cX12_lineFeedsAhead 26 = .ok (.iinc 2 1, 3) := by decide +kernel
theorem dX12_lineFeedsAhead_29 : decode cX12_lineFeedsAhead 29 = .ok (.iinc 3 1, 3) := by decide +kernel
theorem dX12_lineFeedsAhead_32 : decode cX12_lineFeedsAhead 32 = .ok (.goto (-28), 3) := by decide +kernel
theorem dX12_lineFeedsAhead_35 : decode cX12_lineFeedsAhead 35 = .ok (.iload_n 2, 1) := by decide +kernel
theorem dX12_lineFeedsAhead_36 : decode cX12_lineFeedsAhead 36 = .ok (.ireturn, 1) := by decide +kernel
set_option maxRecDepth 4000 in
theorem kX12_lineFeedsAhead (γ : LC) (w : Mm) (f p : Int) (hf : FBt w f) (hp : p ≤ w 2 (w 28 (w 11 (w 41 f 0) 0) 0) 0) (hp2 : IR p) : KI γ 1 mX12_lineFeedsAhead [rv f, .int (I p)] w (0) (0) (fun r w' => r = sumN (fun i => bi (w 1 (w 28 (w 11 (w 41 f 0) 0) 0) i = 10)) p.toNat ∧ w' = w) NX := by
  refine MX_of rfl rfl (by simp [rv_cat, int_cat]) rfl ?_
  rintro κ hO hF rfl
  have hD := hF.dp
  show X κ (0) (0) w 0 [some (rv f), some (.int (I p)), none, none] []
  obtain ⟨t0, t1, t2, t3⟩ := id hf
  refine X_iconst 1 hO dX12_lineFeedsAhead_0 rfl ?_
  refine X_istore_n 2 hO dX12_lineFeedsAhead_1 rfl rfl ?_
  refine X_iconst 3 hO dX12_lineFeedsAhead_2 rfl ?_
  refine X_istore_n 4 hO dX12_lineFeedsAhead_3 rfl rfl ?_
  have LP4 : ∀ (nn : Nat) (j s : Int), (p - j).toNat < nn → (0 ≤ j ∧ (j = 0 ∨ j ≤ p)) → (s = sumN (fun i => bi (w 1 (w 28 (w 11 (w 41 f 0) 0) 0) i = 10)) j.toNat) → (0 ≤ s ∧ s ≤ j) → X κ (0) (0) (w) 4 [some (rv f), some (.int (I p)), some (.int (I s)), some (.int (I j))] [] := by
    intro nn
    induction nn with
    | zero => intro j s hm; exact absurd hm (Nat.not_lt_zero _)
    | succ nn ih =>
      intro j s hm hj hs hb
      refine X_iload_n 5 hO dX12_lineFeedsAhead_4 rfl rfl ?_
      refine X_iload_n 6 hO dX12_lineFeedsAhead_5 rfl rfl ?_
      refine X_icmp_ge 9 35 hO dX12_lineFeedsAhead_6 rfl rfl (by omega) (by omega) (fun hc_6 => ?_) (fun hc_6 => ?_)
      ·
        refine X_iload_n 36 hO dX12_lineFeedsAhead_35 rfl rfl ?_
        exact X_iret hO hF rfl (by first | exact Or.inl rfl | exact Or.inr ⟨rfl, bi_01 _⟩ | exact Or.inr ⟨rfl, by omega⟩) dX12_lineFeedsAhead_36 ⟨_, rfl, (by omega), ⟨by rw [hs, show j.toNat = p.toNat by omega], rfl⟩⟩
      ·
        refine X_aload_n 10 hO dX12_lineFeedsAhead_9 rfl rfl ?_
        refine gX12_10 13 hO dX12_lineFeedsAhead_10 rfl (by first | assumption | omega | (simp (disch := first | decide | assumption | omega) only [up_k, up_s, up_a, up_i, flA_k, flA_a, flA_n, cpA_k, cpA_a, newO_o, newA_o, newO_t, newA_t, newA_n] <;> first | assumption | omega)) ?_
        try simp (disch := first | decide | assumption | omega) only [up_k, up_s, up_a, up_i, flA_k, flA_a, flA_n, cpA_k, cpA_a, newO_o, newA_o, newO_t, newA_t, newA_n]
        refine gX12_223 16 hO dX12_lineFeedsAhead_13 rfl (by first | assumption | omega | (simp (disch := first | decide | assumption | omega) only [up_k, up_s, up_a, up_i, flA_k, flA_a, flA_n, cpA_k, cpA_a, newO_o, newA_o, newO_t, newA_t, newA_n] <;> first | assumption | omega)) ?_
        try simp (disch := first | decide | assumption | omega) only [up_k, up_s, up_a, up_i, flA_k, flA_a, flA_n, cpA_k, cpA_a, newO_o, newA_o, newO_t, newA_t, newA_n]
        refine gX12_267 19 hO dX12_lineFeedsAhead_16 rfl (by first | assumption | omega | (simp (disch := first | decide | assumption | omega) only [up_k, up_s, up_a, up_i, flA_k, flA_a, flA_n, cpA_k, cpA_a, newO_o, newA_o, newO_t, newA_t, newA_n] <;> first | assumption | omega)) ?_
        try simp (disch := first | decide | assumption | omega) only [up_k, up_s, up_a, up_i, flA_k, flA_a, flA_n, cpA_k, cpA_a, newO_o, newA_o, newO_t, newA_t, newA_n]
        refine X_iload_n 20 hO dX12_lineFeedsAhead_19 rfl rfl ?_
        refine X_iald 21 hO dX12_lineFeedsAhead_20 rfl (by first | assumption | omega | (simp (disch := first | decide | assumption | omega) only [up_k, up_s, up_a, up_i, flA_k, flA_a, flA_n, cpA_k, cpA_a, newO_o, newA_o, newO_t, newA_t, newA_n] <;> first | assumption | omega)) (by first | assumption | omega | (simp (disch := first | decide | assumption | omega) only [up_k, up_s, up_a, up_i, flA_k, flA_a, flA_n, cpA_k, cpA_a, newO_o, newA_o, newO_t, newA_t, newA_n] <;> first | assumption | omega)) (fun hi_20 => ?_)
        try simp (disch := first | decide | assumption | omega) only [up_k, up_s, up_a, up_i, flA_k, flA_a, flA_n, cpA_k, cpA_a, newO_o, newA_o, newO_t, newA_t, newA_n] at hi_20 ⊢
        refine X_bipush 23 hO dX12_lineFeedsAhead_21 rfl (by decide) ?_
        refine X_icmp_ne 26 29 hO dX12_lineFeedsAhead_23 rfl rfl (by omega) (by omega) (fun hc_23 => ?_) (fun hc_23 => ?_)
        ·
          refine X_iinc 32 hO dX12_lineFeedsAhead_29 rfl rfl ?_
          refine X_goto hO dX12_lineFeedsAhead_32 (tgt := 4) rfl ?_
          first
          | exact ih (j + 1) _ (by omega) (by omega) (sumN_s (by omega) hs (bi_t (by omega))) (by omega)
          | exact ih (j + 1) s (by omega) (by omega) (by have := sumN_s (f := (fun i => bi (w 1 (w 28 (w 11 (w 41 f 0) 0) 0) i = 10))) (by omega) hs (bi_f (show ¬ w 1 (w 28 (w 11 (w 41 f 0) 0) 0) j = 10 by omega)); rw [← this]; omega) (by omega)
        ·
          refine X_iinc 29 hO dX12_lineFeedsAhead_26 rfl rfl ?_
          refine X_iinc 32 hO dX12_lineFeedsAhead_29 rfl rfl ?_
          refine X_goto hO dX12_lineFeedsAhead_32 (tgt := 4) rfl ?_
          first
          | exact ih (j + 1) _ (by omega) (by omega) (sumN_s (by omega) hs (bi_t (by omega))) (by omega)
          | exact ih (j + 1) s (by omega) (by omega) (by have := sumN_s (f := (fun i => bi (w 1 (w 28 (w 11 (w 41 f 0) 0) 0) i = 10))) (by omega) hs (bi_f (show ¬ w 1 (w 28 (w 11 (w 41 f 0) 0) 0) j = 10 by omega)); rw [← this]; omega) (by omega)
  exact LP4 _ 0 0 (Nat.lt_succ_self _) (by omega) rfl (by omega)
