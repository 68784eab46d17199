theorem bi_t {p : Prop} [Decidable p] (h : p) : 1 = bi p := by unfold bi; rw [if_pos h]
theorem bi_f {p : Prop} [Decidable p] (h : ¬ p) : 0 = bi p := by unfold bi; rw [if_neg h]
theorem bi_1 {p : Prop} [Decidable p] : bi p = 1 ↔ p := by unfold bi; split <;> simp_all
theorem bi_0 {p : Prop} [Decidable p] : bi p = 0 ↔ ¬ p := by unfold bi; split <;> simp_all
theorem bi_ne {p : Prop} [Decidable p] : (¬ bi p = 0) ↔ p := by unfold bi; split <;> simp_all
theorem bi_01 (p : Prop) [Decidable p] : bi p = 0 ∨ bi p = 1 := by unfold bi; split <;> simp_all
theorem dX13_in_0 : decode cX13_in 0 = .ok (.iload_n 0, 1) := by decide +kernel
theorem dX13_in_1 : decode cX13_in 1 = .ok (.iload_n 1, 1) := by decide +kernel
theorem dX13_in_2 : decode cX13_in 2 = .ok (.if_icmp .lt 12, 3) := by decide +kernel
theorem dX13_in_5 : decode cX13_in 5 = .ok (.iload_n 0, 1) := by decide +kernel
theorem dX13_in_6 : decode cX13_in 6 = .ok (.iload_n 2, 1) := by decide +kernel
theorem dX13_in_7 : decode cX13_in 7 = .ok (.if_icmp .gt 7, 3) := by decide +kernel
theorem dX13_in_10 : decode cX13_in 10 = .ok (.iconst 1, 1) := by decide +kernel
theorem dX13_in_11 : decode cX13_in 11 = .ok (.goto 4, 3) := by decide +kernel
theorem dX13_in_14 : decode cX13_in 14 = .ok (.iconst 0, 1) := by decide +kernel
theorem dX13_in_15 : decode cX13_in 15 = .ok (.ireturn, 1) := by decide +kernel
set_option maxRecDepth 4000 in
theorem c_in (γ : LC) (w : Mm) (v lo hi : Int) (h1 : IR v) (h2 : IR lo) (h3 : IR hi) : CSi γ 0 mX13_in [.int (I v), .int (I lo), .int (I hi)] w (fun r => r = bi (lo ≤ v ∧ v ≤ hi)) := by
  refine CSi_of rfl (by simp [rv_cat, Value.category]) rfl ?_
  rintro κ hO hF rfl
  have hD := hF.dp
  show X κ 0 0 w 0 [some (.int (I v)), some (.int (I lo)), some (.int (I hi))] []
  refine X_iload_n 1 hO dX13_in_0 rfl rfl ?_
  refine X_iload_n 2 hO dX13_in_1 rfl rfl ?_
  refine X_icmp_lt 5 14 hO dX13_in_2 rfl rfl (by omega) (by omega) (fun hc_2 => ?_) (fun hc_2 => ?_)
  ·
    refine X_iconst 15 hO dX13_in_14 rfl ?_
    exact XS_iret hO hF rfl (by first | exact Or.inl rfl | exact Or.inr ⟨rfl, by omega⟩) dX13_in_15 (by omega) (by first | exact bi_t (by omega) | exact bi_f (by omega)) rfl
  ·
    refine X_iload_n 6 hO dX13_in_5 rfl rfl ?_
    refine X_iload_n 7 hO dX13_in_6 rfl rfl ?_
    refine X_icmp_gt 10 14 hO dX13_in_7 rfl rfl (by omega) (by omega) (fun hc_7 => ?_) (fun hc_7 => ?_)
    ·
      refine X_iconst 15 hO dX13_in_14 rfl ?_
      exact XS_iret hO hF rfl (by first | exact Or.inl rfl | exact Or.inr ⟨rfl, by omega⟩) dX13_in_15 (by omega) (by first | exact bi_t (by omega) | exact bi_f (by omega)) rfl
    ·
      refine X_iconst 11 hO dX13_in_10 rfl ?_
      refine X_goto hO dX13_in_11 (tgt := 15) rfl ?_
      exact XS_iret hO hF rfl (by first | exact Or.inl rfl | exact Or.inr ⟨rfl, by omega⟩) dX13_in_15 (by omega) (by first | exact bi_t (by omega) | exact bi_f (by omega)) rfl
theorem dX13_isCharacter_0 : decode cX13_isCharacter 0 = .ok (.iload_n 0, 1) := by decide +kernel
theorem dX13_isCharacter_1 : decode cX13_isCharacter 1 = .ok (.bipush 10, 2) := by decide +kernel
theorem dX13_isCharacter_3 : decode cX13_isCharacter 3 = .ok (.if_icmp .eq 14, 3) := by decide +kernel
theorem dX13_isCharacter_6 : decode cX13_isCharacter 6 = .ok (.iload_n 0, 1) := by decide +kernel
theorem dX13_isCharacter_7 : decode cX13_isCharacter 7 = .ok (.bipush 32, 2) := by decide +kernel
theorem dX13_isCharacter_9 : decode cX13_isCharacter 9 = .ok (.bipush 126, 2) := by decide +kernel
theorem dX13_isCharacter_11 : decode cX13_isCharacter 11 = .ok (.invokestatic 174, 3) := by decide +kernel
theorem dX13_isCharacter_14 : decode cX13_isCharacter 14 = .ok (.ifCond .eq 7, 3) := by decide +kernel
theorem dX13_isCharacter_17 : decode cX13_isCharacter 17 = .ok (.iconst 1, 1) := by decide +kernel
theorem dX13_isCharacter_18 : decode cX13_isCharacter 18 = .ok (.goto 4, 3) := by decide +kernel
theorem dX13_isCharacter_21 : decode cX13_isCharacter 21 = .ok (.iconst 0, 1) := by decide +kernel
theorem dX13_isCharacter_22 : decode cX13_isCharacter 22 = .ok (.ireturn, 1) := by decide +kernel
set_option maxRecDepth 4000 in
theorem c_isCharacter (γ : LC) (w : Mm) (c : Int) (h1 : IR c) : CSi γ 1 mX13_isCharacter [.int (I c)] w (fun r => r = bi (c = 10 ∨ (32 ≤ c ∧ c ≤ 126))) := by
  refine CSi_of rfl (by simp [rv_cat, Value.category]) rfl ?_
  rintro κ hO hF rfl
  have hD := hF.dp
  show X κ 0 0 w 0 [some (.int (I c))] []
  refine X_iload_n 1 hO dX13_isCharacter_0 rfl rfl ?_
  refine X_bipush 3 hO dX13_isCharacter_1 rfl (by decide) ?_
  refine X_icmp_eq 6 17 hO dX13_isCharacter_3 rfl rfl (by omega) (by omega) (fun hc_3 => ?_) (fun hc_3 => ?_)
  ·
    refine X_iconst 18 hO dX13_isCharacter_17 rfl ?_
    refine X_goto hO dX13_isCharacter_18 (tgt := 22) rfl ?_
    exact XS_iret hO hF rfl (by first | exact Or.inl rfl | exact Or.inr ⟨rfl, by omega⟩) dX13_isCharacter_22 (by omega) (by first | exact bi_t (by omega) | exact bi_f (by omega)) rfl
  ·
    refine X_iload_n 7 hO dX13_isCharacter_6 rfl rfl ?_
    refine X_bipush 9 hO dX13_isCharacter_7 rfl (by decide) ?_
    refine X_bipush 11 hO dX13_isCharacter_9 rfl (by decide) ?_
    refine XM_callSi 14 hO hD lX13_174 [_, _, _] rfl dX13_isCharacter_11 rfl (c_in _ _ _ _ _ (by omega) (by omega) (by omega)) (by decide) (by simp [rv_cat, Value.category]) (fun r_11 hr_11 hp_11 => ?_)
    subst hp_11
    refine X_if_eq 17 21 hO dX13_isCharacter_14 rfl rfl (by omega) (fun hc_14 => ?_) (fun hc_14 => ?_)
    ·
      simp only [bi_0, bi_ne, ne_eq, Classical.not_not] at hc_14
      refine X_iconst 22 hO dX13_isCharacter_21 rfl ?_
      exact XS_iret hO hF rfl (by first | exact Or.inl rfl | exact Or.inr ⟨rfl, by omega⟩) dX13_isCharacter_22 (by omega) (by first | exact bi_t (by omega) | exact bi_f (by omega)) rfl
    ·
      simp only [bi_0, bi_ne, ne_eq, Classical.not_not] at hc_14
      refine X_iconst 18 hO dX13_isCharacter_17 rfl ?_
      refine X_goto hO dX13_isCharacter_18 (tgt := 22) rfl ?_
      exact XS_iret hO hF rfl (by first | exact Or.inl rfl | exact Or.inr ⟨rfl, by omega⟩) dX13_isCharacter_22 (by omega) (by first | exact bi_t (by omega) | exact bi_f (by omega)) rfl
theorem dX13_isLetter_0 : decode cX13_isLetter 0 = .ok (.iload_n 0, 1) := by decide +kernel
theorem dX13_isLetter_1 : decode cX13_isLetter 1 = .ok (.bipush 48, 2) := by decide +kernel
theorem dX13_isLetter_3 : decode cX13_isLetter 3 = .ok (.bipush 57, 2) := by decide +kernel
theorem dX13_isLetter_5 : decode cX13_isLetter 5 = .ok (.invokestatic 174, 3) := by decide +kernel
theorem dX13_isLetter_8 : decode cX13_isLetter 8 = .ok (.ifCond .ne 25, 3) := by decide +kernel
theorem dX13_isLetter_11 : decode cX13_isLetter 11 = .ok (.iload_n 0, 1) := by decide +kernel
theorem dX13_isLetter_12 : decode cX13_isLetter 12 = .ok (.bipush 65, 2) := by decide +kernel
theorem dX13_isLetter_14 : decode cX13_isLetter 14 = .ok (.bipush 90, 2) := by decide +kernel
theorem dX13_isLetter_16 : decode cX13_isLetter 16 = .ok (.invokestatic 174, 3) := by decide +kernel
theorem dX13_isLetter_19 : decode cX13_isLetter 19 = .ok (.ifCond .ne 14, 3) := by decide +kernel
theorem dX13_isLetter_22 : decode cX13_isLetter 22 = .ok (.iload_n 0, 1) := by decide +kernel
theorem dX13_isLetter_23 : decode cX13_isLetter 23 = .ok (.bipush 97, 2) := by decide +kernel
theorem dX13_isLetter_25 : decode cX13_isLetter 25 = .ok (.bipush 122, 2) := by decide +kernel
theorem dX13_isLetter_27 : decode cX13_isLetter 27 = .ok (.invokestatic 174, 3) := by decide +kernel
theorem dX13_isLetter_30 : decode cX13_isLetter 30 = .ok (.ifCond .eq 7, 3) := by decide +kernel
theorem dX13_isLetter_33 : decode cX13_isLetter 33 = .ok (.iconst 1, 1) := by decide +kernel
theorem dX13_isLetter_34 : decode cX13_isLetter 34 = .ok (.goto 4, 3) := by decide +kernel
theorem dX13_isLetter_37 : decode cX13_isLetter 37 = .ok (.iconst 0, 1) := by decide +kernel
theorem dX13_isLetter_38 : decode cX13_isLetter 38 = .ok (.ireturn, 1) := by decide +kernel
set_option maxRecDepth 4000 in
theorem c_isLetter (γ : LC) (w : Mm) (c : Int) (h1 : IR c) : CSi γ 1 mX13_isLetter [.int (I c)] w (fun r => r = bi ((48 ≤ c ∧ c ≤ 57) ∨ (65 ≤ c ∧ c ≤ 90) ∨ (97 ≤ c ∧ c ≤ 122))) := by
  refine CSi_of rfl (by simp [rv_cat, Value.category]) rfl ?_
  rintro κ hO hF rfl
  have hD := hF.dp
  show X κ 0 0 w 0 [some (.int (I c))] []
  refine X_iload_n 1 hO dX13_isLetter_0 rfl rfl ?_
  refine X_bipush 3 hO dX13_isLetter_1 rfl (by decide) ?_
  refine X_bipush 5 hO dX13_isLetter_3 rfl (by decide) ?_
  refine XM_callSi 8 hO hD lX13_174 [_, _, _] rfl dX13_isLetter_5 rfl (c_in _ _ _ _ _ (by omega) (by omega) (by omega)) (by decide) (by simp [rv_cat, Value.category]) (fun r_5 hr_5 hp_5 => ?_)
  subst hp_5
  refine X_if_ne 11 33 hO dX13_isLetter_8 rfl rfl (by omega) (fun hc_8 => ?_) (fun hc_8 => ?_)
  ·
    simp only [bi_0, bi_ne, ne_eq, Classical.not_not] at hc_8
    refine X_iconst 34 hO dX13_isLetter_33 rfl ?_
    refine X_goto hO dX13_isLetter_34 (tgt := 38) rfl ?_
    exact XS_iret hO hF rfl (by first | exact Or.inl rfl | exact Or.inr ⟨rfl, by omega⟩) dX13_isLetter_38 (by omega) (by first | exact bi_t (by omega) | exact bi_f (by omega)) rfl
  ·
    simp only [bi_0, bi_ne, ne_eq, Classical.not_not] at hc_8
    refine X_iload_n 12 hO dX13_isLetter_11 rfl rfl ?_
    refine X_bipush 14 hO dX13_isLetter_12 rfl (by decide) ?_
    refine X_bipush 16 hO dX13_isLetter_14 rfl (by decide) ?_
    refine XM_callSi 19 hO hD lX13_174 [_, _, _] rfl dX13_isLetter_16 rfl (c_in _ _ _ _ _ (by omega) (by omega) (by omega)) (by decide) (by simp [rv_cat, Value.category]) (fun r_16 hr_16 hp_16 => ?_)
    subst hp_16
    refine X_if_ne 22 33 hO dX13_isLetter_19 rfl rfl (by omega) (fun hc_19 => ?_) (fun hc_19 => ?_)
    ·
      simp only [bi_0, bi_ne, ne_eq, Classical.not_not] at hc_19
      refine X_iconst 34 hO dX13_isLetter_33 rfl ?_
      refine X_goto hO dX13_isLetter_34 (tgt := 38) rfl ?_
      exact XS_iret hO hF rfl (by first | exact Or.inl rfl | exact Or.inr ⟨rfl, by omega⟩) dX13_isLetter_38 (by omega) (by first | exact bi_t (by omega) | exact bi_f (by omega)) rfl
    ·
      simp only [bi_0, bi_ne, ne_eq, Classical.not_not] at hc_19
      refine X_iload_n 23 hO dX13_isLetter_22 rfl rfl ?_
      refine X_bipush 25 hO dX13_isLetter_23 rfl (by decide) ?_
      refine X_bipush 27 hO dX13_isLetter_25 rfl (by decide) ?_
      refine XM_callSi 30 hO hD lX13_174 [_, _, _] rfl dX13_isLetter_27 rfl (c_in _ _ _ _ _ (by omega) (by omega) (by omega)) (by decide) (by simp [rv_cat, Value.category]) (fun r_27 hr_27 hp_27 => ?_)
      subst hp_27
      refine X_if_eq 33 37 hO dX13_isLetter_30 rfl rfl (by omega) (fun hc_30 => ?_) (fun hc_30 => ?_)
      ·
        simp only [bi_0, bi_ne, ne_eq, Classical.not_not] at hc_30
        refine X_iconst 38 hO dX13_isLetter_37 rfl ?_
        exact XS_iret hO hF rfl (by first | exact Or.inl rfl | exact Or.inr ⟨rfl, by omega⟩) dX13_isLetter_38 (by omega) (by first | exact bi_t (by omega) | exact bi_f (by omega)) rfl
      ·
        simp only [bi_0, bi_ne, ne_eq, Classical.not_not] at hc_30
        refine X_iconst 34 hO dX13_isLetter_33 rfl ?_
        refine X_goto hO dX13_isLetter_34 (tgt := 38) rfl ?_
        exact XS_iret hO hF rfl (by first | exact Or.inl rfl | exact Or.inr ⟨rfl, by omega⟩) dX13_isLetter_38 (by omega) (by first | exact bi_t (by omega) | exact bi_f (by omega)) rfl
