/-! THE LAW'S METHODS: commands -/
theorem dL_insert_0 : decode cL_insert 0 = .ok (.aload_n 2, 1) := by decide +kernel
theorem dL_insert_1 : decode cL_insert 1 = .ok (.iconst 0, 1) := by decide +kernel
theorem dL_insert_2 : decode cL_insert 2 = .ok (.aload_n 0, 1) := by decide +kernel
theorem dL_insert_3 : decode cL_insert 3 = .ok (.iload_n 1, 1) := by decide +kernel
theorem dL_insert_4 : decode cL_insert 4 = .ok (.invokevirtual 7, 3) := by decide +kernel
theorem dL_insert_7 : decode cL_insert 7 = .ok (.i2l, 1) := by decide +kernel
theorem dL_insert_8 : decode cL_insert 8 = .ok (.lastore, 1) := by decide +kernel
theorem dL_insert_9 : decode cL_insert 9 = .ok (.goto 9, 3) := by decide +kernel
theorem dL_insert_12 : decode cL_insert 12 = .ok (.astore_n 3, 1) := by decide +kernel
theorem dL_insert_13 : decode cL_insert 13 = .ok (.iconst 1, 1) := by decide +kernel
theorem dL_insert_14 : decode cL_insert 14 = .ok (.ireturn, 1) := by decide +kernel
theorem dL_insert_15 : decode cL_insert 15 = .ok (.astore_n 3, 1) := by decide +kernel
theorem dL_insert_16 : decode cL_insert 16 = .ok (.iconst 2, 1) := by decide +kernel
theorem dL_insert_17 : decode cL_insert 17 = .ok (.ireturn, 1) := by decide +kernel
theorem dL_insert_18 : decode cL_insert 18 = .ok (.iconst 0, 1) := by decide +kernel
theorem dL_insert_19 : decode cL_insert 19 = .ok (.ireturn, 1) := by decide +kernel
theorem L_insert {γ : LC} {μ : MU} {w A : Mm} {f o n c : Int} (hI : LIn μ f (56 * n) (600 * n) (1 + n) w A) (hR : RM w μ) (hT : OUT o w) (hn : 0 ≤ n ∧ n ≤ 511) (hc_ : IR c) : MXW γ 15 mL_insert hL_insert [rv f, .int (I c), rv o] w 48 3300 (QW γ μ f o n mX13_insert [.int (I c)]) := by
  refine MXW_of (own := RL) rfl rfl (by simp [rv_cat, int_cat]) rfl ?_
  rintro κ hO hF rfl
  have hD := hF.dp
  show X κ 48 3300 w 0 [some (rv f), some (.int (I c)), some (rv o), none] []
  refine X_wi (fun hW => ?_)
  refine X_aload_n 1 hO dL_insert_0 rfl rfl ?_
  refine X_iconst 2 hO dL_insert_1 rfl ?_
  refine X_aload_n 3 hO dL_insert_2 rfl rfl ?_
  refine X_iload_n 4 hO dL_insert_3 rfl rfl ?_
  refine X_kVi (t := 13) 7 hO hD lL_7 rfl (by decide) [_] rfl dL_insert_4 rfl hI.t0 (lo_insert hI hR hT hn hW hc_) (by decide) (by simp [rv_cat, int_cat]) (Nat.le_refl _) (Nat.le_refl _) (fun r w_ hr hp => ?_) (fun E w_ hx => ?_)
  · refine X_i2l 8 hO dL_insert_7 rfl hr ?_
    refine X_last (z := o) (i := 0) 9 hO dL_insert_8 rfl hp.out.1 (by rw [hp.out.2]; decide) ?_
    refine X_goto (tgt := 18) hO dL_insert_9 rfl ?_
    refine X_iconst 19 hO dL_insert_18 rfl ?_
    exact X_iretW hO hF rfl (Or.inl rfl) dL_insert_19 ⟨0, _, _, _, rfl, by decide, hp, rfl, fun _ => rfl⟩
  · rcases hx with ⟨rfl, r, hq⟩ | ⟨rfl, r, hq⟩
    · refine X_catch hO hF [] _ _ rfl (fun z hz => by cases hz) (by decide) (by decide) w_652 (by decide +kernel) (fun q => ?_)
      refine X_astore_nR 13 hO dL_insert_12 rfl rfl ?_
      refine X_iconst 14 hO dL_insert_13 rfl ?_
      exact X_iretW hO hF rfl (Or.inl rfl) dL_insert_14 ⟨1, _, _, w_ 4 o 0, rfl, by decide, hq, up_self.symm, fun h => absurd h (by decide)⟩
    · refine X_catch hO hF [_] _ _ rfl (by intro z hz; simp only [List.mem_cons, List.not_mem_nil, or_false] at hz; subst hz; exact ⟨by decide, _, w_652, by decide +kernel⟩) (by decide) (by decide) w_653 (by decide +kernel) (fun q => ?_)
      refine X_astore_nR 16 hO dL_insert_15 rfl rfl ?_
      refine X_iconst 17 hO dL_insert_16 rfl ?_
      exact X_iretW hO hF rfl (Or.inl rfl) dL_insert_17 ⟨2, _, _, w_ 4 o 0, rfl, by decide, hq, up_self.symm, fun h => absurd h (by decide)⟩
theorem dL_overwrite_0 : decode cL_overwrite 0 = .ok (.aload_n 2, 1) := by decide +kernel
theorem dL_overwrite_1 : decode cL_overwrite 1 = .ok (.iconst 0, 1) := by decide +kernel
theorem dL_overwrite_2 : decode cL_overwrite 2 = .ok (.aload_n 0, 1) := by decide +kernel
theorem dL_overwrite_3 : decode cL_overwrite 3 = .ok (.iload_n 1, 1) := by decide +kernel
theorem dL_overwrite_4 : decode cL_overwrite 4 = .ok (.invokevirtual 17, 3) := by decide +kernel
theorem dL_overwrite_7 : decode cL_overwrite 7 = .ok (.i2l, 1) := by decide +kernel
theorem dL_overwrite_8 : decode cL_overwrite 8 = .ok (.lastore, 1) := by decide +kernel
theorem dL_overwrite_9 : decode cL_overwrite 9 = .ok (.goto 9, 3) := by decide +kernel
theorem dL_overwrite_12 : decode cL_overwrite 12 = .ok (.astore_n 3, 1) := by decide +kernel
theorem dL_overwrite_13 : decode cL_overwrite 13 = .ok (.iconst 1, 1) := by decide +kernel
theorem dL_overwrite_14 : decode cL_overwrite 14 = .ok (.ireturn, 1) := by decide +kernel
theorem dL_overwrite_15 : decode cL_overwrite 15 = .ok (.astore_n 3, 1) := by decide +kernel
theorem dL_overwrite_16 : decode cL_overwrite 16 = .ok (.iconst 2, 1) := by decide +kernel
theorem dL_overwrite_17 : decode cL_overwrite 17 = .ok (.ireturn, 1) := by decide +kernel
theorem dL_overwrite_18 : decode cL_overwrite 18 = .ok (.iconst 0, 1) := by decide +kernel
theorem dL_overwrite_19 : decode cL_overwrite 19 = .ok (.ireturn, 1) := by decide +kernel
theorem L_overwrite {γ : LC} {μ : MU} {w A : Mm} {f o n c : Int} (hI : LIn μ f (56 * n) (600 * n) (1 + n) w A) (hR : RM w μ) (hT : OUT o w) (hn : 0 ≤ n ∧ n ≤ 511) (hc_ : IR c) : MXW γ 15 mL_overwrite hL_overwrite [rv f, .int (I c), rv o] w 46 3106 (QW γ μ f o n mX13_overwrite [.int (I c)]) := by
  refine MXW_of (own := RL) rfl rfl (by simp [rv_cat, int_cat]) rfl ?_
  rintro κ hO hF rfl
  have hD := hF.dp
  show X κ 46 3106 w 0 [some (rv f), some (.int (I c)), some (rv o), none] []
  refine X_wi (fun hW => ?_)
  refine X_aload_n 1 hO dL_overwrite_0 rfl rfl ?_
  refine X_iconst 2 hO dL_overwrite_1 rfl ?_
  refine X_aload_n 3 hO dL_overwrite_2 rfl rfl ?_
  refine X_iload_n 4 hO dL_overwrite_3 rfl rfl ?_
  refine X_kVi (t := 13) 7 hO hD lL_17 rfl (by decide) [_] rfl dL_overwrite_4 rfl hI.t0 (lo_overwrite hI hR hT hn hW hc_) (by decide) (by simp [rv_cat, int_cat]) (Nat.le_refl _) (Nat.le_refl _) (fun r w_ hr hp => ?_) (fun E w_ hx => ?_)
  · refine X_i2l 8 hO dL_overwrite_7 rfl hr ?_
    refine X_last (z := o) (i := 0) 9 hO dL_overwrite_8 rfl hp.out.1 (by rw [hp.out.2]; decide) ?_
    refine X_goto (tgt := 18) hO dL_overwrite_9 rfl ?_
    refine X_iconst 19 hO dL_overwrite_18 rfl ?_
    exact X_iretW hO hF rfl (Or.inl rfl) dL_overwrite_19 ⟨0, _, _, _, rfl, by decide, hp, rfl, fun _ => rfl⟩
  · rcases hx with ⟨rfl, r, hq⟩ | ⟨rfl, r, hq⟩
    · refine X_catch hO hF [] _ _ rfl (fun z hz => by cases hz) (by decide) (by decide) w_652 (by decide +kernel) (fun q => ?_)
      refine X_astore_nR 13 hO dL_overwrite_12 rfl rfl ?_
      refine X_iconst 14 hO dL_overwrite_13 rfl ?_
      exact X_iretW hO hF rfl (Or.inl rfl) dL_overwrite_14 ⟨1, _, _, w_ 4 o 0, rfl, by decide, hq, up_self.symm, fun h => absurd h (by decide)⟩
    · refine X_catch hO hF [_] _ _ rfl (by intro z hz; simp only [List.mem_cons, List.not_mem_nil, or_false] at hz; subst hz; exact ⟨by decide, _, w_652, by decide +kernel⟩) (by decide) (by decide) w_653 (by decide +kernel) (fun q => ?_)
      refine X_astore_nR 16 hO dL_overwrite_15 rfl rfl ?_
      refine X_iconst 17 hO dL_overwrite_16 rfl ?_
      exact X_iretW hO hF rfl (Or.inl rfl) dL_overwrite_17 ⟨2, _, _, w_ 4 o 0, rfl, by decide, hq, up_self.symm, fun h => absurd h (by decide)⟩
theorem dL_delete_0 : decode cL_delete 0 = .ok (.aload_n 2, 1) := by decide +kernel
theorem dL_delete_1 : decode cL_delete 1 = .ok (.iconst 0, 1) := by decide +kernel
theorem dL_delete_2 : decode cL_delete 2 = .ok (.aload_n 0, 1) := by decide +kernel
theorem dL_delete_3 : decode cL_delete 3 = .ok (.iload_n 1, 1) := by decide +kernel
theorem dL_delete_4 : decode cL_delete 4 = .ok (.invokevirtual 20, 3) := by decide +kernel
theorem dL_delete_7 : decode cL_delete 7 = .ok (.i2l, 1) := by decide +kernel
theorem dL_delete_8 : decode cL_delete 8 = .ok (.lastore, 1) := by decide +kernel
theorem dL_delete_9 : decode cL_delete 9 = .ok (.goto 9, 3) := by decide +kernel
theorem dL_delete_12 : decode cL_delete 12 = .ok (.astore_n 3, 1) := by decide +kernel
theorem dL_delete_13 : decode cL_delete 13 = .ok (.iconst 1, 1) := by decide +kernel
theorem dL_delete_14 : decode cL_delete 14 = .ok (.ireturn, 1) := by decide +kernel
theorem dL_delete_15 : decode cL_delete 15 = .ok (.astore_n 3, 1) := by decide +kernel
theorem dL_delete_16 : decode cL_delete 16 = .ok (.iconst 2, 1) := by decide +kernel
theorem dL_delete_17 : decode cL_delete 17 = .ok (.ireturn, 1) := by decide +kernel
theorem dL_delete_18 : decode cL_delete 18 = .ok (.iconst 0, 1) := by decide +kernel
theorem dL_delete_19 : decode cL_delete 19 = .ok (.ireturn, 1) := by decide +kernel
theorem L_delete {γ : LC} {μ : MU} {w A : Mm} {f o n c : Int} (hI : LIn μ f (56 * n) (600 * n) (1 + n) w A) (hR : RM w μ) (hT : OUT o w) (hn : 0 ≤ n ∧ n ≤ 511) (hc_ : IR c) : MXW γ 15 mL_delete hL_delete [rv f, .int (I c), rv o] w 46 3106 (QW γ μ f o n mX13_delete [.int (I c)]) := by
  refine MXW_of (own := RL) rfl rfl (by simp [rv_cat, int_cat]) rfl ?_
  rintro κ hO hF rfl
  have hD := hF.dp
  show X κ 46 3106 w 0 [some (rv f), some (.int (I c)), some (rv o), none] []
  refine X_wi (fun hW => ?_)
  refine X_aload_n 1 hO dL_delete_0 rfl rfl ?_
  refine X_iconst 2 hO dL_delete_1 rfl ?_
  refine X_aload_n 3 hO dL_delete_2 rfl rfl ?_
  refine X_iload_n 4 hO dL_delete_3 rfl rfl ?_
  refine X_kVi (t := 13) 7 hO hD lL_20 rfl (by decide) [_] rfl dL_delete_4 rfl hI.t0 (lo_delete hI hR hT hn hW hc_) (by decide) (by simp [rv_cat, int_cat]) (Nat.le_refl _) (Nat.le_refl _) (fun r w_ hr hp => ?_) (fun E w_ hx => ?_)
  · refine X_i2l 8 hO dL_delete_7 rfl hr ?_
    refine X_last (z := o) (i := 0) 9 hO dL_delete_8 rfl hp.out.1 (by rw [hp.out.2]; decide) ?_
    refine X_goto (tgt := 18) hO dL_delete_9 rfl ?_
    refine X_iconst 19 hO dL_delete_18 rfl ?_
    exact X_iretW hO hF rfl (Or.inl rfl) dL_delete_19 ⟨0, _, _, _, rfl, by decide, hp, rfl, fun _ => rfl⟩
  · rcases hx with ⟨rfl, r, hq⟩ | ⟨rfl, r, hq⟩
    · refine X_catch hO hF [] _ _ rfl (fun z hz => by cases hz) (by decide) (by decide) w_652 (by decide +kernel) (fun q => ?_)
      refine X_astore_nR 13 hO dL_delete_12 rfl rfl ?_
      refine X_iconst 14 hO dL_delete_13 rfl ?_
      exact X_iretW hO hF rfl (Or.inl rfl) dL_delete_14 ⟨1, _, _, w_ 4 o 0, rfl, by decide, hq, up_self.symm, fun h => absurd h (by decide)⟩
    · refine X_catch hO hF [_] _ _ rfl (by intro z hz; simp only [List.mem_cons, List.not_mem_nil, or_false] at hz; subst hz; exact ⟨by decide, _, w_652, by decide +kernel⟩) (by decide) (by decide) w_653 (by decide +kernel) (fun q => ?_)
      refine X_astore_nR 16 hO dL_delete_15 rfl rfl ?_
      refine X_iconst 17 hO dL_delete_16 rfl ?_
      exact X_iretW hO hF rfl (Or.inl rfl) dL_delete_17 ⟨2, _, _, w_ 4 o 0, rfl, by decide, hq, up_self.symm, fun h => absurd h (by decide)⟩
theorem dL_move_0 : decode cL_move 0 = .ok (.aload_n 2, 1) := by decide +kernel
theorem dL_move_1 : decode cL_move 1 = .ok (.iconst 0, 1) := by decide +kernel
theorem dL_move_2 : decode cL_move 2 = .ok (.aload_n 0, 1) := by decide +kernel
theorem dL_move_3 : decode cL_move 3 = .ok (.iload_n 1, 1) := by decide +kernel
theorem dL_move_4 : decode cL_move 4 = .ok (.invokevirtual 23, 3) := by decide +kernel
theorem dL_move_7 : decode cL_move 7 = .ok (.i2l, 1) := by decide +kernel
theorem dL_move_8 : decode cL_move 8 = .ok (.lastore, 1) := by decide +kernel
theorem dL_move_9 : decode cL_move 9 = .ok (.goto 9, 3) := by decide +kernel
theorem dL_move_12 : decode cL_move 12 = .ok (.astore_n 3, 1) := by decide +kernel
theorem dL_move_13 : decode cL_move 13 = .ok (.iconst 1, 1) := by decide +kernel
theorem dL_move_14 : decode cL_move 14 = .ok (.ireturn, 1) := by decide +kernel
theorem dL_move_15 : decode cL_move 15 = .ok (.astore_n 3, 1) := by decide +kernel
theorem dL_move_16 : decode cL_move 16 = .ok (.iconst 2, 1) := by decide +kernel
theorem dL_move_17 : decode cL_move 17 = .ok (.ireturn, 1) := by decide +kernel
theorem dL_move_18 : decode cL_move 18 = .ok (.iconst 0, 1) := by decide +kernel
theorem dL_move_19 : decode cL_move 19 = .ok (.ireturn, 1) := by decide +kernel
theorem L_move {γ : LC} {μ : MU} {w A : Mm} {f o n c : Int} (hI : LIn μ f (56 * n) (600 * n) (1 + n) w A) (hR : RM w μ) (hT : OUT o w) (hn : 0 ≤ n ∧ n ≤ 511) (hc_ : IR c) : MXW γ 15 mL_move hL_move [rv f, .int (I c), rv o] w 46 3106 (QW γ μ f o n mX13_move [.int (I c)]) := by
  refine MXW_of (own := RL) rfl rfl (by simp [rv_cat, int_cat]) rfl ?_
  rintro κ hO hF rfl
  have hD := hF.dp
  show X κ 46 3106 w 0 [some (rv f), some (.int (I c)), some (rv o), none] []
  refine X_wi (fun hW => ?_)
  refine X_aload_n 1 hO dL_move_0 rfl rfl ?_
  refine X_iconst 2 hO dL_move_1 rfl ?_
  refine X_aload_n 3 hO dL_move_2 rfl rfl ?_
  refine X_iload_n 4 hO dL_move_3 rfl rfl ?_
  refine X_kVi (t := 13) 7 hO hD lL_23 rfl (by decide) [_] rfl dL_move_4 rfl hI.t0 (lo_move hI hR hT hn hW hc_) (by decide) (by simp [rv_cat, int_cat]) (Nat.le_refl _) (Nat.le_refl _) (fun r w_ hr hp => ?_) (fun E w_ hx => ?_)
  · refine X_i2l 8 hO dL_move_7 rfl hr ?_
    refine X_last (z := o) (i := 0) 9 hO dL_move_8 rfl hp.out.1 (by rw [hp.out.2]; decide) ?_
    refine X_goto (tgt := 18) hO dL_move_9 rfl ?_
    refine X_iconst 19 hO dL_move_18 rfl ?_
    exact X_iretW hO hF rfl (Or.inl rfl) dL_move_19 ⟨0, _, _, _, rfl, by decide, hp, rfl, fun _ => rfl⟩
  · rcases hx with ⟨rfl, r, hq⟩ | ⟨rfl, r, hq⟩
    · refine X_catch hO hF [] _ _ rfl (fun z hz => by cases hz) (by decide) (by decide) w_652 (by decide +kernel) (fun q => ?_)
      refine X_astore_nR 13 hO dL_move_12 rfl rfl ?_
      refine X_iconst 14 hO dL_move_13 rfl ?_
      exact X_iretW hO hF rfl (Or.inl rfl) dL_move_14 ⟨1, _, _, w_ 4 o 0, rfl, by decide, hq, up_self.symm, fun h => absurd h (by decide)⟩
    · refine X_catch hO hF [_] _ _ rfl (by intro z hz; simp only [List.mem_cons, List.not_mem_nil, or_false] at hz; subst hz; exact ⟨by decide, _, w_652, by decide +kernel⟩) (by decide) (by decide) w_653 (by decide +kernel) (fun q => ?_)
      refine X_astore_nR 16 hO dL_move_15 rfl rfl ?_
      refine X_iconst 17 hO dL_move_16 rfl ?_
      exact X_iretW hO hF rfl (Or.inl rfl) dL_move_17 ⟨2, _, _, w_ 4 o 0, rfl, by decide, hq, up_self.symm, fun h => absurd h (by decide)⟩
theorem dL_search_0 : decode cL_search 0 = .ok (.aload_n 2, 1) := by decide +kernel
theorem dL_search_1 : decode cL_search 1 = .ok (.iconst 0, 1) := by decide +kernel
theorem dL_search_2 : decode cL_search 2 = .ok (.aload_n 0, 1) := by decide +kernel
theorem dL_search_3 : decode cL_search 3 = .ok (.iload_n 1, 1) := by decide +kernel
theorem dL_search_4 : decode cL_search 4 = .ok (.invokevirtual 26, 3) := by decide +kernel
theorem dL_search_7 : decode cL_search 7 = .ok (.i2l, 1) := by decide +kernel
theorem dL_search_8 : decode cL_search 8 = .ok (.lastore, 1) := by decide +kernel
theorem dL_search_9 : decode cL_search 9 = .ok (.goto 9, 3) := by decide +kernel
theorem dL_search_12 : decode cL_search 12 = .ok (.astore_n 3, 1) := by decide +kernel
theorem dL_search_13 : decode cL_search 13 = .ok (.iconst 1, 1) := by decide +kernel
theorem dL_search_14 : decode cL_search 14 = .ok (.ireturn, 1) := by decide +kernel
theorem dL_search_15 : decode cL_search 15 = .ok (.astore_n 3, 1) := by decide +kernel
theorem dL_search_16 : decode cL_search 16 = .ok (.iconst 2, 1) := by decide +kernel
theorem dL_search_17 : decode cL_search 17 = .ok (.ireturn, 1) := by decide +kernel
theorem dL_search_18 : decode cL_search 18 = .ok (.iconst 0, 1) := by decide +kernel
theorem dL_search_19 : decode cL_search 19 = .ok (.ireturn, 1) := by decide +kernel
theorem L_search {γ : LC} {μ : MU} {w A : Mm} {f o n c : Int} (hI : LIn μ f (56 * n) (600 * n) (1 + n) w A) (hR : RM w μ) (hT : OUT o w) (hn : 0 ≤ n ∧ n ≤ 511) (hc_ : IR c) : MXW γ 15 mL_search hL_search [rv f, .int (I c), rv o] w 46 3106 (QW γ μ f o n mX13_search [.int (I c)]) := by
  refine MXW_of (own := RL) rfl rfl (by simp [rv_cat, int_cat]) rfl ?_
  rintro κ hO hF rfl
  have hD := hF.dp
  show X κ 46 3106 w 0 [some (rv f), some (.int (I c)), some (rv o), none] []
  refine X_wi (fun hW => ?_)
  refine X_aload_n 1 hO dL_search_0 rfl rfl ?_
  refine X_iconst 2 hO dL_search_1 rfl ?_
  refine X_aload_n 3 hO dL_search_2 rfl rfl ?_
  refine X_iload_n 4 hO dL_search_3 rfl rfl ?_
  refine X_kVi (t := 13) 7 hO hD lL_26 rfl (by decide) [_] rfl dL_search_4 rfl hI.t0 (lo_search hI hR hT hn hW hc_) (by decide) (by simp [rv_cat, int_cat]) (Nat.le_refl _) (Nat.le_refl _) (fun r w_ hr hp => ?_) (fun E w_ hx => ?_)
  · refine X_i2l 8 hO dL_search_7 rfl hr ?_
    refine X_last (z := o) (i := 0) 9 hO dL_search_8 rfl hp.out.1 (by rw [hp.out.2]; decide) ?_
    refine X_goto (tgt := 18) hO dL_search_9 rfl ?_
    refine X_iconst 19 hO dL_search_18 rfl ?_
    exact X_iretW hO hF rfl (Or.inl rfl) dL_search_19 ⟨0, _, _, _, rfl, by decide, hp, rfl, fun _ => rfl⟩
  · rcases hx with ⟨rfl, r, hq⟩ | ⟨rfl, r, hq⟩
    · refine X_catch hO hF [] _ _ rfl (fun z hz => by cases hz) (by decide) (by decide) w_652 (by decide +kernel) (fun q => ?_)
      refine X_astore_nR 13 hO dL_search_12 rfl rfl ?_
      refine X_iconst 14 hO dL_search_13 rfl ?_
      exact X_iretW hO hF rfl (Or.inl rfl) dL_search_14 ⟨1, _, _, w_ 4 o 0, rfl, by decide, hq, up_self.symm, fun h => absurd h (by decide)⟩
    · refine X_catch hO hF [_] _ _ rfl (by intro z hz; simp only [List.mem_cons, List.not_mem_nil, or_false] at hz; subst hz; exact ⟨by decide, _, w_652, by decide +kernel⟩) (by decide) (by decide) w_653 (by decide +kernel) (fun q => ?_)
      refine X_astore_nR 16 hO dL_search_15 rfl rfl ?_
      refine X_iconst 17 hO dL_search_16 rfl ?_
      exact X_iretW hO hF rfl (Or.inl rfl) dL_search_17 ⟨2, _, _, w_ 4 o 0, rfl, by decide, hq, up_self.symm, fun h => absurd h (by decide)⟩
theorem dL_kill_0 : decode cL_kill 0 = .ok (.aload_n 2, 1) := by decide +kernel
theorem dL_kill_1 : decode cL_kill 1 = .ok (.iconst 0, 1) := by decide +kernel
theorem dL_kill_2 : decode cL_kill 2 = .ok (.aload_n 0, 1) := by decide +kernel
theorem dL_kill_3 : decode cL_kill 3 = .ok (.iload_n 1, 1) := by decide +kernel
theorem dL_kill_4 : decode cL_kill 4 = .ok (.invokevirtual 29, 3) := by decide +kernel
theorem dL_kill_7 : decode cL_kill 7 = .ok (.i2l, 1) := by decide +kernel
theorem dL_kill_8 : decode cL_kill 8 = .ok (.lastore, 1) := by decide +kernel
theorem dL_kill_9 : decode cL_kill 9 = .ok (.goto 9, 3) := by decide +kernel
theorem dL_kill_12 : decode cL_kill 12 = .ok (.astore_n 3, 1) := by decide +kernel
theorem dL_kill_13 : decode cL_kill 13 = .ok (.iconst 1, 1) := by decide +kernel
theorem dL_kill_14 : decode cL_kill 14 = .ok (.ireturn, 1) := by decide +kernel
theorem dL_kill_15 : decode cL_kill 15 = .ok (.astore_n 3, 1) := by decide +kernel
theorem dL_kill_16 : decode cL_kill 16 = .ok (.iconst 2, 1) := by decide +kernel
theorem dL_kill_17 : decode cL_kill 17 = .ok (.ireturn, 1) := by decide +kernel
theorem dL_kill_18 : decode cL_kill 18 = .ok (.iconst 0, 1) := by decide +kernel
theorem dL_kill_19 : decode cL_kill 19 = .ok (.ireturn, 1) := by decide +kernel
theorem L_kill {γ : LC} {μ : MU} {w A : Mm} {f o n c : Int} (hI : LIn μ f (56 * n) (600 * n) (1 + n) w A) (hR : RM w μ) (hT : OUT o w) (hn : 0 ≤ n ∧ n ≤ 511) (hc_ : IR c) : MXW γ 15 mL_kill hL_kill [rv f, .int (I c), rv o] w 46 3106 (QW γ μ f o n mX13_kill [.int (I c)]) := by
  refine MXW_of (own := RL) rfl rfl (by simp [rv_cat, int_cat]) rfl ?_
  rintro κ hO hF rfl
  have hD := hF.dp
  show X κ 46 3106 w 0 [some (rv f), some (.int (I c)), some (rv o), none] []
  refine X_wi (fun hW => ?_)
  refine X_aload_n 1 hO dL_kill_0 rfl rfl ?_
  refine X_iconst 2 hO dL_kill_1 rfl ?_
  refine X_aload_n 3 hO dL_kill_2 rfl rfl ?_
  refine X_iload_n 4 hO dL_kill_3 rfl rfl ?_
  refine X_kVi (t := 13) 7 hO hD lL_29 rfl (by decide) [_] rfl dL_kill_4 rfl hI.t0 (lo_kill hI hR hT hn hW hc_) (by decide) (by simp [rv_cat, int_cat]) (Nat.le_refl _) (Nat.le_refl _) (fun r w_ hr hp => ?_) (fun E w_ hx => ?_)
  · refine X_i2l 8 hO dL_kill_7 rfl hr ?_
    refine X_last (z := o) (i := 0) 9 hO dL_kill_8 rfl hp.out.1 (by rw [hp.out.2]; decide) ?_
    refine X_goto (tgt := 18) hO dL_kill_9 rfl ?_
    refine X_iconst 19 hO dL_kill_18 rfl ?_
    exact X_iretW hO hF rfl (Or.inl rfl) dL_kill_19 ⟨0, _, _, _, rfl, by decide, hp, rfl, fun _ => rfl⟩
  · rcases hx with ⟨rfl, r, hq⟩ | ⟨rfl, r, hq⟩
    · refine X_catch hO hF [] _ _ rfl (fun z hz => by cases hz) (by decide) (by decide) w_652 (by decide +kernel) (fun q => ?_)
      refine X_astore_nR 13 hO dL_kill_12 rfl rfl ?_
      refine X_iconst 14 hO dL_kill_13 rfl ?_
      exact X_iretW hO hF rfl (Or.inl rfl) dL_kill_14 ⟨1, _, _, w_ 4 o 0, rfl, by decide, hq, up_self.symm, fun h => absurd h (by decide)⟩
    · refine X_catch hO hF [_] _ _ rfl (by intro z hz; simp only [List.mem_cons, List.not_mem_nil, or_false] at hz; subst hz; exact ⟨by decide, _, w_652, by decide +kernel⟩) (by decide) (by decide) w_653 (by decide +kernel) (fun q => ?_)
      refine X_astore_nR 16 hO dL_kill_15 rfl rfl ?_
      refine X_iconst 17 hO dL_kill_16 rfl ?_
      exact X_iretW hO hF rfl (Or.inl rfl) dL_kill_17 ⟨2, _, _, w_ 4 o 0, rfl, by decide, hq, up_self.symm, fun h => absurd h (by decide)⟩
theorem dL_yank_0 : decode cL_yank 0 = .ok (.aload_n 1, 1) := by decide +kernel
theorem dL_yank_1 : decode cL_yank 1 = .ok (.iconst 0, 1) := by decide +kernel
theorem dL_yank_2 : decode cL_yank 2 = .ok (.aload_n 0, 1) := by decide +kernel
theorem dL_yank_3 : decode cL_yank 3 = .ok (.invokevirtual 32, 3) := by decide +kernel
theorem dL_yank_6 : decode cL_yank 6 = .ok (.i2l, 1) := by decide +kernel
theorem dL_yank_7 : decode cL_yank 7 = .ok (.lastore, 1) := by decide +kernel
theorem dL_yank_8 : decode cL_yank 8 = .ok (.goto 6, 3) := by decide +kernel
theorem dL_yank_11 : decode cL_yank 11 = .ok (.astore_n 2, 1) := by decide +kernel
theorem dL_yank_12 : decode cL_yank 12 = .ok (.iconst 1, 1) := by decide +kernel
theorem dL_yank_13 : decode cL_yank 13 = .ok (.ireturn, 1) := by decide +kernel
theorem dL_yank_14 : decode cL_yank 14 = .ok (.iconst 0, 1) := by decide +kernel
theorem dL_yank_15 : decode cL_yank 15 = .ok (.ireturn, 1) := by decide +kernel
theorem L_yank {γ : LC} {μ : MU} {w A : Mm} {f o n : Int} (hI : LIn μ f (56 * n) (600 * n) (1 + n) w A) (hR : RM w μ) (hT : OUT o w) (hn : 0 ≤ n ∧ n ≤ 511) : MXW γ 15 mL_yank hL_yank [rv f, rv o] w 45 3100 (QW γ μ f o n mX13_yank []) := by
  refine MXW_of (own := RL) rfl rfl (by simp [rv_cat, int_cat]) rfl ?_
  rintro κ hO hF rfl
  have hD := hF.dp
  show X κ 45 3100 w 0 [some (rv f), some (rv o), none] []
  refine X_wi (fun hW => ?_)
  refine X_aload_n 1 hO dL_yank_0 rfl rfl ?_
  refine X_iconst 2 hO dL_yank_1 rfl ?_
  refine X_aload_n 3 hO dL_yank_2 rfl rfl ?_
  refine X_kVi (t := 13) 6 hO hD lL_32 rfl (by decide) [] rfl dL_yank_3 rfl hI.t0 (lo_yank hI hR hT hn hW) (by decide) (by simp [rv_cat, int_cat]) (Nat.le_refl _) (Nat.le_refl _) (fun r w_ hr hp => ?_) (fun E w_ hx => ?_)
  · refine X_i2l 7 hO dL_yank_6 rfl hr ?_
    refine X_last (z := o) (i := 0) 8 hO dL_yank_7 rfl hp.out.1 (by rw [hp.out.2]; decide) ?_
    refine X_goto (tgt := 14) hO dL_yank_8 rfl ?_
    refine X_iconst 15 hO dL_yank_14 rfl ?_
    exact X_iretW hO hF rfl (Or.inl rfl) dL_yank_15 ⟨0, _, _, _, rfl, by decide, hp, rfl, fun _ => rfl⟩
  · obtain ⟨rfl, r, hq⟩ := hx
    refine X_catch hO hF [] _ _ rfl (fun z hz => by cases hz) (by decide) (by decide) w_653 (by decide +kernel) (fun q => ?_)
    refine X_astore_nR 12 hO dL_yank_11 rfl rfl ?_
    refine X_iconst 13 hO dL_yank_12 rfl ?_
    exact X_iretW hO hF rfl (Or.inl rfl) dL_yank_13 ⟨1, _, _, w_ 4 o 0, rfl, by decide, hq, up_self.symm, fun h => absurd h (by decide)⟩
theorem dL_rotate_0 : decode cL_rotate 0 = .ok (.aload_n 1, 1) := by decide +kernel
theorem dL_rotate_1 : decode cL_rotate 1 = .ok (.iconst 0, 1) := by decide +kernel
theorem dL_rotate_2 : decode cL_rotate 2 = .ok (.aload_n 0, 1) := by decide +kernel
theorem dL_rotate_3 : decode cL_rotate 3 = .ok (.invokevirtual 36, 3) := by decide +kernel
theorem dL_rotate_6 : decode cL_rotate 6 = .ok (.i2l, 1) := by decide +kernel
theorem dL_rotate_7 : decode cL_rotate 7 = .ok (.lastore, 1) := by decide +kernel
theorem dL_rotate_8 : decode cL_rotate 8 = .ok (.goto 6, 3) := by decide +kernel
theorem dL_rotate_11 : decode cL_rotate 11 = .ok (.astore_n 2, 1) := by decide +kernel
theorem dL_rotate_12 : decode cL_rotate 12 = .ok (.iconst 1, 1) := by decide +kernel
theorem dL_rotate_13 : decode cL_rotate 13 = .ok (.ireturn, 1) := by decide +kernel
theorem dL_rotate_14 : decode cL_rotate 14 = .ok (.iconst 0, 1) := by decide +kernel
theorem dL_rotate_15 : decode cL_rotate 15 = .ok (.ireturn, 1) := by decide +kernel
theorem L_rotate {γ : LC} {μ : MU} {w A : Mm} {f o n : Int} (hI : LIn μ f (56 * n) (600 * n) (1 + n) w A) (hR : RM w μ) (hT : OUT o w) (hn : 0 ≤ n ∧ n ≤ 511) : MXW γ 15 mL_rotate hL_rotate [rv f, rv o] w 45 3100 (QW γ μ f o n mX13_rotate []) := by
  refine MXW_of (own := RL) rfl rfl (by simp [rv_cat, int_cat]) rfl ?_
  rintro κ hO hF rfl
  have hD := hF.dp
  show X κ 45 3100 w 0 [some (rv f), some (rv o), none] []
  refine X_wi (fun hW => ?_)
  refine X_aload_n 1 hO dL_rotate_0 rfl rfl ?_
  refine X_iconst 2 hO dL_rotate_1 rfl ?_
  refine X_aload_n 3 hO dL_rotate_2 rfl rfl ?_
  refine X_kVi (t := 13) 6 hO hD lL_36 rfl (by decide) [] rfl dL_rotate_3 rfl hI.t0 (lo_rotate hI hR hT hn hW) (by decide) (by simp [rv_cat, int_cat]) (Nat.le_refl _) (Nat.le_refl _) (fun r w_ hr hp => ?_) (fun E w_ hx => ?_)
  · refine X_i2l 7 hO dL_rotate_6 rfl hr ?_
    refine X_last (z := o) (i := 0) 8 hO dL_rotate_7 rfl hp.out.1 (by rw [hp.out.2]; decide) ?_
    refine X_goto (tgt := 14) hO dL_rotate_8 rfl ?_
    refine X_iconst 15 hO dL_rotate_14 rfl ?_
    exact X_iretW hO hF rfl (Or.inl rfl) dL_rotate_15 ⟨0, _, _, _, rfl, by decide, hp, rfl, fun _ => rfl⟩
  · obtain ⟨rfl, r, hq⟩ := hx
    refine X_catch hO hF [] _ _ rfl (fun z hz => by cases hz) (by decide) (by decide) w_653 (by decide +kernel) (fun q => ?_)
    refine X_astore_nR 12 hO dL_rotate_11 rfl rfl ?_
    refine X_iconst 13 hO dL_rotate_12 rfl ?_
    exact X_iretW hO hF rfl (Or.inl rfl) dL_rotate_13 ⟨1, _, _, w_ 4 o 0, rfl, by decide, hq, up_self.symm, fun h => absurd h (by decide)⟩
theorem dL_copy_0 : decode cL_copy 0 = .ok (.aload_n 3, 1) := by decide +kernel
theorem dL_copy_1 : decode cL_copy 1 = .ok (.iconst 0, 1) := by decide +kernel
theorem dL_copy_2 : decode cL_copy 2 = .ok (.aload_n 0, 1) := by decide +kernel
theorem dL_copy_3 : decode cL_copy 3 = .ok (.iload_n 1, 1) := by decide +kernel
theorem dL_copy_4 : decode cL_copy 4 = .ok (.iload_n 2, 1) := by decide +kernel
theorem dL_copy_5 : decode cL_copy 5 = .ok (.invokevirtual 39, 3) := by decide +kernel
theorem dL_copy_8 : decode cL_copy 8 = .ok (.i2l, 1) := by decide +kernel
theorem dL_copy_9 : decode cL_copy 9 = .ok (.lastore, 1) := by decide +kernel
theorem dL_copy_10 : decode cL_copy 10 = .ok (.goto 15, 3) := by decide +kernel
theorem dL_copy_13 : decode cL_copy 13 = .ok (.astore 4, 2) := by decide +kernel
theorem dL_copy_15 : decode cL_copy 15 = .ok (.iconst 1, 1) := by decide +kernel
theorem dL_copy_16 : decode cL_copy 16 = .ok (.ireturn, 1) := by decide +kernel
theorem dL_copy_17 : decode cL_copy 17 = .ok (.astore 4, 2) := by decide +kernel
theorem dL_copy_19 : decode cL_copy 19 = .ok (.iconst 2, 1) := by decide +kernel
theorem dL_copy_20 : decode cL_copy 20 = .ok (.ireturn, 1) := by decide +kernel
theorem dL_copy_21 : decode cL_copy 21 = .ok (.astore 4, 2) := by decide +kernel
theorem dL_copy_23 : decode cL_copy 23 = .ok (.iconst 3, 1) := by decide +kernel
theorem dL_copy_24 : decode cL_copy 24 = .ok (.ireturn, 1) := by decide +kernel
theorem dL_copy_25 : decode cL_copy 25 = .ok (.iconst 0, 1) := by decide +kernel
theorem dL_copy_26 : decode cL_copy 26 = .ok (.ireturn, 1) := by decide +kernel
theorem L_copy {γ : LC} {μ : MU} {w A : Mm} {f o n c k : Int} (hI : LIn μ f (56 * n) (600 * n) (1 + n) w A) (hR : RM w μ) (hT : OUT o w) (hn : 0 ≤ n ∧ n ≤ 511) (hc_ : IR c) (hk_ : IR k) : MXW γ 15 mL_copy hL_copy [rv f, .int (I c), .int (I k), rv o] w 47 3112 (QW γ μ f o n mX13_copy [.int (I c), .int (I k)]) := by
  refine MXW_of (own := RL) rfl rfl (by simp [rv_cat, int_cat]) rfl ?_
  rintro κ hO hF rfl
  have hD := hF.dp
  show X κ 47 3112 w 0 [some (rv f), some (.int (I c)), some (.int (I k)), some (rv o), none] []
  refine X_wi (fun hW => ?_)
  refine X_aload_n 1 hO dL_copy_0 rfl rfl ?_
  refine X_iconst 2 hO dL_copy_1 rfl ?_
  refine X_aload_n 3 hO dL_copy_2 rfl rfl ?_
  refine X_iload_n 4 hO dL_copy_3 rfl rfl ?_
  refine X_iload_n 5 hO dL_copy_4 rfl rfl ?_
  refine X_kVi (t := 13) 8 hO hD lL_39 rfl (by decide) [_, _] rfl dL_copy_5 rfl hI.t0 (lo_copy hI hR hT hn hW hc_ hk_) (by decide) (by simp [rv_cat, int_cat]) (Nat.le_refl _) (Nat.le_refl _) (fun r w_ hr hp => ?_) (fun E w_ hx => ?_)
  · refine X_i2l 9 hO dL_copy_8 rfl hr ?_
    refine X_last (z := o) (i := 0) 10 hO dL_copy_9 rfl hp.out.1 (by rw [hp.out.2]; decide) ?_
    refine X_goto (tgt := 25) hO dL_copy_10 rfl ?_
    refine X_iconst 26 hO dL_copy_25 rfl ?_
    exact X_iretW hO hF rfl (Or.inl rfl) dL_copy_26 ⟨0, _, _, _, rfl, by decide, hp, rfl, fun _ => rfl⟩
  · rcases hx with ⟨rfl, r, hq⟩ | ⟨rfl, r, hq⟩ | ⟨rfl, r, hq⟩
    · refine X_catch hO hF [] _ _ rfl (fun z hz => by cases hz) (by decide) (by decide) w_1147 (by decide +kernel) (fun q => ?_)
      refine X_astoreR 15 hO dL_copy_13 rfl rfl ?_
      refine X_iconst 16 hO dL_copy_15 rfl ?_
      exact X_iretW hO hF rfl (Or.inl rfl) dL_copy_16 ⟨1, _, _, w_ 4 o 0, rfl, by decide, hq, up_self.symm, fun h => absurd h (by decide)⟩
    · refine X_catch hO hF [_] _ _ rfl (by intro z hz; simp only [List.mem_cons, List.not_mem_nil, or_false] at hz; subst hz; exact ⟨by decide, _, w_1147, by decide +kernel⟩) (by decide) (by decide) w_652 (by decide +kernel) (fun q => ?_)
      refine X_astoreR 19 hO dL_copy_17 rfl rfl ?_
      refine X_iconst 20 hO dL_copy_19 rfl ?_
      exact X_iretW hO hF rfl (Or.inl rfl) dL_copy_20 ⟨2, _, _, w_ 4 o 0, rfl, by decide, hq, up_self.symm, fun h => absurd h (by decide)⟩
    · refine X_catch hO hF [_, _] _ _ rfl (by intro z hz; simp only [List.mem_cons, List.not_mem_nil, or_false] at hz; rcases hz with rfl | rfl <;> first | exact ⟨by decide, _, w_1147, by decide +kernel⟩ | exact ⟨by decide, _, w_652, by decide +kernel⟩) (by decide) (by decide) w_653 (by decide +kernel) (fun q => ?_)
      refine X_astoreR 23 hO dL_copy_21 rfl rfl ?_
      refine X_iconst 24 hO dL_copy_23 rfl ?_
      exact X_iretW hO hF rfl (Or.inl rfl) dL_copy_24 ⟨3, _, _, w_ 4 o 0, rfl, by decide, hq, up_self.symm, fun h => absurd h (by decide)⟩
theorem dL_paste_0 : decode cL_paste 0 = .ok (.aload_n 2, 1) := by decide +kernel
theorem dL_paste_1 : decode cL_paste 1 = .ok (.iconst 0, 1) := by decide +kernel
theorem dL_paste_2 : decode cL_paste 2 = .ok (.aload_n 0, 1) := by decide +kernel
theorem dL_paste_3 : decode cL_paste 3 = .ok (.iload_n 1, 1) := by decide +kernel
theorem dL_paste_4 : decode cL_paste 4 = .ok (.invokevirtual 45, 3) := by decide +kernel
theorem dL_paste_7 : decode cL_paste 7 = .ok (.i2l, 1) := by decide +kernel
theorem dL_paste_8 : decode cL_paste 8 = .ok (.lastore, 1) := by decide +kernel
theorem dL_paste_9 : decode cL_paste 9 = .ok (.goto 9, 3) := by decide +kernel
theorem dL_paste_12 : decode cL_paste 12 = .ok (.astore_n 3, 1) := by decide +kernel
theorem dL_paste_13 : decode cL_paste 13 = .ok (.iconst 1, 1) := by decide +kernel
theorem dL_paste_14 : decode cL_paste 14 = .ok (.ireturn, 1) := by decide +kernel
theorem dL_paste_15 : decode cL_paste 15 = .ok (.astore_n 3, 1) := by decide +kernel
theorem dL_paste_16 : decode cL_paste 16 = .ok (.iconst 2, 1) := by decide +kernel
theorem dL_paste_17 : decode cL_paste 17 = .ok (.ireturn, 1) := by decide +kernel
theorem dL_paste_18 : decode cL_paste 18 = .ok (.iconst 0, 1) := by decide +kernel
theorem dL_paste_19 : decode cL_paste 19 = .ok (.ireturn, 1) := by decide +kernel
theorem L_paste {γ : LC} {μ : MU} {w A : Mm} {f o n c : Int} (hI : LIn μ f (56 * n) (600 * n) (1 + n) w A) (hR : RM w μ) (hT : OUT o w) (hn : 0 ≤ n ∧ n ≤ 511) (hc_ : IR c) : MXW γ 15 mL_paste hL_paste [rv f, .int (I c), rv o] w 46 3106 (QW γ μ f o n mX13_paste [.int (I c)]) := by
  refine MXW_of (own := RL) rfl rfl (by simp [rv_cat, int_cat]) rfl ?_
  rintro κ hO hF rfl
  have hD := hF.dp
  show X κ 46 3106 w 0 [some (rv f), some (.int (I c)), some (rv o), none] []
  refine X_wi (fun hW => ?_)
  refine X_aload_n 1 hO dL_paste_0 rfl rfl ?_
  refine X_iconst 2 hO dL_paste_1 rfl ?_
  refine X_aload_n 3 hO dL_paste_2 rfl rfl ?_
  refine X_iload_n 4 hO dL_paste_3 rfl rfl ?_
  refine X_kVi (t := 13) 7 hO hD lL_45 rfl (by decide) [_] rfl dL_paste_4 rfl hI.t0 (lo_paste hI hR hT hn hW hc_) (by decide) (by simp [rv_cat, int_cat]) (Nat.le_refl _) (Nat.le_refl _) (fun r w_ hr hp => ?_) (fun E w_ hx => ?_)
  · refine X_i2l 8 hO dL_paste_7 rfl hr ?_
    refine X_last (z := o) (i := 0) 9 hO dL_paste_8 rfl hp.out.1 (by rw [hp.out.2]; decide) ?_
    refine X_goto (tgt := 18) hO dL_paste_9 rfl ?_
    refine X_iconst 19 hO dL_paste_18 rfl ?_
    exact X_iretW hO hF rfl (Or.inl rfl) dL_paste_19 ⟨0, _, _, _, rfl, by decide, hp, rfl, fun _ => rfl⟩
  · rcases hx with ⟨rfl, r, hq⟩ | ⟨rfl, r, hq⟩
    · refine X_catch hO hF [] _ _ rfl (fun z hz => by cases hz) (by decide) (by decide) w_1147 (by decide +kernel) (fun q => ?_)
      refine X_astore_nR 13 hO dL_paste_12 rfl rfl ?_
      refine X_iconst 14 hO dL_paste_13 rfl ?_
      exact X_iretW hO hF rfl (Or.inl rfl) dL_paste_14 ⟨1, _, _, w_ 4 o 0, rfl, by decide, hq, up_self.symm, fun h => absurd h (by decide)⟩
    · refine X_catch hO hF [_] _ _ rfl (by intro z hz; simp only [List.mem_cons, List.not_mem_nil, or_false] at hz; subst hz; exact ⟨by decide, _, w_1147, by decide +kernel⟩) (by decide) (by decide) w_653 (by decide +kernel) (fun q => ?_)
      refine X_astore_nR 16 hO dL_paste_15 rfl rfl ?_
      refine X_iconst 17 hO dL_paste_16 rfl ?_
      exact X_iretW hO hF rfl (Or.inl rfl) dL_paste_17 ⟨2, _, _, w_ 4 o 0, rfl, by decide, hq, up_self.symm, fun h => absurd h (by decide)⟩
theorem dL_setMark_0 : decode cL_setMark 0 = .ok (.aload_n 3, 1) := by decide +kernel
theorem dL_setMark_1 : decode cL_setMark 1 = .ok (.iconst 0, 1) := by decide +kernel
theorem dL_setMark_2 : decode cL_setMark 2 = .ok (.aload_n 0, 1) := by decide +kernel
theorem dL_setMark_3 : decode cL_setMark 3 = .ok (.iload_n 1, 1) := by decide +kernel
theorem dL_setMark_4 : decode cL_setMark 4 = .ok (.iload_n 2, 1) := by decide +kernel
theorem dL_setMark_5 : decode cL_setMark 5 = .ok (.invokevirtual 48, 3) := by decide +kernel
theorem dL_setMark_8 : decode cL_setMark 8 = .ok (.i2l, 1) := by decide +kernel
theorem dL_setMark_9 : decode cL_setMark 9 = .ok (.lastore, 1) := by decide +kernel
theorem dL_setMark_10 : decode cL_setMark 10 = .ok (.goto 11, 3) := by decide +kernel
theorem dL_setMark_13 : decode cL_setMark 13 = .ok (.astore 4, 2) := by decide +kernel
theorem dL_setMark_15 : decode cL_setMark 15 = .ok (.iconst 1, 1) := by decide +kernel
theorem dL_setMark_16 : decode cL_setMark 16 = .ok (.ireturn, 1) := by decide +kernel
theorem dL_setMark_17 : decode cL_setMark 17 = .ok (.astore 4, 2) := by decide +kernel
theorem dL_setMark_19 : decode cL_setMark 19 = .ok (.iconst 2, 1) := by decide +kernel
theorem dL_setMark_20 : decode cL_setMark 20 = .ok (.ireturn, 1) := by decide +kernel
theorem dL_setMark_21 : decode cL_setMark 21 = .ok (.iconst 0, 1) := by decide +kernel
theorem dL_setMark_22 : decode cL_setMark 22 = .ok (.ireturn, 1) := by decide +kernel
theorem L_setMark {γ : LC} {μ : MU} {w A : Mm} {f o n c b : Int} (hI : LIn μ f (56 * n) (600 * n) (1 + n) w A) (hR : RM w μ) (hT : OUT o w) (hn : 0 ≤ n ∧ n ≤ 511) (hc_ : IR c) (hb_ : IR b) (hb2 : b = 0 ∨ b = 1) : MXW γ 15 mL_setMark hL_setMark [rv f, .int (I c), .int (I b), rv o] w 46 3106 (QW γ μ f o n mX13_setMark [.int (I c), .int (I b)]) := by
  refine MXW_of (own := RL) rfl rfl (by simp [rv_cat, int_cat]) rfl ?_
  rintro κ hO hF rfl
  have hD := hF.dp
  show X κ 46 3106 w 0 [some (rv f), some (.int (I c)), some (.int (I b)), some (rv o), none] []
  refine X_wi (fun hW => ?_)
  refine X_aload_n 1 hO dL_setMark_0 rfl rfl ?_
  refine X_iconst 2 hO dL_setMark_1 rfl ?_
  refine X_aload_n 3 hO dL_setMark_2 rfl rfl ?_
  refine X_iload_n 4 hO dL_setMark_3 rfl rfl ?_
  refine X_iload_n 5 hO dL_setMark_4 rfl rfl ?_
  refine X_kVi (t := 13) 8 hO hD lL_48 rfl (by decide) [_, _] rfl dL_setMark_5 rfl hI.t0 (lo_setMark hI hR hT hn hW hc_ hb_ hb2) (by decide) (by simp [rv_cat, int_cat]) (Nat.le_refl _) (Nat.le_refl _) (fun r w_ hr hp => ?_) (fun E w_ hx => ?_)
  · refine X_i2l 9 hO dL_setMark_8 rfl hr ?_
    refine X_last (z := o) (i := 0) 10 hO dL_setMark_9 rfl hp.out.1 (by rw [hp.out.2]; decide) ?_
    refine X_goto (tgt := 21) hO dL_setMark_10 rfl ?_
    refine X_iconst 22 hO dL_setMark_21 rfl ?_
    exact X_iretW hO hF rfl (Or.inl rfl) dL_setMark_22 ⟨0, _, _, _, rfl, by decide, hp, rfl, fun _ => rfl⟩
  · rcases hx with ⟨rfl, r, hq⟩ | ⟨rfl, r, hq⟩
    · refine X_catch hO hF [] _ _ rfl (fun z hz => by cases hz) (by decide) (by decide) w_1147 (by decide +kernel) (fun q => ?_)
      refine X_astoreR 15 hO dL_setMark_13 rfl rfl ?_
      refine X_iconst 16 hO dL_setMark_15 rfl ?_
      exact X_iretW hO hF rfl (Or.inl rfl) dL_setMark_16 ⟨1, _, _, w_ 4 o 0, rfl, by decide, hq, up_self.symm, fun h => absurd h (by decide)⟩
    · refine X_catch hO hF [_] _ _ rfl (by intro z hz; simp only [List.mem_cons, List.not_mem_nil, or_false] at hz; subst hz; exact ⟨by decide, _, w_1147, by decide +kernel⟩) (by decide) (by decide) w_653 (by decide +kernel) (fun q => ?_)
      refine X_astoreR 19 hO dL_setMark_17 rfl rfl ?_
      refine X_iconst 20 hO dL_setMark_19 rfl ?_
      exact X_iretW hO hF rfl (Or.inl rfl) dL_setMark_20 ⟨2, _, _, w_ 4 o 0, rfl, by decide, hq, up_self.symm, fun h => absurd h (by decide)⟩
theorem dL_clearMark_0 : decode cL_clearMark 0 = .ok (.aload_n 2, 1) := by decide +kernel
theorem dL_clearMark_1 : decode cL_clearMark 1 = .ok (.iconst 0, 1) := by decide +kernel
theorem dL_clearMark_2 : decode cL_clearMark 2 = .ok (.aload_n 0, 1) := by decide +kernel
theorem dL_clearMark_3 : decode cL_clearMark 3 = .ok (.iload_n 1, 1) := by decide +kernel
theorem dL_clearMark_4 : decode cL_clearMark 4 = .ok (.invokevirtual 52, 3) := by decide +kernel
theorem dL_clearMark_7 : decode cL_clearMark 7 = .ok (.i2l, 1) := by decide +kernel
theorem dL_clearMark_8 : decode cL_clearMark 8 = .ok (.lastore, 1) := by decide +kernel
theorem dL_clearMark_9 : decode cL_clearMark 9 = .ok (.goto 9, 3) := by decide +kernel
theorem dL_clearMark_12 : decode cL_clearMark 12 = .ok (.astore_n 3, 1) := by decide +kernel
theorem dL_clearMark_13 : decode cL_clearMark 13 = .ok (.iconst 1, 1) := by decide +kernel
theorem dL_clearMark_14 : decode cL_clearMark 14 = .ok (.ireturn, 1) := by decide +kernel
theorem dL_clearMark_15 : decode cL_clearMark 15 = .ok (.astore_n 3, 1) := by decide +kernel
theorem dL_clearMark_16 : decode cL_clearMark 16 = .ok (.iconst 2, 1) := by decide +kernel
theorem dL_clearMark_17 : decode cL_clearMark 17 = .ok (.ireturn, 1) := by decide +kernel
theorem dL_clearMark_18 : decode cL_clearMark 18 = .ok (.iconst 0, 1) := by decide +kernel
theorem dL_clearMark_19 : decode cL_clearMark 19 = .ok (.ireturn, 1) := by decide +kernel
theorem L_clearMark {γ : LC} {μ : MU} {w A : Mm} {f o n c : Int} (hI : LIn μ f (56 * n) (600 * n) (1 + n) w A) (hR : RM w μ) (hT : OUT o w) (hn : 0 ≤ n ∧ n ≤ 511) (hc_ : IR c) : MXW γ 15 mL_clearMark hL_clearMark [rv f, .int (I c), rv o] w 46 3106 (QW γ μ f o n mX13_clearMark [.int (I c)]) := by
  refine MXW_of (own := RL) rfl rfl (by simp [rv_cat, int_cat]) rfl ?_
  rintro κ hO hF rfl
  have hD := hF.dp
  show X κ 46 3106 w 0 [some (rv f), some (.int (I c)), some (rv o), none] []
  refine X_wi (fun hW => ?_)
  refine X_aload_n 1 hO dL_clearMark_0 rfl rfl ?_
  refine X_iconst 2 hO dL_clearMark_1 rfl ?_
  refine X_aload_n 3 hO dL_clearMark_2 rfl rfl ?_
  refine X_iload_n 4 hO dL_clearMark_3 rfl rfl ?_
  refine X_kVi (t := 13) 7 hO hD lL_52 rfl (by decide) [_] rfl dL_clearMark_4 rfl hI.t0 (lo_clearMark hI hR hT hn hW hc_) (by decide) (by simp [rv_cat, int_cat]) (Nat.le_refl _) (Nat.le_refl _) (fun r w_ hr hp => ?_) (fun E w_ hx => ?_)
  · refine X_i2l 8 hO dL_clearMark_7 rfl hr ?_
    refine X_last (z := o) (i := 0) 9 hO dL_clearMark_8 rfl hp.out.1 (by rw [hp.out.2]; decide) ?_
    refine X_goto (tgt := 18) hO dL_clearMark_9 rfl ?_
    refine X_iconst 19 hO dL_clearMark_18 rfl ?_
    exact X_iretW hO hF rfl (Or.inl rfl) dL_clearMark_19 ⟨0, _, _, _, rfl, by decide, hp, rfl, fun _ => rfl⟩
  · rcases hx with ⟨rfl, r, hq⟩ | ⟨rfl, r, hq⟩
    · refine X_catch hO hF [] _ _ rfl (fun z hz => by cases hz) (by decide) (by decide) w_1147 (by decide +kernel) (fun q => ?_)
      refine X_astore_nR 13 hO dL_clearMark_12 rfl rfl ?_
      refine X_iconst 14 hO dL_clearMark_13 rfl ?_
      exact X_iretW hO hF rfl (Or.inl rfl) dL_clearMark_14 ⟨1, _, _, w_ 4 o 0, rfl, by decide, hq, up_self.symm, fun h => absurd h (by decide)⟩
    · refine X_catch hO hF [_] _ _ rfl (by intro z hz; simp only [List.mem_cons, List.not_mem_nil, or_false] at hz; subst hz; exact ⟨by decide, _, w_1147, by decide +kernel⟩) (by decide) (by decide) w_653 (by decide +kernel) (fun q => ?_)
      refine X_astore_nR 16 hO dL_clearMark_15 rfl rfl ?_
      refine X_iconst 17 hO dL_clearMark_16 rfl ?_
      exact X_iretW hO hF rfl (Or.inl rfl) dL_clearMark_17 ⟨2, _, _, w_ 4 o 0, rfl, by decide, hq, up_self.symm, fun h => absurd h (by decide)⟩
theorem dL_jump_0 : decode cL_jump 0 = .ok (.aload_n 2, 1) := by decide +kernel
theorem dL_jump_1 : decode cL_jump 1 = .ok (.iconst 0, 1) := by decide +kernel
theorem dL_jump_2 : decode cL_jump 2 = .ok (.aload_n 0, 1) := by decide +kernel
theorem dL_jump_3 : decode cL_jump 3 = .ok (.iload_n 1, 1) := by decide +kernel
theorem dL_jump_4 : decode cL_jump 4 = .ok (.invokevirtual 55, 3) := by decide +kernel
theorem dL_jump_7 : decode cL_jump 7 = .ok (.i2l, 1) := by decide +kernel
theorem dL_jump_8 : decode cL_jump 8 = .ok (.lastore, 1) := by decide +kernel
theorem dL_jump_9 : decode cL_jump 9 = .ok (.goto 9, 3) := by decide +kernel
theorem dL_jump_12 : decode cL_jump 12 = .ok (.astore_n 3, 1) := by decide +kernel
theorem dL_jump_13 : decode cL_jump 13 = .ok (.iconst 1, 1) := by decide +kernel
theorem dL_jump_14 : decode cL_jump 14 = .ok (.ireturn, 1) := by decide +kernel
theorem dL_jump_15 : decode cL_jump 15 = .ok (.astore_n 3, 1) := by decide +kernel
theorem dL_jump_16 : decode cL_jump 16 = .ok (.iconst 2, 1) := by decide +kernel
theorem dL_jump_17 : decode cL_jump 17 = .ok (.ireturn, 1) := by decide +kernel
theorem dL_jump_18 : decode cL_jump 18 = .ok (.iconst 0, 1) := by decide +kernel
theorem dL_jump_19 : decode cL_jump 19 = .ok (.ireturn, 1) := by decide +kernel
theorem L_jump {γ : LC} {μ : MU} {w A : Mm} {f o n c : Int} (hI : LIn μ f (56 * n) (600 * n) (1 + n) w A) (hR : RM w μ) (hT : OUT o w) (hn : 0 ≤ n ∧ n ≤ 511) (hc_ : IR c) : MXW γ 15 mL_jump hL_jump [rv f, .int (I c), rv o] w 46 3106 (QW γ μ f o n mX13_jump [.int (I c)]) := by
  refine MXW_of (own := RL) rfl rfl (by simp [rv_cat, int_cat]) rfl ?_
  rintro κ hO hF rfl
  have hD := hF.dp
  show X κ 46 3106 w 0 [some (rv f), some (.int (I c)), some (rv o), none] []
  refine X_wi (fun hW => ?_)
  refine X_aload_n 1 hO dL_jump_0 rfl rfl ?_
  refine X_iconst 2 hO dL_jump_1 rfl ?_
  refine X_aload_n 3 hO dL_jump_2 rfl rfl ?_
  refine X_iload_n 4 hO dL_jump_3 rfl rfl ?_
  refine X_kVi (t := 13) 7 hO hD lL_55 rfl (by decide) [_] rfl dL_jump_4 rfl hI.t0 (lo_jump hI hR hT hn hW hc_) (by decide) (by simp [rv_cat, int_cat]) (Nat.le_refl _) (Nat.le_refl _) (fun r w_ hr hp => ?_) (fun E w_ hx => ?_)
  · refine X_i2l 8 hO dL_jump_7 rfl hr ?_
    refine X_last (z := o) (i := 0) 9 hO dL_jump_8 rfl hp.out.1 (by rw [hp.out.2]; decide) ?_
    refine X_goto (tgt := 18) hO dL_jump_9 rfl ?_
    refine X_iconst 19 hO dL_jump_18 rfl ?_
    exact X_iretW hO hF rfl (Or.inl rfl) dL_jump_19 ⟨0, _, _, _, rfl, by decide, hp, rfl, fun _ => rfl⟩
  · rcases hx with ⟨rfl, r, hq⟩ | ⟨rfl, r, hq⟩
    · refine X_catch hO hF [] _ _ rfl (fun z hz => by cases hz) (by decide) (by decide) w_1147 (by decide +kernel) (fun q => ?_)
      refine X_astore_nR 13 hO dL_jump_12 rfl rfl ?_
      refine X_iconst 14 hO dL_jump_13 rfl ?_
      exact X_iretW hO hF rfl (Or.inl rfl) dL_jump_14 ⟨1, _, _, w_ 4 o 0, rfl, by decide, hq, up_self.symm, fun h => absurd h (by decide)⟩
    · refine X_catch hO hF [_] _ _ rfl (by intro z hz; simp only [List.mem_cons, List.not_mem_nil, or_false] at hz; subst hz; exact ⟨by decide, _, w_1147, by decide +kernel⟩) (by decide) (by decide) w_653 (by decide +kernel) (fun q => ?_)
      refine X_astore_nR 16 hO dL_jump_15 rfl rfl ?_
      refine X_iconst 17 hO dL_jump_16 rfl ?_
      exact X_iretW hO hF rfl (Or.inl rfl) dL_jump_17 ⟨2, _, _, w_ 4 o 0, rfl, by decide, hq, up_self.symm, fun h => absurd h (by decide)⟩
theorem dL_narrow_0 : decode cL_narrow 0 = .ok (.aload_n 2, 1) := by decide +kernel
theorem dL_narrow_1 : decode cL_narrow 1 = .ok (.iconst 0, 1) := by decide +kernel
theorem dL_narrow_2 : decode cL_narrow 2 = .ok (.aload_n 0, 1) := by decide +kernel
theorem dL_narrow_3 : decode cL_narrow 3 = .ok (.iload_n 1, 1) := by decide +kernel
theorem dL_narrow_4 : decode cL_narrow 4 = .ok (.invokevirtual 58, 3) := by decide +kernel
theorem dL_narrow_7 : decode cL_narrow 7 = .ok (.i2l, 1) := by decide +kernel
theorem dL_narrow_8 : decode cL_narrow 8 = .ok (.lastore, 1) := by decide +kernel
theorem dL_narrow_9 : decode cL_narrow 9 = .ok (.goto 9, 3) := by decide +kernel
theorem dL_narrow_12 : decode cL_narrow 12 = .ok (.astore_n 3, 1) := by decide +kernel
theorem dL_narrow_13 : decode cL_narrow 13 = .ok (.iconst 1, 1) := by decide +kernel
theorem dL_narrow_14 : decode cL_narrow 14 = .ok (.ireturn, 1) := by decide +kernel
theorem dL_narrow_15 : decode cL_narrow 15 = .ok (.astore_n 3, 1) := by decide +kernel
theorem dL_narrow_16 : decode cL_narrow 16 = .ok (.iconst 2, 1) := by decide +kernel
theorem dL_narrow_17 : decode cL_narrow 17 = .ok (.ireturn, 1) := by decide +kernel
theorem dL_narrow_18 : decode cL_narrow 18 = .ok (.iconst 0, 1) := by decide +kernel
theorem dL_narrow_19 : decode cL_narrow 19 = .ok (.ireturn, 1) := by decide +kernel
theorem L_narrow {γ : LC} {μ : MU} {w A : Mm} {f o n c : Int} (hI : LIn μ f (56 * n) (600 * n) (1 + n) w A) (hR : RM w μ) (hT : OUT o w) (hn : 0 ≤ n ∧ n ≤ 511) (hc_ : IR c) : MXW γ 15 mL_narrow hL_narrow [rv f, .int (I c), rv o] w 46 3106 (QW γ μ f o n mX13_narrow [.int (I c)]) := by
  refine MXW_of (own := RL) rfl rfl (by simp [rv_cat, int_cat]) rfl ?_
  rintro κ hO hF rfl
  have hD := hF.dp
  show X κ 46 3106 w 0 [some (rv f), some (.int (I c)), some (rv o), none] []
  refine X_wi (fun hW => ?_)
  refine X_aload_n 1 hO dL_narrow_0 rfl rfl ?_
  refine X_iconst 2 hO dL_narrow_1 rfl ?_
  refine X_aload_n 3 hO dL_narrow_2 rfl rfl ?_
  refine X_iload_n 4 hO dL_narrow_3 rfl rfl ?_
  refine X_kVi (t := 13) 7 hO hD lL_58 rfl (by decide) [_] rfl dL_narrow_4 rfl hI.t0 (lo_narrow hI hR hT hn hW hc_) (by decide) (by simp [rv_cat, int_cat]) (Nat.le_refl _) (Nat.le_refl _) (fun r w_ hr hp => ?_) (fun E w_ hx => ?_)
  · refine X_i2l 8 hO dL_narrow_7 rfl hr ?_
    refine X_last (z := o) (i := 0) 9 hO dL_narrow_8 rfl hp.out.1 (by rw [hp.out.2]; decide) ?_
    refine X_goto (tgt := 18) hO dL_narrow_9 rfl ?_
    refine X_iconst 19 hO dL_narrow_18 rfl ?_
    exact X_iretW hO hF rfl (Or.inl rfl) dL_narrow_19 ⟨0, _, _, _, rfl, by decide, hp, rfl, fun _ => rfl⟩
  · rcases hx with ⟨rfl, r, hq⟩ | ⟨rfl, r, hq⟩
    · refine X_catch hO hF [] _ _ rfl (fun z hz => by cases hz) (by decide) (by decide) w_1147 (by decide +kernel) (fun q => ?_)
      refine X_astore_nR 13 hO dL_narrow_12 rfl rfl ?_
      refine X_iconst 14 hO dL_narrow_13 rfl ?_
      exact X_iretW hO hF rfl (Or.inl rfl) dL_narrow_14 ⟨1, _, _, w_ 4 o 0, rfl, by decide, hq, up_self.symm, fun h => absurd h (by decide)⟩
    · refine X_catch hO hF [_] _ _ rfl (by intro z hz; simp only [List.mem_cons, List.not_mem_nil, or_false] at hz; subst hz; exact ⟨by decide, _, w_1147, by decide +kernel⟩) (by decide) (by decide) w_653 (by decide +kernel) (fun q => ?_)
      refine X_astore_nR 16 hO dL_narrow_15 rfl rfl ?_
      refine X_iconst 17 hO dL_narrow_16 rfl ?_
      exact X_iretW hO hF rfl (Or.inl rfl) dL_narrow_17 ⟨2, _, _, w_ 4 o 0, rfl, by decide, hq, up_self.symm, fun h => absurd h (by decide)⟩
theorem dL_widen_0 : decode cL_widen 0 = .ok (.aload_n 1, 1) := by decide +kernel
theorem dL_widen_1 : decode cL_widen 1 = .ok (.iconst 0, 1) := by decide +kernel
theorem dL_widen_2 : decode cL_widen 2 = .ok (.aload_n 0, 1) := by decide +kernel
theorem dL_widen_3 : decode cL_widen 3 = .ok (.invokevirtual 61, 3) := by decide +kernel
theorem dL_widen_6 : decode cL_widen 6 = .ok (.i2l, 1) := by decide +kernel
theorem dL_widen_7 : decode cL_widen 7 = .ok (.lastore, 1) := by decide +kernel
theorem dL_widen_8 : decode cL_widen 8 = .ok (.goto 6, 3) := by decide +kernel
theorem dL_widen_11 : decode cL_widen 11 = .ok (.astore_n 2, 1) := by decide +kernel
theorem dL_widen_12 : decode cL_widen 12 = .ok (.iconst 1, 1) := by decide +kernel
theorem dL_widen_13 : decode cL_widen 13 = .ok (.ireturn, 1) := by decide +kernel
theorem dL_widen_14 : decode cL_widen 14 = .ok (.iconst 0, 1) := by decide +kernel
theorem dL_widen_15 : decode cL_widen 15 = .ok (.ireturn, 1) := by decide +kernel
theorem L_widen {γ : LC} {μ : MU} {w A : Mm} {f o n : Int} (hI : LIn μ f (56 * n) (600 * n) (1 + n) w A) (hR : RM w μ) (hT : OUT o w) (hn : 0 ≤ n ∧ n ≤ 511) : MXW γ 15 mL_widen hL_widen [rv f, rv o] w 45 3100 (QW γ μ f o n mX13_widen []) := by
  refine MXW_of (own := RL) rfl rfl (by simp [rv_cat, int_cat]) rfl ?_
  rintro κ hO hF rfl
  have hD := hF.dp
  show X κ 45 3100 w 0 [some (rv f), some (rv o), none] []
  refine X_wi (fun hW => ?_)
  refine X_aload_n 1 hO dL_widen_0 rfl rfl ?_
  refine X_iconst 2 hO dL_widen_1 rfl ?_
  refine X_aload_n 3 hO dL_widen_2 rfl rfl ?_
  refine X_kVi (t := 13) 6 hO hD lL_61 rfl (by decide) [] rfl dL_widen_3 rfl hI.t0 (lo_widen hI hR hT hn hW) (by decide) (by simp [rv_cat, int_cat]) (Nat.le_refl _) (Nat.le_refl _) (fun r w_ hr hp => ?_) (fun E w_ hx => ?_)
  · refine X_i2l 7 hO dL_widen_6 rfl hr ?_
    refine X_last (z := o) (i := 0) 8 hO dL_widen_7 rfl hp.out.1 (by rw [hp.out.2]; decide) ?_
    refine X_goto (tgt := 14) hO dL_widen_8 rfl ?_
    refine X_iconst 15 hO dL_widen_14 rfl ?_
    exact X_iretW hO hF rfl (Or.inl rfl) dL_widen_15 ⟨0, _, _, _, rfl, by decide, hp, rfl, fun _ => rfl⟩
  · obtain ⟨rfl, r, hq⟩ := hx
    refine X_catch hO hF [] _ _ rfl (fun z hz => by cases hz) (by decide) (by decide) w_653 (by decide +kernel) (fun q => ?_)
    refine X_astore_nR 12 hO dL_widen_11 rfl rfl ?_
    refine X_iconst 13 hO dL_widen_12 rfl ?_
    exact X_iretW hO hF rfl (Or.inl rfl) dL_widen_13 ⟨1, _, _, w_ 4 o 0, rfl, by decide, hq, up_self.symm, fun h => absurd h (by decide)⟩
theorem dL_run_0 : decode cL_run 0 = .ok (.aload_n 3, 1) := by decide +kernel
theorem dL_run_1 : decode cL_run 1 = .ok (.iconst 0, 1) := by decide +kernel
theorem dL_run_2 : decode cL_run 2 = .ok (.aload_n 0, 1) := by decide +kernel
theorem dL_run_3 : decode cL_run 3 = .ok (.iload_n 1, 1) := by decide +kernel
theorem dL_run_4 : decode cL_run 4 = .ok (.iload_n 2, 1) := by decide +kernel
theorem dL_run_5 : decode cL_run 5 = .ok (.invokevirtual 64, 3) := by decide +kernel
theorem dL_run_8 : decode cL_run 8 = .ok (.i2l, 1) := by decide +kernel
theorem dL_run_9 : decode cL_run 9 = .ok (.lastore, 1) := by decide +kernel
theorem dL_run_10 : decode cL_run 10 = .ok (.goto 15, 3) := by decide +kernel
theorem dL_run_13 : decode cL_run 13 = .ok (.astore 4, 2) := by decide +kernel
theorem dL_run_15 : decode cL_run 15 = .ok (.iconst 1, 1) := by decide +kernel
theorem dL_run_16 : decode cL_run 16 = .ok (.ireturn, 1) := by decide +kernel
theorem dL_run_17 : decode cL_run 17 = .ok (.astore 4, 2) := by decide +kernel
theorem dL_run_19 : decode cL_run 19 = .ok (.iconst 2, 1) := by decide +kernel
theorem dL_run_20 : decode cL_run 20 = .ok (.ireturn, 1) := by decide +kernel
theorem dL_run_21 : decode cL_run 21 = .ok (.astore 4, 2) := by decide +kernel
theorem dL_run_23 : decode cL_run 23 = .ok (.iconst 3, 1) := by decide +kernel
theorem dL_run_24 : decode cL_run 24 = .ok (.ireturn, 1) := by decide +kernel
theorem dL_run_25 : decode cL_run 25 = .ok (.iconst 0, 1) := by decide +kernel
theorem dL_run_26 : decode cL_run 26 = .ok (.ireturn, 1) := by decide +kernel
theorem L_run {γ : LC} {μ : MU} {w A : Mm} {f o n m k : Int} (hI : LIn μ f (56 * n) (600 * n) (1 + n) w A) (hR : RM w μ) (hT : OUT o w) (hn : 0 ≤ n ∧ n ≤ 511) (hm_ : IR m) (hk_ : IR k) : MXW γ 21 mL_run hL_run [rv f, .int (I m), .int (I k), rv o] w 175 13300 (QW γ μ f o n mX13_run [.int (I m), .int (I k)]) := by
  refine MXW_of (own := RL) rfl rfl (by simp [rv_cat, int_cat]) rfl ?_
  rintro κ hO hF rfl
  have hD := hF.dp
  show X κ 175 13300 w 0 [some (rv f), some (.int (I m)), some (.int (I k)), some (rv o), none] []
  refine X_wi (fun hW => ?_)
  refine X_aload_n 1 hO dL_run_0 rfl rfl ?_
  refine X_iconst 2 hO dL_run_1 rfl ?_
  refine X_aload_n 3 hO dL_run_2 rfl rfl ?_
  refine X_iload_n 4 hO dL_run_3 rfl rfl ?_
  refine X_iload_n 5 hO dL_run_4 rfl rfl ?_
  refine X_kVi (t := 13) 8 hO hD lL_64 rfl (by decide) [_, _] rfl dL_run_5 rfl hI.t0 (lo_run hI hR hT hn hW hm_ hk_) (by decide) (by simp [rv_cat, int_cat]) (Nat.le_refl _) (Nat.le_refl _) (fun r w_ hr hp => ?_) (fun E w_ hx => ?_)
  · refine X_i2l 9 hO dL_run_8 rfl hr ?_
    refine X_last (z := o) (i := 0) 10 hO dL_run_9 rfl hp.out.1 (by rw [hp.out.2]; decide) ?_
    refine X_goto (tgt := 25) hO dL_run_10 rfl ?_
    refine X_iconst 26 hO dL_run_25 rfl ?_
    exact X_iretW hO hF rfl (Or.inl rfl) dL_run_26 ⟨0, _, _, _, rfl, by decide, hp, rfl, fun _ => rfl⟩
  · rcases hx with ⟨rfl, r, hq⟩ | ⟨rfl, r, hq⟩ | ⟨rfl, r, hq⟩
    · refine X_catch hO hF [] _ _ rfl (fun z hz => by cases hz) (by decide) (by decide) w_1147 (by decide +kernel) (fun q => ?_)
      refine X_astoreR 15 hO dL_run_13 rfl rfl ?_
      refine X_iconst 16 hO dL_run_15 rfl ?_
      exact X_iretW hO hF rfl (Or.inl rfl) dL_run_16 ⟨1, _, _, w_ 4 o 0, rfl, by decide, hq, up_self.symm, fun h => absurd h (by decide)⟩
    · refine X_catch hO hF [_] _ _ rfl (by intro z hz; simp only [List.mem_cons, List.not_mem_nil, or_false] at hz; subst hz; exact ⟨by decide, _, w_1147, by decide +kernel⟩) (by decide) (by decide) w_652 (by decide +kernel) (fun q => ?_)
      refine X_astoreR 19 hO dL_run_17 rfl rfl ?_
      refine X_iconst 20 hO dL_run_19 rfl ?_
      exact X_iretW hO hF rfl (Or.inl rfl) dL_run_20 ⟨2, _, _, w_ 4 o 0, rfl, by decide, hq, up_self.symm, fun h => absurd h (by decide)⟩
    · refine X_catch hO hF [_, _] _ _ rfl (by intro z hz; simp only [List.mem_cons, List.not_mem_nil, or_false] at hz; rcases hz with rfl | rfl <;> first | exact ⟨by decide, _, w_1147, by decide +kernel⟩ | exact ⟨by decide, _, w_652, by decide +kernel⟩) (by decide) (by decide) w_653 (by decide +kernel) (fun q => ?_)
      refine X_astoreR 23 hO dL_run_21 rfl rfl ?_
      refine X_iconst 24 hO dL_run_23 rfl ?_
      exact X_iretW hO hF rfl (Or.inl rfl) dL_run_24 ⟨3, _, _, w_ 4 o 0, rfl, by decide, hq, up_self.symm, fun h => absurd h (by decide)⟩
theorem dL_checkpoint_0 : decode cL_checkpoint 0 = .ok (.aload_n 0, 1) := by decide +kernel
theorem dL_checkpoint_1 : decode cL_checkpoint 1 = .ok (.invokevirtual 67, 3) := by decide +kernel
theorem dL_checkpoint_4 : decode cL_checkpoint 4 = .ok (.goto 6, 3) := by decide +kernel
theorem dL_checkpoint_7 : decode cL_checkpoint 7 = .ok (.astore_n 1, 1) := by decide +kernel
theorem dL_checkpoint_8 : decode cL_checkpoint 8 = .ok (.iconst 1, 1) := by decide +kernel
theorem dL_checkpoint_9 : decode cL_checkpoint 9 = .ok (.ireturn, 1) := by decide +kernel
theorem dL_checkpoint_10 : decode cL_checkpoint 10 = .ok (.iconst 0, 1) := by decide +kernel
theorem dL_checkpoint_11 : decode cL_checkpoint 11 = .ok (.ireturn, 1) := by decide +kernel
theorem L_checkpoint {γ : LC} {μ : MU} {w A : Mm} {f o n : Int} (hI : LIn μ f (56 * n) (600 * n) (1 + n) w A) (hR : RM w μ) (hT : OUT o w) (hn : 0 ≤ n ∧ n ≤ 511) : MXW γ 15 mL_checkpoint hL_checkpoint [rv f] w 45 3100 (QWv γ μ f o n mX13_checkpoint []) := by
  refine MXW_of (own := RL) rfl rfl (by simp [rv_cat, int_cat]) rfl ?_
  rintro κ hO hF rfl
  have hD := hF.dp
  show X κ 45 3100 w 0 [some (rv f), none] []
  refine X_wi (fun hW => ?_)
  refine X_aload_n 1 hO dL_checkpoint_0 rfl rfl ?_
  refine X_kVv (t := 13) 4 hO hD lL_67 rfl (by decide) [] rfl dL_checkpoint_1 rfl hI.t0 (lo_checkpoint hI hR hT hn hW) (by decide) (by simp [rv_cat, int_cat]) (Nat.le_refl _) (Nat.le_refl _) (fun w_ hp => ?_) (fun E w_ hx => ?_)
  · refine X_goto (tgt := 10) hO dL_checkpoint_4 rfl ?_
    refine X_iconst 11 hO dL_checkpoint_10 rfl ?_
    exact X_iretW hO hF rfl (Or.inl rfl) dL_checkpoint_11 ⟨0, rfl, by decide, hp⟩
  · obtain ⟨rfl, hq⟩ := hx
    refine X_catch hO hF [] _ _ rfl (fun z hz => by cases hz) (by decide) (by decide) w_653 (by decide +kernel) (fun q => ?_)
    refine X_astore_nR 8 hO dL_checkpoint_7 rfl rfl ?_
    refine X_iconst 9 hO dL_checkpoint_8 rfl ?_
    exact X_iretW hO hF rfl (Or.inl rfl) dL_checkpoint_9 ⟨1, rfl, by decide, hq⟩
theorem dL_record_0 : decode cL_record 0 = .ok (.aload_n 0, 1) := by decide +kernel
theorem dL_record_1 : decode cL_record 1 = .ok (.iload_n 1, 1) := by decide +kernel
theorem dL_record_2 : decode cL_record 2 = .ok (.invokevirtual 70, 3) := by decide +kernel
theorem dL_record_5 : decode cL_record 5 = .ok (.goto 9, 3) := by decide +kernel
theorem dL_record_8 : decode cL_record 8 = .ok (.astore_n 2, 1) := by decide +kernel
theorem dL_record_9 : decode cL_record 9 = .ok (.iconst 1, 1) := by decide +kernel
theorem dL_record_10 : decode cL_record 10 = .ok (.ireturn, 1) := by decide +kernel
theorem dL_record_11 : decode cL_record 11 = .ok (.astore_n 2, 1) := by decide +kernel
theorem dL_record_12 : decode cL_record 12 = .ok (.iconst 2, 1) := by decide +kernel
theorem dL_record_13 : decode cL_record 13 = .ok (.ireturn, 1) := by decide +kernel
theorem dL_record_14 : decode cL_record 14 = .ok (.iconst 0, 1) := by decide +kernel
theorem dL_record_15 : decode cL_record 15 = .ok (.ireturn, 1) := by decide +kernel
theorem L_record {γ : LC} {μ : MU} {w A : Mm} {f o n c : Int} (hI : LIn μ f (56 * n) (600 * n) (1 + n) w A) (hR : RM w μ) (hT : OUT o w) (hn : 0 ≤ n ∧ n ≤ 511) (hc_ : IR c) : MXW γ 10 mL_record hL_record [rv f, .int (I c)] w 2 12 (QWv γ μ f o n mX13_record [.int (I c)]) := by
  refine MXW_of (own := RL) rfl rfl (by simp [rv_cat, int_cat]) rfl ?_
  rintro κ hO hF rfl
  have hD := hF.dp
  show X κ 2 12 w 0 [some (rv f), some (.int (I c)), none] []
  refine X_wi (fun hW => ?_)
  refine X_aload_n 1 hO dL_record_0 rfl rfl ?_
  refine X_iload_n 2 hO dL_record_1 rfl rfl ?_
  refine X_kVv (t := 13) 5 hO hD lL_70 rfl (by decide) [_] rfl dL_record_2 rfl hI.t0 (lo_record hI hR hT hn hW hc_) (by decide) (by simp [rv_cat, int_cat]) (Nat.le_refl _) (Nat.le_refl _) (fun w_ hp => ?_) (fun E w_ hx => ?_)
  · refine X_goto (tgt := 14) hO dL_record_5 rfl ?_
    refine X_iconst 15 hO dL_record_14 rfl ?_
    exact X_iretW hO hF rfl (Or.inl rfl) dL_record_15 ⟨0, rfl, by decide, hp⟩
  · rcases hx with ⟨rfl, hq⟩ | ⟨rfl, hq⟩
    · refine X_catch hO hF [] _ _ rfl (fun z hz => by cases hz) (by decide) (by decide) w_1147 (by decide +kernel) (fun q => ?_)
      refine X_astore_nR 9 hO dL_record_8 rfl rfl ?_
      refine X_iconst 10 hO dL_record_9 rfl ?_
      exact X_iretW hO hF rfl (Or.inl rfl) dL_record_10 ⟨1, rfl, by decide, hq⟩
    · refine X_catch hO hF [_] _ _ rfl (by intro z hz; simp only [List.mem_cons, List.not_mem_nil, or_false] at hz; subst hz; exact ⟨by decide, _, w_1147, by decide +kernel⟩) (by decide) (by decide) w_653 (by decide +kernel) (fun q => ?_)
      refine X_astore_nR 12 hO dL_record_11 rfl rfl ?_
      refine X_iconst 13 hO dL_record_12 rfl ?_
      exact X_iretW hO hF rfl (Or.inl rfl) dL_record_13 ⟨2, rfl, by decide, hq⟩
theorem dL_stop_0 : decode cL_stop 0 = .ok (.aload_n 1, 1) := by decide +kernel
theorem dL_stop_1 : decode cL_stop 1 = .ok (.iconst 0, 1) := by decide +kernel
theorem dL_stop_2 : decode cL_stop 2 = .ok (.aload_n 0, 1) := by decide +kernel
theorem dL_stop_3 : decode cL_stop 3 = .ok (.invokevirtual 74, 3) := by decide +kernel
theorem dL_stop_6 : decode cL_stop 6 = .ok (.i2l, 1) := by decide +kernel
theorem dL_stop_7 : decode cL_stop 7 = .ok (.lastore, 1) := by decide +kernel
theorem dL_stop_8 : decode cL_stop 8 = .ok (.goto 6, 3) := by decide +kernel
theorem dL_stop_11 : decode cL_stop 11 = .ok (.astore_n 2, 1) := by decide +kernel
theorem dL_stop_12 : decode cL_stop 12 = .ok (.iconst 1, 1) := by decide +kernel
theorem dL_stop_13 : decode cL_stop 13 = .ok (.ireturn, 1) := by decide +kernel
theorem dL_stop_14 : decode cL_stop 14 = .ok (.iconst 0, 1) := by decide +kernel
theorem dL_stop_15 : decode cL_stop 15 = .ok (.ireturn, 1) := by decide +kernel
theorem L_stop {γ : LC} {μ : MU} {w A : Mm} {f o n : Int} (hI : LIn μ f (56 * n) (600 * n) (1 + n) w A) (hR : RM w μ) (hT : OUT o w) (hn : 0 ≤ n ∧ n ≤ 511) : MXW γ 10 mL_stop hL_stop [rv f, rv o] w 1 6 (QW γ μ f o n mX13_stop []) := by
  refine MXW_of (own := RL) rfl rfl (by simp [rv_cat, int_cat]) rfl ?_
  rintro κ hO hF rfl
  have hD := hF.dp
  show X κ 1 6 w 0 [some (rv f), some (rv o), none] []
  refine X_wi (fun hW => ?_)
  refine X_aload_n 1 hO dL_stop_0 rfl rfl ?_
  refine X_iconst 2 hO dL_stop_1 rfl ?_
  refine X_aload_n 3 hO dL_stop_2 rfl rfl ?_
  refine X_kVi (t := 13) 6 hO hD lL_74 rfl (by decide) [] rfl dL_stop_3 rfl hI.t0 (lo_stop hI hR hT hn hW) (by decide) (by simp [rv_cat, int_cat]) (Nat.le_refl _) (Nat.le_refl _) (fun r w_ hr hp => ?_) (fun E w_ hx => ?_)
  · refine X_i2l 7 hO dL_stop_6 rfl hr ?_
    refine X_last (z := o) (i := 0) 8 hO dL_stop_7 rfl hp.out.1 (by rw [hp.out.2]; decide) ?_
    refine X_goto (tgt := 14) hO dL_stop_8 rfl ?_
    refine X_iconst 15 hO dL_stop_14 rfl ?_
    exact X_iretW hO hF rfl (Or.inl rfl) dL_stop_15 ⟨0, _, _, _, rfl, by decide, hp, rfl, fun _ => rfl⟩
  · obtain ⟨rfl, r, hq⟩ := hx
    refine X_catch hO hF [] _ _ rfl (fun z hz => by cases hz) (by decide) (by decide) w_653 (by decide +kernel) (fun q => ?_)
    refine X_astore_nR 12 hO dL_stop_11 rfl rfl ?_
    refine X_iconst 13 hO dL_stop_12 rfl ?_
    exact X_iretW hO hF rfl (Or.inl rfl) dL_stop_13 ⟨1, _, _, w_ 4 o 0, rfl, by decide, hq, up_self.symm, fun h => absurd h (by decide)⟩
theorem dL_open_0 : decode cL_open 0 = .ok (.aload_n 0, 1) := by decide +kernel
theorem dL_open_1 : decode cL_open 1 = .ok (.invokevirtual 77, 3) := by decide +kernel
theorem dL_open_4 : decode cL_open 4 = .ok (.goto 6, 3) := by decide +kernel
theorem dL_open_7 : decode cL_open 7 = .ok (.astore_n 1, 1) := by decide +kernel
theorem dL_open_8 : decode cL_open 8 = .ok (.iconst 1, 1) := by decide +kernel
theorem dL_open_9 : decode cL_open 9 = .ok (.ireturn, 1) := by decide +kernel
theorem dL_open_10 : decode cL_open 10 = .ok (.iconst 0, 1) := by decide +kernel
theorem dL_open_11 : decode cL_open 11 = .ok (.ireturn, 1) := by decide +kernel
theorem L_open {γ : LC} {μ : MU} {w A : Mm} {f o n : Int} (hI : LIn μ f (56 * n) (600 * n) (1 + n) w A) (hR : RM w μ) (hT : OUT o w) (hn : 0 ≤ n ∧ n ≤ 511) : MXW γ 10 mL_open hL_open [rv f] w 1 6 (QWv γ μ f o n mX13_open []) := by
  refine MXW_of (own := RL) rfl rfl (by simp [rv_cat, int_cat]) rfl ?_
  rintro κ hO hF rfl
  have hD := hF.dp
  show X κ 1 6 w 0 [some (rv f), none] []
  refine X_wi (fun hW => ?_)
  refine X_aload_n 1 hO dL_open_0 rfl rfl ?_
  refine X_kVv (t := 13) 4 hO hD lL_77 rfl (by decide) [] rfl dL_open_1 rfl hI.t0 (lo_open hI hR hT hn hW) (by decide) (by simp [rv_cat, int_cat]) (Nat.le_refl _) (Nat.le_refl _) (fun w_ hp => ?_) (fun E w_ hx => ?_)
  · refine X_goto (tgt := 10) hO dL_open_4 rfl ?_
    refine X_iconst 11 hO dL_open_10 rfl ?_
    exact X_iretW hO hF rfl (Or.inl rfl) dL_open_11 ⟨0, rfl, by decide, hp⟩
  · obtain ⟨rfl, hq⟩ := hx
    refine X_catch hO hF [] _ _ rfl (fun z hz => by cases hz) (by decide) (by decide) w_653 (by decide +kernel) (fun q => ?_)
    refine X_astore_nR 8 hO dL_open_7 rfl rfl ?_
    refine X_iconst 9 hO dL_open_8 rfl ?_
    exact X_iretW hO hF rfl (Or.inl rfl) dL_open_9 ⟨1, rfl, by decide, hq⟩
theorem dL_close_0 : decode cL_close 0 = .ok (.aload_n 1, 1) := by decide +kernel
theorem dL_close_1 : decode cL_close 1 = .ok (.iconst 0, 1) := by decide +kernel
theorem dL_close_2 : decode cL_close 2 = .ok (.aload_n 0, 1) := by decide +kernel
theorem dL_close_3 : decode cL_close 3 = .ok (.invokevirtual 80, 3) := by decide +kernel
theorem dL_close_6 : decode cL_close 6 = .ok (.i2l, 1) := by decide +kernel
theorem dL_close_7 : decode cL_close 7 = .ok (.lastore, 1) := by decide +kernel
theorem dL_close_8 : decode cL_close 8 = .ok (.goto 6, 3) := by decide +kernel
theorem dL_close_11 : decode cL_close 11 = .ok (.astore_n 2, 1) := by decide +kernel
theorem dL_close_12 : decode cL_close 12 = .ok (.iconst 1, 1) := by decide +kernel
theorem dL_close_13 : decode cL_close 13 = .ok (.ireturn, 1) := by decide +kernel
theorem dL_close_14 : decode cL_close 14 = .ok (.iconst 0, 1) := by decide +kernel
theorem dL_close_15 : decode cL_close 15 = .ok (.ireturn, 1) := by decide +kernel
theorem L_close {γ : LC} {μ : MU} {w A : Mm} {f o n : Int} (hI : LIn μ f (56 * n) (600 * n) (1 + n) w A) (hR : RM w μ) (hT : OUT o w) (hn : 0 ≤ n ∧ n ≤ 511) : MXW γ 14 mL_close hL_close [rv f, rv o] w 40 2700 (QW γ μ f o n mX13_close []) := by
  refine MXW_of (own := RL) rfl rfl (by simp [rv_cat, int_cat]) rfl ?_
  rintro κ hO hF rfl
  have hD := hF.dp
  show X κ 40 2700 w 0 [some (rv f), some (rv o), none] []
  refine X_wi (fun hW => ?_)
  refine X_aload_n 1 hO dL_close_0 rfl rfl ?_
  refine X_iconst 2 hO dL_close_1 rfl ?_
  refine X_aload_n 3 hO dL_close_2 rfl rfl ?_
  refine X_kVi (t := 13) 6 hO hD lL_80 rfl (by decide) [] rfl dL_close_3 rfl hI.t0 (lo_close hI hR hT hn hW) (by decide) (by simp [rv_cat, int_cat]) (Nat.le_refl _) (Nat.le_refl _) (fun r w_ hr hp => ?_) (fun E w_ hx => ?_)
  · refine X_i2l 7 hO dL_close_6 rfl hr ?_
    refine X_last (z := o) (i := 0) 8 hO dL_close_7 rfl hp.out.1 (by rw [hp.out.2]; decide) ?_
    refine X_goto (tgt := 14) hO dL_close_8 rfl ?_
    refine X_iconst 15 hO dL_close_14 rfl ?_
    exact X_iretW hO hF rfl (Or.inl rfl) dL_close_15 ⟨0, _, _, _, rfl, by decide, hp, rfl, fun _ => rfl⟩
  · obtain ⟨rfl, r, hq⟩ := hx
    refine X_catch hO hF [] _ _ rfl (fun z hz => by cases hz) (by decide) (by decide) w_653 (by decide +kernel) (fun q => ?_)
    refine X_astore_nR 12 hO dL_close_11 rfl rfl ?_
    refine X_iconst 13 hO dL_close_12 rfl ?_
    exact X_iretW hO hF rfl (Or.inl rfl) dL_close_13 ⟨1, _, _, w_ 4 o 0, rfl, by decide, hq, up_self.symm, fun h => absurd h (by decide)⟩
theorem dL_pass_0 : decode cL_pass 0 = .ok (.aload_n 0, 1) := by decide +kernel
theorem dL_pass_1 : decode cL_pass 1 = .ok (.iload_n 1, 1) := by decide +kernel
theorem dL_pass_2 : decode cL_pass 2 = .ok (.invokevirtual 83, 3) := by decide +kernel
theorem dL_pass_5 : decode cL_pass 5 = .ok (.goto 6, 3) := by decide +kernel
theorem dL_pass_8 : decode cL_pass 8 = .ok (.astore_n 2, 1) := by decide +kernel
theorem dL_pass_9 : decode cL_pass 9 = .ok (.iconst 1, 1) := by decide +kernel
theorem dL_pass_10 : decode cL_pass 10 = .ok (.ireturn, 1) := by decide +kernel
theorem dL_pass_11 : decode cL_pass 11 = .ok (.iconst 0, 1) := by decide +kernel
theorem dL_pass_12 : decode cL_pass 12 = .ok (.ireturn, 1) := by decide +kernel
theorem L_pass {γ : LC} {μ : MU} {w A : Mm} {f o n c : Int} (hI : LIn μ f (56 * n) (600 * n) (1 + n) w A) (hR : RM w μ) (hT : OUT o w) (hn : 0 ≤ n ∧ n ≤ 511) (hc_ : IR c) : MXW γ 10 mL_pass hL_pass [rv f, .int (I c)] w 1 6 (QWv γ μ f o n mX13_pass [.int (I c)]) := by
  refine MXW_of (own := RL) rfl rfl (by simp [rv_cat, int_cat]) rfl ?_
  rintro κ hO hF rfl
  have hD := hF.dp
  show X κ 1 6 w 0 [some (rv f), some (.int (I c)), none] []
  refine X_wi (fun hW => ?_)
  refine X_aload_n 1 hO dL_pass_0 rfl rfl ?_
  refine X_iload_n 2 hO dL_pass_1 rfl rfl ?_
  refine X_kVv (t := 13) 5 hO hD lL_83 rfl (by decide) [_] rfl dL_pass_2 rfl hI.t0 (lo_pass hI hR hT hn hW hc_) (by decide) (by simp [rv_cat, int_cat]) (Nat.le_refl _) (Nat.le_refl _) (fun w_ hp => ?_) (fun E w_ hx => ?_)
  · refine X_goto (tgt := 11) hO dL_pass_5 rfl ?_
    refine X_iconst 12 hO dL_pass_11 rfl ?_
    exact X_iretW hO hF rfl (Or.inl rfl) dL_pass_12 ⟨0, rfl, by decide, hp⟩
  · obtain ⟨rfl, hq⟩ := hx
    refine X_catch hO hF [] _ _ rfl (fun z hz => by cases hz) (by decide) (by decide) w_652 (by decide +kernel) (fun q => ?_)
    refine X_astore_nR 9 hO dL_pass_8 rfl rfl ?_
    refine X_iconst 10 hO dL_pass_9 rfl ?_
    exact X_iretW hO hF rfl (Or.inl rfl) dL_pass_10 ⟨1, rfl, by decide, hq⟩
theorem dL_track_0 : decode cL_track 0 = .ok (.aload_n 0, 1) := by decide +kernel
theorem dL_track_1 : decode cL_track 1 = .ok (.iload_n 1, 1) := by decide +kernel
theorem dL_track_2 : decode cL_track 2 = .ok (.invokevirtual 86, 3) := by decide +kernel
theorem dL_track_5 : decode cL_track 5 = .ok (.goto 9, 3) := by decide +kernel
theorem dL_track_8 : decode cL_track 8 = .ok (.astore_n 2, 1) := by decide +kernel
theorem dL_track_9 : decode cL_track 9 = .ok (.iconst 1, 1) := by decide +kernel
theorem dL_track_10 : decode cL_track 10 = .ok (.ireturn, 1) := by decide +kernel
theorem dL_track_11 : decode cL_track 11 = .ok (.astore_n 2, 1) := by decide +kernel
theorem dL_track_12 : decode cL_track 12 = .ok (.iconst 2, 1) := by decide +kernel
theorem dL_track_13 : decode cL_track 13 = .ok (.ireturn, 1) := by decide +kernel
theorem dL_track_14 : decode cL_track 14 = .ok (.iconst 0, 1) := by decide +kernel
theorem dL_track_15 : decode cL_track 15 = .ok (.ireturn, 1) := by decide +kernel
theorem L_track {γ : LC} {μ : MU} {w A : Mm} {f o n c : Int} (hI : LIn μ f (56 * n) (600 * n) (1 + n) w A) (hR : RM w μ) (hT : OUT o w) (hn : 0 ≤ n ∧ n ≤ 511) (hc_ : IR c) : MXW γ 14 mL_track hL_track [rv f, .int (I c)] w 48 3200 (QWv γ μ f o n mX13_track [.int (I c)]) := by
  refine MXW_of (own := RL) rfl rfl (by simp [rv_cat, int_cat]) rfl ?_
  rintro κ hO hF rfl
  have hD := hF.dp
  show X κ 48 3200 w 0 [some (rv f), some (.int (I c)), none] []
  refine X_wi (fun hW => ?_)
  refine X_aload_n 1 hO dL_track_0 rfl rfl ?_
  refine X_iload_n 2 hO dL_track_1 rfl rfl ?_
  refine X_kVv (t := 13) 5 hO hD lL_86 rfl (by decide) [_] rfl dL_track_2 rfl hI.t0 (lo_track hI hR hT hn hW hc_) (by decide) (by simp [rv_cat, int_cat]) (Nat.le_refl _) (Nat.le_refl _) (fun w_ hp => ?_) (fun E w_ hx => ?_)
  · refine X_goto (tgt := 14) hO dL_track_5 rfl ?_
    refine X_iconst 15 hO dL_track_14 rfl ?_
    exact X_iretW hO hF rfl (Or.inl rfl) dL_track_15 ⟨0, rfl, by decide, hp⟩
  · rcases hx with ⟨rfl, hq⟩ | ⟨rfl, hq⟩
    · refine X_catch hO hF [] _ _ rfl (fun z hz => by cases hz) (by decide) (by decide) w_1147 (by decide +kernel) (fun q => ?_)
      refine X_astore_nR 9 hO dL_track_8 rfl rfl ?_
      refine X_iconst 10 hO dL_track_9 rfl ?_
      exact X_iretW hO hF rfl (Or.inl rfl) dL_track_10 ⟨1, rfl, by decide, hq⟩
    · refine X_catch hO hF [_] _ _ rfl (by intro z hz; simp only [List.mem_cons, List.not_mem_nil, or_false] at hz; subst hz; exact ⟨by decide, _, w_1147, by decide +kernel⟩) (by decide) (by decide) w_653 (by decide +kernel) (fun q => ?_)
      refine X_astore_nR 12 hO dL_track_11 rfl rfl ?_
      refine X_iconst 13 hO dL_track_12 rfl ?_
      exact X_iretW hO hF rfl (Or.inl rfl) dL_track_13 ⟨2, rfl, by decide, hq⟩
theorem dL_undo_0 : decode cL_undo 0 = .ok (.aload_n 1, 1) := by decide +kernel
theorem dL_undo_1 : decode cL_undo 1 = .ok (.iconst 0, 1) := by decide +kernel
theorem dL_undo_2 : decode cL_undo 2 = .ok (.aload_n 0, 1) := by decide +kernel
theorem dL_undo_3 : decode cL_undo 3 = .ok (.invokevirtual 89, 3) := by decide +kernel
theorem dL_undo_6 : decode cL_undo 6 = .ok (.i2l, 1) := by decide +kernel
theorem dL_undo_7 : decode cL_undo 7 = .ok (.lastore, 1) := by decide +kernel
theorem dL_undo_8 : decode cL_undo 8 = .ok (.goto 6, 3) := by decide +kernel
theorem dL_undo_11 : decode cL_undo 11 = .ok (.astore_n 2, 1) := by decide +kernel
theorem dL_undo_12 : decode cL_undo 12 = .ok (.iconst 1, 1) := by decide +kernel
theorem dL_undo_13 : decode cL_undo 13 = .ok (.ireturn, 1) := by decide +kernel
theorem dL_undo_14 : decode cL_undo 14 = .ok (.iconst 0, 1) := by decide +kernel
theorem dL_undo_15 : decode cL_undo 15 = .ok (.ireturn, 1) := by decide +kernel
theorem L_undo {γ : LC} {μ : MU} {w A : Mm} {f o n : Int} (hI : LIn μ f (56 * n) (600 * n) (1 + n) w A) (hR : RM w μ) (hT : OUT o w) (hn : 0 ≤ n ∧ n ≤ 511) : MXW γ 11 mL_undo hL_undo [rv f, rv o] w 3 412 (QW γ μ f o n mX13_undo []) := by
  refine MXW_of (own := RL) rfl rfl (by simp [rv_cat, int_cat]) rfl ?_
  rintro κ hO hF rfl
  have hD := hF.dp
  show X κ 3 412 w 0 [some (rv f), some (rv o), none] []
  refine X_wi (fun hW => ?_)
  refine X_aload_n 1 hO dL_undo_0 rfl rfl ?_
  refine X_iconst 2 hO dL_undo_1 rfl ?_
  refine X_aload_n 3 hO dL_undo_2 rfl rfl ?_
  refine X_kVi (t := 13) 6 hO hD lL_89 rfl (by decide) [] rfl dL_undo_3 rfl hI.t0 (lo_undo hI hR hT hn hW) (by decide) (by simp [rv_cat, int_cat]) (Nat.le_refl _) (Nat.le_refl _) (fun r w_ hr hp => ?_) (fun E w_ hx => ?_)
  · refine X_i2l 7 hO dL_undo_6 rfl hr ?_
    refine X_last (z := o) (i := 0) 8 hO dL_undo_7 rfl hp.out.1 (by rw [hp.out.2]; decide) ?_
    refine X_goto (tgt := 14) hO dL_undo_8 rfl ?_
    refine X_iconst 15 hO dL_undo_14 rfl ?_
    exact X_iretW hO hF rfl (Or.inl rfl) dL_undo_15 ⟨0, _, _, _, rfl, by decide, hp, rfl, fun _ => rfl⟩
  · obtain ⟨rfl, r, hq⟩ := hx
    refine X_catch hO hF [] _ _ rfl (fun z hz => by cases hz) (by decide) (by decide) w_653 (by decide +kernel) (fun q => ?_)
    refine X_astore_nR 12 hO dL_undo_11 rfl rfl ?_
    refine X_iconst 13 hO dL_undo_12 rfl ?_
    exact X_iretW hO hF rfl (Or.inl rfl) dL_undo_13 ⟨1, _, _, w_ 4 o 0, rfl, by decide, hq, up_self.symm, fun h => absurd h (by decide)⟩
