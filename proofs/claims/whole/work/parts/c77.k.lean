/-! THE LAW'S METHODS: the rest -/
def QWb (γ : LC) (μ : MU) (f o n : Int) (mR : MR) (As : List Value) : Option Value → Mm → Prop := fun v w1 => ∃ k r w' x, v = some (.int (I k)) ∧ (0 ≤ k ∧ k ≤ 3) ∧ QMi γ μ f o n mR As k r w' ∧ w1 = up w' 4 o 0 x ∧ (k = 0 → x = r) ∧ (k = 0 → r = 0 ∨ r = 1)
theorem dL_redo_0 : decode cL_redo 0 = .ok (.aload_n 1, 1) := by decide +kernel
theorem dL_redo_1 : decode cL_redo 1 = .ok (.iconst 0, 1) := by decide +kernel
theorem dL_redo_2 : decode cL_redo 2 = .ok (.aload_n 0, 1) := by decide +kernel
theorem dL_redo_3 : decode cL_redo 3 = .ok (.invokevirtual 92, 3) := by decide +kernel
theorem dL_redo_6 : decode cL_redo 6 = .ok (.i2l, 1) := by decide +kernel
theorem dL_redo_7 : decode cL_redo 7 = .ok (.lastore, 1) := by decide +kernel
theorem dL_redo_8 : decode cL_redo 8 = .ok (.goto 6, 3) := by decide +kernel
theorem dL_redo_11 : decode cL_redo 11 = .ok (.astore_n 2, 1) := by decide +kernel
theorem dL_redo_12 : decode cL_redo 12 = .ok (.iconst 1, 1) := by decide +kernel
theorem dL_redo_13 : decode cL_redo 13 = .ok (.ireturn, 1) := by decide +kernel
theorem dL_redo_14 : decode cL_redo 14 = .ok (.iconst 0, 1) := by decide +kernel
theorem dL_redo_15 : decode cL_redo 15 = .ok (.ireturn, 1) := by decide +kernel
theorem L_redo {γ : LC} {μ : MU} {w A : Mm} {f o n : Int} (hI : LIn μ f (56 * n) (600 * n) (1 + n) w A) (hR : RM w μ) (hT : OUT o w) (hn : 0 ≤ n ∧ n ≤ 511) : MXW γ 11 mL_redo hL_redo [rv f, rv o] w 3 412 (QW γ μ f o n mX13_redo []) := by
  refine MXW_of (own := RL) rfl rfl (by simp [rv_cat, int_cat]) rfl ?_
  rintro κ hO hF rfl
  have hD := hF.dp
  show X κ 3 412 w 0 [some (rv f), some (rv o), none] []
  refine X_wi (fun hW => ?_)
  refine X_aload_n 1 hO dL_redo_0 rfl rfl ?_
  refine X_iconst 2 hO dL_redo_1 rfl ?_
  refine X_aload_n 3 hO dL_redo_2 rfl rfl ?_
  refine X_kVi (t := 13) 6 hO hD lL_92 rfl (by decide) [] rfl dL_redo_3 rfl hI.t0 (lo_redo hI hR hT hn hW) (by decide) (by simp [rv_cat, int_cat]) (Nat.le_refl _) (Nat.le_refl _) (fun r w_ hr hp => ?_) (fun E w_ hx => ?_)
  · refine X_i2l 7 hO dL_redo_6 rfl hr ?_
    refine X_last (z := o) (i := 0) 8 hO dL_redo_7 rfl hp.out.1 (by rw [hp.out.2]; decide) ?_
    refine X_goto (tgt := 14) hO dL_redo_8 rfl ?_
    refine X_iconst 15 hO dL_redo_14 rfl ?_
    exact X_iretW hO hF rfl (Or.inl rfl) dL_redo_15 ⟨0, _, _, _, rfl, by decide, hp, rfl, fun _ => rfl⟩
  · obtain ⟨rfl, r, hq⟩ := hx
    refine X_catch hO hF [] _ _ rfl (fun z hz => by cases hz) (by decide) (by decide) w_653 (by decide +kernel) (fun q => ?_)
    refine X_astore_nR 12 hO dL_redo_11 rfl rfl ?_
    refine X_iconst 13 hO dL_redo_12 rfl ?_
    exact X_iretW hO hF rfl (Or.inl rfl) dL_redo_13 ⟨1, _, _, w_ 4 o 0, rfl, by decide, hq, up_self.symm, fun h => absurd h (by decide)⟩
theorem dL_walk_0 : decode cL_walk 0 = .ok (.aload_n 2, 1) := by decide +kernel
theorem dL_walk_1 : decode cL_walk 1 = .ok (.iconst 0, 1) := by decide +kernel
theorem dL_walk_2 : decode cL_walk 2 = .ok (.aload_n 0, 1) := by decide +kernel
theorem dL_walk_3 : decode cL_walk 3 = .ok (.iload_n 1, 1) := by decide +kernel
theorem dL_walk_4 : decode cL_walk 4 = .ok (.invokevirtual 95, 3) := by decide +kernel
theorem dL_walk_7 : decode cL_walk 7 = .ok (.i2l, 1) := by decide +kernel
theorem dL_walk_8 : decode cL_walk 8 = .ok (.lastore, 1) := by decide +kernel
theorem dL_walk_9 : decode cL_walk 9 = .ok (.goto 9, 3) := by decide +kernel
theorem dL_walk_12 : decode cL_walk 12 = .ok (.astore_n 3, 1) := by decide +kernel
theorem dL_walk_13 : decode cL_walk 13 = .ok (.iconst 1, 1) := by decide +kernel
theorem dL_walk_14 : decode cL_walk 14 = .ok (.ireturn, 1) := by decide +kernel
theorem dL_walk_15 : decode cL_walk 15 = .ok (.astore_n 3, 1) := by decide +kernel
theorem dL_walk_16 : decode cL_walk 16 = .ok (.iconst 2, 1) := by decide +kernel
theorem dL_walk_17 : decode cL_walk 17 = .ok (.ireturn, 1) := by decide +kernel
theorem dL_walk_18 : decode cL_walk 18 = .ok (.iconst 0, 1) := by decide +kernel
theorem dL_walk_19 : decode cL_walk 19 = .ok (.ireturn, 1) := by decide +kernel
theorem L_walk {γ : LC} {μ : MU} {w A : Mm} {f o n c : Int} (hI : LIn μ f (56 * n) (600 * n) (1 + n) w A) (hR : RM w μ) (hT : OUT o w) (hn : 0 ≤ n ∧ n ≤ 511) (hc_ : IR c) : MXW γ 11 mL_walk hL_walk [rv f, .int (I c), rv o] w 4 418 (QW γ μ f o n mX13_walk [.int (I c)]) := by
  refine MXW_of (own := RL) rfl rfl (by simp [rv_cat, int_cat]) rfl ?_
  rintro κ hO hF rfl
  have hD := hF.dp
  show X κ 4 418 w 0 [some (rv f), some (.int (I c)), some (rv o), none] []
  refine X_wi (fun hW => ?_)
  refine X_aload_n 1 hO dL_walk_0 rfl rfl ?_
  refine X_iconst 2 hO dL_walk_1 rfl ?_
  refine X_aload_n 3 hO dL_walk_2 rfl rfl ?_
  refine X_iload_n 4 hO dL_walk_3 rfl rfl ?_
  refine X_kVi (t := 13) 7 hO hD lL_95 rfl (by decide) [_] rfl dL_walk_4 rfl hI.t0 (lo_walk hI hR hT hn hW hc_) (by decide) (by simp [rv_cat, int_cat]) (Nat.le_refl _) (Nat.le_refl _) (fun r w_ hr hp => ?_) (fun E w_ hx => ?_)
  · refine X_i2l 8 hO dL_walk_7 rfl hr ?_
    refine X_last (z := o) (i := 0) 9 hO dL_walk_8 rfl hp.out.1 (by rw [hp.out.2]; decide) ?_
    refine X_goto (tgt := 18) hO dL_walk_9 rfl ?_
    refine X_iconst 19 hO dL_walk_18 rfl ?_
    exact X_iretW hO hF rfl (Or.inl rfl) dL_walk_19 ⟨0, _, _, _, rfl, by decide, hp, rfl, fun _ => rfl⟩
  · rcases hx with ⟨rfl, r, hq⟩ | ⟨rfl, r, hq⟩
    · refine X_catch hO hF [] _ _ rfl (fun z hz => by cases hz) (by decide) (by decide) w_1147 (by decide +kernel) (fun q => ?_)
      refine X_astore_nR 13 hO dL_walk_12 rfl rfl ?_
      refine X_iconst 14 hO dL_walk_13 rfl ?_
      exact X_iretW hO hF rfl (Or.inl rfl) dL_walk_14 ⟨1, _, _, w_ 4 o 0, rfl, by decide, hq, up_self.symm, fun h => absurd h (by decide)⟩
    · refine X_catch hO hF [_] _ _ rfl (by intro z hz; simp only [List.mem_cons, List.not_mem_nil, or_false] at hz; subst hz; exact ⟨by decide, _, w_1147, by decide +kernel⟩) (by decide) (by decide) w_653 (by decide +kernel) (fun q => ?_)
      refine X_astore_nR 16 hO dL_walk_15 rfl rfl ?_
      refine X_iconst 17 hO dL_walk_16 rfl ?_
      exact X_iretW hO hF rfl (Or.inl rfl) dL_walk_17 ⟨2, _, _, w_ 4 o 0, rfl, by decide, hq, up_self.symm, fun h => absurd h (by decide)⟩
theorem dL_undoIn_0 : decode cL_undoIn 0 = .ok (.aload_n 3, 1) := by decide +kernel
theorem dL_undoIn_1 : decode cL_undoIn 1 = .ok (.iconst 0, 1) := by decide +kernel
theorem dL_undoIn_2 : decode cL_undoIn 2 = .ok (.aload_n 0, 1) := by decide +kernel
theorem dL_undoIn_3 : decode cL_undoIn 3 = .ok (.iload_n 1, 1) := by decide +kernel
theorem dL_undoIn_4 : decode cL_undoIn 4 = .ok (.iload_n 2, 1) := by decide +kernel
theorem dL_undoIn_5 : decode cL_undoIn 5 = .ok (.invokevirtual 98, 3) := by decide +kernel
theorem dL_undoIn_8 : decode cL_undoIn 8 = .ok (.i2l, 1) := by decide +kernel
theorem dL_undoIn_9 : decode cL_undoIn 9 = .ok (.lastore, 1) := by decide +kernel
theorem dL_undoIn_10 : decode cL_undoIn 10 = .ok (.goto 11, 3) := by decide +kernel
theorem dL_undoIn_13 : decode cL_undoIn 13 = .ok (.astore 4, 2) := by decide +kernel
theorem dL_undoIn_15 : decode cL_undoIn 15 = .ok (.iconst 1, 1) := by decide +kernel
theorem dL_undoIn_16 : decode cL_undoIn 16 = .ok (.ireturn, 1) := by decide +kernel
theorem dL_undoIn_17 : decode cL_undoIn 17 = .ok (.astore 4, 2) := by decide +kernel
theorem dL_undoIn_19 : decode cL_undoIn 19 = .ok (.iconst 2, 1) := by decide +kernel
theorem dL_undoIn_20 : decode cL_undoIn 20 = .ok (.ireturn, 1) := by decide +kernel
theorem dL_undoIn_21 : decode cL_undoIn 21 = .ok (.iconst 0, 1) := by decide +kernel
theorem dL_undoIn_22 : decode cL_undoIn 22 = .ok (.ireturn, 1) := by decide +kernel
theorem L_undoIn {γ : LC} {μ : MU} {w A : Mm} {f o n c k : Int} (hI : LIn μ f (56 * n) (600 * n) (1 + n) w A) (hR : RM w μ) (hT : OUT o w) (hn : 0 ≤ n ∧ n ≤ 511) (hc_ : IR c) (hk_ : IR k) : MXW γ 13 mL_undoIn hL_undoIn [rv f, .int (I c), .int (I k), rv o] w 80 6600 (QW γ μ f o n mX13_undoIn [.int (I c), .int (I k)]) := by
  refine MXW_of (own := RL) rfl rfl (by simp [rv_cat, int_cat]) rfl ?_
  rintro κ hO hF rfl
  have hD := hF.dp
  show X κ 80 6600 w 0 [some (rv f), some (.int (I c)), some (.int (I k)), some (rv o), none] []
  refine X_wi (fun hW => ?_)
  refine X_aload_n 1 hO dL_undoIn_0 rfl rfl ?_
  refine X_iconst 2 hO dL_undoIn_1 rfl ?_
  refine X_aload_n 3 hO dL_undoIn_2 rfl rfl ?_
  refine X_iload_n 4 hO dL_undoIn_3 rfl rfl ?_
  refine X_iload_n 5 hO dL_undoIn_4 rfl rfl ?_
  refine X_kVi (t := 13) 8 hO hD lL_98 rfl (by decide) [_, _] rfl dL_undoIn_5 rfl hI.t0 (lo_undoIn hI hR hT hn hW hc_ hk_) (by decide) (by simp [rv_cat, int_cat]) (Nat.le_refl _) (Nat.le_refl _) (fun r w_ hr hp => ?_) (fun E w_ hx => ?_)
  · refine X_i2l 9 hO dL_undoIn_8 rfl hr ?_
    refine X_last (z := o) (i := 0) 10 hO dL_undoIn_9 rfl hp.out.1 (by rw [hp.out.2]; decide) ?_
    refine X_goto (tgt := 21) hO dL_undoIn_10 rfl ?_
    refine X_iconst 22 hO dL_undoIn_21 rfl ?_
    exact X_iretW hO hF rfl (Or.inl rfl) dL_undoIn_22 ⟨0, _, _, _, rfl, by decide, hp, rfl, fun _ => rfl⟩
  · rcases hx with ⟨rfl, r, hq⟩ | ⟨rfl, r, hq⟩
    · refine X_catch hO hF [] _ _ rfl (fun z hz => by cases hz) (by decide) (by decide) w_652 (by decide +kernel) (fun q => ?_)
      refine X_astoreR 15 hO dL_undoIn_13 rfl rfl ?_
      refine X_iconst 16 hO dL_undoIn_15 rfl ?_
      exact X_iretW hO hF rfl (Or.inl rfl) dL_undoIn_16 ⟨1, _, _, w_ 4 o 0, rfl, by decide, hq, up_self.symm, fun h => absurd h (by decide)⟩
    · refine X_catch hO hF [_] _ _ rfl (by intro z hz; simp only [List.mem_cons, List.not_mem_nil, or_false] at hz; subst hz; exact ⟨by decide, _, w_652, by decide +kernel⟩) (by decide) (by decide) w_653 (by decide +kernel) (fun q => ?_)
      refine X_astoreR 19 hO dL_undoIn_17 rfl rfl ?_
      refine X_iconst 20 hO dL_undoIn_19 rfl ?_
      exact X_iretW hO hF rfl (Or.inl rfl) dL_undoIn_20 ⟨2, _, _, w_ 4 o 0, rfl, by decide, hq, up_self.symm, fun h => absurd h (by decide)⟩
theorem dL_setBookmark_0 : decode cL_setBookmark 0 = .ok (.aload_n 2, 1) := by decide +kernel
theorem dL_setBookmark_1 : decode cL_setBookmark 1 = .ok (.iconst 0, 1) := by decide +kernel
theorem dL_setBookmark_2 : decode cL_setBookmark 2 = .ok (.aload_n 0, 1) := by decide +kernel
theorem dL_setBookmark_3 : decode cL_setBookmark 3 = .ok (.iload_n 1, 1) := by decide +kernel
theorem dL_setBookmark_4 : decode cL_setBookmark 4 = .ok (.invokevirtual 101, 3) := by decide +kernel
theorem dL_setBookmark_7 : decode cL_setBookmark 7 = .ok (.i2l, 1) := by decide +kernel
theorem dL_setBookmark_8 : decode cL_setBookmark 8 = .ok (.lastore, 1) := by decide +kernel
theorem dL_setBookmark_9 : decode cL_setBookmark 9 = .ok (.goto 6, 3) := by decide +kernel
theorem dL_setBookmark_12 : decode cL_setBookmark 12 = .ok (.astore_n 3, 1) := by decide +kernel
theorem dL_setBookmark_13 : decode cL_setBookmark 13 = .ok (.iconst 1, 1) := by decide +kernel
theorem dL_setBookmark_14 : decode cL_setBookmark 14 = .ok (.ireturn, 1) := by decide +kernel
theorem dL_setBookmark_15 : decode cL_setBookmark 15 = .ok (.iconst 0, 1) := by decide +kernel
theorem dL_setBookmark_16 : decode cL_setBookmark 16 = .ok (.ireturn, 1) := by decide +kernel
theorem L_setBookmark {γ : LC} {μ : MU} {w A : Mm} {f o n c : Int} (hI : LIn μ f (56 * n) (600 * n) (1 + n) w A) (hR : RM w μ) (hT : OUT o w) (hn : 0 ≤ n ∧ n ≤ 511) (hc_ : IR c) : MXW γ 10 mL_setBookmark hL_setBookmark [rv f, .int (I c), rv o] w 1 6 (QW γ μ f o n mX13_setBookmark [.int (I c)]) := by
  refine MXW_of (own := RL) rfl rfl (by simp [rv_cat, int_cat]) rfl ?_
  rintro κ hO hF rfl
  have hD := hF.dp
  show X κ 1 6 w 0 [some (rv f), some (.int (I c)), some (rv o), none] []
  refine X_wi (fun hW => ?_)
  refine X_aload_n 1 hO dL_setBookmark_0 rfl rfl ?_
  refine X_iconst 2 hO dL_setBookmark_1 rfl ?_
  refine X_aload_n 3 hO dL_setBookmark_2 rfl rfl ?_
  refine X_iload_n 4 hO dL_setBookmark_3 rfl rfl ?_
  refine X_kVi (t := 13) 7 hO hD lL_101 rfl (by decide) [_] rfl dL_setBookmark_4 rfl hI.t0 (lo_setBookmark hI hR hT hn hW hc_) (by decide) (by simp [rv_cat, int_cat]) (Nat.le_refl _) (Nat.le_refl _) (fun r w_ hr hp => ?_) (fun E w_ hx => ?_)
  · refine X_i2l 8 hO dL_setBookmark_7 rfl hr ?_
    refine X_last (z := o) (i := 0) 9 hO dL_setBookmark_8 rfl hp.out.1 (by rw [hp.out.2]; decide) ?_
    refine X_goto (tgt := 15) hO dL_setBookmark_9 rfl ?_
    refine X_iconst 16 hO dL_setBookmark_15 rfl ?_
    exact X_iretW hO hF rfl (Or.inl rfl) dL_setBookmark_16 ⟨0, _, _, _, rfl, by decide, hp, rfl, fun _ => rfl⟩
  · obtain ⟨rfl, r, hq⟩ := hx
    refine X_catch hO hF [] _ _ rfl (fun z hz => by cases hz) (by decide) (by decide) w_1147 (by decide +kernel) (fun q => ?_)
    refine X_astore_nR 13 hO dL_setBookmark_12 rfl rfl ?_
    refine X_iconst 14 hO dL_setBookmark_13 rfl ?_
    exact X_iretW hO hF rfl (Or.inl rfl) dL_setBookmark_14 ⟨1, _, _, w_ 4 o 0, rfl, by decide, hq, up_self.symm, fun h => absurd h (by decide)⟩
theorem dL_clearBookmark_0 : decode cL_clearBookmark 0 = .ok (.aload_n 2, 1) := by decide +kernel
theorem dL_clearBookmark_1 : decode cL_clearBookmark 1 = .ok (.iconst 0, 1) := by decide +kernel
theorem dL_clearBookmark_2 : decode cL_clearBookmark 2 = .ok (.aload_n 0, 1) := by decide +kernel
theorem dL_clearBookmark_3 : decode cL_clearBookmark 3 = .ok (.iload_n 1, 1) := by decide +kernel
theorem dL_clearBookmark_4 : decode cL_clearBookmark 4 = .ok (.invokevirtual 104, 3) := by decide +kernel
theorem dL_clearBookmark_7 : decode cL_clearBookmark 7 = .ok (.i2l, 1) := by decide +kernel
theorem dL_clearBookmark_8 : decode cL_clearBookmark 8 = .ok (.lastore, 1) := by decide +kernel
theorem dL_clearBookmark_9 : decode cL_clearBookmark 9 = .ok (.goto 6, 3) := by decide +kernel
theorem dL_clearBookmark_12 : decode cL_clearBookmark 12 = .ok (.astore_n 3, 1) := by decide +kernel
theorem dL_clearBookmark_13 : decode cL_clearBookmark 13 = .ok (.iconst 1, 1) := by decide +kernel
theorem dL_clearBookmark_14 : decode cL_clearBookmark 14 = .ok (.ireturn, 1) := by decide +kernel
theorem dL_clearBookmark_15 : decode cL_clearBookmark 15 = .ok (.iconst 0, 1) := by decide +kernel
theorem dL_clearBookmark_16 : decode cL_clearBookmark 16 = .ok (.ireturn, 1) := by decide +kernel
theorem L_clearBookmark {γ : LC} {μ : MU} {w A : Mm} {f o n c : Int} (hI : LIn μ f (56 * n) (600 * n) (1 + n) w A) (hR : RM w μ) (hT : OUT o w) (hn : 0 ≤ n ∧ n ≤ 511) (hc_ : IR c) : MXW γ 10 mL_clearBookmark hL_clearBookmark [rv f, .int (I c), rv o] w 1 6 (QW γ μ f o n mX13_clearBookmark [.int (I c)]) := by
  refine MXW_of (own := RL) rfl rfl (by simp [rv_cat, int_cat]) rfl ?_
  rintro κ hO hF rfl
  have hD := hF.dp
  show X κ 1 6 w 0 [some (rv f), some (.int (I c)), some (rv o), none] []
  refine X_wi (fun hW => ?_)
  refine X_aload_n 1 hO dL_clearBookmark_0 rfl rfl ?_
  refine X_iconst 2 hO dL_clearBookmark_1 rfl ?_
  refine X_aload_n 3 hO dL_clearBookmark_2 rfl rfl ?_
  refine X_iload_n 4 hO dL_clearBookmark_3 rfl rfl ?_
  refine X_kVi (t := 13) 7 hO hD lL_104 rfl (by decide) [_] rfl dL_clearBookmark_4 rfl hI.t0 (lo_clearBookmark hI hR hT hn hW hc_) (by decide) (by simp [rv_cat, int_cat]) (Nat.le_refl _) (Nat.le_refl _) (fun r w_ hr hp => ?_) (fun E w_ hx => ?_)
  · refine X_i2l 8 hO dL_clearBookmark_7 rfl hr ?_
    refine X_last (z := o) (i := 0) 9 hO dL_clearBookmark_8 rfl hp.out.1 (by rw [hp.out.2]; decide) ?_
    refine X_goto (tgt := 15) hO dL_clearBookmark_9 rfl ?_
    refine X_iconst 16 hO dL_clearBookmark_15 rfl ?_
    exact X_iretW hO hF rfl (Or.inl rfl) dL_clearBookmark_16 ⟨0, _, _, _, rfl, by decide, hp, rfl, fun _ => rfl⟩
  · obtain ⟨rfl, r, hq⟩ := hx
    refine X_catch hO hF [] _ _ rfl (fun z hz => by cases hz) (by decide) (by decide) w_1147 (by decide +kernel) (fun q => ?_)
    refine X_astore_nR 13 hO dL_clearBookmark_12 rfl rfl ?_
    refine X_iconst 14 hO dL_clearBookmark_13 rfl ?_
    exact X_iretW hO hF rfl (Or.inl rfl) dL_clearBookmark_14 ⟨1, _, _, w_ 4 o 0, rfl, by decide, hq, up_self.symm, fun h => absurd h (by decide)⟩
theorem dL_setBudget_0 : decode cL_setBudget 0 = .ok (.aload_n 2, 1) := by decide +kernel
theorem dL_setBudget_1 : decode cL_setBudget 1 = .ok (.iconst 0, 1) := by decide +kernel
theorem dL_setBudget_2 : decode cL_setBudget 2 = .ok (.aload_n 0, 1) := by decide +kernel
theorem dL_setBudget_3 : decode cL_setBudget 3 = .ok (.iload_n 1, 1) := by decide +kernel
theorem dL_setBudget_4 : decode cL_setBudget 4 = .ok (.invokevirtual 107, 3) := by decide +kernel
theorem dL_setBudget_7 : decode cL_setBudget 7 = .ok (.i2l, 1) := by decide +kernel
theorem dL_setBudget_8 : decode cL_setBudget 8 = .ok (.lastore, 1) := by decide +kernel
theorem dL_setBudget_9 : decode cL_setBudget 9 = .ok (.goto 6, 3) := by decide +kernel
theorem dL_setBudget_12 : decode cL_setBudget 12 = .ok (.astore_n 3, 1) := by decide +kernel
theorem dL_setBudget_13 : decode cL_setBudget 13 = .ok (.iconst 1, 1) := by decide +kernel
theorem dL_setBudget_14 : decode cL_setBudget 14 = .ok (.ireturn, 1) := by decide +kernel
theorem dL_setBudget_15 : decode cL_setBudget 15 = .ok (.iconst 0, 1) := by decide +kernel
theorem dL_setBudget_16 : decode cL_setBudget 16 = .ok (.ireturn, 1) := by decide +kernel
theorem L_setBudget {γ : LC} {μ : MU} {w A : Mm} {f o n c : Int} (hI : LIn μ f (56 * n) (600 * n) (1 + n) w A) (hR : RM w μ) (hT : OUT o w) (hn : 0 ≤ n ∧ n ≤ 511) (hc_ : IR c) : MXW γ 11 mL_setBudget hL_setBudget [rv f, .int (I c), rv o] w 1 6 (QW γ μ f o n mX13_setBudget [.int (I c)]) := by
  refine MXW_of (own := RL) rfl rfl (by simp [rv_cat, int_cat]) rfl ?_
  rintro κ hO hF rfl
  have hD := hF.dp
  show X κ 1 6 w 0 [some (rv f), some (.int (I c)), some (rv o), none] []
  refine X_wi (fun hW => ?_)
  refine X_aload_n 1 hO dL_setBudget_0 rfl rfl ?_
  refine X_iconst 2 hO dL_setBudget_1 rfl ?_
  refine X_aload_n 3 hO dL_setBudget_2 rfl rfl ?_
  refine X_iload_n 4 hO dL_setBudget_3 rfl rfl ?_
  refine X_kVi (t := 13) 7 hO hD lL_107 rfl (by decide) [_] rfl dL_setBudget_4 rfl hI.t0 (lo_setBudget hI hR hT hn hW hc_) (by decide) (by simp [rv_cat, int_cat]) (Nat.le_refl _) (Nat.le_refl _) (fun r w_ hr hp => ?_) (fun E w_ hx => ?_)
  · refine X_i2l 8 hO dL_setBudget_7 rfl hr ?_
    refine X_last (z := o) (i := 0) 9 hO dL_setBudget_8 rfl hp.out.1 (by rw [hp.out.2]; decide) ?_
    refine X_goto (tgt := 15) hO dL_setBudget_9 rfl ?_
    refine X_iconst 16 hO dL_setBudget_15 rfl ?_
    exact X_iretW hO hF rfl (Or.inl rfl) dL_setBudget_16 ⟨0, _, _, _, rfl, by decide, hp, rfl, fun _ => rfl⟩
  · obtain ⟨rfl, r, hq⟩ := hx
    refine X_catch hO hF [] _ _ rfl (fun z hz => by cases hz) (by decide) (by decide) w_652 (by decide +kernel) (fun q => ?_)
    refine X_astore_nR 13 hO dL_setBudget_12 rfl rfl ?_
    refine X_iconst 14 hO dL_setBudget_13 rfl ?_
    exact X_iretW hO hF rfl (Or.inl rfl) dL_setBudget_14 ⟨1, _, _, w_ 4 o 0, rfl, by decide, hq, up_self.symm, fun h => absurd h (by decide)⟩
theorem dL_listen_0 : decode cL_listen 0 = .ok (.aload_n 0, 1) := by decide +kernel
theorem dL_listen_1 : decode cL_listen 1 = .ok (.iload_n 1, 1) := by decide +kernel
theorem dL_listen_2 : decode cL_listen 2 = .ok (.iload_n 2, 1) := by decide +kernel
theorem dL_listen_3 : decode cL_listen 3 = .ok (.iload_n 3, 1) := by decide +kernel
theorem dL_listen_4 : decode cL_listen 4 = .ok (.iload 4, 2) := by decide +kernel
theorem dL_listen_6 : decode cL_listen 6 = .ok (.invokevirtual 110, 3) := by decide +kernel
theorem dL_listen_9 : decode cL_listen 9 = .ok (.goto 11, 3) := by decide +kernel
theorem dL_listen_12 : decode cL_listen 12 = .ok (.astore 5, 2) := by decide +kernel
theorem dL_listen_14 : decode cL_listen 14 = .ok (.iconst 1, 1) := by decide +kernel
theorem dL_listen_15 : decode cL_listen 15 = .ok (.ireturn, 1) := by decide +kernel
theorem dL_listen_16 : decode cL_listen 16 = .ok (.astore 5, 2) := by decide +kernel
theorem dL_listen_18 : decode cL_listen 18 = .ok (.iconst 2, 1) := by decide +kernel
theorem dL_listen_19 : decode cL_listen 19 = .ok (.ireturn, 1) := by decide +kernel
theorem dL_listen_20 : decode cL_listen 20 = .ok (.iconst 0, 1) := by decide +kernel
theorem dL_listen_21 : decode cL_listen 21 = .ok (.ireturn, 1) := by decide +kernel
theorem L_listen {γ : LC} {μ : MU} {w A : Mm} {f o n c a b d : Int} (hI : LIn μ f (56 * n) (600 * n) (1 + n) w A) (hR : RM w μ) (hT : OUT o w) (hn : 0 ≤ n ∧ n ≤ 511) (hc_ : IR c) (ha_ : IR a) (hb_ : IR b) (hd_ : IR d) : MXW γ 10 mL_listen hL_listen [rv f, .int (I c), .int (I a), .int (I b), .int (I d)] w 5 30 (QWv γ μ f o n mX13_listen [.int (I c), .int (I a), .int (I b), .int (I d)]) := by
  refine MXW_of (own := RL) rfl rfl (by simp [rv_cat, int_cat]) rfl ?_
  rintro κ hO hF rfl
  have hD := hF.dp
  show X κ 5 30 w 0 [some (rv f), some (.int (I c)), some (.int (I a)), some (.int (I b)), some (.int (I d)), none] []
  refine X_wi (fun hW => ?_)
  refine X_aload_n 1 hO dL_listen_0 rfl rfl ?_
  refine X_iload_n 2 hO dL_listen_1 rfl rfl ?_
  refine X_iload_n 3 hO dL_listen_2 rfl rfl ?_
  refine X_iload_n 4 hO dL_listen_3 rfl rfl ?_
  refine X_iload 6 hO dL_listen_4 rfl rfl ?_
  refine X_kVv (t := 13) 9 hO hD lL_110 rfl (by decide) [_, _, _, _] rfl dL_listen_6 rfl hI.t0 (lo_listen hI hR hT hn hW hc_ ha_ hb_ hd_) (by decide) (by simp [rv_cat, int_cat]) (Nat.le_refl _) (Nat.le_refl _) (fun w_ hp => ?_) (fun E w_ hx => ?_)
  · refine X_goto (tgt := 20) hO dL_listen_9 rfl ?_
    refine X_iconst 21 hO dL_listen_20 rfl ?_
    exact X_iretW hO hF rfl (Or.inl rfl) dL_listen_21 ⟨0, rfl, by decide, hp⟩
  · rcases hx with ⟨rfl, hq⟩ | ⟨rfl, hq⟩
    · refine X_catch hO hF [] _ _ rfl (fun z hz => by cases hz) (by decide) (by decide) w_1147 (by decide +kernel) (fun q => ?_)
      refine X_astoreR 14 hO dL_listen_12 rfl rfl ?_
      refine X_iconst 15 hO dL_listen_14 rfl ?_
      exact X_iretW hO hF rfl (Or.inl rfl) dL_listen_15 ⟨1, rfl, by decide, hq⟩
    · refine X_catch hO hF [_] _ _ rfl (by intro z hz; simp only [List.mem_cons, List.not_mem_nil, or_false] at hz; subst hz; exact ⟨by decide, _, w_1147, by decide +kernel⟩) (by decide) (by decide) w_652 (by decide +kernel) (fun q => ?_)
      refine X_astoreR 18 hO dL_listen_16 rfl rfl ?_
      refine X_iconst 19 hO dL_listen_18 rfl ?_
      exact X_iretW hO hF rfl (Or.inl rfl) dL_listen_19 ⟨2, rfl, by decide, hq⟩
theorem dL_unlisten_0 : decode cL_unlisten 0 = .ok (.aload_n 2, 1) := by decide +kernel
theorem dL_unlisten_1 : decode cL_unlisten 1 = .ok (.iconst 0, 1) := by decide +kernel
theorem dL_unlisten_2 : decode cL_unlisten 2 = .ok (.aload_n 0, 1) := by decide +kernel
theorem dL_unlisten_3 : decode cL_unlisten 3 = .ok (.iload_n 1, 1) := by decide +kernel
theorem dL_unlisten_4 : decode cL_unlisten 4 = .ok (.invokevirtual 114, 3) := by decide +kernel
theorem dL_unlisten_7 : decode cL_unlisten 7 = .ok (.ifCond .eq 7, 3) := by decide +kernel
theorem dL_unlisten_10 : decode cL_unlisten 10 = .ok (.lconst 1, 1) := by decide +kernel
theorem dL_unlisten_11 : decode cL_unlisten 11 = .ok (.goto 4, 3) := by decide +kernel
theorem dL_unlisten_14 : decode cL_unlisten 14 = .ok (.lconst 0, 1) := by decide +kernel
theorem dL_unlisten_15 : decode cL_unlisten 15 = .ok (.lastore, 1) := by decide +kernel
theorem dL_unlisten_16 : decode cL_unlisten 16 = .ok (.goto 6, 3) := by decide +kernel
theorem dL_unlisten_19 : decode cL_unlisten 19 = .ok (.astore_n 3, 1) := by decide +kernel
theorem dL_unlisten_20 : decode cL_unlisten 20 = .ok (.iconst 1, 1) := by decide +kernel
theorem dL_unlisten_21 : decode cL_unlisten 21 = .ok (.ireturn, 1) := by decide +kernel
theorem dL_unlisten_22 : decode cL_unlisten 22 = .ok (.iconst 0, 1) := by decide +kernel
theorem dL_unlisten_23 : decode cL_unlisten 23 = .ok (.ireturn, 1) := by decide +kernel
theorem L_unlisten {γ : LC} {μ : MU} {w A : Mm} {f o n c : Int} (hI : LIn μ f (56 * n) (600 * n) (1 + n) w A) (hR : RM w μ) (hT : OUT o w) (hn : 0 ≤ n ∧ n ≤ 511) (hc_ : IR c) : MXW γ 10 mL_unlisten hL_unlisten [rv f, .int (I c), rv o] w 1 6 (QWb γ μ f o n mX13_unlisten [.int (I c)]) := by
  refine MXW_of (own := RL) rfl rfl (by simp [rv_cat, int_cat]) rfl ?_
  rintro κ hO hF rfl
  have hD := hF.dp
  show X κ 1 6 w 0 [some (rv f), some (.int (I c)), some (rv o), none] []
  refine X_wi (fun hW => ?_)
  refine X_aload_n 1 hO dL_unlisten_0 rfl rfl ?_
  refine X_iconst 2 hO dL_unlisten_1 rfl ?_
  refine X_aload_n 3 hO dL_unlisten_2 rfl rfl ?_
  refine X_iload_n 4 hO dL_unlisten_3 rfl rfl ?_
  refine X_kVi (t := 13) 7 hO hD lL_114 rfl (by decide) [_] rfl dL_unlisten_4 rfl hI.t0 (lo_unlisten hI hR hT hn hW hc_) (by decide) (by simp [rv_cat, int_cat]) (Nat.le_refl _) (Nat.le_refl _) (fun r w_ hr hp => ?_) (fun E w_ hx => ?_)
  · obtain ⟨hb, hp⟩ := hp
    refine X_if_eq 10 14 hO dL_unlisten_7 rfl rfl hr (fun hz => ?_) (fun hz => ?_)
    · subst hz
      refine X_lconst 15 hO dL_unlisten_14 rfl ?_
      refine X_last (z := o) (i := 0) 16 hO dL_unlisten_15 rfl hp.out.1 (by rw [hp.out.2]; decide) ?_
      refine X_goto (tgt := 22) hO dL_unlisten_16 rfl ?_
      refine X_iconst 23 hO dL_unlisten_22 rfl ?_
      exact X_iretW hO hF rfl (Or.inl rfl) dL_unlisten_23 ⟨0, _, _, _, rfl, by decide, hp, rfl, fun _ => rfl, fun _ => Or.inl rfl⟩
    · have hz1 : r = 1 := by omega
      subst hz1
      refine X_lconst 11 hO dL_unlisten_10 rfl ?_
      refine X_goto (tgt := 15) hO dL_unlisten_11 rfl ?_
      refine X_last (z := o) (i := 0) 16 hO dL_unlisten_15 rfl hp.out.1 (by rw [hp.out.2]; decide) ?_
      refine X_goto (tgt := 22) hO dL_unlisten_16 rfl ?_
      refine X_iconst 23 hO dL_unlisten_22 rfl ?_
      exact X_iretW hO hF rfl (Or.inl rfl) dL_unlisten_23 ⟨0, _, _, _, rfl, by decide, hp, rfl, fun _ => rfl, fun _ => Or.inr rfl⟩
  · obtain ⟨rfl, r, hq⟩ := hx
    refine X_catch hO hF [] _ _ rfl (fun z hz => by cases hz) (by decide) (by decide) w_1147 (by decide +kernel) (fun q => ?_)
    refine X_astore_nR 20 hO dL_unlisten_19 rfl rfl ?_
    refine X_iconst 21 hO dL_unlisten_20 rfl ?_
    exact X_iretW hO hF rfl (Or.inl rfl) dL_unlisten_21 ⟨1, _, _, w_ 4 o 0, rfl, by decide, hq, up_self.symm, fun h => absurd h (by decide), fun h => absurd h (by decide)⟩
theorem dL_charAt_0 : decode cL_charAt 0 = .ok (.aload_n 2, 1) := by decide +kernel
theorem dL_charAt_1 : decode cL_charAt 1 = .ok (.iconst 0, 1) := by decide +kernel
theorem dL_charAt_2 : decode cL_charAt 2 = .ok (.aload_n 0, 1) := by decide +kernel
theorem dL_charAt_3 : decode cL_charAt 3 = .ok (.iload_n 1, 1) := by decide +kernel
theorem dL_charAt_4 : decode cL_charAt 4 = .ok (.invokevirtual 118, 3) := by decide +kernel
theorem dL_charAt_7 : decode cL_charAt 7 = .ok (.i2l, 1) := by decide +kernel
theorem dL_charAt_8 : decode cL_charAt 8 = .ok (.lastore, 1) := by decide +kernel
theorem dL_charAt_9 : decode cL_charAt 9 = .ok (.goto 6, 3) := by decide +kernel
theorem dL_charAt_12 : decode cL_charAt 12 = .ok (.astore_n 3, 1) := by decide +kernel
theorem dL_charAt_13 : decode cL_charAt 13 = .ok (.iconst 1, 1) := by decide +kernel
theorem dL_charAt_14 : decode cL_charAt 14 = .ok (.ireturn, 1) := by decide +kernel
theorem dL_charAt_15 : decode cL_charAt 15 = .ok (.iconst 0, 1) := by decide +kernel
theorem dL_charAt_16 : decode cL_charAt 16 = .ok (.ireturn, 1) := by decide +kernel
theorem L_charAt {γ : LC} {μ : MU} {w A : Mm} {f o n c : Int} (hI : LIn μ f (56 * n) (600 * n) (1 + n) w A) (hR : RM w μ) (hT : OUT o w) (hn : 0 ≤ n ∧ n ≤ 511) (hc_ : IR c) : MXW γ 8 mL_charAt hL_charAt [rv f, .int (I c), rv o] w 1 6 (QW γ μ f o n mX13_charAt [.int (I c)]) := by
  refine MXW_of (own := RL) rfl rfl (by simp [rv_cat, int_cat]) rfl ?_
  rintro κ hO hF rfl
  have hD := hF.dp
  show X κ 1 6 w 0 [some (rv f), some (.int (I c)), some (rv o), none] []
  refine X_wi (fun hW => ?_)
  refine X_aload_n 1 hO dL_charAt_0 rfl rfl ?_
  refine X_iconst 2 hO dL_charAt_1 rfl ?_
  refine X_aload_n 3 hO dL_charAt_2 rfl rfl ?_
  refine X_iload_n 4 hO dL_charAt_3 rfl rfl ?_
  refine X_kVi (t := 13) 7 hO hD lL_118 rfl (by decide) [_] rfl dL_charAt_4 rfl hI.t0 (lo_charAt hI hR hT hn hW hc_) (by decide) (by simp [rv_cat, int_cat]) (Nat.le_refl _) (Nat.le_refl _) (fun r w_ hr hp => ?_) (fun E w_ hx => ?_)
  · refine X_i2l 8 hO dL_charAt_7 rfl hr ?_
    refine X_last (z := o) (i := 0) 9 hO dL_charAt_8 rfl hp.out.1 (by rw [hp.out.2]; decide) ?_
    refine X_goto (tgt := 15) hO dL_charAt_9 rfl ?_
    refine X_iconst 16 hO dL_charAt_15 rfl ?_
    exact X_iretW hO hF rfl (Or.inl rfl) dL_charAt_16 ⟨0, _, _, _, rfl, by decide, hp, rfl, fun _ => rfl⟩
  · obtain ⟨rfl, r, hq⟩ := hx
    refine X_catch hO hF [] _ _ rfl (fun z hz => by cases hz) (by decide) (by decide) w_1147 (by decide +kernel) (fun q => ?_)
    refine X_astore_nR 13 hO dL_charAt_12 rfl rfl ?_
    refine X_iconst 14 hO dL_charAt_13 rfl ?_
    exact X_iretW hO hF rfl (Or.inl rfl) dL_charAt_14 ⟨1, _, _, w_ 4 o 0, rfl, by decide, hq, up_self.symm, fun h => absurd h (by decide)⟩
theorem dL_lineOf_0 : decode cL_lineOf 0 = .ok (.aload_n 2, 1) := by decide +kernel
theorem dL_lineOf_1 : decode cL_lineOf 1 = .ok (.iconst 0, 1) := by decide +kernel
theorem dL_lineOf_2 : decode cL_lineOf 2 = .ok (.aload_n 0, 1) := by decide +kernel
theorem dL_lineOf_3 : decode cL_lineOf 3 = .ok (.iload_n 1, 1) := by decide +kernel
theorem dL_lineOf_4 : decode cL_lineOf 4 = .ok (.invokevirtual 121, 3) := by decide +kernel
theorem dL_lineOf_7 : decode cL_lineOf 7 = .ok (.i2l, 1) := by decide +kernel
theorem dL_lineOf_8 : decode cL_lineOf 8 = .ok (.lastore, 1) := by decide +kernel
theorem dL_lineOf_9 : decode cL_lineOf 9 = .ok (.goto 6, 3) := by decide +kernel
theorem dL_lineOf_12 : decode cL_lineOf 12 = .ok (.astore_n 3, 1) := by decide +kernel
theorem dL_lineOf_13 : decode cL_lineOf 13 = .ok (.iconst 1, 1) := by decide +kernel
theorem dL_lineOf_14 : decode cL_lineOf 14 = .ok (.ireturn, 1) := by decide +kernel
theorem dL_lineOf_15 : decode cL_lineOf 15 = .ok (.iconst 0, 1) := by decide +kernel
theorem dL_lineOf_16 : decode cL_lineOf 16 = .ok (.ireturn, 1) := by decide +kernel
theorem L_lineOf {γ : LC} {μ : MU} {w A : Mm} {f o n c : Int} (hI : LIn μ f (56 * n) (600 * n) (1 + n) w A) (hR : RM w μ) (hT : OUT o w) (hn : 0 ≤ n ∧ n ≤ 511) (hc_ : IR c) : MXW γ 8 mL_lineOf hL_lineOf [rv f, .int (I c), rv o] w 1 6 (QW γ μ f o n mX13_lineOf [.int (I c)]) := by
  refine MXW_of (own := RL) rfl rfl (by simp [rv_cat, int_cat]) rfl ?_
  rintro κ hO hF rfl
  have hD := hF.dp
  show X κ 1 6 w 0 [some (rv f), some (.int (I c)), some (rv o), none] []
  refine X_wi (fun hW => ?_)
  refine X_aload_n 1 hO dL_lineOf_0 rfl rfl ?_
  refine X_iconst 2 hO dL_lineOf_1 rfl ?_
  refine X_aload_n 3 hO dL_lineOf_2 rfl rfl ?_
  refine X_iload_n 4 hO dL_lineOf_3 rfl rfl ?_
  refine X_kVi (t := 13) 7 hO hD lL_121 rfl (by decide) [_] rfl dL_lineOf_4 rfl hI.t0 (lo_lineOf hI hR hT hn hW hc_) (by decide) (by simp [rv_cat, int_cat]) (Nat.le_refl _) (Nat.le_refl _) (fun r w_ hr hp => ?_) (fun E w_ hx => ?_)
  · refine X_i2l 8 hO dL_lineOf_7 rfl hr ?_
    refine X_last (z := o) (i := 0) 9 hO dL_lineOf_8 rfl hp.out.1 (by rw [hp.out.2]; decide) ?_
    refine X_goto (tgt := 15) hO dL_lineOf_9 rfl ?_
    refine X_iconst 16 hO dL_lineOf_15 rfl ?_
    exact X_iretW hO hF rfl (Or.inl rfl) dL_lineOf_16 ⟨0, _, _, _, rfl, by decide, hp, rfl, fun _ => rfl⟩
  · obtain ⟨rfl, r, hq⟩ := hx
    refine X_catch hO hF [] _ _ rfl (fun z hz => by cases hz) (by decide) (by decide) w_1147 (by decide +kernel) (fun q => ?_)
    refine X_astore_nR 13 hO dL_lineOf_12 rfl rfl ?_
    refine X_iconst 14 hO dL_lineOf_13 rfl ?_
    exact X_iretW hO hF rfl (Or.inl rfl) dL_lineOf_14 ⟨1, _, _, w_ 4 o 0, rfl, by decide, hq, up_self.symm, fun h => absurd h (by decide)⟩
theorem dL_lineStart_0 : decode cL_lineStart 0 = .ok (.aload_n 2, 1) := by decide +kernel
theorem dL_lineStart_1 : decode cL_lineStart 1 = .ok (.iconst 0, 1) := by decide +kernel
theorem dL_lineStart_2 : decode cL_lineStart 2 = .ok (.aload_n 0, 1) := by decide +kernel
theorem dL_lineStart_3 : decode cL_lineStart 3 = .ok (.iload_n 1, 1) := by decide +kernel
theorem dL_lineStart_4 : decode cL_lineStart 4 = .ok (.invokevirtual 124, 3) := by decide +kernel
theorem dL_lineStart_7 : decode cL_lineStart 7 = .ok (.i2l, 1) := by decide +kernel
theorem dL_lineStart_8 : decode cL_lineStart 8 = .ok (.lastore, 1) := by decide +kernel
theorem dL_lineStart_9 : decode cL_lineStart 9 = .ok (.goto 6, 3) := by decide +kernel
theorem dL_lineStart_12 : decode cL_lineStart 12 = .ok (.astore_n 3, 1) := by decide +kernel
theorem dL_lineStart_13 : decode cL_lineStart 13 = .ok (.iconst 1, 1) := by decide +kernel
theorem dL_lineStart_14 : decode cL_lineStart 14 = .ok (.ireturn, 1) := by decide +kernel
theorem dL_lineStart_15 : decode cL_lineStart 15 = .ok (.iconst 0, 1) := by decide +kernel
theorem dL_lineStart_16 : decode cL_lineStart 16 = .ok (.ireturn, 1) := by decide +kernel
theorem L_lineStart {γ : LC} {μ : MU} {w A : Mm} {f o n c : Int} (hI : LIn μ f (56 * n) (600 * n) (1 + n) w A) (hR : RM w μ) (hT : OUT o w) (hn : 0 ≤ n ∧ n ≤ 511) (hc_ : IR c) : MXW γ 8 mL_lineStart hL_lineStart [rv f, .int (I c), rv o] w 1 6 (QW γ μ f o n mX13_lineStart [.int (I c)]) := by
  refine MXW_of (own := RL) rfl rfl (by simp [rv_cat, int_cat]) rfl ?_
  rintro κ hO hF rfl
  have hD := hF.dp
  show X κ 1 6 w 0 [some (rv f), some (.int (I c)), some (rv o), none] []
  refine X_wi (fun hW => ?_)
  refine X_aload_n 1 hO dL_lineStart_0 rfl rfl ?_
  refine X_iconst 2 hO dL_lineStart_1 rfl ?_
  refine X_aload_n 3 hO dL_lineStart_2 rfl rfl ?_
  refine X_iload_n 4 hO dL_lineStart_3 rfl rfl ?_
  refine X_kVi (t := 13) 7 hO hD lL_124 rfl (by decide) [_] rfl dL_lineStart_4 rfl hI.t0 (lo_lineStart hI hR hT hn hW hc_) (by decide) (by simp [rv_cat, int_cat]) (Nat.le_refl _) (Nat.le_refl _) (fun r w_ hr hp => ?_) (fun E w_ hx => ?_)
  · refine X_i2l 8 hO dL_lineStart_7 rfl hr ?_
    refine X_last (z := o) (i := 0) 9 hO dL_lineStart_8 rfl hp.out.1 (by rw [hp.out.2]; decide) ?_
    refine X_goto (tgt := 15) hO dL_lineStart_9 rfl ?_
    refine X_iconst 16 hO dL_lineStart_15 rfl ?_
    exact X_iretW hO hF rfl (Or.inl rfl) dL_lineStart_16 ⟨0, _, _, _, rfl, by decide, hp, rfl, fun _ => rfl⟩
  · obtain ⟨rfl, r, hq⟩ := hx
    refine X_catch hO hF [] _ _ rfl (fun z hz => by cases hz) (by decide) (by decide) w_1147 (by decide +kernel) (fun q => ?_)
    refine X_astore_nR 13 hO dL_lineStart_12 rfl rfl ?_
    refine X_iconst 14 hO dL_lineStart_13 rfl ?_
    exact X_iretW hO hF rfl (Or.inl rfl) dL_lineStart_14 ⟨1, _, _, w_ 4 o 0, rfl, by decide, hq, up_self.symm, fun h => absurd h (by decide)⟩
theorem dL_markAt_0 : decode cL_markAt 0 = .ok (.aload_n 2, 1) := by decide +kernel
theorem dL_markAt_1 : decode cL_markAt 1 = .ok (.iconst 0, 1) := by decide +kernel
theorem dL_markAt_2 : decode cL_markAt 2 = .ok (.aload_n 0, 1) := by decide +kernel
theorem dL_markAt_3 : decode cL_markAt 3 = .ok (.iload_n 1, 1) := by decide +kernel
theorem dL_markAt_4 : decode cL_markAt 4 = .ok (.invokevirtual 127, 3) := by decide +kernel
theorem dL_markAt_7 : decode cL_markAt 7 = .ok (.i2l, 1) := by decide +kernel
theorem dL_markAt_8 : decode cL_markAt 8 = .ok (.lastore, 1) := by decide +kernel
theorem dL_markAt_9 : decode cL_markAt 9 = .ok (.goto 6, 3) := by decide +kernel
theorem dL_markAt_12 : decode cL_markAt 12 = .ok (.astore_n 3, 1) := by decide +kernel
theorem dL_markAt_13 : decode cL_markAt 13 = .ok (.iconst 1, 1) := by decide +kernel
theorem dL_markAt_14 : decode cL_markAt 14 = .ok (.ireturn, 1) := by decide +kernel
theorem dL_markAt_15 : decode cL_markAt 15 = .ok (.iconst 0, 1) := by decide +kernel
theorem dL_markAt_16 : decode cL_markAt 16 = .ok (.ireturn, 1) := by decide +kernel
theorem L_markAt {γ : LC} {μ : MU} {w A : Mm} {f o n c : Int} (hI : LIn μ f (56 * n) (600 * n) (1 + n) w A) (hR : RM w μ) (hT : OUT o w) (hn : 0 ≤ n ∧ n ≤ 511) (hc_ : IR c) : MXW γ 8 mL_markAt hL_markAt [rv f, .int (I c), rv o] w 1 6 (QW γ μ f o n mX13_markAt [.int (I c)]) := by
  refine MXW_of (own := RL) rfl rfl (by simp [rv_cat, int_cat]) rfl ?_
  rintro κ hO hF rfl
  have hD := hF.dp
  show X κ 1 6 w 0 [some (rv f), some (.int (I c)), some (rv o), none] []
  refine X_wi (fun hW => ?_)
  refine X_aload_n 1 hO dL_markAt_0 rfl rfl ?_
  refine X_iconst 2 hO dL_markAt_1 rfl ?_
  refine X_aload_n 3 hO dL_markAt_2 rfl rfl ?_
  refine X_iload_n 4 hO dL_markAt_3 rfl rfl ?_
  refine X_kVi (t := 13) 7 hO hD lL_127 rfl (by decide) [_] rfl dL_markAt_4 rfl hI.t0 (lo_markAt hI hR hT hn hW hc_) (by decide) (by simp [rv_cat, int_cat]) (Nat.le_refl _) (Nat.le_refl _) (fun r w_ hr hp => ?_) (fun E w_ hx => ?_)
  · refine X_i2l 8 hO dL_markAt_7 rfl hr ?_
    refine X_last (z := o) (i := 0) 9 hO dL_markAt_8 rfl hp.out.1 (by rw [hp.out.2]; decide) ?_
    refine X_goto (tgt := 15) hO dL_markAt_9 rfl ?_
    refine X_iconst 16 hO dL_markAt_15 rfl ?_
    exact X_iretW hO hF rfl (Or.inl rfl) dL_markAt_16 ⟨0, _, _, _, rfl, by decide, hp, rfl, fun _ => rfl⟩
  · obtain ⟨rfl, r, hq⟩ := hx
    refine X_catch hO hF [] _ _ rfl (fun z hz => by cases hz) (by decide) (by decide) w_1147 (by decide +kernel) (fun q => ?_)
    refine X_astore_nR 13 hO dL_markAt_12 rfl rfl ?_
    refine X_iconst 14 hO dL_markAt_13 rfl ?_
    exact X_iretW hO hF rfl (Or.inl rfl) dL_markAt_14 ⟨1, _, _, w_ 4 o 0, rfl, by decide, hq, up_self.symm, fun h => absurd h (by decide)⟩
theorem dL_parentOf_0 : decode cL_parentOf 0 = .ok (.aload_n 2, 1) := by decide +kernel
theorem dL_parentOf_1 : decode cL_parentOf 1 = .ok (.iconst 0, 1) := by decide +kernel
theorem dL_parentOf_2 : decode cL_parentOf 2 = .ok (.aload_n 0, 1) := by decide +kernel
theorem dL_parentOf_3 : decode cL_parentOf 3 = .ok (.iload_n 1, 1) := by decide +kernel
theorem dL_parentOf_4 : decode cL_parentOf 4 = .ok (.invokevirtual 130, 3) := by decide +kernel
theorem dL_parentOf_7 : decode cL_parentOf 7 = .ok (.i2l, 1) := by decide +kernel
theorem dL_parentOf_8 : decode cL_parentOf 8 = .ok (.lastore, 1) := by decide +kernel
theorem dL_parentOf_9 : decode cL_parentOf 9 = .ok (.goto 6, 3) := by decide +kernel
theorem dL_parentOf_12 : decode cL_parentOf 12 = .ok (.astore_n 3, 1) := by decide +kernel
theorem dL_parentOf_13 : decode cL_parentOf 13 = .ok (.iconst 1, 1) := by decide +kernel
theorem dL_parentOf_14 : decode cL_parentOf 14 = .ok (.ireturn, 1) := by decide +kernel
theorem dL_parentOf_15 : decode cL_parentOf 15 = .ok (.iconst 0, 1) := by decide +kernel
theorem dL_parentOf_16 : decode cL_parentOf 16 = .ok (.ireturn, 1) := by decide +kernel
theorem L_parentOf {γ : LC} {μ : MU} {w A : Mm} {f o n c : Int} (hI : LIn μ f (56 * n) (600 * n) (1 + n) w A) (hR : RM w μ) (hT : OUT o w) (hn : 0 ≤ n ∧ n ≤ 511) (hc_ : IR c) : MXW γ 9 mL_parentOf hL_parentOf [rv f, .int (I c), rv o] w 1 6 (QW γ μ f o n mX13_parentOf [.int (I c)]) := by
  refine MXW_of (own := RL) rfl rfl (by simp [rv_cat, int_cat]) rfl ?_
  rintro κ hO hF rfl
  have hD := hF.dp
  show X κ 1 6 w 0 [some (rv f), some (.int (I c)), some (rv o), none] []
  refine X_wi (fun hW => ?_)
  refine X_aload_n 1 hO dL_parentOf_0 rfl rfl ?_
  refine X_iconst 2 hO dL_parentOf_1 rfl ?_
  refine X_aload_n 3 hO dL_parentOf_2 rfl rfl ?_
  refine X_iload_n 4 hO dL_parentOf_3 rfl rfl ?_
  refine X_kVi (t := 13) 7 hO hD lL_130 rfl (by decide) [_] rfl dL_parentOf_4 rfl hI.t0 (lo_parentOf hI hR hT hn hW hc_) (by decide) (by simp [rv_cat, int_cat]) (Nat.le_refl _) (Nat.le_refl _) (fun r w_ hr hp => ?_) (fun E w_ hx => ?_)
  · refine X_i2l 8 hO dL_parentOf_7 rfl hr ?_
    refine X_last (z := o) (i := 0) 9 hO dL_parentOf_8 rfl hp.out.1 (by rw [hp.out.2]; decide) ?_
    refine X_goto (tgt := 15) hO dL_parentOf_9 rfl ?_
    refine X_iconst 16 hO dL_parentOf_15 rfl ?_
    exact X_iretW hO hF rfl (Or.inl rfl) dL_parentOf_16 ⟨0, _, _, _, rfl, by decide, hp, rfl, fun _ => rfl⟩
  · obtain ⟨rfl, r, hq⟩ := hx
    refine X_catch hO hF [] _ _ rfl (fun z hz => by cases hz) (by decide) (by decide) w_1147 (by decide +kernel) (fun q => ?_)
    refine X_astore_nR 13 hO dL_parentOf_12 rfl rfl ?_
    refine X_iconst 14 hO dL_parentOf_13 rfl ?_
    exact X_iretW hO hF rfl (Or.inl rfl) dL_parentOf_14 ⟨1, _, _, w_ 4 o 0, rfl, by decide, hq, up_self.symm, fun h => absurd h (by decide)⟩
theorem dL_newestChild_0 : decode cL_newestChild 0 = .ok (.aload_n 2, 1) := by decide +kernel
theorem dL_newestChild_1 : decode cL_newestChild 1 = .ok (.iconst 0, 1) := by decide +kernel
theorem dL_newestChild_2 : decode cL_newestChild 2 = .ok (.aload_n 0, 1) := by decide +kernel
theorem dL_newestChild_3 : decode cL_newestChild 3 = .ok (.iload_n 1, 1) := by decide +kernel
theorem dL_newestChild_4 : decode cL_newestChild 4 = .ok (.invokevirtual 133, 3) := by decide +kernel
theorem dL_newestChild_7 : decode cL_newestChild 7 = .ok (.i2l, 1) := by decide +kernel
theorem dL_newestChild_8 : decode cL_newestChild 8 = .ok (.lastore, 1) := by decide +kernel
theorem dL_newestChild_9 : decode cL_newestChild 9 = .ok (.goto 6, 3) := by decide +kernel
theorem dL_newestChild_12 : decode cL_newestChild 12 = .ok (.astore_n 3, 1) := by decide +kernel
theorem dL_newestChild_13 : decode cL_newestChild 13 = .ok (.iconst 1, 1) := by decide +kernel
theorem dL_newestChild_14 : decode cL_newestChild 14 = .ok (.ireturn, 1) := by decide +kernel
theorem dL_newestChild_15 : decode cL_newestChild 15 = .ok (.iconst 0, 1) := by decide +kernel
theorem dL_newestChild_16 : decode cL_newestChild 16 = .ok (.ireturn, 1) := by decide +kernel
theorem L_newestChild {γ : LC} {μ : MU} {w A : Mm} {f o n c : Int} (hI : LIn μ f (56 * n) (600 * n) (1 + n) w A) (hR : RM w μ) (hT : OUT o w) (hn : 0 ≤ n ∧ n ≤ 511) (hc_ : IR c) : MXW γ 9 mL_newestChild hL_newestChild [rv f, .int (I c), rv o] w 1 6 (QW γ μ f o n mX13_newestChild [.int (I c)]) := by
  refine MXW_of (own := RL) rfl rfl (by simp [rv_cat, int_cat]) rfl ?_
  rintro κ hO hF rfl
  have hD := hF.dp
  show X κ 1 6 w 0 [some (rv f), some (.int (I c)), some (rv o), none] []
  refine X_wi (fun hW => ?_)
  refine X_aload_n 1 hO dL_newestChild_0 rfl rfl ?_
  refine X_iconst 2 hO dL_newestChild_1 rfl ?_
  refine X_aload_n 3 hO dL_newestChild_2 rfl rfl ?_
  refine X_iload_n 4 hO dL_newestChild_3 rfl rfl ?_
  refine X_kVi (t := 13) 7 hO hD lL_133 rfl (by decide) [_] rfl dL_newestChild_4 rfl hI.t0 (lo_newestChild hI hR hT hn hW hc_) (by decide) (by simp [rv_cat, int_cat]) (Nat.le_refl _) (Nat.le_refl _) (fun r w_ hr hp => ?_) (fun E w_ hx => ?_)
  · refine X_i2l 8 hO dL_newestChild_7 rfl hr ?_
    refine X_last (z := o) (i := 0) 9 hO dL_newestChild_8 rfl hp.out.1 (by rw [hp.out.2]; decide) ?_
    refine X_goto (tgt := 15) hO dL_newestChild_9 rfl ?_
    refine X_iconst 16 hO dL_newestChild_15 rfl ?_
    exact X_iretW hO hF rfl (Or.inl rfl) dL_newestChild_16 ⟨0, _, _, _, rfl, by decide, hp, rfl, fun _ => rfl⟩
  · obtain ⟨rfl, r, hq⟩ := hx
    refine X_catch hO hF [] _ _ rfl (fun z hz => by cases hz) (by decide) (by decide) w_1147 (by decide +kernel) (fun q => ?_)
    refine X_astore_nR 13 hO dL_newestChild_12 rfl rfl ?_
    refine X_iconst 14 hO dL_newestChild_13 rfl ?_
    exact X_iretW hO hF rfl (Or.inl rfl) dL_newestChild_14 ⟨1, _, _, w_ 4 o 0, rfl, by decide, hq, up_self.symm, fun h => absurd h (by decide)⟩
theorem dL_stepsOf_0 : decode cL_stepsOf 0 = .ok (.aload_n 2, 1) := by decide +kernel
theorem dL_stepsOf_1 : decode cL_stepsOf 1 = .ok (.iconst 0, 1) := by decide +kernel
theorem dL_stepsOf_2 : decode cL_stepsOf 2 = .ok (.aload_n 0, 1) := by decide +kernel
theorem dL_stepsOf_3 : decode cL_stepsOf 3 = .ok (.iload_n 1, 1) := by decide +kernel
theorem dL_stepsOf_4 : decode cL_stepsOf 4 = .ok (.invokevirtual 136, 3) := by decide +kernel
theorem dL_stepsOf_7 : decode cL_stepsOf 7 = .ok (.i2l, 1) := by decide +kernel
theorem dL_stepsOf_8 : decode cL_stepsOf 8 = .ok (.lastore, 1) := by decide +kernel
theorem dL_stepsOf_9 : decode cL_stepsOf 9 = .ok (.goto 6, 3) := by decide +kernel
theorem dL_stepsOf_12 : decode cL_stepsOf 12 = .ok (.astore_n 3, 1) := by decide +kernel
theorem dL_stepsOf_13 : decode cL_stepsOf 13 = .ok (.iconst 1, 1) := by decide +kernel
theorem dL_stepsOf_14 : decode cL_stepsOf 14 = .ok (.ireturn, 1) := by decide +kernel
theorem dL_stepsOf_15 : decode cL_stepsOf 15 = .ok (.iconst 0, 1) := by decide +kernel
theorem dL_stepsOf_16 : decode cL_stepsOf 16 = .ok (.ireturn, 1) := by decide +kernel
theorem L_stepsOf {γ : LC} {μ : MU} {w A : Mm} {f o n c : Int} (hI : LIn μ f (56 * n) (600 * n) (1 + n) w A) (hR : RM w μ) (hT : OUT o w) (hn : 0 ≤ n ∧ n ≤ 511) (hc_ : IR c) : MXW γ 9 mL_stepsOf hL_stepsOf [rv f, .int (I c), rv o] w 1 6 (QW γ μ f o n mX13_stepsOf [.int (I c)]) := by
  refine MXW_of (own := RL) rfl rfl (by simp [rv_cat, int_cat]) rfl ?_
  rintro κ hO hF rfl
  have hD := hF.dp
  show X κ 1 6 w 0 [some (rv f), some (.int (I c)), some (rv o), none] []
  refine X_wi (fun hW => ?_)
  refine X_aload_n 1 hO dL_stepsOf_0 rfl rfl ?_
  refine X_iconst 2 hO dL_stepsOf_1 rfl ?_
  refine X_aload_n 3 hO dL_stepsOf_2 rfl rfl ?_
  refine X_iload_n 4 hO dL_stepsOf_3 rfl rfl ?_
  refine X_kVi (t := 13) 7 hO hD lL_136 rfl (by decide) [_] rfl dL_stepsOf_4 rfl hI.t0 (lo_stepsOf hI hR hT hn hW hc_) (by decide) (by simp [rv_cat, int_cat]) (Nat.le_refl _) (Nat.le_refl _) (fun r w_ hr hp => ?_) (fun E w_ hx => ?_)
  · refine X_i2l 8 hO dL_stepsOf_7 rfl hr ?_
    refine X_last (z := o) (i := 0) 9 hO dL_stepsOf_8 rfl hp.out.1 (by rw [hp.out.2]; decide) ?_
    refine X_goto (tgt := 15) hO dL_stepsOf_9 rfl ?_
    refine X_iconst 16 hO dL_stepsOf_15 rfl ?_
    exact X_iretW hO hF rfl (Or.inl rfl) dL_stepsOf_16 ⟨0, _, _, _, rfl, by decide, hp, rfl, fun _ => rfl⟩
  · obtain ⟨rfl, r, hq⟩ := hx
    refine X_catch hO hF [] _ _ rfl (fun z hz => by cases hz) (by decide) (by decide) w_1147 (by decide +kernel) (fun q => ?_)
    refine X_astore_nR 13 hO dL_stepsOf_12 rfl rfl ?_
    refine X_iconst 14 hO dL_stepsOf_13 rfl ?_
    exact X_iretW hO hF rfl (Or.inl rfl) dL_stepsOf_14 ⟨1, _, _, w_ 4 o 0, rfl, by decide, hq, up_self.symm, fun h => absurd h (by decide)⟩
theorem dL_bookmarkAt_0 : decode cL_bookmarkAt 0 = .ok (.aload_n 2, 1) := by decide +kernel
theorem dL_bookmarkAt_1 : decode cL_bookmarkAt 1 = .ok (.iconst 0, 1) := by decide +kernel
theorem dL_bookmarkAt_2 : decode cL_bookmarkAt 2 = .ok (.aload_n 0, 1) := by decide +kernel
theorem dL_bookmarkAt_3 : decode cL_bookmarkAt 3 = .ok (.iload_n 1, 1) := by decide +kernel
theorem dL_bookmarkAt_4 : decode cL_bookmarkAt 4 = .ok (.invokevirtual 139, 3) := by decide +kernel
theorem dL_bookmarkAt_7 : decode cL_bookmarkAt 7 = .ok (.i2l, 1) := by decide +kernel
theorem dL_bookmarkAt_8 : decode cL_bookmarkAt 8 = .ok (.lastore, 1) := by decide +kernel
theorem dL_bookmarkAt_9 : decode cL_bookmarkAt 9 = .ok (.goto 6, 3) := by decide +kernel
theorem dL_bookmarkAt_12 : decode cL_bookmarkAt 12 = .ok (.astore_n 3, 1) := by decide +kernel
theorem dL_bookmarkAt_13 : decode cL_bookmarkAt 13 = .ok (.iconst 1, 1) := by decide +kernel
theorem dL_bookmarkAt_14 : decode cL_bookmarkAt 14 = .ok (.ireturn, 1) := by decide +kernel
theorem dL_bookmarkAt_15 : decode cL_bookmarkAt 15 = .ok (.iconst 0, 1) := by decide +kernel
theorem dL_bookmarkAt_16 : decode cL_bookmarkAt 16 = .ok (.ireturn, 1) := by decide +kernel
theorem L_bookmarkAt {γ : LC} {μ : MU} {w A : Mm} {f o n c : Int} (hI : LIn μ f (56 * n) (600 * n) (1 + n) w A) (hR : RM w μ) (hT : OUT o w) (hn : 0 ≤ n ∧ n ≤ 511) (hc_ : IR c) : MXW γ 8 mL_bookmarkAt hL_bookmarkAt [rv f, .int (I c), rv o] w 1 6 (QW γ μ f o n mX13_bookmarkAt [.int (I c)]) := by
  refine MXW_of (own := RL) rfl rfl (by simp [rv_cat, int_cat]) rfl ?_
  rintro κ hO hF rfl
  have hD := hF.dp
  show X κ 1 6 w 0 [some (rv f), some (.int (I c)), some (rv o), none] []
  refine X_wi (fun hW => ?_)
  refine X_aload_n 1 hO dL_bookmarkAt_0 rfl rfl ?_
  refine X_iconst 2 hO dL_bookmarkAt_1 rfl ?_
  refine X_aload_n 3 hO dL_bookmarkAt_2 rfl rfl ?_
  refine X_iload_n 4 hO dL_bookmarkAt_3 rfl rfl ?_
  refine X_kVi (t := 13) 7 hO hD lL_139 rfl (by decide) [_] rfl dL_bookmarkAt_4 rfl hI.t0 (lo_bookmarkAt hI hR hT hn hW hc_) (by decide) (by simp [rv_cat, int_cat]) (Nat.le_refl _) (Nat.le_refl _) (fun r w_ hr hp => ?_) (fun E w_ hx => ?_)
  · refine X_i2l 8 hO dL_bookmarkAt_7 rfl hr ?_
    refine X_last (z := o) (i := 0) 9 hO dL_bookmarkAt_8 rfl hp.out.1 (by rw [hp.out.2]; decide) ?_
    refine X_goto (tgt := 15) hO dL_bookmarkAt_9 rfl ?_
    refine X_iconst 16 hO dL_bookmarkAt_15 rfl ?_
    exact X_iretW hO hF rfl (Or.inl rfl) dL_bookmarkAt_16 ⟨0, _, _, _, rfl, by decide, hp, rfl, fun _ => rfl⟩
  · obtain ⟨rfl, r, hq⟩ := hx
    refine X_catch hO hF [] _ _ rfl (fun z hz => by cases hz) (by decide) (by decide) w_1147 (by decide +kernel) (fun q => ?_)
    refine X_astore_nR 13 hO dL_bookmarkAt_12 rfl rfl ?_
    refine X_iconst 14 hO dL_bookmarkAt_13 rfl ?_
    exact X_iretW hO hF rfl (Or.inl rfl) dL_bookmarkAt_14 ⟨1, _, _, w_ 4 o 0, rfl, by decide, hq, up_self.symm, fun h => absurd h (by decide)⟩
theorem dL_lengthByReplay_0 : decode cL_lengthByReplay 0 = .ok (.aload_n 2, 1) := by decide +kernel
theorem dL_lengthByReplay_1 : decode cL_lengthByReplay 1 = .ok (.iconst 0, 1) := by decide +kernel
theorem dL_lengthByReplay_2 : decode cL_lengthByReplay 2 = .ok (.aload_n 0, 1) := by decide +kernel
theorem dL_lengthByReplay_3 : decode cL_lengthByReplay 3 = .ok (.iload_n 1, 1) := by decide +kernel
theorem dL_lengthByReplay_4 : decode cL_lengthByReplay 4 = .ok (.invokevirtual 142, 3) := by decide +kernel
theorem dL_lengthByReplay_7 : decode cL_lengthByReplay 7 = .ok (.i2l, 1) := by decide +kernel
theorem dL_lengthByReplay_8 : decode cL_lengthByReplay 8 = .ok (.lastore, 1) := by decide +kernel
theorem dL_lengthByReplay_9 : decode cL_lengthByReplay 9 = .ok (.goto 6, 3) := by decide +kernel
theorem dL_lengthByReplay_12 : decode cL_lengthByReplay 12 = .ok (.astore_n 3, 1) := by decide +kernel
theorem dL_lengthByReplay_13 : decode cL_lengthByReplay 13 = .ok (.iconst 1, 1) := by decide +kernel
theorem dL_lengthByReplay_14 : decode cL_lengthByReplay 14 = .ok (.ireturn, 1) := by decide +kernel
theorem dL_lengthByReplay_15 : decode cL_lengthByReplay 15 = .ok (.iconst 0, 1) := by decide +kernel
theorem dL_lengthByReplay_16 : decode cL_lengthByReplay 16 = .ok (.ireturn, 1) := by decide +kernel
theorem L_lengthByReplay {γ : LC} {μ : MU} {w A : Mm} {f o n c : Int} (hI : LIn μ f (56 * n) (600 * n) (1 + n) w A) (hR : RM w μ) (hT : OUT o w) (hn : 0 ≤ n ∧ n ≤ 511) (hc_ : IR c) : MXW γ 9 mL_lengthByReplay hL_lengthByReplay [rv f, .int (I c), rv o] w 1 6 (QW γ μ f o n mX13_lengthByReplay [.int (I c)]) := by
  refine MXW_of (own := RL) rfl rfl (by simp [rv_cat, int_cat]) rfl ?_
  rintro κ hO hF rfl
  have hD := hF.dp
  show X κ 1 6 w 0 [some (rv f), some (.int (I c)), some (rv o), none] []
  refine X_wi (fun hW => ?_)
  refine X_aload_n 1 hO dL_lengthByReplay_0 rfl rfl ?_
  refine X_iconst 2 hO dL_lengthByReplay_1 rfl ?_
  refine X_aload_n 3 hO dL_lengthByReplay_2 rfl rfl ?_
  refine X_iload_n 4 hO dL_lengthByReplay_3 rfl rfl ?_
  refine X_kVi (t := 13) 7 hO hD lL_142 rfl (by decide) [_] rfl dL_lengthByReplay_4 rfl hI.t0 (lo_lengthByReplay hI hR hT hn hW hc_) (by decide) (by simp [rv_cat, int_cat]) (Nat.le_refl _) (Nat.le_refl _) (fun r w_ hr hp => ?_) (fun E w_ hx => ?_)
  · refine X_i2l 8 hO dL_lengthByReplay_7 rfl hr ?_
    refine X_last (z := o) (i := 0) 9 hO dL_lengthByReplay_8 rfl hp.out.1 (by rw [hp.out.2]; decide) ?_
    refine X_goto (tgt := 15) hO dL_lengthByReplay_9 rfl ?_
    refine X_iconst 16 hO dL_lengthByReplay_15 rfl ?_
    exact X_iretW hO hF rfl (Or.inl rfl) dL_lengthByReplay_16 ⟨0, _, _, _, rfl, by decide, hp, rfl, fun _ => rfl⟩
  · obtain ⟨rfl, r, hq⟩ := hx
    refine X_catch hO hF [] _ _ rfl (fun z hz => by cases hz) (by decide) (by decide) w_1147 (by decide +kernel) (fun q => ?_)
    refine X_astore_nR 13 hO dL_lengthByReplay_12 rfl rfl ?_
    refine X_iconst 14 hO dL_lengthByReplay_13 rfl ?_
    exact X_iretW hO hF rfl (Or.inl rfl) dL_lengthByReplay_14 ⟨1, _, _, w_ 4 o 0, rfl, by decide, hq, up_self.symm, fun h => absurd h (by decide)⟩
theorem dL_charByReplay_0 : decode cL_charByReplay 0 = .ok (.aload_n 3, 1) := by decide +kernel
theorem dL_charByReplay_1 : decode cL_charByReplay 1 = .ok (.iconst 0, 1) := by decide +kernel
theorem dL_charByReplay_2 : decode cL_charByReplay 2 = .ok (.aload_n 0, 1) := by decide +kernel
theorem dL_charByReplay_3 : decode cL_charByReplay 3 = .ok (.iload_n 1, 1) := by decide +kernel
theorem dL_charByReplay_4 : decode cL_charByReplay 4 = .ok (.iload_n 2, 1) := by decide +kernel
theorem dL_charByReplay_5 : decode cL_charByReplay 5 = .ok (.invokevirtual 145, 3) := by decide +kernel
theorem dL_charByReplay_8 : decode cL_charByReplay 8 = .ok (.i2l, 1) := by decide +kernel
theorem dL_charByReplay_9 : decode cL_charByReplay 9 = .ok (.lastore, 1) := by decide +kernel
theorem dL_charByReplay_10 : decode cL_charByReplay 10 = .ok (.goto 7, 3) := by decide +kernel
theorem dL_charByReplay_13 : decode cL_charByReplay 13 = .ok (.astore 4, 2) := by decide +kernel
theorem dL_charByReplay_15 : decode cL_charByReplay 15 = .ok (.iconst 1, 1) := by decide +kernel
theorem dL_charByReplay_16 : decode cL_charByReplay 16 = .ok (.ireturn, 1) := by decide +kernel
theorem dL_charByReplay_17 : decode cL_charByReplay 17 = .ok (.iconst 0, 1) := by decide +kernel
theorem dL_charByReplay_18 : decode cL_charByReplay 18 = .ok (.ireturn, 1) := by decide +kernel
theorem L_charByReplay {γ : LC} {μ : MU} {w A : Mm} {f o n c k : Int} (hI : LIn μ f (56 * n) (600 * n) (1 + n) w A) (hR : RM w μ) (hT : OUT o w) (hn : 0 ≤ n ∧ n ≤ 511) (hc_ : IR c) (hk_ : IR k) : MXW γ 9 mL_charByReplay hL_charByReplay [rv f, .int (I c), .int (I k), rv o] w 2 12 (QW γ μ f o n mX13_charByReplay [.int (I c), .int (I k)]) := by
  refine MXW_of (own := RL) rfl rfl (by simp [rv_cat, int_cat]) rfl ?_
  rintro κ hO hF rfl
  have hD := hF.dp
  show X κ 2 12 w 0 [some (rv f), some (.int (I c)), some (.int (I k)), some (rv o), none] []
  refine X_wi (fun hW => ?_)
  refine X_aload_n 1 hO dL_charByReplay_0 rfl rfl ?_
  refine X_iconst 2 hO dL_charByReplay_1 rfl ?_
  refine X_aload_n 3 hO dL_charByReplay_2 rfl rfl ?_
  refine X_iload_n 4 hO dL_charByReplay_3 rfl rfl ?_
  refine X_iload_n 5 hO dL_charByReplay_4 rfl rfl ?_
  refine X_kVi (t := 13) 8 hO hD lL_145 rfl (by decide) [_, _] rfl dL_charByReplay_5 rfl hI.t0 (lo_charByReplay hI hR hT hn hW hc_ hk_) (by decide) (by simp [rv_cat, int_cat]) (Nat.le_refl _) (Nat.le_refl _) (fun r w_ hr hp => ?_) (fun E w_ hx => ?_)
  · refine X_i2l 9 hO dL_charByReplay_8 rfl hr ?_
    refine X_last (z := o) (i := 0) 10 hO dL_charByReplay_9 rfl hp.out.1 (by rw [hp.out.2]; decide) ?_
    refine X_goto (tgt := 17) hO dL_charByReplay_10 rfl ?_
    refine X_iconst 18 hO dL_charByReplay_17 rfl ?_
    exact X_iretW hO hF rfl (Or.inl rfl) dL_charByReplay_18 ⟨0, _, _, _, rfl, by decide, hp, rfl, fun _ => rfl⟩
  · obtain ⟨rfl, r, hq⟩ := hx
    refine X_catch hO hF [] _ _ rfl (fun z hz => by cases hz) (by decide) (by decide) w_1147 (by decide +kernel) (fun q => ?_)
    refine X_astoreR 15 hO dL_charByReplay_13 rfl rfl ?_
    refine X_iconst 16 hO dL_charByReplay_15 rfl ?_
    exact X_iretW hO hF rfl (Or.inl rfl) dL_charByReplay_16 ⟨1, _, _, w_ 4 o 0, rfl, by decide, hq, up_self.symm, fun h => absurd h (by decide)⟩
theorem dL_markByReplay_0 : decode cL_markByReplay 0 = .ok (.aload_n 3, 1) := by decide +kernel
theorem dL_markByReplay_1 : decode cL_markByReplay 1 = .ok (.iconst 0, 1) := by decide +kernel
theorem dL_markByReplay_2 : decode cL_markByReplay 2 = .ok (.aload_n 0, 1) := by decide +kernel
theorem dL_markByReplay_3 : decode cL_markByReplay 3 = .ok (.iload_n 1, 1) := by decide +kernel
theorem dL_markByReplay_4 : decode cL_markByReplay 4 = .ok (.iload_n 2, 1) := by decide +kernel
theorem dL_markByReplay_5 : decode cL_markByReplay 5 = .ok (.invokevirtual 148, 3) := by decide +kernel
theorem dL_markByReplay_8 : decode cL_markByReplay 8 = .ok (.i2l, 1) := by decide +kernel
theorem dL_markByReplay_9 : decode cL_markByReplay 9 = .ok (.lastore, 1) := by decide +kernel
theorem dL_markByReplay_10 : decode cL_markByReplay 10 = .ok (.goto 7, 3) := by decide +kernel
theorem dL_markByReplay_13 : decode cL_markByReplay 13 = .ok (.astore 4, 2) := by decide +kernel
theorem dL_markByReplay_15 : decode cL_markByReplay 15 = .ok (.iconst 1, 1) := by decide +kernel
theorem dL_markByReplay_16 : decode cL_markByReplay 16 = .ok (.ireturn, 1) := by decide +kernel
theorem dL_markByReplay_17 : decode cL_markByReplay 17 = .ok (.iconst 0, 1) := by decide +kernel
theorem dL_markByReplay_18 : decode cL_markByReplay 18 = .ok (.ireturn, 1) := by decide +kernel
theorem L_markByReplay {γ : LC} {μ : MU} {w A : Mm} {f o n c k : Int} (hI : LIn μ f (56 * n) (600 * n) (1 + n) w A) (hR : RM w μ) (hT : OUT o w) (hn : 0 ≤ n ∧ n ≤ 511) (hc_ : IR c) (hk_ : IR k) : MXW γ 9 mL_markByReplay hL_markByReplay [rv f, .int (I c), .int (I k), rv o] w 2 12 (QW γ μ f o n mX13_markByReplay [.int (I c), .int (I k)]) := by
  refine MXW_of (own := RL) rfl rfl (by simp [rv_cat, int_cat]) rfl ?_
  rintro κ hO hF rfl
  have hD := hF.dp
  show X κ 2 12 w 0 [some (rv f), some (.int (I c)), some (.int (I k)), some (rv o), none] []
  refine X_wi (fun hW => ?_)
  refine X_aload_n 1 hO dL_markByReplay_0 rfl rfl ?_
  refine X_iconst 2 hO dL_markByReplay_1 rfl ?_
  refine X_aload_n 3 hO dL_markByReplay_2 rfl rfl ?_
  refine X_iload_n 4 hO dL_markByReplay_3 rfl rfl ?_
  refine X_iload_n 5 hO dL_markByReplay_4 rfl rfl ?_
  refine X_kVi (t := 13) 8 hO hD lL_148 rfl (by decide) [_, _] rfl dL_markByReplay_5 rfl hI.t0 (lo_markByReplay hI hR hT hn hW hc_ hk_) (by decide) (by simp [rv_cat, int_cat]) (Nat.le_refl _) (Nat.le_refl _) (fun r w_ hr hp => ?_) (fun E w_ hx => ?_)
  · refine X_i2l 9 hO dL_markByReplay_8 rfl hr ?_
    refine X_last (z := o) (i := 0) 10 hO dL_markByReplay_9 rfl hp.out.1 (by rw [hp.out.2]; decide) ?_
    refine X_goto (tgt := 17) hO dL_markByReplay_10 rfl ?_
    refine X_iconst 18 hO dL_markByReplay_17 rfl ?_
    exact X_iretW hO hF rfl (Or.inl rfl) dL_markByReplay_18 ⟨0, _, _, _, rfl, by decide, hp, rfl, fun _ => rfl⟩
  · obtain ⟨rfl, r, hq⟩ := hx
    refine X_catch hO hF [] _ _ rfl (fun z hz => by cases hz) (by decide) (by decide) w_1147 (by decide +kernel) (fun q => ?_)
    refine X_astoreR 15 hO dL_markByReplay_13 rfl rfl ?_
    refine X_iconst 16 hO dL_markByReplay_15 rfl ?_
    exact X_iretW hO hF rfl (Or.inl rfl) dL_markByReplay_16 ⟨1, _, _, w_ 4 o 0, rfl, by decide, hq, up_self.symm, fun h => absurd h (by decide)⟩
theorem dL_storedByReplay_0 : decode cL_storedByReplay 0 = .ok (.aload_n 3, 1) := by decide +kernel
theorem dL_storedByReplay_1 : decode cL_storedByReplay 1 = .ok (.iconst 0, 1) := by decide +kernel
theorem dL_storedByReplay_2 : decode cL_storedByReplay 2 = .ok (.aload_n 0, 1) := by decide +kernel
theorem dL_storedByReplay_3 : decode cL_storedByReplay 3 = .ok (.iload_n 1, 1) := by decide +kernel
theorem dL_storedByReplay_4 : decode cL_storedByReplay 4 = .ok (.iload_n 2, 1) := by decide +kernel
theorem dL_storedByReplay_5 : decode cL_storedByReplay 5 = .ok (.invokevirtual 151, 3) := by decide +kernel
theorem dL_storedByReplay_8 : decode cL_storedByReplay 8 = .ok (.i2l, 1) := by decide +kernel
theorem dL_storedByReplay_9 : decode cL_storedByReplay 9 = .ok (.lastore, 1) := by decide +kernel
theorem dL_storedByReplay_10 : decode cL_storedByReplay 10 = .ok (.goto 7, 3) := by decide +kernel
theorem dL_storedByReplay_13 : decode cL_storedByReplay 13 = .ok (.astore 4, 2) := by decide +kernel
theorem dL_storedByReplay_15 : decode cL_storedByReplay 15 = .ok (.iconst 1, 1) := by decide +kernel
theorem dL_storedByReplay_16 : decode cL_storedByReplay 16 = .ok (.ireturn, 1) := by decide +kernel
theorem dL_storedByReplay_17 : decode cL_storedByReplay 17 = .ok (.iconst 0, 1) := by decide +kernel
theorem dL_storedByReplay_18 : decode cL_storedByReplay 18 = .ok (.ireturn, 1) := by decide +kernel
theorem L_storedByReplay {γ : LC} {μ : MU} {w A : Mm} {f o n c k : Int} (hI : LIn μ f (56 * n) (600 * n) (1 + n) w A) (hR : RM w μ) (hT : OUT o w) (hn : 0 ≤ n ∧ n ≤ 511) (hc_ : IR c) (hk_ : IR k) : MXW γ 9 mL_storedByReplay hL_storedByReplay [rv f, .int (I c), .int (I k), rv o] w 2 12 (QW γ μ f o n mX13_storedByReplay [.int (I c), .int (I k)]) := by
  refine MXW_of (own := RL) rfl rfl (by simp [rv_cat, int_cat]) rfl ?_
  rintro κ hO hF rfl
  have hD := hF.dp
  show X κ 2 12 w 0 [some (rv f), some (.int (I c)), some (.int (I k)), some (rv o), none] []
  refine X_wi (fun hW => ?_)
  refine X_aload_n 1 hO dL_storedByReplay_0 rfl rfl ?_
  refine X_iconst 2 hO dL_storedByReplay_1 rfl ?_
  refine X_aload_n 3 hO dL_storedByReplay_2 rfl rfl ?_
  refine X_iload_n 4 hO dL_storedByReplay_3 rfl rfl ?_
  refine X_iload_n 5 hO dL_storedByReplay_4 rfl rfl ?_
  refine X_kVi (t := 13) 8 hO hD lL_151 rfl (by decide) [_, _] rfl dL_storedByReplay_5 rfl hI.t0 (lo_storedByReplay hI hR hT hn hW hc_ hk_) (by decide) (by simp [rv_cat, int_cat]) (Nat.le_refl _) (Nat.le_refl _) (fun r w_ hr hp => ?_) (fun E w_ hx => ?_)
  · refine X_i2l 9 hO dL_storedByReplay_8 rfl hr ?_
    refine X_last (z := o) (i := 0) 10 hO dL_storedByReplay_9 rfl hp.out.1 (by rw [hp.out.2]; decide) ?_
    refine X_goto (tgt := 17) hO dL_storedByReplay_10 rfl ?_
    refine X_iconst 18 hO dL_storedByReplay_17 rfl ?_
    exact X_iretW hO hF rfl (Or.inl rfl) dL_storedByReplay_18 ⟨0, _, _, _, rfl, by decide, hp, rfl, fun _ => rfl⟩
  · obtain ⟨rfl, r, hq⟩ := hx
    refine X_catch hO hF [] _ _ rfl (fun z hz => by cases hz) (by decide) (by decide) w_1147 (by decide +kernel) (fun q => ?_)
    refine X_astoreR 15 hO dL_storedByReplay_13 rfl rfl ?_
    refine X_iconst 16 hO dL_storedByReplay_15 rfl ?_
    exact X_iretW hO hF rfl (Or.inl rfl) dL_storedByReplay_16 ⟨1, _, _, w_ 4 o 0, rfl, by decide, hq, up_self.symm, fun h => absurd h (by decide)⟩
theorem dL_entries_0 : decode cL_entries 0 = .ok (.aload_n 2, 1) := by decide +kernel
theorem dL_entries_1 : decode cL_entries 1 = .ok (.iconst 0, 1) := by decide +kernel
theorem dL_entries_2 : decode cL_entries 2 = .ok (.aload_n 0, 1) := by decide +kernel
theorem dL_entries_3 : decode cL_entries 3 = .ok (.iload_n 1, 1) := by decide +kernel
theorem dL_entries_4 : decode cL_entries 4 = .ok (.invokevirtual 154, 3) := by decide +kernel
theorem dL_entries_7 : decode cL_entries 7 = .ok (.i2l, 1) := by decide +kernel
theorem dL_entries_8 : decode cL_entries 8 = .ok (.lastore, 1) := by decide +kernel
theorem dL_entries_9 : decode cL_entries 9 = .ok (.goto 6, 3) := by decide +kernel
theorem dL_entries_12 : decode cL_entries 12 = .ok (.astore_n 3, 1) := by decide +kernel
theorem dL_entries_13 : decode cL_entries 13 = .ok (.iconst 1, 1) := by decide +kernel
theorem dL_entries_14 : decode cL_entries 14 = .ok (.ireturn, 1) := by decide +kernel
theorem dL_entries_15 : decode cL_entries 15 = .ok (.iconst 0, 1) := by decide +kernel
theorem dL_entries_16 : decode cL_entries 16 = .ok (.ireturn, 1) := by decide +kernel
theorem L_entries {γ : LC} {μ : MU} {w A : Mm} {f o n c : Int} (hI : LIn μ f (56 * n) (600 * n) (1 + n) w A) (hR : RM w μ) (hT : OUT o w) (hn : 0 ≤ n ∧ n ≤ 511) (hc_ : IR c) : MXW γ 8 mL_entries hL_entries [rv f, .int (I c), rv o] w 1 6 (QW γ μ f o n mX13_entries [.int (I c)]) := by
  refine MXW_of (own := RL) rfl rfl (by simp [rv_cat, int_cat]) rfl ?_
  rintro κ hO hF rfl
  have hD := hF.dp
  show X κ 1 6 w 0 [some (rv f), some (.int (I c)), some (rv o), none] []
  refine X_wi (fun hW => ?_)
  refine X_aload_n 1 hO dL_entries_0 rfl rfl ?_
  refine X_iconst 2 hO dL_entries_1 rfl ?_
  refine X_aload_n 3 hO dL_entries_2 rfl rfl ?_
  refine X_iload_n 4 hO dL_entries_3 rfl rfl ?_
  refine X_kVi (t := 13) 7 hO hD lL_154 rfl (by decide) [_] rfl dL_entries_4 rfl hI.t0 (lo_entries hI hR hT hn hW hc_) (by decide) (by simp [rv_cat, int_cat]) (Nat.le_refl _) (Nat.le_refl _) (fun r w_ hr hp => ?_) (fun E w_ hx => ?_)
  · refine X_i2l 8 hO dL_entries_7 rfl hr ?_
    refine X_last (z := o) (i := 0) 9 hO dL_entries_8 rfl hp.out.1 (by rw [hp.out.2]; decide) ?_
    refine X_goto (tgt := 15) hO dL_entries_9 rfl ?_
    refine X_iconst 16 hO dL_entries_15 rfl ?_
    exact X_iretW hO hF rfl (Or.inl rfl) dL_entries_16 ⟨0, _, _, _, rfl, by decide, hp, rfl, fun _ => rfl⟩
  · obtain ⟨rfl, r, hq⟩ := hx
    refine X_catch hO hF [] _ _ rfl (fun z hz => by cases hz) (by decide) (by decide) w_1147 (by decide +kernel) (fun q => ?_)
    refine X_astore_nR 13 hO dL_entries_12 rfl rfl ?_
    refine X_iconst 14 hO dL_entries_13 rfl ?_
    exact X_iretW hO hF rfl (Or.inl rfl) dL_entries_14 ⟨1, _, _, w_ 4 o 0, rfl, by decide, hq, up_self.symm, fun h => absurd h (by decide)⟩
theorem dL_entryLength_0 : decode cL_entryLength 0 = .ok (.aload_n 3, 1) := by decide +kernel
theorem dL_entryLength_1 : decode cL_entryLength 1 = .ok (.iconst 0, 1) := by decide +kernel
theorem dL_entryLength_2 : decode cL_entryLength 2 = .ok (.aload_n 0, 1) := by decide +kernel
theorem dL_entryLength_3 : decode cL_entryLength 3 = .ok (.iload_n 1, 1) := by decide +kernel
theorem dL_entryLength_4 : decode cL_entryLength 4 = .ok (.iload_n 2, 1) := by decide +kernel
theorem dL_entryLength_5 : decode cL_entryLength 5 = .ok (.invokevirtual 157, 3) := by decide +kernel
theorem dL_entryLength_8 : decode cL_entryLength 8 = .ok (.i2l, 1) := by decide +kernel
theorem dL_entryLength_9 : decode cL_entryLength 9 = .ok (.lastore, 1) := by decide +kernel
theorem dL_entryLength_10 : decode cL_entryLength 10 = .ok (.goto 7, 3) := by decide +kernel
theorem dL_entryLength_13 : decode cL_entryLength 13 = .ok (.astore 4, 2) := by decide +kernel
theorem dL_entryLength_15 : decode cL_entryLength 15 = .ok (.iconst 1, 1) := by decide +kernel
theorem dL_entryLength_16 : decode cL_entryLength 16 = .ok (.ireturn, 1) := by decide +kernel
theorem dL_entryLength_17 : decode cL_entryLength 17 = .ok (.iconst 0, 1) := by decide +kernel
theorem dL_entryLength_18 : decode cL_entryLength 18 = .ok (.ireturn, 1) := by decide +kernel
theorem L_entryLength {γ : LC} {μ : MU} {w A : Mm} {f o n c k : Int} (hI : LIn μ f (56 * n) (600 * n) (1 + n) w A) (hR : RM w μ) (hT : OUT o w) (hn : 0 ≤ n ∧ n ≤ 511) (hc_ : IR c) (hk_ : IR k) : MXW γ 9 mL_entryLength hL_entryLength [rv f, .int (I c), .int (I k), rv o] w 2 12 (QW γ μ f o n mX13_entryLength [.int (I c), .int (I k)]) := by
  refine MXW_of (own := RL) rfl rfl (by simp [rv_cat, int_cat]) rfl ?_
  rintro κ hO hF rfl
  have hD := hF.dp
  show X κ 2 12 w 0 [some (rv f), some (.int (I c)), some (.int (I k)), some (rv o), none] []
  refine X_wi (fun hW => ?_)
  refine X_aload_n 1 hO dL_entryLength_0 rfl rfl ?_
  refine X_iconst 2 hO dL_entryLength_1 rfl ?_
  refine X_aload_n 3 hO dL_entryLength_2 rfl rfl ?_
  refine X_iload_n 4 hO dL_entryLength_3 rfl rfl ?_
  refine X_iload_n 5 hO dL_entryLength_4 rfl rfl ?_
  refine X_kVi (t := 13) 8 hO hD lL_157 rfl (by decide) [_, _] rfl dL_entryLength_5 rfl hI.t0 (lo_entryLength hI hR hT hn hW hc_ hk_) (by decide) (by simp [rv_cat, int_cat]) (Nat.le_refl _) (Nat.le_refl _) (fun r w_ hr hp => ?_) (fun E w_ hx => ?_)
  · refine X_i2l 9 hO dL_entryLength_8 rfl hr ?_
    refine X_last (z := o) (i := 0) 10 hO dL_entryLength_9 rfl hp.out.1 (by rw [hp.out.2]; decide) ?_
    refine X_goto (tgt := 17) hO dL_entryLength_10 rfl ?_
    refine X_iconst 18 hO dL_entryLength_17 rfl ?_
    exact X_iretW hO hF rfl (Or.inl rfl) dL_entryLength_18 ⟨0, _, _, _, rfl, by decide, hp, rfl, fun _ => rfl⟩
  · obtain ⟨rfl, r, hq⟩ := hx
    refine X_catch hO hF [] _ _ rfl (fun z hz => by cases hz) (by decide) (by decide) w_1147 (by decide +kernel) (fun q => ?_)
    refine X_astoreR 15 hO dL_entryLength_13 rfl rfl ?_
    refine X_iconst 16 hO dL_entryLength_15 rfl ?_
    exact X_iretW hO hF rfl (Or.inl rfl) dL_entryLength_16 ⟨1, _, _, w_ 4 o 0, rfl, by decide, hq, up_self.symm, fun h => absurd h (by decide)⟩
theorem dL_entryChar_0 : decode cL_entryChar 0 = .ok (.aload 4, 2) := by decide +kernel
theorem dL_entryChar_2 : decode cL_entryChar 2 = .ok (.iconst 0, 1) := by decide +kernel
theorem dL_entryChar_3 : decode cL_entryChar 3 = .ok (.aload_n 0, 1) := by decide +kernel
theorem dL_entryChar_4 : decode cL_entryChar 4 = .ok (.iload_n 1, 1) := by decide +kernel
theorem dL_entryChar_5 : decode cL_entryChar 5 = .ok (.iload_n 2, 1) := by decide +kernel
theorem dL_entryChar_6 : decode cL_entryChar 6 = .ok (.iload_n 3, 1) := by decide +kernel
theorem dL_entryChar_7 : decode cL_entryChar 7 = .ok (.invokevirtual 160, 3) := by decide +kernel
theorem dL_entryChar_10 : decode cL_entryChar 10 = .ok (.i2l, 1) := by decide +kernel
theorem dL_entryChar_11 : decode cL_entryChar 11 = .ok (.lastore, 1) := by decide +kernel
theorem dL_entryChar_12 : decode cL_entryChar 12 = .ok (.goto 7, 3) := by decide +kernel
theorem dL_entryChar_15 : decode cL_entryChar 15 = .ok (.astore 5, 2) := by decide +kernel
theorem dL_entryChar_17 : decode cL_entryChar 17 = .ok (.iconst 1, 1) := by decide +kernel
theorem dL_entryChar_18 : decode cL_entryChar 18 = .ok (.ireturn, 1) := by decide +kernel
theorem dL_entryChar_19 : decode cL_entryChar 19 = .ok (.iconst 0, 1) := by decide +kernel
theorem dL_entryChar_20 : decode cL_entryChar 20 = .ok (.ireturn, 1) := by decide +kernel
theorem L_entryChar {γ : LC} {μ : MU} {w A : Mm} {f o n c k b : Int} (hI : LIn μ f (56 * n) (600 * n) (1 + n) w A) (hR : RM w μ) (hT : OUT o w) (hn : 0 ≤ n ∧ n ≤ 511) (hc_ : IR c) (hk_ : IR k) (hb_ : IR b) : MXW γ 9 mL_entryChar hL_entryChar [rv f, .int (I c), .int (I k), .int (I b), rv o] w 3 18 (QW γ μ f o n mX13_entryChar [.int (I c), .int (I k), .int (I b)]) := by
  refine MXW_of (own := RL) rfl rfl (by simp [rv_cat, int_cat]) rfl ?_
  rintro κ hO hF rfl
  have hD := hF.dp
  show X κ 3 18 w 0 [some (rv f), some (.int (I c)), some (.int (I k)), some (.int (I b)), some (rv o), none] []
  refine X_wi (fun hW => ?_)
  refine X_aload 2 hO dL_entryChar_0 rfl rfl ?_
  refine X_iconst 3 hO dL_entryChar_2 rfl ?_
  refine X_aload_n 4 hO dL_entryChar_3 rfl rfl ?_
  refine X_iload_n 5 hO dL_entryChar_4 rfl rfl ?_
  refine X_iload_n 6 hO dL_entryChar_5 rfl rfl ?_
  refine X_iload_n 7 hO dL_entryChar_6 rfl rfl ?_
  refine X_kVi (t := 13) 10 hO hD lL_160 rfl (by decide) [_, _, _] rfl dL_entryChar_7 rfl hI.t0 (lo_entryChar hI hR hT hn hW hc_ hk_ hb_) (by decide) (by simp [rv_cat, int_cat]) (Nat.le_refl _) (Nat.le_refl _) (fun r w_ hr hp => ?_) (fun E w_ hx => ?_)
  · refine X_i2l 11 hO dL_entryChar_10 rfl hr ?_
    refine X_last (z := o) (i := 0) 12 hO dL_entryChar_11 rfl hp.out.1 (by rw [hp.out.2]; decide) ?_
    refine X_goto (tgt := 19) hO dL_entryChar_12 rfl ?_
    refine X_iconst 20 hO dL_entryChar_19 rfl ?_
    exact X_iretW hO hF rfl (Or.inl rfl) dL_entryChar_20 ⟨0, _, _, _, rfl, by decide, hp, rfl, fun _ => rfl⟩
  · obtain ⟨rfl, r, hq⟩ := hx
    refine X_catch hO hF [] _ _ rfl (fun z hz => by cases hz) (by decide) (by decide) w_1147 (by decide +kernel) (fun q => ?_)
    refine X_astoreR 17 hO dL_entryChar_15 rfl rfl ?_
    refine X_iconst 18 hO dL_entryChar_17 rfl ?_
    exact X_iretW hO hF rfl (Or.inl rfl) dL_entryChar_18 ⟨1, _, _, w_ 4 o 0, rfl, by decide, hq, up_self.symm, fun h => absurd h (by decide)⟩
theorem dL_commands_0 : decode cL_commands 0 = .ok (.aload_n 2, 1) := by decide +kernel
theorem dL_commands_1 : decode cL_commands 1 = .ok (.iconst 0, 1) := by decide +kernel
theorem dL_commands_2 : decode cL_commands 2 = .ok (.aload_n 0, 1) := by decide +kernel
theorem dL_commands_3 : decode cL_commands 3 = .ok (.iload_n 1, 1) := by decide +kernel
theorem dL_commands_4 : decode cL_commands 4 = .ok (.invokevirtual 164, 3) := by decide +kernel
theorem dL_commands_7 : decode cL_commands 7 = .ok (.i2l, 1) := by decide +kernel
theorem dL_commands_8 : decode cL_commands 8 = .ok (.lastore, 1) := by decide +kernel
theorem dL_commands_9 : decode cL_commands 9 = .ok (.goto 6, 3) := by decide +kernel
theorem dL_commands_12 : decode cL_commands 12 = .ok (.astore_n 3, 1) := by decide +kernel
theorem dL_commands_13 : decode cL_commands 13 = .ok (.iconst 1, 1) := by decide +kernel
theorem dL_commands_14 : decode cL_commands 14 = .ok (.ireturn, 1) := by decide +kernel
theorem dL_commands_15 : decode cL_commands 15 = .ok (.iconst 0, 1) := by decide +kernel
theorem dL_commands_16 : decode cL_commands 16 = .ok (.ireturn, 1) := by decide +kernel
theorem L_commands {γ : LC} {μ : MU} {w A : Mm} {f o n c : Int} (hI : LIn μ f (56 * n) (600 * n) (1 + n) w A) (hR : RM w μ) (hT : OUT o w) (hn : 0 ≤ n ∧ n ≤ 511) (hc_ : IR c) : MXW γ 8 mL_commands hL_commands [rv f, .int (I c), rv o] w 1 6 (QW γ μ f o n mX13_commands [.int (I c)]) := by
  refine MXW_of (own := RL) rfl rfl (by simp [rv_cat, int_cat]) rfl ?_
  rintro κ hO hF rfl
  have hD := hF.dp
  show X κ 1 6 w 0 [some (rv f), some (.int (I c)), some (rv o), none] []
  refine X_wi (fun hW => ?_)
  refine X_aload_n 1 hO dL_commands_0 rfl rfl ?_
  refine X_iconst 2 hO dL_commands_1 rfl ?_
  refine X_aload_n 3 hO dL_commands_2 rfl rfl ?_
  refine X_iload_n 4 hO dL_commands_3 rfl rfl ?_
  refine X_kVi (t := 13) 7 hO hD lL_164 rfl (by decide) [_] rfl dL_commands_4 rfl hI.t0 (lo_commands hI hR hT hn hW hc_) (by decide) (by simp [rv_cat, int_cat]) (Nat.le_refl _) (Nat.le_refl _) (fun r w_ hr hp => ?_) (fun E w_ hx => ?_)
  · refine X_i2l 8 hO dL_commands_7 rfl hr ?_
    refine X_last (z := o) (i := 0) 9 hO dL_commands_8 rfl hp.out.1 (by rw [hp.out.2]; decide) ?_
    refine X_goto (tgt := 15) hO dL_commands_9 rfl ?_
    refine X_iconst 16 hO dL_commands_15 rfl ?_
    exact X_iretW hO hF rfl (Or.inl rfl) dL_commands_16 ⟨0, _, _, _, rfl, by decide, hp, rfl, fun _ => rfl⟩
  · obtain ⟨rfl, r, hq⟩ := hx
    refine X_catch hO hF [] _ _ rfl (fun z hz => by cases hz) (by decide) (by decide) w_1147 (by decide +kernel) (fun q => ?_)
    refine X_astore_nR 13 hO dL_commands_12 rfl rfl ?_
    refine X_iconst 14 hO dL_commands_13 rfl ?_
    exact X_iretW hO hF rfl (Or.inl rfl) dL_commands_14 ⟨1, _, _, w_ 4 o 0, rfl, by decide, hq, up_self.symm, fun h => absurd h (by decide)⟩
theorem dL_listenerChain_0 : decode cL_listenerChain 0 = .ok (.aload_n 2, 1) := by decide +kernel
theorem dL_listenerChain_1 : decode cL_listenerChain 1 = .ok (.iconst 0, 1) := by decide +kernel
theorem dL_listenerChain_2 : decode cL_listenerChain 2 = .ok (.aload_n 0, 1) := by decide +kernel
theorem dL_listenerChain_3 : decode cL_listenerChain 3 = .ok (.iload_n 1, 1) := by decide +kernel
theorem dL_listenerChain_4 : decode cL_listenerChain 4 = .ok (.invokevirtual 167, 3) := by decide +kernel
theorem dL_listenerChain_7 : decode cL_listenerChain 7 = .ok (.i2l, 1) := by decide +kernel
theorem dL_listenerChain_8 : decode cL_listenerChain 8 = .ok (.lastore, 1) := by decide +kernel
theorem dL_listenerChain_9 : decode cL_listenerChain 9 = .ok (.goto 6, 3) := by decide +kernel
theorem dL_listenerChain_12 : decode cL_listenerChain 12 = .ok (.astore_n 3, 1) := by decide +kernel
theorem dL_listenerChain_13 : decode cL_listenerChain 13 = .ok (.iconst 1, 1) := by decide +kernel
theorem dL_listenerChain_14 : decode cL_listenerChain 14 = .ok (.ireturn, 1) := by decide +kernel
theorem dL_listenerChain_15 : decode cL_listenerChain 15 = .ok (.iconst 0, 1) := by decide +kernel
theorem dL_listenerChain_16 : decode cL_listenerChain 16 = .ok (.ireturn, 1) := by decide +kernel
theorem L_listenerChain {γ : LC} {μ : MU} {w A : Mm} {f o n c : Int} (hI : LIn μ f (56 * n) (600 * n) (1 + n) w A) (hR : RM w μ) (hT : OUT o w) (hn : 0 ≤ n ∧ n ≤ 511) (hc_ : IR c) : MXW γ 8 mL_listenerChain hL_listenerChain [rv f, .int (I c), rv o] w 1 6 (QW γ μ f o n mX13_listenerChain [.int (I c)]) := by
  refine MXW_of (own := RL) rfl rfl (by simp [rv_cat, int_cat]) rfl ?_
  rintro κ hO hF rfl
  have hD := hF.dp
  show X κ 1 6 w 0 [some (rv f), some (.int (I c)), some (rv o), none] []
  refine X_wi (fun hW => ?_)
  refine X_aload_n 1 hO dL_listenerChain_0 rfl rfl ?_
  refine X_iconst 2 hO dL_listenerChain_1 rfl ?_
  refine X_aload_n 3 hO dL_listenerChain_2 rfl rfl ?_
  refine X_iload_n 4 hO dL_listenerChain_3 rfl rfl ?_
  refine X_kVi (t := 13) 7 hO hD lL_167 rfl (by decide) [_] rfl dL_listenerChain_4 rfl hI.t0 (lo_listenerChain hI hR hT hn hW hc_) (by decide) (by simp [rv_cat, int_cat]) (Nat.le_refl _) (Nat.le_refl _) (fun r w_ hr hp => ?_) (fun E w_ hx => ?_)
  · refine X_i2l 8 hO dL_listenerChain_7 rfl hr ?_
    refine X_last (z := o) (i := 0) 9 hO dL_listenerChain_8 rfl hp.out.1 (by rw [hp.out.2]; decide) ?_
    refine X_goto (tgt := 15) hO dL_listenerChain_9 rfl ?_
    refine X_iconst 16 hO dL_listenerChain_15 rfl ?_
    exact X_iretW hO hF rfl (Or.inl rfl) dL_listenerChain_16 ⟨0, _, _, _, rfl, by decide, hp, rfl, fun _ => rfl⟩
  · obtain ⟨rfl, r, hq⟩ := hx
    refine X_catch hO hF [] _ _ rfl (fun z hz => by cases hz) (by decide) (by decide) w_1147 (by decide +kernel) (fun q => ?_)
    refine X_astore_nR 13 hO dL_listenerChain_12 rfl rfl ?_
    refine X_iconst 14 hO dL_listenerChain_13 rfl ?_
    exact X_iretW hO hF rfl (Or.inl rfl) dL_listenerChain_14 ⟨1, _, _, w_ 4 o 0, rfl, by decide, hq, up_self.symm, fun h => absurd h (by decide)⟩
