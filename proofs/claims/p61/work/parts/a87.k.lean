/-! the commands -/
def RES (μ : MU) (f : Int) (w w' B : Mm) : Prop := ∃ p', CHB p' μ f (lvL p' μ B) w' B ∧ UPG f w w'
section RSS
variable {p : RP} {w w' A : Mm} {μ : MU} {f S P M v : Int}
theorem CHB.o9 (h : CHB p μ f (lvL p μ A) w A) (hR : RB μ S P M A) (hM : M ≤ 598) : CHB p μ f (lvL p μ (up A 139 μ.1 0 v)) w (up A 139 μ.1 0 v) := h.o34 hR.2.1.2.2.2.1 (by omega) hR.2.1.2.2.1 (by decide)
theorem CHB.r9 (h : CHB p μ f (lvL p μ A) w A) (hR : RB μ S P M A) (hM : M ≤ 598) : RES μ f w w (up A 139 μ.1 0 v) := ⟨p, h.o9 hR hM, UPG.refl⟩
theorem RB.o9 (hR : RB μ S P M A) : RB μ S P M (up A 139 μ.1 0 v) := hR.fld (by decide)
end RSS
theorem dX12_overwrite_0 : decode cX12_overwrite 0 = .ok (.iload_n 1, 1) := by decide +kernel
theorem dX12_overwrite_1 : decode cX12_overwrite 1 = .ok (.invokestatic 69, 3) := by decide +kernel
theorem dX12_overwrite_4 : decode cX12_overwrite 4 = .ok (.aload_n 0, 1) := by decide +kernel
theorem dX12_overwrite_5 : decode cX12_overwrite 5 = .ok (.iconst 2, 1) := by decide +kernel
theorem dX12_overwrite_6 : decode cX12_overwrite 6 = .ok (.iload_n 1, 1) := by decide +kernel
theorem dX12_overwrite_7 : decode cX12_overwrite 7 = .ok (.iconst 0, 1) := by decide +kernel
theorem dX12_overwrite_8 : decode cX12_overwrite 8 = .ok (.invokevirtual 125, 3) := by decide +kernel
theorem dX12_overwrite_11 : decode cX12_overwrite 11 = .ok (.ireturn, 1) := by decide +kernel
set_option maxRecDepth 4000 in
theorem kX12_overwrite (γ : LC) (w : Mm) (f c : Int) (p : RP) (μ : MU) (A : Mm) (S P M : Int) (h : CHB p μ f (lvL p μ A) w A) (hRB : RB μ S P M A) (hS : S ≤ 28900) (hP : P ≤ 500000) (hM : M ≤ 598) (hb28 : ∀ j, 0 ≤ j → j < 3 → A 228 0 j = 0 ∨ A 228 0 j = 1) (hc : IR c) : KI γ 14 mX12_overwrite [rv f, .int (I c)] w (46) (3106) (fun r w' => r = (o_overwrite μ c A).1 ∧ (o_overwrite μ c A).2 139 μ.1 0 = 0 ∧ RES μ f w w' (o_overwrite μ c A).2) (fun E w' => ((E = "java/lang/IllegalArgumentException" ∧ (o_overwrite μ c A).2 139 μ.1 0 = 1) ∨ (E = "java/lang/IllegalStateException" ∧ (o_overwrite μ c A).2 139 μ.1 0 = 2)) ∧ RES μ f w w' (o_overwrite μ c A).2) := by
  refine MX_of rfl rfl (by simp [rv_cat, int_cat]) rfl ?_
  rintro κ hO hF rfl
  have hD := hF.dp
  show X κ (46) (3106) w 0 [some (rv f), some (.int (I c))] []
  have t0 := h.1.toF.1
  refine X_iload_n 1 hO dX12_overwrite_0 rfl rfl ?_
  refine X_kSv 4 hO hD lX12_69 [_] rfl dX12_overwrite_1 rfl (kX12_requireCharacter _ _ _ (by omega)) (by decide) (by simp [rv_cat, int_cat]) (by first | decide | exact Nat.zero_le _ | omega) (by first | decide | exact Nat.zero_le _ | omega) (fun w_1 hp_1 => ?_) (fun E w_ hx_ => (XE_out hO hF (by
  obtain ⟨x1, x2, x3⟩ := hx_
  have hn : ¬ (isC c) := by exact x2
  have eo : o_overwrite μ c A = (0, m_ti μ (isC c) A) := by unfold o_overwrite;  rw [if_neg hn]
  rw [eo, x3]
  exact ⟨Or.inl (⟨x1, by show up A 139 μ.1 0 (if isC c then 0 else 1) 139 μ.1 0 = 1; rw [up_s, if_neg hn]⟩), h.r9 hRB hM⟩)))
  obtain ⟨e1_1, e2_1⟩ := hp_1
  subst w_1
  have hc0 : isC c := by exact e1_1
  refine X_aload_n 5 hO dX12_overwrite_4 rfl rfl ?_
  refine X_iconst 6 hO dX12_overwrite_5 rfl ?_
  refine X_iload_n 7 hO dX12_overwrite_6 rfl rfl ?_
  refine X_iconst 8 hO dX12_overwrite_7 rfl ?_
  refine X_kVi (t := 13) 11 hO hD lX12_125 rfl (by decide) [_, _, _] rfl dX12_overwrite_8 rfl (by first | assumption | omega | (simp (disch := first | decide | assumption | omega) only [up_k, up_s, up_a, up_i, flA_k, flA_a, flA_n, cpA_k, cpA_a, newO_o, newA_o, newO_t, newA_t, newA_n, cpQ_k, cpQ_a] <;> first | assumption | omega)) (kX12_call _ _ _ 2 c 0 p μ (m_ti μ (isC c) A) S P M 2 (h.o9 hRB hM) hRB.o9 hS hP hM (fun j j0 j1 => by show up A 139 μ.1 0 _ 228 0 j = 0 ∨ up A 139 μ.1 0 _ 228 0 j = 1; rw [up_k _ (by decide)]; exact hb28 j j0 j1) (by decide) (by unfold IR at *; omega) (by unfold IR at *; omega) (by unfold CV; omega)) (by decide) (by simp [rv_cat, int_cat]) (by first | decide | exact Nat.zero_le _ | omega) (by first | decide | exact Nat.zero_le _ | omega) (fun r_8 w_8 hr_8 hp_8 => ?_) (fun E w_ hx_ => (XE_out hO hF (by
  obtain ⟨x1, x2, p9, x3, x4⟩ := hx_
  have eo : o_overwrite μ c A = m_cal μ (2 - 1) c 0 2 (m_ti μ (isC c) A) := by unfold o_overwrite; rw [if_pos hc0]; rfl
  rw [eo]
  exact ⟨Or.inr (⟨x1, x2⟩), p9, x3, x4⟩)))
  obtain ⟨f1, f2, p9, f3, f4⟩ := hp_8
  exact X_iret hO hF rfl (by first | exact Or.inl rfl | exact Or.inr ⟨rfl, bi_01 _⟩ | exact Or.inr ⟨rfl, by omega⟩) dX12_overwrite_11 ⟨_, rfl, (by omega), (by
  have eo : o_overwrite μ c A = m_cal μ (2 - 1) c 0 2 (m_ti μ (isC c) A) := by unfold o_overwrite; rw [if_pos hc0]; rfl
  rw [eo]
  exact ⟨f1, f2, p9, f3, f4⟩)⟩
theorem dX12_delete_0 : decode cX12_delete 0 = .ok (.iload_n 1, 1) := by decide +kernel
theorem dX12_delete_1 : decode cX12_delete 1 = .ok (.iconst 1, 1) := by decide +kernel
theorem dX12_delete_2 : decode cX12_delete 2 = .ok (.bipush 20, 2) := by decide +kernel
theorem dX12_delete_4 : decode cX12_delete 4 = .ok (.invokestatic 129, 3) := by decide +kernel
theorem dX12_delete_7 : decode cX12_delete 7 = .ok (.aload_n 0, 1) := by decide +kernel
theorem dX12_delete_8 : decode cX12_delete 8 = .ok (.iconst 3, 1) := by decide +kernel
theorem dX12_delete_9 : decode cX12_delete 9 = .ok (.iload_n 1, 1) := by decide +kernel
theorem dX12_delete_10 : decode cX12_delete 10 = .ok (.iconst 0, 1) := by decide +kernel
theorem dX12_delete_11 : decode cX12_delete 11 = .ok (.invokevirtual 125, 3) := by decide +kernel
theorem dX12_delete_14 : decode cX12_delete 14 = .ok (.ireturn, 1) := by decide +kernel
set_option maxRecDepth 4000 in
theorem kX12_delete (γ : LC) (w : Mm) (f c : Int) (p : RP) (μ : MU) (A : Mm) (S P M : Int) (h : CHB p μ f (lvL p μ A) w A) (hRB : RB μ S P M A) (hS : S ≤ 28900) (hP : P ≤ 500000) (hM : M ≤ 598) (hb28 : ∀ j, 0 ≤ j → j < 3 → A 228 0 j = 0 ∨ A 228 0 j = 1) (hc : IR c) : KI γ 14 mX12_delete [rv f, .int (I c)] w (46) (3106) (fun r w' => r = (o_delete μ c A).1 ∧ (o_delete μ c A).2 139 μ.1 0 = 0 ∧ RES μ f w w' (o_delete μ c A).2) (fun E w' => ((E = "java/lang/IllegalArgumentException" ∧ (o_delete μ c A).2 139 μ.1 0 = 1) ∨ (E = "java/lang/IllegalStateException" ∧ (o_delete μ c A).2 139 μ.1 0 = 2)) ∧ RES μ f w w' (o_delete μ c A).2) := by
  refine MX_of rfl rfl (by simp [rv_cat, int_cat]) rfl ?_
  rintro κ hO hF rfl
  have hD := hF.dp
  show X κ (46) (3106) w 0 [some (rv f), some (.int (I c))] []
  have t0 := h.1.toF.1
  refine X_iload_n 1 hO dX12_delete_0 rfl rfl ?_
  refine X_iconst 2 hO dX12_delete_1 rfl ?_
  refine X_bipush 4 hO dX12_delete_2 rfl (by decide) ?_
  refine X_kSv 7 hO hD lX12_129 [_, _, _] rfl dX12_delete_4 rfl (kX12_requireRange _ _ _ _ _ (by omega) (by omega) (by omega)) (by decide) (by simp [rv_cat, int_cat]) (by first | decide | exact Nat.zero_le _ | omega) (by first | decide | exact Nat.zero_le _ | omega) (fun w_4 hp_4 => ?_) (fun E w_ hx_ => (XE_out hO hF (by
  obtain ⟨x1, x2, x3⟩ := hx_
  have hn : ¬ (1 ≤ c ∧ c ≤ 20) := by omega
  have eo : o_delete μ c A = (0, m_ti μ (1 ≤ c ∧ c ≤ 20) A) := by unfold o_delete;  rw [if_neg hn]
  rw [eo, x3]
  exact ⟨Or.inl (⟨x1, by show up A 139 μ.1 0 (if 1 ≤ c ∧ c ≤ 20 then 0 else 1) 139 μ.1 0 = 1; rw [up_s, if_neg hn]⟩), h.r9 hRB hM⟩)))
  obtain ⟨e1_4, e2_4⟩ := hp_4
  subst w_4
  have hc0 : 1 ≤ c ∧ c ≤ 20 := by omega
  refine X_aload_n 8 hO dX12_delete_7 rfl rfl ?_
  refine X_iconst 9 hO dX12_delete_8 rfl ?_
  refine X_iload_n 10 hO dX12_delete_9 rfl rfl ?_
  refine X_iconst 11 hO dX12_delete_10 rfl ?_
  refine X_kVi (t := 13) 14 hO hD lX12_125 rfl (by decide) [_, _, _] rfl dX12_delete_11 rfl (by first | assumption | omega | (simp (disch := first | decide | assumption | omega) only [up_k, up_s, up_a, up_i, flA_k, flA_a, flA_n, cpA_k, cpA_a, newO_o, newA_o, newO_t, newA_t, newA_n, cpQ_k, cpQ_a] <;> first | assumption | omega)) (kX12_call _ _ _ 3 c 0 p μ (m_ti μ (1 ≤ c ∧ c ≤ 20) A) S P M 2 (h.o9 hRB hM) hRB.o9 hS hP hM (fun j j0 j1 => by show up A 139 μ.1 0 _ 228 0 j = 0 ∨ up A 139 μ.1 0 _ 228 0 j = 1; rw [up_k _ (by decide)]; exact hb28 j j0 j1) (by decide) (by unfold IR at *; omega) (by unfold IR at *; omega) (by unfold CV; omega)) (by decide) (by simp [rv_cat, int_cat]) (by first | decide | exact Nat.zero_le _ | omega) (by first | decide | exact Nat.zero_le _ | omega) (fun r_11 w_11 hr_11 hp_11 => ?_) (fun E w_ hx_ => (XE_out hO hF (by
  obtain ⟨x1, x2, p9, x3, x4⟩ := hx_
  have eo : o_delete μ c A = m_cal μ (3 - 1) c 0 2 (m_ti μ (1 ≤ c ∧ c ≤ 20) A) := by unfold o_delete; rw [if_pos hc0]; rfl
  rw [eo]
  exact ⟨Or.inr (⟨x1, x2⟩), p9, x3, x4⟩)))
  obtain ⟨f1, f2, p9, f3, f4⟩ := hp_11
  exact X_iret hO hF rfl (by first | exact Or.inl rfl | exact Or.inr ⟨rfl, bi_01 _⟩ | exact Or.inr ⟨rfl, by omega⟩) dX12_delete_14 ⟨_, rfl, (by omega), (by
  have eo : o_delete μ c A = m_cal μ (3 - 1) c 0 2 (m_ti μ (1 ≤ c ∧ c ≤ 20) A) := by unfold o_delete; rw [if_pos hc0]; rfl
  rw [eo]
  exact ⟨f1, f2, p9, f3, f4⟩)⟩
theorem dX12_move_0 : decode cX12_move 0 = .ok (.iload_n 1, 1) := by decide +kernel
theorem dX12_move_1 : decode cX12_move 1 = .ok (.bipush (-50), 2) := by decide +kernel
theorem dX12_move_3 : decode cX12_move 3 = .ok (.bipush 50, 2) := by decide +kernel
theorem dX12_move_5 : decode cX12_move 5 = .ok (.invokestatic 129, 3) := by decide +kernel
theorem dX12_move_8 : decode cX12_move 8 = .ok (.aload_n 0, 1) := by decide +kernel
theorem dX12_move_9 : decode cX12_move 9 = .ok (.iconst 4, 1) := by decide +kernel
theorem dX12_move_10 : decode cX12_move 10 = .ok (.iload_n 1, 1) := by decide +kernel
theorem dX12_move_11 : decode cX12_move 11 = .ok (.iconst 0, 1) := by decide +kernel
theorem dX12_move_12 : decode cX12_move 12 = .ok (.invokevirtual 125, 3) := by decide +kernel
theorem dX12_move_15 : decode cX12_move 15 = .ok (.ireturn, 1) := by decide +kernel
set_option maxRecDepth 4000 in
theorem kX12_move (γ : LC) (w : Mm) (f c : Int) (p : RP) (μ : MU) (A : Mm) (S P M : Int) (h : CHB p μ f (lvL p μ A) w A) (hRB : RB μ S P M A) (hS : S ≤ 28900) (hP : P ≤ 500000) (hM : M ≤ 598) (hb28 : ∀ j, 0 ≤ j → j < 3 → A 228 0 j = 0 ∨ A 228 0 j = 1) (hc : IR c) : KI γ 14 mX12_move [rv f, .int (I c)] w (46) (3106) (fun r w' => r = (o_move μ c A).1 ∧ (o_move μ c A).2 139 μ.1 0 = 0 ∧ RES μ f w w' (o_move μ c A).2) (fun E w' => ((E = "java/lang/IllegalArgumentException" ∧ (o_move μ c A).2 139 μ.1 0 = 1) ∨ (E = "java/lang/IllegalStateException" ∧ (o_move μ c A).2 139 μ.1 0 = 2)) ∧ RES μ f w w' (o_move μ c A).2) := by
  refine MX_of rfl rfl (by simp [rv_cat, int_cat]) rfl ?_
  rintro κ hO hF rfl
  have hD := hF.dp
  show X κ (46) (3106) w 0 [some (rv f), some (.int (I c))] []
  have t0 := h.1.toF.1
  refine X_iload_n 1 hO dX12_move_0 rfl rfl ?_
  refine X_bipush 3 hO dX12_move_1 rfl (by decide) ?_
  refine X_bipush 5 hO dX12_move_3 rfl (by decide) ?_
  refine X_kSv 8 hO hD lX12_129 [_, _, _] rfl dX12_move_5 rfl (kX12_requireRange _ _ _ _ _ (by omega) (by omega) (by omega)) (by decide) (by simp [rv_cat, int_cat]) (by first | decide | exact Nat.zero_le _ | omega) (by first | decide | exact Nat.zero_le _ | omega) (fun w_5 hp_5 => ?_) (fun E w_ hx_ => (XE_out hO hF (by
  obtain ⟨x1, x2, x3⟩ := hx_
  have hn : ¬ (-50 ≤ c ∧ c ≤ 50) := by omega
  have eo : o_move μ c A = (0, m_ti μ (-50 ≤ c ∧ c ≤ 50) A) := by unfold o_move;  rw [if_neg hn]
  rw [eo, x3]
  exact ⟨Or.inl (⟨x1, by show up A 139 μ.1 0 (if -50 ≤ c ∧ c ≤ 50 then 0 else 1) 139 μ.1 0 = 1; rw [up_s, if_neg hn]⟩), h.r9 hRB hM⟩)))
  obtain ⟨e1_5, e2_5⟩ := hp_5
  subst w_5
  have hc0 : -50 ≤ c ∧ c ≤ 50 := by omega
  refine X_aload_n 9 hO dX12_move_8 rfl rfl ?_
  refine X_iconst 10 hO dX12_move_9 rfl ?_
  refine X_iload_n 11 hO dX12_move_10 rfl rfl ?_
  refine X_iconst 12 hO dX12_move_11 rfl ?_
  refine X_kVi (t := 13) 15 hO hD lX12_125 rfl (by decide) [_, _, _] rfl dX12_move_12 rfl (by first | assumption | omega | (simp (disch := first | decide | assumption | omega) only [up_k, up_s, up_a, up_i, flA_k, flA_a, flA_n, cpA_k, cpA_a, newO_o, newA_o, newO_t, newA_t, newA_n, cpQ_k, cpQ_a] <;> first | assumption | omega)) (kX12_call _ _ _ 4 c 0 p μ (m_ti μ (-50 ≤ c ∧ c ≤ 50) A) S P M 2 (h.o9 hRB hM) hRB.o9 hS hP hM (fun j j0 j1 => by show up A 139 μ.1 0 _ 228 0 j = 0 ∨ up A 139 μ.1 0 _ 228 0 j = 1; rw [up_k _ (by decide)]; exact hb28 j j0 j1) (by decide) (by unfold IR at *; omega) (by unfold IR at *; omega) (by unfold CV; omega)) (by decide) (by simp [rv_cat, int_cat]) (by first | decide | exact Nat.zero_le _ | omega) (by first | decide | exact Nat.zero_le _ | omega) (fun r_12 w_12 hr_12 hp_12 => ?_) (fun E w_ hx_ => (XE_out hO hF (by
  obtain ⟨x1, x2, p9, x3, x4⟩ := hx_
  have eo : o_move μ c A = m_cal μ (4 - 1) c 0 2 (m_ti μ (-50 ≤ c ∧ c ≤ 50) A) := by unfold o_move; rw [if_pos hc0]; rfl
  rw [eo]
  exact ⟨Or.inr (⟨x1, x2⟩), p9, x3, x4⟩)))
  obtain ⟨f1, f2, p9, f3, f4⟩ := hp_12
  exact X_iret hO hF rfl (by first | exact Or.inl rfl | exact Or.inr ⟨rfl, bi_01 _⟩ | exact Or.inr ⟨rfl, by omega⟩) dX12_move_15 ⟨_, rfl, (by omega), (by
  have eo : o_move μ c A = m_cal μ (4 - 1) c 0 2 (m_ti μ (-50 ≤ c ∧ c ≤ 50) A) := by unfold o_move; rw [if_pos hc0]; rfl
  rw [eo]
  exact ⟨f1, f2, p9, f3, f4⟩)⟩
theorem dX12_search_0 : decode cX12_search 0 = .ok (.iload_n 1, 1) := by decide +kernel
theorem dX12_search_1 : decode cX12_search 1 = .ok (.invokestatic 69, 3) := by decide +kernel
theorem dX12_search_4 : decode cX12_search 4 = .ok (.aload_n 0, 1) := by decide +kernel
theorem dX12_search_5 : decode cX12_search 5 = .ok (.iconst 5, 1) := by decide +kernel
theorem dX12_search_6 : decode cX12_search 6 = .ok (.iload_n 1, 1) := by decide +kernel
theorem dX12_search_7 : decode cX12_search 7 = .ok (.iconst 0, 1) := by decide +kernel
theorem dX12_search_8 : decode cX12_search 8 = .ok (.invokevirtual 125, 3) := by decide +kernel
theorem dX12_search_11 : decode cX12_search 11 = .ok (.ireturn, 1) := by decide +kernel
set_option maxRecDepth 4000 in
theorem kX12_search (γ : LC) (w : Mm) (f c : Int) (p : RP) (μ : MU) (A : Mm) (S P M : Int) (h : CHB p μ f (lvL p μ A) w A) (hRB : RB μ S P M A) (hS : S ≤ 28900) (hP : P ≤ 500000) (hM : M ≤ 598) (hb28 : ∀ j, 0 ≤ j → j < 3 → A 228 0 j = 0 ∨ A 228 0 j = 1) (hc : IR c) : KI γ 14 mX12_search [rv f, .int (I c)] w (46) (3106) (fun r w' => r = (o_search μ c A).1 ∧ (o_search μ c A).2 139 μ.1 0 = 0 ∧ RES μ f w w' (o_search μ c A).2) (fun E w' => ((E = "java/lang/IllegalArgumentException" ∧ (o_search μ c A).2 139 μ.1 0 = 1) ∨ (E = "java/lang/IllegalStateException" ∧ (o_search μ c A).2 139 μ.1 0 = 2)) ∧ RES μ f w w' (o_search μ c A).2) := by
  refine MX_of rfl rfl (by simp [rv_cat, int_cat]) rfl ?_
  rintro κ hO hF rfl
  have hD := hF.dp
  show X κ (46) (3106) w 0 [some (rv f), some (.int (I c))] []
  have t0 := h.1.toF.1
  refine X_iload_n 1 hO dX12_search_0 rfl rfl ?_
  refine X_kSv 4 hO hD lX12_69 [_] rfl dX12_search_1 rfl (kX12_requireCharacter _ _ _ (by omega)) (by decide) (by simp [rv_cat, int_cat]) (by first | decide | exact Nat.zero_le _ | omega) (by first | decide | exact Nat.zero_le _ | omega) (fun w_1 hp_1 => ?_) (fun E w_ hx_ => (XE_out hO hF (by
  obtain ⟨x1, x2, x3⟩ := hx_
  have hn : ¬ (isC c) := by exact x2
  have eo : o_search μ c A = (0, m_ti μ (isC c) A) := by unfold o_search;  rw [if_neg hn]
  rw [eo, x3]
  exact ⟨Or.inl (⟨x1, by show up A 139 μ.1 0 (if isC c then 0 else 1) 139 μ.1 0 = 1; rw [up_s, if_neg hn]⟩), h.r9 hRB hM⟩)))
  obtain ⟨e1_1, e2_1⟩ := hp_1
  subst w_1
  have hc0 : isC c := by exact e1_1
  refine X_aload_n 5 hO dX12_search_4 rfl rfl ?_
  refine X_iconst 6 hO dX12_search_5 rfl ?_
  refine X_iload_n 7 hO dX12_search_6 rfl rfl ?_
  refine X_iconst 8 hO dX12_search_7 rfl ?_
  refine X_kVi (t := 13) 11 hO hD lX12_125 rfl (by decide) [_, _, _] rfl dX12_search_8 rfl (by first | assumption | omega | (simp (disch := first | decide | assumption | omega) only [up_k, up_s, up_a, up_i, flA_k, flA_a, flA_n, cpA_k, cpA_a, newO_o, newA_o, newO_t, newA_t, newA_n, cpQ_k, cpQ_a] <;> first | assumption | omega)) (kX12_call _ _ _ 5 c 0 p μ (m_ti μ (isC c) A) S P M 2 (h.o9 hRB hM) hRB.o9 hS hP hM (fun j j0 j1 => by show up A 139 μ.1 0 _ 228 0 j = 0 ∨ up A 139 μ.1 0 _ 228 0 j = 1; rw [up_k _ (by decide)]; exact hb28 j j0 j1) (by decide) (by unfold IR at *; omega) (by unfold IR at *; omega) (by unfold CV; omega)) (by decide) (by simp [rv_cat, int_cat]) (by first | decide | exact Nat.zero_le _ | omega) (by first | decide | exact Nat.zero_le _ | omega) (fun r_8 w_8 hr_8 hp_8 => ?_) (fun E w_ hx_ => (XE_out hO hF (by
  obtain ⟨x1, x2, p9, x3, x4⟩ := hx_
  have eo : o_search μ c A = m_cal μ (5 - 1) c 0 2 (m_ti μ (isC c) A) := by unfold o_search; rw [if_pos hc0]; rfl
  rw [eo]
  exact ⟨Or.inr (⟨x1, x2⟩), p9, x3, x4⟩)))
  obtain ⟨f1, f2, p9, f3, f4⟩ := hp_8
  exact X_iret hO hF rfl (by first | exact Or.inl rfl | exact Or.inr ⟨rfl, bi_01 _⟩ | exact Or.inr ⟨rfl, by omega⟩) dX12_search_11 ⟨_, rfl, (by omega), (by
  have eo : o_search μ c A = m_cal μ (5 - 1) c 0 2 (m_ti μ (isC c) A) := by unfold o_search; rw [if_pos hc0]; rfl
  rw [eo]
  exact ⟨f1, f2, p9, f3, f4⟩)⟩
theorem dX12_kill_0 : decode cX12_kill 0 = .ok (.iload_n 1, 1) := by decide +kernel
theorem dX12_kill_1 : decode cX12_kill 1 = .ok (.iconst 1, 1) := by decide +kernel
theorem dX12_kill_2 : decode cX12_kill 2 = .ok (.bipush 20, 2) := by decide +kernel
theorem dX12_kill_4 : decode cX12_kill 4 = .ok (.invokestatic 129, 3) := by decide +kernel
theorem dX12_kill_7 : decode cX12_kill 7 = .ok (.aload_n 0, 1) := by decide +kernel
theorem dX12_kill_8 : decode cX12_kill 8 = .ok (.bipush 6, 2) := by decide +kernel
theorem dX12_kill_10 : decode cX12_kill 10 = .ok (.iload_n 1, 1) := by decide +kernel
theorem dX12_kill_11 : decode cX12_kill 11 = .ok (.iconst 0, 1) := by decide +kernel
theorem dX12_kill_12 : decode cX12_kill 12 = .ok (.invokevirtual 125, 3) := by decide +kernel
theorem dX12_kill_15 : decode cX12_kill 15 = .ok (.ireturn, 1) := by decide +kernel
set_option maxRecDepth 4000 in
theorem kX12_kill (γ : LC) (w : Mm) (f c : Int) (p : RP) (μ : MU) (A : Mm) (S P M : Int) (h : CHB p μ f (lvL p μ A) w A) (hRB : RB μ S P M A) (hS : S ≤ 28900) (hP : P ≤ 500000) (hM : M ≤ 598) (hb28 : ∀ j, 0 ≤ j → j < 3 → A 228 0 j = 0 ∨ A 228 0 j = 1) (hc : IR c) : KI γ 14 mX12_kill [rv f, .int (I c)] w (46) (3106) (fun r w' => r = (o_kill μ c A).1 ∧ (o_kill μ c A).2 139 μ.1 0 = 0 ∧ RES μ f w w' (o_kill μ c A).2) (fun E w' => ((E = "java/lang/IllegalArgumentException" ∧ (o_kill μ c A).2 139 μ.1 0 = 1) ∨ (E = "java/lang/IllegalStateException" ∧ (o_kill μ c A).2 139 μ.1 0 = 2)) ∧ RES μ f w w' (o_kill μ c A).2) := by
  refine MX_of rfl rfl (by simp [rv_cat, int_cat]) rfl ?_
  rintro κ hO hF rfl
  have hD := hF.dp
  show X κ (46) (3106) w 0 [some (rv f), some (.int (I c))] []
  have t0 := h.1.toF.1
  refine X_iload_n 1 hO dX12_kill_0 rfl rfl ?_
  refine X_iconst 2 hO dX12_kill_1 rfl ?_
  refine X_bipush 4 hO dX12_kill_2 rfl (by decide) ?_
  refine X_kSv 7 hO hD lX12_129 [_, _, _] rfl dX12_kill_4 rfl (kX12_requireRange _ _ _ _ _ (by omega) (by omega) (by omega)) (by decide) (by simp [rv_cat, int_cat]) (by first | decide | exact Nat.zero_le _ | omega) (by first | decide | exact Nat.zero_le _ | omega) (fun w_4 hp_4 => ?_) (fun E w_ hx_ => (XE_out hO hF (by
  obtain ⟨x1, x2, x3⟩ := hx_
  have hn : ¬ (1 ≤ c ∧ c ≤ 20) := by omega
  have eo : o_kill μ c A = (0, m_ti μ (1 ≤ c ∧ c ≤ 20) A) := by unfold o_kill;  rw [if_neg hn]
  rw [eo, x3]
  exact ⟨Or.inl (⟨x1, by show up A 139 μ.1 0 (if 1 ≤ c ∧ c ≤ 20 then 0 else 1) 139 μ.1 0 = 1; rw [up_s, if_neg hn]⟩), h.r9 hRB hM⟩)))
  obtain ⟨e1_4, e2_4⟩ := hp_4
  subst w_4
  have hc0 : 1 ≤ c ∧ c ≤ 20 := by omega
  refine X_aload_n 8 hO dX12_kill_7 rfl rfl ?_
  refine X_bipush 10 hO dX12_kill_8 rfl (by decide) ?_
  refine X_iload_n 11 hO dX12_kill_10 rfl rfl ?_
  refine X_iconst 12 hO dX12_kill_11 rfl ?_
  refine X_kVi (t := 13) 15 hO hD lX12_125 rfl (by decide) [_, _, _] rfl dX12_kill_12 rfl (by first | assumption | omega | (simp (disch := first | decide | assumption | omega) only [up_k, up_s, up_a, up_i, flA_k, flA_a, flA_n, cpA_k, cpA_a, newO_o, newA_o, newO_t, newA_t, newA_n, cpQ_k, cpQ_a] <;> first | assumption | omega)) (kX12_call _ _ _ 6 c 0 p μ (m_ti μ (1 ≤ c ∧ c ≤ 20) A) S P M 2 (h.o9 hRB hM) hRB.o9 hS hP hM (fun j j0 j1 => by show up A 139 μ.1 0 _ 228 0 j = 0 ∨ up A 139 μ.1 0 _ 228 0 j = 1; rw [up_k _ (by decide)]; exact hb28 j j0 j1) (by decide) (by unfold IR at *; omega) (by unfold IR at *; omega) (by unfold CV; omega)) (by decide) (by simp [rv_cat, int_cat]) (by first | decide | exact Nat.zero_le _ | omega) (by first | decide | exact Nat.zero_le _ | omega) (fun r_12 w_12 hr_12 hp_12 => ?_) (fun E w_ hx_ => (XE_out hO hF (by
  obtain ⟨x1, x2, p9, x3, x4⟩ := hx_
  have eo : o_kill μ c A = m_cal μ (6 - 1) c 0 2 (m_ti μ (1 ≤ c ∧ c ≤ 20) A) := by unfold o_kill; rw [if_pos hc0]; rfl
  rw [eo]
  exact ⟨Or.inr (⟨x1, x2⟩), p9, x3, x4⟩)))
  obtain ⟨f1, f2, p9, f3, f4⟩ := hp_12
  exact X_iret hO hF rfl (by first | exact Or.inl rfl | exact Or.inr ⟨rfl, bi_01 _⟩ | exact Or.inr ⟨rfl, by omega⟩) dX12_kill_15 ⟨_, rfl, (by omega), (by
  have eo : o_kill μ c A = m_cal μ (6 - 1) c 0 2 (m_ti μ (1 ≤ c ∧ c ≤ 20) A) := by unfold o_kill; rw [if_pos hc0]; rfl
  rw [eo]
  exact ⟨f1, f2, p9, f3, f4⟩)⟩
theorem dX12_yank_0 : decode cX12_yank 0 = .ok (.aload_n 0, 1) := by decide +kernel
theorem dX12_yank_1 : decode cX12_yank 1 = .ok (.bipush 7, 2) := by decide +kernel
theorem dX12_yank_3 : decode cX12_yank 3 = .ok (.iconst 0, 1) := by decide +kernel
theorem dX12_yank_4 : decode cX12_yank 4 = .ok (.iconst 0, 1) := by decide +kernel
theorem dX12_yank_5 : decode cX12_yank 5 = .ok (.invokevirtual 125, 3) := by decide +kernel
theorem dX12_yank_8 : decode cX12_yank 8 = .ok (.ireturn, 1) := by decide +kernel
set_option maxRecDepth 4000 in
theorem kX12_yank (γ : LC) (w : Mm) (f : Int) (p : RP) (μ : MU) (A : Mm) (S P M : Int) (h : CHB p μ f (lvL p μ A) w A) (hRB : RB μ S P M A) (hS : S ≤ 28900) (hP : P ≤ 500000) (hM : M ≤ 598) (hb28 : ∀ j, 0 ≤ j → j < 3 → A 228 0 j = 0 ∨ A 228 0 j = 1) : KI γ 14 mX12_yank [rv f] w (45) (3100) (fun r w' => r = (o_yank μ A).1 ∧ (o_yank μ A).2 139 μ.1 0 = 0 ∧ RES μ f w w' (o_yank μ A).2) (fun E w' => ((E = "java/lang/IllegalStateException" ∧ (o_yank μ A).2 139 μ.1 0 = 1)) ∧ RES μ f w w' (o_yank μ A).2) := by
  refine MX_of rfl rfl (by simp [rv_cat, int_cat]) rfl ?_
  rintro κ hO hF rfl
  have hD := hF.dp
  show X κ (45) (3100) w 0 [some (rv f)] []
  have t0 := h.1.toF.1
  refine X_aload_n 1 hO dX12_yank_0 rfl rfl ?_
  refine X_bipush 3 hO dX12_yank_1 rfl (by decide) ?_
  refine X_iconst 4 hO dX12_yank_3 rfl ?_
  refine X_iconst 5 hO dX12_yank_4 rfl ?_
  refine X_kVi (t := 13) 8 hO hD lX12_125 rfl (by decide) [_, _, _] rfl dX12_yank_5 rfl (by first | assumption | omega | (simp (disch := first | decide | assumption | omega) only [up_k, up_s, up_a, up_i, flA_k, flA_a, flA_n, cpA_k, cpA_a, newO_o, newA_o, newO_t, newA_t, newA_n, cpQ_k, cpQ_a] <;> first | assumption | omega)) (kX12_call _ _ _ 7 0 0 p μ A S P M 1 h hRB hS hP hM hb28 (by decide) (by unfold IR at *; omega) (by unfold IR at *; omega) (by unfold CV; omega)) (by decide) (by simp [rv_cat, int_cat]) (by first | decide | exact Nat.zero_le _ | omega) (by first | decide | exact Nat.zero_le _ | omega) (fun r_5 w_5 hr_5 hp_5 => ?_) (fun E w_ hx_ => (XE_out hO hF (by
  obtain ⟨x1, x2, p9, x3, x4⟩ := hx_
  have eo : o_yank μ A = m_cal μ (7 - 1) 0 0 1 A := by unfold o_yank;  rfl
  rw [eo]
  exact ⟨⟨x1, x2⟩, p9, x3, x4⟩)))
  obtain ⟨f1, f2, p9, f3, f4⟩ := hp_5
  exact X_iret hO hF rfl (by first | exact Or.inl rfl | exact Or.inr ⟨rfl, bi_01 _⟩ | exact Or.inr ⟨rfl, by omega⟩) dX12_yank_8 ⟨_, rfl, (by omega), (by
  have eo : o_yank μ A = m_cal μ (7 - 1) 0 0 1 A := by unfold o_yank;  rfl
  rw [eo]
  exact ⟨f1, f2, p9, f3, f4⟩)⟩
theorem dX12_rotate_0 : decode cX12_rotate 0 = .ok (.aload_n 0, 1) := by decide +kernel
theorem dX12_rotate_1 : decode cX12_rotate 1 = .ok (.bipush 8, 2) := by decide +kernel
theorem dX12_rotate_3 : decode cX12_rotate 3 = .ok (.iconst 0, 1) := by decide +kernel
theorem dX12_rotate_4 : decode cX12_rotate 4 = .ok (.iconst 0, 1) := by decide +kernel
theorem dX12_rotate_5 : decode cX12_rotate 5 = .ok (.invokevirtual 125, 3) := by decide +kernel
theorem dX12_rotate_8 : decode cX12_rotate 8 = .ok (.ireturn, 1) := by decide +kernel
set_option maxRecDepth 4000 in
theorem kX12_rotate (γ : LC) (w : Mm) (f : Int) (p : RP) (μ : MU) (A : Mm) (S P M : Int) (h : CHB p μ f (lvL p μ A) w A) (hRB : RB μ S P M A) (hS : S ≤ 28900) (hP : P ≤ 500000) (hM : M ≤ 598) (hb28 : ∀ j, 0 ≤ j → j < 3 → A 228 0 j = 0 ∨ A 228 0 j = 1) : KI γ 14 mX12_rotate [rv f] w (45) (3100) (fun r w' => r = (o_rotate μ A).1 ∧ (o_rotate μ A).2 139 μ.1 0 = 0 ∧ RES μ f w w' (o_rotate μ A).2) (fun E w' => ((E = "java/lang/IllegalStateException" ∧ (o_rotate μ A).2 139 μ.1 0 = 1)) ∧ RES μ f w w' (o_rotate μ A).2) := by
  refine MX_of rfl rfl (by simp [rv_cat, int_cat]) rfl ?_
  rintro κ hO hF rfl
  have hD := hF.dp
  show X κ (45) (3100) w 0 [some (rv f)] []
  have t0 := h.1.toF.1
  refine X_aload_n 1 hO dX12_rotate_0 rfl rfl ?_
  refine X_bipush 3 hO dX12_rotate_1 rfl (by decide) ?_
  refine X_iconst 4 hO dX12_rotate_3 rfl ?_
  refine X_iconst 5 hO dX12_rotate_4 rfl ?_
  refine X_kVi (t := 13) 8 hO hD lX12_125 rfl (by decide) [_, _, _] rfl dX12_rotate_5 rfl (by first | assumption | omega | (simp (disch := first | decide | assumption | omega) only [up_k, up_s, up_a, up_i, flA_k, flA_a, flA_n, cpA_k, cpA_a, newO_o, newA_o, newO_t, newA_t, newA_n, cpQ_k, cpQ_a] <;> first | assumption | omega)) (kX12_call _ _ _ 8 0 0 p μ A S P M 1 h hRB hS hP hM hb28 (by decide) (by unfold IR at *; omega) (by unfold IR at *; omega) (by unfold CV; omega)) (by decide) (by simp [rv_cat, int_cat]) (by first | decide | exact Nat.zero_le _ | omega) (by first | decide | exact Nat.zero_le _ | omega) (fun r_5 w_5 hr_5 hp_5 => ?_) (fun E w_ hx_ => (XE_out hO hF (by
  obtain ⟨x1, x2, p9, x3, x4⟩ := hx_
  have eo : o_rotate μ A = m_cal μ (8 - 1) 0 0 1 A := by unfold o_rotate;  rfl
  rw [eo]
  exact ⟨⟨x1, x2⟩, p9, x3, x4⟩)))
  obtain ⟨f1, f2, p9, f3, f4⟩ := hp_5
  exact X_iret hO hF rfl (by first | exact Or.inl rfl | exact Or.inr ⟨rfl, bi_01 _⟩ | exact Or.inr ⟨rfl, by omega⟩) dX12_rotate_8 ⟨_, rfl, (by omega), (by
  have eo : o_rotate μ A = m_cal μ (8 - 1) 0 0 1 A := by unfold o_rotate;  rfl
  rw [eo]
  exact ⟨f1, f2, p9, f3, f4⟩)⟩
theorem dX12_copy_0 : decode cX12_copy 0 = .ok (.iload_n 1, 1) := by decide +kernel
theorem dX12_copy_1 : decode cX12_copy 1 = .ok (.iconst 4, 1) := by decide +kernel
theorem dX12_copy_2 : decode cX12_copy 2 = .ok (.invokestatic 132, 3) := by decide +kernel
theorem dX12_copy_5 : decode cX12_copy 5 = .ok (.iload_n 2, 1) := by decide +kernel
theorem dX12_copy_6 : decode cX12_copy 6 = .ok (.iconst 1, 1) := by decide +kernel
theorem dX12_copy_7 : decode cX12_copy 7 = .ok (.bipush 20, 2) := by decide +kernel
theorem dX12_copy_9 : decode cX12_copy 9 = .ok (.invokestatic 129, 3) := by decide +kernel
theorem dX12_copy_12 : decode cX12_copy 12 = .ok (.aload_n 0, 1) := by decide +kernel
theorem dX12_copy_13 : decode cX12_copy 13 = .ok (.bipush 9, 2) := by decide +kernel
theorem dX12_copy_15 : decode cX12_copy 15 = .ok (.iload_n 1, 1) := by decide +kernel
theorem dX12_copy_16 : decode cX12_copy 16 = .ok (.iload_n 2, 1) := by decide +kernel
theorem dX12_copy_17 : decode cX12_copy 17 = .ok (.invokevirtual 125, 3) := by decide +kernel
theorem dX12_copy_20 : decode cX12_copy 20 = .ok (.ireturn, 1) := by decide +kernel
set_option maxRecDepth 4000 in
theorem kX12_copy (γ : LC) (w : Mm) (f c k : Int) (p : RP) (μ : MU) (A : Mm) (S P M : Int) (h : CHB p μ f (lvL p μ A) w A) (hRB : RB μ S P M A) (hS : S ≤ 28900) (hP : P ≤ 500000) (hM : M ≤ 598) (hb28 : ∀ j, 0 ≤ j → j < 3 → A 228 0 j = 0 ∨ A 228 0 j = 1) (hc : IR c) (hk : IR k) : KI γ 14 mX12_copy [rv f, .int (I c), .int (I k)] w (47) (3112) (fun r w' => r = (o_copy μ c k A).1 ∧ (o_copy μ c k A).2 139 μ.1 0 = 0 ∧ RES μ f w w' (o_copy μ c k A).2) (fun E w' => ((E = "java/lang/IndexOutOfBoundsException" ∧ (o_copy μ c k A).2 139 μ.1 0 = 1) ∨ (E = "java/lang/IllegalArgumentException" ∧ (o_copy μ c k A).2 139 μ.1 0 = 2) ∨ (E = "java/lang/IllegalStateException" ∧ (o_copy μ c k A).2 139 μ.1 0 = 3)) ∧ RES μ f w w' (o_copy μ c k A).2) := by
  refine MX_of rfl rfl (by simp [rv_cat, int_cat]) rfl ?_
  rintro κ hO hF rfl
  have hD := hF.dp
  show X κ (47) (3112) w 0 [some (rv f), some (.int (I c)), some (.int (I k))] []
  have t0 := h.1.toF.1
  refine X_iload_n 1 hO dX12_copy_0 rfl rfl ?_
  refine X_iconst 2 hO dX12_copy_1 rfl ?_
  refine X_kSv 5 hO hD lX12_132 [_, _] rfl dX12_copy_2 rfl (kX12_requireIndex _ _ _ _ (by omega) (by omega)) (by decide) (by simp [rv_cat, int_cat]) (by first | decide | exact Nat.zero_le _ | omega) (by first | decide | exact Nat.zero_le _ | omega) (fun w_2 hp_2 => ?_) (fun E w_ hx_ => (XE_out hO hF (by
  obtain ⟨x1, x2, x3⟩ := hx_
  have hn : ¬ (0 ≤ c ∧ c ≤ 3) := by omega
  have eo : o_copy μ c k A = (0, m_th μ 1 A) := by unfold o_copy;  rw [if_neg hn]
  rw [eo, x3]
  exact ⟨Or.inl (⟨x1, up_s _ _ _ _ _⟩), h.r9 hRB hM⟩)))
  obtain ⟨e1_2, e2_2⟩ := hp_2
  subst w_2
  have hc0 : 0 ≤ c ∧ c ≤ 3 := by omega
  refine X_iload_n 6 hO dX12_copy_5 rfl rfl ?_
  refine X_iconst 7 hO dX12_copy_6 rfl ?_
  refine X_bipush 9 hO dX12_copy_7 rfl (by decide) ?_
  refine X_kSv 12 hO hD lX12_129 [_, _, _] rfl dX12_copy_9 rfl (kX12_requireRange _ _ _ _ _ (by omega) (by omega) (by omega)) (by decide) (by simp [rv_cat, int_cat]) (by first | decide | exact Nat.zero_le _ | omega) (by first | decide | exact Nat.zero_le _ | omega) (fun w_9 hp_9 => ?_) (fun E w_ hx_ => (XE_out hO hF (by
  obtain ⟨x1, x2, x3⟩ := hx_
  have hn : ¬ (1 ≤ k ∧ k ≤ 20) := by omega
  have eo : o_copy μ c k A = (0, m_th μ 2 A) := by unfold o_copy; rw [if_pos hc0]; rw [if_neg hn]
  rw [eo, x3]
  exact ⟨Or.inr (Or.inl (⟨x1, up_s _ _ _ _ _⟩)), h.r9 hRB hM⟩)))
  obtain ⟨e1_9, e2_9⟩ := hp_9
  subst w_9
  have hc1 : 1 ≤ k ∧ k ≤ 20 := by omega
  refine X_aload_n 13 hO dX12_copy_12 rfl rfl ?_
  refine X_bipush 15 hO dX12_copy_13 rfl (by decide) ?_
  refine X_iload_n 16 hO dX12_copy_15 rfl rfl ?_
  refine X_iload_n 17 hO dX12_copy_16 rfl rfl ?_
  refine X_kVi (t := 13) 20 hO hD lX12_125 rfl (by decide) [_, _, _] rfl dX12_copy_17 rfl (by first | assumption | omega | (simp (disch := first | decide | assumption | omega) only [up_k, up_s, up_a, up_i, flA_k, flA_a, flA_n, cpA_k, cpA_a, newO_o, newA_o, newO_t, newA_t, newA_n, cpQ_k, cpQ_a] <;> first | assumption | omega)) (kX12_call _ _ _ 9 c k p μ (m_th μ 0 A) S P M 3 (h.o9 hRB hM) hRB.o9 hS hP hM (fun j j0 j1 => by show up A 139 μ.1 0 _ 228 0 j = 0 ∨ up A 139 μ.1 0 _ 228 0 j = 1; rw [up_k _ (by decide)]; exact hb28 j j0 j1) (by decide) (by unfold IR at *; omega) (by unfold IR at *; omega) (by unfold CV; omega)) (by decide) (by simp [rv_cat, int_cat]) (by first | decide | exact Nat.zero_le _ | omega) (by first | decide | exact Nat.zero_le _ | omega) (fun r_17 w_17 hr_17 hp_17 => ?_) (fun E w_ hx_ => (XE_out hO hF (by
  obtain ⟨x1, x2, p9, x3, x4⟩ := hx_
  have eo : o_copy μ c k A = m_cal μ (9 - 1) c k 3 (m_th μ 0 A) := by unfold o_copy; rw [if_pos hc0]; rw [if_pos hc1]; rfl
  rw [eo]
  exact ⟨Or.inr (Or.inr (⟨x1, x2⟩)), p9, x3, x4⟩)))
  obtain ⟨f1, f2, p9, f3, f4⟩ := hp_17
  exact X_iret hO hF rfl (by first | exact Or.inl rfl | exact Or.inr ⟨rfl, bi_01 _⟩ | exact Or.inr ⟨rfl, by omega⟩) dX12_copy_20 ⟨_, rfl, (by omega), (by
  have eo : o_copy μ c k A = m_cal μ (9 - 1) c k 3 (m_th μ 0 A) := by unfold o_copy; rw [if_pos hc0]; rw [if_pos hc1]; rfl
  rw [eo]
  exact ⟨f1, f2, p9, f3, f4⟩)⟩
theorem dX12_paste_0 : decode cX12_paste 0 = .ok (.iload_n 1, 1) := by decide +kernel
theorem dX12_paste_1 : decode cX12_paste 1 = .ok (.iconst 4, 1) := by decide +kernel
theorem dX12_paste_2 : decode cX12_paste 2 = .ok (.invokestatic 132, 3) := by decide +kernel
theorem dX12_paste_5 : decode cX12_paste 5 = .ok (.aload_n 0, 1) := by decide +kernel
theorem dX12_paste_6 : decode cX12_paste 6 = .ok (.bipush 10, 2) := by decide +kernel
theorem dX12_paste_8 : decode cX12_paste 8 = .ok (.iload_n 1, 1) := by decide +kernel
theorem dX12_paste_9 : decode cX12_paste 9 = .ok (.iconst 0, 1) := by decide +kernel
theorem dX12_paste_10 : decode cX12_paste 10 = .ok (.invokevirtual 125, 3) := by decide +kernel
theorem dX12_paste_13 : decode cX12_paste 13 = .ok (.ireturn, 1) := by decide +kernel
set_option maxRecDepth 4000 in
theorem kX12_paste (γ : LC) (w : Mm) (f c : Int) (p : RP) (μ : MU) (A : Mm) (S P M : Int) (h : CHB p μ f (lvL p μ A) w A) (hRB : RB μ S P M A) (hS : S ≤ 28900) (hP : P ≤ 500000) (hM : M ≤ 598) (hb28 : ∀ j, 0 ≤ j → j < 3 → A 228 0 j = 0 ∨ A 228 0 j = 1) (hc : IR c) : KI γ 14 mX12_paste [rv f, .int (I c)] w (46) (3106) (fun r w' => r = (o_paste μ c A).1 ∧ (o_paste μ c A).2 139 μ.1 0 = 0 ∧ RES μ f w w' (o_paste μ c A).2) (fun E w' => ((E = "java/lang/IndexOutOfBoundsException" ∧ (o_paste μ c A).2 139 μ.1 0 = 1) ∨ (E = "java/lang/IllegalStateException" ∧ (o_paste μ c A).2 139 μ.1 0 = 2)) ∧ RES μ f w w' (o_paste μ c A).2) := by
  refine MX_of rfl rfl (by simp [rv_cat, int_cat]) rfl ?_
  rintro κ hO hF rfl
  have hD := hF.dp
  show X κ (46) (3106) w 0 [some (rv f), some (.int (I c))] []
  have t0 := h.1.toF.1
  refine X_iload_n 1 hO dX12_paste_0 rfl rfl ?_
  refine X_iconst 2 hO dX12_paste_1 rfl ?_
  refine X_kSv 5 hO hD lX12_132 [_, _] rfl dX12_paste_2 rfl (kX12_requireIndex _ _ _ _ (by omega) (by omega)) (by decide) (by simp [rv_cat, int_cat]) (by first | decide | exact Nat.zero_le _ | omega) (by first | decide | exact Nat.zero_le _ | omega) (fun w_2 hp_2 => ?_) (fun E w_ hx_ => (XE_out hO hF (by
  obtain ⟨x1, x2, x3⟩ := hx_
  have hn : ¬ (0 ≤ c ∧ c ≤ 3) := by omega
  have eo : o_paste μ c A = (0, m_ti μ (0 ≤ c ∧ c ≤ 3) A) := by unfold o_paste;  rw [if_neg hn]
  rw [eo, x3]
  exact ⟨Or.inl (⟨x1, by show up A 139 μ.1 0 (if 0 ≤ c ∧ c ≤ 3 then 0 else 1) 139 μ.1 0 = 1; rw [up_s, if_neg hn]⟩), h.r9 hRB hM⟩)))
  obtain ⟨e1_2, e2_2⟩ := hp_2
  subst w_2
  have hc0 : 0 ≤ c ∧ c ≤ 3 := by omega
  refine X_aload_n 6 hO dX12_paste_5 rfl rfl ?_
  refine X_bipush 8 hO dX12_paste_6 rfl (by decide) ?_
  refine X_iload_n 9 hO dX12_paste_8 rfl rfl ?_
  refine X_iconst 10 hO dX12_paste_9 rfl ?_
  refine X_kVi (t := 13) 13 hO hD lX12_125 rfl (by decide) [_, _, _] rfl dX12_paste_10 rfl (by first | assumption | omega | (simp (disch := first | decide | assumption | omega) only [up_k, up_s, up_a, up_i, flA_k, flA_a, flA_n, cpA_k, cpA_a, newO_o, newA_o, newO_t, newA_t, newA_n, cpQ_k, cpQ_a] <;> first | assumption | omega)) (kX12_call _ _ _ 10 c 0 p μ (m_ti μ (0 ≤ c ∧ c ≤ 3) A) S P M 2 (h.o9 hRB hM) hRB.o9 hS hP hM (fun j j0 j1 => by show up A 139 μ.1 0 _ 228 0 j = 0 ∨ up A 139 μ.1 0 _ 228 0 j = 1; rw [up_k _ (by decide)]; exact hb28 j j0 j1) (by decide) (by unfold IR at *; omega) (by unfold IR at *; omega) (by unfold CV; omega)) (by decide) (by simp [rv_cat, int_cat]) (by first | decide | exact Nat.zero_le _ | omega) (by first | decide | exact Nat.zero_le _ | omega) (fun r_10 w_10 hr_10 hp_10 => ?_) (fun E w_ hx_ => (XE_out hO hF (by
  obtain ⟨x1, x2, p9, x3, x4⟩ := hx_
  have eo : o_paste μ c A = m_cal μ (10 - 1) c 0 2 (m_ti μ (0 ≤ c ∧ c ≤ 3) A) := by unfold o_paste; rw [if_pos hc0]; rfl
  rw [eo]
  exact ⟨Or.inr (⟨x1, x2⟩), p9, x3, x4⟩)))
  obtain ⟨f1, f2, p9, f3, f4⟩ := hp_10
  exact X_iret hO hF rfl (by first | exact Or.inl rfl | exact Or.inr ⟨rfl, bi_01 _⟩ | exact Or.inr ⟨rfl, by omega⟩) dX12_paste_13 ⟨_, rfl, (by omega), (by
  have eo : o_paste μ c A = m_cal μ (10 - 1) c 0 2 (m_ti μ (0 ≤ c ∧ c ≤ 3) A) := by unfold o_paste; rw [if_pos hc0]; rfl
  rw [eo]
  exact ⟨f1, f2, p9, f3, f4⟩)⟩
theorem dX12_setMark_0 : decode cX12_setMark 0 = .ok (.iload_n 1, 1) := by decide +kernel
theorem dX12_setMark_1 : decode cX12_setMark 1 = .ok (.bipush 6, 2) := by decide +kernel
theorem dX12_setMark_3 : decode cX12_setMark 3 = .ok (.invokestatic 132, 3) := by decide +kernel
theorem dX12_setMark_6 : decode cX12_setMark 6 = .ok (.aload_n 0, 1) := by decide +kernel
theorem dX12_setMark_7 : decode cX12_setMark 7 = .ok (.bipush 11, 2) := by decide +kernel
theorem dX12_setMark_9 : decode cX12_setMark 9 = .ok (.iload_n 1, 1) := by decide +kernel
theorem dX12_setMark_10 : decode cX12_setMark 10 = .ok (.iload_n 2, 1) := by decide +kernel
theorem dX12_setMark_11 : decode cX12_setMark 11 = .ok (.ifCond .eq 7, 3) := by decide +kernel
theorem dX12_setMark_14 : decode cX12_setMark 14 = .ok (.iconst 1, 1) := by decide +kernel
theorem dX12_setMark_15 : decode cX12_setMark 15 = .ok (.goto 4, 3) := by decide +kernel
theorem dX12_setMark_18 : decode cX12_setMark 18 = .ok (.iconst 0, 1) := by decide +kernel
theorem dX12_setMark_19 : decode cX12_setMark 19 = .ok (.invokevirtual 125, 3) := by decide +kernel
theorem dX12_setMark_22 : decode cX12_setMark 22 = .ok (.ireturn, 1) := by decide +kernel
set_option maxRecDepth 4000 in
theorem kX12_setMark (γ : LC) (w : Mm) (f c b : Int) (p : RP) (μ : MU) (A : Mm) (S P M : Int) (h : CHB p μ f (lvL p μ A) w A) (hRB : RB μ S P M A) (hS : S ≤ 28900) (hP : P ≤ 500000) (hM : M ≤ 598) (hb28 : ∀ j, 0 ≤ j → j < 3 → A 228 0 j = 0 ∨ A 228 0 j = 1) (hc : IR c) (hb : IR b) (hb2 : b = 0 ∨ b = 1) : KI γ 14 mX12_setMark [rv f, .int (I c), .int (I b)] w (46) (3106) (fun r w' => r = (o_setMark μ c b A).1 ∧ (o_setMark μ c b A).2 139 μ.1 0 = 0 ∧ RES μ f w w' (o_setMark μ c b A).2) (fun E w' => ((E = "java/lang/IndexOutOfBoundsException" ∧ (o_setMark μ c b A).2 139 μ.1 0 = 1) ∨ (E = "java/lang/IllegalStateException" ∧ (o_setMark μ c b A).2 139 μ.1 0 = 2)) ∧ RES μ f w w' (o_setMark μ c b A).2) := by
  refine MX_of rfl rfl (by simp [rv_cat, int_cat]) rfl ?_
  rintro κ hO hF rfl
  have hD := hF.dp
  show X κ (46) (3106) w 0 [some (rv f), some (.int (I c)), some (.int (I b))] []
  have t0 := h.1.toF.1
  refine X_iload_n 1 hO dX12_setMark_0 rfl rfl ?_
  refine X_bipush 3 hO dX12_setMark_1 rfl (by decide) ?_
  refine X_kSv 6 hO hD lX12_132 [_, _] rfl dX12_setMark_3 rfl (kX12_requireIndex _ _ _ _ (by omega) (by omega)) (by decide) (by simp [rv_cat, int_cat]) (by first | decide | exact Nat.zero_le _ | omega) (by first | decide | exact Nat.zero_le _ | omega) (fun w_3 hp_3 => ?_) (fun E w_ hx_ => (XE_out hO hF (by
  obtain ⟨x1, x2, x3⟩ := hx_
  have hn : ¬ (0 ≤ c ∧ c ≤ 5) := by omega
  have eo : o_setMark μ c b A = (0, m_ti μ (0 ≤ c ∧ c ≤ 5) A) := by unfold o_setMark;  rw [if_neg hn]
  rw [eo, x3]
  exact ⟨Or.inl (⟨x1, by show up A 139 μ.1 0 (if 0 ≤ c ∧ c ≤ 5 then 0 else 1) 139 μ.1 0 = 1; rw [up_s, if_neg hn]⟩), h.r9 hRB hM⟩)))
  obtain ⟨e1_3, e2_3⟩ := hp_3
  subst w_3
  have hc0 : 0 ≤ c ∧ c ≤ 5 := by omega
  refine X_aload_n 7 hO dX12_setMark_6 rfl rfl ?_
  refine X_bipush 9 hO dX12_setMark_7 rfl (by decide) ?_
  refine X_iload_n 10 hO dX12_setMark_9 rfl rfl ?_
  refine X_iload_n 11 hO dX12_setMark_10 rfl rfl ?_
  refine X_if_eq 14 18 hO dX12_setMark_11 rfl rfl (by omega) (fun hc_11 => ?_) (fun hc_11 => ?_)
  ·
    try simp only [bi_0, bi_ne, ne_eq, Classical.not_not] at hc_11
    refine X_iconst 19 hO dX12_setMark_18 rfl ?_
    refine X_kVi (t := 13) 22 hO hD lX12_125 rfl (by decide) [_, _, _] rfl dX12_setMark_19 rfl (by first | assumption | omega | (simp (disch := first | decide | assumption | omega) only [up_k, up_s, up_a, up_i, flA_k, flA_a, flA_n, cpA_k, cpA_a, newO_o, newA_o, newO_t, newA_t, newA_n, cpQ_k, cpQ_a] <;> first | assumption | omega)) (kX12_call _ _ _ 11 c _ p μ (m_ti μ (0 ≤ c ∧ c ≤ 5) A) S P M 2 (h.o9 hRB hM) hRB.o9 hS hP hM (fun j j0 j1 => by show up A 139 μ.1 0 _ 228 0 j = 0 ∨ up A 139 μ.1 0 _ 228 0 j = 1; rw [up_k _ (by decide)]; exact hb28 j j0 j1) (by decide) (by unfold IR at *; omega) (by unfold IR at *; omega) (by unfold CV; omega)) (by decide) (by simp [rv_cat, int_cat]) (by first | decide | exact Nat.zero_le _ | omega) (by first | decide | exact Nat.zero_le _ | omega) (fun r_19 w_19 hr_19 hp_19 => ?_) (fun E w_ hx_ => (XE_out hO hF (by
  obtain ⟨x1, x2, p9, x3, x4⟩ := hx_
  first
  | (have hbv : b = 1 := by omega
     have eo : o_setMark μ c b A = m_cal μ (11 - 1) c 1 2 (m_ti μ (0 ≤ c ∧ c ≤ 5) A) := by rw [hbv]; unfold o_setMark; rw [if_pos hc0]; rfl
     rw [eo]
     exact ⟨Or.inr (⟨x1, x2⟩), p9, x3, x4⟩)
  | (have hbv : b = 0 := by omega
     have eo : o_setMark μ c b A = m_cal μ (11 - 1) c 0 2 (m_ti μ (0 ≤ c ∧ c ≤ 5) A) := by rw [hbv]; unfold o_setMark; rw [if_pos hc0]; rfl
     rw [eo]
     exact ⟨Or.inr (⟨x1, x2⟩), p9, x3, x4⟩))))
    obtain ⟨f1, f2, p9, f3, f4⟩ := hp_19
    exact X_iret hO hF rfl (by first | exact Or.inl rfl | exact Or.inr ⟨rfl, bi_01 _⟩ | exact Or.inr ⟨rfl, by omega⟩) dX12_setMark_22 ⟨_, rfl, (by omega), (by
  first
  | (have hbv : b = 1 := by omega
     have eo : o_setMark μ c b A = m_cal μ (11 - 1) c 1 2 (m_ti μ (0 ≤ c ∧ c ≤ 5) A) := by rw [hbv]; unfold o_setMark; rw [if_pos hc0]; rfl
     rw [eo]
     exact ⟨f1, f2, p9, f3, f4⟩)
  | (have hbv : b = 0 := by omega
     have eo : o_setMark μ c b A = m_cal μ (11 - 1) c 0 2 (m_ti μ (0 ≤ c ∧ c ≤ 5) A) := by rw [hbv]; unfold o_setMark; rw [if_pos hc0]; rfl
     rw [eo]
     exact ⟨f1, f2, p9, f3, f4⟩))⟩
  ·
    try simp only [bi_0, bi_ne, ne_eq, Classical.not_not] at hc_11
    refine X_iconst 15 hO dX12_setMark_14 rfl ?_
    refine X_goto hO dX12_setMark_15 (tgt := 19) rfl ?_
    refine X_kVi (t := 13) 22 hO hD lX12_125 rfl (by decide) [_, _, _] rfl dX12_setMark_19 rfl (by first | assumption | omega | (simp (disch := first | decide | assumption | omega) only [up_k, up_s, up_a, up_i, flA_k, flA_a, flA_n, cpA_k, cpA_a, newO_o, newA_o, newO_t, newA_t, newA_n, cpQ_k, cpQ_a] <;> first | assumption | omega)) (kX12_call _ _ _ 11 c _ p μ (m_ti μ (0 ≤ c ∧ c ≤ 5) A) S P M 2 (h.o9 hRB hM) hRB.o9 hS hP hM (fun j j0 j1 => by show up A 139 μ.1 0 _ 228 0 j = 0 ∨ up A 139 μ.1 0 _ 228 0 j = 1; rw [up_k _ (by decide)]; exact hb28 j j0 j1) (by decide) (by unfold IR at *; omega) (by unfold IR at *; omega) (by unfold CV; omega)) (by decide) (by simp [rv_cat, int_cat]) (by first | decide | exact Nat.zero_le _ | omega) (by first | decide | exact Nat.zero_le _ | omega) (fun r_19 w_19 hr_19 hp_19 => ?_) (fun E w_ hx_ => (XE_out hO hF (by
  obtain ⟨x1, x2, p9, x3, x4⟩ := hx_
  first
  | (have hbv : b = 1 := by omega
     have eo : o_setMark μ c b A = m_cal μ (11 - 1) c 1 2 (m_ti μ (0 ≤ c ∧ c ≤ 5) A) := by rw [hbv]; unfold o_setMark; rw [if_pos hc0]; rfl
     rw [eo]
     exact ⟨Or.inr (⟨x1, x2⟩), p9, x3, x4⟩)
  | (have hbv : b = 0 := by omega
     have eo : o_setMark μ c b A = m_cal μ (11 - 1) c 0 2 (m_ti μ (0 ≤ c ∧ c ≤ 5) A) := by rw [hbv]; unfold o_setMark; rw [if_pos hc0]; rfl
     rw [eo]
     exact ⟨Or.inr (⟨x1, x2⟩), p9, x3, x4⟩))))
    obtain ⟨f1, f2, p9, f3, f4⟩ := hp_19
    exact X_iret hO hF rfl (by first | exact Or.inl rfl | exact Or.inr ⟨rfl, bi_01 _⟩ | exact Or.inr ⟨rfl, by omega⟩) dX12_setMark_22 ⟨_, rfl, (by omega), (by
  first
  | (have hbv : b = 1 := by omega
     have eo : o_setMark μ c b A = m_cal μ (11 - 1) c 1 2 (m_ti μ (0 ≤ c ∧ c ≤ 5) A) := by rw [hbv]; unfold o_setMark; rw [if_pos hc0]; rfl
     rw [eo]
     exact ⟨f1, f2, p9, f3, f4⟩)
  | (have hbv : b = 0 := by omega
     have eo : o_setMark μ c b A = m_cal μ (11 - 1) c 0 2 (m_ti μ (0 ≤ c ∧ c ≤ 5) A) := by rw [hbv]; unfold o_setMark; rw [if_pos hc0]; rfl
     rw [eo]
     exact ⟨f1, f2, p9, f3, f4⟩))⟩
theorem dX12_clearMark_0 : decode cX12_clearMark 0 = .ok (.iload_n 1, 1) := by decide +kernel
theorem dX12_clearMark_1 : decode cX12_clearMark 1 = .ok (.bipush 6, 2) := by decide +kernel
theorem dX12_clearMark_3 : decode cX12_clearMark 3 = .ok (.invokestatic 132, 3) := by decide +kernel
theorem dX12_clearMark_6 : decode cX12_clearMark 6 = .ok (.aload_n 0, 1) := by decide +kernel
theorem dX12_clearMark_7 : decode cX12_clearMark 7 = .ok (.bipush 12, 2) := by decide +kernel
theorem dX12_clearMark_9 : decode cX12_clearMark 9 = .ok (.iload_n 1, 1) := by decide +kernel
theorem dX12_clearMark_10 : decode cX12_clearMark 10 = .ok (.iconst 0, 1) := by decide +kernel
theorem dX12_clearMark_11 : decode cX12_clearMark 11 = .ok (.invokevirtual 125, 3) := by decide +kernel
theorem dX12_clearMark_14 : decode cX12_clearMark 14 = .ok (.ireturn, 1) := by decide +kernel
set_option maxRecDepth 4000 in
theorem kX12_clearMark (γ : LC) (w : Mm) (f c : Int) (p : RP) (μ : MU) (A : Mm) (S P M : Int) (h : CHB p μ f (lvL p μ A) w A) (hRB : RB μ S P M A) (hS : S ≤ 28900) (hP : P ≤ 500000) (hM : M ≤ 598) (hb28 : ∀ j, 0 ≤ j → j < 3 → A 228 0 j = 0 ∨ A 228 0 j = 1) (hc : IR c) : KI γ 14 mX12_clearMark [rv f, .int (I c)] w (46) (3106) (fun r w' => r = (o_clearMark μ c A).1 ∧ (o_clearMark μ c A).2 139 μ.1 0 = 0 ∧ RES μ f w w' (o_clearMark μ c A).2) (fun E w' => ((E = "java/lang/IndexOutOfBoundsException" ∧ (o_clearMark μ c A).2 139 μ.1 0 = 1) ∨ (E = "java/lang/IllegalStateException" ∧ (o_clearMark μ c A).2 139 μ.1 0 = 2)) ∧ RES μ f w w' (o_clearMark μ c A).2) := by
  refine MX_of rfl rfl (by simp [rv_cat, int_cat]) rfl ?_
  rintro κ hO hF rfl
  have hD := hF.dp
  show X κ (46) (3106) w 0 [some (rv f), some (.int (I c))] []
  have t0 := h.1.toF.1
  refine X_iload_n 1 hO dX12_clearMark_0 rfl rfl ?_
  refine X_bipush 3 hO dX12_clearMark_1 rfl (by decide) ?_
  refine X_kSv 6 hO hD lX12_132 [_, _] rfl dX12_clearMark_3 rfl (kX12_requireIndex _ _ _ _ (by omega) (by omega)) (by decide) (by simp [rv_cat, int_cat]) (by first | decide | exact Nat.zero_le _ | omega) (by first | decide | exact Nat.zero_le _ | omega) (fun w_3 hp_3 => ?_) (fun E w_ hx_ => (XE_out hO hF (by
  obtain ⟨x1, x2, x3⟩ := hx_
  have hn : ¬ (0 ≤ c ∧ c ≤ 5) := by omega
  have eo : o_clearMark μ c A = (0, m_ti μ (0 ≤ c ∧ c ≤ 5) A) := by unfold o_clearMark;  rw [if_neg hn]
  rw [eo, x3]
  exact ⟨Or.inl (⟨x1, by show up A 139 μ.1 0 (if 0 ≤ c ∧ c ≤ 5 then 0 else 1) 139 μ.1 0 = 1; rw [up_s, if_neg hn]⟩), h.r9 hRB hM⟩)))
  obtain ⟨e1_3, e2_3⟩ := hp_3
  subst w_3
  have hc0 : 0 ≤ c ∧ c ≤ 5 := by omega
  refine X_aload_n 7 hO dX12_clearMark_6 rfl rfl ?_
  refine X_bipush 9 hO dX12_clearMark_7 rfl (by decide) ?_
  refine X_iload_n 10 hO dX12_clearMark_9 rfl rfl ?_
  refine X_iconst 11 hO dX12_clearMark_10 rfl ?_
  refine X_kVi (t := 13) 14 hO hD lX12_125 rfl (by decide) [_, _, _] rfl dX12_clearMark_11 rfl (by first | assumption | omega | (simp (disch := first | decide | assumption | omega) only [up_k, up_s, up_a, up_i, flA_k, flA_a, flA_n, cpA_k, cpA_a, newO_o, newA_o, newO_t, newA_t, newA_n, cpQ_k, cpQ_a] <;> first | assumption | omega)) (kX12_call _ _ _ 12 c 0 p μ (m_ti μ (0 ≤ c ∧ c ≤ 5) A) S P M 2 (h.o9 hRB hM) hRB.o9 hS hP hM (fun j j0 j1 => by show up A 139 μ.1 0 _ 228 0 j = 0 ∨ up A 139 μ.1 0 _ 228 0 j = 1; rw [up_k _ (by decide)]; exact hb28 j j0 j1) (by decide) (by unfold IR at *; omega) (by unfold IR at *; omega) (by unfold CV; omega)) (by decide) (by simp [rv_cat, int_cat]) (by first | decide | exact Nat.zero_le _ | omega) (by first | decide | exact Nat.zero_le _ | omega) (fun r_11 w_11 hr_11 hp_11 => ?_) (fun E w_ hx_ => (XE_out hO hF (by
  obtain ⟨x1, x2, p9, x3, x4⟩ := hx_
  have eo : o_clearMark μ c A = m_cal μ (12 - 1) c 0 2 (m_ti μ (0 ≤ c ∧ c ≤ 5) A) := by unfold o_clearMark; rw [if_pos hc0]; rfl
  rw [eo]
  exact ⟨Or.inr (⟨x1, x2⟩), p9, x3, x4⟩)))
  obtain ⟨f1, f2, p9, f3, f4⟩ := hp_11
  exact X_iret hO hF rfl (by first | exact Or.inl rfl | exact Or.inr ⟨rfl, bi_01 _⟩ | exact Or.inr ⟨rfl, by omega⟩) dX12_clearMark_14 ⟨_, rfl, (by omega), (by
  have eo : o_clearMark μ c A = m_cal μ (12 - 1) c 0 2 (m_ti μ (0 ≤ c ∧ c ≤ 5) A) := by unfold o_clearMark; rw [if_pos hc0]; rfl
  rw [eo]
  exact ⟨f1, f2, p9, f3, f4⟩)⟩
theorem dX12_jump_0 : decode cX12_jump 0 = .ok (.iload_n 1, 1) := by decide +kernel
theorem dX12_jump_1 : decode cX12_jump 1 = .ok (.bipush 6, 2) := by decide +kernel
theorem dX12_jump_3 : decode cX12_jump 3 = .ok (.invokestatic 132, 3) := by decide +kernel
theorem dX12_jump_6 : decode cX12_jump 6 = .ok (.aload_n 0, 1) := by decide +kernel
theorem dX12_jump_7 : decode cX12_jump 7 = .ok (.bipush 13, 2) := by decide +kernel
theorem dX12_jump_9 : decode cX12_jump 9 = .ok (.iload_n 1, 1) := by decide +kernel
theorem dX12_jump_10 : decode cX12_jump 10 = .ok (.iconst 0, 1) := by decide +kernel
theorem dX12_jump_11 : decode cX12_jump 11 = .ok (.invokevirtual 125, 3) := by decide +kernel
theorem dX12_jump_14 : decode cX12_jump 14 = .ok (.ireturn, 1) := by decide +kernel
set_option maxRecDepth 4000 in
theorem kX12_jump (γ : LC) (w : Mm) (f c : Int) (p : RP) (μ : MU) (A : Mm) (S P M : Int) (h : CHB p μ f (lvL p μ A) w A) (hRB : RB μ S P M A) (hS : S ≤ 28900) (hP : P ≤ 500000) (hM : M ≤ 598) (hb28 : ∀ j, 0 ≤ j → j < 3 → A 228 0 j = 0 ∨ A 228 0 j = 1) (hc : IR c) : KI γ 14 mX12_jump [rv f, .int (I c)] w (46) (3106) (fun r w' => r = (o_jump μ c A).1 ∧ (o_jump μ c A).2 139 μ.1 0 = 0 ∧ RES μ f w w' (o_jump μ c A).2) (fun E w' => ((E = "java/lang/IndexOutOfBoundsException" ∧ (o_jump μ c A).2 139 μ.1 0 = 1) ∨ (E = "java/lang/IllegalStateException" ∧ (o_jump μ c A).2 139 μ.1 0 = 2)) ∧ RES μ f w w' (o_jump μ c A).2) := by
  refine MX_of rfl rfl (by simp [rv_cat, int_cat]) rfl ?_
  rintro κ hO hF rfl
  have hD := hF.dp
  show X κ (46) (3106) w 0 [some (rv f), some (.int (I c))] []
  have t0 := h.1.toF.1
  refine X_iload_n 1 hO dX12_jump_0 rfl rfl ?_
  refine X_bipush 3 hO dX12_jump_1 rfl (by decide) ?_
  refine X_kSv 6 hO hD lX12_132 [_, _] rfl dX12_jump_3 rfl (kX12_requireIndex _ _ _ _ (by omega) (by omega)) (by decide) (by simp [rv_cat, int_cat]) (by first | decide | exact Nat.zero_le _ | omega) (by first | decide | exact Nat.zero_le _ | omega) (fun w_3 hp_3 => ?_) (fun E w_ hx_ => (XE_out hO hF (by
  obtain ⟨x1, x2, x3⟩ := hx_
  have hn : ¬ (0 ≤ c ∧ c ≤ 5) := by omega
  have eo : o_jump μ c A = (0, m_ti μ (0 ≤ c ∧ c ≤ 5) A) := by unfold o_jump;  rw [if_neg hn]
  rw [eo, x3]
  exact ⟨Or.inl (⟨x1, by show up A 139 μ.1 0 (if 0 ≤ c ∧ c ≤ 5 then 0 else 1) 139 μ.1 0 = 1; rw [up_s, if_neg hn]⟩), h.r9 hRB hM⟩)))
  obtain ⟨e1_3, e2_3⟩ := hp_3
  subst w_3
  have hc0 : 0 ≤ c ∧ c ≤ 5 := by omega
  refine X_aload_n 7 hO dX12_jump_6 rfl rfl ?_
  refine X_bipush 9 hO dX12_jump_7 rfl (by decide) ?_
  refine X_iload_n 10 hO dX12_jump_9 rfl rfl ?_
  refine X_iconst 11 hO dX12_jump_10 rfl ?_
  refine X_kVi (t := 13) 14 hO hD lX12_125 rfl (by decide) [_, _, _] rfl dX12_jump_11 rfl (by first | assumption | omega | (simp (disch := first | decide | assumption | omega) only [up_k, up_s, up_a, up_i, flA_k, flA_a, flA_n, cpA_k, cpA_a, newO_o, newA_o, newO_t, newA_t, newA_n, cpQ_k, cpQ_a] <;> first | assumption | omega)) (kX12_call _ _ _ 13 c 0 p μ (m_ti μ (0 ≤ c ∧ c ≤ 5) A) S P M 2 (h.o9 hRB hM) hRB.o9 hS hP hM (fun j j0 j1 => by show up A 139 μ.1 0 _ 228 0 j = 0 ∨ up A 139 μ.1 0 _ 228 0 j = 1; rw [up_k _ (by decide)]; exact hb28 j j0 j1) (by decide) (by unfold IR at *; omega) (by unfold IR at *; omega) (by unfold CV; omega)) (by decide) (by simp [rv_cat, int_cat]) (by first | decide | exact Nat.zero_le _ | omega) (by first | decide | exact Nat.zero_le _ | omega) (fun r_11 w_11 hr_11 hp_11 => ?_) (fun E w_ hx_ => (XE_out hO hF (by
  obtain ⟨x1, x2, p9, x3, x4⟩ := hx_
  have eo : o_jump μ c A = m_cal μ (13 - 1) c 0 2 (m_ti μ (0 ≤ c ∧ c ≤ 5) A) := by unfold o_jump; rw [if_pos hc0]; rfl
  rw [eo]
  exact ⟨Or.inr (⟨x1, x2⟩), p9, x3, x4⟩)))
  obtain ⟨f1, f2, p9, f3, f4⟩ := hp_11
  exact X_iret hO hF rfl (by first | exact Or.inl rfl | exact Or.inr ⟨rfl, bi_01 _⟩ | exact Or.inr ⟨rfl, by omega⟩) dX12_jump_14 ⟨_, rfl, (by omega), (by
  have eo : o_jump μ c A = m_cal μ (13 - 1) c 0 2 (m_ti μ (0 ≤ c ∧ c ≤ 5) A) := by unfold o_jump; rw [if_pos hc0]; rfl
  rw [eo]
  exact ⟨f1, f2, p9, f3, f4⟩)⟩
theorem dX12_narrow_0 : decode cX12_narrow 0 = .ok (.iload_n 1, 1) := by decide +kernel
theorem dX12_narrow_1 : decode cX12_narrow 1 = .ok (.bipush 6, 2) := by decide +kernel
theorem dX12_narrow_3 : decode cX12_narrow 3 = .ok (.invokestatic 132, 3) := by decide +kernel
theorem dX12_narrow_6 : decode cX12_narrow 6 = .ok (.aload_n 0, 1) := by decide +kernel
theorem dX12_narrow_7 : decode cX12_narrow 7 = .ok (.bipush 14, 2) := by decide +kernel
theorem dX12_narrow_9 : decode cX12_narrow 9 = .ok (.iload_n 1, 1) := by decide +kernel
theorem dX12_narrow_10 : decode cX12_narrow 10 = .ok (.iconst 0, 1) := by decide +kernel
theorem dX12_narrow_11 : decode cX12_narrow 11 = .ok (.invokevirtual 125, 3) := by decide +kernel
theorem dX12_narrow_14 : decode cX12_narrow 14 = .ok (.ireturn, 1) := by decide +kernel
set_option maxRecDepth 4000 in
theorem kX12_narrow (γ : LC) (w : Mm) (f c : Int) (p : RP) (μ : MU) (A : Mm) (S P M : Int) (h : CHB p μ f (lvL p μ A) w A) (hRB : RB μ S P M A) (hS : S ≤ 28900) (hP : P ≤ 500000) (hM : M ≤ 598) (hb28 : ∀ j, 0 ≤ j → j < 3 → A 228 0 j = 0 ∨ A 228 0 j = 1) (hc : IR c) : KI γ 14 mX12_narrow [rv f, .int (I c)] w (46) (3106) (fun r w' => r = (o_narrow μ c A).1 ∧ (o_narrow μ c A).2 139 μ.1 0 = 0 ∧ RES μ f w w' (o_narrow μ c A).2) (fun E w' => ((E = "java/lang/IndexOutOfBoundsException" ∧ (o_narrow μ c A).2 139 μ.1 0 = 1) ∨ (E = "java/lang/IllegalStateException" ∧ (o_narrow μ c A).2 139 μ.1 0 = 2)) ∧ RES μ f w w' (o_narrow μ c A).2) := by
  refine MX_of rfl rfl (by simp [rv_cat, int_cat]) rfl ?_
  rintro κ hO hF rfl
  have hD := hF.dp
  show X κ (46) (3106) w 0 [some (rv f), some (.int (I c))] []
  have t0 := h.1.toF.1
  refine X_iload_n 1 hO dX12_narrow_0 rfl rfl ?_
  refine X_bipush 3 hO dX12_narrow_1 rfl (by decide) ?_
  refine X_kSv 6 hO hD lX12_132 [_, _] rfl dX12_narrow_3 rfl (kX12_requireIndex _ _ _ _ (by omega) (by omega)) (by decide) (by simp [rv_cat, int_cat]) (by first | decide | exact Nat.zero_le _ | omega) (by first | decide | exact Nat.zero_le _ | omega) (fun w_3 hp_3 => ?_) (fun E w_ hx_ => (XE_out hO hF (by
  obtain ⟨x1, x2, x3⟩ := hx_
  have hn : ¬ (0 ≤ c ∧ c ≤ 5) := by omega
  have eo : o_narrow μ c A = (0, m_ti μ (0 ≤ c ∧ c ≤ 5) A) := by unfold o_narrow;  rw [if_neg hn]
  rw [eo, x3]
  exact ⟨Or.inl (⟨x1, by show up A 139 μ.1 0 (if 0 ≤ c ∧ c ≤ 5 then 0 else 1) 139 μ.1 0 = 1; rw [up_s, if_neg hn]⟩), h.r9 hRB hM⟩)))
  obtain ⟨e1_3, e2_3⟩ := hp_3
  subst w_3
  have hc0 : 0 ≤ c ∧ c ≤ 5 := by omega
  refine X_aload_n 7 hO dX12_narrow_6 rfl rfl ?_
  refine X_bipush 9 hO dX12_narrow_7 rfl (by decide) ?_
  refine X_iload_n 10 hO dX12_narrow_9 rfl rfl ?_
  refine X_iconst 11 hO dX12_narrow_10 rfl ?_
  refine X_kVi (t := 13) 14 hO hD lX12_125 rfl (by decide) [_, _, _] rfl dX12_narrow_11 rfl (by first | assumption | omega | (simp (disch := first | decide | assumption | omega) only [up_k, up_s, up_a, up_i, flA_k, flA_a, flA_n, cpA_k, cpA_a, newO_o, newA_o, newO_t, newA_t, newA_n, cpQ_k, cpQ_a] <;> first | assumption | omega)) (kX12_call _ _ _ 14 c 0 p μ (m_ti μ (0 ≤ c ∧ c ≤ 5) A) S P M 2 (h.o9 hRB hM) hRB.o9 hS hP hM (fun j j0 j1 => by show up A 139 μ.1 0 _ 228 0 j = 0 ∨ up A 139 μ.1 0 _ 228 0 j = 1; rw [up_k _ (by decide)]; exact hb28 j j0 j1) (by decide) (by unfold IR at *; omega) (by unfold IR at *; omega) (by unfold CV; omega)) (by decide) (by simp [rv_cat, int_cat]) (by first | decide | exact Nat.zero_le _ | omega) (by first | decide | exact Nat.zero_le _ | omega) (fun r_11 w_11 hr_11 hp_11 => ?_) (fun E w_ hx_ => (XE_out hO hF (by
  obtain ⟨x1, x2, p9, x3, x4⟩ := hx_
  have eo : o_narrow μ c A = m_cal μ (14 - 1) c 0 2 (m_ti μ (0 ≤ c ∧ c ≤ 5) A) := by unfold o_narrow; rw [if_pos hc0]; rfl
  rw [eo]
  exact ⟨Or.inr (⟨x1, x2⟩), p9, x3, x4⟩)))
  obtain ⟨f1, f2, p9, f3, f4⟩ := hp_11
  exact X_iret hO hF rfl (by first | exact Or.inl rfl | exact Or.inr ⟨rfl, bi_01 _⟩ | exact Or.inr ⟨rfl, by omega⟩) dX12_narrow_14 ⟨_, rfl, (by omega), (by
  have eo : o_narrow μ c A = m_cal μ (14 - 1) c 0 2 (m_ti μ (0 ≤ c ∧ c ≤ 5) A) := by unfold o_narrow; rw [if_pos hc0]; rfl
  rw [eo]
  exact ⟨f1, f2, p9, f3, f4⟩)⟩
theorem dX12_widen_0 : decode cX12_widen 0 = .ok (.aload_n 0, 1) := by decide +kernel
theorem dX12_widen_1 : decode cX12_widen 1 = .ok (.bipush 15, 2) := by decide +kernel
theorem dX12_widen_3 : decode cX12_widen 3 = .ok (.iconst 0, 1) := by decide +kernel
theorem dX12_widen_4 : decode cX12_widen 4 = .ok (.iconst 0, 1) := by decide +kernel
theorem dX12_widen_5 : decode cX12_widen 5 = .ok (.invokevirtual 125, 3) := by decide +kernel
theorem dX12_widen_8 : decode cX12_widen 8 = .ok (.ireturn, 1) := by decide +kernel
set_option maxRecDepth 4000 in
theorem kX12_widen (γ : LC) (w : Mm) (f : Int) (p : RP) (μ : MU) (A : Mm) (S P M : Int) (h : CHB p μ f (lvL p μ A) w A) (hRB : RB μ S P M A) (hS : S ≤ 28900) (hP : P ≤ 500000) (hM : M ≤ 598) (hb28 : ∀ j, 0 ≤ j → j < 3 → A 228 0 j = 0 ∨ A 228 0 j = 1) : KI γ 14 mX12_widen [rv f] w (45) (3100) (fun r w' => r = (o_widen μ A).1 ∧ (o_widen μ A).2 139 μ.1 0 = 0 ∧ RES μ f w w' (o_widen μ A).2) (fun E w' => ((E = "java/lang/IllegalStateException" ∧ (o_widen μ A).2 139 μ.1 0 = 1)) ∧ RES μ f w w' (o_widen μ A).2) := by
  refine MX_of rfl rfl (by simp [rv_cat, int_cat]) rfl ?_
  rintro κ hO hF rfl
  have hD := hF.dp
  show X κ (45) (3100) w 0 [some (rv f)] []
  have t0 := h.1.toF.1
  refine X_aload_n 1 hO dX12_widen_0 rfl rfl ?_
  refine X_bipush 3 hO dX12_widen_1 rfl (by decide) ?_
  refine X_iconst 4 hO dX12_widen_3 rfl ?_
  refine X_iconst 5 hO dX12_widen_4 rfl ?_
  refine X_kVi (t := 13) 8 hO hD lX12_125 rfl (by decide) [_, _, _] rfl dX12_widen_5 rfl (by first | assumption | omega | (simp (disch := first | decide | assumption | omega) only [up_k, up_s, up_a, up_i, flA_k, flA_a, flA_n, cpA_k, cpA_a, newO_o, newA_o, newO_t, newA_t, newA_n, cpQ_k, cpQ_a] <;> first | assumption | omega)) (kX12_call _ _ _ 15 0 0 p μ A S P M 1 h hRB hS hP hM hb28 (by decide) (by unfold IR at *; omega) (by unfold IR at *; omega) (by unfold CV; omega)) (by decide) (by simp [rv_cat, int_cat]) (by first | decide | exact Nat.zero_le _ | omega) (by first | decide | exact Nat.zero_le _ | omega) (fun r_5 w_5 hr_5 hp_5 => ?_) (fun E w_ hx_ => (XE_out hO hF (by
  obtain ⟨x1, x2, p9, x3, x4⟩ := hx_
  have eo : o_widen μ A = m_cal μ (15 - 1) 0 0 1 A := by unfold o_widen;  rfl
  rw [eo]
  exact ⟨⟨x1, x2⟩, p9, x3, x4⟩)))
  obtain ⟨f1, f2, p9, f3, f4⟩ := hp_5
  exact X_iret hO hF rfl (by first | exact Or.inl rfl | exact Or.inr ⟨rfl, bi_01 _⟩ | exact Or.inr ⟨rfl, by omega⟩) dX12_widen_8 ⟨_, rfl, (by omega), (by
  have eo : o_widen μ A = m_cal μ (15 - 1) 0 0 1 A := by unfold o_widen;  rfl
  rw [eo]
  exact ⟨f1, f2, p9, f3, f4⟩)⟩
