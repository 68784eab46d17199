/-! p61: between the law's calls, group g open or not, a recording rc begun or not, n calls done that count -/
def LG (μ : MU) (f n g rc : Int) (w A : Mm) : Prop := LJ μ f (56 * n) (600 * n) (1 + n) w A ∧ A 132 μ.1 0 = g ∧ (A 133 μ.1 0 = -1 ↔ rc = 0) ∧ (∀ i, 0 ≤ i → i < 5 → A 227 0 i = -1) ∧ FAp μ A
section LGS
variable {γ : LC} {w w' A B : Mm} {μ : MU} {f n g rc c k a b d m : Int}
theorem LG.of (h : LG μ f n g rc w A) (r : RES μ f w w' B) (hB : RB μ (56 * n + 56) (600 * n + 600) (1 + n + 1) B) (z : PTX μ B) (i : IVS μ B) (e : F34 μ A B) (e7 : F7 μ A B) : LG μ f (n + 1) g rc w' B := by
  obtain ⟨h1, h2, h3, h4, h5⟩ := h
  refine ⟨?_, (e7 132 (Or.inl rfl) _ _).trans h2, by rw [e7 133 (Or.inr (Or.inl rfl))]; exact h3, fun j j0 j1 => (e7 227 (Or.inr (Or.inr rfl)) _ _).trans (h4 j j0 j1), by unfold FAp; rw [e 134 (Or.inl rfl), e 135 (Or.inr rfl)]; exact h5⟩
  rw [show 56 * (n + 1) = 56 * n + 56 by omega, show 600 * (n + 1) = 600 * n + 600 by omega, show 1 + (n + 1) = 1 + n + 1 by omega]
  exact h1.nx r hB z i e
theorem LJ.mono {S P M S' P' M' : Int} (h : LJ μ f S P M w A) (h1 : S ≤ S') (h2 : P ≤ P') (h3 : M ≤ M') : LJ μ f S' P' M' w A := ⟨h.1, h.2.1, h.2.2.1.mono h1 h2 h3, h.2.2.2⟩
theorem LG.mono {n' : Int} (h : LG μ f n g rc w A) (hn : n ≤ n') : LG μ f n' g rc w A := ⟨h.1.mono (by omega) (by omega) (by omega), h.2⟩

theorem an_overwrite {S P M : Int} (hR : RB μ S P M A) (hS : S ≤ 28900) (hP : P ≤ 500000) (hc : isC c) (h9 : (o_overwrite μ c A).2 139 μ.1 0 = 0) : -1 ≤ (o_overwrite μ c A).1 := by
  unfold o_overwrite at h9 ⊢
  rw [if_pos hc] at h9 ⊢
  exact cal_ans hR.o9 (by omega) (by omega) (by unfold CV; omega) (by decide) (by decide) h9
theorem no_overwrite (hc : isC c) : (o_overwrite μ c A).2 139 μ.1 0 = 0 ∨ (o_overwrite μ c A).2 139 μ.1 0 = 2 := by
  unfold o_overwrite
  rw [if_pos hc]
  exact cal_139
theorem lg_overwrite (h : LG μ f n g rc w A) (hn : 0 ≤ n ∧ n ≤ 500) (hc_ : IR c) (hc : isC c) : KI γ 14 mX12_overwrite [rv f, .int (I c)] w 46 3106 (fun r w' => -1 ≤ r ∧ ∃ B, LG μ f (n + 1) g rc w' B) (fun E w' => E = "java/lang/IllegalStateException" ∧ ∃ B, LG μ f (n + 1) g rc w' B) := by
  obtain ⟨⟨⟨p, hC⟩, hV, hB, hP, hS⟩, -⟩ := id h
  have key : ∀ w', RES μ f w w' (o_overwrite μ c A).2 → ∃ B, LG μ f (n + 1) g rc w' B := fun w' r => ⟨_, h.of r (RBo_overwrite hB (by omega) (by omega)) (PTo_overwrite hC hB (by omega) (by omega) (by omega) hP.1) (IVo_overwrite hS hB (by omega) (by omega)) (F34_overwrite hB (by omega) (by omega)) (F7_overwrite hB (by omega) (by omega))⟩
  refine (kX12_overwrite γ w f c p μ A _ _ _ hC hB (by omega) (by omega) (by omega) hS.1.2.2.2 hc_).imp (fun r w' z => ?_) (fun E w' z => ?_)
  · obtain ⟨z1, z2, z3⟩ := z
    exact ⟨by rw [z1]; exact an_overwrite hB (by omega) (by omega) hc z2, key w' z3⟩
  · obtain ⟨y, z3⟩ := z
    rcases y with ⟨z1, z2⟩ | ⟨z1, z2⟩
    · have := no_overwrite (μ := μ) (A := A) hc; omega
    · exact ⟨z1, key w' z3⟩
theorem an_delete {S P M : Int} (hR : RB μ S P M A) (hS : S ≤ 28900) (hP : P ≤ 500000) (hc : 1 ≤ c ∧ c ≤ 20) (h9 : (o_delete μ c A).2 139 μ.1 0 = 0) : -1 ≤ (o_delete μ c A).1 := by
  unfold o_delete at h9 ⊢
  rw [if_pos hc] at h9 ⊢
  exact cal_ans hR.o9 (by omega) (by omega) (by unfold CV; omega) (by decide) (by decide) h9
theorem no_delete (hc : 1 ≤ c ∧ c ≤ 20) : (o_delete μ c A).2 139 μ.1 0 = 0 ∨ (o_delete μ c A).2 139 μ.1 0 = 2 := by
  unfold o_delete
  rw [if_pos hc]
  exact cal_139
theorem lg_delete (h : LG μ f n g rc w A) (hn : 0 ≤ n ∧ n ≤ 500) (hc_ : IR c) (hc : 1 ≤ c ∧ c ≤ 20) : KI γ 14 mX12_delete [rv f, .int (I c)] w 46 3106 (fun r w' => -1 ≤ r ∧ ∃ B, LG μ f (n + 1) g rc w' B) (fun E w' => E = "java/lang/IllegalStateException" ∧ ∃ B, LG μ f (n + 1) g rc w' B) := by
  obtain ⟨⟨⟨p, hC⟩, hV, hB, hP, hS⟩, -⟩ := id h
  have key : ∀ w', RES μ f w w' (o_delete μ c A).2 → ∃ B, LG μ f (n + 1) g rc w' B := fun w' r => ⟨_, h.of r (RBo_delete hB (by omega) (by omega)) (PTo_delete hC hB (by omega) (by omega) (by omega) hP.1) (IVo_delete hS hB (by omega) (by omega)) (F34_delete hB (by omega) (by omega)) (F7_delete hB (by omega) (by omega))⟩
  refine (kX12_delete γ w f c p μ A _ _ _ hC hB (by omega) (by omega) (by omega) hS.1.2.2.2 hc_).imp (fun r w' z => ?_) (fun E w' z => ?_)
  · obtain ⟨z1, z2, z3⟩ := z
    exact ⟨by rw [z1]; exact an_delete hB (by omega) (by omega) hc z2, key w' z3⟩
  · obtain ⟨y, z3⟩ := z
    rcases y with ⟨z1, z2⟩ | ⟨z1, z2⟩
    · have := no_delete (μ := μ) (A := A) hc; omega
    · exact ⟨z1, key w' z3⟩
theorem an_move {S P M : Int} (hR : RB μ S P M A) (hS : S ≤ 28900) (hP : P ≤ 500000) (hc : -50 ≤ c ∧ c ≤ 50) (h9 : (o_move μ c A).2 139 μ.1 0 = 0) : -1 ≤ (o_move μ c A).1 := by
  unfold o_move at h9 ⊢
  rw [if_pos hc] at h9 ⊢
  exact cal_ans hR.o9 (by omega) (by omega) (by unfold CV; omega) (by decide) (by decide) h9
theorem no_move (hc : -50 ≤ c ∧ c ≤ 50) : (o_move μ c A).2 139 μ.1 0 = 0 ∨ (o_move μ c A).2 139 μ.1 0 = 2 := by
  unfold o_move
  rw [if_pos hc]
  exact cal_139
theorem lg_move (h : LG μ f n g rc w A) (hn : 0 ≤ n ∧ n ≤ 500) (hc_ : IR c) (hc : -50 ≤ c ∧ c ≤ 50) : KI γ 14 mX12_move [rv f, .int (I c)] w 46 3106 (fun r w' => -1 ≤ r ∧ ∃ B, LG μ f (n + 1) g rc w' B) (fun E w' => E = "java/lang/IllegalStateException" ∧ ∃ B, LG μ f (n + 1) g rc w' B) := by
  obtain ⟨⟨⟨p, hC⟩, hV, hB, hP, hS⟩, -⟩ := id h
  have key : ∀ w', RES μ f w w' (o_move μ c A).2 → ∃ B, LG μ f (n + 1) g rc w' B := fun w' r => ⟨_, h.of r (RBo_move hB (by omega) (by omega)) (PTo_move hC hB (by omega) (by omega) (by omega) hP.1) (IVo_move hS hB (by omega) (by omega)) (F34_move hB (by omega) (by omega)) (F7_move hB (by omega) (by omega))⟩
  refine (kX12_move γ w f c p μ A _ _ _ hC hB (by omega) (by omega) (by omega) hS.1.2.2.2 hc_).imp (fun r w' z => ?_) (fun E w' z => ?_)
  · obtain ⟨z1, z2, z3⟩ := z
    exact ⟨by rw [z1]; exact an_move hB (by omega) (by omega) hc z2, key w' z3⟩
  · obtain ⟨y, z3⟩ := z
    rcases y with ⟨z1, z2⟩ | ⟨z1, z2⟩
    · have := no_move (μ := μ) (A := A) hc; omega
    · exact ⟨z1, key w' z3⟩
theorem an_search {S P M : Int} (hR : RB μ S P M A) (hS : S ≤ 28900) (hP : P ≤ 500000) (hc : isC c) (h9 : (o_search μ c A).2 139 μ.1 0 = 0) : -1 ≤ (o_search μ c A).1 := by
  unfold o_search at h9 ⊢
  rw [if_pos hc] at h9 ⊢
  exact cal_ans hR.o9 (by omega) (by omega) (by unfold CV; omega) (by decide) (by decide) h9
theorem no_search (hc : isC c) : (o_search μ c A).2 139 μ.1 0 = 0 ∨ (o_search μ c A).2 139 μ.1 0 = 2 := by
  unfold o_search
  rw [if_pos hc]
  exact cal_139
theorem lg_search (h : LG μ f n g rc w A) (hn : 0 ≤ n ∧ n ≤ 500) (hc_ : IR c) (hc : isC c) : KI γ 14 mX12_search [rv f, .int (I c)] w 46 3106 (fun r w' => -1 ≤ r ∧ ∃ B, LG μ f (n + 1) g rc w' B) (fun E w' => E = "java/lang/IllegalStateException" ∧ ∃ B, LG μ f (n + 1) g rc w' B) := by
  obtain ⟨⟨⟨p, hC⟩, hV, hB, hP, hS⟩, -⟩ := id h
  have key : ∀ w', RES μ f w w' (o_search μ c A).2 → ∃ B, LG μ f (n + 1) g rc w' B := fun w' r => ⟨_, h.of r (RBo_search hB (by omega) (by omega)) (PTo_search hC hB (by omega) (by omega) (by omega) hP.1) (IVo_search hS hB (by omega) (by omega)) (F34_search hB (by omega) (by omega)) (F7_search hB (by omega) (by omega))⟩
  refine (kX12_search γ w f c p μ A _ _ _ hC hB (by omega) (by omega) (by omega) hS.1.2.2.2 hc_).imp (fun r w' z => ?_) (fun E w' z => ?_)
  · obtain ⟨z1, z2, z3⟩ := z
    exact ⟨by rw [z1]; exact an_search hB (by omega) (by omega) hc z2, key w' z3⟩
  · obtain ⟨y, z3⟩ := z
    rcases y with ⟨z1, z2⟩ | ⟨z1, z2⟩
    · have := no_search (μ := μ) (A := A) hc; omega
    · exact ⟨z1, key w' z3⟩
theorem an_kill {S P M : Int} (hR : RB μ S P M A) (hS : S ≤ 28900) (hP : P ≤ 500000) (hc : 1 ≤ c ∧ c ≤ 20) (h9 : (o_kill μ c A).2 139 μ.1 0 = 0) : -1 ≤ (o_kill μ c A).1 := by
  unfold o_kill at h9 ⊢
  rw [if_pos hc] at h9 ⊢
  exact cal_ans hR.o9 (by omega) (by omega) (by unfold CV; omega) (by decide) (by decide) h9
theorem no_kill (hc : 1 ≤ c ∧ c ≤ 20) : (o_kill μ c A).2 139 μ.1 0 = 0 ∨ (o_kill μ c A).2 139 μ.1 0 = 2 := by
  unfold o_kill
  rw [if_pos hc]
  exact cal_139
theorem lg_kill (h : LG μ f n g rc w A) (hn : 0 ≤ n ∧ n ≤ 500) (hc_ : IR c) (hc : 1 ≤ c ∧ c ≤ 20) : KI γ 14 mX12_kill [rv f, .int (I c)] w 46 3106 (fun r w' => -1 ≤ r ∧ ∃ B, LG μ f (n + 1) g rc w' B) (fun E w' => E = "java/lang/IllegalStateException" ∧ ∃ B, LG μ f (n + 1) g rc w' B) := by
  obtain ⟨⟨⟨p, hC⟩, hV, hB, hP, hS⟩, -⟩ := id h
  have key : ∀ w', RES μ f w w' (o_kill μ c A).2 → ∃ B, LG μ f (n + 1) g rc w' B := fun w' r => ⟨_, h.of r (RBo_kill hB (by omega) (by omega)) (PTo_kill hC hB (by omega) (by omega) (by omega) hP.1) (IVo_kill hS hB (by omega) (by omega)) (F34_kill hB (by omega) (by omega)) (F7_kill hB (by omega) (by omega))⟩
  refine (kX12_kill γ w f c p μ A _ _ _ hC hB (by omega) (by omega) (by omega) hS.1.2.2.2 hc_).imp (fun r w' z => ?_) (fun E w' z => ?_)
  · obtain ⟨z1, z2, z3⟩ := z
    exact ⟨by rw [z1]; exact an_kill hB (by omega) (by omega) hc z2, key w' z3⟩
  · obtain ⟨y, z3⟩ := z
    rcases y with ⟨z1, z2⟩ | ⟨z1, z2⟩
    · have := no_kill (μ := μ) (A := A) hc; omega
    · exact ⟨z1, key w' z3⟩
theorem an_yank {S P M : Int} (hR : RB μ S P M A) (hS : S ≤ 28900) (hP : P ≤ 500000) (h9 : (o_yank μ A).2 139 μ.1 0 = 0) : -1 ≤ (o_yank μ A).1 := by
  unfold o_yank at h9 ⊢
  exact cal_ans hR (by omega) (by omega) (by unfold CV; omega) (by decide) (by decide) h9
theorem no_yank : (o_yank μ A).2 139 μ.1 0 = 0 ∨ (o_yank μ A).2 139 μ.1 0 = 1 := by
  unfold o_yank
  exact cal_139
theorem lg_yank (h : LG μ f n g rc w A) (hn : 0 ≤ n ∧ n ≤ 500) : KI γ 14 mX12_yank [rv f] w 45 3100 (fun r w' => -1 ≤ r ∧ ∃ B, LG μ f (n + 1) g rc w' B) (fun E w' => E = "java/lang/IllegalStateException" ∧ ∃ B, LG μ f (n + 1) g rc w' B) := by
  obtain ⟨⟨⟨p, hC⟩, hV, hB, hP, hS⟩, -⟩ := id h
  have key : ∀ w', RES μ f w w' (o_yank μ A).2 → ∃ B, LG μ f (n + 1) g rc w' B := fun w' r => ⟨_, h.of r (RBo_yank hB (by omega) (by omega)) (PTo_yank hC hB (by omega) (by omega) (by omega) hP.1) (IVo_yank hS hB (by omega) (by omega)) (F34_yank hB (by omega) (by omega)) (F7_yank hB (by omega) (by omega))⟩
  refine (kX12_yank γ w f  p μ A _ _ _ hC hB (by omega) (by omega) (by omega) hS.1.2.2.2).imp (fun r w' z => ?_) (fun E w' z => ?_)
  · obtain ⟨z1, z2, z3⟩ := z
    exact ⟨by rw [z1]; exact an_yank hB (by omega) (by omega) z2, key w' z3⟩
  · obtain ⟨⟨z1, z2⟩, z3⟩ := z
    exact ⟨z1, key w' z3⟩
theorem an_rotate {S P M : Int} (hR : RB μ S P M A) (hS : S ≤ 28900) (hP : P ≤ 500000) (h9 : (o_rotate μ A).2 139 μ.1 0 = 0) : -1 ≤ (o_rotate μ A).1 := by
  unfold o_rotate at h9 ⊢
  exact cal_ans hR (by omega) (by omega) (by unfold CV; omega) (by decide) (by decide) h9
theorem no_rotate : (o_rotate μ A).2 139 μ.1 0 = 0 ∨ (o_rotate μ A).2 139 μ.1 0 = 1 := by
  unfold o_rotate
  exact cal_139
theorem lg_rotate (h : LG μ f n g rc w A) (hn : 0 ≤ n ∧ n ≤ 500) : KI γ 14 mX12_rotate [rv f] w 45 3100 (fun r w' => -1 ≤ r ∧ ∃ B, LG μ f (n + 1) g rc w' B) (fun E w' => E = "java/lang/IllegalStateException" ∧ ∃ B, LG μ f (n + 1) g rc w' B) := by
  obtain ⟨⟨⟨p, hC⟩, hV, hB, hP, hS⟩, -⟩ := id h
  have key : ∀ w', RES μ f w w' (o_rotate μ A).2 → ∃ B, LG μ f (n + 1) g rc w' B := fun w' r => ⟨_, h.of r (RBo_rotate hB (by omega) (by omega)) (PTo_rotate hC hB (by omega) (by omega) (by omega) hP.1) (IVo_rotate hS hB (by omega) (by omega)) (F34_rotate hB (by omega) (by omega)) (F7_rotate hB (by omega) (by omega))⟩
  refine (kX12_rotate γ w f  p μ A _ _ _ hC hB (by omega) (by omega) (by omega) hS.1.2.2.2).imp (fun r w' z => ?_) (fun E w' z => ?_)
  · obtain ⟨z1, z2, z3⟩ := z
    exact ⟨by rw [z1]; exact an_rotate hB (by omega) (by omega) z2, key w' z3⟩
  · obtain ⟨⟨z1, z2⟩, z3⟩ := z
    exact ⟨z1, key w' z3⟩
theorem an_copy {S P M : Int} (hR : RB μ S P M A) (hS : S ≤ 28900) (hP : P ≤ 500000) (hc : (0 ≤ c ∧ c ≤ 3) ∧ (1 ≤ k ∧ k ≤ 20)) (h9 : (o_copy μ c k A).2 139 μ.1 0 = 0) : -1 ≤ (o_copy μ c k A).1 := by
  unfold o_copy at h9 ⊢
  rw [if_pos hc.1, if_pos hc.2] at h9 ⊢
  exact cal_ans hR.o9 (by omega) (by omega) (by unfold CV; omega) (by decide) (by decide) h9
theorem no_copy (hc : (0 ≤ c ∧ c ≤ 3) ∧ (1 ≤ k ∧ k ≤ 20)) : (o_copy μ c k A).2 139 μ.1 0 = 0 ∨ (o_copy μ c k A).2 139 μ.1 0 = 3 := by
  unfold o_copy
  rw [if_pos hc.1, if_pos hc.2]
  exact cal_139
theorem lg_copy (h : LG μ f n g rc w A) (hn : 0 ≤ n ∧ n ≤ 500) (hc_ : IR c) (hk_ : IR k) (hc : (0 ≤ c ∧ c ≤ 3) ∧ (1 ≤ k ∧ k ≤ 20)) : KI γ 14 mX12_copy [rv f, .int (I c), .int (I k)] w 47 3112 (fun r w' => -1 ≤ r ∧ ∃ B, LG μ f (n + 1) g rc w' B) (fun E w' => E = "java/lang/IllegalStateException" ∧ ∃ B, LG μ f (n + 1) g rc w' B) := by
  obtain ⟨⟨⟨p, hC⟩, hV, hB, hP, hS⟩, -⟩ := id h
  have key : ∀ w', RES μ f w w' (o_copy μ c k A).2 → ∃ B, LG μ f (n + 1) g rc w' B := fun w' r => ⟨_, h.of r (RBo_copy hB (by omega) (by omega)) (PTo_copy hC hB (by omega) (by omega) (by omega) hP.1) (IVo_copy hS hB (by omega) (by omega)) (F34_copy hB (by omega) (by omega)) (F7_copy hB (by omega) (by omega))⟩
  refine (kX12_copy γ w f c k p μ A _ _ _ hC hB (by omega) (by omega) (by omega) hS.1.2.2.2 hc_ hk_).imp (fun r w' z => ?_) (fun E w' z => ?_)
  · obtain ⟨z1, z2, z3⟩ := z
    exact ⟨by rw [z1]; exact an_copy hB (by omega) (by omega) hc z2, key w' z3⟩
  · obtain ⟨y, z3⟩ := z
    rcases y with ⟨z1, z2⟩ | ⟨z1, z2⟩ | ⟨z1, z2⟩
    · have := no_copy (μ := μ) (A := A) hc; omega
    · have := no_copy (μ := μ) (A := A) hc; omega
    · exact ⟨z1, key w' z3⟩
theorem an_paste {S P M : Int} (hR : RB μ S P M A) (hS : S ≤ 28900) (hP : P ≤ 500000) (hc : 0 ≤ c ∧ c ≤ 3) (h9 : (o_paste μ c A).2 139 μ.1 0 = 0) : -1 ≤ (o_paste μ c A).1 := by
  unfold o_paste at h9 ⊢
  rw [if_pos hc] at h9 ⊢
  exact cal_ans hR.o9 (by omega) (by omega) (by unfold CV; omega) (by decide) (by decide) h9
theorem no_paste (hc : 0 ≤ c ∧ c ≤ 3) : (o_paste μ c A).2 139 μ.1 0 = 0 ∨ (o_paste μ c A).2 139 μ.1 0 = 2 := by
  unfold o_paste
  rw [if_pos hc]
  exact cal_139
theorem lg_paste (h : LG μ f n g rc w A) (hn : 0 ≤ n ∧ n ≤ 500) (hc_ : IR c) (hc : 0 ≤ c ∧ c ≤ 3) : KI γ 14 mX12_paste [rv f, .int (I c)] w 46 3106 (fun r w' => -1 ≤ r ∧ ∃ B, LG μ f (n + 1) g rc w' B) (fun E w' => E = "java/lang/IllegalStateException" ∧ ∃ B, LG μ f (n + 1) g rc w' B) := by
  obtain ⟨⟨⟨p, hC⟩, hV, hB, hP, hS⟩, -⟩ := id h
  have key : ∀ w', RES μ f w w' (o_paste μ c A).2 → ∃ B, LG μ f (n + 1) g rc w' B := fun w' r => ⟨_, h.of r (RBo_paste hB (by omega) (by omega)) (PTo_paste hC hB (by omega) (by omega) (by omega) hP.1) (IVo_paste hS hB (by omega) (by omega)) (F34_paste hB (by omega) (by omega)) (F7_paste hB (by omega) (by omega))⟩
  refine (kX12_paste γ w f c p μ A _ _ _ hC hB (by omega) (by omega) (by omega) hS.1.2.2.2 hc_).imp (fun r w' z => ?_) (fun E w' z => ?_)
  · obtain ⟨z1, z2, z3⟩ := z
    exact ⟨by rw [z1]; exact an_paste hB (by omega) (by omega) hc z2, key w' z3⟩
  · obtain ⟨y, z3⟩ := z
    rcases y with ⟨z1, z2⟩ | ⟨z1, z2⟩
    · have := no_paste (μ := μ) (A := A) hc; omega
    · exact ⟨z1, key w' z3⟩
theorem an_setMark {S P M : Int} (hR : RB μ S P M A) (hS : S ≤ 28900) (hP : P ≤ 500000) (hc : 0 ≤ c ∧ c ≤ 5) (hb2 : b = 0 ∨ b = 1) (h9 : (o_setMark μ c b A).2 139 μ.1 0 = 0) : -1 ≤ (o_setMark μ c b A).1 := by
  unfold o_setMark at h9 ⊢
  rw [if_pos hc] at h9 ⊢
  exact cal_ans hR.o9 (by omega) (by omega) (by unfold CV; omega) (by decide) (by decide) h9
theorem no_setMark (hc : 0 ≤ c ∧ c ≤ 5) : (o_setMark μ c b A).2 139 μ.1 0 = 0 ∨ (o_setMark μ c b A).2 139 μ.1 0 = 2 := by
  unfold o_setMark
  rw [if_pos hc]
  exact cal_139
theorem lg_setMark (h : LG μ f n g rc w A) (hn : 0 ≤ n ∧ n ≤ 500) (hc_ : IR c) (hb_ : IR b) (hc : 0 ≤ c ∧ c ≤ 5) (hb2 : b = 0 ∨ b = 1) : KI γ 14 mX12_setMark [rv f, .int (I c), .int (I b)] w 46 3106 (fun r w' => -1 ≤ r ∧ ∃ B, LG μ f (n + 1) g rc w' B) (fun E w' => E = "java/lang/IllegalStateException" ∧ ∃ B, LG μ f (n + 1) g rc w' B) := by
  obtain ⟨⟨⟨p, hC⟩, hV, hB, hP, hS⟩, -⟩ := id h
  have key : ∀ w', RES μ f w w' (o_setMark μ c b A).2 → ∃ B, LG μ f (n + 1) g rc w' B := fun w' r => ⟨_, h.of r (RBo_setMark hB hb2 (by omega) (by omega)) (PTo_setMark hC hB (by omega) (by omega) (by omega) hP.1 hb2) (IVo_setMark hS hB (by omega) (by omega) hb2) (F34_setMark hB (by omega) (by omega) hb2) (F7_setMark hB (by omega) (by omega) hb2)⟩
  refine (kX12_setMark γ w f c b p μ A _ _ _ hC hB (by omega) (by omega) (by omega) hS.1.2.2.2 hc_ hb_ hb2).imp (fun r w' z => ?_) (fun E w' z => ?_)
  · obtain ⟨z1, z2, z3⟩ := z
    exact ⟨by rw [z1]; exact an_setMark hB (by omega) (by omega) hc hb2 z2, key w' z3⟩
  · obtain ⟨y, z3⟩ := z
    rcases y with ⟨z1, z2⟩ | ⟨z1, z2⟩
    · have := no_setMark (μ := μ) (A := A) (b := b) hc; omega
    · exact ⟨z1, key w' z3⟩
theorem an_clearMark {S P M : Int} (hR : RB μ S P M A) (hS : S ≤ 28900) (hP : P ≤ 500000) (hc : 0 ≤ c ∧ c ≤ 5) (h9 : (o_clearMark μ c A).2 139 μ.1 0 = 0) : -1 ≤ (o_clearMark μ c A).1 := by
  unfold o_clearMark at h9 ⊢
  rw [if_pos hc] at h9 ⊢
  exact cal_ans hR.o9 (by omega) (by omega) (by unfold CV; omega) (by decide) (by decide) h9
theorem no_clearMark (hc : 0 ≤ c ∧ c ≤ 5) : (o_clearMark μ c A).2 139 μ.1 0 = 0 ∨ (o_clearMark μ c A).2 139 μ.1 0 = 2 := by
  unfold o_clearMark
  rw [if_pos hc]
  exact cal_139
theorem lg_clearMark (h : LG μ f n g rc w A) (hn : 0 ≤ n ∧ n ≤ 500) (hc_ : IR c) (hc : 0 ≤ c ∧ c ≤ 5) : KI γ 14 mX12_clearMark [rv f, .int (I c)] w 46 3106 (fun r w' => -1 ≤ r ∧ ∃ B, LG μ f (n + 1) g rc w' B) (fun E w' => E = "java/lang/IllegalStateException" ∧ ∃ B, LG μ f (n + 1) g rc w' B) := by
  obtain ⟨⟨⟨p, hC⟩, hV, hB, hP, hS⟩, -⟩ := id h
  have key : ∀ w', RES μ f w w' (o_clearMark μ c A).2 → ∃ B, LG μ f (n + 1) g rc w' B := fun w' r => ⟨_, h.of r (RBo_clearMark hB (by omega) (by omega)) (PTo_clearMark hC hB (by omega) (by omega) (by omega) hP.1) (IVo_clearMark hS hB (by omega) (by omega)) (F34_clearMark hB (by omega) (by omega)) (F7_clearMark hB (by omega) (by omega))⟩
  refine (kX12_clearMark γ w f c p μ A _ _ _ hC hB (by omega) (by omega) (by omega) hS.1.2.2.2 hc_).imp (fun r w' z => ?_) (fun E w' z => ?_)
  · obtain ⟨z1, z2, z3⟩ := z
    exact ⟨by rw [z1]; exact an_clearMark hB (by omega) (by omega) hc z2, key w' z3⟩
  · obtain ⟨y, z3⟩ := z
    rcases y with ⟨z1, z2⟩ | ⟨z1, z2⟩
    · have := no_clearMark (μ := μ) (A := A) hc; omega
    · exact ⟨z1, key w' z3⟩
theorem an_jump {S P M : Int} (hR : RB μ S P M A) (hS : S ≤ 28900) (hP : P ≤ 500000) (hc : 0 ≤ c ∧ c ≤ 5) (h9 : (o_jump μ c A).2 139 μ.1 0 = 0) : -1 ≤ (o_jump μ c A).1 := by
  unfold o_jump at h9 ⊢
  rw [if_pos hc] at h9 ⊢
  exact cal_ans hR.o9 (by omega) (by omega) (by unfold CV; omega) (by decide) (by decide) h9
theorem no_jump (hc : 0 ≤ c ∧ c ≤ 5) : (o_jump μ c A).2 139 μ.1 0 = 0 ∨ (o_jump μ c A).2 139 μ.1 0 = 2 := by
  unfold o_jump
  rw [if_pos hc]
  exact cal_139
theorem lg_jump (h : LG μ f n g rc w A) (hn : 0 ≤ n ∧ n ≤ 500) (hc_ : IR c) (hc : 0 ≤ c ∧ c ≤ 5) : KI γ 14 mX12_jump [rv f, .int (I c)] w 46 3106 (fun r w' => -1 ≤ r ∧ ∃ B, LG μ f (n + 1) g rc w' B) (fun E w' => E = "java/lang/IllegalStateException" ∧ ∃ B, LG μ f (n + 1) g rc w' B) := by
  obtain ⟨⟨⟨p, hC⟩, hV, hB, hP, hS⟩, -⟩ := id h
  have key : ∀ w', RES μ f w w' (o_jump μ c A).2 → ∃ B, LG μ f (n + 1) g rc w' B := fun w' r => ⟨_, h.of r (RBo_jump hB (by omega) (by omega)) (PTo_jump hC hB (by omega) (by omega) (by omega) hP.1) (IVo_jump hS hB (by omega) (by omega)) (F34_jump hB (by omega) (by omega)) (F7_jump hB (by omega) (by omega))⟩
  refine (kX12_jump γ w f c p μ A _ _ _ hC hB (by omega) (by omega) (by omega) hS.1.2.2.2 hc_).imp (fun r w' z => ?_) (fun E w' z => ?_)
  · obtain ⟨z1, z2, z3⟩ := z
    exact ⟨by rw [z1]; exact an_jump hB (by omega) (by omega) hc z2, key w' z3⟩
  · obtain ⟨y, z3⟩ := z
    rcases y with ⟨z1, z2⟩ | ⟨z1, z2⟩
    · have := no_jump (μ := μ) (A := A) hc; omega
    · exact ⟨z1, key w' z3⟩
theorem an_narrow {S P M : Int} (hR : RB μ S P M A) (hS : S ≤ 28900) (hP : P ≤ 500000) (hc : 0 ≤ c ∧ c ≤ 5) (h9 : (o_narrow μ c A).2 139 μ.1 0 = 0) : -1 ≤ (o_narrow μ c A).1 := by
  unfold o_narrow at h9 ⊢
  rw [if_pos hc] at h9 ⊢
  exact cal_ans hR.o9 (by omega) (by omega) (by unfold CV; omega) (by decide) (by decide) h9
theorem no_narrow (hc : 0 ≤ c ∧ c ≤ 5) : (o_narrow μ c A).2 139 μ.1 0 = 0 ∨ (o_narrow μ c A).2 139 μ.1 0 = 2 := by
  unfold o_narrow
  rw [if_pos hc]
  exact cal_139
theorem lg_narrow (h : LG μ f n g rc w A) (hn : 0 ≤ n ∧ n ≤ 500) (hc_ : IR c) (hc : 0 ≤ c ∧ c ≤ 5) : KI γ 14 mX12_narrow [rv f, .int (I c)] w 46 3106 (fun r w' => -1 ≤ r ∧ ∃ B, LG μ f (n + 1) g rc w' B) (fun E w' => E = "java/lang/IllegalStateException" ∧ ∃ B, LG μ f (n + 1) g rc w' B) := by
  obtain ⟨⟨⟨p, hC⟩, hV, hB, hP, hS⟩, -⟩ := id h
  have key : ∀ w', RES μ f w w' (o_narrow μ c A).2 → ∃ B, LG μ f (n + 1) g rc w' B := fun w' r => ⟨_, h.of r (RBo_narrow hB (by omega) (by omega)) (PTo_narrow hC hB (by omega) (by omega) (by omega) hP.1) (IVo_narrow hS hB (by omega) (by omega)) (F34_narrow hB (by omega) (by omega)) (F7_narrow hB (by omega) (by omega))⟩
  refine (kX12_narrow γ w f c p μ A _ _ _ hC hB (by omega) (by omega) (by omega) hS.1.2.2.2 hc_).imp (fun r w' z => ?_) (fun E w' z => ?_)
  · obtain ⟨z1, z2, z3⟩ := z
    exact ⟨by rw [z1]; exact an_narrow hB (by omega) (by omega) hc z2, key w' z3⟩
  · obtain ⟨y, z3⟩ := z
    rcases y with ⟨z1, z2⟩ | ⟨z1, z2⟩
    · have := no_narrow (μ := μ) (A := A) hc; omega
    · exact ⟨z1, key w' z3⟩
theorem an_widen {S P M : Int} (hR : RB μ S P M A) (hS : S ≤ 28900) (hP : P ≤ 500000) (h9 : (o_widen μ A).2 139 μ.1 0 = 0) : -1 ≤ (o_widen μ A).1 := by
  unfold o_widen at h9 ⊢
  exact cal_ans hR (by omega) (by omega) (by unfold CV; omega) (by decide) (by decide) h9
theorem no_widen : (o_widen μ A).2 139 μ.1 0 = 0 ∨ (o_widen μ A).2 139 μ.1 0 = 1 := by
  unfold o_widen
  exact cal_139
theorem lg_widen (h : LG μ f n g rc w A) (hn : 0 ≤ n ∧ n ≤ 500) : KI γ 14 mX12_widen [rv f] w 45 3100 (fun r w' => -1 ≤ r ∧ ∃ B, LG μ f (n + 1) g rc w' B) (fun E w' => E = "java/lang/IllegalStateException" ∧ ∃ B, LG μ f (n + 1) g rc w' B) := by
  obtain ⟨⟨⟨p, hC⟩, hV, hB, hP, hS⟩, -⟩ := id h
  have key : ∀ w', RES μ f w w' (o_widen μ A).2 → ∃ B, LG μ f (n + 1) g rc w' B := fun w' r => ⟨_, h.of r (RBo_widen hB (by omega) (by omega)) (PTo_widen hC hB (by omega) (by omega) (by omega) hP.1) (IVo_widen hS hB (by omega) (by omega)) (F34_widen hB (by omega) (by omega)) (F7_widen hB (by omega) (by omega))⟩
  refine (kX12_widen γ w f  p μ A _ _ _ hC hB (by omega) (by omega) (by omega) hS.1.2.2.2).imp (fun r w' z => ?_) (fun E w' z => ?_)
  · obtain ⟨z1, z2, z3⟩ := z
    exact ⟨by rw [z1]; exact an_widen hB (by omega) (by omega) z2, key w' z3⟩
  · obtain ⟨⟨z1, z2⟩, z3⟩ := z
    exact ⟨z1, key w' z3⟩
end LGS
