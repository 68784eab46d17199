/-! each call of the law: commands -/
section LO1
variable {γ : LC} {w A : Mm} {μ : MU} {f o n c k a b d m : Int}
theorem lo_insert (hI : LIn μ f (56 * n) (600 * n) (1 + n) w A) (hR : RM w μ) (hO : OUT o w) (hn : 0 ≤ n ∧ n ≤ 511) (hW : WI w) (hc_ : IR c) : KI γ 14 mX12_insert [rv f, .int (I c)] w 48 3300 (fun r w' => QMi γ μ f o n mX13_insert [.int (I c)] 0 r w') (fun E w' => (E = "java/lang/IllegalArgumentException" ∧ ∃ r, QMi γ μ f o n mX13_insert [.int (I c)] 1 r w') ∨ (E = "java/lang/IllegalStateException" ∧ ∃ r, QMi γ μ f o n mX13_insert [.int (I c)] 2 r w')) := by
  obtain ⟨⟨p, hC⟩, hV, hB, hP, hS, -, -⟩ := id hI
  have h211 : KLw μ 211 0 = false := KLw_f (by decide) (Or.inl rfl)
  have key : ∀ w', RES μ f w w' (o_insert μ c A).2 → ∀ kq, (o_insert μ c A).2 139 μ.1 0 = kq → QMi γ μ f o n mX13_insert [.int (I c)] kq (o_insert μ c A).1 w' := fun w' r kq hkq => by
    obtain ⟨mq, hf, hR'⟩ := MID.of hI hR hO r (RBo_insert hB (by omega) (by omega)) ((ins_ok hC hS hB (by omega) (by omega) (by omega) hP.1).2) ((ins_ok hC hS hB (by omega) (by omega) (by omega) hP.1).1) (F34_insert hB (by omega) (by omega))
    exact QMi.mk (ox := (fun x => o_insert μ c x)) (by decide) mq hf (fun _ => lq_oinsert KLw_ok h211 c) hR' (fun W hf => c_insert γ μ W c _ _ _ hc_ (hf.cv hB.pcl) (by omega) (by omega) (by omega)) hkq
  refine (kX12_insert γ w f c p μ A _ _ _ hC hB (by omega) (by omega) (by omega) hS.1.2.2.2 hc_ hS.1.1 hS.2).imp (fun r w' z => ?_) (fun E w' z => ?_)
  · obtain ⟨z1, z2, z3⟩ := z
    rw [z1]; exact key w' z3 0 z2
  · obtain ⟨y, z3⟩ := z
    rcases y with ⟨z1, z2⟩ | ⟨z1, z2⟩
    · exact Or.inl ⟨z1, _, key w' z3 1 z2⟩
    · exact Or.inr (⟨z1, _, key w' z3 2 z2⟩)
theorem lo_overwrite (hI : LIn μ f (56 * n) (600 * n) (1 + n) w A) (hR : RM w μ) (hO : OUT o w) (hn : 0 ≤ n ∧ n ≤ 511) (hW : WI w) (hc_ : IR c) : KI γ 14 mX12_overwrite [rv f, .int (I c)] w 46 3106 (fun r w' => QMi γ μ f o n mX13_overwrite [.int (I c)] 0 r w') (fun E w' => (E = "java/lang/IllegalArgumentException" ∧ ∃ r, QMi γ μ f o n mX13_overwrite [.int (I c)] 1 r w') ∨ (E = "java/lang/IllegalStateException" ∧ ∃ r, QMi γ μ f o n mX13_overwrite [.int (I c)] 2 r w')) := by
  obtain ⟨⟨p, hC⟩, hV, hB, hP, hS, -, -⟩ := id hI
  have h211 : KLw μ 211 0 = false := KLw_f (by decide) (Or.inl rfl)
  have key : ∀ w', RES μ f w w' (o_overwrite μ c A).2 → ∀ kq, (o_overwrite μ c A).2 139 μ.1 0 = kq → QMi γ μ f o n mX13_overwrite [.int (I c)] kq (o_overwrite μ c A).1 w' := fun w' r kq hkq => by
    obtain ⟨mq, hf, hR'⟩ := MID.of hI hR hO r (RBo_overwrite hB (by omega) (by omega)) (PTo_overwrite hC hB (by omega) (by omega) (by omega) hP.1) (IVo_overwrite hS hB (by omega) (by omega)) (F34_overwrite hB (by omega) (by omega))
    exact QMi.mk (ox := (fun x => o_overwrite μ c x)) (by decide) mq hf (fun _ => lq_ooverwrite KLw_ok h211 c) hR' (fun W hf => c_overwrite γ μ W c _ _ _ hc_ (hf.cv hB.pcl) (by omega) (by omega) (by omega)) hkq
  refine (kX12_overwrite γ w f c p μ A _ _ _ hC hB (by omega) (by omega) (by omega) hS.1.2.2.2 hc_).imp (fun r w' z => ?_) (fun E w' z => ?_)
  · obtain ⟨z1, z2, z3⟩ := z
    rw [z1]; exact key w' z3 0 z2
  · obtain ⟨y, z3⟩ := z
    rcases y with ⟨z1, z2⟩ | ⟨z1, z2⟩
    · exact Or.inl ⟨z1, _, key w' z3 1 z2⟩
    · exact Or.inr (⟨z1, _, key w' z3 2 z2⟩)
theorem lo_delete (hI : LIn μ f (56 * n) (600 * n) (1 + n) w A) (hR : RM w μ) (hO : OUT o w) (hn : 0 ≤ n ∧ n ≤ 511) (hW : WI w) (hc_ : IR c) : KI γ 14 mX12_delete [rv f, .int (I c)] w 46 3106 (fun r w' => QMi γ μ f o n mX13_delete [.int (I c)] 0 r w') (fun E w' => (E = "java/lang/IllegalArgumentException" ∧ ∃ r, QMi γ μ f o n mX13_delete [.int (I c)] 1 r w') ∨ (E = "java/lang/IllegalStateException" ∧ ∃ r, QMi γ μ f o n mX13_delete [.int (I c)] 2 r w')) := by
  obtain ⟨⟨p, hC⟩, hV, hB, hP, hS, -, -⟩ := id hI
  have h211 : KLw μ 211 0 = false := KLw_f (by decide) (Or.inl rfl)
  have key : ∀ w', RES μ f w w' (o_delete μ c A).2 → ∀ kq, (o_delete μ c A).2 139 μ.1 0 = kq → QMi γ μ f o n mX13_delete [.int (I c)] kq (o_delete μ c A).1 w' := fun w' r kq hkq => by
    obtain ⟨mq, hf, hR'⟩ := MID.of hI hR hO r (RBo_delete hB (by omega) (by omega)) (PTo_delete hC hB (by omega) (by omega) (by omega) hP.1) (IVo_delete hS hB (by omega) (by omega)) (F34_delete hB (by omega) (by omega))
    exact QMi.mk (ox := (fun x => o_delete μ c x)) (by decide) mq hf (fun _ => lq_odelete KLw_ok h211 c) hR' (fun W hf => c_delete γ μ W c _ _ _ hc_ (hf.cv hB.pcl) (by omega) (by omega) (by omega)) hkq
  refine (kX12_delete γ w f c p μ A _ _ _ hC hB (by omega) (by omega) (by omega) hS.1.2.2.2 hc_).imp (fun r w' z => ?_) (fun E w' z => ?_)
  · obtain ⟨z1, z2, z3⟩ := z
    rw [z1]; exact key w' z3 0 z2
  · obtain ⟨y, z3⟩ := z
    rcases y with ⟨z1, z2⟩ | ⟨z1, z2⟩
    · exact Or.inl ⟨z1, _, key w' z3 1 z2⟩
    · exact Or.inr (⟨z1, _, key w' z3 2 z2⟩)
theorem lo_move (hI : LIn μ f (56 * n) (600 * n) (1 + n) w A) (hR : RM w μ) (hO : OUT o w) (hn : 0 ≤ n ∧ n ≤ 511) (hW : WI w) (hc_ : IR c) : KI γ 14 mX12_move [rv f, .int (I c)] w 46 3106 (fun r w' => QMi γ μ f o n mX13_move [.int (I c)] 0 r w') (fun E w' => (E = "java/lang/IllegalArgumentException" ∧ ∃ r, QMi γ μ f o n mX13_move [.int (I c)] 1 r w') ∨ (E = "java/lang/IllegalStateException" ∧ ∃ r, QMi γ μ f o n mX13_move [.int (I c)] 2 r w')) := by
  obtain ⟨⟨p, hC⟩, hV, hB, hP, hS, -, -⟩ := id hI
  have h211 : KLw μ 211 0 = false := KLw_f (by decide) (Or.inl rfl)
  have key : ∀ w', RES μ f w w' (o_move μ c A).2 → ∀ kq, (o_move μ c A).2 139 μ.1 0 = kq → QMi γ μ f o n mX13_move [.int (I c)] kq (o_move μ c A).1 w' := fun w' r kq hkq => by
    obtain ⟨mq, hf, hR'⟩ := MID.of hI hR hO r (RBo_move hB (by omega) (by omega)) (PTo_move hC hB (by omega) (by omega) (by omega) hP.1) (IVo_move hS hB (by omega) (by omega)) (F34_move hB (by omega) (by omega))
    exact QMi.mk (ox := (fun x => o_move μ c x)) (by decide) mq hf (fun _ => lq_omove KLw_ok h211 c) hR' (fun W hf => c_move γ μ W c _ _ _ hc_ (hf.cv hB.pcl) (by omega) (by omega) (by omega)) hkq
  refine (kX12_move γ w f c p μ A _ _ _ hC hB (by omega) (by omega) (by omega) hS.1.2.2.2 hc_).imp (fun r w' z => ?_) (fun E w' z => ?_)
  · obtain ⟨z1, z2, z3⟩ := z
    rw [z1]; exact key w' z3 0 z2
  · obtain ⟨y, z3⟩ := z
    rcases y with ⟨z1, z2⟩ | ⟨z1, z2⟩
    · exact Or.inl ⟨z1, _, key w' z3 1 z2⟩
    · exact Or.inr (⟨z1, _, key w' z3 2 z2⟩)
theorem lo_search (hI : LIn μ f (56 * n) (600 * n) (1 + n) w A) (hR : RM w μ) (hO : OUT o w) (hn : 0 ≤ n ∧ n ≤ 511) (hW : WI w) (hc_ : IR c) : KI γ 14 mX12_search [rv f, .int (I c)] w 46 3106 (fun r w' => QMi γ μ f o n mX13_search [.int (I c)] 0 r w') (fun E w' => (E = "java/lang/IllegalArgumentException" ∧ ∃ r, QMi γ μ f o n mX13_search [.int (I c)] 1 r w') ∨ (E = "java/lang/IllegalStateException" ∧ ∃ r, QMi γ μ f o n mX13_search [.int (I c)] 2 r w')) := by
  obtain ⟨⟨p, hC⟩, hV, hB, hP, hS, -, -⟩ := id hI
  have h211 : KLw μ 211 0 = false := KLw_f (by decide) (Or.inl rfl)
  have key : ∀ w', RES μ f w w' (o_search μ c A).2 → ∀ kq, (o_search μ c A).2 139 μ.1 0 = kq → QMi γ μ f o n mX13_search [.int (I c)] kq (o_search μ c A).1 w' := fun w' r kq hkq => by
    obtain ⟨mq, hf, hR'⟩ := MID.of hI hR hO r (RBo_search hB (by omega) (by omega)) (PTo_search hC hB (by omega) (by omega) (by omega) hP.1) (IVo_search hS hB (by omega) (by omega)) (F34_search hB (by omega) (by omega))
    exact QMi.mk (ox := (fun x => o_search μ c x)) (by decide) mq hf (fun _ => lq_osearch KLw_ok h211 c) hR' (fun W hf => c_search γ μ W c _ _ _ hc_ (hf.cv hB.pcl) (by omega) (by omega) (by omega)) hkq
  refine (kX12_search γ w f c p μ A _ _ _ hC hB (by omega) (by omega) (by omega) hS.1.2.2.2 hc_).imp (fun r w' z => ?_) (fun E w' z => ?_)
  · obtain ⟨z1, z2, z3⟩ := z
    rw [z1]; exact key w' z3 0 z2
  · obtain ⟨y, z3⟩ := z
    rcases y with ⟨z1, z2⟩ | ⟨z1, z2⟩
    · exact Or.inl ⟨z1, _, key w' z3 1 z2⟩
    · exact Or.inr (⟨z1, _, key w' z3 2 z2⟩)
theorem lo_kill (hI : LIn μ f (56 * n) (600 * n) (1 + n) w A) (hR : RM w μ) (hO : OUT o w) (hn : 0 ≤ n ∧ n ≤ 511) (hW : WI w) (hc_ : IR c) : KI γ 14 mX12_kill [rv f, .int (I c)] w 46 3106 (fun r w' => QMi γ μ f o n mX13_kill [.int (I c)] 0 r w') (fun E w' => (E = "java/lang/IllegalArgumentException" ∧ ∃ r, QMi γ μ f o n mX13_kill [.int (I c)] 1 r w') ∨ (E = "java/lang/IllegalStateException" ∧ ∃ r, QMi γ μ f o n mX13_kill [.int (I c)] 2 r w')) := by
  obtain ⟨⟨p, hC⟩, hV, hB, hP, hS, -, -⟩ := id hI
  have h211 : KLw μ 211 0 = false := KLw_f (by decide) (Or.inl rfl)
  have key : ∀ w', RES μ f w w' (o_kill μ c A).2 → ∀ kq, (o_kill μ c A).2 139 μ.1 0 = kq → QMi γ μ f o n mX13_kill [.int (I c)] kq (o_kill μ c A).1 w' := fun w' r kq hkq => by
    obtain ⟨mq, hf, hR'⟩ := MID.of hI hR hO r (RBo_kill hB (by omega) (by omega)) (PTo_kill hC hB (by omega) (by omega) (by omega) hP.1) (IVo_kill hS hB (by omega) (by omega)) (F34_kill hB (by omega) (by omega))
    exact QMi.mk (ox := (fun x => o_kill μ c x)) (by decide) mq hf (fun _ => lq_okill KLw_ok h211 c) hR' (fun W hf => c_kill γ μ W c _ _ _ hc_ (hf.cv hB.pcl) (by omega) (by omega) (by omega)) hkq
  refine (kX12_kill γ w f c p μ A _ _ _ hC hB (by omega) (by omega) (by omega) hS.1.2.2.2 hc_).imp (fun r w' z => ?_) (fun E w' z => ?_)
  · obtain ⟨z1, z2, z3⟩ := z
    rw [z1]; exact key w' z3 0 z2
  · obtain ⟨y, z3⟩ := z
    rcases y with ⟨z1, z2⟩ | ⟨z1, z2⟩
    · exact Or.inl ⟨z1, _, key w' z3 1 z2⟩
    · exact Or.inr (⟨z1, _, key w' z3 2 z2⟩)
theorem lo_yank (hI : LIn μ f (56 * n) (600 * n) (1 + n) w A) (hR : RM w μ) (hO : OUT o w) (hn : 0 ≤ n ∧ n ≤ 511) (hW : WI w) : KI γ 14 mX12_yank [rv f] w 45 3100 (fun r w' => QMi γ μ f o n mX13_yank [] 0 r w') (fun E w' => (E = "java/lang/IllegalStateException" ∧ ∃ r, QMi γ μ f o n mX13_yank [] 1 r w')) := by
  obtain ⟨⟨p, hC⟩, hV, hB, hP, hS, -, -⟩ := id hI
  have h211 : KLw μ 211 0 = false := KLw_f (by decide) (Or.inl rfl)
  have key : ∀ w', RES μ f w w' (o_yank μ A).2 → ∀ kq, (o_yank μ A).2 139 μ.1 0 = kq → QMi γ μ f o n mX13_yank [] kq (o_yank μ A).1 w' := fun w' r kq hkq => by
    obtain ⟨mq, hf, hR'⟩ := MID.of hI hR hO r (RBo_yank hB (by omega) (by omega)) (PTo_yank hC hB (by omega) (by omega) (by omega) hP.1) (IVo_yank hS hB (by omega) (by omega)) (F34_yank hB (by omega) (by omega))
    exact QMi.mk (ox := (fun x => o_yank μ x)) (by decide) mq hf (fun _ => lq_oyank KLw_ok h211) hR' (fun W hf => c_yank γ μ W  _ _ _  (hf.cv hB.pcl) (by omega) (by omega) (by omega)) hkq
  refine (kX12_yank γ w f  p μ A _ _ _ hC hB (by omega) (by omega) (by omega) hS.1.2.2.2 ).imp (fun r w' z => ?_) (fun E w' z => ?_)
  · obtain ⟨z1, z2, z3⟩ := z
    rw [z1]; exact key w' z3 0 z2
  · obtain ⟨⟨z1, z2⟩, z3⟩ := z
    exact ⟨z1, _, key w' z3 1 z2⟩
theorem lo_rotate (hI : LIn μ f (56 * n) (600 * n) (1 + n) w A) (hR : RM w μ) (hO : OUT o w) (hn : 0 ≤ n ∧ n ≤ 511) (hW : WI w) : KI γ 14 mX12_rotate [rv f] w 45 3100 (fun r w' => QMi γ μ f o n mX13_rotate [] 0 r w') (fun E w' => (E = "java/lang/IllegalStateException" ∧ ∃ r, QMi γ μ f o n mX13_rotate [] 1 r w')) := by
  obtain ⟨⟨p, hC⟩, hV, hB, hP, hS, -, -⟩ := id hI
  have h211 : KLw μ 211 0 = false := KLw_f (by decide) (Or.inl rfl)
  have key : ∀ w', RES μ f w w' (o_rotate μ A).2 → ∀ kq, (o_rotate μ A).2 139 μ.1 0 = kq → QMi γ μ f o n mX13_rotate [] kq (o_rotate μ A).1 w' := fun w' r kq hkq => by
    obtain ⟨mq, hf, hR'⟩ := MID.of hI hR hO r (RBo_rotate hB (by omega) (by omega)) (PTo_rotate hC hB (by omega) (by omega) (by omega) hP.1) (IVo_rotate hS hB (by omega) (by omega)) (F34_rotate hB (by omega) (by omega))
    exact QMi.mk (ox := (fun x => o_rotate μ x)) (by decide) mq hf (fun _ => lq_orotate KLw_ok h211) hR' (fun W hf => c_rotate γ μ W  _ _ _  (hf.cv hB.pcl) (by omega) (by omega) (by omega)) hkq
  refine (kX12_rotate γ w f  p μ A _ _ _ hC hB (by omega) (by omega) (by omega) hS.1.2.2.2 ).imp (fun r w' z => ?_) (fun E w' z => ?_)
  · obtain ⟨z1, z2, z3⟩ := z
    rw [z1]; exact key w' z3 0 z2
  · obtain ⟨⟨z1, z2⟩, z3⟩ := z
    exact ⟨z1, _, key w' z3 1 z2⟩
theorem lo_copy (hI : LIn μ f (56 * n) (600 * n) (1 + n) w A) (hR : RM w μ) (hO : OUT o w) (hn : 0 ≤ n ∧ n ≤ 511) (hW : WI w) (hc_ : IR c) (hk_ : IR k) : KI γ 14 mX12_copy [rv f, .int (I c), .int (I k)] w 47 3112 (fun r w' => QMi γ μ f o n mX13_copy [.int (I c), .int (I k)] 0 r w') (fun E w' => (E = "java/lang/IndexOutOfBoundsException" ∧ ∃ r, QMi γ μ f o n mX13_copy [.int (I c), .int (I k)] 1 r w') ∨ (E = "java/lang/IllegalArgumentException" ∧ ∃ r, QMi γ μ f o n mX13_copy [.int (I c), .int (I k)] 2 r w') ∨ (E = "java/lang/IllegalStateException" ∧ ∃ r, QMi γ μ f o n mX13_copy [.int (I c), .int (I k)] 3 r w')) := by
  obtain ⟨⟨p, hC⟩, hV, hB, hP, hS, -, -⟩ := id hI
  have h211 : KLw μ 211 0 = false := KLw_f (by decide) (Or.inl rfl)
  have key : ∀ w', RES μ f w w' (o_copy μ c k A).2 → ∀ kq, (o_copy μ c k A).2 139 μ.1 0 = kq → QMi γ μ f o n mX13_copy [.int (I c), .int (I k)] kq (o_copy μ c k A).1 w' := fun w' r kq hkq => by
    obtain ⟨mq, hf, hR'⟩ := MID.of hI hR hO r (RBo_copy hB (by omega) (by omega)) (PTo_copy hC hB (by omega) (by omega) (by omega) hP.1) (IVo_copy hS hB (by omega) (by omega)) (F34_copy hB (by omega) (by omega))
    exact QMi.mk (ox := (fun x => o_copy μ c k x)) (by decide) mq hf (fun _ => lq_ocopy KLw_ok h211 c k) hR' (fun W hf => c_copy γ μ W c k _ _ _ hc_ hk_ (hf.cv hB.pcl) (by omega) (by omega) (by omega)) hkq
  refine (kX12_copy γ w f c k p μ A _ _ _ hC hB (by omega) (by omega) (by omega) hS.1.2.2.2 hc_ hk_).imp (fun r w' z => ?_) (fun E w' z => ?_)
  · obtain ⟨z1, z2, z3⟩ := z
    rw [z1]; exact key w' z3 0 z2
  · obtain ⟨y, z3⟩ := z
    rcases y with ⟨z1, z2⟩ | ⟨z1, z2⟩ | ⟨z1, z2⟩
    · exact Or.inl ⟨z1, _, key w' z3 1 z2⟩
    · exact Or.inr (Or.inl ⟨z1, _, key w' z3 2 z2⟩)
    · exact Or.inr (Or.inr (⟨z1, _, key w' z3 3 z2⟩))
theorem lo_paste (hI : LIn μ f (56 * n) (600 * n) (1 + n) w A) (hR : RM w μ) (hO : OUT o w) (hn : 0 ≤ n ∧ n ≤ 511) (hW : WI w) (hc_ : IR c) : KI γ 14 mX12_paste [rv f, .int (I c)] w 46 3106 (fun r w' => QMi γ μ f o n mX13_paste [.int (I c)] 0 r w') (fun E w' => (E = "java/lang/IndexOutOfBoundsException" ∧ ∃ r, QMi γ μ f o n mX13_paste [.int (I c)] 1 r w') ∨ (E = "java/lang/IllegalStateException" ∧ ∃ r, QMi γ μ f o n mX13_paste [.int (I c)] 2 r w')) := by
  obtain ⟨⟨p, hC⟩, hV, hB, hP, hS, -, -⟩ := id hI
  have h211 : KLw μ 211 0 = false := KLw_f (by decide) (Or.inl rfl)
  have key : ∀ w', RES μ f w w' (o_paste μ c A).2 → ∀ kq, (o_paste μ c A).2 139 μ.1 0 = kq → QMi γ μ f o n mX13_paste [.int (I c)] kq (o_paste μ c A).1 w' := fun w' r kq hkq => by
    obtain ⟨mq, hf, hR'⟩ := MID.of hI hR hO r (RBo_paste hB (by omega) (by omega)) (PTo_paste hC hB (by omega) (by omega) (by omega) hP.1) (IVo_paste hS hB (by omega) (by omega)) (F34_paste hB (by omega) (by omega))
    exact QMi.mk (ox := (fun x => o_paste μ c x)) (by decide) mq hf (fun _ => lq_opaste KLw_ok h211 c) hR' (fun W hf => c_paste γ μ W c _ _ _ hc_ (hf.cv hB.pcl) (by omega) (by omega) (by omega)) hkq
  refine (kX12_paste γ w f c p μ A _ _ _ hC hB (by omega) (by omega) (by omega) hS.1.2.2.2 hc_).imp (fun r w' z => ?_) (fun E w' z => ?_)
  · obtain ⟨z1, z2, z3⟩ := z
    rw [z1]; exact key w' z3 0 z2
  · obtain ⟨y, z3⟩ := z
    rcases y with ⟨z1, z2⟩ | ⟨z1, z2⟩
    · exact Or.inl ⟨z1, _, key w' z3 1 z2⟩
    · exact Or.inr (⟨z1, _, key w' z3 2 z2⟩)
theorem lo_setMark (hI : LIn μ f (56 * n) (600 * n) (1 + n) w A) (hR : RM w μ) (hO : OUT o w) (hn : 0 ≤ n ∧ n ≤ 511) (hW : WI w) (hc_ : IR c) (hb_ : IR b) (hb2 : b = 0 ∨ b = 1) : KI γ 14 mX12_setMark [rv f, .int (I c), .int (I b)] w 46 3106 (fun r w' => QMi γ μ f o n mX13_setMark [.int (I c), .int (I b)] 0 r w') (fun E w' => (E = "java/lang/IndexOutOfBoundsException" ∧ ∃ r, QMi γ μ f o n mX13_setMark [.int (I c), .int (I b)] 1 r w') ∨ (E = "java/lang/IllegalStateException" ∧ ∃ r, QMi γ μ f o n mX13_setMark [.int (I c), .int (I b)] 2 r w')) := by
  obtain ⟨⟨p, hC⟩, hV, hB, hP, hS, -, -⟩ := id hI
  have h211 : KLw μ 211 0 = false := KLw_f (by decide) (Or.inl rfl)
  have key : ∀ w', RES μ f w w' (o_setMark μ c b A).2 → ∀ kq, (o_setMark μ c b A).2 139 μ.1 0 = kq → QMi γ μ f o n mX13_setMark [.int (I c), .int (I b)] kq (o_setMark μ c b A).1 w' := fun w' r kq hkq => by
    obtain ⟨mq, hf, hR'⟩ := MID.of hI hR hO r (RBo_setMark hB hb2 (by omega) (by omega)) (PTo_setMark hC hB (by omega) (by omega) (by omega) hP.1 hb2) (IVo_setMark hS hB (by omega) (by omega) hb2) (F34_setMark hB (by omega) (by omega) hb2)
    exact QMi.mk (ox := (fun x => o_setMark μ c b x)) (by decide) mq hf (fun _ => lq_osetMark KLw_ok h211 c b) hR' (fun W hf => c_setMark γ μ W c b _ _ _ hc_ hb2 (hf.cv hB.pcl) (by omega) (by omega) (by omega)) hkq
  refine (kX12_setMark γ w f c b p μ A _ _ _ hC hB (by omega) (by omega) (by omega) hS.1.2.2.2 hc_ hb_ hb2).imp (fun r w' z => ?_) (fun E w' z => ?_)
  · obtain ⟨z1, z2, z3⟩ := z
    rw [z1]; exact key w' z3 0 z2
  · obtain ⟨y, z3⟩ := z
    rcases y with ⟨z1, z2⟩ | ⟨z1, z2⟩
    · exact Or.inl ⟨z1, _, key w' z3 1 z2⟩
    · exact Or.inr (⟨z1, _, key w' z3 2 z2⟩)
theorem lo_clearMark (hI : LIn μ f (56 * n) (600 * n) (1 + n) w A) (hR : RM w μ) (hO : OUT o w) (hn : 0 ≤ n ∧ n ≤ 511) (hW : WI w) (hc_ : IR c) : KI γ 14 mX12_clearMark [rv f, .int (I c)] w 46 3106 (fun r w' => QMi γ μ f o n mX13_clearMark [.int (I c)] 0 r w') (fun E w' => (E = "java/lang/IndexOutOfBoundsException" ∧ ∃ r, QMi γ μ f o n mX13_clearMark [.int (I c)] 1 r w') ∨ (E = "java/lang/IllegalStateException" ∧ ∃ r, QMi γ μ f o n mX13_clearMark [.int (I c)] 2 r w')) := by
  obtain ⟨⟨p, hC⟩, hV, hB, hP, hS, -, -⟩ := id hI
  have h211 : KLw μ 211 0 = false := KLw_f (by decide) (Or.inl rfl)
  have key : ∀ w', RES μ f w w' (o_clearMark μ c A).2 → ∀ kq, (o_clearMark μ c A).2 139 μ.1 0 = kq → QMi γ μ f o n mX13_clearMark [.int (I c)] kq (o_clearMark μ c A).1 w' := fun w' r kq hkq => by
    obtain ⟨mq, hf, hR'⟩ := MID.of hI hR hO r (RBo_clearMark hB (by omega) (by omega)) (PTo_clearMark hC hB (by omega) (by omega) (by omega) hP.1) (IVo_clearMark hS hB (by omega) (by omega)) (F34_clearMark hB (by omega) (by omega))
    exact QMi.mk (ox := (fun x => o_clearMark μ c x)) (by decide) mq hf (fun _ => lq_oclearMark KLw_ok h211 c) hR' (fun W hf => c_clearMark γ μ W c _ _ _ hc_ (hf.cv hB.pcl) (by omega) (by omega) (by omega)) hkq
  refine (kX12_clearMark γ w f c p μ A _ _ _ hC hB (by omega) (by omega) (by omega) hS.1.2.2.2 hc_).imp (fun r w' z => ?_) (fun E w' z => ?_)
  · obtain ⟨z1, z2, z3⟩ := z
    rw [z1]; exact key w' z3 0 z2
  · obtain ⟨y, z3⟩ := z
    rcases y with ⟨z1, z2⟩ | ⟨z1, z2⟩
    · exact Or.inl ⟨z1, _, key w' z3 1 z2⟩
    · exact Or.inr (⟨z1, _, key w' z3 2 z2⟩)
theorem lo_jump (hI : LIn μ f (56 * n) (600 * n) (1 + n) w A) (hR : RM w μ) (hO : OUT o w) (hn : 0 ≤ n ∧ n ≤ 511) (hW : WI w) (hc_ : IR c) : KI γ 14 mX12_jump [rv f, .int (I c)] w 46 3106 (fun r w' => QMi γ μ f o n mX13_jump [.int (I c)] 0 r w') (fun E w' => (E = "java/lang/IndexOutOfBoundsException" ∧ ∃ r, QMi γ μ f o n mX13_jump [.int (I c)] 1 r w') ∨ (E = "java/lang/IllegalStateException" ∧ ∃ r, QMi γ μ f o n mX13_jump [.int (I c)] 2 r w')) := by
  obtain ⟨⟨p, hC⟩, hV, hB, hP, hS, -, -⟩ := id hI
  have h211 : KLw μ 211 0 = false := KLw_f (by decide) (Or.inl rfl)
  have key : ∀ w', RES μ f w w' (o_jump μ c A).2 → ∀ kq, (o_jump μ c A).2 139 μ.1 0 = kq → QMi γ μ f o n mX13_jump [.int (I c)] kq (o_jump μ c A).1 w' := fun w' r kq hkq => by
    obtain ⟨mq, hf, hR'⟩ := MID.of hI hR hO r (RBo_jump hB (by omega) (by omega)) (PTo_jump hC hB (by omega) (by omega) (by omega) hP.1) (IVo_jump hS hB (by omega) (by omega)) (F34_jump hB (by omega) (by omega))
    exact QMi.mk (ox := (fun x => o_jump μ c x)) (by decide) mq hf (fun _ => lq_ojump KLw_ok h211 c) hR' (fun W hf => c_jump γ μ W c _ _ _ hc_ (hf.cv hB.pcl) (by omega) (by omega) (by omega)) hkq
  refine (kX12_jump γ w f c p μ A _ _ _ hC hB (by omega) (by omega) (by omega) hS.1.2.2.2 hc_).imp (fun r w' z => ?_) (fun E w' z => ?_)
  · obtain ⟨z1, z2, z3⟩ := z
    rw [z1]; exact key w' z3 0 z2
  · obtain ⟨y, z3⟩ := z
    rcases y with ⟨z1, z2⟩ | ⟨z1, z2⟩
    · exact Or.inl ⟨z1, _, key w' z3 1 z2⟩
    · exact Or.inr (⟨z1, _, key w' z3 2 z2⟩)
theorem lo_narrow (hI : LIn μ f (56 * n) (600 * n) (1 + n) w A) (hR : RM w μ) (hO : OUT o w) (hn : 0 ≤ n ∧ n ≤ 511) (hW : WI w) (hc_ : IR c) : KI γ 14 mX12_narrow [rv f, .int (I c)] w 46 3106 (fun r w' => QMi γ μ f o n mX13_narrow [.int (I c)] 0 r w') (fun E w' => (E = "java/lang/IndexOutOfBoundsException" ∧ ∃ r, QMi γ μ f o n mX13_narrow [.int (I c)] 1 r w') ∨ (E = "java/lang/IllegalStateException" ∧ ∃ r, QMi γ μ f o n mX13_narrow [.int (I c)] 2 r w')) := by
  obtain ⟨⟨p, hC⟩, hV, hB, hP, hS, -, -⟩ := id hI
  have h211 : KLw μ 211 0 = false := KLw_f (by decide) (Or.inl rfl)
  have key : ∀ w', RES μ f w w' (o_narrow μ c A).2 → ∀ kq, (o_narrow μ c A).2 139 μ.1 0 = kq → QMi γ μ f o n mX13_narrow [.int (I c)] kq (o_narrow μ c A).1 w' := fun w' r kq hkq => by
    obtain ⟨mq, hf, hR'⟩ := MID.of hI hR hO r (RBo_narrow hB (by omega) (by omega)) (PTo_narrow hC hB (by omega) (by omega) (by omega) hP.1) (IVo_narrow hS hB (by omega) (by omega)) (F34_narrow hB (by omega) (by omega))
    exact QMi.mk (ox := (fun x => o_narrow μ c x)) (by decide) mq hf (fun _ => lq_onarrow KLw_ok h211 c) hR' (fun W hf => c_narrow γ μ W c _ _ _ hc_ (hf.cv hB.pcl) (by omega) (by omega) (by omega)) hkq
  refine (kX12_narrow γ w f c p μ A _ _ _ hC hB (by omega) (by omega) (by omega) hS.1.2.2.2 hc_).imp (fun r w' z => ?_) (fun E w' z => ?_)
  · obtain ⟨z1, z2, z3⟩ := z
    rw [z1]; exact key w' z3 0 z2
  · obtain ⟨y, z3⟩ := z
    rcases y with ⟨z1, z2⟩ | ⟨z1, z2⟩
    · exact Or.inl ⟨z1, _, key w' z3 1 z2⟩
    · exact Or.inr (⟨z1, _, key w' z3 2 z2⟩)
theorem lo_widen (hI : LIn μ f (56 * n) (600 * n) (1 + n) w A) (hR : RM w μ) (hO : OUT o w) (hn : 0 ≤ n ∧ n ≤ 511) (hW : WI w) : KI γ 14 mX12_widen [rv f] w 45 3100 (fun r w' => QMi γ μ f o n mX13_widen [] 0 r w') (fun E w' => (E = "java/lang/IllegalStateException" ∧ ∃ r, QMi γ μ f o n mX13_widen [] 1 r w')) := by
  obtain ⟨⟨p, hC⟩, hV, hB, hP, hS, -, -⟩ := id hI
  have h211 : KLw μ 211 0 = false := KLw_f (by decide) (Or.inl rfl)
  have key : ∀ w', RES μ f w w' (o_widen μ A).2 → ∀ kq, (o_widen μ A).2 139 μ.1 0 = kq → QMi γ μ f o n mX13_widen [] kq (o_widen μ A).1 w' := fun w' r kq hkq => by
    obtain ⟨mq, hf, hR'⟩ := MID.of hI hR hO r (RBo_widen hB (by omega) (by omega)) (PTo_widen hC hB (by omega) (by omega) (by omega) hP.1) (IVo_widen hS hB (by omega) (by omega)) (F34_widen hB (by omega) (by omega))
    exact QMi.mk (ox := (fun x => o_widen μ x)) (by decide) mq hf (fun _ => lq_owiden KLw_ok h211) hR' (fun W hf => c_widen γ μ W  _ _ _  (hf.cv hB.pcl) (by omega) (by omega) (by omega)) hkq
  refine (kX12_widen γ w f  p μ A _ _ _ hC hB (by omega) (by omega) (by omega) hS.1.2.2.2 ).imp (fun r w' z => ?_) (fun E w' z => ?_)
  · obtain ⟨z1, z2, z3⟩ := z
    rw [z1]; exact key w' z3 0 z2
  · obtain ⟨⟨z1, z2⟩, z3⟩ := z
    exact ⟨z1, _, key w' z3 1 z2⟩
theorem lo_run (hI : LIn μ f (56 * n) (600 * n) (1 + n) w A) (hR : RM w μ) (hO : OUT o w) (hn : 0 ≤ n ∧ n ≤ 511) (hW : WI w) (hm_ : IR m) (hk_ : IR k) : KI γ 20 mX12_run [rv f, .int (I m), .int (I k)] w 175 13300 (fun r w' => QMi γ μ f o n mX13_run [.int (I m), .int (I k)] 0 r w') (fun E w' => (E = "java/lang/IndexOutOfBoundsException" ∧ ∃ r, QMi γ μ f o n mX13_run [.int (I m), .int (I k)] 1 r w') ∨ (E = "java/lang/IllegalArgumentException" ∧ ∃ r, QMi γ μ f o n mX13_run [.int (I m), .int (I k)] 2 r w') ∨ (E = "java/lang/IllegalStateException" ∧ ∃ r, QMi γ μ f o n mX13_run [.int (I m), .int (I k)] 3 r w')) := by
  obtain ⟨⟨p, hC⟩, hV, hB, hP, hS, -, -⟩ := id hI
  have h211 : KLw μ 211 0 = false := KLw_f (by decide) (Or.inl rfl)
  have key : ∀ w', RESv μ f w w' (o_run μ m k A).2 → PTX μ (o_run μ m k A).2 → ∀ kq, (o_run μ m k A).2 139 μ.1 0 = kq → QMi γ μ f o n mX13_run [.int (I m), .int (I k)] kq (o_run μ m k A).1 w' := fun w' r hp kq hkq => by
    obtain ⟨mq, hf, hR'⟩ := MID.ofv hI hR hO r (RBo_run hB (by omega) (by omega)) hp (IVo_run hS hB (by omega) (by omega))
    exact QMi.mk (ox := (fun x => o_run μ m k x)) (by decide) mq hf (fun _ => lq_orun KLw_ok h211 m k) hR' (fun W hf => c_run γ μ W m k _ _ _ hm_ hk_ (hf.cv hB.pcl) (by omega) (by omega) (by omega)) hkq
  refine (kX12_run2 γ w f m k p μ A _ _ _ hC hV hB (by omega) (by omega) (by omega) hS.1.2.2.2 hm_ hk_ hP.1).imp (fun r w' z => ?_) (fun E w' z => ?_)
  · obtain ⟨z1, z2, z3, z4⟩ := z
    rw [z1]; exact key w' z3 z4 0 z2
  · obtain ⟨y, z3, z4⟩ := z
    rcases y with ⟨z1, z2⟩ | ⟨z1, z2⟩ | ⟨z1, z2⟩
    · exact Or.inl ⟨z1, _, key w' z3 z4 1 z2⟩
    · exact Or.inr (Or.inl ⟨z1, _, key w' z3 z4 2 z2⟩)
    · exact Or.inr (Or.inr ⟨z1, _, key w' z3 z4 3 z2⟩)
theorem lo_checkpoint (hI : LIn μ f (56 * n) (600 * n) (1 + n) w A) (hR : RM w μ) (hO : OUT o w) (hn : 0 ≤ n ∧ n ≤ 511) (hW : WI w) : KV γ 14 mX12_checkpoint [rv f] w 45 3100 (fun w' => QMv γ μ f o n mX13_checkpoint [] 0 w') (fun E w' => (E = "java/lang/IllegalStateException" ∧ QMv γ μ f o n mX13_checkpoint [] 1 w')) := by
  obtain ⟨⟨p, hC⟩, hV, hB, hP, hS, -, -⟩ := id hI
  have h211 : KLw μ 211 0 = false := KLw_f (by decide) (Or.inl rfl)
  have key : ∀ w', RES μ f w w' (o_checkpoint μ A) → ∀ kq, (o_checkpoint μ A) 139 μ.1 0 = kq → QMv γ μ f o n mX13_checkpoint [] kq w' := fun w' r kq hkq => by
    obtain ⟨mq, hf, hR'⟩ := MID.of hI hR hO r (RBo_checkpoint hB (by omega) (by omega)) (PTo_checkpoint hC hB (by omega) hP.1) (IVo_checkpoint hS hB) (F34_checkpoint)
    exact QMv.mk (ov := (fun x => o_checkpoint μ x)) (by decide) mq hf (fun _ => lq_ocheckpoint KLw_ok) hR' (fun W hf => c_checkpoint γ μ W  _ _ _  (hf.cv hB.pcl) (by omega) (by omega) (by omega)) hkq
  refine MX.imp (kX12_checkpoint γ w f  p μ A _ _ _ hC hB (by omega) (by omega) (by omega) hS.1.2.2.2 ) (fun v w' z => ?_) (fun E w' z => ?_)
  · obtain ⟨z0, z2, z3⟩ := z
    exact ⟨z0, key w' z3 0 z2⟩
  · obtain ⟨z1, z2, z3⟩ := z
    exact ⟨z1, key w' z3 1 z2⟩
theorem lo_record (hI : LIn μ f (56 * n) (600 * n) (1 + n) w A) (hR : RM w μ) (hO : OUT o w) (hn : 0 ≤ n ∧ n ≤ 511) (hW : WI w) (hc_ : IR c) : KV γ 9 mX12_record [rv f, .int (I c)] w 2 12 (fun w' => QMv γ μ f o n mX13_record [.int (I c)] 0 w') (fun E w' => (E = "java/lang/IndexOutOfBoundsException" ∧ QMv γ μ f o n mX13_record [.int (I c)] 1 w') ∨ (E = "java/lang/IllegalStateException" ∧ QMv γ μ f o n mX13_record [.int (I c)] 2 w')) := by
  obtain ⟨⟨p, hC⟩, hV, hB, hP, hS, -, -⟩ := id hI
  have h211 : KLw μ 211 0 = false := KLw_f (by decide) (Or.inl rfl)
  have key : ∀ w', RES μ f w w' (o_record μ c A) → ∀ kq, (o_record μ c A) 139 μ.1 0 = kq → QMv γ μ f o n mX13_record [.int (I c)] kq w' := fun w' r kq hkq => by
    obtain ⟨mq, hf, hR'⟩ := MID.of hI hR hO r (RBo_record hB (by omega) (by omega)) (PTo_record hC hB (by omega) hP.1) (IVo_record hS hB) (F34_record)
    exact QMv.mk (ov := (fun x => o_record μ c x)) (by decide) mq hf (fun _ => lq_orecord KLw_ok c) hR' (fun W hf => c_record γ μ W c _ _ _ hc_ (hf.cv hB.pcl) (by omega) (by omega) (by omega)) hkq
  refine MX.imp (kX12_record9 γ w f c p μ A _ _ _ hC hB (by omega) (by omega) (by omega) hS.1.2.2.2 hc_) (fun v w' z => ?_) (fun E w' z => ?_)
  · obtain ⟨z0, z2, z3⟩ := z
    exact ⟨z0, key w' z3 0 z2⟩
  · obtain ⟨y, z3⟩ := z
    rcases y with ⟨z1, z2⟩ | ⟨z1, z2⟩
    · exact Or.inl ⟨z1, key w' z3 1 z2⟩
    · exact Or.inr (⟨z1, key w' z3 2 z2⟩)
theorem lo_stop (hI : LIn μ f (56 * n) (600 * n) (1 + n) w A) (hR : RM w μ) (hO : OUT o w) (hn : 0 ≤ n ∧ n ≤ 511) (hW : WI w) : KI γ 9 mX12_stop [rv f] w 1 6 (fun r w' => QMi γ μ f o n mX13_stop [] 0 r w') (fun E w' => (E = "java/lang/IllegalStateException" ∧ ∃ r, QMi γ μ f o n mX13_stop [] 1 r w')) := by
  obtain ⟨⟨p, hC⟩, hV, hB, hP, hS, -, -⟩ := id hI
  have h211 : KLw μ 211 0 = false := KLw_f (by decide) (Or.inl rfl)
  have key : ∀ w', RES μ f w w' (o_stop μ A).2 → ∀ kq, (o_stop μ A).2 139 μ.1 0 = kq → QMi γ μ f o n mX13_stop [] kq (o_stop μ A).1 w' := fun w' r kq hkq => by
    obtain ⟨mq, hf, hR'⟩ := MID.of hI hR hO r (RBo_stop hB (by omega) (by omega)) (PTo_stop hC hB (by omega) hP.1) (IVo_stop hS hB) (F34_stop)
    exact QMi.mk (ox := (fun x => o_stop μ x)) (by decide) mq hf (fun _ => lq_ostop KLw_ok) hR' (fun W hf => c_stop γ μ W  _ _ _  (hf.cv hB.pcl) (by omega) (by omega) (by omega)) hkq
  refine (kX12_stop γ w f  p μ A _ _ _ hC hB (by omega) (by omega) (by omega) hS.1.2.2.2 ).imp (fun r w' z => ?_) (fun E w' z => ?_)
  · obtain ⟨z1, z2, z3⟩ := z
    rw [z1]; exact key w' z3 0 z2
  · obtain ⟨z1, z2, z3⟩ := z
    exact ⟨z1, _, key w' z3 1 z2⟩
theorem lo_open (hI : LIn μ f (56 * n) (600 * n) (1 + n) w A) (hR : RM w μ) (hO : OUT o w) (hn : 0 ≤ n ∧ n ≤ 511) (hW : WI w) : KV γ 9 mX12_open [rv f] w 1 6 (fun w' => QMv γ μ f o n mX13_open [] 0 w') (fun E w' => (E = "java/lang/IllegalStateException" ∧ QMv γ μ f o n mX13_open [] 1 w')) := by
  obtain ⟨⟨p, hC⟩, hV, hB, hP, hS, -, -⟩ := id hI
  have h211 : KLw μ 211 0 = false := KLw_f (by decide) (Or.inl rfl)
  have key : ∀ w', RES μ f w w' (o_open μ A) → ∀ kq, (o_open μ A) 139 μ.1 0 = kq → QMv γ μ f o n mX13_open [] kq w' := fun w' r kq hkq => by
    obtain ⟨mq, hf, hR'⟩ := MID.of hI hR hO r (RBo_open hB (by omega) (by omega)) (PTo_open hC hB (by omega) hP.1) (IVo_open hS) (F34_open)
    exact QMv.mk (ov := (fun x => o_open μ x)) (by decide) mq hf (fun _ => lq_oopen KLw_ok) hR' (fun W hf => c_open γ μ W  _ _ _  (hf.cv hB.pcl) (by omega) (by omega) (by omega)) hkq
  refine MX.imp (kX12_open9 γ w f  p μ A _ _ _ hC hB (by omega) (by omega) (by omega) hS.1.2.2.2 ) (fun v w' z => ?_) (fun E w' z => ?_)
  · obtain ⟨z0, z2, z3⟩ := z
    exact ⟨z0, key w' z3 0 z2⟩
  · obtain ⟨⟨z1, z2⟩, z3⟩ := z
    exact ⟨z1, key w' z3 1 z2⟩
theorem lo_close (hI : LIn μ f (56 * n) (600 * n) (1 + n) w A) (hR : RM w μ) (hO : OUT o w) (hn : 0 ≤ n ∧ n ≤ 511) (hW : WI w) : KI γ 13 mX12_close [rv f] w 40 2700 (fun r w' => QMi γ μ f o n mX13_close [] 0 r w') (fun E w' => (E = "java/lang/IllegalStateException" ∧ ∃ r, QMi γ μ f o n mX13_close [] 1 r w')) := by
  obtain ⟨⟨p, hC⟩, hV, hB, hP, hS, -, -⟩ := id hI
  have h211 : KLw μ 211 0 = false := KLw_f (by decide) (Or.inl rfl)
  have key : ∀ w', RES μ f w w' (o_close μ A).2 → ∀ kq, (o_close μ A).2 139 μ.1 0 = kq → QMi γ μ f o n mX13_close [] kq (o_close μ A).1 w' := fun w' r kq hkq => by
    obtain ⟨mq, hf, hR'⟩ := MID.of hI hR hO r (RBo_close hB (by omega) (by omega)) (PTo_close hC hB (by omega) (by omega) (by omega) hP.1) (IVo_close hS hB (by omega) (by omega)) (F34_close hB (by omega) (by omega))
    exact QMi.mk (ox := (fun x => o_close μ x)) (by decide) mq hf (fun _ => lq_oclose KLw_ok) hR' (fun W hf => c_close γ μ W  _ _ _  (hf.cv hB.pcl) (by omega) (by omega) (by omega)) hkq
  refine (kX12_close γ w f  p μ A _ _ _ hC hB (by omega) (by omega) (by omega) hS.1.2.2.2 ).imp (fun r w' z => ?_) (fun E w' z => ?_)
  · obtain ⟨z1, z2, z3⟩ := z
    rw [z1]; exact key w' z3 0 z2
  · obtain ⟨z1, z2, z3⟩ := z
    exact ⟨z1, _, key w' z3 1 z2⟩
theorem lo_pass (hI : LIn μ f (56 * n) (600 * n) (1 + n) w A) (hR : RM w μ) (hO : OUT o w) (hn : 0 ≤ n ∧ n ≤ 511) (hW : WI w) (hc_ : IR c) : KV γ 9 mX12_pass [rv f, .int (I c)] w 1 6 (fun w' => QMv γ μ f o n mX13_pass [.int (I c)] 0 w') (fun E w' => (E = "java/lang/IllegalArgumentException" ∧ QMv γ μ f o n mX13_pass [.int (I c)] 1 w')) := by
  obtain ⟨⟨p, hC⟩, hV, hB, hP, hS, -, -⟩ := id hI
  have h211 : KLw μ 211 0 = false := KLw_f (by decide) (Or.inl rfl)
  have key : ∀ w', RES μ f w w' (o_pass μ c A) → ∀ kq, (o_pass μ c A) 139 μ.1 0 = kq → QMv γ μ f o n mX13_pass [.int (I c)] kq w' := fun w' r kq hkq => by
    obtain ⟨mq, hf, hR'⟩ := MID.of hI hR hO r (RBo_pass hB (by omega) (by omega)) (PTo_pass hC hB (by omega) hP.1) (IVo_pass hS hB) (F34_pass)
    exact QMv.mk (ov := (fun x => o_pass μ c x)) (by decide) mq hf (fun _ => lq_opass KLw_ok c) hR' (fun W hf => c_pass γ μ W c _ _ _ hc_ (hf.cv hB.pcl) (by omega) (by omega) (by omega)) hkq
  refine MX.imp (kX12_pass9 γ w f c p μ A _ _ _ hC hB (by omega) (by omega) (by omega) hS.1.2.2.2 hc_) (fun v w' z => ?_) (fun E w' z => ?_)
  · obtain ⟨z0, z2, z3⟩ := z
    exact ⟨z0, key w' z3 0 z2⟩
  · obtain ⟨⟨z1, z2⟩, z3⟩ := z
    exact ⟨z1, key w' z3 1 z2⟩
theorem lo_track (hI : LIn μ f (56 * n) (600 * n) (1 + n) w A) (hR : RM w μ) (hO : OUT o w) (hn : 0 ≤ n ∧ n ≤ 511) (hW : WI w) (hc_ : IR c) : KV γ 13 mX12_track [rv f, .int (I c)] w 48 3200 (fun w' => QMv γ μ f o n mX13_track [.int (I c)] 0 w') (fun E w' => (E = "java/lang/IndexOutOfBoundsException" ∧ QMv γ μ f o n mX13_track [.int (I c)] 1 w') ∨ (E = "java/lang/IllegalStateException" ∧ QMv γ μ f o n mX13_track [.int (I c)] 2 w')) := by
  obtain ⟨⟨p, hC⟩, hV, hB, hP, hS, -, -⟩ := id hI
  have h211 : KLw μ 211 0 = false := KLw_f (by decide) (Or.inl rfl)
  have key : ∀ w', RES μ f w w' (o_track μ c A) → ∀ kq, (o_track μ c A) 139 μ.1 0 = kq → QMv γ μ f o n mX13_track [.int (I c)] kq w' := fun w' r kq hkq => by
    obtain ⟨mq, hf, hR'⟩ := MID.of hI hR hO r (RBo_track hB (by omega) (by omega)) (PTo_track hC hB (by omega) (by omega) (by omega) hP.1) (IVo_track hS hB (by omega) (by omega)) (F34_track hB (by omega) (by omega))
    exact QMv.mk (ov := (fun x => o_track μ c x)) (by decide) mq hf (fun _ => lq_otrack KLw_ok h211 c) hR' (fun W hf => c_track γ μ W c _ _ _ hc_ (hf.cv hB.pcl) (by omega) (by omega) (by omega)) hkq
  refine MX.imp (kX12_track γ w f c p μ A _ _ _ hC hB (by omega) (by omega) (by omega) hS.1.2.2.2 hc_) (fun v w' z => ?_) (fun E w' z => ?_)
  · obtain ⟨z0, z2, z3⟩ := z
    exact ⟨z0, key w' z3 0 z2⟩
  · obtain ⟨y, z3⟩ := z
    rcases y with ⟨z1, z2⟩ | ⟨z1, z2⟩
    · exact Or.inl ⟨z1, key w' z3 1 z2⟩
    · exact Or.inr (⟨z1, key w' z3 2 z2⟩)
theorem lo_undo (hI : LIn μ f (56 * n) (600 * n) (1 + n) w A) (hR : RM w μ) (hO : OUT o w) (hn : 0 ≤ n ∧ n ≤ 511) (hW : WI w) : KI γ 10 mX12_undo [rv f] w 3 412 (fun r w' => QMi γ μ f o n mX13_undo [] 0 r w') (fun E w' => (E = "java/lang/IllegalStateException" ∧ ∃ r, QMi γ μ f o n mX13_undo [] 1 r w')) := by
  obtain ⟨⟨p, hC⟩, hV, hB, hP, hS, -, -⟩ := id hI
  have h211 : KLw μ 211 0 = false := KLw_f (by decide) (Or.inl rfl)
  have hU : UN μ (pl_ p) A := hC.un hB (by omega) hS.1.2.2.1 hS.1.2.1
  have hRA : RPA μ (pl_ p) A := fun k k0 k1 k2 => (hU.2.1 k k0 k1 k2).1
  have key : ∀ w', RES μ f w w' (o_undo μ (pl_ p) A).2 → ∀ kq, (o_undo μ (pl_ p) A).2 139 μ.1 0 = kq → QMi γ μ f o n mX13_undo [] kq (o_undo μ (pl_ p) A).1 w' := fun w' r kq hkq => by
    obtain ⟨mq, hf, hR'⟩ := MID.of hI hR hO r ((RBq_undo hC hB (by omega) hP.1).1.mono (by omega) (by omega) (by omega)) (PTo_undo hC hB (by omega) hP.1) (IVo_undo hC hB (by omega) hS) (F34_undo hC hB (by omega))
    exact QMi.mk (ox := (fun x => o_undo μ (pl_ p) x)) (by decide) mq hf (fun _ => lq_oundo KLw_ok h211 (pl_ p)) hR' (fun W hf => c_undo γ μ W (pl_ p) _ _ _ (hf.cv hRA.pcl) (hf.cv hU.1.pcl) (hf.cv hB.pcl) (by omega) (by omega) (by omega)) hkq
  refine (kX12_undo γ w f  p μ A _ _ _ hC hB (by omega) (by omega) (by omega) hS.1.2.2.2 ).imp (fun r w' z => ?_) (fun E w' z => ?_)
  · obtain ⟨z1, z2, z3⟩ := z
    rw [z1]; exact key w' z3 0 z2
  · obtain ⟨z1, z2, z3⟩ := z
    exact ⟨z1, _, key w' z3 1 z2⟩
theorem lo_redo (hI : LIn μ f (56 * n) (600 * n) (1 + n) w A) (hR : RM w μ) (hO : OUT o w) (hn : 0 ≤ n ∧ n ≤ 511) (hW : WI w) : KI γ 10 mX12_redo [rv f] w 3 412 (fun r w' => QMi γ μ f o n mX13_redo [] 0 r w') (fun E w' => (E = "java/lang/IllegalStateException" ∧ ∃ r, QMi γ μ f o n mX13_redo [] 1 r w')) := by
  obtain ⟨⟨p, hC⟩, hV, hB, hP, hS, -, -⟩ := id hI
  have h211 : KLw μ 211 0 = false := KLw_f (by decide) (Or.inl rfl)
  have hU : UN μ (pl_ p) A := hC.un hB (by omega) hS.1.2.2.1 hS.1.2.1
  have hRA : RPA μ (pl_ p) A := fun k k0 k1 k2 => (hU.2.1 k k0 k1 k2).1
  have key : ∀ w', RES μ f w w' (o_redo μ (pl_ p) A).2 → ∀ kq, (o_redo μ (pl_ p) A).2 139 μ.1 0 = kq → QMi γ μ f o n mX13_redo [] kq (o_redo μ (pl_ p) A).1 w' := fun w' r kq hkq => by
    obtain ⟨mq, hf, hR'⟩ := MID.of hI hR hO r ((RBq_redo hC hB (by omega) hP.1).1.mono (by omega) (by omega) (by omega)) (PTo_redo hC hB (by omega) hP.1) (IVo_redo hC hB (by omega) hS) (F34_redo hC hB (by omega))
    exact QMi.mk (ox := (fun x => o_redo μ (pl_ p) x)) (by decide) mq hf (fun _ => lq_oredo KLw_ok h211 (pl_ p)) hR' (fun W hf => c_redo γ μ W (pl_ p) _ _ _ (hf.cv hRA.pcl) (hf.cv hU.1.pcl) (hf.cv hB.pcl) (by omega) (by omega) (by omega)) hkq
  refine (kX12_redo γ w f  p μ A _ _ _ hC hB (by omega) (by omega) (by omega) hS.1.2.2.2 ).imp (fun r w' z => ?_) (fun E w' z => ?_)
  · obtain ⟨z1, z2, z3⟩ := z
    rw [z1]; exact key w' z3 0 z2
  · obtain ⟨z1, z2, z3⟩ := z
    exact ⟨z1, _, key w' z3 1 z2⟩
theorem lo_walk (hI : LIn μ f (56 * n) (600 * n) (1 + n) w A) (hR : RM w μ) (hO : OUT o w) (hn : 0 ≤ n ∧ n ≤ 511) (hW : WI w) (hc_ : IR c) : KI γ 10 mX12_walk [rv f, .int (I c)] w 4 418 (fun r w' => QMi γ μ f o n mX13_walk [.int (I c)] 0 r w') (fun E w' => (E = "java/lang/IndexOutOfBoundsException" ∧ ∃ r, QMi γ μ f o n mX13_walk [.int (I c)] 1 r w') ∨ (E = "java/lang/IllegalStateException" ∧ ∃ r, QMi γ μ f o n mX13_walk [.int (I c)] 2 r w')) := by
  obtain ⟨⟨p, hC⟩, hV, hB, hP, hS, -, -⟩ := id hI
  have h211 : KLw μ 211 0 = false := KLw_f (by decide) (Or.inl rfl)
  have hU : UN μ (pl_ p) A := hC.un hB (by omega) hS.1.2.2.1 hS.1.2.1
  have hRA : RPA μ (pl_ p) A := fun k k0 k1 k2 => (hU.2.1 k k0 k1 k2).1
  have key : ∀ w', RES μ f w w' (o_walk μ (pl_ p) c A).2 → ∀ kq, (o_walk μ (pl_ p) c A).2 139 μ.1 0 = kq → QMi γ μ f o n mX13_walk [.int (I c)] kq (o_walk μ (pl_ p) c A).1 w' := fun w' r kq hkq => by
    obtain ⟨mq, hf, hR'⟩ := MID.of hI hR hO r ((RBq_walk hC hB (by omega) hP.1).1.mono (by omega) (by omega) (by omega)) (PTo_walk hC hB (by omega) hP.1) (IVo_walk hC hB (by omega) hS) (F34_walk hC hB (by omega))
    exact QMi.mk (ox := (fun x => o_walk μ (pl_ p) c x)) (by decide) mq hf (fun _ => lq_owalk KLw_ok h211 (pl_ p) c) hR' (fun W hf => c_walk γ μ W (pl_ p) c _ _ _ hc_ (hf.cv hRA.pcl) (hf.cv hU.1.pcl) (hf.cv hB.pcl) (by omega) (by omega) (by omega)) hkq
  refine (kX12_walk γ w f c p μ A _ _ _ hC hB (by omega) (by omega) (by omega) hS.1.2.2.2 hc_).imp (fun r w' z => ?_) (fun E w' z => ?_)
  · obtain ⟨z1, z2, z3⟩ := z
    rw [z1]; exact key w' z3 0 z2
  · obtain ⟨y, z3⟩ := z
    rcases y with ⟨z1, z2⟩ | ⟨z1, z2⟩
    · exact Or.inl ⟨z1, _, key w' z3 1 z2⟩
    · exact Or.inr (⟨z1, _, key w' z3 2 z2⟩)
end LO1
