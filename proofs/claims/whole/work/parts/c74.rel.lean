/-! each call of the law: the rest -/
section LO2
variable {γ : LC} {w A : Mm} {μ : MU} {f o n c k a b d m : Int}
theorem lo_undoIn (hI : LIn μ f (56 * n) (600 * n) (1 + n) w A) (hR : RM w μ) (hO : OUT o w) (hn : 0 ≤ n ∧ n ≤ 511) (hW : WI w) (hc_ : IR c) (hk_ : IR k) : KI γ 12 mX12_undoIn [rv f, .int (I c), .int (I k)] w 80 6600 (fun r w' => QMi γ μ f o n mX13_undoIn [.int (I c), .int (I k)] 0 r w') (fun E w' => (E = "java/lang/IllegalArgumentException" ∧ ∃ r, QMi γ μ f o n mX13_undoIn [.int (I c), .int (I k)] 1 r w') ∨ (E = "java/lang/IllegalStateException" ∧ ∃ r, QMi γ μ f o n mX13_undoIn [.int (I c), .int (I k)] 2 r w')) := by
  obtain ⟨⟨p, hC⟩, hV, hB, hP, hS, -, -⟩ := id hI
  have h211 : KLw μ 211 0 = false := KLw_f (by decide) (Or.inl rfl)
  have hU : UN μ (pl_ p) A := hC.un hB (by omega) hS.1.2.2.1 hS.1.2.1
  have hRA : RPA μ (pl_ p) A := fun k k0 k1 k2 => (hU.2.1 k k0 k1 k2).1
  have key : ∀ w', (RES μ f w w' (o_undoIn μ (pl_ p) c k A).2 ∧ IVS μ (o_undoIn μ (pl_ p) c k A).2 ∧ PTX μ (o_undoIn μ (pl_ p) c k A).2 ∧ RB μ (56 * n + 56) (600 * n + 600) (1 + n + 1) (o_undoIn μ (pl_ p) c k A).2 ∧ T34 μ A (o_undoIn μ (pl_ p) c k A).2) → ∀ kq, (o_undoIn μ (pl_ p) c k A).2 139 μ.1 0 = kq → QMi γ μ f o n mX13_undoIn [.int (I c), .int (I k)] kq (o_undoIn μ (pl_ p) c k A).1 w' := fun w' z kq hkq => by
    obtain ⟨r, i1, i2, i3, i4⟩ := z
    obtain ⟨mq, hf, hR'⟩ := MID.of hI hR hO r i3 i2 i1 (fun cc z => by rcases z with rfl | rfl; exact i4.1; exact i4.2)
    exact QMi.mk (ox := (fun x => o_undoIn μ (pl_ p) c k x)) (by decide) mq hf (fun _ => lq_oundoIn KLw_ok (pl_ p) c k) hR' (fun W hf => c_undoIn γ μ W c k (pl_ p) _ _ _ ⟨hc_, hk_⟩ (hf.cv hU.pcl) (hf.cv hB.pcl) (by omega) (by omega) (by omega)) hkq
  refine (kX12_undoIn γ w f c k p μ A _ _ _ hC hB (by omega) (by omega) (by omega) hS.1.2.2.2 (by omega) hc_ hk_ hS hP).imp (fun r w' z => ?_) (fun E w' z => ?_)
  · obtain ⟨z1, z2, z3⟩ := z
    rw [z1]; exact key w' z3 0 z2
  · obtain ⟨y, z3⟩ := z
    rcases y with ⟨z1, z2⟩ | ⟨z1, z2⟩
    · exact Or.inl ⟨z1, _, key w' z3 1 z2⟩
    · exact Or.inr ⟨z1, _, key w' z3 2 z2⟩
theorem lo_setBookmark (hI : LIn μ f (56 * n) (600 * n) (1 + n) w A) (hR : RM w μ) (hO : OUT o w) (hn : 0 ≤ n ∧ n ≤ 511) (hW : WI w) (hc_ : IR c) : KI γ 9 mX12_setBookmark [rv f, .int (I c)] w 1 6 (fun r w' => QMi γ μ f o n mX13_setBookmark [.int (I c)] 0 r w') (fun E w' => (E = "java/lang/IndexOutOfBoundsException" ∧ ∃ r, QMi γ μ f o n mX13_setBookmark [.int (I c)] 1 r w')) := by
  obtain ⟨⟨p, hC⟩, hV, hB, hP, hS, -, -⟩ := id hI
  have h211 : KLw μ 211 0 = false := KLw_f (by decide) (Or.inl rfl)
  have key : ∀ w', RES μ f w w' (o_setBookmark μ c A).2 → ∀ kq, (o_setBookmark μ c A).2 139 μ.1 0 = kq → QMi γ μ f o n mX13_setBookmark [.int (I c)] kq (o_setBookmark μ c A).1 w' := fun w' r kq hkq => by
    obtain ⟨mq, hf, hR'⟩ := MID.of hI hR hO r (RBo_setBookmark hB (by omega) (by omega)) (PTo_setBookmark hC hB (by omega) hP.1) (IVo_setBookmark hS hB) (F34_setBookmark)
    exact QMi.mk (ox := (fun x => o_setBookmark μ c x)) (by decide) mq hf (fun _ => lq_osetBookmark KLw_ok c) hR' (fun W hf => c_setBookmark γ μ W c _ _ _ hc_ (hf.cv hB.pcl) (by omega) (by omega) (by omega)) hkq
  refine (kX12_setBookmark9 γ w f c p μ A _ _ _ hC hB (by omega) (by omega) (by omega) hS.1.2.2.2 hc_).imp (fun r w' z => ?_) (fun E w' z => ?_)
  · obtain ⟨z1, z2, z3⟩ := z
    rw [z1]; exact key w' z3 0 z2
  · obtain ⟨⟨z1, z2⟩, z3⟩ := z
    exact ⟨z1, _, key w' z3 1 z2⟩
theorem lo_clearBookmark (hI : LIn μ f (56 * n) (600 * n) (1 + n) w A) (hR : RM w μ) (hO : OUT o w) (hn : 0 ≤ n ∧ n ≤ 511) (hW : WI w) (hc_ : IR c) : KI γ 9 mX12_clearBookmark [rv f, .int (I c)] w 1 6 (fun r w' => QMi γ μ f o n mX13_clearBookmark [.int (I c)] 0 r w') (fun E w' => (E = "java/lang/IndexOutOfBoundsException" ∧ ∃ r, QMi γ μ f o n mX13_clearBookmark [.int (I c)] 1 r w')) := by
  obtain ⟨⟨p, hC⟩, hV, hB, hP, hS, -, -⟩ := id hI
  have h211 : KLw μ 211 0 = false := KLw_f (by decide) (Or.inl rfl)
  have key : ∀ w', RES μ f w w' (o_clearBookmark μ c A).2 → ∀ kq, (o_clearBookmark μ c A).2 139 μ.1 0 = kq → QMi γ μ f o n mX13_clearBookmark [.int (I c)] kq (o_clearBookmark μ c A).1 w' := fun w' r kq hkq => by
    obtain ⟨mq, hf, hR'⟩ := MID.of hI hR hO r (RBo_clearBookmark hB (by omega) (by omega)) (PTo_clearBookmark hC hB (by omega) hP.1) (IVo_clearBookmark hS hB) (F34_clearBookmark)
    exact QMi.mk (ox := (fun x => o_clearBookmark μ c x)) (by decide) mq hf (fun _ => lq_oclearBookmark KLw_ok c) hR' (fun W hf => c_clearBookmark γ μ W c _ _ _ hc_ (hf.cv hB.pcl) (by omega) (by omega) (by omega)) hkq
  refine (kX12_clearBookmark9 γ w f c p μ A _ _ _ hC hB (by omega) (by omega) (by omega) hS.1.2.2.2 hc_).imp (fun r w' z => ?_) (fun E w' z => ?_)
  · obtain ⟨z1, z2, z3⟩ := z
    rw [z1]; exact key w' z3 0 z2
  · obtain ⟨⟨z1, z2⟩, z3⟩ := z
    exact ⟨z1, _, key w' z3 1 z2⟩
theorem lo_setBudget (hI : LIn μ f (56 * n) (600 * n) (1 + n) w A) (hR : RM w μ) (hO : OUT o w) (hn : 0 ≤ n ∧ n ≤ 511) (hW : WI w) (hc_ : IR c) : KI γ 10 mX12_setBudget [rv f, .int (I c)] w 1 6 (fun r w' => QMi γ μ f o n mX13_setBudget [.int (I c)] 0 r w') (fun E w' => (E = "java/lang/IllegalArgumentException" ∧ ∃ r, QMi γ μ f o n mX13_setBudget [.int (I c)] 1 r w')) := by
  obtain ⟨⟨p, hC⟩, hV, hB, hP, hS, -, -⟩ := id hI
  have h211 : KLw μ 211 0 = false := KLw_f (by decide) (Or.inl rfl)
  have key : ∀ w', RES μ f w w' (o_setBudget μ c A).2 → ∀ kq, (o_setBudget μ c A).2 139 μ.1 0 = kq → QMi γ μ f o n mX13_setBudget [.int (I c)] kq (o_setBudget μ c A).1 w' := fun w' r kq hkq => by
    obtain ⟨mq, hf, hR'⟩ := MID.of hI hR hO r (RBo_setBudget hB (by omega) (by omega)) (PTo_setBudget hC hB (by omega) hP.1) (IVo_setBudget hS hB) (F34_setBudget)
    exact QMi.mk (ox := (fun x => o_setBudget μ c x)) (by decide) mq hf (fun _ => lq_osetBudget KLw_ok c) hR' (fun W hf => c_setBudget γ μ W c _ _ _ hc_ (hf.cv hB.pcl) (by omega) (by omega) (by omega)) hkq
  refine (kX12_setBudget γ w f c p μ A _ _ _ hC hB (by omega) (by omega) (by omega) hS.1.2.2.2 hc_).imp (fun r w' z => ?_) (fun E w' z => ?_)
  · obtain ⟨z1, z2, z3⟩ := z
    rw [z1]; exact key w' z3 0 z2
  · obtain ⟨z1, z2, z3⟩ := z
    exact ⟨z1, _, key w' z3 1 z2⟩
theorem lo_listen (hI : LIn μ f (56 * n) (600 * n) (1 + n) w A) (hR : RM w μ) (hO : OUT o w) (hn : 0 ≤ n ∧ n ≤ 511) (hW : WI w) (hc_ : IR c) (ha_ : IR a) (hb_ : IR b) (hd_ : IR d) : KV γ 9 mX12_listen [rv f, .int (I c), .int (I a), .int (I b), .int (I d)] w 5 30 (fun w' => QMv γ μ f o n mX13_listen [.int (I c), .int (I a), .int (I b), .int (I d)] 0 w') (fun E w' => (E = "java/lang/IndexOutOfBoundsException" ∧ QMv γ μ f o n mX13_listen [.int (I c), .int (I a), .int (I b), .int (I d)] 1 w') ∨ (E = "java/lang/IllegalArgumentException" ∧ QMv γ μ f o n mX13_listen [.int (I c), .int (I a), .int (I b), .int (I d)] 2 w')) := by
  obtain ⟨⟨p, hC⟩, hV, hB, hP, hS, -, -⟩ := id hI
  have h211 : KLw μ 211 0 = false := KLw_f (by decide) (Or.inl rfl)
  have key : ∀ w', RES μ f w w' (o_listen μ c a b d A) → ∀ kq, (o_listen μ c a b d A) 139 μ.1 0 = kq → QMv γ μ f o n mX13_listen [.int (I c), .int (I a), .int (I b), .int (I d)] kq w' := fun w' r kq hkq => by
    obtain ⟨mq, hf, hR'⟩ := MID.of hI hR hO r (RBo_listen hB (by omega) (by omega)) (PTo_listen hC hB (by omega) hP.1) (IVo_listen hS hB) (F34_listen)
    exact QMv.mk (ov := (fun x => o_listen μ c a b d x)) (by decide) mq hf (fun _ => lq_olisten KLw_ok c a b d) hR' (fun W hf => c_listen γ μ W c a b d _ _ _ hc_ ha_ hb_ hd_ (hf.cv hB.pcl) (by omega) (by omega) (by omega)) hkq
  refine MX.imp (kX12_listen9 γ w f c a b d p μ A _ _ _ hC hB (by omega) (by omega) (by omega) hS.1.2.2.2 hc_ ha_ hb_ hd_) (fun v w' z => ?_) (fun E w' z => ?_)
  · obtain ⟨z0, z2, z3⟩ := z
    exact ⟨z0, key w' z3 0 z2⟩
  · obtain ⟨y, z3⟩ := z
    rcases y with ⟨z1, z2⟩ | ⟨z1, z2⟩
    · exact Or.inl ⟨z1, key w' z3 1 z2⟩
    · exact Or.inr (⟨z1, key w' z3 2 z2⟩)
theorem lo_unlisten (hI : LIn μ f (56 * n) (600 * n) (1 + n) w A) (hR : RM w μ) (hO : OUT o w) (hn : 0 ≤ n ∧ n ≤ 511) (hW : WI w) (hc_ : IR c) : KI γ 9 mX12_unlisten [rv f, .int (I c)] w 1 6 (fun r w' => (r = 0 ∨ r = 1) ∧ QMi γ μ f o n mX13_unlisten [.int (I c)] 0 r w') (fun E w' => (E = "java/lang/IndexOutOfBoundsException" ∧ ∃ r, QMi γ μ f o n mX13_unlisten [.int (I c)] 1 r w')) := by
  obtain ⟨⟨p, hC⟩, hV, hB, hP, hS, -, -⟩ := id hI
  have h211 : KLw μ 211 0 = false := KLw_f (by decide) (Or.inl rfl)
  have key : ∀ w', RES μ f w w' (o_unlisten μ c A).2 → ∀ kq, (o_unlisten μ c A).2 139 μ.1 0 = kq → QMi γ μ f o n mX13_unlisten [.int (I c)] kq (o_unlisten μ c A).1 w' := fun w' r kq hkq => by
    obtain ⟨mq, hf, hR'⟩ := MID.of hI hR hO r (RBo_unlisten hB (by omega) (by omega)) (PTo_unlisten hC hB (by omega) hP.1) (IVo_unlisten hS hB) (F34_unlisten)
    exact QMi.mk (ox := (fun x => o_unlisten μ c x)) (by decide) mq hf (fun _ => lq_ounlisten KLw_ok c) hR' (fun W hf => c_unlisten γ μ W c _ _ _ hc_ (hf.cv hB.pcl) (by omega) (by omega) (by omega)) hkq
  refine (kX12_unlisten9 γ w f c p μ A _ _ _ hC hB (by omega) (by omega) (by omega) hS.1.2.2.2 hc_).imp (fun r w' z => ?_) (fun E w' z => ?_)
  · obtain ⟨z1, z2, z3⟩ := z
    rw [z1]; refine ⟨?_, key w' z3 0 z2⟩
    unfold o_unlisten; split
    · exact bi_01 _
    · exact Or.inl rfl
  · obtain ⟨⟨z1, z2⟩, z3⟩ := z
    exact ⟨z1, _, key w' z3 1 z2⟩
theorem lo_length (hI : LIn μ f (56 * n) (600 * n) (1 + n) w A) (hR : RM w μ) (hO : OUT o w) (hn : 0 ≤ n ∧ n ≤ 511) (hW : WI w) : KI γ 1 mX12_length [rv f] w 0 0 (fun r w' => QMi γ μ f o n mX13_length [] 0 r w') NX := by
  obtain ⟨⟨p, hC⟩, hV, hB, hP, hS, -, -⟩ := id hI
  have h211 : KLw μ 211 0 = false := KLw_f (by decide) (Or.inl rfl)
  have e9 : ∃ v, (o_length μ A).2 = up A 139 μ.1 0 v := by
    unfold o_length
    exact ⟨_, rfl⟩
  obtain ⟨v9, e9⟩ := e9
  have key : ∀ w', RES μ f w w' (o_length μ A).2 → ∀ kq, (o_length μ A).2 139 μ.1 0 = kq → QMi γ μ f o n mX13_length [] kq (o_length μ A).1 w' := fun w' r kq hkq => by
    obtain ⟨mq, hf, hR'⟩ := MID.of hI hR hO r (by rw [e9]; exact hB.o9.mono (by omega) (by omega) (by omega)) (by rw [e9]; exact hC.p9 hB (by omega) hP.1) (by rw [e9]; exact hS.o9 hB) (by rw [e9]; exact F34.o9)
    exact QMi.mk (ox := (fun x => o_length μ x)) (by decide) mq hf (fun _ => lq_olength KLw_ok) hR' (fun W hf => c_length γ μ W  _ _ _  (hf.cv hB.pcl) (by omega) (by omega) (by omega)) hkq
  exact (q_length hC hB (by omega) ).imp (fun r w' z => by obtain ⟨z1, z2, z3⟩ := z; rw [z1]; exact key w' z3 0 z2) (fun _ _ z => z)
theorem lo_charAt (hI : LIn μ f (56 * n) (600 * n) (1 + n) w A) (hR : RM w μ) (hO : OUT o w) (hn : 0 ≤ n ∧ n ≤ 511) (hW : WI w) (hc_ : IR c) : KI γ 7 mX12_charAt [rv f, .int (I c)] w 1 6 (fun r w' => QMi γ μ f o n mX13_charAt [.int (I c)] 0 r w') (fun E w' => (E = "java/lang/IndexOutOfBoundsException" ∧ ∃ r, QMi γ μ f o n mX13_charAt [.int (I c)] 1 r w')) := by
  obtain ⟨⟨p, hC⟩, hV, hB, hP, hS, -, -⟩ := id hI
  have h211 : KLw μ 211 0 = false := KLw_f (by decide) (Or.inl rfl)
  have e9 : ∃ v, (o_charAt μ c A).2 = up A 139 μ.1 0 v := by
    unfold o_charAt
    split
    · exact ⟨_, rfl⟩
    · exact ⟨_, rfl⟩
  obtain ⟨v9, e9⟩ := e9
  have key : ∀ w', RES μ f w w' (o_charAt μ c A).2 → ∀ kq, (o_charAt μ c A).2 139 μ.1 0 = kq → QMi γ μ f o n mX13_charAt [.int (I c)] kq (o_charAt μ c A).1 w' := fun w' r kq hkq => by
    obtain ⟨mq, hf, hR'⟩ := MID.of hI hR hO r (by rw [e9]; exact hB.o9.mono (by omega) (by omega) (by omega)) (by rw [e9]; exact hC.p9 hB (by omega) hP.1) (by rw [e9]; exact hS.o9 hB) (by rw [e9]; exact F34.o9)
    exact QMi.mk (ox := (fun x => o_charAt μ c x)) (by decide) mq hf (fun _ => lq_ocharAt KLw_ok c) hR' (fun W hf => c_charAt γ μ W c _ _ _ hc_ (hf.cv hB.pcl) (by omega) (by omega) (by omega)) hkq
  refine (q_charAt hC hB (by omega) hc_).imp (fun r w' z => ?_) (fun E w' z => ?_)
  · obtain ⟨z1, z2, z3⟩ := z
    rw [z1]; exact key w' z3 0 z2
  · obtain ⟨z1, z2, z3⟩ := z
    exact ⟨z1, _, key w' z3 1 z2⟩
theorem lo_point (hI : LIn μ f (56 * n) (600 * n) (1 + n) w A) (hR : RM w μ) (hO : OUT o w) (hn : 0 ≤ n ∧ n ≤ 511) (hW : WI w) : KI γ 1 mX12_point [rv f] w 0 0 (fun r w' => QMi γ μ f o n mX13_point [] 0 r w') NX := by
  obtain ⟨⟨p, hC⟩, hV, hB, hP, hS, -, -⟩ := id hI
  have h211 : KLw μ 211 0 = false := KLw_f (by decide) (Or.inl rfl)
  have e9 : ∃ v, (o_point μ A).2 = up A 139 μ.1 0 v := by
    unfold o_point
    exact ⟨_, rfl⟩
  obtain ⟨v9, e9⟩ := e9
  have key : ∀ w', RES μ f w w' (o_point μ A).2 → ∀ kq, (o_point μ A).2 139 μ.1 0 = kq → QMi γ μ f o n mX13_point [] kq (o_point μ A).1 w' := fun w' r kq hkq => by
    obtain ⟨mq, hf, hR'⟩ := MID.of hI hR hO r (by rw [e9]; exact hB.o9.mono (by omega) (by omega) (by omega)) (by rw [e9]; exact hC.p9 hB (by omega) hP.1) (by rw [e9]; exact hS.o9 hB) (by rw [e9]; exact F34.o9)
    exact QMi.mk (ox := (fun x => o_point μ x)) (by decide) mq hf (fun _ => lq_opoint KLw_ok) hR' (fun W hf => c_point γ μ W  _ _ _  (hf.cv hB.pcl) (by omega) (by omega) (by omega)) hkq
  exact (q_point hC hB (by omega) ).imp (fun r w' z => by obtain ⟨z1, z2, z3⟩ := z; rw [z1]; exact key w' z3 0 z2) (fun _ _ z => z)
theorem lo_lines (hI : LIn μ f (56 * n) (600 * n) (1 + n) w A) (hR : RM w μ) (hO : OUT o w) (hn : 0 ≤ n ∧ n ≤ 511) (hW : WI w) : KI γ 2 mX12_lines [rv f] w 0 0 (fun r w' => QMi γ μ f o n mX13_lines [] 0 r w') NX := by
  obtain ⟨⟨p, hC⟩, hV, hB, hP, hS, -, -⟩ := id hI
  have h211 : KLw μ 211 0 = false := KLw_f (by decide) (Or.inl rfl)
  have e9 : ∃ v, (o_lines μ A).2 = up A 139 μ.1 0 v := by
    unfold o_lines
    exact ⟨_, rfl⟩
  obtain ⟨v9, e9⟩ := e9
  have key : ∀ w', RES μ f w w' (o_lines μ A).2 → ∀ kq, (o_lines μ A).2 139 μ.1 0 = kq → QMi γ μ f o n mX13_lines [] kq (o_lines μ A).1 w' := fun w' r kq hkq => by
    obtain ⟨mq, hf, hR'⟩ := MID.of hI hR hO r (by rw [e9]; exact hB.o9.mono (by omega) (by omega) (by omega)) (by rw [e9]; exact hC.p9 hB (by omega) hP.1) (by rw [e9]; exact hS.o9 hB) (by rw [e9]; exact F34.o9)
    exact QMi.mk (ox := (fun x => o_lines μ x)) (by decide) mq hf (fun _ => lq_olines KLw_ok) hR' (fun W hf => c_lines γ μ W  _ _ _  (hf.cv hB.pcl) (by omega) (by omega) (by omega)) hkq
  exact (q_lines hC hB (by omega) ).imp (fun r w' z => by obtain ⟨z1, z2, z3⟩ := z; rw [z1]; exact key w' z3 0 z2) (fun _ _ z => z)
theorem lo_lineOf (hI : LIn μ f (56 * n) (600 * n) (1 + n) w A) (hR : RM w μ) (hO : OUT o w) (hn : 0 ≤ n ∧ n ≤ 511) (hW : WI w) (hc_ : IR c) : KI γ 7 mX12_lineOf [rv f, .int (I c)] w 1 6 (fun r w' => QMi γ μ f o n mX13_lineOf [.int (I c)] 0 r w') (fun E w' => (E = "java/lang/IndexOutOfBoundsException" ∧ ∃ r, QMi γ μ f o n mX13_lineOf [.int (I c)] 1 r w')) := by
  obtain ⟨⟨p, hC⟩, hV, hB, hP, hS, -, -⟩ := id hI
  have h211 : KLw μ 211 0 = false := KLw_f (by decide) (Or.inl rfl)
  have e9 : ∃ v, (o_lineOf μ c A).2 = up A 139 μ.1 0 v := by
    unfold o_lineOf
    split
    · exact ⟨_, rfl⟩
    · exact ⟨_, rfl⟩
  obtain ⟨v9, e9⟩ := e9
  have key : ∀ w', RES μ f w w' (o_lineOf μ c A).2 → ∀ kq, (o_lineOf μ c A).2 139 μ.1 0 = kq → QMi γ μ f o n mX13_lineOf [.int (I c)] kq (o_lineOf μ c A).1 w' := fun w' r kq hkq => by
    obtain ⟨mq, hf, hR'⟩ := MID.of hI hR hO r (by rw [e9]; exact hB.o9.mono (by omega) (by omega) (by omega)) (by rw [e9]; exact hC.p9 hB (by omega) hP.1) (by rw [e9]; exact hS.o9 hB) (by rw [e9]; exact F34.o9)
    exact QMi.mk (ox := (fun x => o_lineOf μ c x)) (by decide) mq hf (fun _ => lq_olineOf KLw_ok c) hR' (fun W hf => c_lineOf γ μ W c _ _ _ hc_ (hf.cv hB.pcl) (by omega) (by omega) (by omega)) hkq
  refine (q_lineOf hC hB (by omega) hc_).imp (fun r w' z => ?_) (fun E w' z => ?_)
  · obtain ⟨z1, z2, z3⟩ := z
    rw [z1]; exact key w' z3 0 z2
  · obtain ⟨z1, z2, z3⟩ := z
    exact ⟨z1, _, key w' z3 1 z2⟩
theorem lo_lineStart (hI : LIn μ f (56 * n) (600 * n) (1 + n) w A) (hR : RM w μ) (hO : OUT o w) (hn : 0 ≤ n ∧ n ≤ 511) (hW : WI w) (hc_ : IR c) : KI γ 7 mX12_lineStart [rv f, .int (I c)] w 1 6 (fun r w' => QMi γ μ f o n mX13_lineStart [.int (I c)] 0 r w') (fun E w' => (E = "java/lang/IndexOutOfBoundsException" ∧ ∃ r, QMi γ μ f o n mX13_lineStart [.int (I c)] 1 r w')) := by
  obtain ⟨⟨p, hC⟩, hV, hB, hP, hS, -, -⟩ := id hI
  have h211 : KLw μ 211 0 = false := KLw_f (by decide) (Or.inl rfl)
  have e9 : ∃ v, (o_lineStart μ c A).2 = up A 139 μ.1 0 v := by
    unfold o_lineStart
    split
    · exact ⟨_, rfl⟩
    · exact ⟨_, rfl⟩
  obtain ⟨v9, e9⟩ := e9
  have key : ∀ w', RES μ f w w' (o_lineStart μ c A).2 → ∀ kq, (o_lineStart μ c A).2 139 μ.1 0 = kq → QMi γ μ f o n mX13_lineStart [.int (I c)] kq (o_lineStart μ c A).1 w' := fun w' r kq hkq => by
    obtain ⟨mq, hf, hR'⟩ := MID.of hI hR hO r (by rw [e9]; exact hB.o9.mono (by omega) (by omega) (by omega)) (by rw [e9]; exact hC.p9 hB (by omega) hP.1) (by rw [e9]; exact hS.o9 hB) (by rw [e9]; exact F34.o9)
    exact QMi.mk (ox := (fun x => o_lineStart μ c x)) (by decide) mq hf (fun _ => lq_olineStart KLw_ok c) hR' (fun W hf => c_lineStart γ μ W c _ _ _ hc_ (hf.cv hB.pcl) (by omega) (by omega) (by omega)) hkq
  refine (q_lineStart hC hB (by omega) hc_).imp (fun r w' z => ?_) (fun E w' z => ?_)
  · obtain ⟨z1, z2, z3⟩ := z
    rw [z1]; exact key w' z3 0 z2
  · obtain ⟨z1, z2, z3⟩ := z
    exact ⟨z1, _, key w' z3 1 z2⟩
theorem lo_markAt (hI : LIn μ f (56 * n) (600 * n) (1 + n) w A) (hR : RM w μ) (hO : OUT o w) (hn : 0 ≤ n ∧ n ≤ 511) (hW : WI w) (hc_ : IR c) : KI γ 7 mX12_markAt [rv f, .int (I c)] w 1 6 (fun r w' => QMi γ μ f o n mX13_markAt [.int (I c)] 0 r w') (fun E w' => (E = "java/lang/IndexOutOfBoundsException" ∧ ∃ r, QMi γ μ f o n mX13_markAt [.int (I c)] 1 r w')) := by
  obtain ⟨⟨p, hC⟩, hV, hB, hP, hS, -, -⟩ := id hI
  have h211 : KLw μ 211 0 = false := KLw_f (by decide) (Or.inl rfl)
  have e9 : ∃ v, (o_markAt μ c A).2 = up A 139 μ.1 0 v := by
    unfold o_markAt
    split
    · exact ⟨_, rfl⟩
    · exact ⟨_, rfl⟩
  obtain ⟨v9, e9⟩ := e9
  have key : ∀ w', RES μ f w w' (o_markAt μ c A).2 → ∀ kq, (o_markAt μ c A).2 139 μ.1 0 = kq → QMi γ μ f o n mX13_markAt [.int (I c)] kq (o_markAt μ c A).1 w' := fun w' r kq hkq => by
    obtain ⟨mq, hf, hR'⟩ := MID.of hI hR hO r (by rw [e9]; exact hB.o9.mono (by omega) (by omega) (by omega)) (by rw [e9]; exact hC.p9 hB (by omega) hP.1) (by rw [e9]; exact hS.o9 hB) (by rw [e9]; exact F34.o9)
    exact QMi.mk (ox := (fun x => o_markAt μ c x)) (by decide) mq hf (fun _ => lq_omarkAt KLw_ok c) hR' (fun W hf => c_markAt γ μ W c _ _ _ hc_ (hf.cv hB.pcl) (by omega) (by omega) (by omega)) hkq
  refine (q_markAt hC hB (by omega) hc_).imp (fun r w' z => ?_) (fun E w' z => ?_)
  · obtain ⟨z1, z2, z3⟩ := z
    rw [z1]; exact key w' z3 0 z2
  · obtain ⟨z1, z2, z3⟩ := z
    exact ⟨z1, _, key w' z3 1 z2⟩
theorem lo_viewStart (hI : LIn μ f (56 * n) (600 * n) (1 + n) w A) (hR : RM w μ) (hO : OUT o w) (hn : 0 ≤ n ∧ n ≤ 511) (hW : WI w) : KI γ 2 mX12_viewStart [rv f] w 0 0 (fun r w' => QMi γ μ f o n mX13_viewStart [] 0 r w') NX := by
  obtain ⟨⟨p, hC⟩, hV, hB, hP, hS, -, -⟩ := id hI
  have h211 : KLw μ 211 0 = false := KLw_f (by decide) (Or.inl rfl)
  have e9 : ∃ v, (o_viewStart μ A).2 = up A 139 μ.1 0 v := by
    unfold o_viewStart
    exact ⟨_, rfl⟩
  obtain ⟨v9, e9⟩ := e9
  have key : ∀ w', RES μ f w w' (o_viewStart μ A).2 → ∀ kq, (o_viewStart μ A).2 139 μ.1 0 = kq → QMi γ μ f o n mX13_viewStart [] kq (o_viewStart μ A).1 w' := fun w' r kq hkq => by
    obtain ⟨mq, hf, hR'⟩ := MID.of hI hR hO r (by rw [e9]; exact hB.o9.mono (by omega) (by omega) (by omega)) (by rw [e9]; exact hC.p9 hB (by omega) hP.1) (by rw [e9]; exact hS.o9 hB) (by rw [e9]; exact F34.o9)
    exact QMi.mk (ox := (fun x => o_viewStart μ x)) (by decide) mq hf (fun _ => lq_oviewStart KLw_ok) hR' (fun W hf => c_viewStart γ μ W  _ _ _  (hf.cv hB.pcl) (by omega) (by omega) (by omega)) hkq
  exact (q_viewStart hC hB (by omega) ).imp (fun r w' z => by obtain ⟨z1, z2, z3⟩ := z; rw [z1]; exact key w' z3 0 z2) (fun _ _ z => z)
theorem lo_viewEnd (hI : LIn μ f (56 * n) (600 * n) (1 + n) w A) (hR : RM w μ) (hO : OUT o w) (hn : 0 ≤ n ∧ n ≤ 511) (hW : WI w) : KI γ 2 mX12_viewEnd [rv f] w 0 0 (fun r w' => QMi γ μ f o n mX13_viewEnd [] 0 r w') NX := by
  obtain ⟨⟨p, hC⟩, hV, hB, hP, hS, -, -⟩ := id hI
  have h211 : KLw μ 211 0 = false := KLw_f (by decide) (Or.inl rfl)
  have e9 : ∃ v, (o_viewEnd μ A).2 = up A 139 μ.1 0 v := by
    unfold o_viewEnd
    exact ⟨_, rfl⟩
  obtain ⟨v9, e9⟩ := e9
  have key : ∀ w', RES μ f w w' (o_viewEnd μ A).2 → ∀ kq, (o_viewEnd μ A).2 139 μ.1 0 = kq → QMi γ μ f o n mX13_viewEnd [] kq (o_viewEnd μ A).1 w' := fun w' r kq hkq => by
    obtain ⟨mq, hf, hR'⟩ := MID.of hI hR hO r (by rw [e9]; exact hB.o9.mono (by omega) (by omega) (by omega)) (by rw [e9]; exact hC.p9 hB (by omega) hP.1) (by rw [e9]; exact hS.o9 hB) (by rw [e9]; exact F34.o9)
    exact QMi.mk (ox := (fun x => o_viewEnd μ x)) (by decide) mq hf (fun _ => lq_oviewEnd KLw_ok) hR' (fun W hf => c_viewEnd γ μ W  _ _ _  (hf.cv hB.pcl) (by omega) (by omega) (by omega)) hkq
  exact (q_viewEnd hC hB (by omega) ).imp (fun r w' z => by obtain ⟨z1, z2, z3⟩ := z; rw [z1]; exact key w' z3 0 z2) (fun _ _ z => z)
theorem lo_now (hI : LIn μ f (56 * n) (600 * n) (1 + n) w A) (hR : RM w μ) (hO : OUT o w) (hn : 0 ≤ n ∧ n ≤ 511) (hW : WI w) : KI γ 1 mX12_now [rv f] w 0 0 (fun r w' => QMi γ μ f o n mX13_now [] 0 r w') NX := by
  obtain ⟨⟨p, hC⟩, hV, hB, hP, hS, -, -⟩ := id hI
  have h211 : KLw μ 211 0 = false := KLw_f (by decide) (Or.inl rfl)
  have e9 : ∃ v, (o_now μ A).2 = up A 139 μ.1 0 v := by
    unfold o_now
    exact ⟨_, rfl⟩
  obtain ⟨v9, e9⟩ := e9
  have key : ∀ w', RES μ f w w' (o_now μ A).2 → ∀ kq, (o_now μ A).2 139 μ.1 0 = kq → QMi γ μ f o n mX13_now [] kq (o_now μ A).1 w' := fun w' r kq hkq => by
    obtain ⟨mq, hf, hR'⟩ := MID.of hI hR hO r (by rw [e9]; exact hB.o9.mono (by omega) (by omega) (by omega)) (by rw [e9]; exact hC.p9 hB (by omega) hP.1) (by rw [e9]; exact hS.o9 hB) (by rw [e9]; exact F34.o9)
    exact QMi.mk (ox := (fun x => o_now μ x)) (by decide) mq hf (fun _ => lq_onow KLw_ok) hR' (fun W hf => c_now γ μ W  _ _ _  (hf.cv hB.pcl) (by omega) (by omega) (by omega)) hkq
  exact (q_now hC hB (by omega) ).imp (fun r w' z => by obtain ⟨z1, z2, z3⟩ := z; rw [z1]; exact key w' z3 0 z2) (fun _ _ z => z)
theorem lo_nodes (hI : LIn μ f (56 * n) (600 * n) (1 + n) w A) (hR : RM w μ) (hO : OUT o w) (hn : 0 ≤ n ∧ n ≤ 511) (hW : WI w) : KI γ 2 mX12_nodes [rv f] w 0 0 (fun r w' => QMi γ μ f o n mX13_nodes [] 0 r w') NX := by
  obtain ⟨⟨p, hC⟩, hV, hB, hP, hS, -, -⟩ := id hI
  have h211 : KLw μ 211 0 = false := KLw_f (by decide) (Or.inl rfl)
  have e9 : ∃ v, (o_nodes μ A).2 = up A 139 μ.1 0 v := by
    unfold o_nodes
    exact ⟨_, rfl⟩
  obtain ⟨v9, e9⟩ := e9
  have key : ∀ w', RES μ f w w' (o_nodes μ A).2 → ∀ kq, (o_nodes μ A).2 139 μ.1 0 = kq → QMi γ μ f o n mX13_nodes [] kq (o_nodes μ A).1 w' := fun w' r kq hkq => by
    obtain ⟨mq, hf, hR'⟩ := MID.of hI hR hO r (by rw [e9]; exact hB.o9.mono (by omega) (by omega) (by omega)) (by rw [e9]; exact hC.p9 hB (by omega) hP.1) (by rw [e9]; exact hS.o9 hB) (by rw [e9]; exact F34.o9)
    exact QMi.mk (ox := (fun x => o_nodes μ x)) (by decide) mq hf (fun _ => lq_onodes KLw_ok) hR' (fun W hf => c_nodes γ μ W  _ _ _  (hf.cv hB.pcl) (by omega) (by omega) (by omega)) hkq
  exact (q_nodes hC hW hB (by omega) ).imp (fun r w' z => by obtain ⟨z1, z2, z3⟩ := z; rw [z1]; exact key w' z3 0 z2) (fun _ _ z => z)
theorem lo_parentOf (hI : LIn μ f (56 * n) (600 * n) (1 + n) w A) (hR : RM w μ) (hO : OUT o w) (hn : 0 ≤ n ∧ n ≤ 511) (hW : WI w) (hc_ : IR c) : KI γ 8 mX12_parentOf [rv f, .int (I c)] w 1 6 (fun r w' => QMi γ μ f o n mX13_parentOf [.int (I c)] 0 r w') (fun E w' => (E = "java/lang/IndexOutOfBoundsException" ∧ ∃ r, QMi γ μ f o n mX13_parentOf [.int (I c)] 1 r w')) := by
  obtain ⟨⟨p, hC⟩, hV, hB, hP, hS, -, -⟩ := id hI
  have h211 : KLw μ 211 0 = false := KLw_f (by decide) (Or.inl rfl)
  have e9 : ∃ v, (o_parentOf μ c A).2 = up A 139 μ.1 0 v := by
    unfold o_parentOf
    split
    · exact ⟨_, rfl⟩
    · exact ⟨_, rfl⟩
  obtain ⟨v9, e9⟩ := e9
  have key : ∀ w', RES μ f w w' (o_parentOf μ c A).2 → ∀ kq, (o_parentOf μ c A).2 139 μ.1 0 = kq → QMi γ μ f o n mX13_parentOf [.int (I c)] kq (o_parentOf μ c A).1 w' := fun w' r kq hkq => by
    obtain ⟨mq, hf, hR'⟩ := MID.of hI hR hO r (by rw [e9]; exact hB.o9.mono (by omega) (by omega) (by omega)) (by rw [e9]; exact hC.p9 hB (by omega) hP.1) (by rw [e9]; exact hS.o9 hB) (by rw [e9]; exact F34.o9)
    exact QMi.mk (ox := (fun x => o_parentOf μ c x)) (by decide) mq hf (fun _ => lq_oparentOf KLw_ok c) hR' (fun W hf => c_parentOf γ μ W c _ _ _ hc_ (hf.cv hB.pcl) (by omega) (by omega) (by omega)) hkq
  refine (q_parentOf hC hW hB (by omega) hc_).imp (fun r w' z => ?_) (fun E w' z => ?_)
  · obtain ⟨z1, z2, z3⟩ := z
    rw [z1]; exact key w' z3 0 z2
  · obtain ⟨z1, z2, z3⟩ := z
    exact ⟨z1, _, key w' z3 1 z2⟩
theorem lo_newestChild (hI : LIn μ f (56 * n) (600 * n) (1 + n) w A) (hR : RM w μ) (hO : OUT o w) (hn : 0 ≤ n ∧ n ≤ 511) (hW : WI w) (hc_ : IR c) : KI γ 8 mX12_newestChild [rv f, .int (I c)] w 1 6 (fun r w' => QMi γ μ f o n mX13_newestChild [.int (I c)] 0 r w') (fun E w' => (E = "java/lang/IndexOutOfBoundsException" ∧ ∃ r, QMi γ μ f o n mX13_newestChild [.int (I c)] 1 r w')) := by
  obtain ⟨⟨p, hC⟩, hV, hB, hP, hS, -, -⟩ := id hI
  have h211 : KLw μ 211 0 = false := KLw_f (by decide) (Or.inl rfl)
  have e9 : ∃ v, (o_newestChild μ c A).2 = up A 139 μ.1 0 v := by
    unfold o_newestChild
    split
    · exact ⟨_, rfl⟩
    · exact ⟨_, rfl⟩
  obtain ⟨v9, e9⟩ := e9
  have key : ∀ w', RES μ f w w' (o_newestChild μ c A).2 → ∀ kq, (o_newestChild μ c A).2 139 μ.1 0 = kq → QMi γ μ f o n mX13_newestChild [.int (I c)] kq (o_newestChild μ c A).1 w' := fun w' r kq hkq => by
    obtain ⟨mq, hf, hR'⟩ := MID.of hI hR hO r (by rw [e9]; exact hB.o9.mono (by omega) (by omega) (by omega)) (by rw [e9]; exact hC.p9 hB (by omega) hP.1) (by rw [e9]; exact hS.o9 hB) (by rw [e9]; exact F34.o9)
    exact QMi.mk (ox := (fun x => o_newestChild μ c x)) (by decide) mq hf (fun _ => lq_onewestChild KLw_ok c) hR' (fun W hf => c_newestChild γ μ W c _ _ _ hc_ (hf.cv hB.pcl) (by omega) (by omega) (by omega)) hkq
  refine (q_newestChild hC hW hB (by omega) hc_).imp (fun r w' z => ?_) (fun E w' z => ?_)
  · obtain ⟨z1, z2, z3⟩ := z
    rw [z1]; exact key w' z3 0 z2
  · obtain ⟨z1, z2, z3⟩ := z
    exact ⟨z1, _, key w' z3 1 z2⟩
theorem lo_stepsOf (hI : LIn μ f (56 * n) (600 * n) (1 + n) w A) (hR : RM w μ) (hO : OUT o w) (hn : 0 ≤ n ∧ n ≤ 511) (hW : WI w) (hc_ : IR c) : KI γ 8 mX12_stepsOf [rv f, .int (I c)] w 1 6 (fun r w' => QMi γ μ f o n mX13_stepsOf [.int (I c)] 0 r w') (fun E w' => (E = "java/lang/IndexOutOfBoundsException" ∧ ∃ r, QMi γ μ f o n mX13_stepsOf [.int (I c)] 1 r w')) := by
  obtain ⟨⟨p, hC⟩, hV, hB, hP, hS, -, -⟩ := id hI
  have h211 : KLw μ 211 0 = false := KLw_f (by decide) (Or.inl rfl)
  have hU : UN μ (pl_ p) A := hC.un hB (by omega) hS.1.2.2.1 hS.1.2.1
  have hRA : RPA μ (pl_ p) A := fun k k0 k1 k2 => (hU.2.1 k k0 k1 k2).1
  have e9 : ∃ v, (o_stepsOf μ (pl_ p) c A).2 = up A 139 μ.1 0 v := by
    unfold o_stepsOf
    split
    · exact ⟨_, rfl⟩
    · exact ⟨_, rfl⟩
  obtain ⟨v9, e9⟩ := e9
  have key : ∀ w', RES μ f w w' (o_stepsOf μ (pl_ p) c A).2 → ∀ kq, (o_stepsOf μ (pl_ p) c A).2 139 μ.1 0 = kq → QMi γ μ f o n mX13_stepsOf [.int (I c)] kq (o_stepsOf μ (pl_ p) c A).1 w' := fun w' r kq hkq => by
    obtain ⟨mq, hf, hR'⟩ := MID.of hI hR hO r (by rw [e9]; exact hB.o9.mono (by omega) (by omega) (by omega)) (by rw [e9]; exact hC.p9 hB (by omega) hP.1) (by rw [e9]; exact hS.o9 hB) (by rw [e9]; exact F34.o9)
    exact QMi.mk (ox := (fun x => o_stepsOf μ (pl_ p) c x)) (by decide) mq hf (fun _ => lq_ostepsOf KLw_ok (pl_ p) c) hR' (fun W hf => c_stepsOf2 γ μ W (pl_ p) c _ _ _ hc_ (hf.cv hRA.pcl) (hf.cv hU.1.pcl) hC.2.1.1.1.2.1 (hf.cv (p := fun V : Mm => isN μ c V → szL V (pl_ p c) ≤ 2000000) (szL_ok hC hB (by omega))) (hf.cv hB.pcl) (by omega) (by omega) (by omega)) hkq
  refine (q_stepsOf hC hW hB (by omega) hc_).imp (fun r w' z => ?_) (fun E w' z => ?_)
  · obtain ⟨z1, z2, z3⟩ := z
    rw [z1]; exact key w' z3 0 z2
  · obtain ⟨z1, z2, z3⟩ := z
    exact ⟨z1, _, key w' z3 1 z2⟩
theorem lo_bookmarkAt (hI : LIn μ f (56 * n) (600 * n) (1 + n) w A) (hR : RM w μ) (hO : OUT o w) (hn : 0 ≤ n ∧ n ≤ 511) (hW : WI w) (hc_ : IR c) : KI γ 7 mX12_bookmarkAt [rv f, .int (I c)] w 1 6 (fun r w' => QMi γ μ f o n mX13_bookmarkAt [.int (I c)] 0 r w') (fun E w' => (E = "java/lang/IndexOutOfBoundsException" ∧ ∃ r, QMi γ μ f o n mX13_bookmarkAt [.int (I c)] 1 r w')) := by
  obtain ⟨⟨p, hC⟩, hV, hB, hP, hS, -, -⟩ := id hI
  have h211 : KLw μ 211 0 = false := KLw_f (by decide) (Or.inl rfl)
  have e9 : ∃ v, (o_bookmarkAt μ c A).2 = up A 139 μ.1 0 v := by
    unfold o_bookmarkAt
    split
    · exact ⟨_, rfl⟩
    · exact ⟨_, rfl⟩
  obtain ⟨v9, e9⟩ := e9
  have key : ∀ w', RES μ f w w' (o_bookmarkAt μ c A).2 → ∀ kq, (o_bookmarkAt μ c A).2 139 μ.1 0 = kq → QMi γ μ f o n mX13_bookmarkAt [.int (I c)] kq (o_bookmarkAt μ c A).1 w' := fun w' r kq hkq => by
    obtain ⟨mq, hf, hR'⟩ := MID.of hI hR hO r (by rw [e9]; exact hB.o9.mono (by omega) (by omega) (by omega)) (by rw [e9]; exact hC.p9 hB (by omega) hP.1) (by rw [e9]; exact hS.o9 hB) (by rw [e9]; exact F34.o9)
    exact QMi.mk (ox := (fun x => o_bookmarkAt μ c x)) (by decide) mq hf (fun _ => lq_obookmarkAt KLw_ok c) hR' (fun W hf => c_bookmarkAt γ μ W c _ _ _ hc_ (hf.cv hB.pcl) (by omega) (by omega) (by omega)) hkq
  refine (q_bookmarkAt hC hW hB (by omega) hc_).imp (fun r w' z => ?_) (fun E w' z => ?_)
  · obtain ⟨z1, z2, z3⟩ := z
    rw [z1]; exact key w' z3 0 z2
  · obtain ⟨z1, z2, z3⟩ := z
    exact ⟨z1, _, key w' z3 1 z2⟩
theorem lo_lengthByReplay (hI : LIn μ f (56 * n) (600 * n) (1 + n) w A) (hR : RM w μ) (hO : OUT o w) (hn : 0 ≤ n ∧ n ≤ 511) (hW : WI w) (hc_ : IR c) : KI γ 8 mX12_lengthByReplay [rv f, .int (I c)] w 1 6 (fun r w' => QMi γ μ f o n mX13_lengthByReplay [.int (I c)] 0 r w') (fun E w' => (E = "java/lang/IndexOutOfBoundsException" ∧ ∃ r, QMi γ μ f o n mX13_lengthByReplay [.int (I c)] 1 r w')) := by
  obtain ⟨⟨p, hC⟩, hV, hB, hP, hS, -, -⟩ := id hI
  have h211 : KLw μ 211 0 = false := KLw_f (by decide) (Or.inl rfl)
  have hU : UN μ (pl_ p) A := hC.un hB (by omega) hS.1.2.2.1 hS.1.2.1
  have hRA : RPA μ (pl_ p) A := fun k k0 k1 k2 => (hU.2.1 k k0 k1 k2).1
  have key : ∀ w', RES μ f w w' (o_lengthByReplay μ (pl_ p) c A).2 → ∀ kq, (o_lengthByReplay μ (pl_ p) c A).2 139 μ.1 0 = kq → QMi γ μ f o n mX13_lengthByReplay [.int (I c)] kq (o_lengthByReplay μ (pl_ p) c A).1 w' := fun w' r kq hkq => by
    obtain ⟨mq, hf, hR'⟩ := MID.of hI hR hO r ((RBq_lengthByReplay hC hB (by omega)).mono (by omega) (by omega) (by omega)) (PTo_lengthByReplay hC hB (by omega) hP.1) (IVo_lengthByReplay hC hB (by omega) hS) (F34_lengthByReplay hC hB (by omega))
    exact QMi.mk (ox := (fun x => o_lengthByReplay μ (pl_ p) c x)) (by decide) mq hf (fun _ => lq_olengthByReplay KLw_ok (pl_ p) c) hR' (fun W hf => c_lengthByReplay γ μ W (pl_ p) c _ _ _ hc_ (hf.cv hRA.pcl) (hf.cv hU.1.pcl) (hf.cv hB.pcl) (by omega) (by omega) (by omega)) hkq
  refine (q_lengthByReplay hC hW hB (by omega) hc_).imp (fun r w' z => ?_) (fun E w' z => ?_)
  · obtain ⟨z1, z2, z3⟩ := z
    rw [z1]; exact key w' z3 0 z2
  · obtain ⟨z1, z2, z3⟩ := z
    exact ⟨z1, _, key w' z3 1 z2⟩
theorem lo_charByReplay (hI : LIn μ f (56 * n) (600 * n) (1 + n) w A) (hR : RM w μ) (hO : OUT o w) (hn : 0 ≤ n ∧ n ≤ 511) (hW : WI w) (hc_ : IR c) (hk_ : IR k) : KI γ 8 mX12_charByReplay [rv f, .int (I c), .int (I k)] w 2 12 (fun r w' => QMi γ μ f o n mX13_charByReplay [.int (I c), .int (I k)] 0 r w') (fun E w' => (E = "java/lang/IndexOutOfBoundsException" ∧ ∃ r, QMi γ μ f o n mX13_charByReplay [.int (I c), .int (I k)] 1 r w')) := by
  obtain ⟨⟨p, hC⟩, hV, hB, hP, hS, -, -⟩ := id hI
  have h211 : KLw μ 211 0 = false := KLw_f (by decide) (Or.inl rfl)
  have hU : UN μ (pl_ p) A := hC.un hB (by omega) hS.1.2.2.1 hS.1.2.1
  have hRA : RPA μ (pl_ p) A := fun k k0 k1 k2 => (hU.2.1 k k0 k1 k2).1
  have key : ∀ w', RES μ f w w' (o_charByReplay μ (pl_ p) c k A).2 → ∀ kq, (o_charByReplay μ (pl_ p) c k A).2 139 μ.1 0 = kq → QMi γ μ f o n mX13_charByReplay [.int (I c), .int (I k)] kq (o_charByReplay μ (pl_ p) c k A).1 w' := fun w' r kq hkq => by
    obtain ⟨mq, hf, hR'⟩ := MID.of hI hR hO r ((RBq_charByReplay hC hB (by omega)).mono (by omega) (by omega) (by omega)) (PTo_charByReplay hC hB (by omega) hP.1) (IVo_charByReplay hC hB (by omega) hS) (F34_charByReplay hC hB (by omega))
    exact QMi.mk (ox := (fun x => o_charByReplay μ (pl_ p) c k x)) (by decide) mq hf (fun _ => lq_ocharByReplay KLw_ok (pl_ p) c k) hR' (fun W hf => c_charByReplay γ μ W (pl_ p) c k _ _ _ hc_ hk_ (hf.cv hRA.pcl) (hf.cv hU.1.pcl) (hf.cv hB.pcl) (by omega) (by omega) (by omega)) hkq
  refine (q_charByReplay hC hW hB (by omega) hc_ hk_).imp (fun r w' z => ?_) (fun E w' z => ?_)
  · obtain ⟨z1, z2, z3⟩ := z
    rw [z1]; exact key w' z3 0 z2
  · obtain ⟨z1, z2, z3⟩ := z
    exact ⟨z1, _, key w' z3 1 z2⟩
theorem lo_markByReplay (hI : LIn μ f (56 * n) (600 * n) (1 + n) w A) (hR : RM w μ) (hO : OUT o w) (hn : 0 ≤ n ∧ n ≤ 511) (hW : WI w) (hc_ : IR c) (hk_ : IR k) : KI γ 8 mX12_markByReplay [rv f, .int (I c), .int (I k)] w 2 12 (fun r w' => QMi γ μ f o n mX13_markByReplay [.int (I c), .int (I k)] 0 r w') (fun E w' => (E = "java/lang/IndexOutOfBoundsException" ∧ ∃ r, QMi γ μ f o n mX13_markByReplay [.int (I c), .int (I k)] 1 r w')) := by
  obtain ⟨⟨p, hC⟩, hV, hB, hP, hS, -, -⟩ := id hI
  have h211 : KLw μ 211 0 = false := KLw_f (by decide) (Or.inl rfl)
  have hU : UN μ (pl_ p) A := hC.un hB (by omega) hS.1.2.2.1 hS.1.2.1
  have hRA : RPA μ (pl_ p) A := fun k k0 k1 k2 => (hU.2.1 k k0 k1 k2).1
  have key : ∀ w', RES μ f w w' (o_markByReplay μ (pl_ p) c k A).2 → ∀ kq, (o_markByReplay μ (pl_ p) c k A).2 139 μ.1 0 = kq → QMi γ μ f o n mX13_markByReplay [.int (I c), .int (I k)] kq (o_markByReplay μ (pl_ p) c k A).1 w' := fun w' r kq hkq => by
    obtain ⟨mq, hf, hR'⟩ := MID.of hI hR hO r ((RBq_markByReplay hC hB (by omega)).mono (by omega) (by omega) (by omega)) (PTo_markByReplay hC hB (by omega) hP.1) (IVo_markByReplay hC hB (by omega) hS) (F34_markByReplay hC hB (by omega))
    exact QMi.mk (ox := (fun x => o_markByReplay μ (pl_ p) c k x)) (by decide) mq hf (fun _ => lq_omarkByReplay KLw_ok (pl_ p) c k) hR' (fun W hf => c_markByReplay γ μ W (pl_ p) c k _ _ _ hc_ hk_ (hf.cv hRA.pcl) (hf.cv hU.1.pcl) (hf.cv hB.pcl) (by omega) (by omega) (by omega)) hkq
  refine (q_markByReplay hC hW hB (by omega) hc_ hk_).imp (fun r w' z => ?_) (fun E w' z => ?_)
  · obtain ⟨z1, z2, z3⟩ := z
    rw [z1]; exact key w' z3 0 z2
  · obtain ⟨z1, z2, z3⟩ := z
    exact ⟨z1, _, key w' z3 1 z2⟩
theorem lo_storedByReplay (hI : LIn μ f (56 * n) (600 * n) (1 + n) w A) (hR : RM w μ) (hO : OUT o w) (hn : 0 ≤ n ∧ n ≤ 511) (hW : WI w) (hc_ : IR c) (hk_ : IR k) : KI γ 8 mX12_storedByReplay [rv f, .int (I c), .int (I k)] w 2 12 (fun r w' => QMi γ μ f o n mX13_storedByReplay [.int (I c), .int (I k)] 0 r w') (fun E w' => (E = "java/lang/IndexOutOfBoundsException" ∧ ∃ r, QMi γ μ f o n mX13_storedByReplay [.int (I c), .int (I k)] 1 r w')) := by
  obtain ⟨⟨p, hC⟩, hV, hB, hP, hS, -, -⟩ := id hI
  have h211 : KLw μ 211 0 = false := KLw_f (by decide) (Or.inl rfl)
  have hU : UN μ (pl_ p) A := hC.un hB (by omega) hS.1.2.2.1 hS.1.2.1
  have hRA : RPA μ (pl_ p) A := fun k k0 k1 k2 => (hU.2.1 k k0 k1 k2).1
  have key : ∀ w', RES μ f w w' (o_storedByReplay μ (pl_ p) c k A).2 → ∀ kq, (o_storedByReplay μ (pl_ p) c k A).2 139 μ.1 0 = kq → QMi γ μ f o n mX13_storedByReplay [.int (I c), .int (I k)] kq (o_storedByReplay μ (pl_ p) c k A).1 w' := fun w' r kq hkq => by
    obtain ⟨mq, hf, hR'⟩ := MID.of hI hR hO r ((RBq_storedByReplay hC hB (by omega)).mono (by omega) (by omega) (by omega)) (PTo_storedByReplay hC hB (by omega) hP.1) (IVo_storedByReplay hC hB (by omega) hS) (F34_storedByReplay hC hB (by omega))
    exact QMi.mk (ox := (fun x => o_storedByReplay μ (pl_ p) c k x)) (by decide) mq hf (fun _ => lq_ostoredByReplay KLw_ok h211 (pl_ p) c k) hR' (fun W hf => c_storedByReplay γ μ W (pl_ p) c k _ _ _ hc_ hk_ (hf.cv hRA.pcl) (hf.cv hU.1.pcl) (hf.cv hB.pcl) (by omega) (by omega) (by omega)) hkq
  refine (q_storedByReplay hC hW hB (by omega) hc_ hk_).imp (fun r w' z => ?_) (fun E w' z => ?_)
  · obtain ⟨z1, z2, z3⟩ := z
    rw [z1]; exact key w' z3 0 z2
  · obtain ⟨z1, z2, z3⟩ := z
    exact ⟨z1, _, key w' z3 1 z2⟩
theorem lo_entries (hI : LIn μ f (56 * n) (600 * n) (1 + n) w A) (hR : RM w μ) (hO : OUT o w) (hn : 0 ≤ n ∧ n ≤ 511) (hW : WI w) (hc_ : IR c) : KI γ 7 mX12_entries [rv f, .int (I c)] w 1 6 (fun r w' => QMi γ μ f o n mX13_entries [.int (I c)] 0 r w') (fun E w' => (E = "java/lang/IndexOutOfBoundsException" ∧ ∃ r, QMi γ μ f o n mX13_entries [.int (I c)] 1 r w')) := by
  obtain ⟨⟨p, hC⟩, hV, hB, hP, hS, -, -⟩ := id hI
  have h211 : KLw μ 211 0 = false := KLw_f (by decide) (Or.inl rfl)
  have e9 : ∃ v, (o_entries μ c A).2 = up A 139 μ.1 0 v := by
    unfold o_entries
    split
    · exact ⟨_, rfl⟩
    · exact ⟨_, rfl⟩
  obtain ⟨v9, e9⟩ := e9
  have key : ∀ w', RES μ f w w' (o_entries μ c A).2 → ∀ kq, (o_entries μ c A).2 139 μ.1 0 = kq → QMi γ μ f o n mX13_entries [.int (I c)] kq (o_entries μ c A).1 w' := fun w' r kq hkq => by
    obtain ⟨mq, hf, hR'⟩ := MID.of hI hR hO r (by rw [e9]; exact hB.o9.mono (by omega) (by omega) (by omega)) (by rw [e9]; exact hC.p9 hB (by omega) hP.1) (by rw [e9]; exact hS.o9 hB) (by rw [e9]; exact F34.o9)
    exact QMi.mk (ox := (fun x => o_entries μ c x)) (by decide) mq hf (fun _ => lq_oentries KLw_ok c) hR' (fun W hf => c_entries γ μ W c _ _ _ hc_ (hf.cv hB.pcl) (by omega) (by omega) (by omega)) hkq
  refine (q_entries hC hW hB (by omega) hc_).imp (fun r w' z => ?_) (fun E w' z => ?_)
  · obtain ⟨z1, z2, z3⟩ := z
    rw [z1]; exact key w' z3 0 z2
  · obtain ⟨z1, z2, z3⟩ := z
    exact ⟨z1, _, key w' z3 1 z2⟩
theorem lo_entryLength (hI : LIn μ f (56 * n) (600 * n) (1 + n) w A) (hR : RM w μ) (hO : OUT o w) (hn : 0 ≤ n ∧ n ≤ 511) (hW : WI w) (hc_ : IR c) (hk_ : IR k) : KI γ 8 mX12_entryLength [rv f, .int (I c), .int (I k)] w 2 12 (fun r w' => QMi γ μ f o n mX13_entryLength [.int (I c), .int (I k)] 0 r w') (fun E w' => (E = "java/lang/IndexOutOfBoundsException" ∧ ∃ r, QMi γ μ f o n mX13_entryLength [.int (I c), .int (I k)] 1 r w')) := by
  obtain ⟨⟨p, hC⟩, hV, hB, hP, hS, -, -⟩ := id hI
  have h211 : KLw μ 211 0 = false := KLw_f (by decide) (Or.inl rfl)
  have e9 : ∃ v, (o_entryLength μ c k A).2 = up A 139 μ.1 0 v := by
    unfold o_entryLength
    split
    · exact ⟨_, rfl⟩
    · exact ⟨_, rfl⟩
  obtain ⟨v9, e9⟩ := e9
  have key : ∀ w', RES μ f w w' (o_entryLength μ c k A).2 → ∀ kq, (o_entryLength μ c k A).2 139 μ.1 0 = kq → QMi γ μ f o n mX13_entryLength [.int (I c), .int (I k)] kq (o_entryLength μ c k A).1 w' := fun w' r kq hkq => by
    obtain ⟨mq, hf, hR'⟩ := MID.of hI hR hO r (by rw [e9]; exact hB.o9.mono (by omega) (by omega) (by omega)) (by rw [e9]; exact hC.p9 hB (by omega) hP.1) (by rw [e9]; exact hS.o9 hB) (by rw [e9]; exact F34.o9)
    exact QMi.mk (ox := (fun x => o_entryLength μ c k x)) (by decide) mq hf (fun _ => lq_oentryLength KLw_ok c k) hR' (fun W hf => c_entryLength γ μ W c k _ _ _ hc_ hk_ (hf.cv hB.pcl) (by omega) (by omega) (by omega)) hkq
  refine (q_entryLength hC hW hB (by omega) hc_ hk_).imp (fun r w' z => ?_) (fun E w' z => ?_)
  · obtain ⟨z1, z2, z3⟩ := z
    rw [z1]; exact key w' z3 0 z2
  · obtain ⟨z1, z2, z3⟩ := z
    exact ⟨z1, _, key w' z3 1 z2⟩
theorem lo_entryChar (hI : LIn μ f (56 * n) (600 * n) (1 + n) w A) (hR : RM w μ) (hO : OUT o w) (hn : 0 ≤ n ∧ n ≤ 511) (hW : WI w) (hc_ : IR c) (hk_ : IR k) (hb_ : IR b) : KI γ 8 mX12_entryChar [rv f, .int (I c), .int (I k), .int (I b)] w 3 18 (fun r w' => QMi γ μ f o n mX13_entryChar [.int (I c), .int (I k), .int (I b)] 0 r w') (fun E w' => (E = "java/lang/IndexOutOfBoundsException" ∧ ∃ r, QMi γ μ f o n mX13_entryChar [.int (I c), .int (I k), .int (I b)] 1 r w')) := by
  obtain ⟨⟨p, hC⟩, hV, hB, hP, hS, -, -⟩ := id hI
  have h211 : KLw μ 211 0 = false := KLw_f (by decide) (Or.inl rfl)
  have e9 : ∃ v, (o_entryChar μ c k b A).2 = up A 139 μ.1 0 v := by
    unfold o_entryChar
    split
    · split
      · exact ⟨_, up_up⟩
      · exact ⟨_, up_up⟩
    · exact ⟨_, rfl⟩
  obtain ⟨v9, e9⟩ := e9
  have key : ∀ w', RES μ f w w' (o_entryChar μ c k b A).2 → ∀ kq, (o_entryChar μ c k b A).2 139 μ.1 0 = kq → QMi γ μ f o n mX13_entryChar [.int (I c), .int (I k), .int (I b)] kq (o_entryChar μ c k b A).1 w' := fun w' r kq hkq => by
    obtain ⟨mq, hf, hR'⟩ := MID.of hI hR hO r (by rw [e9]; exact hB.o9.mono (by omega) (by omega) (by omega)) (by rw [e9]; exact hC.p9 hB (by omega) hP.1) (by rw [e9]; exact hS.o9 hB) (by rw [e9]; exact F34.o9)
    exact QMi.mk (ox := (fun x => o_entryChar μ c k b x)) (by decide) mq hf (fun _ => lq_oentryChar KLw_ok c k b) hR' (fun W hf => c_entryChar γ μ W c k b _ _ _ hc_ hk_ hb_ (hf.cv hB.pcl) (by omega) (by omega) (by omega)) hkq
  refine (q_entryChar hC hW hB (by omega) hc_ hk_ hb_).imp (fun r w' z => ?_) (fun E w' z => ?_)
  · obtain ⟨z1, z2, z3⟩ := z
    rw [z1]; exact key w' z3 0 z2
  · obtain ⟨z1, z2, z3⟩ := z
    exact ⟨z1, _, key w' z3 1 z2⟩
theorem lo_commands (hI : LIn μ f (56 * n) (600 * n) (1 + n) w A) (hR : RM w μ) (hO : OUT o w) (hn : 0 ≤ n ∧ n ≤ 511) (hW : WI w) (hc_ : IR c) : KI γ 7 mX12_commands [rv f, .int (I c)] w 1 6 (fun r w' => QMi γ μ f o n mX13_commands [.int (I c)] 0 r w') (fun E w' => (E = "java/lang/IndexOutOfBoundsException" ∧ ∃ r, QMi γ μ f o n mX13_commands [.int (I c)] 1 r w')) := by
  obtain ⟨⟨p, hC⟩, hV, hB, hP, hS, -, -⟩ := id hI
  have h211 : KLw μ 211 0 = false := KLw_f (by decide) (Or.inl rfl)
  have e9 : ∃ v, (o_commands μ c A).2 = up A 139 μ.1 0 v := by
    unfold o_commands
    split
    · exact ⟨_, rfl⟩
    · exact ⟨_, rfl⟩
  obtain ⟨v9, e9⟩ := e9
  have key : ∀ w', RES μ f w w' (o_commands μ c A).2 → ∀ kq, (o_commands μ c A).2 139 μ.1 0 = kq → QMi γ μ f o n mX13_commands [.int (I c)] kq (o_commands μ c A).1 w' := fun w' r kq hkq => by
    obtain ⟨mq, hf, hR'⟩ := MID.of hI hR hO r (by rw [e9]; exact hB.o9.mono (by omega) (by omega) (by omega)) (by rw [e9]; exact hC.p9 hB (by omega) hP.1) (by rw [e9]; exact hS.o9 hB) (by rw [e9]; exact F34.o9)
    exact QMi.mk (ox := (fun x => o_commands μ c x)) (by decide) mq hf (fun _ => lq_ocommands KLw_ok c) hR' (fun W hf => c_commands γ μ W c _ _ _ hc_ (hf.cv hB.pcl) (by omega) (by omega) (by omega)) hkq
  refine (q_commands hC hB (by omega) hc_).imp (fun r w' z => ?_) (fun E w' z => ?_)
  · obtain ⟨z1, z2, z3⟩ := z
    rw [z1]; exact key w' z3 0 z2
  · obtain ⟨z1, z2, z3⟩ := z
    exact ⟨z1, _, key w' z3 1 z2⟩
theorem lo_failureReason (hI : LIn μ f (56 * n) (600 * n) (1 + n) w A) (hR : RM w μ) (hO : OUT o w) (hn : 0 ≤ n ∧ n ≤ 511) (hW : WI w) : KI γ 1 mX12_failureReason [rv f] w 0 0 (fun r w' => QMi γ μ f o n mX13_failureReason [] 0 r w') NX := by
  obtain ⟨⟨p, hC⟩, hV, hB, hP, hS, -, -⟩ := id hI
  have h211 : KLw μ 211 0 = false := KLw_f (by decide) (Or.inl rfl)
  have e9 : ∃ v, (o_failureReason μ A).2 = up A 139 μ.1 0 v := by
    unfold o_failureReason
    exact ⟨_, rfl⟩
  obtain ⟨v9, e9⟩ := e9
  have key : ∀ w', RES μ f w w' (o_failureReason μ A).2 → ∀ kq, (o_failureReason μ A).2 139 μ.1 0 = kq → QMi γ μ f o n mX13_failureReason [] kq (o_failureReason μ A).1 w' := fun w' r kq hkq => by
    obtain ⟨mq, hf, hR'⟩ := MID.of hI hR hO r (by rw [e9]; exact hB.o9.mono (by omega) (by omega) (by omega)) (by rw [e9]; exact hC.p9 hB (by omega) hP.1) (by rw [e9]; exact hS.o9 hB) (by rw [e9]; exact F34.o9)
    exact QMi.mk (ox := (fun x => o_failureReason μ x)) (by decide) mq hf (fun _ => lq_ofailureReason KLw_ok) hR' (fun W hf => c_failureReason γ μ W  _ _ _  (hf.cv hB.pcl) (by omega) (by omega) (by omega)) hkq
  exact (q_failureReason hC hV hB (by omega) ).imp (fun r w' z => by obtain ⟨z1, z2, z3⟩ := z; rw [z1]; exact key w' z3 0 z2) (fun _ _ z => z)
theorem lo_failureCommand (hI : LIn μ f (56 * n) (600 * n) (1 + n) w A) (hR : RM w μ) (hO : OUT o w) (hn : 0 ≤ n ∧ n ≤ 511) (hW : WI w) : KI γ 1 mX12_failureCommand [rv f] w 0 0 (fun r w' => QMi γ μ f o n mX13_failureCommand [] 0 r w') NX := by
  obtain ⟨⟨p, hC⟩, hV, hB, hP, hS, -, -⟩ := id hI
  have h211 : KLw μ 211 0 = false := KLw_f (by decide) (Or.inl rfl)
  have e9 : ∃ v, (o_failureCommand μ A).2 = up A 139 μ.1 0 v := by
    unfold o_failureCommand
    exact ⟨_, rfl⟩
  obtain ⟨v9, e9⟩ := e9
  have key : ∀ w', RES μ f w w' (o_failureCommand μ A).2 → ∀ kq, (o_failureCommand μ A).2 139 μ.1 0 = kq → QMi γ μ f o n mX13_failureCommand [] kq (o_failureCommand μ A).1 w' := fun w' r kq hkq => by
    obtain ⟨mq, hf, hR'⟩ := MID.of hI hR hO r (by rw [e9]; exact hB.o9.mono (by omega) (by omega) (by omega)) (by rw [e9]; exact hC.p9 hB (by omega) hP.1) (by rw [e9]; exact hS.o9 hB) (by rw [e9]; exact F34.o9)
    exact QMi.mk (ox := (fun x => o_failureCommand μ x)) (by decide) mq hf (fun _ => lq_ofailureCommand KLw_ok) hR' (fun W hf => c_failureCommand γ μ W  _ _ _  (hf.cv hB.pcl) (by omega) (by omega) (by omega)) hkq
  exact (q_failureCommand hC hV hB (by omega) ).imp (fun r w' z => by obtain ⟨z1, z2, z3⟩ := z; rw [z1]; exact key w' z3 0 z2) (fun _ _ z => z)
theorem lo_listenerChain (hI : LIn μ f (56 * n) (600 * n) (1 + n) w A) (hR : RM w μ) (hO : OUT o w) (hn : 0 ≤ n ∧ n ≤ 511) (hW : WI w) (hc_ : IR c) : KI γ 7 mX12_listenerChain [rv f, .int (I c)] w 1 6 (fun r w' => QMi γ μ f o n mX13_listenerChain [.int (I c)] 0 r w') (fun E w' => (E = "java/lang/IndexOutOfBoundsException" ∧ ∃ r, QMi γ μ f o n mX13_listenerChain [.int (I c)] 1 r w')) := by
  obtain ⟨⟨p, hC⟩, hV, hB, hP, hS, -, -⟩ := id hI
  have h211 : KLw μ 211 0 = false := KLw_f (by decide) (Or.inl rfl)
  have e9 : ∃ v, (o_listenerChain μ c A).2 = up A 139 μ.1 0 v := by
    unfold o_listenerChain
    split
    · exact ⟨_, rfl⟩
    · exact ⟨_, rfl⟩
  obtain ⟨v9, e9⟩ := e9
  have key : ∀ w', RES μ f w w' (o_listenerChain μ c A).2 → ∀ kq, (o_listenerChain μ c A).2 139 μ.1 0 = kq → QMi γ μ f o n mX13_listenerChain [.int (I c)] kq (o_listenerChain μ c A).1 w' := fun w' r kq hkq => by
    obtain ⟨mq, hf, hR'⟩ := MID.of hI hR hO r (by rw [e9]; exact hB.o9.mono (by omega) (by omega) (by omega)) (by rw [e9]; exact hC.p9 hB (by omega) hP.1) (by rw [e9]; exact hS.o9 hB) (by rw [e9]; exact F34.o9)
    exact QMi.mk (ox := (fun x => o_listenerChain μ c x)) (by decide) mq hf (fun _ => lq_olistenerChain KLw_ok c) hR' (fun W hf => c_listenerChain γ μ W c _ _ _ hc_ (hf.cv hB.pcl) (by omega) (by omega) (by omega)) hkq
  refine (q_listenerChain hC hB (by omega) hc_).imp (fun r w' z => ?_) (fun E w' z => ?_)
  · obtain ⟨z1, z2, z3⟩ := z
    rw [z1]; exact key w' z3 0 z2
  · obtain ⟨z1, z2, z3⟩ := z
    exact ⟨z1, _, key w' z3 1 z2⟩
end LO2
