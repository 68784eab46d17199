/-! p61: what the law's calls leave: the rest -/
section LGT
variable {γ : LC} {w w' A B : Mm} {μ : MU} {f n g rc c k a b d m s lo hi S P M : Int}
theorem LG.ofc (h : LG μ f n g rc w A) (r : RES μ f w w' B) (hB : RB μ (56 * n + 56) (600 * n + 600) (1 + n + 1) B) (z : PTX μ B) (i : IVS μ B) (e : F34 μ A B) (g' rc' : Int) (e2 : B 132 μ.1 0 = g') (e3 : B 133 μ.1 0 = -1 ↔ rc' = 0) (e7 : ∀ ii : Int, B 227 0 ii = A 227 0 ii) : LG μ f (n + 1) g' rc' w' B := by
  obtain ⟨h1, h2, h3, h4, h5⟩ := h
  refine ⟨?_, e2, e3, fun j j0 j1 => (e7 _).trans (h4 j j0 j1), by unfold FAp; rw [e 134 (Or.inl rfl), e 135 (Or.inr rfl)]; exact h5⟩
  rw [show 56 * (n + 1) = 56 * n + 56 by omega, show 600 * (n + 1) = 600 * n + 600 by omega, show 1 + (n + 1) = 1 + n + 1 by omega]
  exact h1.nx r hB z i e
theorem no_insert (hR : RB μ S P M A) (hS : S ≤ 28900) (hc : isC c) : (o_insert μ c A).2 139 μ.1 0 ≠ 1 := by
  have h2 : ∀ k, (m_in2 μ c k (m_cal μ 0 c 0 2 (m_ti μ (isC c) A)).2).2 139 μ.1 0 ≠ 1 := fun k => by
    have q := cal_139 (μ := μ) (c := 0) (a := c) (b := 0) (sort := 2) (w := m_ti μ (isC c) A)
    unfold m_in2
    split
    · dsimp only; omega
    · unfold m_in3; dsimp only
      rw [up_k _ (by decide), up_k _ (by decide), up_k _ (by decide)]; omega
  have h1 : ∀ q : Int × Mm, (m_in1 μ c q).2 139 μ.1 0 ≠ 1 := fun q => by
    unfold m_in1
    split
    · dsimp only; rw [up_s]; decide
    · show up (up (m_rec μ 0 c 0 (up q.2 139 μ.1 0 0)) 130 μ.1 0 0) 131 μ.1 0 c 139 μ.1 0 ≠ 1
      rw [up_k _ (by decide), up_k _ (by decide), rec_at (by decide), up_s]; decide
  unfold o_insert
  rw [if_pos hc]
  split
  · split
    · exact h2 _
    · split
      · exact h1 _
      · exact h2 _
  · exact h2 _
theorem lg_insert (h : LG μ f n g rc w A) (hn : 0 ≤ n ∧ n ≤ 500) (hc_ : IR c) (hc : isC c) : KI γ 14 mX12_insert [rv f, .int (I c)] w 48 3300 (fun r w' => 1 ≤ r ∧ ∃ B, LG μ f (n + 1) g rc w' B) (fun E w' => E = "java/lang/IllegalStateException" ∧ ∃ B, LG μ f (n + 1) g rc w' B) := by
  obtain ⟨⟨⟨p, hC⟩, hV, hB, hP, hS⟩, -⟩ := id h
  have key : ∀ w', RES μ f w w' (o_insert μ c A).2 → ∃ B, LG μ f (n + 1) g rc w' B := fun w' r => ⟨_, h.of r (RBo_insert hB (by omega) (by omega)) ((ins_ok hC hS hB (by omega) (by omega) (by omega) hP.1).2) ((ins_ok hC hS hB (by omega) (by omega) (by omega) hP.1).1) (F34_insert hB (by omega) (by omega)) (F7_insert hB (by omega) (by omega))⟩
  refine (kX12_insert γ w f c p μ A _ _ _ hC hB (by omega) (by omega) (by omega) hS.1.2.2.2 hc_ hS.1.1 hS.2).imp (fun r w' z => ?_) (fun E w' z => ?_)
  · obtain ⟨z1, z2, z3⟩ := z
    exact ⟨by rw [z1]; exact ins_pos hB (by omega) (by omega) hc z2, key w' z3⟩
  · obtain ⟨y, z3⟩ := z
    rcases y with ⟨z1, z2⟩ | ⟨z1, z2⟩
    · exact absurd z2 (no_insert hB (by omega) hc)
    · exact ⟨z1, key w' z3⟩
theorem run_139 (hR : RB μ S P M A) (hS : S ≤ 28900) (hP : P ≤ 500000) (hm : 0 ≤ m ∧ m ≤ 3) (hk : 1 ≤ k ∧ k ≤ 10) : (o_run μ m k A).2 139 μ.1 0 = 0 ∨ (o_run μ m k A).2 139 μ.1 0 = 3 := by
  unfold o_run
  rw [if_pos hm, if_pos hk]
  split
  · exact Or.inr (up_s _ _ _ _ _)
  · obtain ⟨q1, q2, q3, q4⟩ := rnW_ok hR hm hk
    have hz := hR.2.2.1.2.2.1.1
    have e0 : ∀ {cc : Nat} {x i : Int}, (cc < 200 ∨ (210 < cc ∧ cc ≠ 214 ∧ cc ≠ 215)) → cc ≠ 139 → m_rnW μ A cc x i = A cc x i := fun z z9 => by
      unfold m_rnW m_th; rw [saves_at z, saves_at z, up_k _ z9]
    have e9 : m_rnW μ A 139 μ.1 0 = 0 := by unfold m_rnW m_th; rw [saves_at (by decide), saves_at (by decide), up_s]
    obtain ⟨g1, g2, g3, g4, -⟩ := gen_ok q4 (by rw [e0 (by decide) (by decide), e0 (by decide) (by decide)]; exact hz)
    obtain ⟨-, -, n3⟩ := ends_ok (g := 0) g1 g2 g3 (by decide) (by omega) (by omega)
    unfold m_rn1 m_rn2
    split
    · exact Or.inr (up_s _ _ _ _ _)
    · left
      dsimp only
      rw [rec_at (by decide), up_k _ (by decide), n3 _ _ _ (by decide), g4 _ _ _ (by decide)]; exact e9
theorem undoIn_139 {PL : Int → List Int} (hr : isR lo hi A) : (o_undoIn μ PL lo hi A).2 139 μ.1 0 ≠ 1 := by
  have t2 : ∀ V : Mm, m_th μ 2 V 139 μ.1 0 ≠ 1 := fun V => by unfold m_th; rw [up_s]; decide
  unfold o_undoIn
  rw [if_pos hr]
  split
  · exact t2 _
  · unfold m_ui1
    split
    · exact t2 _
    · unfold m_ui2 m_ui4
      split
      · exact t2 _
      · dsimp only
        rw [up_k _ (by decide)]
        unfold m_th
        rw [up_s]; decide
theorem lg_run (h : LG μ f n g rc w A) (hn : 0 ≤ n ∧ n ≤ 500) (hm : 0 ≤ m ∧ m ≤ 3) (hk : 1 ≤ k ∧ k ≤ 10) : KI γ 20 mX12_run [rv f, .int (I m), .int (I k)] w 175 13300 (fun r w' => (0 ≤ r ∧ r ≤ 24) ∧ ∃ B, LG μ f (n + 1) g rc w' B) (fun E w' => E = "java/lang/IllegalStateException" ∧ ∃ B, LG μ f (n + 1) g rc w' B) := by
  obtain ⟨⟨⟨p, hC⟩, hV, hB, hP, hS⟩, h2, h3, h4, h5⟩ := id h
  obtain ⟨r1, r2, r3⟩ := run_all (m := m) (k := k) hB (by omega) (by omega) h5
  have key : ∀ w', RESv μ f w w' (o_run μ m k A).2 → PTX μ (o_run μ m k A).2 → ∃ B, LG μ f (n + 1) g rc w' B := fun w' r hp => by
    refine ⟨_, ?_, (r3 132 (Or.inl rfl) _ _).trans h2, by rw [r3 133 (Or.inr (Or.inl rfl))]; exact h3, fun j j0 j1 => (r3 227 (Or.inr (Or.inr rfl)) _ _).trans (h4 j j0 j1), r2⟩
    rw [show 56 * (n + 1) = 56 * n + 56 by omega, show 600 * (n + 1) = 600 * n + 600 by omega, show 1 + (n + 1) = 1 + n + 1 by omega]
    exact LJ.nxv r (RBo_run hB (by omega) (by omega)) hp (IVo_run hS hB (by omega) (by omega))
  refine (kX12_run2 γ w f m k p μ A _ _ _ hC hV hB (by omega) (by omega) (by omega) hS.1.2.2.2 (by omega) (by omega) hP.1).imp (fun r w' z => ?_) (fun E w' z => ?_)
  · obtain ⟨z1, z2, z3, z4⟩ := z
    exact ⟨by rw [z1]; exact r1, key w' z3 z4⟩
  · obtain ⟨y, z3, z4⟩ := z
    have hno : (o_run μ m k A).2 139 μ.1 0 ≠ 1 ∧ (o_run μ m k A).2 139 μ.1 0 ≠ 2 := by
      rcases run_139 (μ := μ) (A := A) hB (by omega) (by omega) hm hk with q | q <;> omega
    rcases y with ⟨z1, z2⟩ | ⟨z1, z2⟩ | ⟨z1, z2⟩
    · exact absurd z2 hno.1
    · exact absurd z2 hno.2
    · exact ⟨z1, key w' z3 z4⟩
theorem lg_record (h : LG μ f n g 0 w A) (hn : 0 ≤ n ∧ n ≤ 500) (hm : 0 ≤ m ∧ m ≤ 3) : KV γ 9 mX12_record [rv f, .int (I m)] w 2 12 (fun w' => ∃ B, LG μ f (n + 1) g 1 w' B) NX := by
  obtain ⟨⟨⟨p, hC⟩, hV, hB, hP, hS⟩, h2, h3, h4, h5⟩ := id h
  obtain ⟨q1, q2, q3⟩ := record_0 (μ := μ) (A := A) hm (h3.mpr rfl)
  refine MX.imp (kX12_record9 γ w f m p μ A _ _ _ hC hB (by omega) (by omega) (by omega) hS.1.2.2.2 (by omega)) (fun v w' z => ?_) (fun E w' z => ?_)
  · obtain ⟨z0, z1, z3⟩ := z
    exact ⟨z0, _, h.ofc z3 (RBo_record hB (by omega) (by omega)) (PTo_record hC hB (by omega) hP.1) (IVo_record hS hB) F34_record g 1 ((q3 132 (Or.inl rfl) _ _).trans h2) (by rw [q2]; omega) (fun ii => q3 227 (Or.inr rfl) _ _)⟩
  · obtain ⟨y, z3⟩ := z
    rcases y with ⟨z1, z2⟩ | ⟨z1, z2⟩
    · rw [q1] at z2; exact absurd z2 (by decide)
    · rw [q1] at z2; exact absurd z2 (by decide)
theorem lg_stop (h : LG μ f n g 1 w A) (hn : 0 ≤ n ∧ n ≤ 500) : KI γ 9 mX12_stop [rv f] w 1 6 (fun r w' => r ≤ 16 ∧ ∃ B, LG μ f (n + 1) g 0 w' B) NX := by
  obtain ⟨⟨⟨p, hC⟩, hV, hB, hP, hS⟩, h2, h3, h4, h5⟩ := id h
  obtain ⟨q1, q2, q3, q4⟩ := stop_0 (μ := μ) (A := A) hB (fun y => absurd (h3.mp y) (by decide))
  refine (kX12_stop γ w f p μ A _ _ _ hC hB (by omega) (by omega) (by omega) hS.1.2.2.2).imp (fun r w' z => ?_) (fun E w' z => ?_)
  · obtain ⟨z1, z2, z3⟩ := z
    exact ⟨by rw [z1]; exact q3, _, h.ofc z3 (RBo_stop hB (by omega) (by omega)) (PTo_stop hC hB (by omega) hP.1) (IVo_stop hS hB) F34_stop g 0 ((q4 132 (Or.inl rfl) _ _).trans h2) (by rw [q2]; omega) (fun ii => q4 227 (Or.inr rfl) _ _)⟩
  · obtain ⟨z1, z2, z3⟩ := z
    rw [q1] at z2; exact absurd z2 (by decide)
theorem lg_open (h : LG μ f n 0 rc w A) (hn : 0 ≤ n ∧ n ≤ 500) : KV γ 9 mX12_open [rv f] w 1 6 (fun w' => ∃ B, LG μ f (n + 1) 1 rc w' B) NX := by
  obtain ⟨⟨⟨p, hC⟩, hV, hB, hP, hS⟩, h2, h3, h4, h5⟩ := id h
  obtain ⟨q1, q2, q3⟩ := open_0 (μ := μ) (A := A) h2
  refine MX.imp (kX12_open9 γ w f p μ A _ _ _ hC hB (by omega) (by omega) (by omega) hS.1.2.2.2) (fun v w' z => ?_) (fun E w' z => ?_)
  · obtain ⟨z0, z1, z3⟩ := z
    exact ⟨z0, _, h.ofc z3 (RBo_open hB (by omega) (by omega)) (PTo_open hC hB (by omega) hP.1) (IVo_open hS) F34_open 1 rc q2 (by rw [q3 133 (Or.inl rfl)]; exact h3) (fun ii => q3 227 (Or.inr rfl) _ _)⟩
  · obtain ⟨⟨z1, z2⟩, z3⟩ := z
    rw [q1] at z2; exact absurd z2 (by decide)
/-- a group is closed, or nothing is changed of it -/
theorem lg_close (h : LG μ f n g rc w A) (hg : g = 0 ∨ g = 1) (hn : 0 ≤ n ∧ n ≤ 500) : KI γ 13 mX12_close [rv f] w 40 2700 (fun r w' => g = 1 ∧ ∃ B, r = B 126 μ.1 0 ∧ LG μ f (n + 1) 0 rc w' B) (fun E w' => E = "java/lang/IllegalStateException" ∧ ∃ B, LG μ f (n + 1) g rc w' B) := by
  obtain ⟨⟨⟨p, hC⟩, hV, hB, hP, hS⟩, h2, h3, h4, h5⟩ := id h
  have mk : ∀ w' g', RES μ f w w' (o_close μ A).2 → (o_close μ A).2 132 μ.1 0 = g' → (∀ cc : Nat, cc = 133 ∨ cc = 227 → ∀ aa ii : Int, (o_close μ A).2 cc aa ii = A cc aa ii) → LG μ f (n + 1) g' rc w' (o_close μ A).2 := fun w' g' z3 e2 e => h.ofc z3 (RBo_close hB (by omega) (by omega)) (PTo_close hC hB (by omega) (by omega) (by omega) hP.1) (IVo_close hS hB (by omega) (by omega)) (F34_close hB (by omega) (by omega)) g' rc e2 (by rw [e 133 (Or.inl rfl)]; exact h3) (fun ii => e 227 (Or.inr rfl) _ _)
  refine (kX12_close γ w f p μ A _ _ _ hC hB (by omega) (by omega) (by omega) hS.1.2.2.2).imp (fun r w' z => ?_) (fun E w' z => ?_)
  · obtain ⟨z1, z2, z3⟩ := z
    rcases hg with hg | hg
    · have q := close_n0 (μ := μ) (A := A) (h2.trans hg)
      rw [q.1] at z2; exact absurd z2 (by decide)
    · obtain ⟨q1, q2⟩ := close_n1 hB (by omega) (by omega) (h2.trans hg)
      rcases q2 with q2 | q2
      · rw [q2.1] at z2; exact absurd z2 (by decide)
      · exact ⟨hg, _, z1.trans q2.2.2, mk w' 0 z3 q2.2.1 q1⟩
  · obtain ⟨z1, z2, z3⟩ := z
    rcases hg with hg | hg
    · have q := close_n0 (μ := μ) (A := A) (h2.trans hg)
      exact ⟨z1, _, mk w' g z3 ((q.2 132 (Or.inl rfl) _ _).trans h2) (fun cc y aa ii => q.2 cc (by omega) aa ii)⟩
    · obtain ⟨q1, q2⟩ := close_n1 hB (by omega) (by omega) (h2.trans hg)
      rcases q2 with q2 | q2
      · exact ⟨z1, _, mk w' g z3 (q2.2.trans hg.symm) q1⟩
      · rw [q2.1] at z2; exact absurd z2 (by decide)
theorem lg_pass (h : LG μ f n g rc w A) (hn : 0 ≤ n ∧ n ≤ 500) (hc : 1 ≤ c ∧ c ≤ 100) : KV γ 9 mX12_pass [rv f, .int (I c)] w 1 6 (fun w' => ∃ B, LG μ f (n + 1) g rc w' B) NX := by
  obtain ⟨⟨⟨p, hC⟩, hV, hB, hP, hS⟩, -⟩ := id h
  refine MX.imp (kX12_pass9 γ w f c p μ A _ _ _ hC hB (by omega) (by omega) (by omega) hS.1.2.2.2 (by omega)) (fun v w' z => ?_) (fun E w' z => ?_)
  · obtain ⟨z0, z1, z3⟩ := z
    exact ⟨z0, _, h.of z3 (RBo_pass hB (by omega) (by omega)) (PTo_pass hC hB (by omega) hP.1) (IVo_pass hS hB) F34_pass F7_pass⟩
  · obtain ⟨⟨z1, z2⟩, z3⟩ := z
    rw [pass_0 hc] at z2; exact absurd z2 (by decide)
theorem lg_listen (h : LG μ f n g rc w A) (hn : 0 ≤ n ∧ n ≤ 500) (hc : 0 ≤ c ∧ c ≤ 2) (ha : isC a ∧ isC b ∧ (0 ≤ d ∧ d ≤ 9) ∧ a ≠ b) : KV γ 9 mX12_listen [rv f, .int (I c), .int (I a), .int (I b), .int (I d)] w 5 30 (fun w' => ∃ B, LG μ f (n + 1) g rc w' B) NX := by
  obtain ⟨⟨⟨p, hC⟩, hV, hB, hP, hS⟩, -⟩ := id h
  have q := listen_0 (μ := μ) (A := A) hc ha
  refine MX.imp (kX12_listen9 γ w f c a b d p μ A _ _ _ hC hB (by omega) (by omega) (by omega) hS.1.2.2.2 (by omega) (by omega) (by omega) (by omega)) (fun v w' z => ?_) (fun E w' z => ?_)
  · obtain ⟨z0, z1, z3⟩ := z
    exact ⟨z0, _, h.of z3 (RBo_listen hB (by omega) (by omega)) (PTo_listen hC hB (by omega) hP.1) (IVo_listen hS hB) F34_listen q.2⟩
  · obtain ⟨y, z3⟩ := z
    rcases y with ⟨z1, z2⟩ | ⟨z1, z2⟩
    · rw [q.1] at z2; exact absurd z2 (by decide)
    · rw [q.1] at z2; exact absurd z2 (by decide)
theorem lg_setBudget (h : LG μ f n g rc w A) (hn : 0 ≤ n ∧ n ≤ 500) (hc : 2 ≤ c ∧ c ≤ 600) : KI γ 10 mX12_setBudget [rv f, .int (I c)] w 1 6 (fun r w' => 0 ≤ r ∧ ∃ B, LG μ f (n + 1) g rc w' B) NX := by
  obtain ⟨⟨⟨p, hC⟩, hV, hB, hP, hS⟩, -⟩ := id h
  have q := budget_0 (μ := μ) (A := A) hc
  refine (kX12_setBudget γ w f c p μ A _ _ _ hC hB (by omega) (by omega) (by omega) hS.1.2.2.2 (by omega)).imp (fun r w' z => ?_) (fun E w' z => ?_)
  · obtain ⟨z1, z2, z3⟩ := z
    exact ⟨by rw [z1]; exact q.2, _, h.of z3 (RBo_setBudget hB (by omega) (by omega)) (PTo_setBudget hC hB (by omega) hP.1) (IVo_setBudget hS hB) F34_setBudget F7_setBudget⟩
  · obtain ⟨z1, z2, z3⟩ := z
    rw [q.1] at z2; exact absurd z2 (by decide)
/-- a store is tracked, no listener having come yet -/
theorem lg_track (h : LG μ f n g rc w A) (hn : 0 ≤ n ∧ n ≤ 500) (hs : 0 ≤ s ∧ s ≤ 4) (h1 : A 211 0 s ≠ 1) (hl : NLs A) : KV γ 13 mX12_track [rv f, .int (I s)] w 48 3200 (fun w' => ∃ B, LG μ f (n + 1) g rc w' B ∧ NLs B ∧ ∀ i, i ≠ s → B 211 0 i = A 211 0 i) NX := by
  obtain ⟨⟨⟨p, hC⟩, hV, hB, hP, hS⟩, -⟩ := id h
  obtain ⟨q1, q2, q3⟩ := track_0 hB (by omega) (by omega) hs h1 hl
  refine MX.imp (kX12_track γ w f s p μ A _ _ _ hC hB (by omega) (by omega) (by omega) hS.1.2.2.2 (by omega)) (fun v w' z => ?_) (fun E w' z => ?_)
  · obtain ⟨z0, z1, z3⟩ := z
    exact ⟨z0, _, h.of z3 (RBo_track hB (by omega) (by omega)) (PTo_track hC hB (by omega) (by omega) (by omega) hP.1) (IVo_track hS hB (by omega) (by omega)) (F34_track hB (by omega) (by omega)) (F7_track hB (by omega) (by omega)), q2, q3⟩
  · obtain ⟨y, z3⟩ := z
    rcases y with ⟨z1, z2⟩ | ⟨z1, z2⟩
    · rw [q1] at z2; exact absurd z2 (by decide)
    · rw [q1] at z2; exact absurd z2 (by decide)
theorem lg_undo (h : LG μ f n g rc w A) (hn : 0 ≤ n ∧ n ≤ 500) : KI γ 10 mX12_undo [rv f] w 3 412 (fun r w' => ∃ B, LG μ f (n + 1) g rc w' B ∧ r = B 126 μ.1 0 ∧ isN μ (A 126 μ.1 0) B ∧ B 217 0 (A 126 μ.1 0) = r) (fun E w' => E = "java/lang/IllegalStateException" ∧ ∃ B, LG μ f (n + 1) g rc w' B) := by
  obtain ⟨⟨⟨p, hC⟩, hV, hB, hP, hS⟩, -⟩ := id h
  have key : ∀ w', RES μ f w w' (o_undo μ (pl_ p) A).2 → LG μ f (n + 1) g rc w' (o_undo μ (pl_ p) A).2 := fun w' r => h.of r ((RBq_undo hC hB (by omega) hP.1).1.mono (by omega) (by omega) (by omega)) (PTo_undo hC hB (by omega) hP.1) (IVo_undo hC hB (by omega) hS) (F34_undo hC hB (by omega)) (F7_undo hC hB (by omega))
  refine (kX12_undo γ w f p μ A _ _ _ hC hB (by omega) (by omega) (by omega) hS.1.2.2.2).imp (fun r w' z => ?_) (fun E w' z => ?_)
  · obtain ⟨z1, z2, z3⟩ := z
    obtain ⟨q1, q2, q3⟩ := undo_0 hC hB (by omega) z2
    exact ⟨_, key w' z3, z1.trans q1, q2, q3.trans z1.symm⟩
  · obtain ⟨z1, z2, z3⟩ := z
    exact ⟨z1, _, key w' z3⟩
theorem lg_redo (h : LG μ f n g rc w A) (hn : 0 ≤ n ∧ n ≤ 500) : KI γ 10 mX12_redo [rv f] w 3 412 (fun r w' => ∃ B, LG μ f (n + 1) g rc w' B ∧ r = B 126 μ.1 0 ∧ isN μ r B ∧ isN μ (A 126 μ.1 0) B ∧ B 217 0 r = A 126 μ.1 0) (fun E w' => E = "java/lang/IllegalStateException" ∧ ∃ B, LG μ f (n + 1) g rc w' B) := by
  obtain ⟨⟨⟨p, hC⟩, hV, hB, hP, hS⟩, -⟩ := id h
  have key : ∀ w', RES μ f w w' (o_redo μ (pl_ p) A).2 → LG μ f (n + 1) g rc w' (o_redo μ (pl_ p) A).2 := fun w' r => h.of r ((RBq_redo hC hB (by omega) hP.1).1.mono (by omega) (by omega) (by omega)) (PTo_redo hC hB (by omega) hP.1) (IVo_redo hC hB (by omega) hS) (F34_redo hC hB (by omega)) (F7_redo hC hB (by omega))
  refine (kX12_redo γ w f p μ A _ _ _ hC hB (by omega) (by omega) (by omega) hS.1.2.2.2).imp (fun r w' z => ?_) (fun E w' z => ?_)
  · obtain ⟨z1, z2, z3⟩ := z
    obtain ⟨q1, q2, q3, q4⟩ := redo_0 hC hB (by omega) z2
    exact ⟨_, key w' z3, z1.trans q1, by rw [z1]; exact q2, q3, by rw [z1]; exact q4⟩
  · obtain ⟨z1, z2, z3⟩ := z
    exact ⟨z1, _, key w' z3⟩
theorem lg_walk (h : LG μ f n 0 rc w A) (hn : 0 ≤ n ∧ n ≤ 500) (hc : isN μ c A) : KI γ 10 mX12_walk [rv f, .int (I c)] w 4 418 (fun r w' => r = m_dist A (A 126 μ.1 0) c ∧ ∃ B, LG μ f (n + 1) 0 rc w' B ∧ B 126 μ.1 0 = c ∧ TRs μ A B) NX := by
  obtain ⟨⟨⟨p, hC⟩, hV, hB, hP, hS⟩, h2, -⟩ := id h
  obtain ⟨q1, q2, q3, q4⟩ := walk_0 hC hB (by omega) h2 hc
  have hT := hB.2.1.2.2.2.1.1
  refine (kX12_walk γ w f c p μ A _ _ _ hC hB (by omega) (by omega) (by omega) hS.1.2.2.2 (by have := hc.1; omega)).imp (fun r w' z => ?_) (fun E w' z => ?_)
  · obtain ⟨z1, z2, z3⟩ := z
    exact ⟨z1.trans q1, _, h.of z3 ((RBq_walk hC hB (by omega) hP.1).1.mono (by omega) (by omega) (by omega)) (PTo_walk hC hB (by omega) hP.1) (IVo_walk hC hB (by omega) hS) (F34_walk hC hB (by omega)) (F7_walk hC hB (by omega)), q3, q4⟩
  · obtain ⟨y, z3⟩ := z
    rcases y with ⟨z1, z2⟩ | ⟨z1, z2⟩
    · rw [q2] at z2; exact absurd z2 (by decide)
    · rw [q2] at z2; exact absurd z2 (by decide)
theorem lg_undoIn (h : LG μ f n g rc w A) (hn : 0 ≤ n ∧ n ≤ 500) (hlo : IR lo) (hhi : IR hi) (hr : isR lo hi A) : KI γ 12 mX12_undoIn [rv f, .int (I lo), .int (I hi)] w 80 6600 (fun r w' => 1 ≤ r ∧ ∃ B, LG μ f (n + 1) g rc w' B ∧ r = B 126 μ.1 0) (fun E w' => E = "java/lang/IllegalStateException" ∧ ∃ B, LG μ f (n + 1) g rc w' B) := by
  obtain ⟨⟨⟨p, hC⟩, hV, hB, hP, hS⟩, -⟩ := id h
  have hno : (o_undoIn μ (pl_ p) lo hi A).2 139 μ.1 0 ≠ 1 := undoIn_139 hr
  refine (kX12_undoIn γ w f lo hi p μ A _ _ _ hC hB (by omega) (by omega) (by omega) hS.1.2.2.2 (by omega) hlo hhi hS hP).imp (fun r w' z => ?_) (fun E w' z => ?_)
  · obtain ⟨z1, z2, z3, i1, i2, i3, i4⟩ := z
    obtain ⟨q1, q2⟩ := undoIn_0 hC hB (by omega) hS z2
    exact ⟨by rw [z1]; exact q2, _, h.of z3 i3 i2 i1 (fun cc z => i4 cc (by omega) _ _) (fun cc z aa ii => i4 cc (by omega) _ _), z1.trans q1⟩
  · obtain ⟨y, z3, i1, i2, i3, i4⟩ := z
    rcases y with ⟨z1, z2⟩ | ⟨z1, z2⟩
    · exact absurd z2 hno
    · exact ⟨z1, _, h.of z3 i3 i2 i1 (fun cc z => i4 cc (by omega) _ _) (fun cc z aa ii => i4 cc (by omega) _ _)⟩
theorem szL_mem {L : List Int} (h : ∀ q ∈ L, 0 ≤ A 220 0 q) (hk : k ∈ L) : A 220 0 k ≤ szL A L := by
  induction L with
  | nil => cases hk
  | cons x xs ih =>
    have h0 := h x List.mem_cons_self
    have hn : 0 ≤ szL A xs := by
      clear ih hk
      have h' : ∀ q ∈ xs, 0 ≤ A 220 0 q := fun q hq => h q (List.mem_cons_of_mem _ hq)
      clear h
      induction xs with
      | nil => exact Int.le_refl _
      | cons y ys ih =>
        have y0 := h' y List.mem_cons_self
        have := ih (fun q hq => h' q (List.mem_cons_of_mem _ hq))
        show 0 ≤ A 220 0 y + szL A ys
        omega
    show _ ≤ A 220 0 x + szL A xs
    rcases List.mem_cons.mp hk with e | e
    · rw [e]; omega
    · have := ih (fun q hq => h q (List.mem_cons_of_mem _ hq)) e
      omega
/-- a node that stands has a parent or is the root, and steps but for the root -/
theorem LG.steps (h : LG μ f n g rc w A) (hn : 0 ≤ n ∧ n ≤ 500) {p : RP} (hC : CHB p μ f (lvL p μ A) w A) (hk : isN μ k A) (h1 : 1 ≤ k) : 0 ≤ A 217 0 k ∧ 1 ≤ szL A (pl_ p k) := by
  obtain ⟨⟨-, -, hB, -, hS⟩, -⟩ := h
  have hT := hB.2.1.2.2.2.1
  have hTI := hC.2.1.1.1
  have ha := isN_al hk
  have hN := hTI.2.2.1 k h1 ha
  have hk' : k ∈ pl_ p k := by
    obtain ⟨L, hL, -⟩ := hN.2.1
    rw [hL]; exact List.mem_append_right _ List.mem_cons_self
  have hl := hTI.lt hT ha
  have h220 := hS.1.1 k h1 ha.1.2
  refine ⟨(hT.2.2.2.2.2.2 k (by omega) ha.1.2).2.2.1 h1, ?_⟩
  have := szL_mem (A := A) (k := k) (L := pl_ p k) (fun q hq => (hTI.2.2.2.2.2.1 q (hl q hq).1 (hl q hq).2).1.2) hk'
  omega
end LGT
