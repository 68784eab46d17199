/-! the reference's tree, pure: its nodes' parts, their replays; what a merge leaves -/
theorem sumN_up {f : Int → Int} {x v : Int} : ∀ n : Nat, sumN (fun j => if j = x then v else f j) n = sumN f n + (if 0 ≤ x ∧ x < n then v - f x else 0)
  | 0 => by
    rw [if_neg (by omega)]
    show (0 : Int) = 0 + 0; omega
  | n + 1 => by
    show sumN (fun j => if j = x then v else f j) n + (if (n : Int) = x then v else f n) = sumN f n + f n + _
    rw [sumN_up n]
    by_cases c : (n : Int) = x
    · rw [if_pos c, if_neg (by omega), if_pos (by omega), ← c]; omega
    · rw [if_neg c]
      by_cases c2 : 0 ≤ x ∧ x < n
      · rw [if_pos c2, if_pos (by omega)]; omega
      · rw [if_neg c2, if_neg (by omega)]; omega
theorem sumN_sw {f g : Int → Int} {n : Nat} {x y : Int} (hx : 0 ≤ x ∧ x < n) (hy : 0 ≤ y ∧ y < n) (hxy : x ≠ y) (h1 : g x = f y) (h2 : g y = f x) (ho : ∀ j, j ≠ x → j ≠ y → g j = f j) : sumN g n = sumN f n := by
  have e : g = fun j => if j = y then f x else (fun j => if j = x then f y else f j) j := by
    funext j
    by_cases c : j = y
    · subst c; rw [if_pos rfl]; exact h2
    · rw [if_neg c]
      show g j = if j = x then f y else f j
      by_cases d : j = x
      · subst d; rw [if_pos rfl]; exact h1
      · rw [if_neg d]; exact ho j d c
  rw [e, sumN_up, sumN_up, if_pos hx, if_pos hy]
  show sumN f n + (f y - f x) + (f x - (if y = x then f y else f y)) = _
  rw [if_neg (fun e => hxy e.symm)]; omega
theorem sumN_ge {f : Int → Int} (h0 : ∀ j, 0 ≤ f j) {n : Nat} {y : Int} (hy : 0 ≤ y ∧ y < n) : f y ≤ sumN f n := by
  have e := sumN_up (f := f) (x := y) (v := 0) n
  rw [if_pos hy] at e
  have := sumN_nn (f := fun j => if j = y then 0 else f j) (fun j => by split; exact Int.le_refl 0; exact h0 j) n
  omega
theorem sumN_two {f : Int → Int} (h0 : ∀ j, 0 ≤ f j) {n : Nat} {x y : Int} (hx : 0 ≤ x ∧ x < n) (hy : 0 ≤ y ∧ y < n) (h1 : f x = 1) (h2 : f y = 1) (h : sumN f n = 1) : x = y := Classical.byContradiction fun c => by
  have e := sumN_up (f := f) (x := x) (v := 0) n
  rw [if_pos hx] at e
  have := sumN_ge (f := fun j => if j = x then 0 else f j) (fun j => by split; exact Int.le_refl 0; exact h0 j) hy
  rw [if_neg (fun e => c e.symm)] at this
  omega
section MRG
variable {μ : MU} {M x y k p z m : Int} {A A' : Mm} {PL : Int → List Int} {c : Nat} {a i j : Int}
theorem mrg1_o (h : c ≠ 223 ∧ c ≠ 221 ∧ c ≠ 217 ∧ c ≠ 225 ∧ c ≠ 216 ∧ c ≠ 125) : m_mrg1 μ x A c a i = A c a i := by
  unfold m_mrg1
  rw [up_k _ h.2.2.2.2.2, up_k _ h.2.2.2.2.1, up_k _ h.2.2.2.1, up_k _ h.2.2.1, up_k _ h.2.1, up_k _ h.1]
theorem mrg1_217 : m_mrg1 μ x A 217 0 j = if j = m_nwst μ x A then A 217 0 x else A 217 0 j := by
  unfold m_mrg1
  rw [up_k _ (by decide), up_k _ (by decide), up_k _ (by decide), up_ii, up_k _ (by decide), up_k _ (by decide)]
theorem mrg1_221 : m_mrg1 μ x A 221 0 j = if j = m_nwst μ x A then A 221 0 x else A 221 0 j := by
  unfold m_mrg1
  rw [up_k _ (by decide), up_k _ (by decide), up_k _ (by decide), up_k _ (by decide), up_ii, up_k _ (by decide)]
theorem mrg1_223 : m_mrg1 μ x A 223 0 j = if j = A 222 0 x then A 221 0 (m_nwst μ x A) else A 223 0 j := by
  unfold m_mrg1
  rw [up_k _ (by decide), up_k _ (by decide), up_k _ (by decide), up_k _ (by decide), up_k _ (by decide), up_ii]
theorem mrg1_225 : m_mrg1 μ x A 225 0 j = if j = m_nwst μ x A then m_flg (A 225 0 (m_nwst μ x A)) (A 225 0 x) else A 225 0 j := by
  unfold m_mrg1
  rw [up_k _ (by decide), up_k _ (by decide), up_ii, up_k _ (by decide), up_k _ (by decide), up_k _ (by decide)]
theorem mrg1_216 : m_mrg1 μ x A 216 0 j = if j = x then 0 else A 216 0 j := by
  unfold m_mrg1
  rw [up_k _ (by decide), up_ii, up_k _ (by decide), up_k _ (by decide), up_k _ (by decide), up_k _ (by decide)]
theorem chF_bi (j : Int) : 0 ≤ m_chF k A j := bi_n
/-- x goes into its only child y -/
def MGx (μ : MU) (A : Mm) (x y : Int) : Prop := (1 ≤ x ∧ x < y ∧ y < A 124 μ.1 0) ∧ (A 216 0 x = 1 ∧ A 216 0 y = 1 ∧ A 217 0 y = x) ∧ m_chl μ x A = 1 ∧ y = m_nwst μ x A ∧ x ≠ A 126 μ.1 0 ∧ sumN (m_bkF x A) 5 = 0
theorem MGx.of (hT : TB μ M A) (hx : m_nxt μ A ≠ -1) : MGx μ A (m_nxt μ A) (m_nwst μ (m_nxt μ A) A) := by
  obtain ⟨⟨f1, f2, f3, f4, f5, f6, f7, f8⟩, g1, g2, g3, g4⟩ := mrg_facts hT hx
  exact ⟨⟨f1, g1, g2⟩, ⟨f3, g3, g4⟩, f7, rfl, f4, f8⟩
theorem MGx.one (h : MGx μ A x y) (hk : 1 ≤ k ∧ k < A 124 μ.1 0) (h1 : A 216 0 k = 1) (h2 : A 217 0 k = x) : k = y := by
  obtain ⟨⟨a1, a2, a3⟩, ⟨b1, b2, b3⟩, b4, b5, -⟩ := h
  exact sumN_two (f := m_chF x A) (n := (A 124 μ.1 0).toNat) chF_bi (by omega) (by omega) (bi_t ⟨hk.1, h1, h2⟩).symm (bi_t ⟨by omega, b2, b3⟩).symm b4
theorem MGx.chl (h : MGx μ A x y) (hk : k ≠ x) : m_chl μ k (m_mrg1 μ x A) = m_chl μ k A := by
  obtain ⟨⟨a1, a2, a3⟩, ⟨b1, b2, b3⟩, b4, b5, b6⟩ := h
  unfold m_chl
  rw [mrg1_o (by decide)]
  refine sumN_sw (x := x) (y := y) (by omega) (by omega) (by omega) ?_ ?_ (fun j j1 j2 => ?_)
  · unfold m_chF
    rw [mrg1_216, if_pos rfl, ← bi_f (by omega), ← bi_f (by omega)]
  · unfold m_chF
    rw [mrg1_216, if_neg (by omega), mrg1_217, if_pos b5]
    congr 1
    rw [b2, b1]; exact propext ⟨fun z => ⟨by omega, z.2.1, z.2.2⟩, fun z => ⟨by omega, z.2.1, z.2.2⟩⟩
  · unfold m_chF
    rw [mrg1_216, if_neg j1, mrg1_217, if_neg (by omega)]
/-- what is asked of a node's parts -/
def NKd (μ : MU) (PL : Int → List Int) (A : Mm) (k : Int) : Prop :=
  CHL 640 A (A 221 0 k) (PL k) ∧ (∃ M, PL k = M ++ [k] ∧ ∀ q ∈ M, A 216 0 q = 0) ∧ A 222 0 k = k ∧ ((PL k).length : Int) ≤ k - A 217 0 k ∧ ∀ q ∈ PL k, A 218 0 q + A 220 0 q ≤ A 122 μ.1 0
def RLo (μ : MU) (PL : Int → List Int) (A : Mm) (k : Int) : Prop := LGL (RSx PL k A) (m_rp0 μ k A) ∧ BDp (A 123 μ.1 0) A (RSx PL k A) ∧ ((RSx PL k A).length : Int) ≤ A 122 μ.1 0
def alv (μ : MU) (A : Mm) (k : Int) : Prop := (0 ≤ k ∧ k < A 124 μ.1 0) ∧ A 216 0 k = 1
/-- no part belongs to two nodes -/
def DJp (μ : MU) (PL : Int → List Int) (A : Mm) : Prop := ∀ k k' q, alv μ A k → alv μ A k' → q ∈ PL k → q ∈ PL k' → k = k'
/-- parts follow each other -/
def PRT (μ : MU) (A : Mm) : Prop := (∀ q, 1 ≤ q → q < A 124 μ.1 0 → (0 ≤ A 218 0 q ∧ 0 ≤ A 220 0 q) ∧ A 218 0 q + A 220 0 q ≤ A 122 μ.1 0) ∧ ∀ q q', 1 ≤ q → q < q' → q' < A 124 μ.1 0 → A 218 0 q + A 220 0 q ≤ A 218 0 q'
def TI (μ : MU) (PL : Int → List Int) (A : Mm) : Prop := bEx μ A ∧ PL 0 = [] ∧ (∀ k, 1 ≤ k → alv μ A k → NKd μ PL A k) ∧ (∀ k, alv μ A k → RLo μ PL A k) ∧ DJp μ PL A ∧ PRT μ A
theorem TB.pln0 (hT : TB μ M A) : m_pln A 0 = 1 := by
  have h := hT.2.2.2.2.2.2 0 (Int.le_refl _) (by have := hT.1; omega)
  rw [pln_s hT.pr (show 0 ≤ (0 : Int) ∧ (0 : Int) < A 124 μ.1 0 by have := hT.1; omega), show A 217 0 0 = -1 by omega, pln_0]; rfl
theorem TB.plp (hT : TB μ M A) (hk : 1 ≤ k ∧ k < A 124 μ.1 0) : (0 ≤ A 217 0 k ∧ A 217 0 k < k) ∧ 1 ≤ m_pln A (A 217 0 k) := by
  have h := hT.2.2.2.2.2.2 k (by omega) hk.2
  exact ⟨⟨h.2.2.1 hk.1, h.2.1.2⟩, (pln_rng hT.pr _ (A 217 0 k) (Nat.le_refl _) (by omega) (by omega)).2.2 (h.2.2.1 hk.1)⟩
theorem RSx_0 (hT : TB μ M A) : RSx PL 0 A = [] := by unfold RSx; rw [hT.pln0]; rfl
theorem TB.rsp (hT : TB μ M A) (hk : 1 ≤ k ∧ k < A 124 μ.1 0) : RSx PL k A = RSx PL (A 217 0 k) A ++ nodeL A (PL k) := RSx_par hT.pr ⟨by omega, hk.2⟩ (hT.plp hk).2
theorem TI.rq (h : TI μ PL A) (hT : TB μ M A) (hM : M ≤ 600) (ha : alv μ A k) : RQ μ PL k A := by
  obtain ⟨hE, h0, hN, hR, -⟩ := h
  obtain ⟨r1, r2, r3⟩ := hR k ha
  have key : ∀ j : Nat, (j : Int) < m_pln A k - 1 → (1 ≤ m_anc A k j ∧ m_anc A k j < A 124 μ.1 0) ∧ A 216 0 (m_anc A k j) = 1 := fun j hj => by
    obtain ⟨g1, g2, g3⟩ := anc_alive hT hE ha.1 ha.2 j (by omega)
    have hne : m_anc A k j ≠ 0 := fun e => by rw [e, hT.pln0] at g3; omega
    exact ⟨⟨by omega, by have := ha.1; omega⟩, g2⟩
  have h124 := hT.1
  have h122 := hT.2.2.2.2.1
  refine ⟨⟨fun j hj => ?_, r1⟩, r2, fun j hj => ?_, r3⟩
  · obtain ⟨g1, g2⟩ := key j hj
    obtain ⟨n1, n2, n3, n4, n5⟩ := hN _ g1.1 ⟨⟨by omega, g1.2⟩, g2⟩
    have hp := hT.plp g1
    refine ⟨⟨by omega, by omega⟩, n1, by omega, ?_⟩
    have := (hR _ ⟨⟨by omega, g1.2⟩, g2⟩).2.2
    rw [hT.rsp g1, List.length_append] at this
    omega
  · obtain ⟨g1, g2⟩ := key j hj
    exact (hN _ g1.1 ⟨⟨by omega, g1.2⟩, g2⟩).2.2.2.2
theorem TI.prt (h : TI μ PL A) : PRT μ A := h.2.2.2.2.2
theorem NKd.rng (h : NKd μ PL A k) (hk : 1 ≤ k) : ∀ q ∈ PL k, 1 ≤ q ∧ q < 640 := by
  have key : ∀ (ps : List Int) (p : Int), CHL 640 A p ps → ∀ q ∈ ps, 1 ≤ q ∧ q < 640 := fun ps => by
    induction ps with
    | nil => intro p _ q hq; exact absurd hq List.not_mem_nil
    | cons x xs ih =>
      intro p h q hq
      rcases List.mem_cons.mp hq with rfl | hq
      · exact h.2.1
      · exact ih _ h.2.2.2.2.2 q hq
  exact key _ _ h.1
theorem ixN_mem : ∀ {L : List Int} {i : Int}, i ∈ ixN A L → ∃ q ∈ L, A 218 0 q ≤ i ∧ i < A 218 0 q + A 220 0 q
  | [], i, h => absurd h List.not_mem_nil
  | x :: xs, i, h => by
    rcases List.mem_append.mp h with h | h
    · have := rng_mem.mp h
      exact ⟨x, List.mem_cons_self, by omega, by omega⟩
    · obtain ⟨q, h1, h2⟩ := ixN_mem h
      exact ⟨q, List.mem_cons_of_mem _ h1, h2⟩
theorem ixN_ap : ∀ X Y : List Int, ixN A (X ++ Y) = ixN A X ++ ixN A Y
  | [], _ => rfl
  | x :: xs, Y => by
    show _ ++ ixN A (xs ++ Y) = (_ ++ ixN A xs) ++ _
    rw [ixN_ap xs Y, List.append_assoc]
end MRG
