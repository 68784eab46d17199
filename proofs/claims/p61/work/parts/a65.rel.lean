/-! the tree's looks: what can be merged, the newest child, a node by its number -/
section TRL
variable {p : RP} {w A : Mm} {μ : MU} {f i j k x n M : Int} {L : List Int}
theorem RLm.nd (h : RLm p μ f L w A) (ha : alv μ A k) : vNd (pc_ p) (ps_ p) (pn_ p) (pr_ p) (pl_ p) μ w A k := h.1.2.2.2.1.2.2 k ha.1.1 ha.1.2 ha.2
theorem RLm.tg5 (h : RLm p μ f L w A) (ha : alv μ A k) : w 0 (pn_ p k) 0 = 5 ∧ w 63 (pn_ p k) 0 = k := ⟨(h.nd ha).1.1.1, (h.nd ha).1.2⟩
theorem RLm.inj {k' : Int} (h : RLm p μ f L w A) (ha : alv μ A k) (ha' : alv μ A k') : pn_ p k = pn_ p k' ↔ k = k' := ⟨fun e => by rw [← (h.tg5 ha).2, e]; exact (h.tg5 ha').2, fun e => by rw [e]⟩
theorem RLm.pos (h : RLm p μ f L w A) (hWI : WI w) (ha : alv μ A k) : 0 < pn_ p k := (hWI.2.1 _ (by have := (h.tg5 ha).1; omega)).1
theorem RLm.al (h : RLm p μ f L w A) (hi : 0 ≤ i ∧ i < A 125 μ.1 0) : alv μ A (pa_ p i) := h.1.2.2.2.1.2.1.1 i hi.1 hi.2
theorem RLm.el (h : RLm p μ f L w A) (hi : 0 ≤ i ∧ i < A 125 μ.1 0) : w 3 (w 51 (w 38 (w 45 f 0) 0) 0) i = pn_ p (pa_ p i) := h.1.2.2.2.1.1.2.2.1 i hi.1 hi.2
theorem TB.par (hT : TB μ M A) (hE : bEx μ A) (ha : alv μ A k) (hk : k ≠ 0) : alv μ A (A 217 0 k) ∧ A 217 0 k ≠ -1 := by
  have h1 : 1 ≤ k ∧ k < A 124 μ.1 0 := by have := ha.1; omega
  have := hT.plp h1
  exact ⟨⟨⟨by omega, by omega⟩, hE.2.2.1 k h1.1 h1.2 ha.2⟩, by omega⟩
theorem TB.p0 (hT : TB μ M A) : A 217 0 0 = -1 := by
  have h := hT.2.2.2.2.2.2 0 (Int.le_refl _) (by have := hT.1; omega)
  omega
theorem RLm.par0 (h : RLm p μ f L w A) (hWI : WI w) (hT : TB μ M A) (hE : bEx μ A) (ha : alv μ A k) : (w 26 (pn_ p k) 0 = 0 ↔ k = 0) ∧ (k ≠ 0 → w 26 (pn_ p k) 0 = pn_ p (A 217 0 k)) := by
  have e := (h.nd ha).2.2.2.1.1
  by_cases c : k = 0
  · rw [e, c, hT.p0, if_pos rfl]; exact ⟨⟨fun _ => rfl, fun _ => rfl⟩, fun z => absurd rfl z⟩
  · obtain ⟨h1, h2⟩ := hT.par hE ha c
    have h3 := h.pos hWI h1
    rw [e, if_neg h2]; exact ⟨⟨fun z => by omega, fun z => absurd z c⟩, fun _ => rfl⟩
theorem bEx.cur (hT : TB μ M A) (hE : bEx μ A) : alv μ A (A 126 μ.1 0) := ⟨hT.2.2.1, hE.2.1⟩
theorem RLm.toTR (h : RLm p μ f L w A) (hWI : WI w) (hT : TB μ M A) (hE : bEx μ A) (hBK : BKo μ A) : TRt w (w 45 f 0) := by
  obtain ⟨⟨⟨⟨c1, c2⟩, ⟨d1, d2⟩, ⟨e1, e2⟩, e3, e4, e5⟩, ⟨v1, v2, v3, v4⟩, v5, v6, v7, v8, v9⟩, t3, t4⟩ := id h.1.2.2.2.1
  refine ⟨c1, ⟨d1, e1, by rw [v1]; have := hT.2.1; omega, by omega, by omega⟩, fun i i0 i1 => ?_, ⟨e3, e4⟩, fun i i0 i1 => ?_, ?_⟩
  · rw [v1] at i1
    have ha := h.al ⟨i0, i1⟩
    rw [v5 i i0 i1]
    refine ⟨(h.tg5 ha).1, ?_⟩
    obtain ⟨q1, q2⟩ := h.par0 hWI hT hE ha
    by_cases c : pa_ p i = 0
    · rw [q1.mpr c]; exact Int.le_refl _
    · rw [q2 c]; have := h.pos hWI (hT.par hE ha c).1; omega
  · rw [v6 i i0 i1]
    rcases hBK i i0 i1 with z | z
    · rw [if_pos z]; exact Int.le_refl _
    · rw [if_neg (by have := z.1; omega)]; have := h.pos hWI z; omega
  · rw [v7]; have := h.pos hWI (hE.cur hT); omega
/-- what the class asks before it merges a node is what the reference asks -/
theorem RLm.cbm (h : RLm p μ f L w A) (hWI : WI w) (hT : TB μ M A) (hE : bEx μ A) (hBK : BKo μ A) (ha : alv μ A k) :
    (w 26 (pn_ p k) 0 ≠ 0 ∧ pn_ p k ≠ w 40 (w 45 f 0) 0 ∧ w 64 (pn_ p k) 0 = 1 ∧ fnd (fun i => bi (w 3 (w 39 (w 45 f 0) 0) i ≠ pn_ p k)) 0 5 0 = -1) ↔ (1 ≤ k ∧ m_mgF μ A k = 1) := by
  obtain ⟨-, v5, v6, v7, v8, v9⟩ := h.1.2.2.2.1.1.2
  obtain ⟨q1, -⟩ := h.par0 hWI hT hE ha
  have e64 := (h.nd ha).2.2.2.1.2.1
  have h40 : pn_ p k ≠ w 40 (w 45 f 0) 0 ↔ k ≠ A 126 μ.1 0 := by
    rw [v7]; exact not_congr (h.inj ha (hE.cur hT))
  have hbk : fnd (fun i => bi (w 3 (w 39 (w 45 f 0) 0) i ≠ pn_ p k)) 0 5 0 = -1 ↔ sumN (m_bkF k A) 5 = 0 := by
    have e1 : ∀ i, 0 ≤ i → i < 5 → (w 3 (w 39 (w 45 f 0) 0) i ≠ pn_ p k ↔ A 227 0 i ≠ k) := fun i i0 i1 => by
      rw [v6 i i0 i1]
      rcases hBK i i0 i1 with z | z
      · rw [if_pos z, z]; have := h.pos hWI ha; have := ha.1; exact ⟨fun _ => by omega, fun _ => by omega⟩
      · rw [if_neg (by have := z.1; omega)]; exact not_congr (h.inj z ha)
    constructor
    · intro hf
      rcases fnd_spec (fun i => bi (w 3 (w 39 (w 45 f 0) 0) i ≠ pn_ p k)) 0 5 0 with z | z
      · have hz : ∀ i : Int, 0 ≤ i → i < (5 : Nat) → m_bkF k A i = 0 := fun i i0 i1 => by
          have := z.2 i i0 (by omega)
          have h1 : w 3 (w 39 (w 45 f 0) 0) i ≠ pn_ p k := bi_ne.mp this
          exact (bi_f (fun e => (e1 i i0 (by omega)).mp h1 e)).symm
        rw [sumN_cong (g := fun _ => 0) hz]; rfl
      · rw [hf] at z; omega
    · intro hs
      rcases fnd_spec (fun i => bi (w 3 (w 39 (w 45 f 0) 0) i ≠ pn_ p k)) 0 5 0 with z | z
      · exact z.1
      · exfalso
        obtain ⟨z1, z2, z3, -⟩ := z
        have z4 := bi_0.mp z3
        have z5 : A 227 0 (fnd (fun i => bi (w 3 (w 39 (w 45 f 0) 0) i ≠ pn_ p k)) 0 5 0) = k := Classical.byContradiction fun c => z4 ((e1 _ z1 (by omega)).mpr c)
        have := sumN_ge (f := m_bkF k A) (fun j => bi_n) (n := 5) (y := fnd (fun i => bi (w 3 (w 39 (w 45 f 0) 0) i ≠ pn_ p k)) 0 5 0) ⟨z1, by omega⟩
        rw [hs, show m_bkF k A (fnd (fun i => bi (w 3 (w 39 (w 45 f 0) 0) i ≠ pn_ p k)) 0 5 0) = 1 from (bi_t z5).symm] at this
        omega
  unfold m_mgF
  rw [h40, hbk, e64, bi_1]
  constructor
  · rintro ⟨r1, r2, r3, r4⟩
    exact ⟨by have := ha.1; have := mt q1.mpr r1; omega, ha.2, r2, r3, r4⟩
  · rintro ⟨r1, -, r2, r3, r4⟩
    exact ⟨fun z => by have := q1.mp z; omega, r2, r3, r4⟩
/-- the newest child -/
theorem RLm.lch (h : RLm p μ f L w A) (hWI : WI w) (hT : TB μ M A) (hE : bEx μ A) (ha : alv μ A x) : t_last w (w 51 (w 38 (w 45 f 0) 0) 0) (pn_ p x) (w 93 (w 38 (w 45 f 0) 0) 0).toNat = if m_nwst μ x A = -1 then 0 else pn_ p (m_nwst μ x A) := by
  have hal := h.1.2.2.2.1.2.1
  have e93 := h.1.2.2.2.1.1.2.1.1
  have hch : ∀ j, 0 ≤ j → j < A 125 μ.1 0 → (w 26 (pn_ p (pa_ p j)) 0 = pn_ p x ↔ A 217 0 (pa_ p j) = x) := fun j j0 j1 => by
    have hj := h.al ⟨j0, j1⟩
    obtain ⟨q1, q2⟩ := h.par0 hWI hT hE hj
    by_cases c : pa_ p j = 0
    · rw [q1.mpr c, c, hT.p0]; have := h.pos hWI ha; have := ha.1; exact ⟨fun _ => by omega, fun _ => by omega⟩
    · rw [q2 c]; exact h.inj (hT.par hE hj c).1 ha
  have key : ∀ n : Nat, (n : Int) ≤ A 125 μ.1 0 → (∃ j : Int, (0 ≤ j ∧ j < n) ∧ A 217 0 (pa_ p j) = x ∧ t_last w (w 51 (w 38 (w 45 f 0) 0) 0) (pn_ p x) n = pn_ p (pa_ p j) ∧ ∀ j' : Int, j < j' → j' < n → A 217 0 (pa_ p j') ≠ x) ∨ (t_last w (w 51 (w 38 (w 45 f 0) 0) 0) (pn_ p x) n = 0 ∧ ∀ j' : Int, 0 ≤ j' → j' < n → A 217 0 (pa_ p j') ≠ x) := fun n => by
    induction n with
    | zero => intro _; exact Or.inr ⟨rfl, fun j' a b => by omega⟩
    | succ n ih =>
      intro hn
      simp only [t_last]
      rw [h.el ⟨by omega, by omega⟩]
      by_cases c : A 217 0 (pa_ p n) = x
      · rw [if_pos ((hch n (by omega) (by omega)).mpr c)]
        exact Or.inl ⟨n, by omega, c, rfl, fun j' a b => by omega⟩
      · rw [if_neg (fun z => c ((hch n (by omega) (by omega)).mp z))]
        rcases ih (by omega) with ⟨j, j1, j2, j3, j4⟩ | ⟨j1, j2⟩
        · exact Or.inl ⟨j, by omega, j2, j3, fun j' a b => by
            by_cases z : j' = n
            · rw [z]; exact c
            · exact j4 j' a (by omega)⟩
        · exact Or.inr ⟨j1, fun j' a b => by
            by_cases z : j' = n
            · rw [z]; exact c
            · exact j2 j' a (by omega)⟩
  have hk := key (A 125 μ.1 0).toNat (by have := hT.2.1; omega)
  rw [show (w 93 (w 38 (w 45 f 0) 0) 0).toNat = (A 125 μ.1 0).toNat by rw [e93]]
  have hl := lst_spec (m_chF x A) (A 124 μ.1 0).toNat
  rw [show lst (m_chF x A) (A 124 μ.1 0).toNat = m_nwst μ x A from rfl] at hl
  have hne0 : ∀ j, 0 ≤ j → j < A 125 μ.1 0 → A 217 0 (pa_ p j) = x → m_chF x A (pa_ p j) = 1 ∧ pa_ p j < A 124 μ.1 0 := fun j j0 j1 e => by
    have hj := h.al ⟨j0, j1⟩
    have hc0 : pa_ p j ≠ 0 := fun z => by rw [z, hT.p0] at e; have := ha.1; omega
    exact ⟨(bi_t ⟨by have := hj.1; omega, hj.2, e⟩).symm, hj.1.2⟩
  rcases hl with ⟨l1, l2⟩ | ⟨l1, l2, l3, l4⟩
  · rw [if_pos l1]
    rcases hk with ⟨j, j1, j2, j3, j4⟩ | ⟨j1, j2⟩
    · have := hne0 j j1.1 (by omega) j2
      exact absurd this.1 (l2 _ (h.al ⟨j1.1, by omega⟩).1.1 (by omega))
    · exact j1
  · rw [if_neg (by omega)]
    have l5 := bi_o l3
    obtain ⟨j, j1, j2⟩ := hal.2.2 _ l1 (by omega) l5.2.1
    rcases hk with ⟨j', k1, k2, k3, k4⟩ | ⟨k1, k2⟩
    · rw [k3]
      congr 1
      have c1 := hne0 j' k1.1 (by omega) k2
      rcases Int.lt_trichotomy (pa_ p j') (m_nwst μ x A) with z | z | z
      · exfalso
        have : j' < j := by
          rcases Int.lt_trichotomy j' j with y | y | y
          · exact y
          · rw [y, j2] at z; omega
          · have := hal.2.1 j j' j1.1 y (by omega); omega
        exact k4 j this (by omega) (by rw [j2]; exact l5.2.2)
      · exact z
      · exact absurd c1.1 (l4 _ z (by omega))
    · exact absurd (by rw [j2]; exact l5.2.2) (k2 j j1.1 (by omega))
/-- a node by its number -/
theorem RLm.fnd (h : RLm p μ f L w A) (hT : TB μ M A) (n : Int) : t_find w (w 51 (w 38 (w 45 f 0) 0) 0) n ((if w 93 (w 38 (w 45 f 0) 0) 0 - 1 < n then w 93 (w 38 (w 45 f 0) 0) 0 - 1 else n) + 1).toNat = if isN μ n A then pn_ p n else 0 := by
  have hal := h.1.2.2.2.1.2.1
  have e93 := h.1.2.2.2.1.1.2.1.1
  have hge : ∀ m : Nat, (m : Int) < A 125 μ.1 0 → (m : Int) ≤ pa_ p m := fun m => by
    induction m with
    | zero => intro hm; exact (h.al ⟨by omega, hm⟩).1.1
    | succ m ih => intro hm; have := ih (by omega); have := hal.2.1 m ((m + 1 : Nat) : Int) (by omega) (by omega) hm; omega
  have key : ∀ m : Nat, (m : Int) ≤ A 125 μ.1 0 → (∀ j, (m : Int) ≤ j → j < A 125 μ.1 0 → pa_ p j ≠ n) → t_find w (w 51 (w 38 (w 45 f 0) 0) 0) n m = if isN μ n A then pn_ p n else 0 := fun m => by
    induction m with
    | zero =>
      intro _ hn
      rw [if_neg (fun z => by
        obtain ⟨j, j1, j2⟩ := hal.2.2 n z.1.1 (by omega) z.2
        exact hn j (by omega) j1.2 j2)]
      rfl
    | succ m ih =>
      intro hm hn
      simp only [t_find]
      have hj := h.al (i := (m : Int)) ⟨by omega, by omega⟩
      rw [h.el ⟨by omega, by omega⟩, (h.tg5 hj).2]
      by_cases c : pa_ p m ≤ n
      · rw [if_pos c]
        by_cases c2 : pa_ p m = n
        · rw [if_pos c2, c2, if_pos (by rw [← c2]; exact ⟨⟨hj.1.1, by have := hj.1.2; omega⟩, hj.2⟩)]
        · rw [if_neg c2, if_neg (fun z => by
            obtain ⟨j, j1, j2⟩ := hal.2.2 n z.1.1 (by omega) z.2
            rcases Int.lt_trichotomy j m with y | y | y
            · have := hal.2.1 j m j1.1 y (by omega); omega
            · rw [y] at j2; exact c2 j2
            · exact hn j (by omega) j1.2 j2)]
      · rw [if_neg c]
        refine ih (by omega) fun j j0 j1 => ?_
        by_cases z : j = m
        · rw [z]; omega
        · exact hn j (by omega) j1
  have h125 := hT.2.1
  by_cases c0 : n < 0
  · rw [show ((if w 93 (w 38 (w 45 f 0) 0) 0 - 1 < n then w 93 (w 38 (w 45 f 0) 0) 0 - 1 else n) + 1).toNat = 0 by split <;> omega]
    exact key 0 (by omega) fun j j0 j1 => by have := (h.al ⟨j0, j1⟩).1; omega
  · refine key _ (by split <;> omega) fun j j0 j1 => ?_
    have := hge j.toNat (by omega)
    rw [show ((j.toNat : Nat) : Int) = j by omega] at this
    by_cases c : w 93 (w 38 (w 45 f 0) 0) 0 - 1 < n
    · rw [if_pos c] at j0; omega
    · rw [if_neg c] at j0; omega
end TRL
