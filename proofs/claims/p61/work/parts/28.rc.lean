/-! a command that is called keeps what stands between calls -/
def LDb (w w' : Mm) : Prop := ∀ c a i, c ≠ 240 → w' c a i = w c a i
theorem nn_f {k : Int} {w w' : Mm} (hk : 0 ≤ k ∧ k ≤ 8) (h : LDb w w') : 0 ≤ ((k, w') : Int × Mm).1 ∧ ((k, w') : Int × Mm).1 ≤ 8 ∧ (((k, w') : Int × Mm).1 ≠ 0 → LDb w ((k, w') : Int × Mm).2) := ⟨hk.1, hk.2, fun _ => h⟩
theorem nn_0 {w w' : Mm} : 0 ≤ ((0, w') : Int × Mm).1 ∧ ((0, w') : Int × Mm).1 ≤ 8 ∧ (((0, w') : Int × Mm).1 ≠ 0 → LDb w ((0, w') : Int × Mm).2) := ⟨Int.le_refl _, by show (0 : Int) ≤ 8; decide, fun h => absurd rfl h⟩
theorem puts_nn {μ : MU} {s : Int} {w : Mm} : 0 ≤ (m_puts μ s w).1 ∧ (m_puts μ s w).1 ≤ 8 ∧ ((m_puts μ s w).1 ≠ 0 → LDb w (m_puts μ s w).2) := by
  unfold m_puts
  split
  · exact nn_f (by decide) (fun c a i h => ld_at h)
  · split
    · exact nn_f (by decide) (fun c a i h => ld_at h)
    · exact nn_0
theorem more_nn {μ : MU} {c a b : Int} {w : Mm} : 0 ≤ (m_more μ c a b w).1 ∧ (m_more μ c a b w).1 ≤ 8 ∧ ((m_more μ c a b w).1 ≠ 0 → LDb w (m_more μ c a b w).2) := by
  unfold m_more
  split
  · unfold m_sea m_sea2
    split
    · exact nn_f (by decide) (fun _ _ _ _ => rfl)
    · exact nn_0
  · split
    · exact nn_0
    · split
      · exact puts_nn
      · split
        · unfold m_rots
          split
          · exact nn_f (by decide) (fun _ _ _ _ => rfl)
          · exact nn_0
        · split
          · exact nn_0
          · split
            · exact puts_nn
            · split
              · exact nn_0
              · split
                · unfold m_clr
                  split
                  · exact nn_f (by decide) (fun _ _ _ _ => rfl)
                  · exact nn_0
                · unfold m_nar
                  split
                  · exact nn_f (by decide) (fun _ _ _ _ => rfl)
                  · split
                    · exact nn_f (by decide) (fun _ _ _ _ => rfl)
                    · exact nn_0
theorem does_nn {μ : MU} {c a b : Int} {w : Mm} : 0 ≤ (m_does μ c a b w).1 ∧ (m_does μ c a b w).1 ≤ 8 ∧ ((m_does μ c a b w).1 ≠ 0 → LDb w (m_does μ c a b w).2) := by
  unfold m_does
  split
  · exact nn_f (by decide) (fun _ _ _ _ => rfl)
  · split
    · split
      · exact nn_f (by decide) (fun _ _ _ _ => rfl)
      · exact nn_0
    · split
      · exact nn_0
      · split
        · exact nn_0
        · split
          · split
            · exact nn_0
            · exact nn_f (by decide) (fun _ _ _ _ => rfl)
          · split
            · split
              · exact nn_0
              · exact nn_f (by decide) (fun _ _ _ _ => rfl)
            · split
              · split
                · exact nn_f (by decide) (fun _ _ _ _ => rfl)
                · exact nn_0
              · exact more_nn
theorem ends_cases (μ : MU) (g : Int) (w : Mm) : (m_ends μ g w = (1, w) ∧ (w 132 μ.1 0 = 1 ∨ w 120 μ.1 0 = w 122 μ.1 0)) ∨ (m_ends μ g w = (0, m_rest μ 2 1 (m_ntf μ w).2) ∧ (m_ntf μ w).1 = 0 ∧ w 132 μ.1 0 ≠ 1 ∧ w 120 μ.1 0 ≠ w 122 μ.1 0) ∨ (m_ends μ g w = (1, m_mks μ g (m_ntf μ w).2) ∧ (m_ntf μ w).1 ≠ 0 ∧ w 132 μ.1 0 ≠ 1 ∧ w 120 μ.1 0 ≠ w 122 μ.1 0) := by
  unfold m_ends m_en2
  by_cases c1 : w 132 μ.1 0 = 1 ∨ w 120 μ.1 0 = w 122 μ.1 0
  · rw [if_pos c1]; exact Or.inl ⟨rfl, c1⟩
  · rw [if_neg c1]
    by_cases c2 : (m_ntf μ w).1 = 0
    · rw [if_pos c2]; exact Or.inr (Or.inl ⟨rfl, c2, by omega⟩)
    · rw [if_neg c2]; exact Or.inr (Or.inr ⟨rfl, c2, by omega⟩)
def enK (c : Nat) : Bool := decide ((120 ≤ c ∧ c ≤ 126) ∨ (200 ≤ c ∧ c ≤ 210) ∨ c = 212 ∨ (216 ≤ c ∧ c ≤ 225) ∨ (232 ≤ c ∧ c ≤ 234))
theorem RK.nodes {μ : MU} {S P M M' : Int} {w : Mm} (h : RK μ S P M w) (hM : M ≤ M') : RK μ S P M' w := by
  obtain ⟨k1, k2, k3, ⟨t1, t2, t3, t4, t5, t6, t7⟩, k5⟩ := h
  refine ⟨k1, k2, k3, ⟨by omega, t2, t3, t4, t5, t6, fun k a b => ?_⟩, k5⟩
  have := t7 k a b
  omega
theorem ends_ok {μ : MU} {S P M g : Int} {w : Mm} (hB : LB μ S P w) (hK : RK μ S P M w) (hz : w 122 μ.1 0 ≤ w 120 μ.1 0) (hg : 0 ≤ g ∧ g ≤ 1) (hS : S ≤ 29900) (hP : P ≤ 520000) : LB μ (S + 8) P (m_ends μ g w).2 ∧ RK μ (S + 8) P (M + 1) (m_ends μ g w).2 ∧ ∀ c a i, enK c = false → (m_ends μ g w).2 c a i = w c a i := by
  obtain ⟨n1, n2, n3, n4⟩ := ntf_rk (μ := μ) hB hK
  have h120 := ntf_120 hB hK
  obtain ⟨f1, f2, f3, f4, f5⟩ := n2.f
  have e122 : (m_ntf μ w).2 122 μ.1 0 = w 122 μ.1 0 := n1.2 _ _ _ (by decide) (by decide) (by decide) (by decide) (by decide) (by decide)
  rcases ends_cases μ g w with ⟨e, _⟩ | ⟨e, _⟩ | ⟨e, _⟩
  · rw [e]
    refine ⟨hB.mono (by omega) (by omega), ?_, fun c a i _ => rfl⟩
    exact (hK.mono (S' := S + 8) (P' := P) (by omega) (by omega)).nodes (by omega)
  · rw [e]
    have h1 := (n3.rest (b := 2) (all := 1) (Or.inl rfl)).mono (S' := S + 8) (P' := P) (by omega) (by omega)
    refine ⟨(LB.rest n2 n3.1).mono (by omega) (by omega), h1.nodes (by omega), fun c a i h => ?_⟩
    have h := of_decide_eq_false h
    show m_rest μ 2 1 (m_ntf μ w).2 c a i = w c a i
    rw [rest_at (by omega), n1.2 _ _ _ (by omega) (by omega) (by omega) (by omega) (by omega) (by omega)]
  · rw [e]
    refine ⟨n2.mkn, (n3.mks (by omega) (by omega) (by omega) (by omega)).mono (by omega) (by omega), fun c a i h => ?_⟩
    have h := of_decide_eq_false h
    show m_mks μ g (m_ntf μ w).2 c a i = w c a i
    rw [mks_at (decide_eq_false (by omega)), n1.2 _ _ _ (by omega) (by omega) (by omega) (by omega) (by omega) (by omega)]
abbrev m_full (μ : MU) (w : Mm) : Prop := w 133 μ.1 0 ≠ -1 ∧ w 236 0 4 = 16
def m_ca3 (μ : MU) (c a b : Int) (w : Mm) : Mm := m_rec μ c a b (up (up w 139 μ.1 0 0) 129 μ.1 0 (-1))
def m_ca2 (μ : MU) (c a b sort : Int) (q : Int × Mm) : Int × Mm := if q.1 = 0 then (0, up q.2 139 μ.1 0 sort) else (m_ca3 μ c a b q.2 136 μ.1 0, m_ca3 μ c a b q.2)
def m_ca1 (μ : MU) (c a b sort : Int) (p : Int × Mm) : Int × Mm := if p.1 > 0 then (0, up p.2 139 μ.1 0 sort) else m_ca2 μ c a b sort (m_ends μ 0 p.2)
def m_cal (μ : MU) (c a b sort : Int) (w : Mm) : Int × Mm := if m_full μ (m_saves μ 2 w) then (0, up (m_saves μ 2 w) 139 μ.1 0 sort) else m_ca1 μ c a b sort (m_does μ c a b (m_saves μ 2 w))
theorem rec_at {μ : MU} {c' : Nat} {c a b x i : Int} {w : Mm} (h : c' ≠ 235 ∧ c' ≠ 236) : m_rec μ c a b w c' x i = w c' x i := by
  unfold m_rec m_rec1
  split
  · rw [up_k _ (by omega), up_k _ (by omega), up_k _ (by omega), up_k _ (by omega)]
  · rfl
theorem bMc.rec {μ : MU} {c a b : Int} {w : Mm} (h : bMc w) (hv : CV c a b) (hf : w 133 μ.1 0 ≠ -1 → w 236 0 4 ≤ 15) : bMc (m_rec μ c a b w) := by
  unfold m_rec
  split
  · next hr =>
    have hf := hf hr
    unfold m_rec1
    intro m m0 m5
    have hm := h m m0 m5
    have h4 := h 4 (by decide) (by decide)
    simp (disch := decide) only [up_k, up_ii]
    refine ⟨by split <;> omega, fun k k0 k1 => ?_⟩
    by_cases c4 : m = 4
    · subst c4
      rw [if_pos rfl] at k1
      by_cases ck : k = w 236 0 4
      · rw [if_neg (by omega), if_neg (by omega), if_pos (by omega), if_neg (by omega), if_pos (by omega), if_pos (by omega)]; exact hv
      · rw [if_neg (by omega), if_neg (by omega), if_neg (by omega), if_neg (by omega), if_neg (by omega), if_neg (by omega), if_neg (by omega), if_neg (by omega), if_neg (by omega)]; exact hm.2 k k0 (by omega)
    · rw [if_neg c4] at k1
      rw [if_neg (by omega), if_neg (by omega), if_neg (by omega), if_neg (by omega), if_neg (by omega), if_neg (by omega), if_neg (by omega), if_neg (by omega), if_neg (by omega)]; exact hm.2 k k0 k1
  · exact h
theorem RK.rec {μ : MU} {S P M c a b : Int} {w : Mm} (h : RK μ S P M w) (hv : CV c a b) (hf : w 133 μ.1 0 ≠ -1 → w 236 0 4 ≤ 15) : RK μ S P M (m_rec μ c a b w) := by
  obtain ⟨h1, h2, h3, h4, h5, h6, h7⟩ := h
  exact ⟨h1.cong fun c a i _ _ _ _ _ => rec_at (by omega), h2.cong fun c a i _ _ _ _ _ => rec_at (by omega), h3.cong fun c a i _ _ => rec_at (by omega), h4.cong fun c a i _ => rec_at (by omega), h5.cong fun i => rec_at (by omega), h6.cong fun i => rec_at (by omega), h7.rec hv hf⟩
theorem LB.rec {μ : MU} {S P c a b : Int} {w : Mm} (h : LB μ S P w) : LB μ S P (m_rec μ c a b w) :=
  h.cong (fun c a i _ _ _ => rec_at (by omega)) (rec_at (by omega)) (rec_at (by omega))
theorem rest_120 {μ : MU} {b all : Int} {w : Mm} : m_rest μ b all w 120 μ.1 0 = w 214 0 b ∧ m_rest μ b all w 121 μ.1 0 = w 215 0 b := by
  rw [rest_eq]
  refine ⟨by rw [up_k _ (by decide), up_s], by rw [up_s]⟩
theorem saves_214 {μ : MU} {b : Int} {w : Mm} : m_saves μ b w 214 0 b = w 120 μ.1 0 ∧ m_saves μ b w 215 0 b = w 121 μ.1 0 := by
  rw [saves_eq]
  refine ⟨by rw [up_k _ (by decide), up_s], by rw [up_s]⟩
theorem saves_201 {μ : MU} {b i : Int} {w : Mm} : m_saves μ b w 201 0 i = if i = b then w 201 0 0 else w 201 0 i := by
  rw [saves_eq, up_k _ (by decide), up_k _ (by decide), cpy_201]
theorem rest_201 {μ : MU} {b all i : Int} {w : Mm} : m_rest μ b all w 201 0 i = if i = 0 then w 201 0 b else w 201 0 i := by
  rw [rest_eq, up_k _ (by decide), up_k _ (by decide), cpy_201]
theorem RB.cal {μ : MU} {S P M c a b sort : Int} {w : Mm} (h : RB μ S P M w) (hv : CV c a b) (hc : c ≤ 14) (hS : S ≤ 29000) (hP : P ≤ 510000) : RB μ (S + 10) (P + 20) (M + 1) (m_cal μ c a b sort w).2 := by
  obtain ⟨hB, hK, hZ, hY⟩ := h
  have hB1 := hB.saves (a := 2) (by decide)
  have hK1 := hK.saves hB (a := 2) (by decide)
  have e1 : ∀ c a i, c < 200 ∨ (210 < c ∧ c ≠ 214 ∧ c ≠ 215) → m_saves μ 2 w c a i = w c a i := fun c a i h => saves_at h
  have s1 := saves_214 (μ := μ) (b := 2) (w := w)
  have s2 : m_saves μ 2 w 201 0 0 = w 201 0 0 := by rw [saves_201, if_neg (by decide)]
  have s3 : m_saves μ 2 w 201 0 2 = w 201 0 0 := by rw [saves_201, if_pos rfl]
  unfold m_cal
  generalize m_saves μ 2 w = w1 at *
  have hM := hK1.nodes (show M ≤ M + 1 by omega)
  unfold bZ at hZ
  unfold bY at hY
  split
  · refine ⟨(hB1.up_o (by decide)).mono (by omega) (by omega), (hM.up_o (by decide)).mono (by omega) (by omega), ?_, ?_⟩
    · unfold bZ; simp (disch := decide) only [up_k, e1]; exact hZ
    · unfold bY; simp (disch := decide) only [up_k, e1]; rw [s2]; exact hY
  · next hf =>
    unfold m_ca1
    have n1 := does_nn (μ := μ) (c := c) (a := a) (b := b) (w := w1)
    have hB2 := hB1.does hv
    have hL := LO.does hB1 hv hc
    have hA := AP.does (μ := μ) (c := c) (a := a) (b := b) (w := w1)
    have hK2 := (hM.lo hL).mono (S' := S + 2) (P' := P + 20) (by omega) (by omega)
    have hK2' := (hK1.lo hL).mono (S' := S + 2) (P' := P + 20) (by omega) (by omega)
    generalize m_does μ c a b w1 = p at *
    obtain ⟨p1, p2⟩ := p
    dsimp only at *
    split
    · next hp =>
      have hd := n1.2.2 (by omega)
      unfold LDb at hd
      refine ⟨(hB2.up_o (by decide)).mono (by omega) (by omega), (hK2.up_o (by decide)).mono (by omega) (by omega), ?_, ?_⟩
      · unfold bZ; simp (disch := decide) only [up_k, hd, e1]; exact hZ
      · unfold bY; simp (disch := decide) only [up_k, hd, e1]; rw [s2]; exact hY
    · next hp =>
      have e2 : ∀ c a i, (c < 200 ∨ 210 < c) → LOk c = false → p2 c a i = w1 c a i := hL.2
      have z2 : p2 122 μ.1 0 ≤ p2 120 μ.1 0 := by
        rw [e2 _ _ _ (by decide) (by decide), e1 _ _ _ (by decide)]
        have := hA.1
        rw [e1 _ _ _ (by decide)] at this
        omega
      obtain ⟨g1, g2, g3⟩ := ends_ok (g := 0) hB2 hK2' z2 (by decide) (by omega) (by omega)
      obtain ⟨l1, l2, l3, l4⟩ := ntf_rk (μ := μ) hB2 hK2'
      have l5 := AP.ntf (μ := μ) hK2'.2.2.2.2.1
      unfold m_ca2
      have a120 := hA.1
      have a121 := hA.2.1
      have b120 := l5.1
      have b121 := l5.2.1
      have hcnt := (hK.2.2.2.2.2.2 4 (by decide) (by decide)).1.2
      unfold m_full at hf
      rw [e1 133 _ _ (by decide), e1 236 _ _ (by decide)] at hf
      rw [e1 120 _ _ (by decide)] at a120
      rw [e1 121 _ _ (by decide)] at a121
      have q132 : p2 132 μ.1 0 = w 132 μ.1 0 := by rw [e2 _ _ _ (by decide) (by decide), e1 _ _ _ (by decide)]
      have q133 : p2 133 μ.1 0 = w 133 μ.1 0 := by rw [e2 _ _ _ (by decide) (by decide), e1 _ _ _ (by decide)]
      have q130 : p2 130 μ.1 0 = w 130 μ.1 0 := by rw [e2 _ _ _ (by decide) (by decide), e1 _ _ _ (by decide)]
      have q129 : p2 129 μ.1 0 = w 129 μ.1 0 := by rw [e2 _ _ _ (by decide) (by decide), e1 _ _ _ (by decide)]
      have q122 : p2 122 μ.1 0 = w 122 μ.1 0 := by rw [e2 _ _ _ (by decide) (by decide), e1 _ _ _ (by decide)]
      have q123 : p2 123 μ.1 0 = w 123 μ.1 0 := by rw [e2 _ _ _ (by decide) (by decide), e1 _ _ _ (by decide)]
      have q236 : p2 236 0 4 = w 236 0 4 := by rw [e2 _ _ _ (by decide) (by decide), e1 _ _ _ (by decide)]
      have q214 : p2 214 0 2 = w 120 μ.1 0 := by rw [e2 _ _ _ (by decide) (by decide), s1.1]
      have q215 : p2 215 0 2 = w 121 μ.1 0 := by rw [e2 _ _ _ (by decide) (by decide), s1.2]
      have q201 : p2 201 0 2 = w 201 0 0 := by rw [hL.1 _ _ _ (by decide) (by decide) (by decide), s3]
      have q212 : ∀ i, 0 ≤ i → i < w 120 μ.1 0 → p2 212 0 i = w 212 0 i := fun i x y => by
        rw [hA.2.2.1 i x (by rw [e1 _ _ _ (by decide)]; exact y), e1 _ _ _ (by decide)]
      have lN : ∀ c a i, c ≠ 200 → c ≠ 212 → c ≠ 120 → c ≠ 232 → c ≠ 233 → c ≠ 234 → (m_ntf μ p2).2 c a i = p2 c a i := l1.2
      rcases ends_cases μ 0 p2 with ⟨e, hc1⟩ | ⟨e, hc1, hc2, hc3⟩ | ⟨e, hc1, hc2, hc3⟩
      · rw [e] at g1 g2 ⊢
        dsimp only at g1 g2
        rw [if_neg (by simp)]
        refine ⟨((LB.rec ((g1.up_o (by decide)).up_o (by decide)))).mono (by omega) (by omega), (RK.rec ((g2.up_o (by decide)).up_o (by decide)) hv ?_).mono (by omega) (by omega), ?_, ?_⟩
        · rw [up_k _ (by decide), up_k _ (by decide), up_k _ (by decide), up_k _ (by decide), q133, q236]; intro hr; omega
        · unfold bZ m_ca3
          simp (disch := decide) only [rec_at, up_k]
          rw [q132, q133, q130, q122, q123]
          refine ⟨hZ.1, hZ.2.1, ⟨by omega, by omega⟩, hZ.2.2.2.1, fun x => by omega⟩
        · unfold bY m_ca3; simp (disch := decide) only [rec_at, up_s]; intro hh; exact absurd rfl hh
      · rw [e] at g1 g2 ⊢
        dsimp only at g1 g2
        rw [if_pos rfl]
        refine ⟨(g1.up_o (by decide)).mono (by omega) (by omega), (g2.up_o (by decide)).mono (by omega) (by omega), ?_, ?_⟩
        · unfold bZ
          simp (disch := decide) only [up_k, rest_at]
          rw [rest_120.1, rest_120.2]
          simp (disch := decide) only [lN]
          rw [q132, q133, q130, q122, q123, q214, q215]
          exact hZ
        · unfold bY
          simp (disch := decide) only [up_k, rest_at]
          rw [rest_120.1, rest_201, if_pos rfl]
          simp (disch := decide) only [lN]
          rw [q129, q214, q201]
          intro hh
          have h3 := hY hh
          rw [l5.2.2.1 _ (by omega) (by omega), q212 _ (by omega) (by omega)]
          exact h3
      · rw [e] at g1 g2 ⊢
        dsimp only at g1 g2
        rw [if_neg (by simp)]
        have m122 := mks_122 (μ := μ) (g := 0) (w := (m_ntf μ p2).2)
        refine ⟨((LB.rec ((g1.up_o (by decide)).up_o (by decide)))).mono (by omega) (by omega), (RK.rec ((g2.up_o (by decide)).up_o (by decide)) hv ?_).mono (by omega) (by omega), ?_, ?_⟩
        · simp (disch := decide) only [up_k, mks_at, lN]; rw [q133, q236]; intro hr; omega
        · unfold bZ m_ca3
          simp (disch := decide) only [rec_at, up_k]
          rw [m122.1, m122.2]
          simp (disch := decide) only [mks_at, lN]
          rw [q132, q133, q130]
          exact ⟨hZ.1, hZ.2.1, ⟨Int.le_refl _, Int.le_refl _⟩, hZ.2.2.2.1, fun _ => trivial⟩
        · unfold bY m_ca3; simp (disch := decide) only [rec_at, up_s]; intro hh; exact absurd rfl hh
