/-! what commands leave alone: the other states, the tree, the listeners, the macros; and steps and pool only grow -/
def st0 (c : Nat) : Int := if c = 200 ∨ c = 206 then 400 else if c = 202 ∨ c = 203 then 6 else if c = 204 then 5 else if c = 205 then 20 else if c = 208 ∨ c = 209 then 4 else 1
def LOk (c : Nat) : Bool := c == 212 || c == 213 || c == 240 || c == 120 || c == 121 || c == 136
def LO (w w' : Mm) : Prop := (∀ c a i, 200 ≤ c → c ≤ 210 → st0 c ≤ i → w' c a i = w c a i) ∧ (∀ c a i, (c < 200 ∨ 210 < c) → LOk c = false → w' c a i = w c a i)
theorem LO.r {w : Mm} : LO w w := ⟨fun _ _ _ _ _ _ => rfl, fun _ _ _ _ _ => rfl⟩
theorem LO.t {w w1 w2 : Mm} (h : LO w w1) (g : LO w1 w2) : LO w w2 := ⟨fun c a i x y z => (g.1 c a i x y z).trans (h.1 c a i x y z), fun c a i x y => (g.2 c a i x y).trans (h.2 c a i x y)⟩
theorem LO.u {w w1 : Mm} (h : LO w w1) {c : Nat} {a i v : Int} (hc : LOk c = true ∨ (200 ≤ c ∧ c ≤ 210 ∧ i < st0 c)) : LO w (up w1 c a i v) := by
  refine LO.t h ⟨fun c' a' i' x y z => ?_, fun c' a' i' x y => ?_⟩
  · simp only [up]
    split
    · next e =>
      obtain ⟨rfl, rfl, rfl⟩ := e
      rcases hc with hc | hc
      · exfalso; unfold LOk at hc; simp at hc; omega
      · omega
    · rfl
  · simp only [up]
    split
    · next e =>
      obtain ⟨rfl, rfl, rfl⟩ := e
      rcases hc with hc | hc
      · rw [hc] at y; cases y
      · omega
    · rfl
theorem LO.f {w w1 : Mm} (h : LO w w1) {c : Nat} {lo n : Int} {f : Int → Int} (hc : LOk c = true ∨ (200 ≤ c ∧ c ≤ 210 ∧ lo + n ≤ st0 c)) : LO w (fl w1 c lo n f) := by
  refine LO.t h ⟨fun c' a' i' x y z => ?_, fun c' a' i' x y => ?_⟩
  · simp only [fl]
    split
    · next e =>
      obtain ⟨rfl, rfl, e1, e2⟩ := e
      rcases hc with hc | hc
      · exfalso; unfold LOk at hc; simp at hc; omega
      · omega
    · rfl
  · simp only [fl]
    split
    · next e =>
      obtain ⟨rfl, rfl, e1, e2⟩ := e
      rcases hc with hc | hc
      · rw [hc] at y; cases y
      · omega
    · rfl
theorem LO.step {μ : MU} {k p v : Int} {w w1 : Mm} (h : LO w w1) : LO w (m_step μ k p v w1) := by
  unfold m_step; exact (h.u (Or.inl rfl)).u (Or.inl rfl)
theorem LO.pool {μ : MU} {v : Int} {w w1 : Mm} (h : LO w w1) : LO w (m_pool μ v w1) := by
  unfold m_pool; exact (h.u (Or.inl rfl)).u (Or.inl rfl)
theorem LO.poolN {μ : MU} {f : Int → Int} {w w1 : Mm} (h : LO w w1) : ∀ {n : Nat}, LO w (m_poolN μ f n w1)
  | 0 => h
  | n + 1 => (LO.poolN h (n := n)).pool
theorem LO.opens {q k : Int} {w w1 : Mm} (h : LO w w1) (hq : 0 ≤ k ∧ w1 201 0 0 + k ≤ 400) (hv : w1 210 0 0 ≤ 4) : LO w (m_opens 0 q k w1) := by
  unfold m_opens
  refine LO.f (LO.f (LO.f (LO.u (LO.f h ?_) ?_) ?_) ?_) ?_ <;> (right; refine ⟨by decide, by decide, ?_⟩; simp [st0]; try omega)
theorem LO.closes {q k : Int} {w w1 : Mm} (h : LO w w1) (hq : 0 ≤ k ∧ w1 201 0 0 ≤ 400) (hv : w1 210 0 0 ≤ 4) : LO w (m_closes 0 q k w1) := by
  unfold m_closes
  refine LO.f (LO.f (LO.f (LO.f (LO.u h ?_) ?_) ?_) ?_) ?_ <;> (right; refine ⟨by decide, by decide, ?_⟩; simp [st0]; try omega)
theorem LO.ins {μ : MU} {q k : Int} {w w1 : Mm} (h : LO w w1) (hk : 0 ≤ k ∧ w1 201 0 0 + k ≤ 400) (hq : q ≤ w1 201 0 0) (hv : w1 210 0 0 ≤ 4) : LO w (m_ins μ q k w1) := by
  unfold m_ins
  refine LO.poolN (LO.f ((h.opens hk hv).step) ?_)
  right; refine ⟨by decide, by decide, ?_⟩; simp [st0]; omega
theorem LO.del {μ : MU} {q k : Int} {w w1 : Mm} (h : LO w w1) (hk : 0 ≤ k ∧ w1 201 0 0 ≤ 400) (hv : w1 210 0 0 ≤ 4) : LO w (m_del μ q k w1) := (h.closes hk hv).step
theorem LO.rep {μ : MU} {q c : Int} {w w1 : Mm} (h : LO w w1) (hq : q < 400) : LO w (m_rep μ q c w1) := by
  unfold m_rep
  exact (h.u (Or.inr ⟨by decide, by decide, by simp [st0]; omega⟩)).step
theorem LO.tak {s e k : Int} {w w1 : Mm} (h : LO w w1) (hs : s ≤ 4 ∧ e ≤ 3 ∧ k ≤ 20) : LO w (m_tak 0 s e k w1) := by
  unfold m_tak
  refine LO.f (LO.u h ?_) ?_ <;> (right; refine ⟨by decide, by decide, ?_⟩; simp [st0]; try omega)
theorem LO.psh {k : Int} {w w1 : Mm} (h : LO w w1) (hk : k ≤ 20) (hc : 0 ≤ w1 204 0 4) : LO w (m_psh 0 k w1) := by
  unfold m_psh
  have hc : 0 ≤ (if w1 204 0 (5 * 0 + 4) < 4 then w1 204 0 (5 * 0 + 4) + 1 else 4) ∧ (if w1 204 0 (5 * 0 + 4) < 4 then w1 204 0 (5 * 0 + 4) + 1 else 4) ≤ 4 := by
    rw [show (5 * 0 + 4 : Int) = 4 from rfl]; split <;> omega
  generalize (if w1 204 0 (5 * 0 + 4) < 4 then w1 204 0 (5 * 0 + 4) + 1 else 4) = c1 at hc ⊢
  dsimp only
  refine LO.tak (LO.f (LO.f (LO.u h ?_) ?_) ?_) (by omega) <;> (right; refine ⟨by decide, by decide, ?_⟩; simp [st0]; try omega)
theorem LO.trn {w w1 : Mm} (h : LO w w1) (hc : w1 204 0 4 ≤ 4) (hl : w1 205 0 16 ≤ 20) : LO w (m_trn 0 w1) := by
  unfold m_trn
  dsimp only
  rw [show (5 * 0 + 4 : Int) = 4 from rfl, show (20 * 0 + 16 : Int) = 16 from rfl]
  refine LO.tak (LO.f (LO.f (LO.f h (Or.inl rfl)) ?_) ?_) (by omega) <;> (right; refine ⟨by decide, by decide, ?_⟩; simp [st0]; try omega)
theorem LO.pEn {μ : MU} {s e : Int} {b w w1 : Mm} (h : LO w w1) : LO w (m_pEn μ s e b w1) := h.poolN
theorem LO.does {μ : MU} {S P c a b : Int} {w : Mm} (hB : LB μ S P w) (hv : CV c a b) (hc15 : c ≤ 14) : LO w (m_does μ c a b w).2 := by
  obtain ⟨f1, f2, f3, f4, f5⟩ := hB.f
  have hv2 := hv
  unfold CV at hv2
  have g4 := hB.cn (s := 4) (by omega)
  have g5 := hB.el (i := 16) (by omega)
  unfold m_does
  split
  · exact LO.r
  · next hl =>
    split
    · split
      · exact LO.r
      · have hI := hB.buf0 (a := a) (by omega)
        obtain ⟨l1, l2, l3, l4, l5⟩ := hI.f
        have e1 : up w 240 0 0 a 201 0 0 = w 201 0 0 := up_k _ (by decide) _ _ _ _ _
        have e2 : up w 240 0 0 a 207 0 0 = w 207 0 0 := up_k _ (by decide) _ _ _ _ _
        refine LO.u (LO.u (LO.ins (LO.u LO.r (Or.inl rfl)) (by omega) (by omega) (by omega)) (Or.inr ⟨by decide, by decide, by decide⟩)) (Or.inl rfl)
    · split
      · unfold m_lack m_many at hl
        rw [if_neg (by omega), if_pos (by omega)] at hl
        exact LO.u (LO.rep (LO.u LO.r (Or.inl rfl)) (by omega)) (Or.inr ⟨by decide, by decide, by decide⟩)
      · split
        · exact LO.u (LO.del LO.r (by omega) (by omega)) (Or.inl rfl)
        · split
          · split
            · exact LO.u (LO.u LO.r (Or.inr ⟨by decide, by decide, by decide⟩)) (Or.inl rfl)
            · exact LO.r
          · split
            · split
              · exact LO.u (LO.u LO.r (Or.inr ⟨by decide, by decide, by decide⟩)) (Or.inl rfl)
              · exact LO.r
            · split
              · split
                · exact LO.r
                · exact LO.u (LO.u LO.r (Or.inr ⟨by decide, by decide, by decide⟩)) (Or.inl rfl)
              · unfold m_more
                have PU : ∀ s, 0 ≤ s ∧ s ≤ 4 → LO w (m_puts μ s w).2 := fun s hs => by
                  have h1 := hB.ld hs
                  obtain ⟨l1, l2, l3, l4, l5⟩ := h1.f
                  have h2 := hB.el (i := 4 * s) (by omega)
                  have h0 : LO w (m_ld s w) := LO.f LO.r (Or.inl rfl)
                  unfold m_puts
                  split
                  · exact h0
                  · split
                    · exact h0
                    · exact LO.u (LO.u (LO.ins h0 (by omega) (by omega) (by omega)) (Or.inr ⟨by decide, by decide, by decide⟩)) (Or.inl rfl)
                split
                · unfold m_sea m_sea2
                  split
                  · exact LO.r
                  · exact LO.u (LO.u LO.r (Or.inr ⟨by decide, by decide, by decide⟩)) (Or.inl rfl)
                · split
                  · unfold m_lack m_many at hl
                    rw [if_neg (by omega), if_neg (by omega)] at hl
                    have h1 := hB.rd (k := a) (by omega)
                    have h2 := h1.psh (k := a) (by omega)
                    obtain ⟨l1, l2, l3, l4, l5⟩ := h2.f
                    have hA : LO w (m_kilA μ a w) := LO.del (LO.psh (LO.f LO.r (Or.inl rfl)) (by omega) (h1.cn (s := 4) (by omega)).1) (by omega) (by omega)
                    refine LO.u ?_ (Or.inl rfl)
                    split
                    · exact hA.step.pEn
                    · exact hA
                  · split
                    · exact PU 4 (by omega)
                    · split
                      · unfold m_rots
                        split
                        · exact LO.r
                        · refine LO.u ?_ (Or.inl rfl)
                          split
                          · exact (LO.trn LO.r (by omega) (by omega)).step
                          · exact LO.trn LO.r (by omega) (by omega)
                      · split
                        · have hA : LO w (m_copA μ a b w) := LO.tak (LO.f (LO.u (LO.u LO.r (Or.inl rfl)) (Or.inr ⟨by decide, by decide, by simp [st0]; omega⟩)) (Or.inl rfl)) (by omega)
                          unfold m_cop
                          split
                          · exact hA.step.pEn
                          · exact hA
                        · split
                          · exact PU a (by omega)
                          · split
                            · exact LO.step (LO.u (LO.u (LO.u LO.r (Or.inl rfl)) (Or.inr ⟨by decide, by decide, by simp [st0]; omega⟩)) (Or.inr ⟨by decide, by decide, by simp [st0]; omega⟩))
                            · split
                              · unfold m_clr
                                split
                                · exact LO.r
                                · exact LO.step (LO.u (LO.u LO.r (Or.inl rfl)) (Or.inr ⟨by decide, by decide, by simp [st0]; omega⟩))
                              · unfold m_nar
                                split
                                · exact LO.r
                                · split
                                  · exact LO.r
                                  · exact LO.u (LO.u (LO.u (LO.u LO.r (Or.inr ⟨by decide, by decide, by simp [st0]; omega⟩)) (Or.inr ⟨by decide, by decide, by simp [st0]; omega⟩)) (Or.inr ⟨by decide, by decide, by decide⟩)) (Or.inl rfl)
theorem LO.sb {s : Int} {w w' : Mm} (h : LO w w') (hs : 1 ≤ s) (hB : SB s w) : SB s w' := by
  obtain ⟨h1, h2, h3, h4, h5, h6⟩ := hB
  have e : ∀ c a i, 200 ≤ c → c ≤ 210 → st0 c ≤ i → w' c a i = w c a i := h.1
  refine ⟨?_, fun i a b => ?_, fun i a b => ?_, fun i a b => ?_, fun i a b => ?_, fun i a b => ?_⟩
  · unfold bL1; rw [e _ _ _ (by decide) (by decide) (by simp [st0]; omega)]; exact h1
  · rw [e _ _ _ (by decide) (by decide) (by simp [st0]; omega)]; exact h2 i a b
  · rw [e _ _ _ (by decide) (by decide) (by simp [st0]; omega), e _ _ _ (by decide) (by decide) (by simp [st0]; omega), e _ _ _ (by decide) (by decide) (by simp [st0]; omega)]; exact h3 i a b
  · rw [e _ _ _ (by decide) (by decide) (by simp [st0]; omega)]; exact h4 i a b
  · rw [e _ _ _ (by decide) (by decide) (by simp [st0]; omega)]; exact h5 i a b
  · rw [e _ _ _ (by decide) (by decide) (by simp [st0]; omega)]; exact h6 i a b
theorem LO.vb {s : Int} {w w' : Mm} (h : LO w w') (hs : 1 ≤ s) (hB : VB s w) : VB s w' := by
  have e : ∀ c a i, 200 ≤ c → c ≤ 210 → st0 c ≤ i → w' c a i = w c a i := h.1
  exact hB.cpo (e _ _ _ (by decide) (by decide) (by simp [st0]; omega)) (e _ _ _ (by decide) (by decide) (by simp [st0]; omega)) (fun i a b => e _ _ _ (by decide) (by decide) (by simp [st0]; omega)) (fun i a b => e _ _ _ (by decide) (by decide) (by simp [st0]; omega)) (e _ _ _ (by decide) (by decide) (by simp [st0]; omega))
theorem LO.sv {S P s : Int} {w w' : Mm} (h : LO w w') (hs : 1 ≤ s) (hB : SV S P s w) : SV S P s w' := by
  refine ⟨h.sb hs hB.1, h.vb hs hB.2.1, ?_, ?_⟩
  · rw [h.2 _ _ _ (by decide) (by decide)]; exact hB.2.2.1
  · rw [h.2 _ _ _ (by decide) (by decide)]; exact hB.2.2.2
theorem TB.cong {μ : MU} {M : Int} {w w' : Mm} (h : TB μ M w) (e : ∀ c a i, (122 ≤ c ∧ c ≤ 128) ∨ (216 ≤ c ∧ c ≤ 225) → w' c a i = w c a i) : TB μ M w' := by
  obtain ⟨t1, t2, t3, t4, t5, t6, t7⟩ := h
  refine ⟨?_, ?_, ?_, ?_, ?_, ?_, fun k a b => ?_⟩
  · rw [e _ _ _ (by omega)]; exact t1
  · rw [e _ _ _ (by omega), e _ _ _ (by omega)]; exact t2
  · rw [e _ _ _ (by omega), e _ _ _ (by omega)]; exact t3
  · rw [e _ _ _ (by omega)]; exact t4
  · rw [e _ _ _ (by omega)]; exact t5
  · rw [e _ _ _ (by omega)]; exact t6
  · rw [e _ _ _ (by omega)] at b
    have := t7 k a b
    simp only [e 216 _ _ (by omega), e 217 _ _ (by omega), e 218 _ _ (by omega), e 219 _ _ (by omega), e 220 _ _ (by omega), e 221 _ _ (by omega), e 222 _ _ (by omega), e 223 _ _ (by omega), e 224 _ _ (by omega), e 225 _ _ (by omega), e 124 _ _ (by omega)]
    exact this
theorem TB.lo {μ : MU} {M : Int} {w w' : Mm} (h : TB μ M w) (g : LO w w') : TB μ M w' :=
  h.cong fun c a i hc => g.2 c a i (by omega) (by unfold LOk; simp; omega)
