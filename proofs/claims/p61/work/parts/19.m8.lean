/-- a command's arguments, as calls let them in -/
def CV (c a b : Int) : Prop := (0 ≤ c ∧ c ≤ 16) ∧ (-50 ≤ a ∧ a ≤ 126) ∧ (0 ≤ b ∧ b ≤ 20) ∧ (c = 0 ∨ c = 1 ∨ c = 4 → 0 ≤ a ∧ a ≤ 126) ∧ (c = 2 ∨ c = 5 → 1 ≤ a ∧ a ≤ 20) ∧ (c = 3 → -50 ≤ a ∧ a ≤ 50) ∧ (c = 8 ∨ c = 9 ∨ c = 15 → 0 ≤ a ∧ a ≤ 3) ∧ (c = 8 → 1 ≤ b ∧ b ≤ 20) ∧ (10 ≤ c ∧ c ≤ 13 → 0 ≤ a ∧ a ≤ 5) ∧ (c = 10 → b = 0 ∨ b = 1) ∧ (c = 15 → 1 ≤ b ∧ b ≤ 10)
def m_more (μ : MU) (c a b : Int) (w : Mm) : Int × Mm := if c = 4 then m_sea μ a w else if c = 5 then (0, m_kil μ a w) else if c = 6 then m_puts μ 4 w else if c = 7 then m_rots μ w else if c = 8 then (0, m_cop μ a b w) else if c = 9 then m_puts μ a w else if c = 10 then (0, m_mkp μ a b w) else if c = 11 then m_clr μ a w else m_nar μ a w
def m_many (c a b : Int) : Int := if c = 8 then b else if c = 1 then 1 else a
abbrev m_lack (c a b : Int) (w : Mm) : Prop := (c = 2 ∨ c = 5 ∨ c = 8 ∨ c = 1) ∧ w 207 0 0 + m_many c a b > m_vT w
def m_insC (μ : MU) (a : Int) (w : Mm) : Mm := m_pt μ 1 (m_ins μ (w 207 0 0) 1 (up w 240 0 0 a))
def m_ovrA (μ : MU) (a : Int) (w : Mm) : Mm := m_rep μ (w 207 0 0) a (up w 136 μ.1 0 (w 200 0 (w 207 0 0)))
def m_ovr (μ : MU) (a : Int) (w : Mm) : Mm := up (m_ovrA μ a w) 207 0 0 (m_ovrA μ a w 207 0 0 + 1)
def m_delC (μ : MU) (a : Int) (w : Mm) : Mm := up (m_del μ (w 207 0 0) a w) 136 μ.1 0 (m_del μ (w 207 0 0) a w 201 0 0)
def m_goto (μ : MU) (p : Int) (w : Mm) : Mm := up (up w 207 0 0 p) 136 μ.1 0 p
def m_wid (μ : MU) (w : Mm) : Mm := up (up w 210 0 0 (w 210 0 0 - 1)) 136 μ.1 0 (w 210 0 0 - 1)
def m_does (μ : MU) (c a b : Int) (w : Mm) : Int × Mm :=
  if m_lack c a b w then (1, w) else if c = 0 then (if w 201 0 0 = 400 then (5, w) else (0, m_insC μ a w)) else if c = 1 then (0, m_ovr μ a w) else if c = 2 then (0, m_delC μ a w)
  else if c = 3 then (if m_iV (w 207 0 0 + a) w then (0, m_goto μ (w 207 0 0 + a) w) else (1, w)) else if c = 12 then (if w 202 0 a ≠ -1 ∧ m_iV (w 202 0 a) w then (0, m_goto μ (w 202 0 a) w) else (3, w))
  else if c = 14 then (if w 210 0 0 = 0 then (6, w) else (0, m_wid μ w)) else m_more μ c a b w
theorem LB.sea {μ : MU} {S P c : Int} {w : Mm} (h : LB μ S P w) : LB μ S P (m_sea μ c w).2 := by
  obtain ⟨f1, f2, f3, f4, f5⟩ := h.f
  have := fnd_spec (fun i => w 200 0 i) c (m_vT w - w 207 0 0).toNat (w 207 0 0)
  unfold m_sea m_sea2
  split
  · exact h
  · exact (h.w.pt (by omega)).up_int (by decide)
theorem SB.mks {s i p g : Int} {w : Mm} (h : SB s w) (hp : -1 ≤ p ∧ p ≤ w 201 0 s) (hg : g = 0 ∨ g = 1) : SB s (up (up w 202 0 i p) 203 0 i g) := by
  obtain ⟨h1, h2, h3, h4, h5, h6⟩ := h
  refine ⟨?_, fun i a b => ?_, fun j a b => ?_, fun i a b => ?_, fun i a b => ?_, fun i a b => ?_⟩
  · unfold bL1; rw [up_k _ (by decide), up_k _ (by decide)]; exact h1
  · rw [up_k _ (by decide), up_k _ (by decide)]; exact h2 i a b
  · rw [up_k _ (show (202 : Nat) ≠ 203 by decide), up_k _ (show (201 : Nat) ≠ 203 by decide), up_k _ (show (201 : Nat) ≠ 202 by decide)]
    have := h3 j a b
    refine ⟨?_, ?_⟩
    · simp only [up]; split <;> omega
    · simp only [up]; split
      · exact hg
      · rw [if_neg (by omega)]; exact this.2
  · rw [up_k _ (by decide), up_k _ (by decide)]; exact h4 i a b
  · rw [up_k _ (by decide), up_k _ (by decide)]; exact h5 i a b
  · rw [up_k _ (by decide), up_k _ (by decide)]; exact h6 i a b
theorem up_id {w : Mm} {c : Nat} {a i : Int} : up w c a i (w c a i) = w := by
  funext c' a' i'; simp only [up]; split
  · next e => obtain ⟨rfl, rfl, rfl⟩ := e; rfl
  · rfl
theorem LB.mks {μ : MU} {S P i p g : Int} {w : Mm} (h : LB μ S P w) (hp : -1 ≤ p ∧ p ≤ w 201 0 0) (hg : g = 0 ∨ g = 1) : LB μ S P (up (up w 202 0 i p) 203 0 i g) :=
  ⟨h.1.mks hp hg, h.2.1.cong (fun c _ _ _ _ => by rw [up_k _ (by omega), up_k _ (by omega)]) (by rw [up_k _ (by omega), up_k _ (by omega)]), h.2.2.1.cong fun i => by rw [up_k _ (by omega), up_k _ (by omega)], h.2.2.2.1.cong fun i => by rw [up_k _ (by omega), up_k _ (by omega)], h.2.2.2.2.cong (by rw [up_k _ (by omega), up_k _ (by omega)]) (by rw [up_k _ (by omega), up_k _ (by omega)])⟩
theorem LB.mkp {μ : MU} {S P k g : Int} {w : Mm} (h : LB μ S P w) (hg : g = 0 ∨ g = 1) : LB μ (S + 1) P (m_mkp μ k g w) := by
  obtain ⟨f1, f2, f3, f4, f5⟩ := h.f
  refine LB.step ?_
  exact (h.up_int (by decide)).mks (by rw [up_k _ (by decide)]; omega) hg
theorem LB.clr {μ : MU} {S P k : Int} {w : Mm} (h : LB μ S P w) (hk : 0 ≤ k ∧ k ≤ 5) : LB μ (S + 1) P (m_clr μ k w).2 := by
  obtain ⟨f1, f2, f3, f4, f5⟩ := h.f
  unfold m_clr
  split
  · exact h.mono (by omega) (by omega)
  · refine LB.step ?_
    have h1 := (h.up_int (c := 136) (a := μ.1) (i := 0) (v := w 202 0 k) (by decide)).mks (i := k) (p := -1) (g := w 203 0 k) (by rw [up_k _ (by decide)]; omega) (h.mk hk).2
    have e : up (up (up w 136 μ.1 0 (w 202 0 k)) 202 0 k (-1)) 203 0 k (w 203 0 k) = up (up w 136 μ.1 0 (w 202 0 k)) 202 0 k (-1) := by
      have := up_id (w := up (up w 136 μ.1 0 (w 202 0 k)) 202 0 k (-1)) (c := 203) (a := 0) (i := k)
      rw [up_k _ (show (203 : Nat) ≠ 202 by decide), up_k _ (show (203 : Nat) ≠ 136 by decide)] at this
      exact this
    rw [e] at h1
    exact h1
theorem LB.nar {μ : MU} {S P k : Int} {w : Mm} (h : LB μ S P w) : LB μ S P (m_nar μ k w).2 := by
  obtain ⟨f1, f2, f3, f4, f5⟩ := h.f
  unfold m_nar
  split
  · exact h
  · next hin =>
    split
    · exact h
    · next h4 =>
      unfold m_nar1
      refine LB.up_int ?_ (by decide)
      obtain ⟨h1, ⟨v1, v2, v3, v4⟩, h3⟩ := h
      have hin : w 202 0 k ≠ -1 ∧ m_vF w ≤ w 202 0 k ∧ w 202 0 k ≤ m_vT w := Classical.not_not.mp hin
      have hlo : m_vF w ≤ (if w 202 0 k < w 207 0 0 then w 202 0 k else w 207 0 0) ∧ (if w 202 0 k < w 207 0 0 then w 202 0 k else w 207 0 0) ≤ w 207 0 0 ∧ 0 ≤ (if w 202 0 k < w 207 0 0 then w 202 0 k else w 207 0 0) := by split <;> omega
      have hhi : w 207 0 0 ≤ (if w 202 0 k < w 207 0 0 then w 207 0 0 else w 202 0 k) ∧ (if w 202 0 k < w 207 0 0 then w 207 0 0 else w 202 0 k) ≤ m_vT w := by split <;> omega
      generalize (if w 202 0 k < w 207 0 0 then w 202 0 k else w 207 0 0) = lo at hlo ⊢
      generalize (if w 202 0 k < w 207 0 0 then w 207 0 0 else w 202 0 k) = hi at hhi ⊢
      unfold m_vF m_vT at *
      have e : ∀ c a i, c < 208 ∨ 210 < c → up (up (up w 208 0 (w 210 0 0) lo) 209 0 (w 210 0 0) hi) 210 0 0 (w 210 0 0 + 1) c a i = w c a i := fun c a i hc => by rw [up_k _ (by omega), up_k _ (by omega), up_k _ (by omega)]
      have e8 : ∀ i, up (up (up w 208 0 (w 210 0 0) lo) 209 0 (w 210 0 0) hi) 210 0 0 (w 210 0 0 + 1) 208 0 i = if i = w 210 0 0 then lo else w 208 0 i := fun i => by
        rw [up_k _ (by decide), up_k _ (by decide)]; simp only [up]; grind
      have e9 : ∀ i, up (up (up w 208 0 (w 210 0 0) lo) 209 0 (w 210 0 0) hi) 210 0 0 (w 210 0 0 + 1) 209 0 i = if i = w 210 0 0 then hi else w 209 0 i := fun i => by
        rw [up_k _ (by decide)]; simp only [up]; grind
      have e0 : up (up (up w 208 0 (w 210 0 0) lo) 209 0 (w 210 0 0) hi) 210 0 0 (w 210 0 0 + 1) 210 0 0 = w 210 0 0 + 1 := up_s _ _ _ _ _
      generalize up (up (up w 208 0 (w 210 0 0) lo) 209 0 (w 210 0 0) hi) 210 0 0 (w 210 0 0 + 1) = w1 at e e8 e9 e0 ⊢
      have eV : ∀ i, w 210 0 0 ≠ 0 → i = w 210 0 0 - 1 → w 208 0 i ≤ lo ∧ hi ≤ w 209 0 i := fun i x y => by
        subst y; rw [if_neg x] at hlo hhi; exact ⟨hlo.1, hhi.2⟩
      refine ⟨h1.cong fun c _ _ _ _ => e _ _ _ (by omega), ⟨?_, fun i a b => ?_, fun i a b => ?_, ?_⟩, h3.1.cong fun i => e _ _ _ (by omega), h3.2.1.cong fun i => e _ _ _ (by omega), h3.2.2.cong (e _ _ _ (by omega)) (e _ _ _ (by omega))⟩
      · unfold bV; rw [e0]; omega
      · rw [e8, e9]
        have := v2 i a b
        refine ⟨by split <;> omega, by split <;> omega⟩
      · rw [e0] at b
        rw [e0, e8, e9, e8, e9, e 201 _ _ (by omega)]
        by_cases c1 : i = w 210 0 0
        · rw [if_pos c1, if_pos c1]
          refine ⟨by omega, by omega, fun x => by omega⟩
        · rw [if_neg c1, if_neg c1]
          have h6 := v3 i a (by omega)
          refine ⟨h6.1, h6.2.1, fun x => ?_⟩
          by_cases c2 : i + 1 = w 210 0 0
          · rw [if_pos c2, if_pos c2]; have := eV i (by omega) (by omega); omega
          · rw [if_neg c2, if_neg c2]; exact h6.2.2 (by omega)
      · unfold bP
        rw [e0, e 207 _ _ (by omega), e8, e9]
        refine ⟨fun x => by omega, fun _ => ?_⟩
        rw [if_pos (by omega), if_pos (by omega)]
        omega
theorem LB.more {μ : MU} {S P c a b : Int} {w : Mm} (h : LB μ S P w) (hv : CV c a b) (hl : ¬ m_lack c a b w) : LB μ (S + 2) (P + 20) (m_more μ c a b w).2 := by
  unfold CV at hv
  unfold m_lack m_many at hl
  unfold m_more
  split
  · exact h.sea.mono (by omega) (by omega)
  · split
    · rw [if_neg (by omega), if_neg (by omega)] at hl; exact h.kil (by omega) (by omega)
    · split
      · exact (h.puts (by omega)).mono (by omega) (by omega)
      · split
        · exact h.rots.mono (by omega) (by omega)
        · split
          · rw [if_pos (by omega)] at hl; exact (h.cop (by omega) (by omega) (by omega)).mono (by omega) (by omega)
          · split
            · exact (h.puts (by omega)).mono (by omega) (by omega)
            · split
              · exact (h.mkp (by omega)).mono (by omega) (by omega)
              · split
                · exact (h.clr (by omega)).mono (by omega) (by omega)
                · exact h.nar.mono (by omega) (by omega)
theorem LB.buf0 {μ : MU} {S P a : Int} {w : Mm} (h : LB μ S P w) (ha : 0 ≤ a ∧ a ≤ 126) : LB μ S P (up w 240 0 0 a) := by
  rw [up_fl1]
  exact h.store h.1.f240 (h.2.2.1.ld fun _ _ _ => ha) fun c a i _ hc => fl_at hc
theorem LB.insC {μ : MU} {S P a : Int} {w : Mm} (h : LB μ S P w) (ha : 0 ≤ a ∧ a ≤ 126) (hl : w 201 0 0 ≠ 400) : LB μ (S + 1) (P + 1) (m_insC μ a w) := by
  have h1 := h.buf0 ha
  obtain ⟨f1, f2, f3, f4, f5⟩ := h1.f
  have e1 : up w 240 0 0 a 201 0 0 = w 201 0 0 := up_k _ (by decide) _ _ _ _ _
  have e2 : up w 240 0 0 a 207 0 0 = w 207 0 0 := up_k _ (by decide) _ _ _ _ _
  have h2 := h1.ins (k := 1) (by omega)
  rw [e2] at h2
  refine h2.pts ?_
  rw [ins_vT f2 (by omega), ins_at (by decide), if_pos (by omega)]
  omega
theorem LB.ovr {μ : MU} {S P a : Int} {w : Mm} (h : LB μ S P w) (ha : 0 ≤ a ∧ a ≤ 126) (hl : w 207 0 0 + 1 ≤ m_vT w) : LB μ (S + 1) P (m_ovr μ a w) := by
  obtain ⟨f1, f2, f3, f4, f5⟩ := h.f
  have h1 : LB μ (S + 1) P (m_ovrA μ a w) := (h.up_int (by decide)).rep ha
  have e0 : m_ovrA μ a w 207 0 0 = w 207 0 0 := by unfold m_ovrA; rw [rep_at (by decide), up_k _ (by decide)]
  have e : ∀ c x i, 207 ≤ c → c ≤ 210 → m_ovrA μ a w c x i = w c x i := fun c x i _ _ => by unfold m_ovrA; rw [rep_at (by omega), up_k _ (by omega)]
  have e1 : m_vF (m_ovrA μ a w) = m_vF w := vF_cong e
  have e2 : m_vT (m_ovrA μ a w) = m_vT w := vT_cong e (by unfold m_ovrA; rw [rep_at (by decide), up_k _ (by decide)])
  exact h1.w.pt (by omega)
theorem LB.does {μ : MU} {S P c a b : Int} {w : Mm} (h : LB μ S P w) (hv : CV c a b) : LB μ (S + 2) (P + 20) (m_does μ c a b w).2 := by
  obtain ⟨f1, f2, f3, f4, f5⟩ := h.f
  unfold m_does
  split
  · exact h.mono (by omega) (by omega)
  · next hl =>
    have hv' := hv
    unfold CV at hv'
    split
    · split
      · exact h.mono (by omega) (by omega)
      · exact (h.insC (by omega) (by omega)).mono (by omega) (by omega)
    · split
      · unfold m_lack m_many at hl
        rw [if_neg (by omega), if_pos (by omega)] at hl
        exact (h.ovr (by omega) (by omega)).mono (by omega) (by omega)
      · split
        · unfold m_lack m_many at hl
          rw [if_neg (by omega), if_neg (by omega)] at hl
          exact ((h.del (by omega)).up_int (by decide)).mono (by omega) (by omega)
        · split
          · split
            · next hi => exact ((h.w.pt hi).up_int (by decide)).mono (by omega) (by omega)
            · exact h.mono (by omega) (by omega)
          · split
            · split
              · next hi => exact ((h.w.pt hi.2).up_int (by decide)).mono (by omega) (by omega)
              · exact h.mono (by omega) (by omega)
            · split
              · split
                · exact h.mono (by omega) (by omega)
                · next h0 =>
                  refine LB.mono (S := S) (P := P) (LB.up_int ?_ (by decide)) (by omega) (by omega)
                  obtain ⟨h1, ⟨v1, v2, v3, v4⟩, h3, h4, h5⟩ := h
                  have e : ∀ c a i, c ≠ 210 → up w 210 0 0 (w 210 0 0 - 1) c a i = w c a i := fun c a i hc => up_k _ hc _ _ _ _ _
                  have e0 : up w 210 0 0 (w 210 0 0 - 1) 210 0 0 = w 210 0 0 - 1 := up_s _ _ _ _ _
                  generalize up w 210 0 0 (w 210 0 0 - 1) = w1 at e e0 ⊢
                  refine ⟨h1.cong fun c _ _ _ _ => e _ _ _ (by omega), ⟨?_, fun i a b => ?_, fun i a b => ?_, ?_⟩, h3.cong fun i => e _ _ _ (by omega), h4.cong fun i => e _ _ _ (by omega), h5.cong (e _ _ _ (by omega)) (e _ _ _ (by omega))⟩
                  · unfold bV; rw [e0]; omega
                  · rw [e _ _ _ (by omega), e _ _ _ (by omega)]; exact v2 i a b
                  · rw [e0] at b
                    rw [e0, e _ _ _ (by omega), e _ _ _ (by omega), e _ _ _ (by omega), e _ _ _ (by omega), e _ _ _ (by omega)]
                    have := v3 i a (by omega)
                    exact ⟨this.1, this.2.1, fun x => this.2.2 (by omega)⟩
                  · unfold bP at v4 ⊢
                    rw [e0, e _ _ _ (by omega), e _ _ _ (by omega), e _ _ _ (by omega), e _ _ _ (by omega)]
                    have h6 := v4.2 h0
                    have h7 := v3 (w 210 0 0 - 1) (by omega) (by omega)
                    rw [show 4 * (0 : Int) + w 210 0 0 - 1 = w 210 0 0 - 1 by omega] at h6
                    refine ⟨fun x => by omega, fun x => ?_⟩
                    have h8 := (v3 (w 210 0 0 - 2) (by omega) (by omega)).2.2 (by omega)
                    rw [show w 210 0 0 - 2 + 1 = w 210 0 0 - 1 by omega] at h8
                    rw [show 4 * (0 : Int) + (w 210 0 0 - 1) - 1 = w 210 0 0 - 2 by omega]
                    omega
              · exact h.more hv hl
def m_rec1 (c a b : Int) (w : Mm) : Mm := up (up (up (up w 235 0 (192 + 3 * w 236 0 4) c) 235 0 (192 + 3 * w 236 0 4 + 1) a) 235 0 (192 + 3 * w 236 0 4 + 2) b) 236 0 4 (w 236 0 4 + 1)
def m_rec (μ : MU) (c a b : Int) (w : Mm) : Mm := if w 133 μ.1 0 ≠ -1 then m_rec1 c a b w else w
