/-- a command's arguments, as calls let them in -/
def CV (c a b : Int) : Prop := (0 ≤ c ∧ c ≤ 16) ∧ (-50 ≤ a ∧ a ≤ 126) ∧ (0 ≤ b ∧ b ≤ 20) ∧ (c = 0 ∨ c = 1 ∨ c = 4 → 0 ≤ a ∧ a ≤ 126) ∧ (c = 2 ∨ c = 5 → 1 ≤ a ∧ a ≤ 20) ∧ (c = 3 → -50 ≤ a ∧ a ≤ 50) ∧ (c = 8 ∨ c = 9 ∨ c = 15 → 0 ≤ a ∧ a ≤ 3) ∧ (c = 8 → 1 ≤ b ∧ b ≤ 20) ∧ (10 ≤ c ∧ c ≤ 13 → 0 ≤ a ∧ a ≤ 5) ∧ (c = 10 → b = 0 ∨ b = 1) ∧ (c = 15 → 1 ≤ b ∧ b ≤ 10)
def m_more (μ : MU) (c a b : Int) (w : Mm) : Int × Mm := if c = 4 then m_sea μ a w else if c = 5 then (0, m_kil μ a w) else if c = 6 then m_puts μ 4 w else if c = 7 then m_rots μ w else if c = 8 then (0, m_cop μ a b w) else if c = 9 then m_puts μ a w else if c = 10 then (0, m_mkp μ a b w) else if c = 11 then m_clr μ a w else m_nar μ a w
def m_many (c a b : Int) : Int := if c = 8 then b else if c = 1 then 1 else a
abbrev m_lack (c a b : Int) (w : Mm) : Prop := (c = 2 ∨ c = 5 ∨ c = 8 ∨ c = 1) ∧ w 207 0 0 + m_many c a b > m_vT w
def m_insC (μ : MU) (a : Int) (w : Mm) : Mm := m_pt μ 1 (m_ins μ (w 207 0 0) 1 (up w 240 0 0 a))
def m_ovrA (μ : MU) (a : Int) (w : Mm) : Mm := m_rep μ (w 207 0 0) a (up w 136 μ.1 0 (w 200 0 (w 207 0 0)))
def m_ovr (μ : MU) (a : Int) (w : Mm) : Mm := up (m_ovrA μ a w) 207 0 0 (m_ovrA μ a w 207 0 0 + 1)
def m_delC (μ : MU) (a : Int) (w : Mm) : Mm := up (m_del μ (w 207 0 0) a w) 136 μ.1 0 (m_del μ (w 207 0 0) a w 201 0 0)
def m_goto (μ : MU) (p : Int) (w : Mm) : Mm := up (up w 207 0 0 p) 136 μ.1 0 p
def m_wid (μ : MU) (w : Mm) : Mm := up (up w 210 0 0 (w 210 0 0 - 1)) 136 μ.1 0 (w 210 0 0 - 1)
def m_does (μ : MU) (c a b : Int) (w : Mm) : Int × Mm :=
  if m_lack c a b w then (1, w) else if c = 0 then (if w 201 0 0 = 400 then (5, w) else (0, m_insC μ a w)) else if c = 1 then (0, m_ovr μ a w) else if c = 2 then (0, m_delC μ a w)
  else if c = 3 then (if m_iV (w 207 0 0 + a) w then (0, m_goto μ (w 207 0 0 + a) w) else (1, w)) else if c = 12 then (if w 202 0 a ≠ -1 ∧ m_iV (w 202 0 a) w then (0, m_goto μ (w 202 0 a) w) else (3, w))
  else if c = 14 then (if w 210 0 0 = 0 then (6, w) else (0, m_wid μ w)) else m_more μ c a b w
theorem LB.sea {μ : MU} {S P c : Int} {w : Mm} (h : LB μ S P w) : LB μ S P (m_sea μ c w).2 := by
  obtain ⟨f1, f2, f3, f4, f5⟩ := h.f
  have := fnd_spec (fun i => w 200 0 i) c (m_vT w - w 207 0 0).toNat (w 207 0 0)
  unfold m_sea m_sea2
  split
  · exact h
  · exact (h.w.pt (by omega)).up_int (by decide)
theorem SB.mks {s i p g : Int} {w : Mm} (h : SB s w) (hp : -1 ≤ p ∧ p ≤ w 201 0 s) (hg : g = 0 ∨ g = 1) : SB s (up (up w 202 0 i p) 203 0 i g) := by
  obtain ⟨h1, h2, h3, h4, h5, h6⟩ := h
  refine ⟨?_, fun i a b => ?_, fun j a b => ?_, fun i a b => ?_, fun i a b => ?_, fun i a b => ?_⟩
  · unfold bL1; rw [up_k _ (by decide), up_k _ (by decide)]; exact h1
  · rw [up_k _ (by decide), up_k _ (by decide)]; exact h2 i a b
  · rw [up_k _ (show (202 : Nat) ≠ 203 by decide), up_k _ (show (201 : Nat) ≠ 203 by decide), up_k _ (show (201 : Nat) ≠ 202 by decide)]
    have := h3 j a b
    refine ⟨?_, ?_⟩
    · simp only [up]; split <;> omega
    · simp only [up]; split
      · exact hg
      · rw [if_neg (by omega)]; exact this.2
  · rw [up_k _ (by decide), up_k _ (by decide)]; exact h4 i a b
  · rw [up_k _ (by decide), up_k _ (by decide)]; exact h5 i a b
  · rw [up_k _ (by decide), up_k _ (by decide)]; exact h6 i a b
theorem up_id {w : Mm} {c : Nat} {a i : Int} : up w c a i (w c a i) = w := by
  funext c' a' i'; simp only [up]; split
  · next e => obtain ⟨rfl, rfl, rfl⟩ := e; rfl
  · rfl
theorem LB.mks {μ : MU} {S P i p g : Int} {w : Mm} (h : LB μ S P w) (hp : -1 ≤ p ∧ p ≤ w 201 0 0) (hg : g = 0 ∨ g = 1) : LB μ S P (up (up w 202 0 i p) 203 0 i g) :=
  ⟨h.1.mks hp hg, h.2.1.cong (fun c _ _ _ _ => by rw [up_k _ (by omega), up_k _ (by omega)]) (by rw [up_k _ (by omega), up_k _ (by omega)]), h.2.2.1.cong fun i => by rw [up_k _ (by omega), up_k _ (by omega)], h.2.2.2.1.cong fun i => by rw [up_k _ (by omega), up_k _ (by omega)], h.2.2.2.2.cong (by rw [up_k _ (by omega), up_k _ (by omega)]) (by rw [up_k _ (by omega), up_k _ (by omega)])⟩
theorem LB.mkp {μ : MU} {S P k g : Int} {w : Mm} (h : LB μ S P w) (hg : g = 0 ∨ g = 1) : LB μ (S + 1) P (m_mkp μ k g w) := by
  obtain ⟨f1, f2, f3, f4, f5⟩ := h.f
  refine LB.step ?_
  exact (h.up_int (by decide)).mks (by rw [up_k _ (by decide)]; omega) hg
theorem LB.clr {μ : MU} {S P k : Int} {w : Mm} (h : LB μ S P w) (hk : 0 ≤ k ∧ k ≤ 5) : LB μ (S + 1) P (m_clr μ k w).2 := by
  obtain ⟨f1, f2, f3, f4, f5⟩ := h.f
  unfold m_clr
  split
  · exact h.mono (by omega) (by omega)
  · refine LB.step ?_
    have h1 := (h.up_int (c := 136) (a := μ.1) (i := 0) (v := w 202 0 k) (by decide)).mks (i := k) (p := -1) (g := w 203 0 k) (by rw [up_k _ (by decide)]; omega) (h.mk hk).2
    have e : up (up (up w 136 μ.1 0 (w 202 0 k)) 202 0 k (-1)) 203 0 k (w 203 0 k) = up (up w 136 μ.1 0 (w 202 0 k)) 202 0 k (-1) := by
      have := up_id (w := up (up w 136 μ.1 0 (w 202 0 k)) 202 0 k (-1)) (c := 203) (a := 0) (i := k)
      rw [up_k _ (show (203 : Nat) ≠ 202 by decide), up_k _ (show (203 : Nat) ≠ 136 by decide)] at this
      exact this
    rw [e] at h1
    exact h1
theorem LB.nar {μ : MU} {S P k : Int} {w : Mm} (h : LB μ S P w) : LB μ S P (m_nar μ k w).2 := by
  obtain ⟨f1, f2, f3, f4, f5⟩ := h.f
  unfold m_nar
  split
  · exact h
  · next hin =>
    split
    · exact h
    · next h4 =>
      unfold m_nar1
      refine LB.up_int ?_ (by decide)
      obtain ⟨h1, ⟨v1, v2, v3, v4⟩, h3⟩ := h
      have hin : w 202 0 k ≠ -1 ∧ m_vF w ≤ w 202 0 k ∧ w 202 0 k ≤ m_vT w := Classical.not_not.mp hin
      have hlo : m_vF w ≤ (if w 202 0 k < w 207 0 0 then w 202 0 k else w 207 0 0) ∧ (if w 202 0 k < w 207 0 0 then w 202 0 k else w 207 0 0) ≤ w 207 0 0 ∧ 0 ≤ (if w 202 0 k < w 207 0 0 then w 202 0 k else w 207 0 0) := by split <;> omega
      have hhi : w 207 0 0 ≤ (if w 202 0 k < w 207 0 0 then w 207 0 0 else w 202 0 k) ∧ (if w 202 0 k < w 207 0 0 then w 207 0 0 else w 202 0 k) ≤ m_vT w := by split <;> omega
      generalize (if w 202 0 k < w 207 0 0 then w 202 0 k else w 207 0 0) = lo at hlo ⊢
      generalize (if w 202 0 k < w 207 0 0 then w 207 0 0 else w 202 0 k) = hi at hhi ⊢
      unfold m_vF m_vT at *
      have e : ∀ c a i, c < 208 ∨ 210 < c → up (up (up w 208 0 (w 210 0 0) lo) 209 0 (w 210 0 0) hi) 210 0 0 (w 210 0 0 + 1) c a i = w c a i := fun c a i hc => by rw [up_k _ (by omega), up_k _ (by omega), up_k _ (by omega)]
      have e8 : ∀ i, up (up (up w 208 0 (w 210 0 0) lo) 209 0 (w 210 0 0) hi) 210 0 0 (w 210 0 0 + 1) 208 0 i = if i = w 210 0 0 then lo else w 208 0 i := fun i => by
        rw [up_k _ (by decide), up_k _ (by decide)]; simp only [up]; grind
      have e9 : ∀ i, up (up (up w 208 0 (w 210 0 0) lo) 209 0 (w 210 0 0) hi) 210 0 0 (w 210 0 0 + 1) 209 0 i = if i = w 210 0 0 then hi else w 209 0 i := fun i => by
        rw [up_k _ (by decide)]; simp only [up]; grind
      have e0 : up (up (up w 208 0 (w 210 0 0) lo) 209 0 (w 210 0 0) hi) 210 0 0 (w 210 0 0 + 1) 210 0 0 = w 210 0 0 + 1 := up_s _ _ _ _ _
      generalize up (up (up w 208 0 (w 210 0 0) lo) 209 0 (w 210 0 0) hi) 210 0 0 (w 210 0 0 + 1) = w1 at e e8 e9 e0 ⊢
      have eV : ∀ i, w 210 0 0 ≠ 0 → i = w 210 0 0 - 1 → w 208 0 i ≤ lo ∧ hi ≤ w 209 0 i := fun i x y => by
        subst y; rw [if_neg x] at hlo hhi; exact ⟨hlo.1, hhi.2⟩
      refine ⟨h1.cong fun c _ _ _ _ => e _ _ _ (by omega), ⟨?_, fun i a b => ?_, fun i a b => ?_, ?_⟩, h3.1.cong fun i => e _ _ _ (by omega), h3.2.1.cong fun i => e _ _ _ (by omega), h3.2.2.cong (e _ _ _ (by omega)) (e _ _ _ (by omega))⟩
      · unfold bV; rw [e0]; omega
      · rw [e8, e9]
        have := v2 i a b
        refine ⟨by split <;> omega, by split <;> omega⟩
      · rw [e0] at b
        rw [e0, e8, e9, e8, e9, e 201 _ _ (by omega)]
        by_cases c1 : i = w 210 0 0
        · rw [if_pos c1, if_pos c1]
          refine ⟨by omega, by omega, fun x => by omega⟩
        · rw [if_neg c1, if_neg c1]
          have h6 := v3 i a (by omega)
          refine ⟨h6.1, h6.2.1, fun x => ?_⟩
          by_cases c2 : i + 1 = w 210 0 0
          · rw [if_pos c2, if_pos c2]; have := eV i (by omega) (by omega); omega
          · rw [if_neg c2, if_neg c2]; exact h6.2.2 (by omega)
      · unfold bP
        rw [e0, e 207 _ _ (by omega), e8, e9]
        refine ⟨fun x => by omega, fun _ => ?_⟩
        rw [if_pos (by omega), if_pos (by omega)]
        omega
theorem LB.more {μ : MU} {S P c a b : Int} {w : Mm} (h : LB μ S P w) (hv : CV c a b) (hl : ¬ m_lack c a b w) : LB μ (S + 2) (P + 20) (m_more μ c a b w).2 := by
  unfold CV at hv
  unfold m_lack m_many at hl
  unfold m_more
  split
  · exact h.sea.mono (by omega) (by omega)
  · split
    · rw [if_neg (by omega), if_neg (by omega)] at hl; exact h.kil (by omega) (by omega)
    · split
      · exact (h.puts (by omega)).mono (by omega) (by omega)
      · split
        · exact h.rots.mono (by omega) (by omega)
        · split
          · rw [if_pos (by omega)] at hl; exact (h.cop (by omega) (by omega) (by omega)).mono (by omega) (by omega)
          · split
            · exact (h.puts (by omega)).mono (by omega) (by omega)
            · split
              · exact (h.mkp (by omega)).mono (by omega) (by omega)
              · split
                · exact (h.clr (by omega)).mono (by omega) (by omega)
                · exact h.nar.mono (by omega) (by omega)
theorem LB.buf0 {μ : MU} {S P a : Int} {w : Mm} (h : LB μ S P w) (ha : 0 ≤ a ∧ a ≤ 126) : LB μ S P (up w 240 0 0 a) := by
  rw [up_fl1]
  exact h.store h.1.f240 (h.2.2.1.ld fun _ _ _ => ha) fun c a i _ hc => fl_at hc
theorem LB.insC {μ : MU} {S P a : Int} {w : Mm} (h : LB μ S P w) (ha : 0 ≤ a ∧ a ≤ 126) (hl : w 201 0 0 ≠ 400) : LB μ (S + 1) (P + 1) (m_insC μ a w) := by
  have h1 := h.buf0 ha
  obtain ⟨f1, f2, f3, f4, f5⟩ := h1.f
  have e1 : up w 240 0 0 a 201 0 0 = w 201 0 0 := up_k _ (by decide) _ _ _ _ _
  have e2 : up w 240 0 0 a 207 0 0 = w 207 0 0 := up_k _ (by decide) _ _ _ _ _
  have h2 := h1.ins (k := 1) (by omega)
  rw [e2] at h2
  refine h2.pts ?_
  rw [ins_vT f2 (by omega), ins_at (by decide), if_pos (by omega)]
  omega
theorem LB.ovr {μ : MU} {S P a : Int} {w : Mm} (h : LB μ S P w) (ha : 0 ≤ a ∧ a ≤ 126) (hl : w 207 0 0 + 1 ≤ m_vT w) : LB μ (S + 1) P (m_ovr μ a w) := by
  obtain ⟨f1, f2, f3, f4, f5⟩ := h.f
  have h1 : LB μ (S + 1) P (m_ovrA μ a w) := (h.up_int (by decide)).rep ha
  have e0 : m_ovrA μ a w 207 0 0 = w 207 0 0 := by unfold m_ovrA; rw [rep_at (by decide), up_k _ (by decide)]
  have e : ∀ c x i, 207 ≤ c → c ≤ 210 → m_ovrA μ a w c x i = w c x i := fun c x i _ _ => by unfold m_ovrA; rw [rep_at (by omega), up_k _ (by omega)]
  have e1 : m_vF (m_ovrA μ a w) = m_vF w := vF_cong e
  have e2 : m_vT (m_ovrA μ a w) = m_vT w := vT_cong e (by unfold m_ovrA; rw [rep_at (by decide), up_k _ (by decide)])
  exact h1.w.pt (by omega)
theorem LB.does {μ : MU} {S P c a b : Int} {w : Mm} (h : LB μ S P w) (hv : CV c a b) : LB μ (S + 2) (P + 20) (m_does μ c a b w).2 := by
  obtain ⟨f1, f2, f3, f4, f5⟩ := h.f
  unfold m_does
  split
  · exact h.mono (by omega) (by omega)
  · next hl =>
    have hv' := hv
    unfold CV at hv'
    split
    · split
      · exact h.mono (by omega) (by omega)
      · exact (h.insC (by omega) (by omega)).mono (by omega) (by omega)
    · split
      · unfold m_lack m_many at hl
        rw [if_neg (by omega), if_pos (by omega)] at hl
        exact (h.ovr (by omega) (by omega)).mono (by omega) (by omega)
      · split
        · unfold m_lack m_many at hl
          rw [if_neg (by omega), if_neg (by omega)] at hl
          exact ((h.del (by omega)).up_int (by decide)).mono (by omega) (by omega)
        · split
          · split
            · next hi => exact ((h.w.pt hi).up_int (by decide)).mono (by omega) (by omega)
            · exact h.mono (by omega) (by omega)
          · split
            · split
              · next hi => exact ((h.w.pt hi.2).up_int (by decide)).mono (by omega) (by omega)
              · exact h.mono (by omega) (by omega)
            · split
              · split
                · exact h.mono (by omega) (by omega)
                · next h0 =>
                  refine LB.mono (S := S) (P := P) (LB.up_int ?_ (by decide)) (by omega) (by omega)
                  obtain ⟨h1, ⟨v1, v2, v3, v4⟩, h3, h4, h5⟩ := h
                  have e : ∀ c a i, c ≠ 210 → up w 210 0 0 (w 210 0 0 - 1) c a i = w c a i := fun c a i hc => up_k _ hc _ _ _ _ _
                  have e0 : up w 210 0 0 (w 210 0 0 - 1) 210 0 0 = w 210 0 0 - 1 := up_s _ _ _ _ _
                  generalize up w 210 0 0 (w 210 0 0 - 1) = w1 at e e0 ⊢
                  refine ⟨h1.cong fun c _ _ _ _ => e _ _ _ (by omega), ⟨?_, fun i a b => ?_, fun i a b => ?_, ?_⟩, h3.cong fun i => e _ _ _ (by omega), h4.cong fun i => e _ _ _ (by omega), h5.cong (e _ _ _ (by omega)) (e _ _ _ (by omega))⟩
                  · unfold bV; rw [e0]; omega
                  · rw [e _ _ _ (by omega), e _ _ _ (by omega)]; exact v2 i a b
                  · rw [e0] at b
                    rw [e0, e _ _ _ (by omega), e _ _ _ (by omega), e _ _ _ (by omega), e _ _ _ (by omega), e _ _ _ (by omega)]
                    have := v3 i a (by omega)
                    exact ⟨this.1, this.2.1, fun x => this.2.2 (by omega)⟩
                  · unfold bP at v4 ⊢
                    rw [e0, e _ _ _ (by omega), e _ _ _ (by omega), e _ _ _ (by omega), e _ _ _ (by omega)]
                    have h6 := v4.2 h0
                    have h7 := v3 (w 210 0 0 - 1) (by omega) (by omega)
                    rw [show 4 * (0 : Int) + w 210 0 0 - 1 = w 210 0 0 - 1 by omega] at h6
                    refine ⟨fun x => by omega, fun x => ?_⟩
                    have h8 := (v3 (w 210 0 0 - 2) (by omega) (by omega)).2.2 (by omega)
                    rw [show w 210 0 0 - 2 + 1 = w 210 0 0 - 1 by omega] at h8
                    rw [show 4 * (0 : Int) + (w 210 0 0 - 1) - 1 = w 210 0 0 - 2 by omega]
                    omega
              · exact h.more hv hl
theorem dX13_doesMore_0 : decode cX13_doesMore 0 = .ok (.iload_n 1, 1) := by decide +kernel
theorem dX13_doesMore_1 : decode cX13_doesMore 1 = .ok (.iconst 4, 1) := by decide +kernel
theorem dX13_doesMore_2 : decode cX13_doesMore 2 = .ok (.if_icmp .ne 11, 3) := by decide +kernel
theorem dX13_doesMore_5 : decode cX13_doesMore 5 = .ok (.aload_n 0, 1) := by decide +kernel
theorem dX13_doesMore_6 : decode cX13_doesMore 6 = .ok (.iload_n 2, 1) := by decide +kernel
theorem dX13_doesMore_7 : decode cX13_doesMore 7 = .ok (.invokevirtual 319, 3) := by decide +kernel
theorem dX13_doesMore_10 : decode cX13_doesMore 10 = .ok (.goto 106, 3) := by decide +kernel
theorem dX13_doesMore_13 : decode cX13_doesMore 13 = .ok (.iload_n 1, 1) := by decide +kernel
theorem dX13_doesMore_14 : decode cX13_doesMore 14 = .ok (.iconst 5, 1) := by decide +kernel
theorem dX13_doesMore_15 : decode cX13_doesMore 15 = .ok (.if_icmp .ne 11, 3) := by decide +kernel
theorem dX13_doesMore_18 : decode cX13_doesMore 18 = .ok (.aload_n 0, 1) := by decide +kernel
theorem dX13_doesMore_19 : decode cX13_doesMore 19 = .ok (.iload_n 2, 1) := by decide +kernel
theorem dX13_doesMore_20 : decode cX13_doesMore 20 = .ok (.invokevirtual 322, 3) := by decide +kernel
theorem dX13_doesMore_23 : decode cX13_doesMore 23 = .ok (.goto 93, 3) := by decide +kernel
theorem dX13_doesMore_26 : decode cX13_doesMore 26 = .ok (.iload_n 1, 1) := by decide +kernel
theorem dX13_doesMore_27 : decode cX13_doesMore 27 = .ok (.bipush 6, 2) := by decide +kernel
theorem dX13_doesMore_29 : decode cX13_doesMore 29 = .ok (.if_icmp .ne 11, 3) := by decide +kernel
theorem dX13_doesMore_32 : decode cX13_doesMore 32 = .ok (.aload_n 0, 1) := by decide +kernel
theorem dX13_doesMore_33 : decode cX13_doesMore 33 = .ok (.iconst 4, 1) := by decide +kernel
theorem dX13_doesMore_34 : decode cX13_doesMore 34 = .ok (.invokevirtual 325, 3) := by decide +kernel
theorem dX13_doesMore_37 : decode cX13_doesMore 37 = .ok (.goto 79, 3) := by decide +kernel
theorem dX13_doesMore_40 : decode cX13_doesMore 40 = .ok (.iload_n 1, 1) := by decide +kernel
theorem dX13_doesMore_41 : decode cX13_doesMore 41 = .ok (.bipush 7, 2) := by decide +kernel
theorem dX13_doesMore_43 : decode cX13_doesMore 43 = .ok (.if_icmp .ne 10, 3) := by decide +kernel
theorem dX13_doesMore_46 : decode cX13_doesMore 46 = .ok (.aload_n 0, 1) := by decide +kernel
theorem dX13_doesMore_47 : decode cX13_doesMore 47 = .ok (.invokevirtual 328, 3) := by decide +kernel
theorem dX13_doesMore_50 : decode cX13_doesMore 50 = .ok (.goto 66, 3) := by decide +kernel
theorem dX13_doesMore_53 : decode cX13_doesMore 53 = .ok (.iload_n 1, 1) := by decide +kernel
theorem dX13_doesMore_54 : decode cX13_doesMore 54 = .ok (.bipush 8, 2) := by decide +kernel
theorem dX13_doesMore_56 : decode cX13_doesMore 56 = .ok (.if_icmp .ne 12, 3) := by decide +kernel
theorem dX13_doesMore_59 : decode cX13_doesMore 59 = .ok (.aload_n 0, 1) := by decide +kernel
theorem dX13_doesMore_60 : decode cX13_doesMore 60 = .ok (.iload_n 2, 1) := by decide +kernel
theorem dX13_doesMore_61 : decode cX13_doesMore 61 = .ok (.iload_n 3, 1) := by decide +kernel
theorem dX13_doesMore_62 : decode cX13_doesMore 62 = .ok (.invokevirtual 331, 3) := by decide +kernel
theorem dX13_doesMore_65 : decode cX13_doesMore 65 = .ok (.goto 51, 3) := by decide +kernel
theorem dX13_doesMore_68 : decode cX13_doesMore 68 = .ok (.iload_n 1, 1) := by decide +kernel
theorem dX13_doesMore_69 : decode cX13_doesMore 69 = .ok (.bipush 9, 2) := by decide +kernel
theorem dX13_doesMore_71 : decode cX13_doesMore 71 = .ok (.if_icmp .ne 11, 3) := by decide +kernel
theorem dX13_doesMore_74 : decode cX13_doesMore 74 = .ok (.aload_n 0, 1) := by decide +kernel
theorem dX13_doesMore_75 : decode cX13_doesMore 75 = .ok (.iload_n 2, 1) := by decide +kernel
theorem dX13_doesMore_76 : decode cX13_doesMore 76 = .ok (.invokevirtual 325, 3) := by decide +kernel
theorem dX13_doesMore_79 : decode cX13_doesMore 79 = .ok (.goto 37, 3) := by decide +kernel
theorem dX13_doesMore_82 : decode cX13_doesMore 82 = .ok (.iload_n 1, 1) := by decide +kernel
theorem dX13_doesMore_83 : decode cX13_doesMore 83 = .ok (.bipush 10, 2) := by decide +kernel
theorem dX13_doesMore_85 : decode cX13_doesMore 85 = .ok (.if_icmp .ne 12, 3) := by decide +kernel
theorem dX13_doesMore_88 : decode cX13_doesMore 88 = .ok (.aload_n 0, 1) := by decide +kernel
theorem dX13_doesMore_89 : decode cX13_doesMore 89 = .ok (.iload_n 2, 1) := by decide +kernel
theorem dX13_doesMore_90 : decode cX13_doesMore 90 = .ok (.iload_n 3, 1) := by decide +kernel
theorem dX13_doesMore_91 : decode cX13_doesMore 91 = .ok (.invokevirtual 334, 3) := by decide +kernel
theorem dX13_doesMore_94 : decode cX13_doesMore 94 = .ok (.goto 22, 3) := by decide +kernel
theorem dX13_doesMore_97 : decode cX13_doesMore 97 = .ok (.iload_n 1, 1) := by decide +kernel
theorem dX13_doesMore_98 : decode cX13_doesMore 98 = .ok (.bipush 11, 2) := by decide +kernel
theorem dX13_doesMore_100 : decode cX13_doesMore 100 = .ok (.if_icmp .ne 11, 3) := by decide +kernel
theorem dX13_doesMore_103 : decode cX13_doesMore 103 = .ok (.aload_n 0, 1) := by decide +kernel
theorem dX13_doesMore_104 : decode cX13_doesMore 104 = .ok (.iload_n 2, 1) := by decide +kernel
theorem dX13_doesMore_105 : decode cX13_doesMore 105 = .ok (.invokevirtual 337, 3) := by decide +kernel
theorem dX13_doesMore_108 : decode cX13_doesMore 108 = .ok (.goto 8, 3) := by decide +kernel
theorem dX13_doesMore_111 : decode cX13_doesMore 111 = .ok (.aload_n 0, 1) := by decide +kernel
theorem dX13_doesMore_112 : decode cX13_doesMore 112 = .ok (.iload_n 2, 1) := by decide +kernel
theorem dX13_doesMore_113 : decode cX13_doesMore 113 = .ok (.invokevirtual 340, 3) := by decide +kernel
theorem dX13_doesMore_116 : decode cX13_doesMore 116 = .ok (.ireturn, 1) := by decide +kernel
set_option maxRecDepth 4000 in
theorem c_doesMore (γ : LC) (μ : MU) (w : Mm) (c a b S P : Int) (hv : CV c a b) (hl : ¬ m_lack c a b w) (hc4 : 4 ≤ c ∧ c ≤ 13 ∧ c ≠ 12) (hB : LB μ S P w) (hS : S ≤ 29900) (hP : P ≤ 524000) : CMi γ μ 4 mX13_doesMore [.int (I c), .int (I a), .int (I b)] w (fun r w' => r = (m_more μ c a b w).1 ∧ w' = (m_more μ c a b w).2) := by
  refine CMi_of rfl (by simp [rv_cat, Value.category]) rfl ?_
  rintro κ hO hF rfl hR
  have hD := hF.dp
  show X κ 0 0 w 0 [some (rv μ.1), some (.int (I c)), some (.int (I a)), some (.int (I b))] []
  obtain ⟨f1, f2, f3, f4, f5⟩ := hB.f
  have hv2 := hv
  unfold CV at hv2
  clear hv
  refine X_iload_n 1 hO dX13_doesMore_0 rfl rfl ?_
  refine X_iconst 2 hO dX13_doesMore_1 rfl ?_
  refine X_icmp_ne 5 13 hO dX13_doesMore_2 rfl rfl (by omega) (by omega) (fun hc_2 => ?_) (fun hc_2 => ?_)
  ·
    refine X_iload_n 14 hO dX13_doesMore_13 rfl rfl ?_
    refine X_iconst 15 hO dX13_doesMore_14 rfl ?_
    refine X_icmp_ne 18 26 hO dX13_doesMore_15 rfl rfl (by omega) (by omega) (fun hc_15 => ?_) (fun hc_15 => ?_)
    ·
      refine X_iload_n 27 hO dX13_doesMore_26 rfl rfl ?_
      refine X_bipush 29 hO dX13_doesMore_27 rfl (by decide) ?_
      refine X_icmp_ne 32 40 hO dX13_doesMore_29 rfl rfl (by omega) (by omega) (fun hc_29 => ?_) (fun hc_29 => ?_)
      ·
        refine X_iload_n 41 hO dX13_doesMore_40 rfl rfl ?_
        refine X_bipush 43 hO dX13_doesMore_41 rfl (by decide) ?_
        refine X_icmp_ne 46 53 hO dX13_doesMore_43 rfl rfl (by omega) (by omega) (fun hc_43 => ?_) (fun hc_43 => ?_)
        ·
          refine X_iload_n 54 hO dX13_doesMore_53 rfl rfl ?_
          refine X_bipush 56 hO dX13_doesMore_54 rfl (by decide) ?_
          refine X_icmp_ne 59 68 hO dX13_doesMore_56 rfl rfl (by omega) (by omega) (fun hc_56 => ?_) (fun hc_56 => ?_)
          ·
            refine X_iload_n 69 hO dX13_doesMore_68 rfl rfl ?_
            refine X_bipush 71 hO dX13_doesMore_69 rfl (by decide) ?_
            refine X_icmp_ne 74 82 hO dX13_doesMore_71 rfl rfl (by omega) (by omega) (fun hc_71 => ?_) (fun hc_71 => ?_)
            ·
              refine X_iload_n 83 hO dX13_doesMore_82 rfl rfl ?_
              refine X_bipush 85 hO dX13_doesMore_83 rfl (by decide) ?_
              refine X_icmp_ne 88 97 hO dX13_doesMore_85 rfl rfl (by omega) (by omega) (fun hc_85 => ?_) (fun hc_85 => ?_)
              ·
                refine X_iload_n 98 hO dX13_doesMore_97 rfl rfl ?_
                refine X_bipush 100 hO dX13_doesMore_98 rfl (by decide) ?_
                refine X_icmp_ne 103 111 hO dX13_doesMore_100 rfl rfl (by omega) (by omega) (fun hc_100 => ?_) (fun hc_100 => ?_)
                ·
                  refine X_aload_n 112 hO dX13_doesMore_111 rfl rfl ?_
                  refine X_iload_n 113 hO dX13_doesMore_112 rfl rfl ?_
                  refine XM_callVi 116 hO hD hR lX13_340 [_] rfl dX13_doesMore_113 rfl (c_narrows _ _ _ _ (by omega) (by omega)) (by decide) (by simp only [List.map_cons, List.map_nil, rv_cat]; exact Nat.le_of_ble_eq_true rfl) (fun r_113 w_113 hr_113 hp_113 hR => ?_)
                  obtain ⟨e1_113, e2_113⟩ := hp_113
                  subst e1_113
                  subst e2_113
                  exact XM_iret hO hF hR rfl (by first | exact Or.inl rfl | exact Or.inr ⟨rfl, bi_01 _⟩ | exact Or.inr ⟨rfl, by omega⟩) dX13_doesMore_116 (by first | assumption | omega) (by unfold m_more; (repeat (first | rw [if_pos (by omega)] | rw [if_neg (by omega)])); exact ⟨rfl, rfl⟩)
                ·
                  refine X_aload_n 104 hO dX13_doesMore_103 rfl rfl ?_
                  refine X_iload_n 105 hO dX13_doesMore_104 rfl rfl ?_
                  refine XM_callVi 108 hO hD hR lX13_337 [_] rfl dX13_doesMore_105 rfl (c_clears _ _ _ _ (by omega) (by omega)) (by decide) (by simp only [List.map_cons, List.map_nil, rv_cat]; exact Nat.le_of_ble_eq_true rfl) (fun r_105 w_105 hr_105 hp_105 hR => ?_)
                  obtain ⟨e1_105, e2_105⟩ := hp_105
                  subst e1_105
                  subst e2_105
                  refine X_goto hO dX13_doesMore_108 (tgt := 116) rfl ?_
                  exact XM_iret hO hF hR rfl (by first | exact Or.inl rfl | exact Or.inr ⟨rfl, bi_01 _⟩ | exact Or.inr ⟨rfl, by omega⟩) dX13_doesMore_116 (by first | assumption | omega) (by unfold m_more; (repeat (first | rw [if_pos (by omega)] | rw [if_neg (by omega)])); exact ⟨rfl, rfl⟩)
              ·
                refine X_aload_n 89 hO dX13_doesMore_88 rfl rfl ?_
                refine X_iload_n 90 hO dX13_doesMore_89 rfl rfl ?_
                refine X_iload_n 91 hO dX13_doesMore_90 rfl rfl ?_
                refine XM_callVi 94 hO hD hR lX13_334 [_, _] rfl dX13_doesMore_91 rfl (c_marksPlace _ _ _ _ _ (by omega) (by omega) (by omega) (by omega)) (by decide) (by simp only [List.map_cons, List.map_nil, rv_cat]; exact Nat.le_of_ble_eq_true rfl) (fun r_91 w_91 hr_91 hp_91 hR => ?_)
                obtain ⟨e1_91, e2_91⟩ := hp_91
                subst e1_91
                subst e2_91
                refine X_goto hO dX13_doesMore_94 (tgt := 116) rfl ?_
                exact XM_iret hO hF hR rfl (by first | exact Or.inl rfl | exact Or.inr ⟨rfl, bi_01 _⟩ | exact Or.inr ⟨rfl, by omega⟩) dX13_doesMore_116 (by first | assumption | omega) (by unfold m_more; (repeat (first | rw [if_pos (by omega)] | rw [if_neg (by omega)])); exact ⟨rfl, rfl⟩)
            ·
              refine X_aload_n 75 hO dX13_doesMore_74 rfl rfl ?_
              refine X_iload_n 76 hO dX13_doesMore_75 rfl rfl ?_
              refine XM_callVi 79 hO hD hR lX13_325 [_] rfl dX13_doesMore_76 rfl (c_puts _ _ _ _ _ _ (by omega) hB hS hP) (by decide) (by simp only [List.map_cons, List.map_nil, rv_cat]; exact Nat.le_of_ble_eq_true rfl) (fun r_76 w_76 hr_76 hp_76 hR => ?_)
              obtain ⟨e1_76, e2_76⟩ := hp_76
              subst e1_76
              subst e2_76
              refine X_goto hO dX13_doesMore_79 (tgt := 116) rfl ?_
              exact XM_iret hO hF hR rfl (by first | exact Or.inl rfl | exact Or.inr ⟨rfl, bi_01 _⟩ | exact Or.inr ⟨rfl, by omega⟩) dX13_doesMore_116 (by first | assumption | omega) (by unfold m_more; (repeat (first | rw [if_pos (by omega)] | rw [if_neg (by omega)])); exact ⟨rfl, rfl⟩)
          ·
            refine X_aload_n 60 hO dX13_doesMore_59 rfl rfl ?_
            refine X_iload_n 61 hO dX13_doesMore_60 rfl rfl ?_
            refine X_iload_n 62 hO dX13_doesMore_61 rfl rfl ?_
            refine XM_callVi 65 hO hD hR lX13_331 [_, _] rfl dX13_doesMore_62 rfl (c_copies _ _ _ _ _ _ _ (by omega) (by omega) (by unfold m_lack m_many at hl; rw [if_pos (by omega)] at hl; omega) hB hS hP) (by decide) (by simp only [List.map_cons, List.map_nil, rv_cat]; exact Nat.le_of_ble_eq_true rfl) (fun r_62 w_62 hr_62 hp_62 hR => ?_)
            obtain ⟨e1_62, e2_62⟩ := hp_62
            subst e1_62
            subst e2_62
            refine X_goto hO dX13_doesMore_65 (tgt := 116) rfl ?_
            exact XM_iret hO hF hR rfl (by first | exact Or.inl rfl | exact Or.inr ⟨rfl, bi_01 _⟩ | exact Or.inr ⟨rfl, by omega⟩) dX13_doesMore_116 (by first | assumption | omega) (by unfold m_more; (repeat (first | rw [if_pos (by omega)] | rw [if_neg (by omega)])); exact ⟨rfl, rfl⟩)
        ·
          refine X_aload_n 47 hO dX13_doesMore_46 rfl rfl ?_
          refine XM_callVi 50 hO hD hR lX13_328 [] rfl dX13_doesMore_47 rfl (c_rotates _ _ _ _ _ hB hS hP) (by decide) (by simp only [List.map_cons, List.map_nil, rv_cat]; exact Nat.le_of_ble_eq_true rfl) (fun r_47 w_47 hr_47 hp_47 hR => ?_)
          obtain ⟨e1_47, e2_47⟩ := hp_47
          subst e1_47
          subst e2_47
          refine X_goto hO dX13_doesMore_50 (tgt := 116) rfl ?_
          exact XM_iret hO hF hR rfl (by first | exact Or.inl rfl | exact Or.inr ⟨rfl, bi_01 _⟩ | exact Or.inr ⟨rfl, by omega⟩) dX13_doesMore_116 (by first | assumption | omega) (by unfold m_more; (repeat (first | rw [if_pos (by omega)] | rw [if_neg (by omega)])); exact ⟨rfl, rfl⟩)
      ·
        refine X_aload_n 33 hO dX13_doesMore_32 rfl rfl ?_
        refine X_iconst 34 hO dX13_doesMore_33 rfl ?_
        refine XM_callVi 37 hO hD hR lX13_325 [_] rfl dX13_doesMore_34 rfl (c_puts _ _ _ _ _ _ (by omega) hB hS hP) (by decide) (by simp only [List.map_cons, List.map_nil, rv_cat]; exact Nat.le_of_ble_eq_true rfl) (fun r_34 w_34 hr_34 hp_34 hR => ?_)
        obtain ⟨e1_34, e2_34⟩ := hp_34
        subst e1_34
        subst e2_34
        refine X_goto hO dX13_doesMore_37 (tgt := 116) rfl ?_
        exact XM_iret hO hF hR rfl (by first | exact Or.inl rfl | exact Or.inr ⟨rfl, bi_01 _⟩ | exact Or.inr ⟨rfl, by omega⟩) dX13_doesMore_116 (by first | assumption | omega) (by unfold m_more; (repeat (first | rw [if_pos (by omega)] | rw [if_neg (by omega)])); exact ⟨rfl, rfl⟩)
    ·
      refine X_aload_n 19 hO dX13_doesMore_18 rfl rfl ?_
      refine X_iload_n 20 hO dX13_doesMore_19 rfl rfl ?_
      refine XM_callVi 23 hO hD hR lX13_322 [_] rfl dX13_doesMore_20 rfl (c_kills _ _ _ _ _ _ (by omega) (by unfold m_lack m_many at hl; rw [if_neg (by omega), if_neg (by omega)] at hl; omega) hB hS hP) (by decide) (by simp only [List.map_cons, List.map_nil, rv_cat]; exact Nat.le_of_ble_eq_true rfl) (fun r_20 w_20 hr_20 hp_20 hR => ?_)
      obtain ⟨e1_20, e2_20⟩ := hp_20
      subst e1_20
      subst e2_20
      refine X_goto hO dX13_doesMore_23 (tgt := 116) rfl ?_
      exact XM_iret hO hF hR rfl (by first | exact Or.inl rfl | exact Or.inr ⟨rfl, bi_01 _⟩ | exact Or.inr ⟨rfl, by omega⟩) dX13_doesMore_116 (by first | assumption | omega) (by unfold m_more; (repeat (first | rw [if_pos (by omega)] | rw [if_neg (by omega)])); exact ⟨rfl, rfl⟩)
  ·
    refine X_aload_n 6 hO dX13_doesMore_5 rfl rfl ?_
    refine X_iload_n 7 hO dX13_doesMore_6 rfl rfl ?_
    refine XM_callVi 10 hO hD hR lX13_319 [_] rfl dX13_doesMore_7 rfl (c_searches _ _ _ _ (by omega) (by omega) (by omega) (by omega)) (by decide) (by simp only [List.map_cons, List.map_nil, rv_cat]; exact Nat.le_of_ble_eq_true rfl) (fun r_7 w_7 hr_7 hp_7 hR => ?_)
    obtain ⟨e1_7, e2_7⟩ := hp_7
    subst e1_7
    subst e2_7
    refine X_goto hO dX13_doesMore_10 (tgt := 116) rfl ?_
    exact XM_iret hO hF hR rfl (by first | exact Or.inl rfl | exact Or.inr ⟨rfl, bi_01 _⟩ | exact Or.inr ⟨rfl, by omega⟩) dX13_doesMore_116 (by first | assumption | omega) (by unfold m_more; (repeat (first | rw [if_pos (by omega)] | rw [if_neg (by omega)])); exact ⟨rfl, rfl⟩)
theorem dX13_does_0 : decode cX13_does 0 = .ok (.aload_n 0, 1) := by decide +kernel
theorem dX13_does_1 : decode cX13_does 1 = .ok (.getfield 31, 3) := by decide +kernel
theorem dX13_does_4 : decode cX13_does 4 = .ok (.iconst 0, 1) := by decide +kernel
theorem dX13_does_5 : decode cX13_does 5 = .ok (.iaload, 1) := by decide +kernel
theorem dX13_does_6 : decode cX13_does 6 = .ok (.istore 4, 2) := by decide +kernel
theorem dX13_does_8 : decode cX13_does 8 = .ok (.iload 4, 2) := by decide +kernel
theorem dX13_does_10 : decode cX13_does 10 = .ok (.iload_n 1, 1) := by decide +kernel
theorem dX13_does_11 : decode cX13_does 11 = .ok (.bipush 8, 2) := by decide +kernel
theorem dX13_does_13 : decode cX13_does 13 = .ok (.if_icmp .ne 7, 3) := by decide +kernel
theorem dX13_does_16 : decode cX13_does 16 = .ok (.iload_n 3, 1) := by decide +kernel
theorem dX13_does_17 : decode cX13_does 17 = .ok (.goto 13, 3) := by decide +kernel
theorem dX13_does_20 : decode cX13_does 20 = .ok (.iload_n 1, 1) := by decide +kernel
theorem dX13_does_21 : decode cX13_does 21 = .ok (.iconst 1, 1) := by decide +kernel
theorem dX13_does_22 : decode cX13_does 22 = .ok (.if_icmp .ne 7, 3) := by decide +kernel
theorem dX13_does_25 : decode cX13_does 25 = .ok (.iconst 1, 1) := by decide +kernel
theorem dX13_does_26 : decode cX13_does 26 = .ok (.goto 4, 3) := by decide +kernel
theorem dX13_does_29 : decode cX13_does 29 = .ok (.iload_n 2, 1) := by decide +kernel
theorem dX13_does_30 : decode cX13_does 30 = .ok (.iadd, 1) := by decide +kernel
theorem dX13_does_31 : decode cX13_does 31 = .ok (.aload_n 0, 1) := by decide +kernel
theorem dX13_does_32 : decode cX13_does 32 = .ok (.invokevirtual 297, 3) := by decide +kernel
theorem dX13_does_35 : decode cX13_does 35 = .ok (.if_icmp .le 7, 3) := by decide +kernel
theorem dX13_does_38 : decode cX13_does 38 = .ok (.iconst 1, 1) := by decide +kernel
theorem dX13_does_39 : decode cX13_does 39 = .ok (.goto 4, 3) := by decide +kernel
theorem dX13_does_42 : decode cX13_does 42 = .ok (.iconst 0, 1) := by decide +kernel
theorem dX13_does_43 : decode cX13_does 43 = .ok (.istore 5, 2) := by decide +kernel
theorem dX13_does_45 : decode cX13_does 45 = .ok (.iload_n 1, 1) := by decide +kernel
theorem dX13_does_46 : decode cX13_does 46 = .ok (.iconst 2, 1) := by decide +kernel
theorem dX13_does_47 : decode cX13_does 47 = .ok (.if_icmp .eq 19, 3) := by decide +kernel
theorem dX13_does_50 : decode cX13_does 50 = .ok (.iload_n 1, 1) := by decide +kernel
theorem dX13_does_51 : decode cX13_does 51 = .ok (.iconst 5, 1) := by decide +kernel
theorem dX13_does_52 : decode cX13_does 52 = .ok (.if_icmp .eq 14, 3) := by decide +kernel
theorem dX13_does_55 : decode cX13_does 55 = .ok (.iload_n 1, 1) := by decide +kernel
theorem dX13_does_56 : decode cX13_does 56 = .ok (.bipush 8, 2) := by decide +kernel
theorem dX13_does_58 : decode cX13_does 58 = .ok (.if_icmp .eq 8, 3) := by decide +kernel
theorem dX13_does_61 : decode cX13_does 61 = .ok (.iload_n 1, 1) := by decide +kernel
theorem dX13_does_62 : decode cX13_does 62 = .ok (.iconst 1, 1) := by decide +kernel
theorem dX13_does_63 : decode cX13_does 63 = .ok (.if_icmp .ne 10, 3) := by decide +kernel
theorem dX13_does_66 : decode cX13_does 66 = .ok (.iload 5, 2) := by decide +kernel
theorem dX13_does_68 : decode cX13_does 68 = .ok (.ifCond .eq 5, 3) := by decide +kernel
theorem dX13_does_71 : decode cX13_does 71 = .ok (.iconst 1, 1) := by decide +kernel
theorem dX13_does_72 : decode cX13_does 72 = .ok (.ireturn, 1) := by decide +kernel
theorem dX13_does_73 : decode cX13_does 73 = .ok (.iload_n 1, 1) := by decide +kernel
theorem dX13_does_74 : decode cX13_does 74 = .ok (.ifCond .ne 54, 3) := by decide +kernel
theorem dX13_does_77 : decode cX13_does 77 = .ok (.aload_n 0, 1) := by decide +kernel
theorem dX13_does_78 : decode cX13_does 78 = .ok (.getfield 13, 3) := by decide +kernel
theorem dX13_does_81 : decode cX13_does 81 = .ok (.iconst 0, 1) := by decide +kernel
theorem dX13_does_82 : decode cX13_does 82 = .ok (.iaload, 1) := by decide +kernel
theorem dX13_does_83 : decode cX13_does 83 = .ok (.sipush 400, 3) := by decide +kernel
theorem dX13_does_86 : decode cX13_does 86 = .ok (.if_icmp .ne 5, 3) := by decide +kernel
theorem dX13_does_89 : decode cX13_does 89 = .ok (.iconst 5, 1) := by decide +kernel
theorem dX13_does_90 : decode cX13_does 90 = .ok (.ireturn, 1) := by decide +kernel
theorem dX13_does_91 : decode cX13_does 91 = .ok (.aload_n 0, 1) := by decide +kernel
theorem dX13_does_92 : decode cX13_does 92 = .ok (.getfield 150, 3) := by decide +kernel
theorem dX13_does_95 : decode cX13_does 95 = .ok (.iconst 0, 1) := by decide +kernel
theorem dX13_does_96 : decode cX13_does 96 = .ok (.iload_n 2, 1) := by decide +kernel
theorem dX13_does_97 : decode cX13_does 97 = .ok (.iastore, 1) := by decide +kernel
theorem dX13_does_98 : decode cX13_does 98 = .ok (.aload_n 0, 1) := by decide +kernel
theorem dX13_does_99 : decode cX13_does 99 = .ok (.iload 4, 2) := by decide +kernel
theorem dX13_does_101 : decode cX13_does 101 = .ok (.iconst 1, 1) := by decide +kernel
theorem dX13_does_102 : decode cX13_does 102 = .ok (.invokevirtual 300, 3) := by decide +kernel
theorem dX13_does_105 : decode cX13_does 105 = .ok (.aload_n 0, 1) := by decide +kernel
theorem dX13_does_106 : decode cX13_does 106 = .ok (.getfield 31, 3) := by decide +kernel
theorem dX13_does_109 : decode cX13_does 109 = .ok (.iconst 0, 1) := by decide +kernel
theorem dX13_does_110 : decode cX13_does 110 = .ok (.dup2, 1) := by decide +kernel
theorem dX13_does_111 : decode cX13_does 111 = .ok (.iaload, 1) := by decide +kernel
theorem dX13_does_112 : decode cX13_does 112 = .ok (.iconst 1, 1) := by decide +kernel
theorem dX13_does_113 : decode cX13_does 113 = .ok (.iadd, 1) := by decide +kernel
theorem dX13_does_114 : decode cX13_does 114 = .ok (.iastore, 1) := by decide +kernel
theorem dX13_does_115 : decode cX13_does 115 = .ok (.aload_n 0, 1) := by decide +kernel
theorem dX13_does_116 : decode cX13_does 116 = .ok (.aload_n 0, 1) := by decide +kernel
theorem dX13_does_117 : decode cX13_does 117 = .ok (.getfield 13, 3) := by decide +kernel
theorem dX13_does_120 : decode cX13_does 120 = .ok (.iconst 0, 1) := by decide +kernel
theorem dX13_does_121 : decode cX13_does 121 = .ok (.iaload, 1) := by decide +kernel
theorem dX13_does_122 : decode cX13_does 122 = .ok (.putfield 303, 3) := by decide +kernel
theorem dX13_does_125 : decode cX13_does 125 = .ok (.goto 210, 3) := by decide +kernel
theorem dX13_does_128 : decode cX13_does 128 = .ok (.iload_n 1, 1) := by decide +kernel
theorem dX13_does_129 : decode cX13_does 129 = .ok (.iconst 1, 1) := by decide +kernel
theorem dX13_does_130 : decode cX13_does 130 = .ok (.if_icmp .ne 34, 3) := by decide +kernel
theorem dX13_does_133 : decode cX13_does 133 = .ok (.aload_n 0, 1) := by decide +kernel
theorem dX13_does_134 : decode cX13_does 134 = .ok (.aload_n 0, 1) := by decide +kernel
theorem dX13_does_135 : decode cX13_does 135 = .ok (.getfield 7, 3) := by decide +kernel
theorem dX13_does_138 : decode cX13_does 138 = .ok (.iload 4, 2) := by decide +kernel
theorem dX13_does_140 : decode cX13_does 140 = .ok (.iaload, 1) := by decide +kernel
theorem dX13_does_141 : decode cX13_does 141 = .ok (.putfield 303, 3) := by decide +kernel
theorem dX13_does_144 : decode cX13_does 144 = .ok (.aload_n 0, 1) := by decide +kernel
theorem dX13_does_145 : decode cX13_does 145 = .ok (.iload 4, 2) := by decide +kernel
theorem dX13_does_147 : decode cX13_does 147 = .ok (.iload_n 2, 1) := by decide +kernel
theorem dX13_does_148 : decode cX13_does 148 = .ok (.invokevirtual 255, 3) := by decide +kernel
theorem dX13_does_151 : decode cX13_does 151 = .ok (.aload_n 0, 1) := by decide +kernel
theorem dX13_does_152 : decode cX13_does 152 = .ok (.getfield 31, 3) := by decide +kernel
theorem dX13_does_155 : decode cX13_does 155 = .ok (.iconst 0, 1) := by decide +kernel
theorem dX13_does_156 : decode cX13_does 156 = .ok (.dup2, 1) := by decide +kernel
theorem dX13_does_157 : decode cX13_does 157 = .ok (.iaload, 1) := by decide +kernel
theorem dX13_does_158 : decode cX13_does 158 = .ok (.iconst 1, 1) := by decide +kernel
theorem dX13_does_159 : decode cX13_does 159 = .ok (.iadd, 1) := by decide +kernel
theorem dX13_does_160 : decode cX13_does 160 = .ok (.iastore, 1) := by decide +kernel
theorem dX13_does_161 : decode cX13_does 161 = .ok (.goto 174, 3) := by decide +kernel
theorem dX13_does_164 : decode cX13_does 164 = .ok (.iload_n 1, 1) := by decide +kernel
theorem dX13_does_165 : decode cX13_does 165 = .ok (.iconst 2, 1) := by decide +kernel
theorem dX13_does_166 : decode cX13_does 166 = .ok (.if_icmp .ne 23, 3) := by decide +kernel
theorem dX13_does_169 : decode cX13_does 169 = .ok (.aload_n 0, 1) := by decide +kernel
theorem dX13_does_170 : decode cX13_does 170 = .ok (.iload 4, 2) := by decide +kernel
theorem dX13_does_172 : decode cX13_does 172 = .ok (.iload_n 2, 1) := by decide +kernel
theorem dX13_does_173 : decode cX13_does 173 = .ok (.invokevirtual 309, 3) := by decide +kernel
theorem dX13_does_176 : decode cX13_does 176 = .ok (.aload_n 0, 1) := by decide +kernel
theorem dX13_does_177 : decode cX13_does 177 = .ok (.aload_n 0, 1) := by decide +kernel
theorem dX13_does_178 : decode cX13_does 178 = .ok (.getfield 13, 3) := by decide +kernel
theorem dX13_does_181 : decode cX13_does 181 = .ok (.iconst 0, 1) := by decide +kernel
theorem dX13_does_182 : decode cX13_does 182 = .ok (.iaload, 1) := by decide +kernel
theorem dX13_does_183 : decode cX13_does 183 = .ok (.putfield 303, 3) := by decide +kernel
theorem dX13_does_186 : decode cX13_does 186 = .ok (.goto 149, 3) := by decide +kernel
theorem dX13_does_189 : decode cX13_does 189 = .ok (.iload_n 1, 1) := by decide +kernel
theorem dX13_does_190 : decode cX13_does 190 = .ok (.iconst 3, 1) := by decide +kernel
theorem dX13_does_191 : decode cX13_does 191 = .ok (.if_icmp .ne 39, 3) := by decide +kernel
theorem dX13_does_194 : decode cX13_does 194 = .ok (.aload_n 0, 1) := by decide +kernel
theorem dX13_does_195 : decode cX13_does 195 = .ok (.iload 4, 2) := by decide +kernel
theorem dX13_does_197 : decode cX13_does 197 = .ok (.iload_n 2, 1) := by decide +kernel
theorem dX13_does_198 : decode cX13_does 198 = .ok (.iadd, 1) := by decide +kernel
theorem dX13_does_199 : decode cX13_does 199 = .ok (.invokevirtual 312, 3) := by decide +kernel
theorem dX13_does_202 : decode cX13_does 202 = .ok (.ifCond .ne 5, 3) := by decide +kernel
theorem dX13_does_205 : decode cX13_does 205 = .ok (.iconst 1, 1) := by decide +kernel
theorem dX13_does_206 : decode cX13_does 206 = .ok (.ireturn, 1) := by decide +kernel
theorem dX13_does_207 : decode cX13_does 207 = .ok (.aload_n 0, 1) := by decide +kernel
theorem dX13_does_208 : decode cX13_does 208 = .ok (.getfield 31, 3) := by decide +kernel
theorem dX13_does_211 : decode cX13_does 211 = .ok (.iconst 0, 1) := by decide +kernel
theorem dX13_does_212 : decode cX13_does 212 = .ok (.dup2, 1) := by decide +kernel
theorem dX13_does_213 : decode cX13_does 213 = .ok (.iaload, 1) := by decide +kernel
theorem dX13_does_214 : decode cX13_does 214 = .ok (.iload_n 2, 1) := by decide +kernel
theorem dX13_does_215 : decode cX13_does 215 = .ok (.iadd, 1) := by decide +kernel
theorem dX13_does_216 : decode cX13_does 216 = .ok (.iastore, 1) := by decide +kernel
theorem dX13_does_217 : decode cX13_does 217 = .ok (.aload_n 0, 1) := by decide +kernel
theorem dX13_does_218 : decode cX13_does 218 = .ok (.aload_n 0, 1) := by decide +kernel
theorem dX13_does_219 : decode cX13_does 219 = .ok (.getfield 31, 3) := by decide +kernel
theorem dX13_does_222 : decode cX13_does 222 = .ok (.iconst 0, 1) := by decide +kernel
theorem dX13_does_223 : decode cX13_does 223 = .ok (.iaload, 1) := by decide +kernel
theorem dX13_does_224 : decode cX13_does 224 = .ok (.putfield 303, 3) := by decide +kernel
theorem dX13_does_227 : decode cX13_does 227 = .ok (.goto 108, 3) := by decide +kernel
theorem dX13_does_230 : decode cX13_does 230 = .ok (.iload_n 1, 1) := by decide +kernel
theorem dX13_does_231 : decode cX13_does 231 = .ok (.bipush 12, 2) := by decide +kernel
theorem dX13_does_233 : decode cX13_does 233 = .ok (.if_icmp .ne 53, 3) := by decide +kernel
theorem dX13_does_236 : decode cX13_does 236 = .ok (.aload_n 0, 1) := by decide +kernel
theorem dX13_does_237 : decode cX13_does 237 = .ok (.getfield 16, 3) := by decide +kernel
theorem dX13_does_240 : decode cX13_does 240 = .ok (.iload_n 2, 1) := by decide +kernel
theorem dX13_does_241 : decode cX13_does 241 = .ok (.iaload, 1) := by decide +kernel
theorem dX13_does_242 : decode cX13_does 242 = .ok (.iconst (-1), 1) := by decide +kernel
theorem dX13_does_243 : decode cX13_does 243 = .ok (.if_icmp .eq 16, 3) := by decide +kernel
theorem dX13_does_246 : decode cX13_does 246 = .ok (.aload_n 0, 1) := by decide +kernel
theorem dX13_does_247 : decode cX13_does 247 = .ok (.aload_n 0, 1) := by decide +kernel
theorem dX13_does_248 : decode cX13_does 248 = .ok (.getfield 16, 3) := by decide +kernel
theorem dX13_does_251 : decode cX13_does 251 = .ok (.iload_n 2, 1) := by decide +kernel
theorem dX13_does_252 : decode cX13_does 252 = .ok (.iaload, 1) := by decide +kernel
theorem dX13_does_253 : decode cX13_does 253 = .ok (.invokevirtual 312, 3) := by decide +kernel
theorem dX13_does_256 : decode cX13_does 256 = .ok (.ifCond .ne 5, 3) := by decide +kernel
theorem dX13_does_259 : decode cX13_does 259 = .ok (.iconst 3, 1) := by decide +kernel
theorem dX13_does_260 : decode cX13_does 260 = .ok (.ireturn, 1) := by decide +kernel
theorem dX13_does_261 : decode cX13_does 261 = .ok (.aload_n 0, 1) := by decide +kernel
theorem dX13_does_262 : decode cX13_does 262 = .ok (.getfield 31, 3) := by decide +kernel
theorem dX13_does_265 : decode cX13_does 265 = .ok (.iconst 0, 1) := by decide +kernel
theorem dX13_does_266 : decode cX13_does 266 = .ok (.aload_n 0, 1) := by decide +kernel
theorem dX13_does_267 : decode cX13_does 267 = .ok (.getfield 16, 3) := by decide +kernel
theorem dX13_does_270 : decode cX13_does 270 = .ok (.iload_n 2, 1) := by decide +kernel
theorem dX13_does_271 : decode cX13_does 271 = .ok (.iaload, 1) := by decide +kernel
theorem dX13_does_272 : decode cX13_does 272 = .ok (.iastore, 1) := by decide +kernel
theorem dX13_does_273 : decode cX13_does 273 = .ok (.aload_n 0, 1) := by decide +kernel
theorem dX13_does_274 : decode cX13_does 274 = .ok (.aload_n 0, 1) := by decide +kernel
theorem dX13_does_275 : decode cX13_does 275 = .ok (.getfield 31, 3) := by decide +kernel
theorem dX13_does_278 : decode cX13_does 278 = .ok (.iconst 0, 1) := by decide +kernel
theorem dX13_does_279 : decode cX13_does 279 = .ok (.iaload, 1) := by decide +kernel
theorem dX13_does_280 : decode cX13_does 280 = .ok (.putfield 303, 3) := by decide +kernel
theorem dX13_does_283 : decode cX13_does 283 = .ok (.goto 52, 3) := by decide +kernel
theorem dX13_does_286 : decode cX13_does 286 = .ok (.iload_n 1, 1) := by decide +kernel
theorem dX13_does_287 : decode cX13_does 287 = .ok (.bipush 14, 2) := by decide +kernel
theorem dX13_does_289 : decode cX13_does 289 = .ok (.if_icmp .ne 38, 3) := by decide +kernel
theorem dX13_does_292 : decode cX13_does 292 = .ok (.aload_n 0, 1) := by decide +kernel
theorem dX13_does_293 : decode cX13_does 293 = .ok (.getfield 40, 3) := by decide +kernel
theorem dX13_does_296 : decode cX13_does 296 = .ok (.iconst 0, 1) := by decide +kernel
theorem dX13_does_297 : decode cX13_does 297 = .ok (.iaload, 1) := by decide +kernel
theorem dX13_does_298 : decode cX13_does 298 = .ok (.ifCond .ne 6, 3) := by decide +kernel
theorem dX13_does_301 : decode cX13_does 301 = .ok (.bipush 6, 2) := by decide +kernel
theorem dX13_does_303 : decode cX13_does 303 = .ok (.ireturn, 1) := by decide +kernel
theorem dX13_does_304 : decode cX13_does 304 = .ok (.aload_n 0, 1) := by decide +kernel
theorem dX13_does_305 : decode cX13_does 305 = .ok (.getfield 40, 3) := by decide +kernel
theorem dX13_does_308 : decode cX13_does 308 = .ok (.iconst 0, 1) := by decide +kernel
theorem dX13_does_309 : decode cX13_does 309 = .ok (.dup2, 1) := by decide +kernel
theorem dX13_does_310 : decode cX13_does 310 = .ok (.iaload, 1) := by decide +kernel
theorem dX13_does_311 : decode cX13_does 311 = .ok (.iconst 1, 1) := by decide +kernel
theorem dX13_does_312 : decode cX13_does 312 = .ok (.isub, 1) := by decide +kernel
theorem dX13_does_313 : decode cX13_does 313 = .ok (.iastore, 1) := by decide +kernel
theorem dX13_does_314 : decode cX13_does 314 = .ok (.aload_n 0, 1) := by decide +kernel
theorem dX13_does_315 : decode cX13_does 315 = .ok (.aload_n 0, 1) := by decide +kernel
theorem dX13_does_316 : decode cX13_does 316 = .ok (.getfield 40, 3) := by decide +kernel
theorem dX13_does_319 : decode cX13_does 319 = .ok (.iconst 0, 1) := by decide +kernel
theorem dX13_does_320 : decode cX13_does 320 = .ok (.iaload, 1) := by decide +kernel
theorem dX13_does_321 : decode cX13_does 321 = .ok (.putfield 303, 3) := by decide +kernel
theorem dX13_does_324 : decode cX13_does 324 = .ok (.goto 11, 3) := by decide +kernel
theorem dX13_does_327 : decode cX13_does 327 = .ok (.aload_n 0, 1) := by decide +kernel
theorem dX13_does_328 : decode cX13_does 328 = .ok (.iload_n 1, 1) := by decide +kernel
theorem dX13_does_329 : decode cX13_does 329 = .ok (.iload_n 2, 1) := by decide +kernel
theorem dX13_does_330 : decode cX13_does 330 = .ok (.iload_n 3, 1) := by decide +kernel
theorem dX13_does_331 : decode cX13_does 331 = .ok (.invokevirtual 316, 3) := by decide +kernel
theorem dX13_does_334 : decode cX13_does 334 = .ok (.ireturn, 1) := by decide +kernel
theorem dX13_does_335 : decode cX13_does 335 = .ok (.iconst 0, 1) := by decide +kernel
theorem dX13_does_336 : decode cX13_does 336 = .ok (.ireturn, 1) := by decide +kernel
set_option maxRecDepth 4000 in
theorem c_does (γ : LC) (μ : MU) (w : Mm) (c a b S P : Int) (hv : CV c a b) (hc15 : c ≤ 14) (hB : LB μ S P w) (hS : S ≤ 29900) (hP : P ≤ 524000) : CMi γ μ 5 mX13_does [.int (I c), .int (I a), .int (I b)] w (fun r w' => r = (m_does μ c a b w).1 ∧ w' = (m_does μ c a b w).2) := by
  refine CMi_of rfl (by simp [rv_cat, Value.category]) rfl ?_
  rintro κ hO hF rfl hR
  have hD := hF.dp
  show X κ 0 0 w 0 [some (rv μ.1), some (.int (I c)), some (.int (I a)), some (.int (I b)), none, none] []
  obtain ⟨f1, f2, f3, f4, f5⟩ := hB.f
  have hv2 := hv
  unfold CV at hv2
  have hb : IR b := by omega
  refine X_aload_n 1 hO dX13_does_0 rfl rfl ?_
  refine ga_31 4 hO hR dX13_does_1 rfl ?_
  refine X_iconst 5 hO dX13_does_4 rfl ?_
  refine ma_ld (L := 4) (c := 207) 6 hO hR rfl rfl rfl dX13_does_5 rfl (by omega) (by omega) (fun hi_5 => ?_)
  refine X_istore 8 hO dX13_does_6 rfl rfl ?_
  refine X_iload 10 hO dX13_does_8 rfl rfl ?_
  have JP30 : ∀ (n : Int), (n = m_many c a b) → (-50 ≤ n ∧ n ≤ 126) → X κ 0 0 (w) 30 [some (rv μ.1), some (.int (I c)), some (.int (I a)), some (.int (I b)), some (.int (I (w 207 0 0))), none] [.int (I n), .int (I (w 207 0 0))] := by
    intro n hn hn2
    have JP45 : ∀ (z : Int), ((z = 1 ∧ w 207 0 0 + m_many c a b > m_vT w) ∨ (z = 0 ∧ w 207 0 0 + m_many c a b ≤ m_vT w)) → X κ 0 0 (w) 45 [some (rv μ.1), some (.int (I c)), some (.int (I a)), some (.int (I b)), some (.int (I (w 207 0 0))), some (.int (I z))] [] := by
      intro z hz
      have JP73 : (¬ ((c = 2 ∨ c = 5 ∨ c = 8 ∨ c = 1) ∧ w 207 0 0 + m_many c a b > m_vT w)) → X κ 0 0 (w) 73 [some (rv μ.1), some (.int (I c)), some (.int (I a)), some (.int (I b)), some (.int (I (w 207 0 0))), some (.int (I z))] [] := by
        intro  hl
        refine X_iload_n 74 hO dX13_does_73 rfl rfl ?_
        refine X_if_ne 77 128 hO dX13_does_74 rfl rfl (by omega) (fun hc_74 => ?_) (fun hc_74 => ?_)
        ·
          refine X_iload_n 129 hO dX13_does_128 rfl rfl ?_
          refine X_iconst 130 hO dX13_does_129 rfl ?_
          refine X_icmp_ne 133 164 hO dX13_does_130 rfl rfl (by omega) (by omega) (fun hc_130 => ?_) (fun hc_130 => ?_)
          ·
            refine X_iload_n 165 hO dX13_does_164 rfl rfl ?_
            refine X_iconst 166 hO dX13_does_165 rfl ?_
            refine X_icmp_ne 169 189 hO dX13_does_166 rfl rfl (by omega) (by omega) (fun hc_166 => ?_) (fun hc_166 => ?_)
            ·
              refine X_iload_n 190 hO dX13_does_189 rfl rfl ?_
              refine X_iconst 191 hO dX13_does_190 rfl ?_
              refine X_icmp_ne 194 230 hO dX13_does_191 rfl rfl (by omega) (by omega) (fun hc_191 => ?_) (fun hc_191 => ?_)
              ·
                refine X_iload_n 231 hO dX13_does_230 rfl rfl ?_
                refine X_bipush 233 hO dX13_does_231 rfl (by decide) ?_
                refine X_icmp_ne 236 286 hO dX13_does_233 rfl rfl (by omega) (by omega) (fun hc_233 => ?_) (fun hc_233 => ?_)
                ·
                  refine X_iload_n 287 hO dX13_does_286 rfl rfl ?_
                  refine X_bipush 289 hO dX13_does_287 rfl (by decide) ?_
                  refine X_icmp_ne 292 327 hO dX13_does_289 rfl rfl (by omega) (by omega) (fun hc_289 => ?_) (fun hc_289 => ?_)
                  ·
                    refine X_aload_n 328 hO dX13_does_327 rfl rfl ?_
                    refine X_iload_n 329 hO dX13_does_328 rfl rfl ?_
                    refine X_iload_n 330 hO dX13_does_329 rfl rfl ?_
                    refine X_iload_n 331 hO dX13_does_330 rfl rfl ?_
                    refine XM_callVi 334 hO hD hR lX13_316 [_, _, _] rfl dX13_does_331 rfl (c_doesMore _ _ _ _ _ _ _ _ hv hl (by omega) hB hS hP) (by decide) (by simp only [List.map_cons, List.map_nil, rv_cat]; exact Nat.le_of_ble_eq_true rfl) (fun r_331 w_331 hr_331 hp_331 hR => ?_)
                    obtain ⟨e1_331, e2_331⟩ := hp_331
                    subst e1_331
                    subst e2_331
                    exact XM_iret hO hF hR rfl (by first | exact Or.inl rfl | exact Or.inr ⟨rfl, bi_01 _⟩ | exact Or.inr ⟨rfl, by omega⟩) dX13_does_334 (by first | assumption | omega) (by unfold m_does m_lack m_iV m_insC m_pt m_ovr m_ovrA m_delC m_goto m_wid; (repeat (first | rw [if_pos (by omega)] | rw [if_neg (by omega)])); exact ⟨rfl, rfl⟩)
                  ·
                    refine X_aload_n 293 hO dX13_does_292 rfl rfl ?_
                    refine ga_40 296 hO hR dX13_does_293 rfl ?_
                    refine X_iconst 297 hO dX13_does_296 rfl ?_
                    refine ma_ld (L := 4) (c := 210) 298 hO hR rfl rfl rfl dX13_does_297 rfl (by omega) (by omega) (fun hi_297 => ?_)
                    refine X_if_ne 301 304 hO dX13_does_298 rfl rfl (by omega) (fun hc_298 => ?_) (fun hc_298 => ?_)
                    ·
                      refine X_aload_n 305 hO dX13_does_304 rfl rfl ?_
                      refine ga_40 308 hO hR dX13_does_305 rfl ?_
                      refine X_iconst 309 hO dX13_does_308 rfl ?_
                      refine X_dup2 310 hO dX13_does_309 rfl (by first | rfl | exact rv_cat _) (by first | rfl | exact rv_cat _) ?_
                      refine ma_ld (L := 4) (c := 210) 311 hO hR rfl rfl rfl dX13_does_310 rfl (by omega) (by omega) (fun hi_310 => ?_)
                      refine X_iconst 312 hO dX13_does_311 rfl ?_
                      refine X_isub 313 hO dX13_does_312 rfl ?_
                      refine ma_st (L := 4) (c := 210) 314 hO hR rfl rfl rfl dX13_does_313 rfl (by omega) (by omega) (by omega) (fun hR => ?_)
                      refine X_aload_n 315 hO dX13_does_314 rfl rfl ?_
                      refine X_aload_n 316 hO dX13_does_315 rfl rfl ?_
                      refine ga_40 319 hO hR dX13_does_316 rfl ?_
                      refine X_iconst 320 hO dX13_does_319 rfl ?_
                      refine ma_ld (L := 4) (c := 210) 321 hO hR rfl rfl rfl dX13_does_320 rfl (by omega) (by omega) (fun hi_320 => ?_)
                      refine pa_303 324 hO hR dX13_does_321 rfl (by omega) (fun hR => ?_)
                      refine X_goto hO dX13_does_324 (tgt := 335) rfl ?_
                      refine X_iconst 336 hO dX13_does_335 rfl ?_
                      exact XM_iret hO hF hR rfl (by first | exact Or.inl rfl | exact Or.inr ⟨rfl, bi_01 _⟩ | exact Or.inr ⟨rfl, by omega⟩) dX13_does_336 (by first | assumption | omega) (by unfold m_does m_lack m_iV m_insC m_pt m_ovr m_ovrA m_delC m_goto m_wid; (repeat (first | rw [if_pos (by omega)] | rw [if_neg (by omega)])); exact ⟨rfl, rfl⟩)
                    ·
                      refine X_bipush 303 hO dX13_does_301 rfl (by decide) ?_
                      exact XM_iret hO hF hR rfl (by first | exact Or.inl rfl | exact Or.inr ⟨rfl, bi_01 _⟩ | exact Or.inr ⟨rfl, by omega⟩) dX13_does_303 (by first | assumption | omega) (by unfold m_does m_lack m_iV m_insC m_pt m_ovr m_ovrA m_delC m_goto m_wid; (repeat (first | rw [if_pos (by omega)] | rw [if_neg (by omega)])); exact ⟨rfl, rfl⟩)
                ·
                  refine X_aload_n 237 hO dX13_does_236 rfl rfl ?_
                  refine ga_16 240 hO hR dX13_does_237 rfl ?_
                  refine X_iload_n 241 hO dX13_does_240 rfl rfl ?_
                  refine ma_ld (L := 24) (c := 202) 242 hO hR rfl rfl rfl dX13_does_241 rfl (by omega) (by omega) (fun hi_241 => ?_)
                  refine X_iconst 243 hO dX13_does_242 rfl ?_
                  refine X_icmp_eq 246 259 hO dX13_does_243 rfl rfl (by omega) (by omega) (fun hc_243 => ?_) (fun hc_243 => ?_)
                  ·
                    refine X_iconst 260 hO dX13_does_259 rfl ?_
                    exact XM_iret hO hF hR rfl (by first | exact Or.inl rfl | exact Or.inr ⟨rfl, bi_01 _⟩ | exact Or.inr ⟨rfl, by omega⟩) dX13_does_260 (by first | assumption | omega) (by unfold m_does m_lack m_iV m_insC m_pt m_ovr m_ovrA m_delC m_goto m_wid; (repeat (first | rw [if_pos (by omega)] | rw [if_neg (by omega)])); exact ⟨rfl, rfl⟩)
                  ·
                    refine X_aload_n 247 hO dX13_does_246 rfl rfl ?_
                    refine X_aload_n 248 hO dX13_does_247 rfl rfl ?_
                    refine ga_16 251 hO hR dX13_does_248 rfl ?_
                    refine X_iload_n 252 hO dX13_does_251 rfl rfl ?_
                    refine ma_ld (L := 24) (c := 202) 253 hO hR rfl rfl rfl dX13_does_252 rfl (by omega) (by omega) (fun hi_252 => ?_)
                    refine XM_callVi 256 hO hD hR lX13_312 [_] rfl dX13_does_253 rfl (c_isInView _ _ _ _ (by omega) (by omega)) (by decide) (by simp only [List.map_cons, List.map_nil, rv_cat]; exact Nat.le_of_ble_eq_true rfl) (fun r_253 w_253 hr_253 hp_253 hR => ?_)
                    obtain ⟨e1_253, e2_253⟩ := hp_253
                    subst e1_253
                    subst e2_253
                    refine X_if_ne 259 261 hO dX13_does_256 rfl rfl (by omega) (fun hc_256 => ?_) (fun hc_256 => ?_)
                    ·
                      try simp only [bi_0, bi_ne, ne_eq, Classical.not_not] at hc_256
                      refine X_aload_n 262 hO dX13_does_261 rfl rfl ?_
                      refine ga_31 265 hO hR dX13_does_262 rfl ?_
                      refine X_iconst 266 hO dX13_does_265 rfl ?_
                      refine X_aload_n 267 hO dX13_does_266 rfl rfl ?_
                      refine ga_16 270 hO hR dX13_does_267 rfl ?_
                      refine X_iload_n 271 hO dX13_does_270 rfl rfl ?_
                      refine ma_ld (L := 24) (c := 202) 272 hO hR rfl rfl rfl dX13_does_271 rfl (by omega) (by omega) (fun hi_271 => ?_)
                      refine ma_st (L := 4) (c := 207) 273 hO hR rfl rfl rfl dX13_does_272 rfl (by omega) (by omega) (by omega) (fun hR => ?_)
                      refine X_aload_n 274 hO dX13_does_273 rfl rfl ?_
                      refine X_aload_n 275 hO dX13_does_274 rfl rfl ?_
                      refine ga_31 278 hO hR dX13_does_275 rfl ?_
                      refine X_iconst 279 hO dX13_does_278 rfl ?_
                      refine ma_ld (L := 4) (c := 207) 280 hO hR rfl rfl rfl dX13_does_279 rfl (by omega) (by omega) (fun hi_279 => ?_)
                      refine pa_303 283 hO hR dX13_does_280 rfl (by omega) (fun hR => ?_)
                      refine X_goto hO dX13_does_283 (tgt := 335) rfl ?_
                      refine X_iconst 336 hO dX13_does_335 rfl ?_
                      exact XM_iret hO hF hR rfl (by first | exact Or.inl rfl | exact Or.inr ⟨rfl, bi_01 _⟩ | exact Or.inr ⟨rfl, by omega⟩) dX13_does_336 (by first | assumption | omega) (by unfold m_does m_lack m_iV m_insC m_pt m_ovr m_ovrA m_delC m_goto m_wid; (repeat (first | rw [if_pos (by omega)] | rw [if_neg (by omega)])); exact ⟨rfl, rfl⟩)
                    ·
                      try simp only [bi_0, bi_ne, ne_eq, Classical.not_not] at hc_256
                      refine X_iconst 260 hO dX13_does_259 rfl ?_
                      exact XM_iret hO hF hR rfl (by first | exact Or.inl rfl | exact Or.inr ⟨rfl, bi_01 _⟩ | exact Or.inr ⟨rfl, by omega⟩) dX13_does_260 (by first | assumption | omega) (by unfold m_does m_lack m_iV m_insC m_pt m_ovr m_ovrA m_delC m_goto m_wid; (repeat (first | rw [if_pos (by omega)] | rw [if_neg (by omega)])); exact ⟨rfl, rfl⟩)
              ·
                refine X_aload_n 195 hO dX13_does_194 rfl rfl ?_
                refine X_iload 197 hO dX13_does_195 rfl rfl ?_
                refine X_iload_n 198 hO dX13_does_197 rfl rfl ?_
                refine X_iadd 199 hO dX13_does_198 rfl ?_
                refine XM_callVi 202 hO hD hR lX13_312 [_] rfl dX13_does_199 rfl (c_isInView _ _ _ _ (by omega) (by omega)) (by decide) (by simp only [List.map_cons, List.map_nil, rv_cat]; exact Nat.le_of_ble_eq_true rfl) (fun r_199 w_199 hr_199 hp_199 hR => ?_)
                obtain ⟨e1_199, e2_199⟩ := hp_199
                subst e1_199
                subst e2_199
                refine X_if_ne 205 207 hO dX13_does_202 rfl rfl (by omega) (fun hc_202 => ?_) (fun hc_202 => ?_)
                ·
                  try simp only [bi_0, bi_ne, ne_eq, Classical.not_not] at hc_202
                  refine X_aload_n 208 hO dX13_does_207 rfl rfl ?_
                  refine ga_31 211 hO hR dX13_does_208 rfl ?_
                  refine X_iconst 212 hO dX13_does_211 rfl ?_
                  refine X_dup2 213 hO dX13_does_212 rfl (by first | rfl | exact rv_cat _) (by first | rfl | exact rv_cat _) ?_
                  refine ma_ld (L := 4) (c := 207) 214 hO hR rfl rfl rfl dX13_does_213 rfl (by omega) (by omega) (fun hi_213 => ?_)
                  refine X_iload_n 215 hO dX13_does_214 rfl rfl ?_
                  refine X_iadd 216 hO dX13_does_215 rfl ?_
                  refine ma_st (L := 4) (c := 207) 217 hO hR rfl rfl rfl dX13_does_216 rfl (by omega) (by omega) (by omega) (fun hR => ?_)
                  refine X_aload_n 218 hO dX13_does_217 rfl rfl ?_
                  refine X_aload_n 219 hO dX13_does_218 rfl rfl ?_
                  refine ga_31 222 hO hR dX13_does_219 rfl ?_
                  refine X_iconst 223 hO dX13_does_222 rfl ?_
                  refine ma_ld (L := 4) (c := 207) 224 hO hR rfl rfl rfl dX13_does_223 rfl (by omega) (by omega) (fun hi_223 => ?_)
                  refine pa_303 227 hO hR dX13_does_224 rfl (by omega) (fun hR => ?_)
                  refine X_goto hO dX13_does_227 (tgt := 335) rfl ?_
                  refine X_iconst 336 hO dX13_does_335 rfl ?_
                  exact XM_iret hO hF hR rfl (by first | exact Or.inl rfl | exact Or.inr ⟨rfl, bi_01 _⟩ | exact Or.inr ⟨rfl, by omega⟩) dX13_does_336 (by first | assumption | omega) (by unfold m_does m_lack m_iV m_insC m_pt m_ovr m_ovrA m_delC m_goto m_wid; (repeat (first | rw [if_pos (by omega)] | rw [if_neg (by omega)])); exact ⟨rfl, rfl⟩)
                ·
                  try simp only [bi_0, bi_ne, ne_eq, Classical.not_not] at hc_202
                  refine X_iconst 206 hO dX13_does_205 rfl ?_
                  exact XM_iret hO hF hR rfl (by first | exact Or.inl rfl | exact Or.inr ⟨rfl, bi_01 _⟩ | exact Or.inr ⟨rfl, by omega⟩) dX13_does_206 (by first | assumption | omega) (by unfold m_does m_lack m_iV m_insC m_pt m_ovr m_ovrA m_delC m_goto m_wid; (repeat (first | rw [if_pos (by omega)] | rw [if_neg (by omega)])); exact ⟨rfl, rfl⟩)
            ·
              have hm1 : m_many c a b = a := by unfold m_many; rw [if_neg (by omega), if_neg (by omega)]
              refine X_aload_n 170 hO dX13_does_169 rfl rfl ?_
              refine X_iload 172 hO dX13_does_170 rfl rfl ?_
              refine X_iload_n 173 hO dX13_does_172 rfl rfl ?_
              refine XM_callVv 176 hO hD hR lX13_309 [_, _] rfl dX13_does_173 rfl (c_deletes _ _ _ _ _ (by omega) (by omega) (SB.m (s := 0) hB.1) (by omega) hB.2.1.e (by omega)) (by decide) (by simp only [List.map_cons, List.map_nil, rv_cat]; exact Nat.le_of_ble_eq_true rfl) (fun w_173 hp_173 hR => ?_)
              subst hp_173
              refine X_aload_n 177 hO dX13_does_176 rfl rfl ?_
              refine X_aload_n 178 hO dX13_does_177 rfl rfl ?_
              refine ga_13 181 hO hR dX13_does_178 rfl ?_
              refine X_iconst 182 hO dX13_does_181 rfl ?_
              refine ma_ld (L := 4) (c := 201) 183 hO hR rfl rfl rfl dX13_does_182 rfl (by omega) (by omega) (fun hi_182 => ?_)
              refine pa_303 186 hO hR dX13_does_183 rfl (by omega) (fun hR => ?_)
              refine X_goto hO dX13_does_186 (tgt := 335) rfl ?_
              refine X_iconst 336 hO dX13_does_335 rfl ?_
              exact XM_iret hO hF hR rfl (by first | exact Or.inl rfl | exact Or.inr ⟨rfl, bi_01 _⟩ | exact Or.inr ⟨rfl, by omega⟩) dX13_does_336 (by first | assumption | omega) (by unfold m_does m_lack m_iV m_insC m_pt m_ovr m_ovrA m_delC m_goto m_wid; (repeat (first | rw [if_pos (by omega)] | rw [if_neg (by omega)])); exact ⟨rfl, rfl⟩)
          ·
            have hm1 : m_many c a b = 1 := by unfold m_many; rw [if_neg (by omega), if_pos (by omega)]
            have e148 : ∀ q, m_rep μ q a (up w 136 μ.1 0 (w 200 0 (w 207 0 0))) 207 0 0 = w 207 0 0 := fun q => by rw [rep_at (by decide), up_k _ (by decide)]
            have e149 := e148 (w 207 0 0)
            refine X_aload_n 134 hO dX13_does_133 rfl rfl ?_
            refine X_aload_n 135 hO dX13_does_134 rfl rfl ?_
            refine ga_7 138 hO hR dX13_does_135 rfl ?_
            refine X_iload 140 hO dX13_does_138 rfl rfl ?_
            refine ma_ld (L := 1600) (c := 200) 141 hO hR rfl rfl rfl dX13_does_140 rfl (by omega) (by omega) (fun hi_140 => ?_)
            refine pa_303 144 hO hR dX13_does_141 rfl (by omega) (fun hR => ?_)
            refine X_aload_n 145 hO dX13_does_144 rfl rfl ?_
            refine X_iload 147 hO dX13_does_145 rfl rfl ?_
            refine X_iload_n 148 hO dX13_does_147 rfl rfl ?_
            refine XM_callVv 151 hO hD hR lX13_255 [_, _] rfl dX13_does_148 rfl (c_replaces _ _ _ _ _ (by omega) (by omega) (by rw [up_k _ (by decide)]; omega)) (by decide) (by simp only [List.map_cons, List.map_nil, rv_cat]; exact Nat.le_of_ble_eq_true rfl) (fun w_148 hp_148 hR => ?_)
            subst hp_148
            refine X_aload_n 152 hO dX13_does_151 rfl rfl ?_
            refine ga_31 155 hO hR dX13_does_152 rfl ?_
            refine X_iconst 156 hO dX13_does_155 rfl ?_
            refine X_dup2 157 hO dX13_does_156 rfl (by first | rfl | exact rv_cat _) (by first | rfl | exact rv_cat _) ?_
            refine ma_ld (L := 4) (c := 207) 158 hO hR rfl rfl rfl dX13_does_157 rfl (by omega) (by omega) (fun hi_157 => ?_)
            refine X_iconst 159 hO dX13_does_158 rfl ?_
            refine X_iadd 160 hO dX13_does_159 rfl ?_
            refine ma_st (L := 4) (c := 207) 161 hO hR rfl rfl rfl dX13_does_160 rfl (by omega) (by omega) (by omega) (fun hR => ?_)
            refine X_goto hO dX13_does_161 (tgt := 335) rfl ?_
            refine X_iconst 336 hO dX13_does_335 rfl ?_
            exact XM_iret hO hF hR rfl (by first | exact Or.inl rfl | exact Or.inr ⟨rfl, bi_01 _⟩ | exact Or.inr ⟨rfl, by omega⟩) dX13_does_336 (by first | assumption | omega) (by unfold m_does m_lack m_iV m_insC m_pt m_ovr m_ovrA m_delC m_goto m_wid; (repeat (first | rw [if_pos (by omega)] | rw [if_neg (by omega)])); exact ⟨rfl, rfl⟩)
        ·
          refine X_aload_n 78 hO dX13_does_77 rfl rfl ?_
          refine ga_13 81 hO hR dX13_does_78 rfl ?_
          refine X_iconst 82 hO dX13_does_81 rfl ?_
          refine ma_ld (L := 4) (c := 201) 83 hO hR rfl rfl rfl dX13_does_82 rfl (by omega) (by omega) (fun hi_82 => ?_)
          refine X_sipush 86 hO dX13_does_83 rfl (by decide) ?_
          refine X_icmp_ne 89 91 hO dX13_does_86 rfl rfl (by omega) (by omega) (fun hc_86 => ?_) (fun hc_86 => ?_)
          ·
            have hI := hB.buf0 (a := a) (by omega)
            obtain ⟨l1, l2, l3, l4, l5⟩ := hI.f
            have e1 : up w 240 0 0 a 201 0 0 = w 201 0 0 := up_k _ (by decide) _ _ _ _ _
            have e2 : up w 240 0 0 a 207 0 0 = w 207 0 0 := up_k _ (by decide) _ _ _ _ _
            have e102 : m_ins μ (w 207 0 0) 1 (up w 240 0 0 a) 207 0 0 = w 207 0 0 := by rw [ins_at (by decide), e2]
            refine X_aload_n 92 hO dX13_does_91 rfl rfl ?_
            refine ga_150 95 hO hR dX13_does_92 rfl ?_
            refine X_iconst 96 hO dX13_does_95 rfl ?_
            refine X_iload_n 97 hO dX13_does_96 rfl rfl ?_
            refine ma_st (L := 400) (c := 240) 98 hO hR rfl rfl rfl dX13_does_97 rfl (by omega) (by omega) (by omega) (fun hR => ?_)
            refine X_aload_n 99 hO dX13_does_98 rfl rfl ?_
            refine X_iload 101 hO dX13_does_99 rfl rfl ?_
            refine X_iconst 102 hO dX13_does_101 rfl ?_
            refine XM_callVv 105 hO hD hR lX13_300 [_, _] rfl dX13_does_102 rfl (c_inserts _ _ _ _ _ (by omega) (by omega) (SB.m (s := 0) hI.1) (by omega) hI.2.1.e (by omega) (by omega)) (by decide) (by simp only [List.map_cons, List.map_nil, rv_cat]; exact Nat.le_of_ble_eq_true rfl) (fun w_102 hp_102 hR => ?_)
            subst hp_102
            refine X_aload_n 106 hO dX13_does_105 rfl rfl ?_
            refine ga_31 109 hO hR dX13_does_106 rfl ?_
            refine X_iconst 110 hO dX13_does_109 rfl ?_
            refine X_dup2 111 hO dX13_does_110 rfl (by first | rfl | exact rv_cat _) (by first | rfl | exact rv_cat _) ?_
            refine ma_ld (L := 4) (c := 207) 112 hO hR rfl rfl rfl dX13_does_111 rfl (by omega) (by omega) (fun hi_111 => ?_)
            refine X_iconst 113 hO dX13_does_112 rfl ?_
            refine X_iadd 114 hO dX13_does_113 rfl ?_
            refine ma_st (L := 4) (c := 207) 115 hO hR rfl rfl rfl dX13_does_114 rfl (by omega) (by omega) (by omega) (fun hR => ?_)
            refine X_aload_n 116 hO dX13_does_115 rfl rfl ?_
            refine X_aload_n 117 hO dX13_does_116 rfl rfl ?_
            refine ga_13 120 hO hR dX13_does_117 rfl ?_
            refine X_iconst 121 hO dX13_does_120 rfl ?_
            refine ma_ld (L := 4) (c := 201) 122 hO hR rfl rfl rfl dX13_does_121 rfl (by omega) (by omega) (fun hi_121 => ?_)
            refine pa_303 125 hO hR dX13_does_122 rfl (by omega) (fun hR => ?_)
            refine X_goto hO dX13_does_125 (tgt := 335) rfl ?_
            refine X_iconst 336 hO dX13_does_335 rfl ?_
            exact XM_iret hO hF hR rfl (by first | exact Or.inl rfl | exact Or.inr ⟨rfl, bi_01 _⟩ | exact Or.inr ⟨rfl, by omega⟩) dX13_does_336 (by first | assumption | omega) (by unfold m_does m_lack m_iV m_insC m_pt m_ovr m_ovrA m_delC m_goto m_wid; (repeat (first | rw [if_pos (by omega)] | rw [if_neg (by omega)])); exact ⟨rfl, rfl⟩)
          ·
            refine X_iconst 90 hO dX13_does_89 rfl ?_
            exact XM_iret hO hF hR rfl (by first | exact Or.inl rfl | exact Or.inr ⟨rfl, bi_01 _⟩ | exact Or.inr ⟨rfl, by omega⟩) dX13_does_90 (by first | assumption | omega) (by unfold m_does m_lack m_iV m_insC m_pt m_ovr m_ovrA m_delC m_goto m_wid; (repeat (first | rw [if_pos (by omega)] | rw [if_neg (by omega)])); exact ⟨rfl, rfl⟩)
      refine X_iload_n 46 hO dX13_does_45 rfl rfl ?_
      refine X_iconst 47 hO dX13_does_46 rfl ?_
      refine X_icmp_eq 50 66 hO dX13_does_47 rfl rfl (by omega) (by omega) (fun hc_47 => ?_) (fun hc_47 => ?_)
      ·
        refine X_iload 68 hO dX13_does_66 rfl rfl ?_
        refine X_if_eq 71 73 hO dX13_does_68 rfl rfl (by omega) (fun hc_68 => ?_) (fun hc_68 => ?_)
        ·
          exact JP73 (by omega)
        ·
          refine X_iconst 72 hO dX13_does_71 rfl ?_
          exact XM_iret hO hF hR rfl (by first | exact Or.inl rfl | exact Or.inr ⟨rfl, bi_01 _⟩ | exact Or.inr ⟨rfl, by omega⟩) dX13_does_72 (by first | assumption | omega) (by unfold m_does m_lack m_iV m_insC m_pt m_ovr m_ovrA m_delC m_goto m_wid; (repeat (first | rw [if_pos (by omega)] | rw [if_neg (by omega)])); exact ⟨rfl, rfl⟩)
      ·
        refine X_iload_n 51 hO dX13_does_50 rfl rfl ?_
        refine X_iconst 52 hO dX13_does_51 rfl ?_
        refine X_icmp_eq 55 66 hO dX13_does_52 rfl rfl (by omega) (by omega) (fun hc_52 => ?_) (fun hc_52 => ?_)
        ·
          refine X_iload 68 hO dX13_does_66 rfl rfl ?_
          refine X_if_eq 71 73 hO dX13_does_68 rfl rfl (by omega) (fun hc_68 => ?_) (fun hc_68 => ?_)
          ·
            exact JP73 (by omega)
          ·
            refine X_iconst 72 hO dX13_does_71 rfl ?_
            exact XM_iret hO hF hR rfl (by first | exact Or.inl rfl | exact Or.inr ⟨rfl, bi_01 _⟩ | exact Or.inr ⟨rfl, by omega⟩) dX13_does_72 (by first | assumption | omega) (by unfold m_does m_lack m_iV m_insC m_pt m_ovr m_ovrA m_delC m_goto m_wid; (repeat (first | rw [if_pos (by omega)] | rw [if_neg (by omega)])); exact ⟨rfl, rfl⟩)
        ·
          refine X_iload_n 56 hO dX13_does_55 rfl rfl ?_
          refine X_bipush 58 hO dX13_does_56 rfl (by decide) ?_
          refine X_icmp_eq 61 66 hO dX13_does_58 rfl rfl (by omega) (by omega) (fun hc_58 => ?_) (fun hc_58 => ?_)
          ·
            refine X_iload 68 hO dX13_does_66 rfl rfl ?_
            refine X_if_eq 71 73 hO dX13_does_68 rfl rfl (by omega) (fun hc_68 => ?_) (fun hc_68 => ?_)
            ·
              exact JP73 (by omega)
            ·
              refine X_iconst 72 hO dX13_does_71 rfl ?_
              exact XM_iret hO hF hR rfl (by first | exact Or.inl rfl | exact Or.inr ⟨rfl, bi_01 _⟩ | exact Or.inr ⟨rfl, by omega⟩) dX13_does_72 (by first | assumption | omega) (by unfold m_does m_lack m_iV m_insC m_pt m_ovr m_ovrA m_delC m_goto m_wid; (repeat (first | rw [if_pos (by omega)] | rw [if_neg (by omega)])); exact ⟨rfl, rfl⟩)
          ·
            refine X_iload_n 62 hO dX13_does_61 rfl rfl ?_
            refine X_iconst 63 hO dX13_does_62 rfl ?_
            refine X_icmp_ne 66 73 hO dX13_does_63 rfl rfl (by omega) (by omega) (fun hc_63 => ?_) (fun hc_63 => ?_)
            ·
              exact JP73 (by omega)
            ·
              refine X_iload 68 hO dX13_does_66 rfl rfl ?_
              refine X_if_eq 71 73 hO dX13_does_68 rfl rfl (by omega) (fun hc_68 => ?_) (fun hc_68 => ?_)
              ·
                exact JP73 (by omega)
              ·
                refine X_iconst 72 hO dX13_does_71 rfl ?_
                exact XM_iret hO hF hR rfl (by first | exact Or.inl rfl | exact Or.inr ⟨rfl, bi_01 _⟩ | exact Or.inr ⟨rfl, by omega⟩) dX13_does_72 (by first | assumption | omega) (by unfold m_does m_lack m_iV m_insC m_pt m_ovr m_ovrA m_delC m_goto m_wid; (repeat (first | rw [if_pos (by omega)] | rw [if_neg (by omega)])); exact ⟨rfl, rfl⟩)
    refine X_iadd 31 hO dX13_does_30 rfl ?_
    refine X_aload_n 32 hO dX13_does_31 rfl rfl ?_
    refine XM_callVi 35 hO hD hR lX13_297 [] rfl dX13_does_32 rfl (c_viewTo _ _ _ (by omega)) (by decide) (by simp only [List.map_cons, List.map_nil, rv_cat]; exact Nat.le_of_ble_eq_true rfl) (fun r_32 w_32 hr_32 hp_32 hR => ?_)
    obtain ⟨e1_32, e2_32⟩ := hp_32
    subst e1_32
    subst e2_32
    refine X_icmp_le 38 42 hO dX13_does_35 rfl rfl (by omega) (by omega) (fun hc_35 => ?_) (fun hc_35 => ?_)
    ·
      refine X_iconst 43 hO dX13_does_42 rfl ?_
      refine X_istore 45 hO dX13_does_43 rfl rfl ?_
      exact JP45 _ (by omega)
    ·
      refine X_iconst 39 hO dX13_does_38 rfl ?_
      refine X_goto hO dX13_does_39 (tgt := 43) rfl ?_
      refine X_istore 45 hO dX13_does_43 rfl rfl ?_
      exact JP45 _ (by omega)
  refine X_iload_n 11 hO dX13_does_10 rfl rfl ?_
  refine X_bipush 13 hO dX13_does_11 rfl (by decide) ?_
  refine X_icmp_ne 16 20 hO dX13_does_13 rfl rfl (by omega) (by omega) (fun hc_13 => ?_) (fun hc_13 => ?_)
  ·
    refine X_iload_n 21 hO dX13_does_20 rfl rfl ?_
    refine X_iconst 22 hO dX13_does_21 rfl ?_
    refine X_icmp_ne 25 29 hO dX13_does_22 rfl rfl (by omega) (by omega) (fun hc_22 => ?_) (fun hc_22 => ?_)
    ·
      refine X_iload_n 30 hO dX13_does_29 rfl rfl ?_
      exact JP30 _ (by unfold m_many; (repeat (first | rw [if_pos (by omega)] | rw [if_neg (by omega)]))) (by omega)
    ·
      refine X_iconst 26 hO dX13_does_25 rfl ?_
      refine X_goto hO dX13_does_26 (tgt := 30) rfl ?_
      exact JP30 _ (by unfold m_many; (repeat (first | rw [if_pos (by omega)] | rw [if_neg (by omega)]))) (by omega)
  ·
    refine X_iload_n 17 hO dX13_does_16 rfl rfl ?_
    refine X_goto hO dX13_does_17 (tgt := 30) rfl ?_
    exact JP30 _ (by unfold m_many; (repeat (first | rw [if_pos (by omega)] | rw [if_neg (by omega)]))) (by omega)
theorem dX13_isFull_0 : decode cX13_isFull 0 = .ok (.aload_n 0, 1) := by decide +kernel
theorem dX13_isFull_1 : decode cX13_isFull 1 = .ok (.getfield 135, 3) := by decide +kernel
theorem dX13_isFull_4 : decode cX13_isFull 4 = .ok (.iconst (-1), 1) := by decide +kernel
theorem dX13_isFull_5 : decode cX13_isFull 5 = .ok (.if_icmp .eq 18, 3) := by decide +kernel
theorem dX13_isFull_8 : decode cX13_isFull 8 = .ok (.aload_n 0, 1) := by decide +kernel
theorem dX13_isFull_9 : decode cX13_isFull 9 = .ok (.getfield 132, 3) := by decide +kernel
theorem dX13_isFull_12 : decode cX13_isFull 12 = .ok (.iconst 4, 1) := by decide +kernel
theorem dX13_isFull_13 : decode cX13_isFull 13 = .ok (.iaload, 1) := by decide +kernel
theorem dX13_isFull_14 : decode cX13_isFull 14 = .ok (.bipush 16, 2) := by decide +kernel
theorem dX13_isFull_16 : decode cX13_isFull 16 = .ok (.if_icmp .ne 7, 3) := by decide +kernel
theorem dX13_isFull_19 : decode cX13_isFull 19 = .ok (.iconst 1, 1) := by decide +kernel
theorem dX13_isFull_20 : decode cX13_isFull 20 = .ok (.goto 4, 3) := by decide +kernel
theorem dX13_isFull_23 : decode cX13_isFull 23 = .ok (.iconst 0, 1) := by decide +kernel
theorem dX13_isFull_24 : decode cX13_isFull 24 = .ok (.ireturn, 1) := by decide +kernel
set_option maxRecDepth 4000 in
theorem c_isFull (γ : LC) (μ : MU) (w : Mm)   : CMi γ μ 0 mX13_isFull [] w (fun r w' => r = bi (w 133 μ.1 0 ≠ -1 ∧ w 236 0 4 = 16) ∧ w = w') := by
  refine CMi_of rfl (by simp [rv_cat, Value.category]) rfl ?_
  rintro κ hO hF rfl hR
  have hD := hF.dp
  show X κ 0 0 w 0 [some (rv μ.1)] []
  refine X_aload_n 1 hO dX13_isFull_0 rfl rfl ?_
  refine ga_135 4 hO hR dX13_isFull_1 rfl (fun hi_1 => ?_)
  refine X_iconst 5 hO dX13_isFull_4 rfl ?_
  refine X_icmp_eq 8 23 hO dX13_isFull_5 rfl rfl (by omega) (by omega) (fun hc_5 => ?_) (fun hc_5 => ?_)
  ·
    refine X_iconst 24 hO dX13_isFull_23 rfl ?_
    exact XM_iret hO hF hR rfl (by first | exact Or.inl rfl | exact Or.inr ⟨rfl, bi_01 _⟩ | exact Or.inr ⟨rfl, by omega⟩) dX13_isFull_24 (by omega) ⟨by unfold bi; first | rw [if_pos (by omega)] | rw [if_neg (by omega)], rfl⟩
  ·
    refine X_aload_n 9 hO dX13_isFull_8 rfl rfl ?_
    refine ga_132 12 hO hR dX13_isFull_9 rfl ?_
    refine X_iconst 13 hO dX13_isFull_12 rfl ?_
    refine ma_ld (L := 5) (c := 236) 14 hO hR rfl rfl rfl dX13_isFull_13 rfl (by omega) (by omega) (fun hi_13 => ?_)
    refine X_bipush 16 hO dX13_isFull_14 rfl (by decide) ?_
    refine X_icmp_ne 19 23 hO dX13_isFull_16 rfl rfl (by omega) (by omega) (fun hc_16 => ?_) (fun hc_16 => ?_)
    ·
      refine X_iconst 24 hO dX13_isFull_23 rfl ?_
      exact XM_iret hO hF hR rfl (by first | exact Or.inl rfl | exact Or.inr ⟨rfl, bi_01 _⟩ | exact Or.inr ⟨rfl, by omega⟩) dX13_isFull_24 (by omega) ⟨by unfold bi; first | rw [if_pos (by omega)] | rw [if_neg (by omega)], rfl⟩
    ·
      refine X_iconst 20 hO dX13_isFull_19 rfl ?_
      refine X_goto hO dX13_isFull_20 (tgt := 24) rfl ?_
      exact XM_iret hO hF hR rfl (by first | exact Or.inl rfl | exact Or.inr ⟨rfl, bi_01 _⟩ | exact Or.inr ⟨rfl, by omega⟩) dX13_isFull_24 (by omega) ⟨by unfold bi; first | rw [if_pos (by omega)] | rw [if_neg (by omega)], rfl⟩
def m_rec1 (c a b : Int) (w : Mm) : Mm := up (up (up (up w 235 0 (192 + 3 * w 236 0 4) c) 235 0 (192 + 3 * w 236 0 4 + 1) a) 235 0 (192 + 3 * w 236 0 4 + 2) b) 236 0 4 (w 236 0 4 + 1)
def m_rec (μ : MU) (c a b : Int) (w : Mm) : Mm := if w 133 μ.1 0 ≠ -1 then m_rec1 c a b w else w
theorem dX13_records_0 : decode cX13_records 0 = .ok (.aload_n 0, 1) := by decide +kernel
theorem dX13_records_1 : decode cX13_records 1 = .ok (.getfield 135, 3) := by decide +kernel
theorem dX13_records_4 : decode cX13_records 4 = .ok (.iconst (-1), 1) := by decide +kernel
theorem dX13_records_5 : decode cX13_records 5 = .ok (.if_icmp .eq 55, 3) := by decide +kernel
theorem dX13_records_8 : decode cX13_records 8 = .ok (.sipush 192, 3) := by decide +kernel
theorem dX13_records_11 : decode cX13_records 11 = .ok (.iconst 3, 1) := by decide +kernel
theorem dX13_records_12 : decode cX13_records 12 = .ok (.aload_n 0, 1) := by decide +kernel
theorem dX13_records_13 : decode cX13_records 13 = .ok (.getfield 132, 3) := by decide +kernel
theorem dX13_records_16 : decode cX13_records 16 = .ok (.iconst 4, 1) := by decide +kernel
theorem dX13_records_17 : decode cX13_records 17 = .ok (.iaload, 1) := by decide +kernel
theorem dX13_records_18 : decode cX13_records 18 = .ok (.imul, 1) := by decide +kernel
theorem dX13_records_19 : decode cX13_records 19 = .ok (.iadd, 1) := by decide +kernel
theorem dX13_records_20 : decode cX13_records 20 = .ok (.istore 4, 2) := by decide +kernel
theorem dX13_records_22 : decode cX13_records 22 = .ok (.aload_n 0, 1) := by decide +kernel
theorem dX13_records_23 : decode cX13_records 23 = .ok (.getfield 129, 3) := by decide +kernel
theorem dX13_records_26 : decode cX13_records 26 = .ok (.iload 4, 2) := by decide +kernel
theorem dX13_records_28 : decode cX13_records 28 = .ok (.iload_n 1, 1) := by decide +kernel
theorem dX13_records_29 : decode cX13_records 29 = .ok (.iastore, 1) := by decide +kernel
theorem dX13_records_30 : decode cX13_records 30 = .ok (.aload_n 0, 1) := by decide +kernel
theorem dX13_records_31 : decode cX13_records 31 = .ok (.getfield 129, 3) := by decide +kernel
theorem dX13_records_34 : decode cX13_records 34 = .ok (.iload 4, 2) := by decide +kernel
theorem dX13_records_36 : decode cX13_records 36 = .ok (.iconst 1, 1) := by decide +kernel
theorem dX13_records_37 : decode cX13_records 37 = .ok (.iadd, 1) := by decide +kernel
theorem dX13_records_38 : decode cX13_records 38 = .ok (.iload_n 2, 1) := by decide +kernel
theorem dX13_records_39 : decode cX13_records 39 = .ok (.iastore, 1) := by decide +kernel
theorem dX13_records_40 : decode cX13_records 40 = .ok (.aload_n 0, 1) := by decide +kernel
theorem dX13_records_41 : decode cX13_records 41 = .ok (.getfield 129, 3) := by decide +kernel
theorem dX13_records_44 : decode cX13_records 44 = .ok (.iload 4, 2) := by decide +kernel
theorem dX13_records_46 : decode cX13_records 46 = .ok (.iconst 2, 1) := by decide +kernel
theorem dX13_records_47 : decode cX13_records 47 = .ok (.iadd, 1) := by decide +kernel
theorem dX13_records_48 : decode cX13_records 48 = .ok (.iload_n 3, 1) := by decide +kernel
theorem dX13_records_49 : decode cX13_records 49 = .ok (.iastore, 1) := by decide +kernel
theorem dX13_records_50 : decode cX13_records 50 = .ok (.aload_n 0, 1) := by decide +kernel
theorem dX13_records_51 : decode cX13_records 51 = .ok (.getfield 132, 3) := by decide +kernel
theorem dX13_records_54 : decode cX13_records 54 = .ok (.iconst 4, 1) := by decide +kernel
theorem dX13_records_55 : decode cX13_records 55 = .ok (.dup2, 1) := by decide +kernel
theorem dX13_records_56 : decode cX13_records 56 = .ok (.iaload, 1) := by decide +kernel
theorem dX13_records_57 : decode cX13_records 57 = .ok (.iconst 1, 1) := by decide +kernel
theorem dX13_records_58 : decode cX13_records 58 = .ok (.iadd, 1) := by decide +kernel
theorem dX13_records_59 : decode cX13_records 59 = .ok (.iastore, 1) := by decide +kernel
theorem dX13_records_60 : decode cX13_records 60 = .ok (.return_, 1) := by decide +kernel
set_option maxRecDepth 4000 in
theorem c_records (γ : LC) (μ : MU) (w : Mm) (c a b : Int) (h6 : 0 ≤ w 236 0 4 ∧ (w 133 μ.1 0 ≠ -1 → w 236 0 4 ≤ 15)) (ha : IR a) (hb : IR b) (hc : IR c) : CMv γ μ 0 mX13_records [.int (I c), .int (I a), .int (I b)] w (fun w' => w' = m_rec μ c a b w) := by
  refine CMv_of rfl (by simp [rv_cat, Value.category]) rfl ?_
  rintro κ hO hF rfl hR
  have hD := hF.dp
  show X κ 0 0 w 0 [some (rv μ.1), some (.int (I c)), some (.int (I a)), some (.int (I b)), none] []
  refine X_aload_n 1 hO dX13_records_0 rfl rfl ?_
  refine ga_135 4 hO hR dX13_records_1 rfl (fun hi_1 => ?_)
  try simp (disch := decide) only [up_k, up_s, step_at, pool_at, poolN_at, opens_at, closes_at, fl_at, del_at, ins_at, rep_at, psh_at, trn_at, tak_at, pEn_at, cpQ_at, cpP_at, cpT_at] at hi_1 ⊢
  refine X_iconst 5 hO dX13_records_4 rfl ?_
  refine X_icmp_eq 8 60 hO dX13_records_5 rfl rfl (by omega) (by omega) (fun hc_5 => ?_) (fun hc_5 => ?_)
  ·
    exact XM_vret hO hF hR rfl dX13_records_60 (by unfold m_rec m_rec1; (repeat (first | rw [if_pos (by omega)] | rw [if_neg (by omega)])))
  ·
    refine X_sipush 11 hO dX13_records_8 rfl (by decide) ?_
    refine X_iconst 12 hO dX13_records_11 rfl ?_
    refine X_aload_n 13 hO dX13_records_12 rfl rfl ?_
    refine ga_132 16 hO hR dX13_records_13 rfl ?_
    refine X_iconst 17 hO dX13_records_16 rfl ?_
    refine ma_ld (L := 5) (c := 236) 18 hO hR rfl rfl rfl dX13_records_17 rfl (by omega) (by omega) (fun hi_17 => ?_)
    try simp (disch := decide) only [up_k, up_s, step_at, pool_at, poolN_at, opens_at, closes_at, fl_at, del_at, ins_at, rep_at, psh_at, trn_at, tak_at, pEn_at, cpQ_at, cpP_at, cpT_at] at hi_17 ⊢
    refine X_imul 19 hO dX13_records_18 rfl ?_
    refine X_iadd 20 hO dX13_records_19 rfl ?_
    refine X_istore 22 hO dX13_records_20 rfl rfl ?_
    refine X_aload_n 23 hO dX13_records_22 rfl rfl ?_
    refine ga_129 26 hO hR dX13_records_23 rfl ?_
    refine X_iload 28 hO dX13_records_26 rfl rfl ?_
    refine X_iload_n 29 hO dX13_records_28 rfl rfl ?_
    refine ma_st (L := 240) (c := 235) 30 hO hR rfl rfl rfl dX13_records_29 rfl (by omega) (by omega) (by omega) (fun hR => ?_)
    refine X_aload_n 31 hO dX13_records_30 rfl rfl ?_
    refine ga_129 34 hO hR dX13_records_31 rfl ?_
    refine X_iload 36 hO dX13_records_34 rfl rfl ?_
    refine X_iconst 37 hO dX13_records_36 rfl ?_
    refine X_iadd 38 hO dX13_records_37 rfl ?_
    refine X_iload_n 39 hO dX13_records_38 rfl rfl ?_
    refine ma_st (L := 240) (c := 235) 40 hO hR rfl rfl rfl dX13_records_39 rfl (by omega) (by omega) (by omega) (fun hR => ?_)
    refine X_aload_n 41 hO dX13_records_40 rfl rfl ?_
    refine ga_129 44 hO hR dX13_records_41 rfl ?_
    refine X_iload 46 hO dX13_records_44 rfl rfl ?_
    refine X_iconst 47 hO dX13_records_46 rfl ?_
    refine X_iadd 48 hO dX13_records_47 rfl ?_
    refine X_iload_n 49 hO dX13_records_48 rfl rfl ?_
    refine ma_st (L := 240) (c := 235) 50 hO hR rfl rfl rfl dX13_records_49 rfl (by omega) (by omega) (by omega) (fun hR => ?_)
    refine X_aload_n 51 hO dX13_records_50 rfl rfl ?_
    refine ga_132 54 hO hR dX13_records_51 rfl ?_
    refine X_iconst 55 hO dX13_records_54 rfl ?_
    refine X_dup2 56 hO dX13_records_55 rfl (by first | rfl | exact rv_cat _) (by first | rfl | exact rv_cat _) ?_
    refine ma_ld (L := 5) (c := 236) 57 hO hR rfl rfl rfl dX13_records_56 rfl (by omega) (by omega) (fun hi_56 => ?_)
    try simp (disch := decide) only [up_k, up_s, step_at, pool_at, poolN_at, opens_at, closes_at, fl_at, del_at, ins_at, rep_at, psh_at, trn_at, tak_at, pEn_at, cpQ_at, cpP_at, cpT_at] at hi_56 ⊢
    refine X_iconst 58 hO dX13_records_57 rfl ?_
    refine X_iadd 59 hO dX13_records_58 rfl ?_
    refine ma_st (L := 5) (c := 236) 60 hO hR rfl rfl rfl dX13_records_59 rfl (by omega) (by omega) (by omega) (fun hR => ?_)
    exact XM_vret hO hF hR rfl dX13_records_60 (by unfold m_rec m_rec1; (repeat (first | rw [if_pos (by omega)] | rw [if_neg (by omega)])))
