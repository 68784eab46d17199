def m_ld (s : Int) (w : Mm) : Mm := fl w 240 0 (w 205 0 (4 * s)) (fun i => w 206 0 (80 * s + i))
def m_pt (μ : MU) (k : Int) (w : Mm) : Mm := up (up w 207 0 0 (w 207 0 0 + k)) 136 μ.1 0 (w 201 0 0)
def m_puts (μ : MU) (s : Int) (w : Mm) : Int × Mm := if m_ld s w 204 0 s = 0 then (4, m_ld s w) else if m_ld s w 201 0 0 + w 205 0 (4 * s) > 400 then (5, m_ld s w) else (0, m_pt μ (w 205 0 (4 * s)) (m_ins μ (m_ld s w 207 0 0) (w 205 0 (4 * s)) (m_ld s w)))
def m_rs4 (μ : MU) (w : Mm) : Mm := up w 136 μ.1 0 (w 204 0 4)
def m_rots (μ : MU) (w : Mm) : Int × Mm := if w 204 0 4 < 2 then (4, w) else (0, m_rs4 μ (if m_trn 0 w 211 0 4 = 1 then m_step μ 6 0 0 (m_trn 0 w) else m_trn 0 w))
def m_psS (μ : MU) (kind place value s : Int) (w : Mm) : Mm := m_pEn μ s 0 (m_step μ kind place value w) (m_step μ kind place value w)
def m_kilA (μ : MU) (k : Int) (w : Mm) : Mm := m_del μ (m_psh 0 k (m_rd k w) 207 0 0) k (m_psh 0 k (m_rd k w))
def m_kil (μ : MU) (k : Int) (w : Mm) : Mm := m_rs4 μ (if m_kilA μ k w 211 0 4 = 1 then m_psS μ 5 0 k 4 (m_kilA μ k w) else m_kilA μ k w)
def m_copA (μ : MU) (s k : Int) (w : Mm) : Mm := m_tak 0 s 0 k (m_rd k (up (up w 136 μ.1 0 (if w 204 0 s = 0 then 0 else w 205 0 (4 * s))) 204 0 s 1))
def m_cop (μ : MU) (s k : Int) (w : Mm) : Mm := if m_copA μ s k w 211 0 s = 1 then m_psS μ 7 s k s (m_copA μ s k w) else m_copA μ s k w
theorem LB.ld {μ : MU} {S P s : Int} {w : Mm} (h : LB μ S P w) (hs : 0 ≤ s ∧ s ≤ 4) : LB μ S P (m_ld s w) := by
  have h1 := h.el (i := 4 * s) (by omega)
  exact h.store h.1.f240 (h.2.2.1.ld fun i a b => h.1.2.2.2.2.2 _ (by omega) (by omega)) fun c a i _ hc => fl_at hc
theorem ld_at {s : Int} {w : Mm} {c : Nat} {a i : Int} (h : c ≠ 240) : m_ld s w c a i = w c a i := fl_at h
theorem psS_at {μ : MU} {x y z s : Int} {w : Mm} {c : Nat} {a i : Int} (h : c ≠ 212 ∧ c ≠ 120 ∧ c ≠ 213 ∧ c ≠ 121) : m_psS μ x y z s w c a i = w c a i := by
  unfold m_psS; rw [pEn_at ⟨h.2.2.1, h.2.2.2⟩, step_at ⟨h.1, h.2.1⟩]
theorem LB.psS {μ : MU} {S P x y z s : Int} {w : Mm} (h : LB μ S P w) (hs : 0 ≤ s ∧ s ≤ 4) : LB μ (S + 1) (P + 20) (m_psS μ x y z s w) :=
  h.step.pEn h.step.1 (by omega)
theorem LB.rs4 {μ : MU} {S P : Int} {w : Mm} (h : LB μ S P w) : LB μ S P (m_rs4 μ w) := h.up_int (by decide)
theorem LB.pts {μ : MU} {S P k : Int} {w : Mm} (h : LB μ S P w) (hk : 0 ≤ k ∧ w 207 0 0 + k ≤ m_vT w) : LB μ S P (m_pt μ k w) := by
  obtain ⟨f1, f2, f3, f4, f5⟩ := h.f
  exact (h.w.pt (by omega)).up_int (by decide)
theorem LB.puts {μ : MU} {S P s : Int} {w : Mm} (h : LB μ S P w) (hs : 0 ≤ s ∧ s ≤ 4) : LB μ (S + 1) (P + 20) (m_puts μ s w).2 := by
  have h1 := h.ld hs
  have h2 := h.el (i := 4 * s) (by omega)
  obtain ⟨f1, f2, f3, f4, f5⟩ := h1.f
  unfold m_puts
  split
  · exact h1.mono (by omega) (by omega)
  · split
    · exact h1.mono (by omega) (by omega)
    · refine ((h1.ins (k := w 205 0 (4 * s)) (by omega)).mono (Int.le_refl _) (by omega)).pts ?_
      rw [ins_vT f2 (by omega), ins_at (by decide), if_pos (by omega)]
      omega
theorem LB.rots {μ : MU} {S P : Int} {w : Mm} (h : LB μ S P w) : LB μ (S + 1) P (m_rots μ w).2 := by
  unfold m_rots
  split
  · exact h.mono (by omega) (by omega)
  · refine LB.rs4 ?_
    split
    · exact h.trn.step
    · exact h.trn.mono (by omega) (by omega)
theorem LB.kilA {μ : MU} {S P k : Int} {w : Mm} (h : LB μ S P w) (hk : 0 ≤ k ∧ k ≤ 20) (hp : w 207 0 0 + k ≤ m_vT w) : LB μ (S + 1) P (m_kilA μ k w) := by
  obtain ⟨f1, f2, f3, f4, f5⟩ := h.f
  have h1 := (h.rd (k := k) (by omega)).psh hk
  refine h1.del ⟨hk.1, ?_⟩
  rw [psh_at (by decide), psh_at (by decide)]
  unfold m_rd
  rw [fl_at (by decide), fl_at (by decide)]; omega
theorem LB.kil {μ : MU} {S P k : Int} {w : Mm} (h : LB μ S P w) (hk : 0 ≤ k ∧ k ≤ 20) (hp : w 207 0 0 + k ≤ m_vT w) : LB μ (S + 2) (P + 20) (m_kil μ k w) := by
  have h1 := h.kilA hk hp
  refine LB.rs4 ?_
  split
  · exact (h1.psS (by omega)).mono (by omega) (by omega)
  · exact h1.mono (by omega) (by omega)
theorem LB.copA {μ : MU} {S P s k : Int} {w : Mm} (h : LB μ S P w) (hk : 0 ≤ k ∧ k ≤ 20) (hp : w 207 0 0 + k ≤ m_vT w) : LB μ S P (m_copA μ s k w) := by
  obtain ⟨f1, f2, f3, f4, f5⟩ := h.f
  refine LB.tak (LB.rd ((h.up_int (by decide)).cnt (by omega) (Or.inl (by omega))) ?_) hk
  rw [up_k _ (by decide), up_k _ (by decide)]; omega
theorem LB.cop {μ : MU} {S P s k : Int} {w : Mm} (h : LB μ S P w) (hs : 0 ≤ s ∧ s ≤ 4) (hk : 0 ≤ k ∧ k ≤ 20) (hp : w 207 0 0 + k ≤ m_vT w) : LB μ (S + 1) (P + 20) (m_cop μ s k w) := by
  have h1 := h.copA (s := s) hk hp
  unfold m_cop
  split
  · exact h1.psS hs
  · exact h1.mono (by omega) (by omega)
