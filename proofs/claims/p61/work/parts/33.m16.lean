def m_cl1 (μ : MU) (q : Int × Mm) : Int × Mm := if q.1 = 0 then (0, up (up q.2 132 μ.1 0 1) 139 μ.1 0 1) else (q.2 126 μ.1 0, up q.2 129 μ.1 0 (-1))
def m_clW (μ : MU) (w : Mm) : Mm := up (m_saves μ 2 (up w 139 μ.1 0 (1 - w 132 μ.1 0))) 132 μ.1 0 0
theorem clW_ok {μ : MU} {S P M : Int} {w : Mm} (h : RB μ S P M w) : LB μ S P (m_clW μ w) ∧ RK μ S P M (m_clW μ w) ∧ m_clW μ w 122 μ.1 0 ≤ m_clW μ w 120 μ.1 0 := by
  obtain ⟨p1, p2, p3⟩ := cal_pre (h.fld (c := 139) (a := μ.1) (i := 0) (v := 1 - w 132 μ.1 0) (by decide))
  refine ⟨p1.up_o (by decide), p2.up_o (by decide), ?_⟩
  unfold m_clW
  rw [up_k _ (by decide), up_k _ (by decide), p3 _ _ _ (by decide), p3 _ _ _ (by decide), up_k _ (by decide), up_k _ (by decide)]
  have hz := h.2.2.1
  unfold bZ at hz
  exact hz.2.2.1.1
def m_trW (μ : MU) (s : Int) (w : Mm) : Mm := m_tells μ s (up (m_saves μ 2 (m_th μ 0 w)) 211 0 s 1)
def m_tr1 (μ : MU) (s : Int) (q : Int × Mm) : Mm := if q.1 = 0 then up (up q.2 211 0 s 0) 139 μ.1 0 2 else up q.2 129 μ.1 0 (-1)
theorem LB.tr {μ : MU} {S P s v : Int} {w : Mm} (h : LB μ S P w) (hv : v = 0 ∨ v = 1) : LB μ S P (up w 211 0 s v) := by
  obtain ⟨h1, h2, h3, h4, h5⟩ := h
  refine ⟨h1.cong fun c _ _ _ _ => up_k _ (by omega) _ _ _ _ _, h2.cong (fun c _ _ _ _ => up_k _ (by omega) _ _ _ _ _) (up_k _ (by omega) _ _ _ _ _), h3.cong fun i => up_k _ (by omega) _ _ _ _ _, fun i a b => ?_, h5.cong (up_k _ (by omega) _ _ _ _ _) (up_k _ (by omega) _ _ _ _ _)⟩
  rw [up_ii]
  split
  · exact hv
  · exact h4 i a b
theorem LB.tel {μ : MU} {S P s : Int} {b : Mm} (hb : SB 0 b) (hs : 0 ≤ s ∧ s ≤ 4) : ∀ (n : Nat) (w : Mm), n ≤ 4 → LB μ S P w → LB μ S (P + 21 * n) (m_tel μ s b n w)
  | 0, w, _, h => h.mono (by omega) (by omega)
  | n + 1, w, hn, h => by
    have h1 := LB.tel hb hs n w (by omega) h
    exact ((h1.pool).pEn hb (by omega)).mono (by omega) (by omega)
theorem LB.tells {μ : MU} {S P s : Int} {w : Mm} (h : LB μ S P w) (hs : 0 ≤ s ∧ s ≤ 4) : LB μ (S + 1) (P + 85) (m_tells μ s w) := by
  have hc := h.cn hs
  exact (LB.tel h.1 hs (w 204 0 s).toNat _ (by omega) (h.step.pool)).mono (by omega) (by omega)
theorem tells_at {μ : MU} {s : Int} {w : Mm} {c : Nat} {a i : Int} (h : c ≠ 212 ∧ c ≠ 120 ∧ c ≠ 213 ∧ c ≠ 121) : m_tells μ s w c a i = w c a i := by
  unfold m_tells; rw [tel_at ⟨h.2.2.1, h.2.2.2⟩, pool_at ⟨h.2.2.1, h.2.2.2⟩, step_at ⟨h.1, h.2.1⟩]
theorem tells_120 {μ : MU} {s : Int} {w : Mm} : m_tells μ s w 120 μ.1 0 = w 120 μ.1 0 + 1 := by
  unfold m_tells; rw [tel_at (by decide), pool_at (by decide)]; unfold m_step; rw [up_s]
theorem trW_ok {μ : MU} {S P M s : Int} {w : Mm} (hs : 0 ≤ s ∧ s ≤ 4) (h : RB μ S P M w) : LB μ S P (up (m_saves μ 2 (m_th μ 0 w)) 211 0 s 1) ∧ LB μ (S + 1) (P + 85) (m_trW μ s w) ∧ RK μ S P M (m_trW μ s w) ∧ m_trW μ s w 122 μ.1 0 ≤ m_trW μ s w 120 μ.1 0 := by
  obtain ⟨p1, p2, p3⟩ := cal_pre (h.th (k := 0))
  have h1 : LB μ S P (up (m_saves μ 2 (m_th μ 0 w)) 211 0 s 1) := p1.tr (Or.inr rfl)
  refine ⟨h1, h1.tells hs, (p2.up_o (c := 211) (a := 0) (i := s) (v := 1) (by decide)).cong fun c a i hc => tells_at (by omega), ?_⟩
  unfold m_trW
  rw [tells_120, tells_at (by decide), up_k _ (by decide), up_k _ (by decide), p3 _ _ _ (by decide), p3 _ _ _ (by decide), th_at (by decide), th_at (by decide)]
  have hz := h.2.2.1
  unfold bZ at hz
  omega
def m_stW (μ : MU) (m : Int) (w : Mm) : Mm := up (fl w 235 (48 * m) 48 (fun k => w 235 0 (192 + (k - 48 * m)))) 236 0 m (w 236 0 4)
def m_st1 (μ : MU) (m : Int) (w : Mm) : Int × Mm := (w 236 0 4, up (up (m_stW μ m w) 133 μ.1 0 (-1)) 129 μ.1 0 (-1))
def m_fail (μ : MU) (r m p : Int) (w : Mm) : Mm := up (up w 134 μ.1 0 r) 135 μ.1 0 (100 * m + p)
def o_close (μ : MU)  (w : Mm) : Int × Mm := if w 132 μ.1 0 = 0 then (0, m_th μ 1 w) else m_cl1 μ (m_ends μ 0 (m_clW μ w))
def o_track (μ : MU) (s : Int) (w : Mm) : Mm := if 0 ≤ s ∧ s ≤ 4 then (if w 211 0 s = 1 then m_th μ 2 w else m_tr1 μ s (m_ends μ 0 (m_trW μ s w))) else m_th μ 1 w
theorem TB.bud {μ : MU} {M v : Int} {w : Mm} (h : TB μ M w) (hv : 2 ≤ v ∧ v ≤ 600) : TB μ M (up (up w 128 μ.1 0 v) 129 μ.1 0 (-1)) := by
  obtain ⟨t1, t2, t3, t4, t5, t6, t7⟩ := h
  refine ⟨?_, ?_, ?_, ?_, ?_, ?_, fun k a b => ?_⟩
  · simp (disch := decide) only [up_k]; exact t1
  · simp (disch := decide) only [up_k]; exact t2
  · simp (disch := decide) only [up_k]; exact t3
  · simp (disch := decide) only [up_k, up_s]; exact hv
  · simp (disch := decide) only [up_k]; exact t5
  · simp (disch := decide) only [up_k]; exact t6
  · simp (disch := decide) only [up_k] at b ⊢; exact t7 k a b
def o_setBudget (μ : MU) (c : Int) (w : Mm) : Int × Mm := if 2 ≤ c ∧ c ≤ 600 then m_mrgs μ (up (up (m_th μ 0 w) 128 μ.1 0 c) 129 μ.1 0 (-1)) else (0, m_th μ 1 w)
def o_stop (μ : MU)  (w : Mm) : Int × Mm := if w 133 μ.1 0 = -1 then (0, m_th μ 1 w) else m_st1 μ (w 133 μ.1 0) (m_th μ 0 w)
def o_lineStart (μ : MU) (l : Int) (w : Mm) : Int × Mm := if 0 ≤ l ∧ l ≤ m_fee (w 201 0 0) w then (m_lns l w, m_th μ 0 w) else (0, m_th μ 1 w)
