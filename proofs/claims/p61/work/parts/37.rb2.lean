/-! every call keeps what stands between calls -/
theorem RB.mono {μ : MU} {S P M S' P' M' : Int} {w : Mm} (h : RB μ S P M w) (h1 : S ≤ S') (h2 : P ≤ P') (h3 : M ≤ M') : RB μ S' P' M' w := ⟨h.1.mono h1 h2, (h.2.1.mono h1 h2).nodes h3, h.2.2.1, h.2.2.2⟩
theorem RB.ty {μ : MU} {S P M : Int} {w : Mm} (h : RB μ S P M w) : RB μ S P M (up w 129 μ.1 0 (-1)) := by
  refine ⟨h.1.up_o (by decide), h.2.1.up_o (by decide), ?_, ?_⟩
  · unfold bZ; simp (disch := decide) only [up_k]; exact h.2.2.1
  · unfold bY; rw [up_s]; intro hh; exact absurd rfl hh
/-- what no clause but the named ones looks at -/
theorem RB.ot {μ : MU} {S P M : Int} {w : Mm} (h : RB μ S P M w) {c : Nat} {a i v : Int} (hc : (225 < c ∧ c < 230) ∨ c = 231) : RB μ S P M (up w c a i v) := by
  refine ⟨h.1.up_o (c := c) (by omega), h.2.1.up_o (c := c) (by omega), ?_, ?_⟩
  · unfold bZ; simp only [up_k w (show 132 ≠ c by omega), up_k w (show 133 ≠ c by omega), up_k w (show 122 ≠ c by omega), up_k w (show 120 ≠ c by omega), up_k w (show 123 ≠ c by omega), up_k w (show 121 ≠ c by omega), up_k w (show 130 ≠ c by omega)]; exact h.2.2.1
  · unfold bY; simp only [up_k w (show 129 ≠ c by omega), up_k w (show 120 ≠ c by omega), up_k w (show 212 ≠ c by omega), up_k w (show 201 ≠ c by omega)]; exact h.2.2.2
theorem RB.in3 {μ : MU} {S P M c : Int} {w : Mm} (h : RB μ S P M w) : RB μ S P M (m_in3 μ c w).2 := by
  unfold m_in3
  refine RB.fld ⟨h.1.up_o (by decide), h.2.1.up_o (by decide), ?_, ?_⟩ (by decide)
  · unfold bZ; simp (disch := decide) only [up_k, up_s]
    have hz := h.2.2.1
    unfold bZ at hz
    exact ⟨hz.1, hz.2.1, hz.2.2.1, by decide, hz.2.2.2.2⟩
  · unfold bY; simp (disch := decide) only [up_k]; exact h.2.2.2
theorem RB.recd {μ : MU} {S P M c a b : Int} {w : Mm} (h : RB μ S P M w) (hv : CV c a b) (hf : w 133 μ.1 0 ≠ -1 → w 236 0 4 ≤ 15) : RB μ S P M (m_rec μ c a b w) := by
  refine ⟨h.1.rec, h.2.1.rec hv hf, ?_, ?_⟩
  · unfold bZ; simp (disch := decide) only [rec_at]; exact h.2.2.1
  · unfold bY; simp (disch := decide) only [rec_at]; exact h.2.2.2
theorem RBo_overwrite {μ : MU} {S P M : Int} {w : Mm} {c : Int} (h : RB μ S P M w)  (hS : S ≤ 28900) (hP : P ≤ 500000) : RB μ (S + 56) (P + 600) (M + 1) (o_overwrite μ c w).2 := by
  unfold o_overwrite
  split
  · exact (RB.cal h.ti (by unfold CV; omega) (by decide) (by omega) (by omega)).mono (by omega) (by omega) (by omega)
  · exact h.ti.mono (by omega) (by omega) (by omega)
theorem RBo_delete {μ : MU} {S P M : Int} {w : Mm} {c : Int} (h : RB μ S P M w)  (hS : S ≤ 28900) (hP : P ≤ 500000) : RB μ (S + 56) (P + 600) (M + 1) (o_delete μ c w).2 := by
  unfold o_delete
  split
  · exact (RB.cal h.ti (by unfold CV; omega) (by decide) (by omega) (by omega)).mono (by omega) (by omega) (by omega)
  · exact h.ti.mono (by omega) (by omega) (by omega)
theorem RBo_move {μ : MU} {S P M : Int} {w : Mm} {c : Int} (h : RB μ S P M w)  (hS : S ≤ 28900) (hP : P ≤ 500000) : RB μ (S + 56) (P + 600) (M + 1) (o_move μ c w).2 := by
  unfold o_move
  split
  · exact (RB.cal h.ti (by unfold CV; omega) (by decide) (by omega) (by omega)).mono (by omega) (by omega) (by omega)
  · exact h.ti.mono (by omega) (by omega) (by omega)
theorem RBo_search {μ : MU} {S P M : Int} {w : Mm} {c : Int} (h : RB μ S P M w)  (hS : S ≤ 28900) (hP : P ≤ 500000) : RB μ (S + 56) (P + 600) (M + 1) (o_search μ c w).2 := by
  unfold o_search
  split
  · exact (RB.cal h.ti (by unfold CV; omega) (by decide) (by omega) (by omega)).mono (by omega) (by omega) (by omega)
  · exact h.ti.mono (by omega) (by omega) (by omega)
theorem RBo_kill {μ : MU} {S P M : Int} {w : Mm} {c : Int} (h : RB μ S P M w)  (hS : S ≤ 28900) (hP : P ≤ 500000) : RB μ (S + 56) (P + 600) (M + 1) (o_kill μ c w).2 := by
  unfold o_kill
  split
  · exact (RB.cal h.ti (by unfold CV; omega) (by decide) (by omega) (by omega)).mono (by omega) (by omega) (by omega)
  · exact h.ti.mono (by omega) (by omega) (by omega)
theorem RBo_paste {μ : MU} {S P M : Int} {w : Mm} {c : Int} (h : RB μ S P M w)  (hS : S ≤ 28900) (hP : P ≤ 500000) : RB μ (S + 56) (P + 600) (M + 1) (o_paste μ c w).2 := by
  unfold o_paste
  split
  · exact (RB.cal h.ti (by unfold CV; omega) (by decide) (by omega) (by omega)).mono (by omega) (by omega) (by omega)
  · exact h.ti.mono (by omega) (by omega) (by omega)
theorem RBo_clearMark {μ : MU} {S P M : Int} {w : Mm} {c : Int} (h : RB μ S P M w)  (hS : S ≤ 28900) (hP : P ≤ 500000) : RB μ (S + 56) (P + 600) (M + 1) (o_clearMark μ c w).2 := by
  unfold o_clearMark
  split
  · exact (RB.cal h.ti (by unfold CV; omega) (by decide) (by omega) (by omega)).mono (by omega) (by omega) (by omega)
  · exact h.ti.mono (by omega) (by omega) (by omega)
theorem RBo_jump {μ : MU} {S P M : Int} {w : Mm} {c : Int} (h : RB μ S P M w)  (hS : S ≤ 28900) (hP : P ≤ 500000) : RB μ (S + 56) (P + 600) (M + 1) (o_jump μ c w).2 := by
  unfold o_jump
  split
  · exact (RB.cal h.ti (by unfold CV; omega) (by decide) (by omega) (by omega)).mono (by omega) (by omega) (by omega)
  · exact h.ti.mono (by omega) (by omega) (by omega)
theorem RBo_narrow {μ : MU} {S P M : Int} {w : Mm} {c : Int} (h : RB μ S P M w)  (hS : S ≤ 28900) (hP : P ≤ 500000) : RB μ (S + 56) (P + 600) (M + 1) (o_narrow μ c w).2 := by
  unfold o_narrow
  split
  · exact (RB.cal h.ti (by unfold CV; omega) (by decide) (by omega) (by omega)).mono (by omega) (by omega) (by omega)
  · exact h.ti.mono (by omega) (by omega) (by omega)
theorem RBo_setMark {μ : MU} {S P M : Int} {w : Mm} {c b : Int} (h : RB μ S P M w) (hb : b = 0 ∨ b = 1) (hS : S ≤ 28900) (hP : P ≤ 500000) : RB μ (S + 56) (P + 600) (M + 1) (o_setMark μ c b w).2 := by
  unfold o_setMark
  split
  · exact (RB.cal h.ti (by unfold CV; omega) (by decide) (by omega) (by omega)).mono (by omega) (by omega) (by omega)
  · exact h.ti.mono (by omega) (by omega) (by omega)
theorem RBo_yank {μ : MU} {S P M : Int} {w : Mm}  (h : RB μ S P M w)  (hS : S ≤ 28900) (hP : P ≤ 500000) : RB μ (S + 56) (P + 600) (M + 1) (o_yank μ  w).2 := by
  exact (RB.cal h (by unfold CV; omega) (by decide) (by omega) (by omega)).mono (by omega) (by omega) (by omega)
theorem RBo_rotate {μ : MU} {S P M : Int} {w : Mm}  (h : RB μ S P M w)  (hS : S ≤ 28900) (hP : P ≤ 500000) : RB μ (S + 56) (P + 600) (M + 1) (o_rotate μ  w).2 := by
  exact (RB.cal h (by unfold CV; omega) (by decide) (by omega) (by omega)).mono (by omega) (by omega) (by omega)
theorem RBo_widen {μ : MU} {S P M : Int} {w : Mm}  (h : RB μ S P M w)  (hS : S ≤ 28900) (hP : P ≤ 500000) : RB μ (S + 56) (P + 600) (M + 1) (o_widen μ  w).2 := by
  exact (RB.cal h (by unfold CV; omega) (by decide) (by omega) (by omega)).mono (by omega) (by omega) (by omega)
theorem RBo_copy {μ : MU} {S P M : Int} {w : Mm} {c k : Int} (h : RB μ S P M w)  (hS : S ≤ 28900) (hP : P ≤ 500000) : RB μ (S + 56) (P + 600) (M + 1) (o_copy μ c k w).2 := by
  unfold o_copy
  split
  · split
    · exact (RB.cal h.th (by unfold CV; omega) (by decide) (by omega) (by omega)).mono (by omega) (by omega) (by omega)
    · exact h.th.mono (by omega) (by omega) (by omega)
  · exact h.th.mono (by omega) (by omega) (by omega)
theorem RBo_checkpoint {μ : MU} {S P M : Int} {w : Mm}  (h : RB μ S P M w)  (hS : S ≤ 28900) (hP : P ≤ 500000) : RB μ (S + 56) (P + 600) (M + 1) (o_checkpoint μ  w) := by
  unfold o_checkpoint
  have hcn := (h.2.1.2.2.2.2.2.2 4 (by decide) (by decide)).1
  split
  · exact h.th.mono (by omega) (by omega) (by omega)
  · next hf => exact (RB.ty (RB.recd h.th (by unfold CV; omega) (by rw [th_at (by decide), th_at (by decide)]; intro h1; unfold m_full at hf; omega))).mono (by omega) (by omega) (by omega)
theorem RBo_record {μ : MU} {S P M : Int} {w : Mm} {c : Int} (h : RB μ S P M w)  (hS : S ≤ 28900) (hP : P ≤ 500000) : RB μ (S + 56) (P + 600) (M + 1) (o_record μ c w) := by
  unfold o_record
  split
  · split
    · exact h.th.mono (by omega) (by omega) (by omega)
    · refine RB.mono (S := S) (P := P) (M := M) ?_ (by omega) (by omega) (by omega)
      have h1 := h.th (k := 0)
      refine ⟨((h1.1.up_o (by decide)).up_o (by decide)).up_o (by decide), ?_, ?_, ?_⟩
      · refine RK.up_o ?_ (by decide)
        obtain ⟨k1, k2, k3, k4, k5, k6, k7⟩ := h1.2.1.up_o (c := 133) (a := μ.1) (i := 0) (v := c) (by decide)
        refine ⟨k1.cong fun c a i _ _ _ _ _ => up_k _ (by omega) _ _ _ _ _, k2.cong fun c a i _ _ _ _ _ => up_k _ (by omega) _ _ _ _ _, k3.cong fun c a i _ _ => up_k _ (by omega) _ _ _ _ _, k4.cong fun c a i _ => up_k _ (by omega) _ _ _ _ _, k5.cong fun i => up_k _ (by decide) _ _ _ _ _, k6.cong fun i => up_k _ (by decide) _ _ _ _ _, fun m m0 m5 => ?_⟩
        have := k7 m m0 m5
        rw [up_ii]
        simp (disch := decide) only [up_k] at this ⊢
        split
        · exact ⟨by decide, fun k a b => by omega⟩
        · exact this
      · unfold bZ; simp (disch := decide) only [up_k, up_s, th_at]
        have hz := h.2.2.1
        unfold bZ at hz
        exact ⟨hz.1, by omega, hz.2.2⟩
      · unfold bY; rw [up_s]; intro hh; exact absurd rfl hh
  · exact h.th.mono (by omega) (by omega) (by omega)
theorem RBo_open {μ : MU} {S P M : Int} {w : Mm}  (h : RB μ S P M w)  (hS : S ≤ 28900) (hP : P ≤ 500000) : RB μ (S + 56) (P + 600) (M + 1) (o_open μ  w) := by
  unfold o_open
  have hz := h.2.2.1
  unfold bZ at hz
  refine RB.mono (S := S) (P := P) (M := M) ?_ (by omega) (by omega) (by omega)
  have h1 := h.th (k := w 132 μ.1 0)
  refine ⟨(h1.1.up_o (by decide)).up_o (by decide), (h1.2.1.up_o (by decide)).up_o (by decide), ?_, ?_⟩
  · unfold bZ; simp (disch := decide) only [up_k, up_s, th_at]
    exact ⟨by simp, hz.2.1, hz.2.2.1, hz.2.2.2.1, fun x => by omega⟩
  · unfold bY; simp (disch := decide) only [up_k, up_s, th_at]
    split
    · intro hh; exact absurd rfl hh
    · exact h.2.2.2
theorem RBo_pass {μ : MU} {S P M : Int} {w : Mm} {c : Int} (h : RB μ S P M w)  (hS : S ≤ 28900) (hP : P ≤ 500000) : RB μ (S + 56) (P + 600) (M + 1) (o_pass μ c w) := by
  unfold o_pass
  have hz := h.2.2.1
  unfold bZ at hz
  have key : ∀ (k v : Int), 0 ≤ v ∧ v ≤ 1200 → RB μ S P M (up (m_th μ k w) 130 μ.1 0 v) := fun k v hv => by
    have h1 := h.th (k := k)
    refine ⟨h1.1.up_o (by decide), h1.2.1.up_o (by decide), ?_, ?_⟩
    · unfold bZ; simp (disch := decide) only [up_k, up_s, th_at]
      exact ⟨hz.1, hz.2.1, hz.2.2.1, hv, hz.2.2.2.2⟩
    · unfold bY; simp (disch := decide) only [up_k, th_at]; exact h.2.2.2
  split
  · exact (key _ _ (by split <;> omega)).mono (by omega) (by omega) (by omega)
  · exact (key _ _ hz.2.2.2.1).mono (by omega) (by omega) (by omega)
theorem RBo_setBookmark {μ : MU} {S P M : Int} {w : Mm} {c : Int} (h : RB μ S P M w)  (hS : S ≤ 28900) (hP : P ≤ 500000) : RB μ (S + 56) (P + 600) (M + 1) (o_setBookmark μ c w).2 := by
  unfold o_setBookmark
  split
  · exact (RB.ty (RB.ot h.ti (by decide))).mono (by omega) (by omega) (by omega)
  · exact h.ti.mono (by omega) (by omega) (by omega)
theorem RBo_clearBookmark {μ : MU} {S P M : Int} {w : Mm} {c : Int} (h : RB μ S P M w)  (hS : S ≤ 28900) (hP : P ≤ 500000) : RB μ (S + 56) (P + 600) (M + 1) (o_clearBookmark μ c w).2 := by
  unfold o_clearBookmark
  split
  · exact (RB.ty (RB.ot h.ti (by decide))).mono (by omega) (by omega) (by omega)
  · exact h.ti.mono (by omega) (by omega) (by omega)
theorem RBo_listen {μ : MU} {S P M : Int} {w : Mm} {c a b d : Int} (h : RB μ S P M w)  (hS : S ≤ 28900) (hP : P ≤ 500000) : RB μ (S + 56) (P + 600) (M + 1) (o_listen μ c a b d w) := by
  unfold o_listen
  split
  · split
    · next h2 =>
      refine RB.mono (S := S) (P := P) (M := M) (RB.ty (RB.ot ?_ (by decide))) (by omega) (by omega) (by omega)
      have h1 := RB.ot (RB.ot (h.th (k := 0)) (c := 228) (a := 0) (i := c) (v := 1) (by decide)) (c := 229) (a := 0) (i := c) (v := a) (by decide)
      obtain ⟨k1, k2, k3, k4, k5, k6, k7⟩ := h1.2.1
      refine ⟨h1.1.up_o (by decide), ⟨k1.cong fun c a i _ _ _ _ _ => up_k _ (by omega) _ _ _ _ _, k2.cong fun c a i _ _ _ _ _ => up_k _ (by omega) _ _ _ _ _, k3.cong fun c a i _ _ => up_k _ (by omega) _ _ _ _ _, k4.cong fun c a i _ => up_k _ (by omega) _ _ _ _ _, k5.cong fun i => up_k _ (by decide) _ _ _ _ _, fun i x y => ?_, k7.cong (fun i => up_k _ (by decide) _ _ _ _ _) (fun i => up_k _ (by decide) _ _ _ _ _)⟩, ?_, ?_⟩
      · rw [up_ii]
        split
        · omega
        · exact k6 i x y
      · have := h1.2.2.1
        unfold bZ at this ⊢
        rw [up_k _ (by decide), up_k _ (by decide), up_k _ (by decide), up_k _ (by decide), up_k _ (by decide), up_k _ (by decide), up_k _ (by decide)]; exact this
      · have := h1.2.2.2
        unfold bY at this ⊢
        rw [up_k _ (show (129 : Nat) ≠ 230 by decide), up_k _ (show (120 : Nat) ≠ 230 by decide), up_k _ (show (212 : Nat) ≠ 230 by decide), up_k _ (show (201 : Nat) ≠ 230 by decide)]; exact this
    · exact h.th.mono (by omega) (by omega) (by omega)
  · exact h.th.mono (by omega) (by omega) (by omega)
theorem RBo_unlisten {μ : MU} {S P M : Int} {w : Mm} {c : Int} (h : RB μ S P M w)  (hS : S ≤ 28900) (hP : P ≤ 500000) : RB μ (S + 56) (P + 600) (M + 1) (o_unlisten μ c w).2 := by
  unfold o_unlisten
  split
  · exact (RB.ty (RB.ot h.th (by decide))).mono (by omega) (by omega) (by omega)
  · exact h.th.mono (by omega) (by omega) (by omega)
theorem RBo_length {μ : MU} {S P M : Int} {w : Mm}  (h : RB μ S P M w)  (hS : S ≤ 28900) (hP : P ≤ 500000) : RB μ (S + 56) (P + 600) (M + 1) (o_length μ  w).2 := by
  exact (h.th).mono (by omega) (by omega) (by omega)
theorem RBo_point {μ : MU} {S P M : Int} {w : Mm}  (h : RB μ S P M w)  (hS : S ≤ 28900) (hP : P ≤ 500000) : RB μ (S + 56) (P + 600) (M + 1) (o_point μ  w).2 := by
  exact (h.th).mono (by omega) (by omega) (by omega)
theorem RBo_lines {μ : MU} {S P M : Int} {w : Mm}  (h : RB μ S P M w)  (hS : S ≤ 28900) (hP : P ≤ 500000) : RB μ (S + 56) (P + 600) (M + 1) (o_lines μ  w).2 := by
  exact (h.th).mono (by omega) (by omega) (by omega)
theorem RBo_viewStart {μ : MU} {S P M : Int} {w : Mm}  (h : RB μ S P M w)  (hS : S ≤ 28900) (hP : P ≤ 500000) : RB μ (S + 56) (P + 600) (M + 1) (o_viewStart μ  w).2 := by
  exact (h.th).mono (by omega) (by omega) (by omega)
theorem RBo_viewEnd {μ : MU} {S P M : Int} {w : Mm}  (h : RB μ S P M w)  (hS : S ≤ 28900) (hP : P ≤ 500000) : RB μ (S + 56) (P + 600) (M + 1) (o_viewEnd μ  w).2 := by
  exact (h.th).mono (by omega) (by omega) (by omega)
theorem RBo_now {μ : MU} {S P M : Int} {w : Mm}  (h : RB μ S P M w)  (hS : S ≤ 28900) (hP : P ≤ 500000) : RB μ (S + 56) (P + 600) (M + 1) (o_now μ  w).2 := by
  exact (h.th).mono (by omega) (by omega) (by omega)
theorem RBo_nodes {μ : MU} {S P M : Int} {w : Mm}  (h : RB μ S P M w)  (hS : S ≤ 28900) (hP : P ≤ 500000) : RB μ (S + 56) (P + 600) (M + 1) (o_nodes μ  w).2 := by
  exact (h.th).mono (by omega) (by omega) (by omega)
theorem RBo_failureReason {μ : MU} {S P M : Int} {w : Mm}  (h : RB μ S P M w)  (hS : S ≤ 28900) (hP : P ≤ 500000) : RB μ (S + 56) (P + 600) (M + 1) (o_failureReason μ  w).2 := by
  exact (h.th).mono (by omega) (by omega) (by omega)
theorem RBo_failureCommand {μ : MU} {S P M : Int} {w : Mm}  (h : RB μ S P M w)  (hS : S ≤ 28900) (hP : P ≤ 500000) : RB μ (S + 56) (P + 600) (M + 1) (o_failureCommand μ  w).2 := by
  exact (h.th).mono (by omega) (by omega) (by omega)
theorem RBo_charAt {μ : MU} {S P M : Int} {w : Mm} {c : Int} (h : RB μ S P M w)  (hS : S ≤ 28900) (hP : P ≤ 500000) : RB μ (S + 56) (P + 600) (M + 1) (o_charAt μ c w).2 := by
  unfold o_charAt
  split
  · exact h.th.mono (by omega) (by omega) (by omega)
  · exact h.th.mono (by omega) (by omega) (by omega)
theorem RBo_lineOf {μ : MU} {S P M : Int} {w : Mm} {c : Int} (h : RB μ S P M w)  (hS : S ≤ 28900) (hP : P ≤ 500000) : RB μ (S + 56) (P + 600) (M + 1) (o_lineOf μ c w).2 := by
  unfold o_lineOf
  split
  · exact h.th.mono (by omega) (by omega) (by omega)
  · exact h.th.mono (by omega) (by omega) (by omega)
theorem RBo_commands {μ : MU} {S P M : Int} {w : Mm} {c : Int} (h : RB μ S P M w)  (hS : S ≤ 28900) (hP : P ≤ 500000) : RB μ (S + 56) (P + 600) (M + 1) (o_commands μ c w).2 := by
  unfold o_commands
  split
  · exact h.th.mono (by omega) (by omega) (by omega)
  · exact h.th.mono (by omega) (by omega) (by omega)
theorem RBo_listenerChain {μ : MU} {S P M : Int} {w : Mm} {c : Int} (h : RB μ S P M w)  (hS : S ≤ 28900) (hP : P ≤ 500000) : RB μ (S + 56) (P + 600) (M + 1) (o_listenerChain μ c w).2 := by
  unfold o_listenerChain
  split
  · exact h.th.mono (by omega) (by omega) (by omega)
  · exact h.th.mono (by omega) (by omega) (by omega)
theorem RBo_lineStart {μ : MU} {S P M : Int} {w : Mm} {c : Int} (h : RB μ S P M w)  (hS : S ≤ 28900) (hP : P ≤ 500000) : RB μ (S + 56) (P + 600) (M + 1) (o_lineStart μ c w).2 := by
  unfold o_lineStart
  split
  · exact h.th.mono (by omega) (by omega) (by omega)
  · exact h.th.mono (by omega) (by omega) (by omega)
theorem RBo_markAt {μ : MU} {S P M : Int} {w : Mm} {c : Int} (h : RB μ S P M w)  (hS : S ≤ 28900) (hP : P ≤ 500000) : RB μ (S + 56) (P + 600) (M + 1) (o_markAt μ c w).2 := by
  unfold o_markAt
  split
  · exact h.ti.mono (by omega) (by omega) (by omega)
  · exact h.ti.mono (by omega) (by omega) (by omega)
theorem RBo_parentOf {μ : MU} {S P M : Int} {w : Mm} {c : Int} (h : RB μ S P M w)  (hS : S ≤ 28900) (hP : P ≤ 500000) : RB μ (S + 56) (P + 600) (M + 1) (o_parentOf μ c w).2 := by
  unfold o_parentOf
  split
  · exact h.ti.mono (by omega) (by omega) (by omega)
  · exact h.ti.mono (by omega) (by omega) (by omega)
theorem RBo_bookmarkAt {μ : MU} {S P M : Int} {w : Mm} {c : Int} (h : RB μ S P M w)  (hS : S ≤ 28900) (hP : P ≤ 500000) : RB μ (S + 56) (P + 600) (M + 1) (o_bookmarkAt μ c w).2 := by
  unfold o_bookmarkAt
  split
  · exact h.ti.mono (by omega) (by omega) (by omega)
  · exact h.ti.mono (by omega) (by omega) (by omega)
theorem RBo_entries {μ : MU} {S P M : Int} {w : Mm} {c : Int} (h : RB μ S P M w)  (hS : S ≤ 28900) (hP : P ≤ 500000) : RB μ (S + 56) (P + 600) (M + 1) (o_entries μ c w).2 := by
  unfold o_entries
  split
  · exact h.ti.mono (by omega) (by omega) (by omega)
  · exact h.ti.mono (by omega) (by omega) (by omega)
theorem RBo_entryLength {μ : MU} {S P M : Int} {w : Mm} {s e : Int} (h : RB μ S P M w)  (hS : S ≤ 28900) (hP : P ≤ 500000) : RB μ (S + 56) (P + 600) (M + 1) (o_entryLength μ s e w).2 := by
  unfold o_entryLength
  split
  · exact h.ti.mono (by omega) (by omega) (by omega)
  · exact h.ti.mono (by omega) (by omega) (by omega)
theorem RBo_entryChar {μ : MU} {S P M : Int} {w : Mm} {s e k : Int} (h : RB μ S P M w)  (hS : S ≤ 28900) (hP : P ≤ 500000) : RB μ (S + 56) (P + 600) (M + 1) (o_entryChar μ s e k w).2 := by
  unfold o_entryChar
  split
  · split
    · exact (RB.th h.ti).mono (by omega) (by omega) (by omega)
    · exact (RB.th h.ti).mono (by omega) (by omega) (by omega)
  · exact h.ti.mono (by omega) (by omega) (by omega)
