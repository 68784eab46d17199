def m_th (μ : MU) (k : Int) (w : Mm) : Mm := up w 139 μ.1 0 k
def m_ti (μ : MU) (p : Prop) [Decidable p] (w : Mm) : Mm := up w 139 μ.1 0 (if p then 0 else 1)
theorem th_at {μ : MU} {k : Int} {w : Mm} {c : Nat} {a i : Int} (h : c ≠ 139) : m_th μ k w c a i = w c a i := up_k _ h _ _ _ _ _
theorem ti_at {μ : MU} {p : Prop} [Decidable p] {w : Mm} {c : Nat} {a i : Int} (h : c ≠ 139) : m_ti μ p w c a i = w c a i := up_k _ h _ _ _ _ _
theorem RB.fld {μ : MU} {S P M : Int} {w : Mm} (h : RB μ S P M w) {c : Nat} {a i v : Int} (hc : c = 131 ∨ (133 < c ∧ c < 200)) : RB μ S P M (up w c a i v) := by
  obtain ⟨h1, h2, h3, h4⟩ := h
  refine ⟨h1.up_o (c := c) (by omega), h2.up_o (c := c) (by omega), ?_, ?_⟩
  · unfold bZ at *
    rw [up_k _ (by omega), up_k _ (by omega), up_k _ (by omega), up_k _ (by omega), up_k _ (by omega), up_k _ (by omega), up_k _ (by omega)]; exact h3
  · unfold bY at *
    rw [up_k _ (by omega), up_k _ (by omega), up_k _ (by omega), up_k _ (by omega)]; exact h4
theorem RB.ti {μ : MU} {S P M : Int} {w : Mm} (h : RB μ S P M w) {p : Prop} [Decidable p] : RB μ S P M (m_ti μ p w) := h.fld (by omega)
theorem RB.th {μ : MU} {S P M : Int} {w : Mm} (h : RB μ S P M w) {k : Int} : RB μ S P M (m_th μ k w) := h.fld (by omega)
abbrev isC (c : Int) : Prop := c = 10 ∨ (32 ≤ c ∧ c ≤ 126)
abbrev isN (μ : MU) (k : Int) (w : Mm) : Prop := (0 ≤ k ∧ k ≤ w 124 μ.1 0 - 1) ∧ w 216 0 k = 1
def m_fee (p : Int) (w : Mm) : Int := sumN (fun k => bi (w 200 0 k = 10)) p.toNat
abbrev isE (s e : Int) (w : Mm) : Prop := (0 ≤ s ∧ s ≤ 4) ∧ (0 ≤ e ∧ e ≤ w 204 0 s - 1)
def o_overwrite (μ : MU) (c : Int) (w : Mm) : Int × Mm := if isC c then m_cal μ 1 c 0 2 (m_ti μ (isC c) w) else (0, m_ti μ (isC c) w)
def o_delete (μ : MU) (c : Int) (w : Mm) : Int × Mm := if 1 ≤ c ∧ c ≤ 20 then m_cal μ 2 c 0 2 (m_ti μ (1 ≤ c ∧ c ≤ 20) w) else (0, m_ti μ (1 ≤ c ∧ c ≤ 20) w)
def o_move (μ : MU) (c : Int) (w : Mm) : Int × Mm := if -50 ≤ c ∧ c ≤ 50 then m_cal μ 3 c 0 2 (m_ti μ (-50 ≤ c ∧ c ≤ 50) w) else (0, m_ti μ (-50 ≤ c ∧ c ≤ 50) w)
def o_search (μ : MU) (c : Int) (w : Mm) : Int × Mm := if isC c then m_cal μ 4 c 0 2 (m_ti μ (isC c) w) else (0, m_ti μ (isC c) w)
def o_kill (μ : MU) (c : Int) (w : Mm) : Int × Mm := if 1 ≤ c ∧ c ≤ 20 then m_cal μ 5 c 0 2 (m_ti μ (1 ≤ c ∧ c ≤ 20) w) else (0, m_ti μ (1 ≤ c ∧ c ≤ 20) w)
def o_yank (μ : MU)  (w : Mm) : Int × Mm := m_cal μ 6 0 0 1 w
def o_rotate (μ : MU)  (w : Mm) : Int × Mm := m_cal μ 7 0 0 1 w
def o_copy (μ : MU) (c k : Int) (w : Mm) : Int × Mm := if 0 ≤ c ∧ c ≤ 3 then (if 1 ≤ k ∧ k ≤ 20 then m_cal μ 8 c k 3 (m_th μ 0 w) else (0, m_th μ 2 w)) else (0, m_th μ 1 w)
def o_paste (μ : MU) (c : Int) (w : Mm) : Int × Mm := if 0 ≤ c ∧ c ≤ 3 then m_cal μ 9 c 0 2 (m_ti μ (0 ≤ c ∧ c ≤ 3) w) else (0, m_ti μ (0 ≤ c ∧ c ≤ 3) w)
def o_setMark (μ : MU) (c b : Int) (w : Mm) : Int × Mm := if 0 ≤ c ∧ c ≤ 5 then m_cal μ 10 c b 2 (m_ti μ (0 ≤ c ∧ c ≤ 5) w) else (0, m_ti μ (0 ≤ c ∧ c ≤ 5) w)
def o_clearMark (μ : MU) (c : Int) (w : Mm) : Int × Mm := if 0 ≤ c ∧ c ≤ 5 then m_cal μ 11 c 0 2 (m_ti μ (0 ≤ c ∧ c ≤ 5) w) else (0, m_ti μ (0 ≤ c ∧ c ≤ 5) w)
def o_jump (μ : MU) (c : Int) (w : Mm) : Int × Mm := if 0 ≤ c ∧ c ≤ 5 then m_cal μ 12 c 0 2 (m_ti μ (0 ≤ c ∧ c ≤ 5) w) else (0, m_ti μ (0 ≤ c ∧ c ≤ 5) w)
def o_narrow (μ : MU) (c : Int) (w : Mm) : Int × Mm := if 0 ≤ c ∧ c ≤ 5 then m_cal μ 13 c 0 2 (m_ti μ (0 ≤ c ∧ c ≤ 5) w) else (0, m_ti μ (0 ≤ c ∧ c ≤ 5) w)
def o_widen (μ : MU)  (w : Mm) : Int × Mm := m_cal μ 14 0 0 1 w
def o_checkpoint (μ : MU)  (w : Mm) : Mm := if m_full μ w then m_th μ 1 w else up (m_rec μ 16 0 0 (m_th μ 0 w)) 129 μ.1 0 (-1)
def o_record (μ : MU) (c : Int) (w : Mm) : Mm := if 0 ≤ c ∧ c ≤ 3 then (if w 133 μ.1 0 ≠ -1 then m_th μ 2 w else up (up (up (m_th μ 0 w) 133 μ.1 0 c) 236 0 4 0) 129 μ.1 0 (-1)) else m_th μ 1 w
def o_open (μ : MU)  (w : Mm) : Mm := up (up (m_th μ (w 132 μ.1 0) w) 132 μ.1 0 1) 129 μ.1 0 (if w 132 μ.1 0 = 0 then -1 else w 129 μ.1 0)
def o_pass (μ : MU) (c : Int) (w : Mm) : Mm := if 1 ≤ c ∧ c ≤ 100 then up (m_th μ 0 w) 130 μ.1 0 (if w 130 μ.1 0 < 1000 then w 130 μ.1 0 + c else w 130 μ.1 0) else up (m_th μ 1 w) 130 μ.1 0 (w 130 μ.1 0)
def m_mkN (μ : MU) (k v : Int) (w : Mm) : Mm := up (up w 227 0 k v) 129 μ.1 0 (-1)
def o_setBookmark (μ : MU) (c : Int) (w : Mm) : Int × Mm := if 0 ≤ c ∧ c ≤ 4 then (w 227 0 c, m_mkN μ c (w 126 μ.1 0) (m_ti μ (0 ≤ c ∧ c ≤ 4) w)) else (0, m_ti μ (0 ≤ c ∧ c ≤ 4) w)
def o_clearBookmark (μ : MU) (c : Int) (w : Mm) : Int × Mm := if 0 ≤ c ∧ c ≤ 4 then (w 227 0 c, m_mkN μ c (-1) (m_ti μ (0 ≤ c ∧ c ≤ 4) w)) else (0, m_ti μ (0 ≤ c ∧ c ≤ 4) w)
def o_listen (μ : MU) (c a b d : Int) (w : Mm) : Mm := if 0 ≤ c ∧ c ≤ 2 then (if isC a ∧ isC b ∧ (0 ≤ d ∧ d ≤ 9) ∧ a ≠ b then up (up (up (up (up (m_th μ 0 w) 228 0 c 1) 229 0 c a) 230 0 c b) 231 0 c d) 129 μ.1 0 (-1) else m_th μ 2 w) else m_th μ 1 w
def o_unlisten (μ : MU) (c : Int) (w : Mm) : Int × Mm := if 0 ≤ c ∧ c ≤ 2 then (bi (w 228 0 c = 1), up (up (m_th μ 0 w) 228 0 c 0) 129 μ.1 0 (-1)) else (0, m_th μ 1 w)
def o_length (μ : MU)  (w : Mm) : Int × Mm := (w 201 0 0, m_th μ 0 w)
def o_charAt (μ : MU) (c : Int) (w : Mm) : Int × Mm := if 0 ≤ c ∧ c ≤ w 201 0 0 - 1 then (w 200 0 c, m_th μ 0 w) else (0, m_th μ 1 w)
def o_point (μ : MU)  (w : Mm) : Int × Mm := (w 207 0 0, m_th μ 0 w)
theorem fee_rng {p : Int} {w : Mm} (hp : 0 ≤ p) : 0 ≤ m_fee p w ∧ m_fee p w ≤ p := by
  have key : ∀ n : Nat, sumN (fun k => bi (w 200 0 k = 10)) n ≤ n := fun n => by
    induction n with
    | zero => exact Int.le_refl _
    | succ n ih =>
      have : bi (w 200 0 n = 10) ≤ 1 := by unfold bi; split <;> omega
      simp only [sumN]; omega
  have h1 := key p.toNat
  have h2 := sumN_nn (f := fun k => bi (w 200 0 k = 10)) (fun _ => bi_n) p.toNat
  unfold m_fee; omega
theorem fee_cong {p : Int} {w w' : Mm} (h : ∀ i, w' 200 0 i = w 200 0 i) : m_fee p w' = m_fee p w := by
  unfold m_fee; congr 1; funext k; rw [h]
theorem fee_up {p : Int} {w : Mm} {c : Nat} {a i v : Int} (h : c ≠ 200) : m_fee p (up w c a i v) = m_fee p w := fee_cong fun j => up_k _ (by omega) _ _ _ _ _
def m_lns (l : Int) (w : Mm) : Int := fnd (fun p => bi (m_fee p w ≥ l)) 1 (w 201 0 0 + 1).toNat 0
def o_lines (μ : MU)  (w : Mm) : Int × Mm := (m_fee (w 201 0 0) w + 1, m_th μ 0 w)
def o_lineOf (μ : MU) (c : Int) (w : Mm) : Int × Mm := if 0 ≤ c ∧ c ≤ w 201 0 0 then (m_fee c w, m_th μ 0 w) else (0, m_th μ 1 w)
def o_markAt (μ : MU) (c : Int) (w : Mm) : Int × Mm := if 0 ≤ c ∧ c ≤ 5 then (w 202 0 c, m_ti μ (0 ≤ c ∧ c ≤ 5) w) else (0, m_ti μ (0 ≤ c ∧ c ≤ 5) w)
theorem th_vF {μ : MU} {k : Int} {w : Mm} : m_vF (up w 139 μ.1 0 k) = m_vF w := up_vF (by decide)
theorem th_vT {μ : MU} {k : Int} {w : Mm} : m_vT (up w 139 μ.1 0 k) = m_vT w := up_vT (by decide)
def o_viewStart (μ : MU)  (w : Mm) : Int × Mm := (m_vF w, m_th μ 0 w)
def o_viewEnd (μ : MU)  (w : Mm) : Int × Mm := (m_vT w, m_th μ 0 w)
def o_now (μ : MU)  (w : Mm) : Int × Mm := (w 126 μ.1 0, m_th μ 0 w)
def o_nodes (μ : MU)  (w : Mm) : Int × Mm := (w 125 μ.1 0, m_th μ 0 w)
def o_parentOf (μ : MU) (c : Int) (w : Mm) : Int × Mm := if isN μ c w then (w 217 0 c, m_ti μ (isN μ c w) w) else (0, m_ti μ (isN μ c w) w)
def o_bookmarkAt (μ : MU) (c : Int) (w : Mm) : Int × Mm := if 0 ≤ c ∧ c ≤ 4 then (w 227 0 c, m_ti μ (0 ≤ c ∧ c ≤ 4) w) else (0, m_ti μ (0 ≤ c ∧ c ≤ 4) w)
def o_entries (μ : MU) (c : Int) (w : Mm) : Int × Mm := if 0 ≤ c ∧ c ≤ 4 then (w 204 0 c, m_ti μ (0 ≤ c ∧ c ≤ 4) w) else (0, m_ti μ (0 ≤ c ∧ c ≤ 4) w)
def o_entryLength (μ : MU) (s e : Int) (w : Mm) : Int × Mm := if isE s e w then (w 205 0 (4 * s + e), m_ti μ (isE s e w) w) else (0, m_ti μ (isE s e w) w)
def o_entryChar (μ : MU) (s e k : Int) (w : Mm) : Int × Mm := if isE s e w then (if 0 ≤ k ∧ k ≤ w 205 0 (4 * s + e) - 1 then (w 206 0 (80 * s + 20 * e + k), m_th μ 0 (m_ti μ (isE s e w) w)) else (0, m_th μ 1 (m_ti μ (isE s e w) w))) else (0, m_ti μ (isE s e w) w)
def o_commands (μ : MU) (c : Int) (w : Mm) : Int × Mm := if 0 ≤ c ∧ c ≤ 3 then (w 236 0 c, m_th μ 0 w) else (0, m_th μ 1 w)
def o_failureReason (μ : MU)  (w : Mm) : Int × Mm := (w 134 μ.1 0, m_th μ 0 w)
def o_failureCommand (μ : MU)  (w : Mm) : Int × Mm := (w 135 μ.1 0, m_th μ 0 w)
def o_listenerChain (μ : MU) (c : Int) (w : Mm) : Int × Mm := if 0 ≤ c ∧ c ≤ 7 then (w 232 0 c, m_th μ 0 w) else (0, m_th μ 1 w)
