/-- where the command that level l has next lies -/
def m_gat (l : Int) (w : Mm) : Int := 48 * w 237 0 l + 3 * w 239 0 l
def m_gpl (l : Int) (w : Mm) : Mm := up w 239 0 l (w 239 0 l + 1)
def m_gdn (l a b : Int) (w : Mm) : Mm := up (up (up w 237 0 (l + 1) a) 238 0 (l + 1) b) 239 0 (l + 1) 0
def m_gdo (μ : MU) (l : Int) (w : Mm) : Int × Mm := m_does μ (w 235 0 (m_gat l w)) (w 235 0 (m_gat l w + 1)) (w 235 0 (m_gat l w + 2)) (m_gpl l w)
def m_grun (μ : MU) : Nat → Int → Int → Int → Int → Mm → Option (Int × Int × Int × Mm)
  | 0, _, _, _, _, _ => none
  | n + 1, l, s, t, r, w =>
    if l ≤ 0 ∨ r ≠ 0 then some (s, t, r, w)
    else if w 238 0 l = 0 ∨ w 236 0 (w 237 0 l) = 0 then m_grun μ n (l - 1) s t r w
    else if w 239 0 l = w 236 0 (w 237 0 l) then m_grun μ n l s t r (up (up w 239 0 l 0) 238 0 l (w 238 0 l - 1))
    else if s = 24 then m_grun μ n l s t 8 (m_fail μ 8 (w 237 0 l) (w 239 0 l) w)
    else if w 235 0 (m_gat l w) = 16 then m_grun μ n l (s + 1) (s + 1) r (m_saves μ 3 (m_gpl l w))
    else if w 235 0 (m_gat l w) ≠ 15 then
      (if (m_gdo μ l w).1 = 0 then m_grun μ n l (s + 1) t 0 (m_gdo μ l w).2 else m_grun μ n l (s + 1) t (m_gdo μ l w).1 (m_fail μ (m_gdo μ l w).1 (w 237 0 l) (w 239 0 l) (m_gdo μ l w).2))
    else if l = 5 then m_grun μ n l (s + 1) t 7 (m_fail μ 7 (w 237 0 l) (w 239 0 l) (m_gpl l w))
    else m_grun μ n (l + 1) (s + 1) t r (m_gdn l (w 235 0 (m_gat l w + 1)) (w 235 0 (m_gat l w + 2)) (m_gpl l w))
def bGs (l : Int) (w : Mm) : Prop := ∀ i, 1 ≤ i → i ≤ l → (0 ≤ w 237 0 i ∧ w 237 0 i ≤ 3) ∧ (0 ≤ w 238 0 i ∧ w 238 0 i ≤ 10) ∧ (0 ≤ w 239 0 i ∧ w 239 0 i ≤ w 236 0 (w 237 0 i))
def GI (μ : MU) (S P M l s : Int) (w : Mm) : Prop := LB μ (S + 2 * s) (P + 20 * s) w ∧ RK μ (S + 2 * s) (P + 20 * s) M w ∧ bGs l w ∧ (l ≤ 5 ∧ 0 ≤ s ∧ s ≤ 24)
theorem bGs.cong {l : Int} {w w' : Mm} (h : bGs l w) (e : ∀ c i, c = 237 ∨ c = 238 ∨ c = 239 ∨ c = 236 → w' c 0 i = w c 0 i) : bGs l w' := by
  intro i a b
  rw [e _ _ (by omega), e _ _ (by omega), e _ _ (by omega), e _ _ (by omega)]; exact h i a b
theorem GI.pop {μ : MU} {S P M l s : Int} {w : Mm} (h : GI μ S P M l s w) : GI μ S P M (l - 1) s w := ⟨h.1, h.2.1, fun i a b => h.2.2.1 i a (by omega), by have := h.2.2.2; omega⟩
theorem GI.nx {μ : MU} {S P M l s : Int} {w : Mm} (h : GI μ S P M l s w) (hl : 1 ≤ l) (h8 : w 238 0 l ≠ 0) : GI μ S P M l s (up (up w 239 0 l 0) 238 0 l (w 238 0 l - 1)) := by
  obtain ⟨h1, h2, h3, h4⟩ := h
  refine ⟨(h1.up_o (by decide)).up_o (by decide), (h2.up_o (by decide)).up_o (by decide), fun i a b => ?_, h4⟩
  have hi := h3 i a b
  have hc := (h2.2.2.2.2.2.2 (w 237 0 i) hi.1.1 (by omega)).1
  simp (disch := decide) only [up_k, up_ii]
  by_cases c : i = l
  · subst c; rw [if_pos rfl, if_pos rfl]; omega
  · rw [if_neg c, if_neg c]; exact hi
theorem GI.fl {μ : MU} {S P M l s r m p : Int} {w : Mm} (h : GI μ S P M l s w) : GI μ S P M l s (m_fail μ r m p w) := by
  obtain ⟨h1, h2, h3, h4⟩ := h
  refine ⟨(h1.up_o (by decide)).up_o (by decide), (h2.up_o (by decide)).up_o (by decide), h3.cong fun c i hc => ?_, h4⟩
  unfold m_fail
  rw [up_k _ (by omega), up_k _ (by omega)]
/-- the next command is begun -/
theorem GI.on {μ : MU} {S P M l s : Int} {w : Mm} (h : GI μ S P M l s w) (hl : 1 ≤ l) (hp : w 239 0 l ≠ w 236 0 (w 237 0 l)) (hs : s ≠ 24) : GI μ S P M l (s + 1) (m_gpl l w) := by
  obtain ⟨h1, h2, h3, h4⟩ := h
  refine ⟨(h1.up_o (by decide)).mono (by omega) (by omega), (h2.up_o (by decide)).mono (by omega) (by omega), fun i a b => ?_, by omega⟩
  have hi := h3 i a b
  unfold m_gpl
  simp (disch := decide) only [up_k, up_ii]
  by_cases c : i = l
  · subst c; rw [if_pos rfl]; omega
  · rw [if_neg c]; exact hi
theorem GI.cv {μ : MU} {S P M l s : Int} {w : Mm} (h : GI μ S P M l s w) (hl : 1 ≤ l) (hp : w 239 0 l ≠ w 236 0 (w 237 0 l)) : CV (w 235 0 (m_gat l w)) (w 235 0 (m_gat l w + 1)) (w 235 0 (m_gat l w + 2)) ∧ (0 ≤ m_gat l w ∧ m_gat l w ≤ 189) ∧ (0 ≤ w 237 0 l ∧ w 237 0 l ≤ 3) ∧ (0 ≤ w 239 0 l ∧ w 239 0 l ≤ 15) := by
  obtain ⟨h1, h2, h3, h4⟩ := h
  have hi := h3 l hl (Int.le_refl _)
  have hc := h2.2.2.2.2.2.2 (w 237 0 l) hi.1.1 (by omega)
  have := hc.2 (w 239 0 l) hi.2.2.1 (by omega)
  refine ⟨this, ?_, hi.1, by omega⟩
  unfold m_gat; omega
theorem GI.sv {μ : MU} {S P M l s : Int} {w : Mm} (h : GI μ S P M l s w) : GI μ S P M l s (m_saves μ 3 w) := by
  obtain ⟨h1, h2, h3, h4⟩ := h
  exact ⟨h1.saves (by decide), h2.saves h1 (by decide), h3.cong fun c i hc => saves_at (by omega), h4⟩
theorem GI.dn {μ : MU} {S P M l s a b : Int} {w : Mm} (h : GI μ S P M l s w) (hl : l ≠ 5) (ha : 0 ≤ a ∧ a ≤ 3) (hb : 0 ≤ b ∧ b ≤ 10) : GI μ S P M (l + 1) s (m_gdn l a b w) := by
  obtain ⟨h1, h2, h3, h4⟩ := h
  refine ⟨((h1.up_o (by decide)).up_o (by decide)).up_o (by decide), ((h2.up_o (by decide)).up_o (by decide)).up_o (by decide), fun i x y => ?_, by omega⟩
  unfold m_gdn
  simp (disch := decide) only [up_k, up_ii]
  by_cases c : i = l + 1
  · rw [if_pos c, if_pos c, if_pos c]
    have := (h2.2.2.2.2.2.2 a ha.1 (by omega)).1
    exact ⟨ha, hb, by omega, by omega⟩
  · rw [if_neg c, if_neg c, if_neg c]; exact h3 i x (by omega)
/-- of a command that is done: s counts it already -/
theorem GI.ds {μ : MU} {S P M l s c a b : Int} {w w1 : Mm} (h : GI μ S P M l s w) (hs : s ≠ 24) (e : GI μ S P M l (s + 1) w1) (h0 : LB μ (S + 2 * s) (P + 20 * s) w1) (hv : CV c a b) (hc : c ≤ 14) : GI μ S P M l (s + 1) (m_does μ c a b w1).2 := by
  have hL := LO.does h0 hv hc
  exact ⟨(h0.does hv).mono (by omega) (by omega), e.2.1.lo hL, e.2.2.1.cong fun c i hc => hL.2 _ _ _ (by omega) (by unfold LOk; simp; omega), e.2.2.2⟩
theorem GI.f {μ : MU} {S P M l s : Int} {w : Mm} (h : GI μ S P M l s w) (hl : 1 ≤ l) : (0 ≤ w 237 0 l ∧ w 237 0 l ≤ 3) ∧ (0 ≤ w 238 0 l ∧ w 238 0 l ≤ 10) ∧ (0 ≤ w 239 0 l ∧ w 239 0 l ≤ w 236 0 (w 237 0 l)) ∧ (0 ≤ w 236 0 (w 237 0 l) ∧ w 236 0 (w 237 0 l) ≤ 16) := by
  have hi := h.2.2.1 l hl (Int.le_refl _)
  exact ⟨hi.1, hi.2.1, hi.2.2, (h.2.1.2.2.2.2.2.2 (w 237 0 l) hi.1.1 (by omega)).1⟩
def m_gst (μ : MU) (m k : Int) (w : Mm) : Mm := up (up (up (up (up w 237 0 1 m) 238 0 1 k) 239 0 1 0) 134 μ.1 0 0) 135 μ.1 0 (-1)
def m_gen (μ : MU) (q : Int × Int × Int × Mm) : Int × Mm := if q.2.2.1 > 0 then (q.2.1, m_rest μ 3 0 q.2.2.2) else (q.1, q.2.2.2)
theorem grun_step {μ : MU} {n : Nat} {l s t r : Int} {w : Mm} : m_grun μ (n + 1) l s t r w =
    if l ≤ 0 ∨ r ≠ 0 then some (s, t, r, w)
    else if w 238 0 l = 0 ∨ w 236 0 (w 237 0 l) = 0 then m_grun μ n (l - 1) s t r w
    else if w 239 0 l = w 236 0 (w 237 0 l) then m_grun μ n l s t r (up (up w 239 0 l 0) 238 0 l (w 238 0 l - 1))
    else if s = 24 then m_grun μ n l s t 8 (m_fail μ 8 (w 237 0 l) (w 239 0 l) w)
    else if w 235 0 (m_gat l w) = 16 then m_grun μ n l (s + 1) (s + 1) r (m_saves μ 3 (m_gpl l w))
    else if w 235 0 (m_gat l w) ≠ 15 then
      (if (m_gdo μ l w).1 = 0 then m_grun μ n l (s + 1) t 0 (m_gdo μ l w).2 else m_grun μ n l (s + 1) t (m_gdo μ l w).1 (m_fail μ (m_gdo μ l w).1 (w 237 0 l) (w 239 0 l) (m_gdo μ l w).2))
    else if l = 5 then m_grun μ n l (s + 1) t 7 (m_fail μ 7 (w 237 0 l) (w 239 0 l) (m_gpl l w))
    else m_grun μ n (l + 1) (s + 1) t r (m_gdn l (w 235 0 (m_gat l w + 1)) (w 235 0 (m_gat l w + 2)) (m_gpl l w)) := rfl
