/-! the run of a macro comes to an end; what it leaves alone -/
def gph (l s r : Int) (w : Mm) : Int := sumN (fun i => w 238 0 (i + 1) + 1) l.toNat + 13 * (24 - s) + (if r = 0 then 1 else 0)
theorem sumN_cong {f g : Int → Int} : ∀ {n : Nat}, (∀ k : Int, 0 ≤ k → k < n → f k = g k) → sumN f n = sumN g n
  | 0, _ => rfl
  | n + 1, h => by
    simp only [sumN]
    rw [sumN_cong (n := n) fun k a b => h k a (by omega), h n (by omega) (by omega)]
def gfK (c : Nat) : Bool := decide ((200 ≤ c ∧ c ≤ 210) ∨ c = 212 ∨ c = 213 ∨ c = 240 ∨ c = 120 ∨ c = 121 ∨ c = 136 ∨ c = 237 ∨ c = 238 ∨ c = 239 ∨ c = 134 ∨ c = 135 ∨ c = 214 ∨ c = 215)
/-- state 2 stays, steps and pool only grow, and so do those that state 3 keeps -/
def GF (μ : MU) (w W : Mm) : Prop := (∀ c a i, gfK c = false → W c a i = w c a i) ∧ (∀ c i, 200 ≤ c → c ≤ 210 → 2 * st0 c ≤ i → i < 3 * st0 c → W c 0 i = w c 0 i) ∧ (W 214 0 2 = w 214 0 2 ∧ W 215 0 2 = w 215 0 2) ∧ AP μ w W ∧ w 120 μ.1 0 ≤ W 214 0 3 ∧ w 121 μ.1 0 ≤ W 215 0 3
theorem GF.lo {μ : MU} {w W W' : Mm} (h : GF μ w W) (hL : LO W W') (hA : AP μ W W') : GF μ w W' := by
  obtain ⟨h1, h2, h3, h4, h5, h6⟩ := h
  refine ⟨fun c a i hc => ?_, fun c i a b x y => ?_, ?_, h4.t hA, ?_, ?_⟩
  · have hc' := of_decide_eq_false hc
    rw [hL.2 _ _ _ (by omega) (by unfold LOk; simp; omega)]; exact h1 c a i hc
  · rw [hL.1 _ _ _ a b (by unfold st0 at *; split at x <;> (try split at x) <;> (try split at x) <;> (try split at x) <;> (try split at x) <;> simp_all <;> omega)]; exact h2 c i a b x y
  · rw [hL.2 _ _ _ (by decide) (by decide), hL.2 _ _ _ (by decide) (by decide)]; exact h3
  · rw [hL.2 _ _ _ (by decide) (by decide)]; exact h5
  · rw [hL.2 _ _ _ (by decide) (by decide)]; exact h6
theorem GF.u {μ : MU} {w W : Mm} (h : GF μ w W) {c : Nat} {a i v : Int} (hc : c = 237 ∨ c = 238 ∨ c = 239 ∨ c = 134 ∨ c = 135) : GF μ w (up W c a i v) := by
  obtain ⟨h1, h2, h3, h4, h5, h6⟩ := h
  refine ⟨fun c' a i hc' => ?_, fun c' i a b x y => ?_, ?_, h4.u (by omega), ?_, ?_⟩
  · have := of_decide_eq_false hc'
    rw [up_k _ (by omega)]; exact h1 c' a i hc'
  · rw [up_k _ (by omega)]; exact h2 c' i a b x y
  · rw [up_k _ (by omega), up_k _ (by omega)]; exact h3
  · rw [up_k _ (by omega)]; exact h5
  · rw [up_k _ (by omega)]; exact h6
theorem cpy_o {T : Int → Bool} {a b : Int} {w : Mm} {c : Nat} {i : Int} (hc : 200 ≤ c ∧ c ≤ 210) (hi : i < a * st0 c ∨ (a + 1) * st0 c ≤ i) (hl : w 201 0 b ≤ 400) : m_cpy T a b w c 0 i = w c 0 i := by
  have e : c = 200 ∨ c = 201 ∨ c = 202 ∨ c = 203 ∨ c = 204 ∨ c = 205 ∨ c = 206 ∨ c = 207 ∨ c = 208 ∨ c = 209 ∨ c = 210 := by omega
  rcases e with rfl | rfl | rfl | rfl | rfl | rfl | rfl | rfl | rfl | rfl | rfl
  · have : st0 200 = 400 := rfl
    rw [this] at hi; rw [cpy_200, if_neg (by omega)]
  · have : st0 201 = 1 := rfl
    rw [this] at hi; rw [cpy_201, if_neg (by omega)]
  · have : st0 202 = 6 := rfl
    rw [this] at hi; rw [cpy_202, if_neg (by omega)]
  · have : st0 203 = 6 := rfl
    rw [this] at hi; rw [cpy_203, if_neg (by omega)]
  · have : st0 204 = 5 := rfl
    rw [this] at hi; rw [cpy_204, if_neg (by omega)]
  · have : st0 205 = 20 := rfl
    rw [this] at hi; rw [cpy_205, if_neg (by omega)]
  · have : st0 206 = 400 := rfl
    rw [this] at hi; rw [cpy_206, if_neg (by omega)]
  · have : st0 207 = 1 := rfl
    rw [this] at hi; rw [cpy_207, if_neg (by omega)]
  · have : st0 208 = 4 := rfl
    rw [this] at hi; rw [cpy_208, if_neg (by omega)]
  · have : st0 209 = 4 := rfl
    rw [this] at hi; rw [cpy_209, if_neg (by omega)]
  · have : st0 210 = 1 := rfl
    rw [this] at hi; rw [cpy_210, if_neg (by omega)]
theorem AP.saves {μ : MU} {b : Int} {w : Mm} : AP μ w (m_saves μ b w) := AP.r.c fun c a i h => saves_at (by omega)
theorem GF.sv {μ : MU} {w W : Mm} (h : GF μ w W) (hl : W 201 0 0 ≤ 400) : GF μ w (m_saves μ 3 W) := by
  obtain ⟨h1, h2, h3, h4, h5, h6⟩ := h
  refine ⟨fun c a i hc => ?_, fun c i a b x y => ?_, ?_, h4.t AP.saves, ?_, ?_⟩
  · have hc' := of_decide_eq_false hc
    rw [saves_at (by omega)]; exact h1 c a i hc
  · rw [saves_eq, up_k _ (by omega), up_k _ (by omega), cpy_o ⟨a, b⟩ (Or.inl y) hl]; exact h2 c i a b x y
  · rw [saves_eq, up_k _ (by decide), up_i _ _ _ _ _ _ (by decide), up_i _ _ _ _ _ _ (by decide), up_k _ (by decide), cpy_at (by decide), cpy_at (by decide)]; exact h3
  · rw [saves_214.1]; exact h4.1
  · rw [saves_214.2]; exact h4.2.1
/-- what the run ends with -/
def GE (μ : MU) (S P M : Int) (w : Mm) (R : Int × Int × Int × Mm) : Prop := (∃ l, GI μ S P M l R.1 R.2.2.2) ∧ GF μ w R.2.2.2 ∧ (0 ≤ R.2.1 ∧ R.2.1 ≤ 24) ∧ (0 ≤ R.2.2.1 ∧ R.2.2.1 ≤ 8)
theorem GF.fl {μ : MU} {w W : Mm} (h : GF μ w W) {r m p : Int} : GF μ w (m_fail μ r m p W) := (h.u (by decide)).u (by decide)
theorem gph_lv {l : Int} {w w' : Mm} (h : ∀ i, 1 ≤ i → i ≤ l → w' 238 0 i = w 238 0 i) : sumN (fun i => w' 238 0 (i + 1) + 1) l.toNat = sumN (fun i => w 238 0 (i + 1) + 1) l.toNat :=
  sumN_cong fun k a b => by show w' 238 0 (k + 1) + 1 = w 238 0 (k + 1) + 1; rw [h _ (by omega) (by omega)]
theorem gph_top {l : Int} {w : Mm} (hl : 1 ≤ l) : sumN (fun i => w 238 0 (i + 1) + 1) l.toNat = sumN (fun i => w 238 0 (i + 1) + 1) (l - 1).toNat + (w 238 0 l + 1) := by
  have := sumN_su (f := fun i => w 238 0 (i + 1) + 1) (j := l - 1) (by omega)
  rw [show l - 1 + 1 = l by omega] at this
  exact this
theorem gph_nn {μ : MU} {S P M l s : Int} {w : Mm} (h : GI μ S P M l s w) : 0 ≤ sumN (fun i => w 238 0 (i + 1) + 1) l.toNat := by
  have key : ∀ n : Nat, (n : Int) ≤ l ∨ n = 0 → 0 ≤ sumN (fun i => w 238 0 (i + 1) + 1) n := fun n => by
    induction n with
    | zero => intro _; exact Int.le_refl _
    | succ n ih =>
      intro hn
      have h1 := ih (by omega)
      have h2 := (h.2.2.1 (n + 1) (by omega) (by omega)).2.1
      simp only [sumN]; omega
  exact key _ (by omega)
theorem grun_ok {μ : MU} {S P M : Int} {w0 : Mm} : ∀ (n : Nat) (l s t r : Int) (w : Mm), GI μ S P M l s w → GF μ w0 w → 0 ≤ l → (0 ≤ t ∧ t ≤ 24) → (0 ≤ r ∧ r ≤ 8) → gph l s r w < n → ∃ R, m_grun μ n l s t r w = some R ∧ GE μ S P M w0 R
  | 0, l, s, t, r, w, h, _, _, _, _, hn => by
    have := gph_nn h
    unfold gph at hn
    have hs := h.2.2.2
    split at hn <;> omega
  | n + 1, l, s, t, r, w, h, hF, hl, ht, hr, hn => by
    rw [grun_step]
    by_cases c0 : l ≤ 0 ∨ r ≠ 0
    · rw [if_pos c0]; exact ⟨_, rfl, ⟨l, h⟩, hF, ht, hr⟩
    rw [if_neg c0]
    have hl1 : 1 ≤ l := by omega
    have hr0 : r = 0 := by omega
    subst hr0
    obtain ⟨i1, i2, i3, i4⟩ := h.f hl1
    have hs := h.2.2.2
    have hnn := gph_nn h.pop
    unfold gph at hn
    rw [if_pos rfl, gph_top hl1] at hn
    by_cases c1 : w 238 0 l = 0 ∨ w 236 0 (w 237 0 l) = 0
    · rw [if_pos c1]
      exact grun_ok n (l - 1) s t 0 w h.pop hF (by omega) ht hr (by unfold gph; rw [if_pos rfl]; omega)
    rw [if_neg c1]
    by_cases c2 : w 239 0 l = w 236 0 (w 237 0 l)
    · rw [if_pos c2]
      refine grun_ok n l s t 0 _ (h.nx hl1 (by omega)) ((hF.u (by decide)).u (by decide)) hl ht hr ?_
      unfold gph
      rw [if_pos rfl, gph_top hl1, gph_lv (w := w) fun i a b => by rw [up_i _ _ _ _ _ _ (by omega), up_k _ (by decide)], up_s]
      omega
    rw [if_neg c2]
    by_cases c3 : s = 24
    · rw [if_pos c3]
      refine grun_ok n l s t 8 _ h.fl hF.fl hl ht (by decide) ?_
      unfold gph
      rw [if_neg (by decide), gph_top hl1, gph_lv (w := w) fun i a b => by unfold m_fail; rw [up_k _ (by decide), up_k _ (by decide)]]
      unfold m_fail
      rw [up_k _ (by decide), up_k _ (by decide)]
      omega
    rw [if_neg c3]
    have hOn := h.on hl1 c2 c3
    have h0 : LB μ (S + 2 * s) (P + 20 * s) (m_gpl l w) := h.1.up_o (by decide)
    obtain ⟨hcv, hat, hm4, hp15⟩ := h.cv hl1 c2
    have hFo : GF μ w0 (m_gpl l w) := hF.u (by decide)
    have e238 : ∀ i, m_gpl l w 238 0 i = w 238 0 i := fun i => up_k _ (by decide) _ _ _ _ _
    by_cases c4 : w 235 0 (m_gat l w) = 16
    · rw [if_pos c4]
      refine grun_ok n l (s + 1) (s + 1) 0 _ hOn.sv (hFo.sv hOn.1.1.1.2) hl (by omega) hr ?_
      unfold gph
      rw [if_pos rfl, gph_top hl1, gph_lv (w := w) fun i a b => by rw [saves_at (by decide), e238], saves_at (by decide), e238]
      omega
    rw [if_neg c4]
    by_cases c5 : w 235 0 (m_gat l w) ≠ 15
    · rw [if_pos c5]
      have hc14 : w 235 0 (m_gat l w) ≤ 14 := by have := hcv.1; omega
      have hDs := h.ds c3 hOn h0 hcv hc14
      have hd8 := does_nn (μ := μ) (c := w 235 0 (m_gat l w)) (a := w 235 0 (m_gat l w + 1)) (b := w 235 0 (m_gat l w + 2)) (w := m_gpl l w)
      have hL := LO.does h0 hcv hc14
      have hFd : GF μ w0 (m_gdo μ l w).2 := hFo.lo hL AP.does
      have e2 : ∀ i, (m_gdo μ l w).2 238 0 i = w 238 0 i := fun i => by
        have : (m_gdo μ l w).2 238 0 i = m_gpl l w 238 0 i := hL.2 _ _ _ (by decide) (by decide)
        rw [this, e238]
      by_cases c6 : (m_gdo μ l w).1 = 0
      · rw [if_pos c6]
        refine grun_ok n l (s + 1) t 0 _ hDs hFd hl ht hr ?_
        unfold gph
        rw [if_pos rfl, gph_top hl1, gph_lv (w := w) fun i a b => e2 i, e2]
        omega
      · rw [if_neg c6]
        refine grun_ok n l (s + 1) t _ _ hDs.fl hFd.fl hl ht ⟨hd8.1, hd8.2.1⟩ ?_
        unfold gph
        rw [if_neg c6, gph_top hl1, gph_lv (w := w) fun i a b => by unfold m_fail; rw [up_k _ (by decide), up_k _ (by decide), e2]]
        unfold m_fail
        rw [up_k _ (by decide), up_k _ (by decide), e2]
        omega
    rw [if_neg c5]
    by_cases c7 : l = 5
    · rw [if_pos c7]
      refine grun_ok n l (s + 1) t 7 _ hOn.fl hFo.fl hl ht (by decide) ?_
      unfold gph
      rw [if_neg (by decide), gph_top hl1, gph_lv (w := w) fun i a b => by unfold m_fail; rw [up_k _ (by decide), up_k _ (by decide), e238]]
      unfold m_fail
      rw [up_k _ (by decide), up_k _ (by decide), e238]
      omega
    · rw [if_neg c7]
      have h15 : (0 ≤ w 235 0 (m_gat l w + 1) ∧ w 235 0 (m_gat l w + 1) ≤ 3) ∧ (1 ≤ w 235 0 (m_gat l w + 2) ∧ w 235 0 (m_gat l w + 2) ≤ 10) := by unfold CV at hcv; omega
      refine grun_ok n (l + 1) (s + 1) t 0 _ (hOn.dn c7 h15.1 (by omega)) (((hFo.u (by decide)).u (by decide)).u (by decide)) (by omega) ht hr ?_
      unfold gph
      rw [if_pos rfl, gph_top (by omega), show l + 1 - 1 = l by omega, gph_top hl1, gph_lv (w := w) fun i a b => by unfold m_gdn; rw [up_k _ (by decide), up_i _ _ _ _ _ _ (by omega), up_k _ (by decide), e238]]
      unfold m_gdn
      rw [up_k _ (by decide), up_i _ _ _ _ _ _ (by omega), up_k _ (by decide), e238, up_k _ (by decide), up_s]
      omega
