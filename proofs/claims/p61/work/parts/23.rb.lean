/-! copies of states; the bundle of what stands between calls -/
theorem cpT_200 {a b i : Int} {w : Mm} : m_cpT a b w 200 0 i = if 400 * a ≤ i ∧ i < 400 * a + w 201 0 b then w 200 0 (i - 400 * a + 400 * b) else w 200 0 i := by
  simp only [m_cpT, fl, up]; grind
theorem cpT_201 {a b i : Int} {w : Mm} : m_cpT a b w 201 0 i = if i = a then w 201 0 b else w 201 0 i := by
  simp only [m_cpT, fl, up]; grind
theorem cpT_202 {a b i : Int} {w : Mm} : m_cpT a b w 202 0 i = if 6 * a ≤ i ∧ i < 6 * a + 6 then w 202 0 (i - 6 * a + 6 * b) else w 202 0 i := by
  simp only [m_cpT, fl, up]; grind
theorem cpT_203 {a b i : Int} {w : Mm} : m_cpT a b w 203 0 i = if 6 * a ≤ i ∧ i < 6 * a + 6 then w 203 0 (i - 6 * a + 6 * b) else w 203 0 i := by
  simp only [m_cpT, fl, up]; grind
theorem cpP_207 {a b i : Int} {w : Mm} : m_cpP a b w 207 0 i = if i = a then w 207 0 b else w 207 0 i := by
  simp only [m_cpP, fl, up]; grind
theorem cpP_210 {a b i : Int} {w : Mm} : m_cpP a b w 210 0 i = if i = a then w 210 0 b else w 210 0 i := by
  simp only [m_cpP, fl, up]; grind
theorem cpP_208 {a b i : Int} {w : Mm} : m_cpP a b w 208 0 i = if 4 * a ≤ i ∧ i < 4 * a + 4 then w 208 0 (i - 4 * a + 4 * b) else w 208 0 i := by
  simp only [m_cpP, fl, up]; grind
theorem cpP_209 {a b i : Int} {w : Mm} : m_cpP a b w 209 0 i = if 4 * a ≤ i ∧ i < 4 * a + 4 then w 209 0 (i - 4 * a + 4 * b) else w 209 0 i := by
  simp only [m_cpP, fl, up]; grind
theorem cpQ_204 {T : Int → Bool} {k a b i : Int} {w : Mm} : m_cpQ T k a b w 204 0 i = if 5 * a ≤ i ∧ i < 5 * a + k ∧ T (i - 5 * a) = true then w 204 0 (i - 5 * a + 5 * b) else w 204 0 i := by
  simp only [m_cpQ]; grind
theorem cpQ_205 {T : Int → Bool} {k a b i : Int} {w : Mm} : m_cpQ T k a b w 205 0 i = if 20 * a ≤ i ∧ i < 20 * a + 4 * k ∧ T ((i - 20 * a) / 4) = true then w 205 0 (i - 20 * a + 20 * b) else w 205 0 i := by
  simp only [m_cpQ]; grind
theorem cpQ_206 {T : Int → Bool} {k a b i : Int} {w : Mm} : m_cpQ T k a b w 206 0 i = if 400 * a ≤ i ∧ i < 400 * a + 80 * k ∧ T ((i - 400 * a) / 80) = true then w 206 0 (i - 400 * a + 400 * b) else w 206 0 i := by
  simp only [m_cpQ]; grind
theorem SB.cpT {a b s : Int} {w : Mm} (h : SB s w) (ha : 0 ≤ a) (hb : SB b w) : SB s (m_cpT a b w) := by
  obtain ⟨h1, h2, h3, h4, h5, h6⟩ := h
  obtain ⟨g1, g2, g3, g4, g5, g6⟩ := hb
  unfold bL1 at h1 g1
  refine ⟨?_, fun i x y => ?_, fun i x y => ?_, fun i x y => ?_, fun i x y => ?_, fun i x y => ?_⟩
  · unfold bL1; rw [cpT_201]; split <;> omega
  · rw [cpT_200]; split
    · exact g2 _ (by omega) (by omega)
    · exact h2 i x y
  · rw [cpT_201, cpT_202, cpT_203]
    by_cases c : s = a
    · subst c
      rw [if_pos rfl, if_pos ⟨x, y⟩, if_pos ⟨x, y⟩]; exact g3 _ (by omega) (by omega)
    · rw [if_neg c, if_neg (by omega), if_neg (by omega)]; exact h3 i x y
  · rw [cpT_at (by omega)]; exact h4 i x y
  · rw [cpT_at (by omega)]; exact h5 i x y
  · rw [cpT_at (by omega)]; exact h6 i x y
theorem SB.cpQ {T : Int → Bool} {a b s : Int} {w : Mm} (h : SB s w) (hb : SB b w) : SB s (m_cpQ T 5 a b w) := by
  obtain ⟨h1, h2, h3, h4, h5, h6⟩ := h
  obtain ⟨g1, g2, g3, g4, g5, g6⟩ := hb
  refine ⟨?_, fun i x y => ?_, fun i x y => ?_, fun i x y => ?_, fun i x y => ?_, fun i x y => ?_⟩
  · unfold bL1; rw [cpQ_at (by omega)]; exact h1
  · rw [cpQ_at (by omega)]; exact h2 i x y
  · rw [cpQ_at (by omega), cpQ_at (by omega), cpQ_at (by omega)]; exact h3 i x y
  · rw [cpQ_204]; split
    · have := g4 (i - 5 * a + 5 * b) (by omega) (by omega); exact ⟨this.1, this.2.1, fun z => this.2.2 (by omega)⟩
    · exact h4 i x y
  · rw [cpQ_205]; split
    · exact g5 _ (by omega) (by omega)
    · exact h5 i x y
  · rw [cpQ_206]; split
    · exact g6 _ (by omega) (by omega)
    · exact h6 i x y
theorem SB.cpP {a b s : Int} {w : Mm} (h : SB s w) : SB s (m_cpP a b w) := h.cong fun c _ _ _ _ => cpP_at (by omega)
/-- places are copied together with the length they lie in -/
theorem VB.cp {a b : Int} {w w' : Mm} (h : VB b w) (e7 : w' 207 0 a = w 207 0 b) (e0 : w' 210 0 a = w 210 0 b) (e8 : ∀ i, 4 * a ≤ i → i < 4 * a + 4 → w' 208 0 i = w 208 0 (i - 4 * a + 4 * b)) (e9 : ∀ i, 4 * a ≤ i → i < 4 * a + 4 → w' 209 0 i = w 209 0 (i - 4 * a + 4 * b)) (e1 : w' 201 0 a = w 201 0 b) : VB a w' := by
  obtain ⟨h1, h2, h3, h4⟩ := h
  unfold bV at h1
  refine ⟨?_, fun i x y => ?_, fun i x y => ?_, ?_⟩
  · unfold bV; rw [e0]; exact h1
  · rw [e8 i x y, e9 i x y]; exact h2 _ (by omega) (by omega)
  · rw [e0] at y
    rw [e0, e8 i x (by omega), e9 i x (by omega), e1]
    have := h3 (i - 4 * a + 4 * b) (by omega) (by omega)
    refine ⟨this.1, this.2.1, fun z => ?_⟩
    rw [e8 (i + 1) (by omega) (by omega), e9 (i + 1) (by omega) (by omega), show i + 1 - 4 * a + 4 * b = i - 4 * a + 4 * b + 1 by omega]
    exact this.2.2 (by omega)
  · unfold bP at h4 ⊢
    rw [e0, e1, e7]
    refine ⟨h4.1, fun z => ?_⟩
    have := h4.2 z
    rw [e8 _ (by omega) (by omega), e9 _ (by omega) (by omega), show 4 * a + w 210 0 b - 1 - 4 * a + 4 * b = 4 * b + w 210 0 b - 1 by omega]
    exact this
theorem VB.cpo {s : Int} {w w' : Mm} (h : VB s w) (e7 : w' 207 0 s = w 207 0 s) (e0 : w' 210 0 s = w 210 0 s) (e8 : ∀ i, 4 * s ≤ i → i < 4 * s + 4 → w' 208 0 i = w 208 0 i) (e9 : ∀ i, 4 * s ≤ i → i < 4 * s + 4 → w' 209 0 i = w 209 0 i) (e1 : w' 201 0 s = w 201 0 s) : VB s w' :=
  h.cp e7 e0 (fun i x y => by rw [e8 i x y, show i - 4 * s + 4 * s = i by omega]) (fun i x y => by rw [e9 i x y, show i - 4 * s + 4 * s = i by omega]) e1
/-- state b becomes state a, the stores in T with it -/
def m_cpy (T : Int → Bool) (a b : Int) (w : Mm) : Mm := m_cpQ T 5 a b (m_cpP a b (m_cpT a b w))
theorem SB.cpy {T : Int → Bool} {a b s : Int} {w : Mm} (h : SB s w) (ha : 0 ≤ a) (hb : SB b w) : SB s (m_cpy T a b w) :=
  ((h.cpT ha hb).cpP).cpQ ((hb.cpT ha hb).cpP)
theorem cpy_207 {T : Int → Bool} {a b i : Int} {w : Mm} : m_cpy T a b w 207 0 i = if i = a then w 207 0 b else w 207 0 i := by
  unfold m_cpy; rw [cpQ_at (by omega), cpP_207, cpT_at (by omega), cpT_at (by omega)]
theorem cpy_210 {T : Int → Bool} {a b i : Int} {w : Mm} : m_cpy T a b w 210 0 i = if i = a then w 210 0 b else w 210 0 i := by
  unfold m_cpy; rw [cpQ_at (by omega), cpP_210, cpT_at (by omega), cpT_at (by omega)]
theorem cpy_208 {T : Int → Bool} {a b i : Int} {w : Mm} : m_cpy T a b w 208 0 i = if 4 * a ≤ i ∧ i < 4 * a + 4 then w 208 0 (i - 4 * a + 4 * b) else w 208 0 i := by
  unfold m_cpy; rw [cpQ_at (by omega), cpP_208, cpT_at (by omega), cpT_at (by omega)]
theorem cpy_209 {T : Int → Bool} {a b i : Int} {w : Mm} : m_cpy T a b w 209 0 i = if 4 * a ≤ i ∧ i < 4 * a + 4 then w 209 0 (i - 4 * a + 4 * b) else w 209 0 i := by
  unfold m_cpy; rw [cpQ_at (by omega), cpP_209, cpT_at (by omega), cpT_at (by omega)]
theorem cpy_201 {T : Int → Bool} {a b i : Int} {w : Mm} : m_cpy T a b w 201 0 i = if i = a then w 201 0 b else w 201 0 i := by
  unfold m_cpy; rw [cpQ_at (by omega), cpP_at (by omega), cpT_201]
theorem cpy_200 {T : Int → Bool} {a b i : Int} {w : Mm} : m_cpy T a b w 200 0 i = if 400 * a ≤ i ∧ i < 400 * a + w 201 0 b then w 200 0 (i - 400 * a + 400 * b) else w 200 0 i := by
  unfold m_cpy; rw [cpQ_at (by omega), cpP_at (by omega), cpT_200]
theorem cpy_202 {T : Int → Bool} {a b i : Int} {w : Mm} : m_cpy T a b w 202 0 i = if 6 * a ≤ i ∧ i < 6 * a + 6 then w 202 0 (i - 6 * a + 6 * b) else w 202 0 i := by
  unfold m_cpy; rw [cpQ_at (by omega), cpP_at (by omega), cpT_202]
theorem cpy_203 {T : Int → Bool} {a b i : Int} {w : Mm} : m_cpy T a b w 203 0 i = if 6 * a ≤ i ∧ i < 6 * a + 6 then w 203 0 (i - 6 * a + 6 * b) else w 203 0 i := by
  unfold m_cpy; rw [cpQ_at (by omega), cpP_at (by omega), cpT_203]
theorem cpy_204 {T : Int → Bool} {a b i : Int} {w : Mm} : m_cpy T a b w 204 0 i = if 5 * a ≤ i ∧ i < 5 * a + 5 ∧ T (i - 5 * a) = true then w 204 0 (i - 5 * a + 5 * b) else w 204 0 i := by
  unfold m_cpy; rw [cpQ_204, cpP_at (by omega), cpT_at (by omega), cpP_at (by omega), cpT_at (by omega)]
theorem cpy_205 {T : Int → Bool} {a b i : Int} {w : Mm} : m_cpy T a b w 205 0 i = if 20 * a ≤ i ∧ i < 20 * a + 20 ∧ T ((i - 20 * a) / 4) = true then w 205 0 (i - 20 * a + 20 * b) else w 205 0 i := by
  unfold m_cpy; rw [cpQ_205, cpP_at (by omega), cpT_at (by omega), cpP_at (by omega), cpT_at (by omega)]; rfl
theorem cpy_206 {T : Int → Bool} {a b i : Int} {w : Mm} : m_cpy T a b w 206 0 i = if 400 * a ≤ i ∧ i < 400 * a + 400 ∧ T ((i - 400 * a) / 80) = true then w 206 0 (i - 400 * a + 400 * b) else w 206 0 i := by
  unfold m_cpy; rw [cpQ_206, cpP_at (by omega), cpT_at (by omega), cpP_at (by omega), cpT_at (by omega)]; rfl
theorem cpy_at {T : Int → Bool} {a b : Int} {w : Mm} {c : Nat} {x i : Int} (h : c < 200 ∨ 210 < c) : m_cpy T a b w c x i = w c x i := by
  unfold m_cpy; rw [cpQ_at (by omega), cpP_at (by omega), cpT_at (by omega)]
theorem VB.cpy {T : Int → Bool} {a b : Int} {w : Mm} (h : VB b w) : VB a (m_cpy T a b w) :=
  h.cp (by rw [cpy_207, if_pos rfl]) (by rw [cpy_210, if_pos rfl]) (fun i x y => by rw [cpy_208, if_pos ⟨x, y⟩]) (fun i x y => by rw [cpy_209, if_pos ⟨x, y⟩]) (by rw [cpy_201, if_pos rfl])
theorem VB.cpy_o {T : Int → Bool} {a b s : Int} {w : Mm} (h : VB s w) (hs : s ≠ a) : VB s (m_cpy T a b w) :=
  h.cpo (by rw [cpy_207, if_neg hs]) (by rw [cpy_210, if_neg hs]) (fun i x y => by rw [cpy_208, if_neg (by omega)]) (fun i x y => by rw [cpy_209, if_neg (by omega)]) (by rw [cpy_201, if_neg hs])
theorem saves_eq {μ : MU} {a : Int} {w : Mm} : m_saves μ a w = up (up (m_cpy (fun _ => true) a 0 w) 214 0 a (w 120 μ.1 0)) 215 0 a (w 121 μ.1 0) := rfl
theorem rest_eq {μ : MU} {b all : Int} {w : Mm} : m_rest μ b all w = up (up (m_cpy (fun s => decide (all = 1 ∨ w 211 0 s = 1)) 0 b w) 120 μ.1 0 (w 214 0 b)) 121 μ.1 0 (w 215 0 b) := rfl
/-- a state that is kept, with its counts of steps -/
def SV (S P s : Int) (w : Mm) : Prop := SB s w ∧ VB s w ∧ (0 ≤ w 214 0 s ∧ w 214 0 s ≤ S) ∧ (0 ≤ w 215 0 s ∧ w 215 0 s ≤ P)
def bMc (w : Mm) : Prop := ∀ m, 0 ≤ m → m < 5 → (0 ≤ w 236 0 m ∧ w 236 0 m ≤ 16) ∧ ∀ k, 0 ≤ k → k < w 236 0 m → CV (w 235 0 (48 * m + 3 * k)) (w 235 0 (48 * m + 3 * k + 1)) (w 235 0 (48 * m + 3 * k + 2))
def bZ (μ : MU) (w : Mm) : Prop := (w 132 μ.1 0 = 0 ∨ w 132 μ.1 0 = 1) ∧ (-1 ≤ w 133 μ.1 0 ∧ w 133 μ.1 0 ≤ 3) ∧ (w 122 μ.1 0 ≤ w 120 μ.1 0 ∧ w 123 μ.1 0 ≤ w 121 μ.1 0) ∧ (0 ≤ w 130 μ.1 0 ∧ w 130 μ.1 0 ≤ 1200) ∧ (w 132 μ.1 0 = 0 → w 122 μ.1 0 = w 120 μ.1 0)
def bY (μ : MU) (w : Mm) : Prop := w 129 μ.1 0 ≠ -1 → 1 ≤ w 120 μ.1 0 ∧ 0 ≤ w 212 0 (w 120 μ.1 0 - 1) ∧ w 212 0 (w 120 μ.1 0 - 1) ≤ 4088 + 4096 * w 201 0 0
def RK (μ : MU) (S P M : Int) (w : Mm) : Prop := SV S P 2 w ∧ SV S P 3 w ∧ SB 1 w ∧ TB μ M w ∧ bPo w ∧ bOt w ∧ bMc w
/-- what stands between calls -/
def RB (μ : MU) (S P M : Int) (w : Mm) : Prop := LB μ S P w ∧ RK μ S P M w ∧ bZ μ w ∧ bY μ w
theorem SV.mono {S P S' P' s : Int} {w : Mm} (h : SV S P s w) (h1 : S ≤ S') (h2 : P ≤ P') : SV S' P' s w := by
  obtain ⟨a, b, c, d⟩ := h; exact ⟨a, b, by omega, by omega⟩
theorem SV.cong {S P s : Int} {w w' : Mm} (h : SV S P s w) (e : ∀ c a i, 200 ≤ c → c ≤ 215 → c ≠ 211 → c ≠ 212 → c ≠ 213 → w' c a i = w c a i) : SV S P s w' :=
  ⟨h.1.cong fun c a i x y => e c a i x (by omega) (by omega) (by omega) (by omega), h.2.1.cong (fun c a i x y => e c a i (by omega) (by omega) (by omega) (by omega) (by omega)) (e _ _ _ (by omega) (by omega) (by omega) (by omega) (by omega)), by rw [e _ _ _ (by omega) (by omega) (by omega) (by omega) (by omega)]; exact h.2.2.1, by rw [e _ _ _ (by omega) (by omega) (by omega) (by omega) (by omega)]; exact h.2.2.2⟩
theorem SV.saves {μ : MU} {S P s a : Int} {w : Mm} (h : SV S P s w) (hL : LB μ S P w) (ha : 1 ≤ a) : SV S P s (m_saves μ a w) := by
  obtain ⟨h1, h2, h3, h4⟩ := h
  rw [saves_eq]
  refine ⟨(h1.cpy (T := fun _ => true) (a := a) (by omega) hL.1).cong fun c _ _ _ _ => by rw [up_k _ (by omega), up_k _ (by omega)], ?_, ?_, ?_⟩
  · by_cases c : s = a
    · subst c
      exact (VB.cpy (T := fun _ => true) (a := s) hL.2.1).cong (fun c _ _ _ _ => by rw [up_k _ (by omega), up_k _ (by omega)]) (by rw [up_k _ (by omega), up_k _ (by omega)])
    · exact (h2.cpy_o (T := fun _ => true) (b := 0) c).cong (fun c _ _ _ _ => by rw [up_k _ (by omega), up_k _ (by omega)]) (by rw [up_k _ (by omega), up_k _ (by omega)])
  · rw [up_k _ (by omega), up_ii, cpy_at (by omega)]; have := hL.f; split <;> omega
  · rw [up_ii, up_k _ (by omega), cpy_at (by omega)]; have := hL.f; split <;> omega
theorem LB.saves {μ : MU} {S P a : Int} {w : Mm} (h : LB μ S P w) (ha : 1 ≤ a) : LB μ S P (m_saves μ a w) := by
  rw [saves_eq]
  refine LB.up_o (LB.up_o ?_ (by decide)) (by decide)
  exact ⟨h.1.cpy (T := fun _ => true) (a := a) (by omega) h.1, h.2.1.cpy_o (by omega), h.2.2.1.cong fun i => cpy_at (by omega), h.2.2.2.1.cong fun i => cpy_at (by omega), h.2.2.2.2.cong (cpy_at (by omega)) (cpy_at (by omega))⟩
theorem saves_at {μ : MU} {b : Int} {w : Mm} {c : Nat} {a i : Int} (h : c < 200 ∨ (210 < c ∧ c ≠ 214 ∧ c ≠ 215)) : m_saves μ b w c a i = w c a i := by
  rw [saves_eq, up_k _ (by omega), up_k _ (by omega), cpy_at (by omega)]
theorem rest_at {μ : MU} {b all : Int} {w : Mm} {c : Nat} {a i : Int} (h : (c < 200 ∧ c ≠ 120 ∧ c ≠ 121) ∨ 210 < c) : m_rest μ b all w c a i = w c a i := by
  rw [rest_eq, up_k _ (by omega), up_k _ (by omega), cpy_at (by omega)]
theorem LB.rest {μ : MU} {S P S' P' b all : Int} {w : Mm} (h : LB μ S' P' w) (hb : SV S P b w) : LB μ S P (m_rest μ b all w) := by
  rw [rest_eq]
  obtain ⟨h1, h2, h3, h4⟩ := hb
  refine ⟨(h.1.cpy (T := fun s => decide (all = 1 ∨ w 211 0 s = 1)) (a := 0) (by omega) h1).cong fun c _ _ _ _ => by rw [up_k _ (by omega), up_k _ (by omega)], (VB.cpy (T := fun s => decide (all = 1 ∨ w 211 0 s = 1)) (a := 0) h2).cong (fun c _ _ _ _ => by rw [up_k _ (by omega), up_k _ (by omega)]) (by rw [up_k _ (by omega), up_k _ (by omega)]), h.2.2.1.cong fun i => by rw [up_k _ (by omega), up_k _ (by omega), cpy_at (by omega)], h.2.2.2.1.cong fun i => by rw [up_k _ (by omega), up_k _ (by omega), cpy_at (by omega)], ?_⟩
  unfold bN
  rw [up_s, up_k _ (by omega), up_s]; exact ⟨h3, h4⟩
theorem SV.rest {μ : MU} {S P s b all : Int} {w : Mm} (h : SV S P s w) (hb : SB b w) (hs : s ≠ 0) : SV S P s (m_rest μ b all w) := by
  obtain ⟨h1, h2, h3, h4⟩ := h
  rw [rest_eq]
  refine ⟨(h1.cpy (T := fun s => decide (all = 1 ∨ w 211 0 s = 1)) (a := 0) (by omega) hb).cong fun c _ _ _ _ => by rw [up_k _ (by omega), up_k _ (by omega)], (h2.cpy_o (T := fun s => decide (all = 1 ∨ w 211 0 s = 1)) (a := 0) (b := b) hs).cong (fun c _ _ _ _ => by rw [up_k _ (by omega), up_k _ (by omega)]) (by rw [up_k _ (by omega), up_k _ (by omega)]), ?_, ?_⟩
  · rw [up_k _ (by omega), up_k _ (by omega), cpy_at (by omega)]; exact h3
  · rw [up_k _ (by omega), up_k _ (by omega), cpy_at (by omega)]; exact h4
