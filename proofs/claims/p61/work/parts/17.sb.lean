/-! what stands of a state, of its places, and of what counts calls -/
def bL1 (s : Int) (w : Mm) : Prop := 0 ≤ w 201 0 s ∧ w 201 0 s ≤ 400
def bT (s : Int) (w : Mm) : Prop := ∀ i, 400 * s ≤ i → i < 400 * s + 400 → 0 ≤ w 200 0 i ∧ w 200 0 i ≤ 126
def bMl (s : Int) (w : Mm) : Prop := ∀ i, 6 * s ≤ i → i < 6 * s + 6 → (-1 ≤ w 202 0 i ∧ w 202 0 i ≤ w 201 0 s) ∧ (w 203 0 i = 0 ∨ w 203 0 i = 1)
def bC (s : Int) (w : Mm) : Prop := ∀ i, 5 * s ≤ i → i < 5 * s + 5 → 0 ≤ w 204 0 i ∧ w 204 0 i ≤ 4 ∧ (i ≠ 5 * s + 4 → w 204 0 i ≤ 1)
def bEl (s : Int) (w : Mm) : Prop := ∀ i, 20 * s ≤ i → i < 20 * s + 20 → 0 ≤ w 205 0 i ∧ w 205 0 i ≤ 20
def bEc (s : Int) (w : Mm) : Prop := ∀ i, 400 * s ≤ i → i < 400 * s + 400 → 0 ≤ w 206 0 i ∧ w 206 0 i ≤ 126
def SB (s : Int) (w : Mm) : Prop := bL1 s w ∧ bT s w ∧ bMl s w ∧ bC s w ∧ bEl s w ∧ bEc s w
def bV (s : Int) (w : Mm) : Prop := 0 ≤ w 210 0 s ∧ w 210 0 s ≤ 4
def bVa (s : Int) (w : Mm) : Prop := ∀ i, 4 * s ≤ i → i < 4 * s + 4 → (0 ≤ w 208 0 i ∧ w 208 0 i ≤ 400) ∧ (0 ≤ w 209 0 i ∧ w 209 0 i ≤ 400)
def bVn (s : Int) (w : Mm) : Prop := ∀ i, 4 * s ≤ i → i < 4 * s + w 210 0 s → w 208 0 i ≤ w 209 0 i ∧ w 209 0 i ≤ w 201 0 s ∧ (i + 1 < 4 * s + w 210 0 s → w 208 0 i ≤ w 208 0 (i + 1) ∧ w 209 0 (i + 1) ≤ w 209 0 i)
def bP (s : Int) (w : Mm) : Prop := (w 210 0 s = 0 → 0 ≤ w 207 0 s ∧ w 207 0 s ≤ w 201 0 s) ∧ (w 210 0 s ≠ 0 → w 208 0 (4 * s + w 210 0 s - 1) ≤ w 207 0 s ∧ w 207 0 s ≤ w 209 0 (4 * s + w 210 0 s - 1))
def VB (s : Int) (w : Mm) : Prop := bV s w ∧ bVa s w ∧ bVn s w ∧ bP s w
def bB (w : Mm) : Prop := ∀ i, 0 ≤ i → i < 400 → 0 ≤ w 240 0 i ∧ w 240 0 i ≤ 126
def bTr (w : Mm) : Prop := ∀ i, 0 ≤ i → i < 5 → w 211 0 i = 0 ∨ w 211 0 i = 1
def bN (μ : MU) (S P : Int) (w : Mm) : Prop := (0 ≤ w 120 μ.1 0 ∧ w 120 μ.1 0 ≤ S) ∧ (0 ≤ w 121 μ.1 0 ∧ w 121 μ.1 0 ≤ P)
/-- what is worked on -/
def LB (μ : MU) (S P : Int) (w : Mm) : Prop := SB 0 w ∧ VB 0 w ∧ bB w ∧ bTr w ∧ bN μ S P w
theorem SB.cong {s : Int} {w w' : Mm} (h : SB s w) (e : ∀ c a i, 200 ≤ c → c ≤ 206 → w' c a i = w c a i) : SB s w' := by
  obtain ⟨h1, h2, h3, h4, h5, h6⟩ := h
  refine ⟨?_, ?_, ?_, ?_, ?_, ?_⟩
  · unfold bL1; rw [e _ _ _ (by decide) (by decide)]; exact h1
  · intro i a b; rw [e _ _ _ (by decide) (by decide)]; exact h2 i a b
  · intro i a b; rw [e _ _ _ (by decide) (by decide), e _ _ _ (by decide) (by decide), e _ _ _ (by decide) (by decide)]; exact h3 i a b
  · intro i a b; rw [e _ _ _ (by decide) (by decide)]; exact h4 i a b
  · intro i a b; rw [e _ _ _ (by decide) (by decide)]; exact h5 i a b
  · intro i a b; rw [e _ _ _ (by decide) (by decide)]; exact h6 i a b
theorem VB.cong {s : Int} {w w' : Mm} (h : VB s w) (e : ∀ c a i, 207 ≤ c → c ≤ 210 → w' c a i = w c a i) (e2 : w' 201 0 s = w 201 0 s) : VB s w' := by
  obtain ⟨h1, h2, h3, h4⟩ := h
  have e' : ∀ c : Nat, 207 ≤ c → c ≤ 210 → w' c = w c := fun c a b => funext fun x => funext fun i => e c x i a b
  refine ⟨?_, ?_, ?_, ?_⟩
  · unfold bV; rw [e' _ (by decide) (by decide)]; exact h1
  · unfold bVa; rw [e' 208 (by decide) (by decide), e' 209 (by decide) (by decide)]; exact h2
  · unfold bVn; rw [e' 208 (by decide) (by decide), e' 209 (by decide) (by decide), e' 210 (by decide) (by decide), e2]; exact h3
  · unfold bP; rw [e' 207 (by decide) (by decide), e' 208 (by decide) (by decide), e' 209 (by decide) (by decide), e' 210 (by decide) (by decide), e2]; exact h4
theorem SB.m {s : Int} {w : Mm} (h : SB 0 w) : bM 0 w := fun i h1 h2 => by have := h.2.2.1 i h1 h2; have := h.1; unfold bL1 at this; omega
theorem VB.e {w : Mm} (h : VB 0 w) : bE w := fun i h1 h2 => h.2.1 i (by omega) (by omega)
theorem VB.vf {w : Mm} (h : VB 0 w) (h1 : SB 0 w) : 0 ≤ m_vF w ∧ m_vF w ≤ w 207 0 0 ∧ w 207 0 0 ≤ m_vT w ∧ m_vT w ≤ w 201 0 0 := by
  obtain ⟨a, b, c, d⟩ := h
  unfold m_vF m_vT
  unfold bV at a
  unfold bP at d
  by_cases e : w 210 0 0 = 0
  · rw [if_pos e, if_pos e]; have := d.1 e; omega
  · rw [if_neg e, if_neg e]
    have h2 := d.2 e
    have h3 := b (w 210 0 0 - 1) (by omega) (by omega)
    have h4 := c (w 210 0 0 - 1) (by omega) (by omega)
    rw [show 4 * (0 : Int) + w 210 0 0 - 1 = w 210 0 0 - 1 by omega] at h2
    omega
/-- the facts of what is worked on, as whole numbers -/
theorem LB.f {μ : MU} {S P : Int} {w : Mm} (h : LB μ S P w) : (0 ≤ w 201 0 0 ∧ w 201 0 0 ≤ 400) ∧ (0 ≤ w 210 0 0 ∧ w 210 0 0 ≤ 4) ∧ (0 ≤ m_vF w ∧ m_vF w ≤ w 207 0 0 ∧ w 207 0 0 ≤ m_vT w ∧ m_vT w ≤ w 201 0 0) ∧ (0 ≤ w 120 μ.1 0 ∧ w 120 μ.1 0 ≤ S) ∧ (0 ≤ w 121 μ.1 0 ∧ w 121 μ.1 0 ≤ P) :=
  ⟨h.1.1, h.2.1.1, h.2.1.vf h.1, h.2.2.2.2.1, h.2.2.2.2.2⟩
theorem LB.up_int {μ : MU} {S P : Int} {w : Mm} (h : LB μ S P w) {c : Nat} {a i v : Int} (hc : c < 200 ∧ c ≠ 120 ∧ c ≠ 121) : LB μ S P (up w c a i v) := by
  obtain ⟨h1, h2, h3, h4, h5⟩ := h
  refine ⟨h1.cong fun c' _ _ _ _ => up_k _ (by omega) _ _ _ _ _, h2.cong (fun c' _ _ _ _ => up_k _ (by omega) _ _ _ _ _) (up_k _ (by omega) _ _ _ _ _), fun i => ?_, fun i => ?_, ?_⟩
  · rw [up_k _ (by omega)]; exact h3 i
  · rw [up_k _ (by omega)]; exact h4 i
  · unfold bN; rw [up_k _ (by omega), up_k _ (by omega)]; exact h5
theorem LB.mono {μ : MU} {S P S' P' : Int} {w : Mm} (h : LB μ S P w) (h1 : S ≤ S') (h2 : P ≤ P') : LB μ S' P' w := by
  obtain ⟨a1, a2, a3, a4, a5⟩ := h
  refine ⟨a1, a2, a3, a4, ?_⟩
  unfold bN at *; omega
theorem LB.step {μ : MU} {S P : Int} {w : Mm} (h : LB μ S P w) {k p v : Int} : LB μ (S + 1) P (m_step μ k p v w) := by
  obtain ⟨h1, h2, h3, h4, h5⟩ := h
  refine ⟨h1.cong fun c' _ _ _ _ => step_at (by omega), h2.cong (fun c' _ _ _ _ => step_at (by omega)) (step_at (by omega)), fun i => ?_, fun i => ?_, ?_⟩
  · rw [step_at (by omega)]; exact h3 i
  · rw [step_at (by omega)]; exact h4 i
  · unfold bN m_step at *
    rw [up_s, up_k _ (by omega), up_k _ (by omega)]; omega
theorem LB.poolN {μ : MU} {S P : Int} {w : Mm} (h : LB μ S P w) {f : Int → Int} {n : Nat} : LB μ S (P + n) (m_poolN μ f n w) := by
  obtain ⟨h1, h2, h3, h4, h5⟩ := h
  refine ⟨h1.cong fun c' _ _ _ _ => poolN_at (by omega), h2.cong (fun c' _ _ _ _ => poolN_at (by omega)) (poolN_at (by omega)), fun i => ?_, fun i => ?_, ?_⟩
  · rw [poolN_at (by omega)]; exact h3 i
  · rw [poolN_at (by omega)]; exact h4 i
  · unfold bN at *
    rw [poolN_n, poolN_at (by omega)]; omega
theorem LB.pool {μ : MU} {S P : Int} {w : Mm} (h : LB μ S P w) {v : Int} : LB μ S (P + 1) (m_pool μ v w) := by
  have := h.poolN (f := fun _ => v) (n := 1)
  exact this
theorem opens_200 {s q k : Int} {w : Mm} {i : Int} : m_opens s q k w 200 0 i = if 400 * s + q + k ≤ i ∧ i < 400 * s + k + w 201 0 s then w 200 0 (i - k) else w 200 0 i := by
  simp only [m_opens, fl, up, mvF, bi]
  grind
theorem opens_201 {s q k : Int} {w : Mm} {i : Int} : m_opens s q k w 201 0 i = if i = s then w 201 0 s + k else w 201 0 i := by
  simp only [m_opens, fl, up, mvF, bi]
  grind
theorem opens_202 {s q k : Int} {w : Mm} {i : Int} : m_opens s q k w 202 0 i = if 6 * s ≤ i ∧ i < 6 * s + 6 then (if w 202 0 i = -1 then -1 else if w 202 0 i > q ∨ (w 202 0 i = q ∧ w 203 0 i = 1) then w 202 0 i + k else w 202 0 i) else w 202 0 i := by
  simp only [m_opens, fl, up, mvF, bi]
  grind
theorem opens_208 {s q k : Int} {w : Mm} {i : Int} : m_opens s q k w 208 0 i = if s = 0 ∧ 0 ≤ i ∧ i < w 210 0 0 then (if w 208 0 i > q then w 208 0 i + k else w 208 0 i) else w 208 0 i := by
  simp only [m_opens, fl, up, mvF, bi]
  grind
theorem opens_209 {s q k : Int} {w : Mm} {i : Int} : m_opens s q k w 209 0 i = if s = 0 ∧ 0 ≤ i ∧ i < w 210 0 0 then (if w 209 0 i ≥ q then w 209 0 i + k else w 209 0 i) else w 209 0 i := by
  simp only [m_opens, fl, up, mvF, bi]
  grind
theorem closes_200 {s q k : Int} {w : Mm} {i : Int} : m_closes s q k w 200 0 i = if 400 * s + q ≤ i ∧ i + k < 400 * s + w 201 0 s then w 200 0 (i + k) else w 200 0 i := by
  simp only [m_closes, fl, up]
  grind
theorem closes_201 {s q k : Int} {w : Mm} {i : Int} : m_closes s q k w 201 0 i = if i = s then w 201 0 s - k else w 201 0 i := by
  simp only [m_closes, fl, up]
  grind
theorem closes_202 {s q k : Int} {w : Mm} {i : Int} : m_closes s q k w 202 0 i = if 6 * s ≤ i ∧ i < 6 * s + 6 then dbF (w 202 0 i) q k else w 202 0 i := by
  simp only [m_closes, fl, up]
  grind
theorem closes_208 {s q k : Int} {w : Mm} {i : Int} : m_closes s q k w 208 0 i = if s = 0 ∧ 0 ≤ i ∧ i < w 210 0 0 then dbF (w 208 0 i) q k else w 208 0 i := by
  simp only [m_closes, fl, up]
  grind
theorem closes_209 {s q k : Int} {w : Mm} {i : Int} : m_closes s q k w 209 0 i = if s = 0 ∧ 0 ≤ i ∧ i < w 210 0 0 then dbF (w 209 0 i) q k else w 209 0 i := by
  simp only [m_closes, fl, up]
  grind
theorem SB.opens {s q k : Int} {w : Mm} (h : SB s w) (hq : 0 ≤ q ∧ q ≤ w 201 0 s) (hk : 0 ≤ k ∧ w 201 0 s + k ≤ 400) : SB s (m_opens s q k w) := by
  obtain ⟨h1, h2, h3, h4, h5, h6⟩ := h
  unfold bL1 at h1
  refine ⟨?_, fun i a b => ?_, fun i a b => ?_, fun i a b => ?_, fun i a b => ?_, fun i a b => ?_⟩
  · unfold bL1; rw [opens_201, if_pos rfl]; omega
  · rw [opens_200]
    split
    · exact h2 _ (by omega) (by omega)
    · exact h2 _ a b
  · rw [opens_201, opens_202, opens_at (by omega), if_pos rfl, if_pos ⟨a, b⟩]
    have := h3 i a b
    refine ⟨?_, this.2⟩
    split
    · omega
    · split <;> omega
  · rw [opens_at (by omega)]; exact h4 i a b
  · rw [opens_at (by omega)]; exact h5 i a b
  · rw [opens_at (by omega)]; exact h6 i a b
theorem SB.opens_o {s t q k : Int} {w : Mm} (h : SB t w) (hs : t ≠ s) (hq : 0 ≤ q ∧ q ≤ w 201 0 s) (hk : 0 ≤ k ∧ w 201 0 s + k ≤ 400) (hs0 : 0 ≤ s) : SB t (m_opens s q k w) := by
  obtain ⟨h1, h2, h3, h4, h5, h6⟩ := h
  refine ⟨?_, fun i a b => ?_, fun i a b => ?_, fun i a b => ?_, fun i a b => ?_, fun i a b => ?_⟩
  · unfold bL1; rw [opens_201, if_neg hs]; exact h1
  · rw [opens_200, if_neg (by omega)]; exact h2 _ a b
  · rw [opens_201, opens_202, opens_at (by omega), if_neg hs, if_neg (by omega)]; exact h3 i a b
  · rw [opens_at (by omega)]; exact h4 i a b
  · rw [opens_at (by omega)]; exact h5 i a b
  · rw [opens_at (by omega)]; exact h6 i a b
theorem dbF_le {p q k : Int} : dbF p q k ≤ p ∨ k < 0 := by unfold dbF; split; omega; split <;> omega
theorem SB.closes {s q k : Int} {w : Mm} (h : SB s w) (hq : 0 ≤ q ∧ q + k ≤ w 201 0 s) (hk : 0 ≤ k) : SB s (m_closes s q k w) := by
  obtain ⟨h1, h2, h3, h4, h5, h6⟩ := h
  unfold bL1 at h1
  refine ⟨?_, fun i a b => ?_, fun i a b => ?_, fun i a b => ?_, fun i a b => ?_, fun i a b => ?_⟩
  · unfold bL1; rw [closes_201, if_pos rfl]; omega
  · rw [closes_200]
    split
    · exact h2 _ (by omega) (by omega)
    · exact h2 _ a b
  · rw [closes_201, closes_202, closes_at (by omega), if_pos rfl, if_pos ⟨a, b⟩]
    have := h3 i a b
    refine ⟨?_, this.2⟩
    unfold dbF
    split
    · omega
    · split <;> omega
  · rw [closes_at (by omega)]; exact h4 i a b
  · rw [closes_at (by omega)]; exact h5 i a b
  · rw [closes_at (by omega)]; exact h6 i a b
theorem SB.closes_o {s t q k : Int} {w : Mm} (h : SB t w) (hs : t ≠ s) (hq : 0 ≤ q ∧ q + k ≤ w 201 0 s) (hk : 0 ≤ k) (hL : w 201 0 s ≤ 400) (hs0 : 0 ≤ s) : SB t (m_closes s q k w) := by
  obtain ⟨h1, h2, h3, h4, h5, h6⟩ := h
  refine ⟨?_, fun i a b => ?_, fun i a b => ?_, fun i a b => ?_, fun i a b => ?_, fun i a b => ?_⟩
  · unfold bL1; rw [closes_201, if_neg hs]; exact h1
  · rw [closes_200, if_neg (by omega)]; exact h2 _ a b
  · rw [closes_201, closes_202, closes_at (by omega), if_neg hs, if_neg (by omega)]; exact h3 i a b
  · rw [closes_at (by omega)]; exact h4 i a b
  · rw [closes_at (by omega)]; exact h5 i a b
  · rw [closes_at (by omega)]; exact h6 i a b
/-- views without the point -/
def VW (s : Int) (w : Mm) : Prop := bV s w ∧ bVa s w ∧ bVn s w
theorem VW.opens {q k : Int} {w : Mm} (h : VW 0 w) (h0 : SB 0 w) (hq : 0 ≤ q ∧ q ≤ w 201 0 0) (hk : 0 ≤ k ∧ w 201 0 0 + k ≤ 400) : VW 0 (m_opens 0 q k w) := by
  obtain ⟨h1, h2, h3⟩ := h
  unfold bV at h1
  refine ⟨?_, fun i a b => ?_, fun i a b => ?_⟩
  · unfold bV; rw [opens_at (by omega)]; exact h1
  · rw [opens_208, opens_209]
    have := h2 i a b
    by_cases c : (0 : Int) = 0 ∧ 0 ≤ i ∧ i < w 210 0 0
    · have := h3 i (by omega) (by omega)
      rw [if_pos c, if_pos c]
      split <;> split <;> omega
    · rw [if_neg c, if_neg c]; exact this
  · rw [opens_at (by omega)] at b
    rw [opens_at (c := 210) (by omega), opens_208, opens_209, opens_201, opens_208, opens_209]
    have := h3 i a b
    clear h0 h2 h3
    grind
theorem VW.closes {q k : Int} {w : Mm} (h : VW 0 w) (h0 : SB 0 w) (hq : 0 ≤ q ∧ q + k ≤ w 201 0 0) (hk : 0 ≤ k) : VW 0 (m_closes 0 q k w) := by
  obtain ⟨h1, h2, h3⟩ := h
  unfold bV at h1
  refine ⟨?_, fun i a b => ?_, fun i a b => ?_⟩
  · unfold bV; rw [closes_at (by omega)]; exact h1
  · rw [closes_208, closes_209]
    have := h2 i a b
    by_cases c : (0 : Int) = 0 ∧ 0 ≤ i ∧ i < w 210 0 0
    · rw [if_pos c, if_pos c]
      unfold dbF
      refine ⟨?_, ?_⟩ <;> (split; omega; split <;> omega)
    · rw [if_neg c, if_neg c]; exact this
  · rw [closes_at (by omega)] at b
    rw [closes_at (c := 210) (by omega), closes_208, closes_209, closes_201]
    have := h3 i a b
    rw [if_pos (by omega), if_pos (by omega), if_pos rfl]
    refine ⟨?_, ?_, fun e => ?_⟩
    · unfold dbF; grind
    · unfold dbF; grind
    rw [closes_208, closes_209, if_pos (by omega), if_pos (by omega)]
    have := this.2.2 e
    constructor
    · unfold dbF; grind
    · unfold dbF; grind
theorem bP0 {w : Mm} : bP 0 w ↔ (m_vF w ≤ w 207 0 0 ∧ w 207 0 0 ≤ m_vT w) := by
  unfold bP m_vF m_vT
  rw [show 4 * (0 : Int) + w 210 0 0 - 1 = w 210 0 0 - 1 by omega]
  by_cases e : w 210 0 0 = 0
  · rw [if_pos e, if_pos e]
    exact ⟨fun h => h.1 e, fun h => ⟨fun _ => h, fun x => absurd e x⟩⟩
  · rw [if_neg e, if_neg e]
    exact ⟨fun h => h.2 e, fun h => ⟨fun x => absurd x e, fun _ => h⟩⟩
theorem vF_cong {w w' : Mm} (e : ∀ c a i, 207 ≤ c → c ≤ 210 → w' c a i = w c a i) : m_vF w' = m_vF w := by
  unfold m_vF; rw [e 210 _ _ (by decide) (by decide), e 208 _ _ (by decide) (by decide)]
theorem vT_cong {w w' : Mm} (e : ∀ c a i, 207 ≤ c → c ≤ 210 → w' c a i = w c a i) (e2 : w' 201 0 0 = w 201 0 0) : m_vT w' = m_vT w := by
  unfold m_vT; rw [e 210 _ _ (by decide) (by decide), e 209 _ _ (by decide) (by decide), e2]
theorem VW.vF {w : Mm} (h : VW 0 w) (h0 : bL1 0 w) : 0 ≤ m_vF w ∧ m_vF w ≤ m_vT w ∧ m_vT w ≤ w 201 0 0 := by
  obtain ⟨a, b, c⟩ := h
  unfold m_vF m_vT
  unfold bV at a
  unfold bL1 at h0
  by_cases e : w 210 0 0 = 0
  · rw [if_pos e, if_pos e]; omega
  · rw [if_neg e, if_neg e]
    have h3 := b (w 210 0 0 - 1) (by omega) (by omega)
    have h4 := c (w 210 0 0 - 1) (by omega) (by omega)
    omega
theorem vF_opens {q k : Int} {w : Mm} (hv : 0 ≤ w 210 0 0 ∧ w 210 0 0 ≤ 4) (hq : 0 ≤ q) : m_vF (m_opens 0 q k w) = if m_vF w > q then m_vF w + k else m_vF w := by
  unfold m_vF
  rw [opens_at (by omega)]
  by_cases e : w 210 0 0 = 0
  · rw [if_pos e, if_pos e, if_neg (by omega)]
  · rw [if_neg e, if_neg e, opens_208, if_pos (by omega)]
theorem vT_opens {q k : Int} {w : Mm} (hv : 0 ≤ w 210 0 0 ∧ w 210 0 0 ≤ 4) (hq : q ≤ w 201 0 0) : m_vT (m_opens 0 q k w) = if m_vT w ≥ q then m_vT w + k else m_vT w := by
  unfold m_vT
  rw [opens_at (by omega)]
  by_cases e : w 210 0 0 = 0
  · rw [if_pos e, if_pos e, opens_201, if_pos rfl, if_pos (by omega)]
  · rw [if_neg e, if_neg e, opens_209, if_pos (by omega)]
theorem vF_closes {q k : Int} {w : Mm} (hv : 0 ≤ w 210 0 0 ∧ w 210 0 0 ≤ 4) (hq : 0 ≤ q) (hk : 0 ≤ k) : m_vF (m_closes 0 q k w) = dbF (m_vF w) q k := by
  unfold m_vF
  rw [closes_at (by omega)]
  by_cases e : w 210 0 0 = 0
  · rw [if_pos e, if_pos e]; unfold dbF; rw [if_neg (by omega), if_neg (by omega)]
  · rw [if_neg e, if_neg e, closes_208, if_pos (by omega)]
theorem vT_closes {q k : Int} {w : Mm} (hv : 0 ≤ w 210 0 0 ∧ w 210 0 0 ≤ 4) (hq : q + k ≤ w 201 0 0) (hk : 0 ≤ k) : m_vT (m_closes 0 q k w) = dbF (m_vT w) q k := by
  unfold m_vT
  rw [closes_at (by omega)]
  by_cases e : w 210 0 0 = 0
  · rw [if_pos e, if_pos e, closes_201, if_pos rfl]; unfold dbF; split; rfl; split <;> omega
  · rw [if_neg e, if_neg e, closes_209, if_pos (by omega)]
/-- what is worked on, but for the point -/
def LW (μ : MU) (S P : Int) (w : Mm) : Prop := SB 0 w ∧ VW 0 w ∧ bB w ∧ bTr w ∧ bN μ S P w
theorem LB.w {μ : MU} {S P : Int} {w : Mm} (h : LB μ S P w) : LW μ S P w := ⟨h.1, ⟨h.2.1.1, h.2.1.2.1, h.2.1.2.2.1⟩, h.2.2⟩
theorem LW.b {μ : MU} {S P : Int} {w : Mm} (h : LW μ S P w) (hp : m_vF w ≤ w 207 0 0 ∧ w 207 0 0 ≤ m_vT w) : LB μ S P w := ⟨h.1, ⟨h.2.1.1, h.2.1.2.1, h.2.1.2.2, bP0.mpr hp⟩, h.2.2⟩
theorem LW.f {μ : MU} {S P : Int} {w : Mm} (h : LW μ S P w) : (0 ≤ w 201 0 0 ∧ w 201 0 0 ≤ 400) ∧ (0 ≤ w 210 0 0 ∧ w 210 0 0 ≤ 4) ∧ (0 ≤ m_vF w ∧ m_vF w ≤ m_vT w ∧ m_vT w ≤ w 201 0 0) ∧ (0 ≤ w 120 μ.1 0 ∧ w 120 μ.1 0 ≤ S) ∧ (0 ≤ w 121 μ.1 0 ∧ w 121 μ.1 0 ≤ P) :=
  ⟨h.1.1, h.2.1.1, h.2.1.vF h.1.1, h.2.2.2.2.1, h.2.2.2.2.2⟩
theorem VW.cong {s : Int} {w w' : Mm} (h : VW s w) (e : ∀ c a i, 208 ≤ c → c ≤ 210 → w' c a i = w c a i) (e2 : w' 201 0 s = w 201 0 s) : VW s w' := by
  obtain ⟨h1, h2, h3⟩ := h
  have e' : ∀ c : Nat, 208 ≤ c → c ≤ 210 → w' c = w c := fun c a b => funext fun x => funext fun i => e c x i a b
  refine ⟨?_, ?_, ?_⟩
  · unfold bV; rw [e' _ (by decide) (by decide)]; exact h1
  · unfold bVa; rw [e' 208 (by decide) (by decide), e' 209 (by decide) (by decide)]; exact h2
  · unfold bVn; rw [e' 208 (by decide) (by decide), e' 209 (by decide) (by decide), e' 210 (by decide) (by decide), e2]; exact h3
theorem bB.cong {w w' : Mm} (h : bB w) (e : ∀ i, w' 240 0 i = w 240 0 i) : bB w' := fun i a b => by rw [e]; exact h i a b
theorem bTr.cong {w w' : Mm} (h : bTr w) (e : ∀ i, w' 211 0 i = w 211 0 i) : bTr w' := fun i a b => by rw [e]; exact h i a b
theorem bN.cong {μ : MU} {S P : Int} {w w' : Mm} (h : bN μ S P w) (e : w' 120 μ.1 0 = w 120 μ.1 0) (e2 : w' 121 μ.1 0 = w 121 μ.1 0) : bN μ S P w' := by unfold bN; rw [e, e2]; exact h
/-- all that is looked at stays -/
theorem LW.cong {μ : MU} {S P : Int} {w w' : Mm} (h : LW μ S P w) (e : ∀ c a i, 200 ≤ c → c ≤ 240 → c ≠ 207 → (c ≤ 211 ∨ 240 ≤ c) → w' c a i = w c a i) (e1 : w' 120 μ.1 0 = w 120 μ.1 0) (e2 : w' 121 μ.1 0 = w 121 μ.1 0) : LW μ S P w' := by
  obtain ⟨h1, h2, h3, h4, h5⟩ := h
  exact ⟨h1.cong fun c a i x y => e c a i (by omega) (by omega) (by omega) (by omega), h2.cong (fun c a i x y => e c a i (by omega) (by omega) (by omega) (by omega)) (e _ _ _ (by decide) (by decide) (by decide) (by decide)), h3.cong fun i => e _ _ _ (by decide) (by decide) (by decide) (by decide), h4.cong fun i => e _ _ _ (by decide) (by decide) (by decide) (by decide), h5.cong e1 e2⟩
theorem LW.step {μ : MU} {S P : Int} {w : Mm} (h : LW μ S P w) {k p v : Int} : LW μ (S + 1) P (m_step μ k p v w) := by
  obtain ⟨h1, h2, h3, h4, h5⟩ := h
  refine ⟨h1.cong fun c' _ _ _ _ => step_at (by omega), h2.cong (fun c' _ _ _ _ => step_at (by omega)) (step_at (by omega)), h3.cong fun i => step_at (by omega), h4.cong fun i => step_at (by omega), ?_⟩
  unfold bN m_step at *
  rw [up_s, up_k _ (by omega), up_k _ (by omega)]; omega
theorem LW.poolN {μ : MU} {S P : Int} {w : Mm} (h : LW μ S P w) {f : Int → Int} {n : Nat} : LW μ S (P + n) (m_poolN μ f n w) := by
  obtain ⟨h1, h2, h3, h4, h5⟩ := h
  refine ⟨h1.cong fun c' _ _ _ _ => poolN_at (by omega), h2.cong (fun c' _ _ _ _ => poolN_at (by omega)) (poolN_at (by omega)), h3.cong fun i => poolN_at (by omega), h4.cong fun i => poolN_at (by omega), ?_⟩
  unfold bN at *
  rw [poolN_n, poolN_at (by omega)]; omega
theorem LW.opens {μ : MU} {S P q k : Int} {w : Mm} (h : LW μ S P w) (hq : 0 ≤ q ∧ q ≤ w 201 0 0) (hk : 0 ≤ k ∧ w 201 0 0 + k ≤ 400) : LW μ S P (m_opens 0 q k w) :=
  ⟨h.1.opens hq hk, h.2.1.opens h.1 hq hk, h.2.2.1.cong fun i => opens_at (by omega), h.2.2.2.1.cong fun i => opens_at (by omega), h.2.2.2.2.cong (opens_at (by omega)) (opens_at (by omega))⟩
theorem LW.closes {μ : MU} {S P q k : Int} {w : Mm} (h : LW μ S P w) (hq : 0 ≤ q ∧ q + k ≤ w 201 0 0) (hk : 0 ≤ k) : LW μ S P (m_closes 0 q k w) :=
  ⟨h.1.closes hq hk, h.2.1.closes h.1 hq hk, h.2.2.1.cong fun i => closes_at (by omega), h.2.2.2.1.cong fun i => closes_at (by omega), h.2.2.2.2.cong (closes_at (by omega)) (closes_at (by omega))⟩
/-- characters come into the text -/
theorem SB.txt {s lo n : Int} {w : Mm} {f : Int → Int} (h : SB s w) (hf : ∀ i, lo ≤ i → i < lo + n → 0 ≤ f i ∧ f i ≤ 126) : SB s (fl w 200 lo n f) := by
  obtain ⟨h1, h2, h3, h4, h5, h6⟩ := h
  refine ⟨?_, fun i a b => ?_, fun i a b => ?_, fun i a b => ?_, fun i a b => ?_, fun i a b => ?_⟩
  · unfold bL1; rw [fl_at (by decide)]; exact h1
  · simp only [fl]
    split
    · exact hf i (by omega) (by omega)
    · exact h2 _ a b
  · rw [fl_at (by decide), fl_at (by decide), fl_at (by decide)]; exact h3 i a b
  · rw [fl_at (by omega)]; exact h4 i a b
  · rw [fl_at (by omega)]; exact h5 i a b
  · rw [fl_at (by omega)]; exact h6 i a b
theorem LW.txt {μ : MU} {S P lo n : Int} {w : Mm} {f : Int → Int} (h : LW μ S P w) (hf : ∀ i, lo ≤ i → i < lo + n → 0 ≤ f i ∧ f i ≤ 126) : LW μ S P (fl w 200 lo n f) :=
  ⟨h.1.txt hf, h.2.1.cong (fun c _ _ _ _ => fl_at (by omega)) (fl_at (by omega)), h.2.2.1.cong fun i => fl_at (by omega), h.2.2.2.1.cong fun i => fl_at (by omega), h.2.2.2.2.cong (fl_at (by omega)) (fl_at (by omega))⟩
theorem up_fl1 {w : Mm} {c : Nat} {i v : Int} : up w c 0 i v = fl w c i 1 (fun _ => v) := by
  funext c' a j
  simp only [up, fl]
  by_cases e : c' = c ∧ a = 0 ∧ j = i
  · rw [if_pos e, if_pos (by omega)]
  · rw [if_neg e, if_neg (by omega)]
theorem LW.ins {μ : MU} {S P q k : Int} {w : Mm} (h : LW μ S P w) (hq : 0 ≤ q ∧ q ≤ w 201 0 0) (hk : 0 ≤ k ∧ w 201 0 0 + k ≤ 400) : LW μ (S + 1) (P + k) (m_ins μ q k w) := by
  unfold m_ins
  have h1 := ((h.opens hq hk).step (k := 0) (p := q) (v := k)).txt (lo := q) (n := k) (f := fun i => w 240 0 (i - q)) (fun i a b => h.2.2.1 _ (by omega) (by have := h.1.1; unfold bL1 at this; omega))
  have h2 := h1.poolN (f := fun i => w 240 0 i) (n := k.toNat)
  rw [show P + k = P + (k.toNat : Int) by omega]
  exact h2
theorem LW.del {μ : MU} {S P q k : Int} {w : Mm} (h : LW μ S P w) (hq : 0 ≤ q ∧ q + k ≤ w 201 0 0) (hk : 0 ≤ k) : LW μ (S + 1) P (m_del μ q k w) := (h.closes hq hk).step
theorem LW.rep {μ : MU} {S P q c : Int} {w : Mm} (h : LW μ S P w) (hc : 0 ≤ c ∧ c ≤ 126) : LW μ (S + 1) P (m_rep μ q c w) := by
  unfold m_rep
  rw [up_fl1]
  exact (h.txt (fun _ _ _ => hc)).step
theorem LW.mono {μ : MU} {S P S' P' : Int} {w : Mm} (h : LW μ S P w) (h1 : S ≤ S') (h2 : P ≤ P') : LW μ S' P' w := by
  obtain ⟨a1, a2, a3, a4, a5⟩ := h
  refine ⟨a1, a2, a3, a4, ?_⟩
  unfold bN at *; omega
/-- a whole number of the object, or the point -/
theorem LW.up_o {μ : MU} {S P : Int} {w : Mm} (h : LW μ S P w) {c : Nat} {a i v : Int} (hc : (c < 200 ∧ c ≠ 120 ∧ c ≠ 121) ∨ c = 207) : LW μ S P (up w c a i v) :=
  h.cong (fun c' _ _ _ _ _ _ => up_k _ (by omega) _ _ _ _ _) (up_k _ (by omega) _ _ _ _ _) (up_k _ (by omega) _ _ _ _ _)
theorem ins_vF {μ : MU} {q k : Int} {w : Mm} (hv : 0 ≤ w 210 0 0 ∧ w 210 0 0 ≤ 4) (hq : 0 ≤ q) : m_vF (m_ins μ q k w) = if m_vF w > q then m_vF w + k else m_vF w := by
  rw [← vF_opens hv hq]
  refine vF_cong fun c a i x y => ?_
  unfold m_ins
  rw [poolN_at (by omega), fl_at (by omega), step_at (by omega)]
theorem ins_vT {μ : MU} {q k : Int} {w : Mm} (hv : 0 ≤ w 210 0 0 ∧ w 210 0 0 ≤ 4) (hq : q ≤ w 201 0 0) : m_vT (m_ins μ q k w) = if m_vT w ≥ q then m_vT w + k else m_vT w := by
  rw [← vT_opens hv hq]
  refine vT_cong (fun c a i x y => ?_) ?_
  · unfold m_ins
    rw [poolN_at (by omega), fl_at (by omega), step_at (by omega)]
  · unfold m_ins
    rw [poolN_at (by omega), fl_at (by omega), step_at (by omega)]
theorem ins_len {μ : MU} {q k : Int} {w : Mm} : m_ins μ q k w 201 0 0 = w 201 0 0 + k := by
  unfold m_ins
  rw [poolN_at (by omega), fl_at (by omega), step_at (by omega), opens_201, if_pos rfl]
theorem del_vF {μ : MU} {q k : Int} {w : Mm} (hv : 0 ≤ w 210 0 0 ∧ w 210 0 0 ≤ 4) (hq : 0 ≤ q) (hk : 0 ≤ k) : m_vF (m_del μ q k w) = dbF (m_vF w) q k := by
  rw [← vF_closes hv hq hk]
  exact vF_cong fun c a i x y => step_at (by omega)
theorem del_vT {μ : MU} {q k : Int} {w : Mm} (hv : 0 ≤ w 210 0 0 ∧ w 210 0 0 ≤ 4) (hq : q + k ≤ w 201 0 0) (hk : 0 ≤ k) : m_vT (m_del μ q k w) = dbF (m_vT w) q k := by
  rw [← vT_closes hv hq hk]
  exact vT_cong (fun c a i x y => step_at (by omega)) (step_at (by omega))
theorem del_len {μ : MU} {q k : Int} {w : Mm} : m_del μ q k w 201 0 0 = w 201 0 0 - k := by
  unfold m_del
  rw [step_at (by omega), closes_201, if_pos rfl]
theorem up_vF {w : Mm} {c : Nat} {a i v : Int} (hc : c < 207 ∨ 210 < c ∨ c = 207) : m_vF (up w c a i v) = m_vF w := by
  unfold m_vF
  rw [up_k _ (by omega), up_k _ (by omega)]
theorem up_vT {w : Mm} {c : Nat} {a i v : Int} (hc : c < 201 ∨ 210 < c ∨ (201 < c ∧ c ≤ 207)) : m_vT (up w c a i v) = m_vT w := by
  unfold m_vT
  rw [up_k _ (by omega), up_k _ (by omega), up_k _ (by omega)]
/-- the point is set -/
theorem LW.pt {μ : MU} {S P : Int} {w : Mm} (h : LW μ S P w) {v : Int} (hv : m_vF w ≤ v ∧ v ≤ m_vT w) : LB μ S P (up w 207 0 0 v) :=
  (h.up_o (Or.inr rfl)).b (by rw [up_vF (by omega), up_vT (by omega), up_s]; exact hv)
theorem LB.ins {μ : MU} {S P k : Int} {w : Mm} (h : LB μ S P w) (hk : 0 ≤ k ∧ w 201 0 0 + k ≤ 400) : LB μ (S + 1) (P + k) (m_ins μ (w 207 0 0) k w) := by
  obtain ⟨f1, f2, f3, f4, f5⟩ := h.f
  refine (h.w.ins (by omega) hk).b ?_
  rw [ins_vF f2 (by omega), ins_vT f2 (by omega), ins_at (by decide), if_neg (by omega), if_pos (by omega)]
  omega
theorem LB.del {μ : MU} {S P k : Int} {w : Mm} (h : LB μ S P w) (hk : 0 ≤ k ∧ w 207 0 0 + k ≤ w 201 0 0) : LB μ (S + 1) P (m_del μ (w 207 0 0) k w) := by
  obtain ⟨f1, f2, f3, f4, f5⟩ := h.f
  refine (h.w.del (by omega) (by omega)).b ?_
  rw [del_vF f2 (by omega) (by omega), del_vT f2 (by omega) (by omega), del_at (by decide)]
  unfold dbF
  rw [if_neg (by omega), if_neg (by omega)]
  refine ⟨by omega, ?_⟩
  split
  · omega
  · split <;> omega
theorem LB.rep {μ : MU} {S P q c : Int} {w : Mm} (h : LB μ S P w) (hc : 0 ≤ c ∧ c ≤ 126) : LB μ (S + 1) P (m_rep μ q c w) := by
  obtain ⟨f1, f2, f3, f4, f5⟩ := h.f
  refine (h.w.rep hc).b ?_
  have e1 : m_vF (m_rep μ q c w) = m_vF w := vF_cong (fun c a i x y => rep_at (by omega))
  have e2 : m_vT (m_rep μ q c w) = m_vT w := vT_cong (fun c a i x y => rep_at (by omega)) (rep_at (by omega))
  rw [e1, e2, rep_at (by decide)]
  omega
theorem SB.f204 {s i v : Int} {w : Mm} (h : SB s w) (hv : 0 ≤ v ∧ v ≤ 4) (hi : v ≤ 1 ∨ ∃ t, i = 5 * t + 4) : SB s (up w 204 0 i v) := by
  obtain ⟨h1, h2, h3, h4, h5, h6⟩ := h
  refine ⟨?_, fun i a b => ?_, fun i a b => ?_, fun j a b => ?_, fun i a b => ?_, fun i a b => ?_⟩
  · unfold bL1; rw [up_k _ (by decide)]; exact h1
  · rw [up_k _ (by decide)]; exact h2 i a b
  · rw [up_k _ (by decide), up_k _ (by decide), up_k _ (by decide)]; exact h3 i a b
  · simp only [up]
    split
    · refine ⟨hv.1, hv.2, fun e => ?_⟩
      rcases hi with hi | ⟨t, ht⟩ <;> omega
    · exact h4 j a b
  · rw [up_k _ (by decide)]; exact h5 i a b
  · rw [up_k _ (by decide)]; exact h6 i a b
theorem SB.f205 {s lo n : Int} {f : Int → Int} {w : Mm} (h : SB s w) (hf : ∀ i, lo ≤ i → i < lo + n → 20 * s ≤ i → i < 20 * s + 20 → 0 ≤ f i ∧ f i ≤ 20) : SB s (fl w 205 lo n f) := by
  obtain ⟨h1, h2, h3, h4, h5, h6⟩ := h
  refine ⟨?_, fun i a b => ?_, fun i a b => ?_, fun i a b => ?_, fun i a b => ?_, fun i a b => ?_⟩
  · unfold bL1; rw [fl_at (by decide)]; exact h1
  · rw [fl_at (by decide)]; exact h2 i a b
  · rw [fl_at (by decide), fl_at (by decide), fl_at (by decide)]; exact h3 i a b
  · rw [fl_at (by decide)]; exact h4 i a b
  · simp only [fl]
    split
    · exact hf i (by omega) (by omega) a b
    · exact h5 i a b
  · rw [fl_at (by decide)]; exact h6 i a b
theorem SB.f206 {s lo n : Int} {f : Int → Int} {w : Mm} (h : SB s w) (hf : ∀ i, lo ≤ i → i < lo + n → 400 * s ≤ i → i < 400 * s + 400 → 0 ≤ f i ∧ f i ≤ 126) : SB s (fl w 206 lo n f) := by
  obtain ⟨h1, h2, h3, h4, h5, h6⟩ := h
  refine ⟨?_, fun i a b => ?_, fun i a b => ?_, fun i a b => ?_, fun i a b => ?_, fun i a b => ?_⟩
  · unfold bL1; rw [fl_at (by decide)]; exact h1
  · rw [fl_at (by decide)]; exact h2 i a b
  · rw [fl_at (by decide), fl_at (by decide), fl_at (by decide)]; exact h3 i a b
  · rw [fl_at (by decide)]; exact h4 i a b
  · rw [fl_at (by decide)]; exact h5 i a b
  · simp only [fl]
    split
    · exact hf i (by omega) (by omega) a b
    · exact h6 i a b
theorem SB.f240 {s lo n : Int} {f : Int → Int} {w : Mm} (h : SB s w) : SB s (fl w 240 lo n f) := h.cong fun c _ _ _ _ => fl_at (by omega)
theorem SB.tak {s t st e k : Int} {w : Mm} (h : SB s w) (hb : bB w) (hk : 0 ≤ k ∧ k ≤ 20) : SB s (m_tak t st e k w) := by
  unfold m_tak
  rw [up_fl1]
  exact (h.f205 (fun _ _ _ _ _ => hk)).f206 fun i a b _ _ => hb _ (by omega) (by omega)
theorem SB.psh {s t k : Int} {w : Mm} (h : SB s w) (hb : bB w) (hk : 0 ≤ k ∧ k ≤ 20) (h0 : 0 ≤ w 204 0 (5 * t + 4)) : SB s (m_psh t k w) := by
  unfold m_psh
  have hc : 0 ≤ (if w 204 0 (5 * t + 4) < 4 then w 204 0 (5 * t + 4) + 1 else 4) ∧ (if w 204 0 (5 * t + 4) < 4 then w 204 0 (5 * t + 4) + 1 else 4) ≤ 4 := by split <;> omega
  generalize (if w 204 0 (5 * t + 4) < 4 then w 204 0 (5 * t + 4) + 1 else 4) = c1 at hc ⊢
  dsimp only
  refine SB.tak ?_ (hb.cong fun i => by rw [fl_at (by decide), fl_at (by decide), up_k _ (by decide)]) hk
  refine ((h.f204 hc (Or.inr ⟨t, rfl⟩)).f205 fun i a b c d => h.2.2.2.2.1 _ (by omega) (by omega)).f206 fun i a b c d => h.2.2.2.2.2 _ (by omega) (by omega)
theorem bB.ld {w : Mm} {n : Int} {f : Int → Int} (h : bB w) (hf : ∀ i, 0 ≤ i → i < n → 0 ≤ f i ∧ f i ≤ 126) : bB (fl w 240 0 n f) := by
  intro i a b
  simp only [fl]
  split
  · exact hf i (by omega) (by omega)
  · exact h i a b
theorem SB.trn {s t : Int} {w : Mm} (h : SB s w) (ht : SB t w) (hb : bB w) : SB s (m_trn t w) := by
  unfold m_trn
  dsimp only
  have h4 := ht.2.2.2.1 (5 * t + 4) (by omega) (by omega)
  have h5 := ht.2.2.2.2.1 (20 * t + 16) (by omega) (by omega)
  refine SB.tak ?_ ?_ h5
  · exact ((h.f240).f205 fun i a b c d => h.2.2.2.2.1 _ (by omega) (by omega)).f206 fun i a b c d => h.2.2.2.2.2 _ (by omega) (by omega)
  · refine (hb.ld (n := 20) (f := fun i => w 206 0 (400 * t + 320 + i)) fun i a b => ht.2.2.2.2.2 _ (by omega) (by omega)).cong fun i => ?_
    rw [fl_at (by decide), fl_at (by decide)]
/-- stores and the buffer change -/
theorem LB.store {μ : MU} {S P : Int} {w w' : Mm} (h : LB μ S P w) (h0 : SB 0 w') (hb : bB w') (e : ∀ c a i, (c < 204 ∨ 206 < c) → c ≠ 240 → w' c a i = w c a i) : LB μ S P w' :=
  ⟨h0, h.2.1.cong (fun c _ _ _ _ => e _ _ _ (by omega) (by omega)) (e _ _ _ (by omega) (by omega)), hb, h.2.2.2.1.cong fun i => e _ _ _ (by omega) (by omega), h.2.2.2.2.cong (e _ _ _ (by omega) (by omega)) (e _ _ _ (by omega) (by omega))⟩
theorem bB.tak {t s e k : Int} {w : Mm} (h : bB w) : bB (m_tak t s e k w) := h.cong fun i => tak_at (by omega)
theorem bB.psh {t k : Int} {w : Mm} (h : bB w) : bB (m_psh t k w) := h.cong fun i => psh_at (by omega)
theorem bB.trn {t : Int} {w : Mm} (h : bB w) (ht : SB t w) : bB (m_trn t w) := by
  unfold m_trn
  dsimp only
  refine bB.tak ?_
  refine (h.ld (n := 20) (f := fun i => w 206 0 (400 * t + 320 + i)) fun i a b => ht.2.2.2.2.2 _ (by omega) (by omega)).cong fun i => ?_
  rw [fl_at (by decide), fl_at (by decide)]
theorem LB.rd {μ : MU} {S P k : Int} {w : Mm} (h : LB μ S P w) (hk : w 207 0 0 + k ≤ 400) : LB μ S P (m_rd k w) := by
  obtain ⟨f1, f2, f3, f4, f5⟩ := h.f
  refine h.store h.1.f240 (h.2.2.1.ld fun i a b => h.1.2.1 _ (by omega) (by omega)) fun c a i _ hc => fl_at hc
theorem LB.psh {μ : MU} {S P k : Int} {w : Mm} (h : LB μ S P w) (hk : 0 ≤ k ∧ k ≤ 20) : LB μ S P (m_psh 0 k w) :=
  h.store (h.1.psh h.2.2.1 hk (h.1.2.2.2.1 _ (by omega) (by omega)).1) h.2.2.1.psh fun c a i hc _ => psh_at hc
theorem LB.trn {μ : MU} {S P : Int} {w : Mm} (h : LB μ S P w) : LB μ S P (m_trn 0 w) :=
  h.store (h.1.trn h.1 h.2.2.1) (h.2.2.1.trn h.1) fun c a i hc h2 => trn_at (by omega)
theorem LB.tak {μ : MU} {S P s e k : Int} {w : Mm} (h : LB μ S P w) (hk : 0 ≤ k ∧ k ≤ 20) : LB μ S P (m_tak 0 s e k w) :=
  h.store (h.1.tak h.2.2.1 hk) h.2.2.1.tak fun c a i hc _ => tak_at (by omega)
theorem LB.cnt {μ : MU} {S P i v : Int} {w : Mm} (h : LB μ S P w) (hv : 0 ≤ v ∧ v ≤ 4) (hi : v ≤ 1 ∨ ∃ t, i = 5 * t + 4) : LB μ S P (up w 204 0 i v) :=
  h.store (h.1.f204 hv hi) (h.2.2.1.cong fun i => up_k _ (by decide) _ _ _ _ _) fun c a i hc _ => up_k _ (by omega) _ _ _ _ _
theorem LB.pEn {μ : MU} {S P s e : Int} {b w : Mm} (h : LB μ S P w) (hb : SB 0 b) (hi : 0 ≤ 4 * s + e ∧ 4 * s + e < 20) : LB μ S (P + 20) (m_pEn μ s e b w) := by
  unfold m_pEn
  have := hb.2.2.2.2.1 (4 * s + e) (by omega) (by omega)
  exact h.poolN.mono (Int.le_refl _) (by omega)
theorem LB.cn {μ : MU} {S P s : Int} {w : Mm} (h : LB μ S P w) (hs : 0 ≤ s ∧ s ≤ 4) : 0 ≤ w 204 0 s ∧ w 204 0 s ≤ 4 ∧ (s ≠ 4 → w 204 0 s ≤ 1) := by
  have := h.1.2.2.2.1 s (by omega) (by omega); omega
theorem LB.el {μ : MU} {S P i : Int} {w : Mm} (h : LB μ S P w) (hs : 0 ≤ i ∧ i < 20) : 0 ≤ w 205 0 i ∧ w 205 0 i ≤ 20 := h.1.2.2.2.2.1 i (by omega) (by omega)
theorem LB.mk {μ : MU} {S P i : Int} {w : Mm} (h : LB μ S P w) (hs : 0 ≤ i ∧ i ≤ 5) : (-1 ≤ w 202 0 i ∧ w 202 0 i ≤ w 201 0 0) ∧ (w 203 0 i = 0 ∨ w 203 0 i = 1) := h.1.2.2.1 i (by omega) (by omega)
