def m_rnW (μ : MU) (w : Mm) : Mm := m_saves μ 3 (m_saves μ 2 (m_th μ 0 w))
def m_grR (μ : MU) (m k : Int) (w : Mm) : Int × Int × Int × Mm := (m_grun μ 5000 1 0 0 0 (m_gst μ m k w)).getD (0, 0, 0, w)
def m_rn2 (μ : MU) (m k had hadAt told : Int) (e : Int × Mm) : Int × Mm := if e.1 = 0 then (0, up (up (up e.2 134 μ.1 0 had) 135 μ.1 0 hadAt) 139 μ.1 0 3) else (told, m_rec μ 15 m k (up e.2 129 μ.1 0 (-1)))
def m_rn1 (μ : MU) (m k had hadAt : Int) (q : Int × Mm) : Int × Mm := m_rn2 μ m k had hadAt q.1 (m_ends μ 0 q.2)
theorem rnW_ok {μ : MU} {S P M m k : Int} {w : Mm} (h : RB μ S P M w) (hm : 0 ≤ m ∧ m ≤ 3) (hk : 1 ≤ k ∧ k ≤ 10) : LB μ S P (m_saves μ 2 (m_th μ 0 w)) ∧ GI μ S P M 1 0 (m_gst μ m k (m_rnW μ w)) ∧ m_grun μ 5000 1 0 0 0 (m_gst μ m k (m_rnW μ w)) = some (m_grR μ m k (m_rnW μ w)) ∧ GE μ S P M (m_rnW μ w) (m_grR μ m k (m_rnW μ w)) := by
  obtain ⟨p1, p2, p3⟩ := cal_pre (h.th (k := 0))
  have q1 : LB μ S P (m_rnW μ w) := p1.saves (by decide)
  have q2 : RK μ S P M (m_rnW μ w) := p2.saves p1 (by decide)
  have hc := (q2.2.2.2.2.2.2 m (by omega) (by omega)).1
  have hG : GI μ S P M 1 0 (m_gst μ m k (m_rnW μ w)) := by
    refine ⟨(((((q1.up_o (by decide)).up_o (by decide)).up_o (by decide)).up_o (by decide)).up_o (by decide)).mono (by omega) (by omega), (((((q2.up_o (by decide)).up_o (by decide)).up_o (by decide)).up_o (by decide)).up_o (by decide)).mono (by omega) (by omega), fun i a b => ?_, by omega⟩
    have e : i = 1 := by omega
    subst e
    unfold m_gst
    simp (disch := decide) only [up_k, up_s]
    omega
  have hF : GF μ (m_rnW μ w) (m_gst μ m k (m_rnW μ w)) := by
    have h0 : GF μ (m_rnW μ w) (m_rnW μ w) := ⟨fun _ _ _ _ => rfl, fun _ _ _ _ _ _ => rfl, ⟨rfl, rfl⟩, AP.r, by
      unfold m_rnW; rw [saves_214.1, saves_at (by decide)]; exact Int.le_refl _, by
      unfold m_rnW; rw [saves_214.2, saves_at (by decide)]; exact Int.le_refl _⟩
    exact ((((h0.u (by decide)).u (by decide)).u (by decide)).u (by decide)).u (by decide)
  obtain ⟨R, h1, h2⟩ := grun_ok 5000 1 0 0 0 _ hG hF (by decide) (by decide) (by decide) (by
    unfold gph m_gst
    rw [if_pos rfl]
    show (0 + (up (up (up (up (up (m_rnW μ w) 237 0 1 m) 238 0 1 k) 239 0 1 0) 134 μ.1 0 0) 135 μ.1 0 (-1) 238 0 1 + 1)) + 13 * (24 - 0) + 1 < 5000
    simp (disch := decide) only [up_k, up_s]
    omega)
  refine ⟨p1, hG, ?_, ?_⟩
  · unfold m_grR; rw [h1]; rfl
  · unfold m_grR; rw [h1]; exact h2
theorem gen_ok {μ : MU} {S P M : Int} {w0 : Mm} {R : Int × Int × Int × Mm} (h : GE μ S P M w0 R) (hz : w0 122 μ.1 0 ≤ w0 120 μ.1 0) : LB μ (S + 48) (P + 480) (m_gen μ R).2 ∧ RK μ (S + 48) (P + 480) M (m_gen μ R).2 ∧ (m_gen μ R).2 122 μ.1 0 ≤ (m_gen μ R).2 120 μ.1 0 ∧ (∀ c a i, gfK c = false → (m_gen μ R).2 c a i = w0 c a i) ∧ (0 ≤ (m_gen μ R).1 ∧ (m_gen μ R).1 ≤ 24) ∧ w0 120 μ.1 0 ≤ (m_gen μ R).2 120 μ.1 0 ∧ (∀ i, 0 ≤ i → i < w0 120 μ.1 0 → (m_gen μ R).2 212 0 i = w0 212 0 i) ∧ ((m_gen μ R).2 214 0 2 = w0 214 0 2 ∧ (m_gen μ R).2 215 0 2 = w0 215 0 2 ∧ (m_gen μ R).2 201 0 2 = w0 201 0 2) := by
  obtain ⟨⟨l, h1, h2, h3, h4⟩, ⟨g1, g2, g3, g4, g5, g6⟩, ht, hr⟩ := h
  unfold m_gen
  split
  · dsimp only
    refine ⟨LB.rest h1 (h2.2.1.mono (by omega) (by omega)), (h2.rest (Or.inr rfl)).mono (by omega) (by omega), ?_, fun c a i hc => ?_, ht, ?_, fun i a b => ?_, ?_, ?_, ?_⟩
    · rw [rest_120.1, rest_at (by decide), g1 _ _ _ (by decide)]; omega
    · have hc' := of_decide_eq_false hc
      show m_rest μ 3 0 R.2.2.2 c a i = _
      rw [rest_at (by omega)]; exact g1 c a i hc
    · rw [rest_120.1]; exact g5
    · show m_rest μ 3 0 R.2.2.2 212 0 i = _
      rw [rest_at (by decide)]; exact g4.2.2.1 i a b
    · show m_rest μ 3 0 R.2.2.2 214 0 2 = _
      rw [rest_at (by decide)]; exact g3.1
    · show m_rest μ 3 0 R.2.2.2 215 0 2 = _
      rw [rest_at (by decide)]; exact g3.2
    · show m_rest μ 3 0 R.2.2.2 201 0 2 = _
      rw [rest_201, if_neg (by decide)]; exact g2 201 2 (by decide) (by decide) (by decide) (by decide)
  · refine ⟨h1.mono (by omega) (by omega), h2.mono (by omega) (by omega), ?_, g1, by omega, g4.1, g4.2.2.1, g3.1, g3.2, g2 201 2 (by decide) (by decide) (by decide) (by decide)⟩
    have := g4.1
    show R.2.2.2 122 μ.1 0 ≤ R.2.2.2 120 μ.1 0
    rw [g1 _ _ _ (by decide)]; omega
def o_run (μ : MU) (m k : Int) (w : Mm) : Int × Mm := if 0 ≤ m ∧ m ≤ 3 then (if 1 ≤ k ∧ k ≤ 10 then (if m_full μ w then (0, m_th μ 3 w) else m_rn1 μ m k (w 134 μ.1 0) (w 135 μ.1 0) (m_gen μ (m_grR μ m k (m_rnW μ w)))) else (0, m_th μ 2 w)) else (0, m_th μ 1 w)
def plen (w : Mm) : Nat → Int → Int
  | 0, _ => 0
  | n + 1, k => if k = -1 then 0 else 1 + plen w n (w 217 0 k)
def m_pln (w : Mm) (k : Int) : Int := plen w (k + 1).toNat k
def m_anc (w : Mm) (k : Int) : Nat → Int
  | 0 => k
  | n + 1 => w 217 0 (m_anc w k n)
def bPr (m : Int) (w : Mm) : Prop := ∀ k, 0 ≤ k → k < m → -1 ≤ w 217 0 k ∧ w 217 0 k < k
theorem plen_st {m : Int} {w : Mm} (h : bPr m w) : ∀ (n : Nat) (k : Int), -1 ≤ k → k < m → (k + 1).toNat ≤ n → plen w n k = m_pln w k
  | 0, k, h1, h2, h3 => by
    have : k = -1 := by omega
    subst this; rfl
  | n + 1, k, h1, h2, h3 => by
    by_cases c : k = -1
    · subst c; rfl
    · have hp := h k (by omega) h2
      unfold m_pln
      rw [show (k + 1).toNat = k.toNat + 1 by omega]
      simp only [plen]
      rw [if_neg c, if_neg c, plen_st h n _ hp.1 (by omega) (by omega), plen_st h k.toNat _ hp.1 (by omega) (by omega)]
theorem pln_s {m k : Int} {w : Mm} (h : bPr m w) (hk : 0 ≤ k ∧ k < m) : m_pln w k = 1 + m_pln w (w 217 0 k) := by
  have hp := h k hk.1 hk.2
  conv => lhs; unfold m_pln
  rw [show (k + 1).toNat = k.toNat + 1 by omega]
  simp only [plen]
  rw [if_neg (by omega), plen_st h k.toNat _ hp.1 (by omega) (by omega)]
theorem pln_0 {w : Mm} : m_pln w (-1) = 0 := rfl
theorem pln_rng {m : Int} {w : Mm} (h : bPr m w) : ∀ (n : Nat) (k : Int), (k + 1).toNat ≤ n → -1 ≤ k → k < m → 0 ≤ m_pln w k ∧ m_pln w k ≤ k + 1 ∧ (0 ≤ k → 1 ≤ m_pln w k)
  | 0, k, h1, h2, h3 => by
    have : k = -1 := by omega
    subst this; rw [pln_0]; omega
  | n + 1, k, h1, h2, h3 => by
    by_cases c : k = -1
    · subst c; rw [pln_0]; omega
    · have hp := h k (by omega) h3
      have := pln_rng h n _ (show (w 217 0 k + 1).toNat ≤ n by omega) hp.1 (by omega)
      rw [pln_s h ⟨by omega, h3⟩]; omega
theorem TB.pr {μ : MU} {M : Int} {w : Mm} (h : TB μ M w) : bPr (w 124 μ.1 0) w := fun k a b => (h.2.2.2.2.2.2 k a b).2.1
theorem up_up {w : Mm} {c : Nat} {a i v u : Int} : up (up w c a i v) c a i u = up w c a i u := by
  funext c' a' i'; simp only [up]; split <;> rfl
def m_fin (μ : MU) (k : Int) (w : Mm) : Mm := fl (up w 127 μ.1 0 (m_pln w k)) 226 0 (m_pln w k) (fun i => m_anc w k (m_pln w k - 1 - i).toNat)
