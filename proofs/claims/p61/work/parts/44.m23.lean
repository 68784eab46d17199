/-- node x can be replayed -/
def RPk (μ : MU) (PL : Int → List Int) (x : Int) (w : Mm) : Prop := PHx PL x w ∧ LGL (RSx PL x w) (m_rp0 μ x w)
def RPA (μ : MU) (PL : Int → List Int) (w : Mm) : Prop := ∀ k, 0 ≤ k → k < w 124 μ.1 0 → w 216 0 k = 1 → RPk μ PL k w
def bEx (μ : MU) (w : Mm) : Prop := w 216 0 0 = 1 ∧ w 216 0 (w 126 μ.1 0) = 1 ∧ (∀ k, 1 ≤ k → k < w 124 μ.1 0 → w 216 0 k = 1 → w 216 0 (w 217 0 k) = 1) ∧ w 221 0 0 = -1
theorem PHx.cong {PL : Int → List Int} {x : Int} {b b' : Mm} (e : ∀ c a i, c = 212 ∨ c = 213 ∨ (217 ≤ c ∧ c ≤ 223) → b' c a i = b c a i) (h : PHx PL x b) : PHx PL x b' := by
  intro j hj
  rw [pln_cong (fun a i => e _ _ _ (by omega))] at hj
  have := h j hj
  rw [anc_cong (fun a i => e _ _ _ (by omega)), e 221 _ _ (by omega), nodeL_cong (fun c a i hc => e c a i (by omega))]
  exact ⟨this.1, this.2.1.cong (fun c a i hc => e c a i (by omega)), this.2.2⟩
theorem RSn.cong {PL : Int → List Int} {x : Int} {b b' : Mm} (e : ∀ c a i, c = 212 ∨ c = 213 ∨ (217 ≤ c ∧ c ≤ 223) → b' c a i = b c a i) : ∀ n, RSn PL x b' n = RSn PL x b n
  | 0 => rfl
  | n + 1 => by
    simp only [RSn]
    rw [RSn.cong e n, pln_cong (fun a i => e _ _ _ (by omega)), anc_cong (fun a i => e _ _ _ (by omega)), nodeL_cong (fun c a i hc => e c a i (by omega))]
theorem RSx.cong {PL : Int → List Int} {x : Int} {b b' : Mm} (e : ∀ c a i, c = 212 ∨ c = 213 ∨ (217 ≤ c ∧ c ≤ 223) → b' c a i = b c a i) : RSx PL x b' = RSx PL x b := by
  unfold RSx; rw [RSn.cong e, pln_cong (fun a i => e _ _ _ (by omega))]
theorem pat_rp0 {K : Nat → Bool} {w B : Mm} (hK : KA K) (h1 : K 127 = false) (μ : MU) (x : Int) : m_rp0 μ x (pat K w B) = pat K w (m_rp0 μ x B) := by
  have e1 : ∀ k, m_pln (m_rini (pat K w B)) k = m_pln (m_rini B) k := fun k => pln_cong (fun a i => by rw [rini_at (by decide), rini_at (by decide), pat_g (hK.h (by decide) (by decide))]) k
  have e2 : ∀ k n, m_anc (m_rini (pat K w B)) k n = m_anc (m_rini B) k n := fun k n => anc_cong (fun a i => by rw [rini_at (by decide), rini_at (by decide), pat_g (hK.h (by decide) (by decide))]) k n
  unfold m_rp0 m_fin
  simp only [e1, e2]
  unfold m_rini
  simp (disch := first | exact hK.h (by decide) (by decide) | exact h1) only [pat_up, pat_fl]
theorem RPk.pe {K : Nat → Bool} (hK : KA K) (h1 : K 127 = false) {μ : MU} {PL : Int → List Int} {x : Int} {w B : Mm} (h : PE K w B) (g : RPk μ PL x B) : RPk μ PL x w := by
  have e : ∀ c a i, c = 212 ∨ c = 213 ∨ (217 ≤ c ∧ c ≤ 223) → w c a i = B c a i := fun c a i hc => by rw [h c (hK.h (by omega) (by omega))]
  refine ⟨g.1.cong e, ?_⟩
  rw [RSx.cong e, h.eq, pat_rp0 hK h1]
  exact (pat_LGL hK _ _).mpr g.2
theorem RPk.up {μ : MU} {PL : Int → List Int} {x : Int} {w : Mm} (g : RPk μ PL x w) {c : Nat} {a i v : Int} (hc : c < 200 ∧ c ≠ 127) : RPk μ PL x (up w c a i v) :=
  g.pe (K := fun c' => decide (c' = c)) (fun c' h1 h2 => decide_eq_false (by omega)) (decide_eq_false (by omega)) fun c' h => by
    have := of_decide_eq_false h
    funext a' i'; exact up_k _ this _ _ _ _ _
theorem rpl_at {μ : MU} {PL : Int → List Int} {x : Int} {w : Mm} (h1 : SB 1 w) (h2 : bB w) (g : RPk μ PL x w) {c : Nat} {a i : Int} (h : (c < 200 ∨ 206 < c) ∧ c ≠ 240 ∧ c ≠ 127 ∧ c ≠ 226) : m_rpl μ PL x w c a i = w c a i := by
  have h00 : StP (m_rp0 μ x w) (m_rp0 μ x w) := ⟨fun _ _ _ _ _ => rfl, (SB.rini h1).cong fun c a i y z => by unfold m_rp0; exact fin_at (by omega), h2.cong fun i => by unfold m_rp0; rw [fin_at (by decide), rini_at (by decide)]⟩
  have := (h00.playL g.2).1 c a i h.1 h.2.1
  unfold m_rpl
  rw [this]; unfold m_rp0; rw [fin_at ⟨h.2.2.1, h.2.2.2⟩, rini_at (by omega)]
theorem rpl_st {μ : MU} {PL : Int → List Int} {x : Int} {w : Mm} (h1 : SB 1 w) (h2 : bB w) (g : RPk μ PL x w) : SB 1 (m_rpl μ PL x w) ∧ bB (m_rpl μ PL x w) ∧ F1 w (m_rpl μ PL x w) := by
  have h00 : StP (m_rp0 μ x w) (m_rp0 μ x w) := ⟨fun _ _ _ _ _ => rfl, (SB.rini h1).cong fun c a i y z => by unfold m_rp0; exact fin_at (by omega), h2.cong fun i => by unfold m_rp0; rw [fin_at (by decide), rini_at (by decide)]⟩
  have h3 := h00.playL g.2
  refine ⟨h3.2.1, h3.2.2, F1.t (F1.t (w1 := m_rini w) ?_ fun c a i x y z => by unfold m_rp0; exact fin_at (by omega)) (F1.playL h00.2.1 h00.2.2 g.2)⟩
  unfold m_rini
  refine F1.f (F1.f (F1.f (F1.u F1.r ?_) ?_) ?_) ?_ <;> (right; simp [st0])
def m_wks (μ : MU) (PL : Int → List Int) (x : Int) (w : Mm) : Mm := up (up (up (up (m_cpQ (fun s => decide (w 211 0 s = 1)) 5 0 1 (m_cpT 0 1 (m_rpl μ PL x w))) 207 0 0 (w 224 0 x)) 210 0 0 0) 126 μ.1 0 x) 129 μ.1 0 (-1)
