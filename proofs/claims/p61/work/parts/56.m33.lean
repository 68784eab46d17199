theorem LGL_tkT {most : Int} : ∀ (L : List (Int × Int)) (s : Int) (w : Mm), LGL L w → LGL (tkT most s L) w
  | [], _, _, h => h
  | x :: xs, s, w, h => by
    simp only [tkT]
    split
    · split
      · trivial
      · exact ⟨h.1, LGL_tkT xs (s + 1) _ h.2⟩
    · exact ⟨h.1, LGL_tkT xs s _ h.2⟩
def m_rem1 (μ : MU) (PL : Int → List Int) (nd t : Int) (w : Mm) : Mm := m_playL (tkT t 0 (nodeL w (PL nd))) (m_rpl μ PL (w 217 0 nd) w)
def m_rem (μ : MU) (PL : Int → List Int) (nd t : Int) (w : Mm) : Mm := fl (m_rem1 μ PL nd t w) 240 0 (w 243 0 t) (fun k => m_rem1 μ PL nd t w 200 0 (400 + w 242 0 t + k))
theorem rem1_ok {μ : MU} {PL : Int → List Int} {nd t : Int} {w : Mm} (h1 : SB 1 w) (h2 : bB w) (hRP : RPk μ PL (w 217 0 nd) w) (hL : LGL (nodeL w (PL nd)) (m_rpl μ PL (w 217 0 nd) w)) : SB 1 (m_rem1 μ PL nd t w) ∧ bB (m_rem1 μ PL nd t w) ∧ F1 w (m_rem1 μ PL nd t w) ∧ ∀ c a i, (c < 200 ∨ 206 < c) → c ≠ 240 → c ≠ 127 → c ≠ 226 → m_rem1 μ PL nd t w c a i = w c a i := by
  have hs := rpl_st h1 h2 hRP
  have h0 : StP (m_rpl μ PL (w 217 0 nd) w) (m_rpl μ PL (w 217 0 nd) w) := ⟨fun _ _ _ _ _ => rfl, hs.1, hs.2.1⟩
  have hl := LGL_tkT (most := t) _ 0 _ hL
  have h3 := h0.playL hl
  unfold m_rem1
  refine ⟨h3.2.1, h3.2.2, hs.2.2.t (F1.playL hs.1 hs.2.1 hl), fun c a i y1 y2 y3 y4 => ?_⟩
  rw [h3.1 c a i y1 y2]; exact rpl_at h1 h2 hRP ⟨y1, y2, y3, y4⟩
