/-! a command's run in the class is the reference's: registers, marks, views -/
section PFV
variable {p : RP} {w W w0 w1 w2 w3 w' V A A' A0 A1 : Mm} {μ : MU} {f q n b x y lo v r g m i k s wd z a : Int} {c : Int → Int} {L : List Int} {gf : Int → Int} {P : (Int → Int) → Prop}
theorem RPF.of1t (h : RS1 p μ f L x w A w1 A1 P) (h120 : A1 120 μ.1 0 = A 120 μ.1 0 + 1) (hk : A1 212 0 (A 120 μ.1 0) % 8 ≠ 1 ∧ A1 212 0 (A 120 μ.1 0) % 8 ≠ 2) : RPF p μ f L w A w1 A1 := RPF.of1 h h120 (fun _ _ z => absurd z (by omega))
theorem pf_cop (h : RLm p μ f L w A) (hR : RBc μ L A) (ha : 0 ≤ a ∧ a < 4) (hb : 1 ≤ b ∧ b ≤ 20) (hp : (¬ b ≤ d_high w (w 41 f 0) - w 61 (w 41 f 0) 0 ∧ r = 1 ∧ w' = w) ∨ (b ≤ d_high w (w 41 f 0) - w 61 (w 41 f 0) 0 ∧ r = 0 ∧ ∃ W g, NCh (up w 91 f 0 (if w 3 (w 31 (w 11 (w 41 f 0) 0) 0) a = 0 then 0 else w 2 (w 10 (w 3 (w 31 (w 11 (w 41 f 0) 0) 0) a) 0) 0)) W g (w 28 (w 11 (w 41 f 0) 0) 0) (w 61 (w 41 f 0) 0) b ∧ ∃ V, V = up W 3 (w 31 (w 11 (w 41 f 0) 0) 0) a g ∧ ((w 1 (w 44 f 0) a = 0 ∧ w' = V) ∨ (w 1 (w 44 f 0) a ≠ 0 ∧ ∃ y, 0 < y ∧ V 0 y 0 = 0 ∧ w' = k_step (w 12 (w 41 f 0) 0) y 5 0 0 0 V)))) (h00 : w 0 0 0 = 0) : PFR p μ f L w A 8 a b r w' := by
  obtain ⟨l1, l2, l3, l4, l5⟩ := h.low
  have hv := VB_f hR.2.1.1 hR.2.2.1
  rw [l2, l3] at hp
  unfold PFR
  have hmn : m_many 8 a b = b := by unfold m_many; rw [if_pos rfl]
  rcases hp with ⟨m1, m2, m3⟩ | ⟨m1, m2, W, g, hN, V, hV, m3⟩
  · have hd : m_does μ 8 a b A = (1, A) := by
      unfold m_does
      rw [if_pos ⟨by omega, by show A 207 0 0 + m_many 8 a b > _; rw [hmn]; omega⟩]
    rw [hd, m2, m3]; exact ⟨rfl, RPF.refl h, fun z => absurd z (by decide)⟩
  · have hd : m_does μ 8 a b A = (0, m_cop μ a b A) := by
      unfold m_does
      rw [if_neg (fun z => by have z2 : A 207 0 0 + m_many 8 a b > m_vT A := z.2; rw [hmn] at z2; omega), if_neg (by decide), if_neg (by decide), if_neg (by decide), if_neg (by decide), if_neg (by decide), if_neg (by decide)]
      unfold m_more
      rw [if_neg (by decide), if_neg (by decide), if_neg (by decide), if_neg (by decide), if_pos rfl]
    rw [hd, m2]
    have kk := copR h hR ⟨by omega, hb.2⟩ ha ⟨hv.1, by omega⟩ hN
    rw [← hV] at kk
    have c0 : ∀ {c : Nat} {b' j : Int}, c ≠ 204 → c ≠ 205 → c ≠ 206 → c ≠ 240 → c ≠ 136 → m_copA μ a b A c b' j = A c b' j := fun z1 z2 z3 z4 z5 => by
      unfold m_copA m_rd; rw [tak_at2 ⟨z2, z3⟩, fl_at z4, up_k _ z1, up_k _ z5]
    have hl1 : 0 ≤ m_copA μ a b A 122 μ.1 0 ∧ m_copA μ a b A 122 μ.1 0 ≤ m_copA μ a b A 120 μ.1 0 := by
      rw [c0 (by decide) (by decide) (by decide) (by decide) (by decide), c0 (by decide) (by decide) (by decide) (by decide) (by decide)]; exact hR.1
    have hs := h.1.2.2.1.1.1
    have hf := h.1.2.1.1
    have hfr := NCh_fr hN
    have e1 : ∀ (k : Nat) (b : Int), k ≠ 91 → k ≠ 3 → w 0 b 0 ≠ 0 → V k b 0 = w k b 0 := fun k b h1 h2 h3 => by
      rw [hV, up_k _ h2, hfr k b 0 (by rw [up_k _ (by decide)]; exact h3), up_k _ h1]
    have v41 : V 41 f 0 = w 41 f 0 := e1 _ _ (by decide) (by decide) (by omega)
    have v12 : V 12 (w 41 f 0) 0 = w 12 (w 41 f 0) 0 := e1 _ _ (by decide) (by decide) (by have := hs.1.1; omega)
    have v13 : V 0 f 0 = 13 := (e1 0 _ (by decide) (by decide) (by omega)).trans hf.1
    have v91 : V 91 f 0 = (if w 3 (w 31 (w 11 (w 41 f 0) 0) 0) a = 0 then 0 else w 2 (w 10 (w 3 (w 31 (w 11 (w 41 f 0) 0) 0) a) 0) 0) := by
      rw [hV, up_k _ (by decide), hfr 91 f 0 (by rw [up_k _ (by decide)]; omega), up_s]
    have kS := kk.sto (s := a) (w' := w') (A' := m_psS μ 7 a b a (m_copA μ a b A)) (wd := 7 + 8 * a + 4096 * b) (by have := hR.1; omega) hl1 (c0 (by decide) (by decide) (by decide) (by decide) (by decide)) (by rw [c0 (by decide) (by decide) (by decide) (by decide) (by decide)]; exact trk h hR (by omega)) (by rw [v41, v12]) m3 (fun c b' i z1 z2 z3 z4 _ => psS_o ⟨z1, z2, z3, z4⟩) psS_120 (fun j j0 j1 => by rw [psS_212, if_neg (by omega)]) (by rw [psS_212, if_pos rfl]) (by omega)
    refine ⟨rfl, kS, fun _ => ?_⟩
    show w' 91 f 0 = m_cop μ a b A 136 μ.1 0
    have e3 : w' 91 f 0 = V 91 f 0 := by
      rcases m3 with ⟨-, m3⟩ | ⟨-, y, y0, y1, m3⟩
      · rw [m3]
      · rw [m3, k_step_k (fun e => by rw [e] at v13; omega) (by decide) (by decide) (by decide) (by decide) (by decide)]
    have e2 : m_cop μ a b A 136 μ.1 0 = if A 204 0 a = 0 then 0 else A 205 0 (4 * a) := by
      have e4 : m_copA μ a b A 136 μ.1 0 = if A 204 0 a = 0 then 0 else A 205 0 (4 * a) := by
        unfold m_copA m_rd; rw [tak_at2 (by decide), fl_at (by decide), up_k _ (by decide), up_s]
      unfold m_cop
      by_cases y : m_copA μ a b A 211 0 a = 1
      · rw [if_pos y, psS_o (by decide)]; exact e4
      · rw [if_neg y]; exact e4
    rw [e3, e2, v91]
    obtain ⟨k1, k2⟩ := (h.2.2.1.1.1.2 a (by omega) (by omega)).at0
    have k3 := k2 0 (Int.le_refl _) (by unfold m_slt; split <;> omega)
    rw [Int.add_zero, Int.add_zero] at k3
    by_cases y : A 204 0 a = 0
    · rw [if_pos y, if_pos (k3.2 (by omega))]
    · have hg := k3.1 (by omega)
      rw [if_neg y, if_neg (fun e => by have := hg.1.1; rw [e] at this; omega)]
      exact hg.2.2.1
theorem pf_mkp (h : RLm p μ f L w A) (hR : RBc μ L A) (ha : 0 ≤ a ∧ a < 6) (hb : b = 0 ∨ b = 1) (hp : r = 0 ∧ ∃ x, 0 < x ∧ w 0 x 0 = 0 ∧ w' = k_step (w 12 (w 41 f 0) 0) x 4 0 0 0 (g_mark f a b w)) : PFR p μ f L w A 10 a b r w' := by
  obtain ⟨l1, l2, l3, l4, l5⟩ := h.low
  have hv := VB_f hR.2.1.1 hR.2.2.1
  unfold PFR
  have hd : m_does μ 10 a b A = (0, m_mkp μ a b A) := by
    unfold m_does
    rw [if_neg (lack_f (by decide)), if_neg (by decide), if_neg (by decide), if_neg (by decide), if_neg (by decide), if_neg (by decide), if_neg (by decide)]
    unfold m_more
    rw [if_neg (by decide), if_neg (by decide), if_neg (by decide), if_neg (by decide), if_neg (by decide), if_neg (by decide), if_pos rfl]
  obtain ⟨m2, x, x0, x1, m3⟩ := hp
  rw [hd, m2, m3]
  have k := h.mark (i := a) (b := b) (x := x) hR.1 ha hb ⟨x0, x1⟩
  have e1 : m_mkp μ a b A 212 0 (A 120 μ.1 0) = 3 + 8 * A 207 0 0 + 4096 * (2 * a + b) := by
    unfold m_mkp; rw [stp_212, up_k _ (by decide), up_k _ (by decide), up_k _ (by decide), if_pos rfl]
  have k2 : RPF p μ f L w A (k_step (w 12 (w 41 f 0) 0) x 4 0 0 0 (g_mark f a b w)) (m_mkp μ a b A) := RPF.of1t k (by unfold m_mkp; rw [stp_120, up_k _ (by decide), up_k _ (by decide), up_k _ (by decide)]) (by rw [e1]; omega)
  refine ⟨rfl, k2, fun _ => ?_⟩
  show _ = m_mkp μ a b A 136 μ.1 0
  have hf := h.1.2.1.1
  rw [k_step_k (fun e => by have := hf.1; rw [e] at this; omega) (by decide) (by decide) (by decide) (by decide) (by decide)]
  unfold g_mark m_mkp
  rw [up_k _ (by decide), up_k _ (by decide), up_s, step_at (by decide), up_k _ (by decide), up_k _ (by decide), up_s]
  exact h.mrk ha.1 ha.2
theorem pf_clr (h : RLm p μ f L w A) (hR : RBc μ L A) (ha : 0 ≤ a ∧ a < 6) (hp : (w 1 (w 29 (w 11 (w 41 f 0) 0) 0) a = -1 ∧ r = 3 ∧ w' = up w 91 f 0 (-1)) ∨ (w 1 (w 29 (w 11 (w 41 f 0) 0) 0) a ≠ -1 ∧ r = 0 ∧ ∃ x, 0 < x ∧ w 0 x 0 = 0 ∧ w' = k_step (w 12 (w 41 f 0) 0) x 4 0 0 0 (g_unm f a w))) : PFR p μ f L w A 11 a b r w' := by
  rw [h.mrk ha.1 ha.2] at hp
  unfold PFR
  have hd : m_does μ 11 a b A = m_clr μ a A := by
    unfold m_does
    rw [if_neg (lack_f (by decide)), if_neg (by decide), if_neg (by decide), if_neg (by decide), if_neg (by decide), if_neg (by decide), if_neg (by decide)]
    unfold m_more
    rw [if_neg (by decide), if_neg (by decide), if_neg (by decide), if_neg (by decide), if_neg (by decide), if_neg (by decide), if_neg (by decide), if_pos rfl]
  rw [hd]
  unfold m_clr
  have hf := h.1.2.1.1
  rcases hp with ⟨m1, m2, m3⟩ | ⟨m1, m2, x, x0, x1, m3⟩
  · rw [if_pos m1, m2, m3]
    have k := h.ans (r := -1) (v := A 136 μ.1 0) hR.1
    have e : up A 136 μ.1 0 (A 136 μ.1 0) = A := by
      funext c b' i'
      by_cases e : c = 136 ∧ b' = μ.1 ∧ i' = 0
      · rw [e.1, e.2.1, e.2.2, up_s]
      · simp only [up, if_neg e]
    rw [e] at k
    exact ⟨rfl, RPF.of0 k (ans_u hf.2) rfl, fun z => absurd z (by decide)⟩
  · rw [if_neg m1, m2, m3]
    have k := h.unm (i := a) (x := x) hR.1 ha ⟨x0, x1⟩
    have e1 : m_unm μ a A 212 0 (A 120 μ.1 0) = 3 + 8 * 511 + 4096 * (2 * a) := by
      unfold m_unm; rw [stp_212, up_k _ (by decide), up_k _ (by decide), if_pos rfl]
    have k2 : RPF p μ f L w A (k_step (w 12 (w 41 f 0) 0) x 4 0 0 0 (g_unm f a w)) (m_unm μ a A) := RPF.of1t k (by unfold m_unm; rw [stp_120, up_k _ (by decide), up_k _ (by decide)]) (by rw [e1]; omega)
    refine ⟨rfl, k2, fun _ => ?_⟩
    show _ = m_unm μ a A 136 μ.1 0
    rw [k_step_k (fun e => by have := hf.1; rw [e] at this; omega) (by decide) (by decide) (by decide) (by decide) (by decide)]
    unfold g_unm m_unm
    rw [up_k _ (by decide), up_s, step_at (by decide), up_k _ (by decide), up_s]
    exact h.mrk ha.1 ha.2
theorem pf_nar (h : RLm p μ f L w A) (hR : RBc μ L A) (ha : 0 ≤ a ∧ a < 6) (hp : (¬ g_in w f (w 1 (w 29 (w 11 (w 41 f 0) 0) 0) a) ∧ r = 3 ∧ w' = w) ∨ (g_in w f (w 1 (w 29 (w 11 (w 41 f 0) 0) 0) a) ∧ 4 ≤ w 60 (w 41 f 0) 0 ∧ r = 6 ∧ w' = w) ∨ (g_in w f (w 1 (w 29 (w 11 (w 41 f 0) 0) 0) a) ∧ w 60 (w 41 f 0) 0 < 4 ∧ r = 0 ∧ w' = g_view f (w 1 (w 29 (w 11 (w 41 f 0) 0) 0) a) w)) : PFR p μ f L w A 13 a b r w' := by
  obtain ⟨l1, l2, l3, l4, l5⟩ := h.low
  have hv := VB_f hR.2.1.1 hR.2.2.1
  have hm := h.mrk ha.1 ha.2
  have hs := h.1.2.2.1.1.1
  have hf := h.1.2.1.1
  have hb4 := hR.2.2.1.1
  have hb4 : 0 ≤ A 210 0 0 ∧ A 210 0 0 ≤ 4 := hb4
  unfold PFR
  have hd : m_does μ 13 a b A = m_nar μ a A := by
    unfold m_does
    rw [if_neg (lack_f (by decide)), if_neg (by decide), if_neg (by decide), if_neg (by decide), if_neg (by decide), if_neg (by decide), if_neg (by decide)]
    unfold m_more
    rw [if_neg (by decide), if_neg (by decide), if_neg (by decide), if_neg (by decide), if_neg (by decide), if_neg (by decide), if_neg (by decide), if_neg (by decide)]
  rw [hd]
  unfold m_nar
  have hg : g_in w f (w 1 (w 29 (w 11 (w 41 f 0) 0) 0) a) ↔ A 202 0 a ≠ -1 ∧ m_vF A ≤ A 202 0 a ∧ A 202 0 a ≤ m_vT A := by
    unfold g_in; rw [l1, l2, hm]
    exact ⟨fun z => ⟨by omega, z⟩, fun z => z.2⟩
  rcases hp with ⟨m1, m2, m3⟩ | ⟨m1, m4, m2, m3⟩ | ⟨m1, m4, m2, m3⟩
  · rw [if_pos (fun z => m1 (hg.mpr z)), m2, m3]; exact ⟨rfl, RPF.refl h, fun z => absurd z (by decide)⟩
  · rw [if_neg (fun z => z (hg.mp m1)), if_pos (by omega), m2, m3]; exact ⟨rfl, RPF.refl h, fun z => absurd z (by decide)⟩
  · have hb := (hg.mp m1).2
    rw [if_neg (fun z => z (hg.mp m1)), if_neg (by omega), m2, m3]
    have k := h.view (m := a) hR.1 m4 hm (by omega)
    refine ⟨rfl, RPF.of0 (A1 := m_nar1 μ a A) k ?_ ?_, fun _ => ?_⟩
    · unfold g_view
      refine (((UPd.refl.sU (by decide) (Or.inr ?_)).sU (by decide) (Or.inr ?_)).sU (by decide) (Or.inr ?_)).sU (by decide) (Or.inr ?_)
      · rw [hs.2.2.2.2.1.2.2]; unfold SDb; omega
      · rw [hs.2.2.2.2.2.2.2]; unfold SDb; omega
      · rw [hs.1.2]; unfold SDb; omega
      · rw [hf.2]; unfold SDb; omega
    · unfold m_nar1; rw [up_k _ (by decide), up_k _ (by decide), up_k _ (by decide), up_k _ (by decide)]
    · show _ = m_nar1 μ a A 136 μ.1 0
      unfold g_view m_nar1
      rw [up_s, up_s, l5]
theorem pf_wid (h : RLm p μ f L w A) (hR : RBc μ L A) (hp : (w 60 (w 41 f 0) 0 = 0 ∧ r = 6 ∧ w' = w) ∨ (w 60 (w 41 f 0) 0 ≠ 0 ∧ r = 0 ∧ w' = up (up w 60 (w 41 f 0) 0 (w 60 (w 41 f 0) 0 - 1)) 91 f 0 (w 60 (w 41 f 0) 0 - 1))) : PFR p μ f L w A 14 a b r w' := by
  obtain ⟨l1, l2, l3, l4, l5⟩ := h.low
  have hs := h.1.2.2.1.1.1
  have hf := h.1.2.1.1
  unfold PFR
  have hd : m_does μ 14 a b A = if A 210 0 0 = 0 then (6, A) else (0, m_wid μ A) := by
    unfold m_does
    rw [if_neg (lack_f (by decide)), if_neg (by decide), if_neg (by decide), if_neg (by decide), if_neg (by decide), if_neg (by decide), if_pos rfl]
  rw [hd]
  rcases hp with ⟨m1, m2, m3⟩ | ⟨m1, m2, m3⟩
  · rw [if_pos (by omega), m2, m3]; exact ⟨rfl, RPF.refl h, fun z => absurd z (by decide)⟩
  · rw [if_neg (by omega), m2, m3]
    refine ⟨rfl, RPF.of0 (A1 := m_wid μ A) (h.wid hR.1 m1) ?_ ?_, fun _ => ?_⟩
    · refine (UPd.refl.sU (by decide) (Or.inr ?_)).sU (by decide) (Or.inr ?_)
      · rw [hs.1.2]; unfold SDb; omega
      · rw [hf.2]; unfold SDb; omega
    · unfold m_wid; rw [up_k _ (by decide), up_k _ (by decide)]
    · show _ = m_wid μ A 136 μ.1 0
      unfold m_wid
      rw [up_s, up_s, l5]
end PFV
