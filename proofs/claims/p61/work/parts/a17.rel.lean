/-! a command's run in the class is the reference's: the rest -/
section PFT
variable {p : RP} {w W w0 w1 w2 w3 w' V A A' A0 A1 : Mm} {μ : MU} {f q n b x y lo v r g m i k s wd z a : Int} {c : Int → Int} {L : List Int} {gf : Int → Int}
theorem trk (h : RLm p μ f L w A) (hR : RBc μ L A) (hs : 0 ≤ s ∧ s < 5) : (w 1 (w 44 f 0) s = 0 ↔ ¬ A 211 0 s = 1) := by
  have h1 := h.toTr.2 s hs.1 hs.2
  have h2 := hR.2.2.2.2.1 s hs.1 hs.2
  omega
theorem pf_over (h : RLm p μ f L w A) (hR : RBc μ L A) (ha : 0 ≤ a) (hp : (¬ 1 ≤ d_high w (w 41 f 0) - w 61 (w 41 f 0) 0 ∧ r = 1 ∧ w' = w) ∨ (1 ≤ d_high w (w 41 f 0) - w 61 (w 41 f 0) 0 ∧ r = 0 ∧ ∃ W g x, NCh (up w 91 f 0 (w 1 (w 28 (w 11 (w 41 f 0) 0) 0) (w 61 (w 41 f 0) 0))) W g (w 28 (w 11 (w 41 f 0) 0) 0) (w 61 (w 41 f 0) 0) 1 ∧ (0 < x ∧ W 0 x 0 = 0) ∧ w' = up (d_rp (w 41 f 0) (w 61 (w 41 f 0) 0) a g x W) 61 (w 41 f 0) 0 (w 61 (w 41 f 0) 0 + 1))) : PFR p μ f L w A 1 a b r w' := by
  obtain ⟨l1, l2, l3, l4, l5⟩ := h.low
  have hv := VB_f hR.2.1.1 hR.2.2.1
  rw [l2, l3] at hp
  unfold PFR
  rcases hp with ⟨m1, m2, m3⟩ | ⟨m1, m2, W, g, x, hN, hx, m3⟩
  · have hd : m_does μ 1 a b A = (1, A) := by
      unfold m_does
      rw [if_pos ⟨by omega, by show A 207 0 0 + m_many 1 a b > _; unfold m_many; rw [if_neg (by decide), if_pos rfl]; omega⟩]
    rw [hd, m2, m3]; exact ⟨rfl, RPF.refl h, fun z => absurd z (by decide)⟩
  · have hd : m_does μ 1 a b A = (0, m_ovr μ a A) := by
      unfold m_does
      rw [if_neg (fun z => by have z2 : A 207 0 0 + m_many 1 a b > m_vT A := z.2; unfold m_many at z2; rw [if_neg (by decide), if_pos rfl] at z2; omega), if_neg (by decide), if_pos rfl]
    rw [hd, m2]
    have e91 : w' 91 f 0 = A 200 0 (A 207 0 0) := by
      have hf := h.1.2.1.1
      have hfr := NCh_fr hN
      have hW0 : W 0 f 0 = 13 := by rw [hfr 0 f 0 (by rw [up_k _ (by decide)]; omega), up_k _ (by decide)]; exact hf.1
      rw [m3, up_k _ (by decide), rp_c (fun e => by rw [e] at hW0; omega) (by decide), hfr 91 f 0 (by rw [up_k _ (by decide)]; omega), up_s]
      exact h.txt hv.1 (by omega)
    refine ⟨rfl, ?_, fun _ => ?_⟩
    · rw [m3]; exact ovrR h hR ha ⟨hv.1, by omega⟩ hN hx
    · rw [e91]; show _ = m_ovr μ a A 136 μ.1 0
      unfold m_ovr m_ovrA
      rw [up_k _ (by decide), rep_o (by decide), up_s]
theorem pf_del (h : RLm p μ f L w A) (hR : RBc μ L A) (ha : 1 ≤ a ∧ a ≤ 20) (hp : (¬ a ≤ d_high w (w 41 f 0) - w 61 (w 41 f 0) 0 ∧ r = 1 ∧ w' = w) ∨ (a ≤ d_high w (w 41 f 0) - w 61 (w 41 f 0) 0 ∧ r = 0 ∧ ∃ W g x, NCh w W g (w 28 (w 11 (w 41 f 0) 0) 0) (w 61 (w 41 f 0) 0) a ∧ 0 < x ∧ W 0 x 0 = 0 ∧ w' = g_take f a g x w W)) : PFR p μ f L w A 2 a b r w' := by
  obtain ⟨l1, l2, l3, l4, l5⟩ := h.low
  have hv := VB_f hR.2.1.1 hR.2.2.1
  rw [l2, l3] at hp
  unfold PFR
  have hmn : m_many 2 a b = a := by unfold m_many; rw [if_neg (by decide), if_neg (by decide)]
  rcases hp with ⟨m1, m2, m3⟩ | ⟨m1, m2, W, g, x, hN, x0, x1, m3⟩
  · have hd : m_does μ 2 a b A = (1, A) := by
      unfold m_does
      rw [if_pos ⟨by omega, by show A 207 0 0 + m_many 2 a b > _; rw [hmn]; omega⟩]
    rw [hd, m2, m3]; exact ⟨rfl, RPF.refl h, fun z => absurd z (by decide)⟩
  · have hd : m_does μ 2 a b A = (0, m_delC μ a A) := by
      unfold m_does
      rw [if_neg (fun z => by have z2 : A 207 0 0 + m_many 2 a b > m_vT A := z.2; rw [hmn] at z2; omega), if_neg (by decide), if_neg (by decide), if_pos rfl]
    rw [hd, m2]
    have k := takeR h hR (by omega) ⟨hv.1, by omega⟩ hN ⟨x0, x1⟩
    have hdb : dbF (A 207 0 0) (A 207 0 0) a = A 207 0 0 := by unfold dbF; rw [if_neg (by omega), if_neg (by omega)]
    rw [hdb] at k
    have e122 : ∀ (c : Nat), c ≠ 207 → up (m_del μ (A 207 0 0) a A) 207 0 0 (A 207 0 0) c μ.1 0 = m_del μ (A 207 0 0) a A c μ.1 0 := fun c hc => up_k _ hc _ _ _ _ _
    have ev : (up (m_del μ (A 207 0 0) a A) 207 0 0 (A 207 0 0)) = m_del μ (A 207 0 0) a A := by
      funext c b' i'
      by_cases e : c = 207 ∧ b' = 0 ∧ i' = 0
      · rw [e.1, e.2.1, e.2.2, up_s, del_o (by decide), closes_at (by decide)]
      · simp only [up, if_neg e]
    rw [ev] at k
    have q := k
    have k2 : RPF p μ f L w A w' (m_delC μ a A) := by
      refine k.same (fun p1 L1 hp1 => ⟨?_, ?_⟩) ?_ (fun j j0 j1 => ?_) (by have := hR.1; omega)
      · have := hp1.ans (r := w 67 (w 11 (w 41 f 0) 0) 0 - a) (v := m_del μ (A 207 0 0) a A 201 0 0) (by rw [del_120, del_o (by decide), closes_at (by decide)]; have := hR.1; omega)
        rw [m3]; unfold g_take m_delC
        rw [l3]; exact this
      · rw [m3]; unfold g_take; rw [l3]
        exact ans_u hp1.1.2.1.1.2
      · unfold m_delC; rw [up_k _ (by decide)]
      · unfold m_delC; rw [up_k _ (by decide)]
    refine ⟨rfl, k2, fun _ => ?_⟩
    show w' 91 f 0 = m_delC μ a A 136 μ.1 0
    rw [m3]; unfold g_take m_delC
    rw [up_s, up_s, del_o (by decide), cls_201, if_pos rfl, l4]
/-- the step of a store that is tracked -/
theorem RPF.sto (h : RPF p μ f L w A V A1) (hl0 : 0 ≤ A 120 μ.1 0) (hl : 0 ≤ A1 122 μ.1 0 ∧ A1 122 μ.1 0 ≤ A1 120 μ.1 0) (h122 : A1 122 μ.1 0 = A 122 μ.1 0) (ht : w 1 (w 44 f 0) s = 0 ↔ ¬ A1 211 0 s = 1) (e12 : V 12 (V 41 f 0) 0 = w 12 (w 41 f 0) 0)
    (hw : (w 1 (w 44 f 0) s = 0 ∧ w' = V) ∨ (w 1 (w 44 f 0) s ≠ 0 ∧ ∃ y, 0 < y ∧ V 0 y 0 = 0 ∧ w' = k_step (w 12 (w 41 f 0) 0) y 5 0 0 0 V)) (hA : ∀ (c : Nat) (a i : Int), c ≠ 212 → c ≠ 120 → c ≠ 213 → c ≠ 121 → c ≠ 136 → A' c a i = A1 c a i) (h120 : A' 120 μ.1 0 = A1 120 μ.1 0 + 1) (h212 : ∀ k, 0 ≤ k → k < A1 120 μ.1 0 → A' 212 0 k = A1 212 0 k) (hw3 : A' 212 0 (A1 120 μ.1 0) = wd) (hk : 3 < wd % 8) : RPF p μ f L w A w' (if A1 211 0 s = 1 then A' else A1) := by
  rcases hw with ⟨m1, m2⟩ | ⟨m1, y, y0, y1, m2⟩
  · rw [if_neg (ht.mp m1), m2]; exact h
  · rw [if_pos (Classical.byContradiction fun hn => m1 (ht.mpr hn)), m2]
    refine h.app1 (y := y) (fun p1 L1 hp1 => ?_) h122 h120 h212 (by rw [hw3]; omega) hl0
    rw [← e12]
    exact hp1.sto1 hl ⟨y0, y1⟩ hA h120 h212 hw3 hk
/-- a store's step and its characters -/
theorem psS_o {kd pl vl s : Int} {c : Nat} {a i : Int} (h : c ≠ 212 ∧ c ≠ 120 ∧ c ≠ 213 ∧ c ≠ 121) : m_psS μ kd pl vl s A c a i = A c a i := by
  unfold m_psS m_pEn
  rw [poolN_at ⟨h.2.2.1, h.2.2.2⟩, step_at ⟨h.1, h.2.1⟩]
theorem psS_212 {kd pl vl s j : Int} : m_psS μ kd pl vl s A 212 0 j = if j = A 120 μ.1 0 then kd + 8 * pl + 4096 * vl else A 212 0 j := by
  unfold m_psS m_pEn
  rw [poolN_at (by decide), stp_212]
theorem psS_120 {kd pl vl s : Int} : m_psS μ kd pl vl s A 120 μ.1 0 = A 120 μ.1 0 + 1 := by
  unfold m_psS m_pEn
  rw [poolN_at (by decide), stp_120]
end PFT
