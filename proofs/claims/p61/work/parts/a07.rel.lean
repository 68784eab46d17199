/-! the class fits the reference: a mark unset -/
section RLS
variable {p : RP} {w W A A' : Mm} {μ : MU} {f q n b x lo v r g m i k0 wd : Int} {c : Int → Int} {L : List Int} {gf : Int → Int}
def m_unm (μ : MU) (k : Int) (w : Mm) : Mm := m_step μ 3 511 (2 * k) (up (up w 136 μ.1 0 (w 202 0 k)) 202 0 k (-1))
theorem RLm.unm (h : RLm p μ f L w A) (hl : 0 ≤ A 122 μ.1 0 ∧ A 122 μ.1 0 ≤ A 120 μ.1 0) (hi : 0 ≤ i ∧ i < 6) (hx : 0 < x ∧ w 0 x 0 = 0) :
    RS1 p μ f L x w A (k_step (w 12 (w 41 f 0) 0) x 4 0 0 0 (g_unm f i w)) (m_unm μ i A) (fun _ => True) := by
  obtain ⟨hO, hL, ⟨hV, hQ, hLc⟩, hSp⟩ := id h
  have hs := hO.2.2.1.1.1
  have hf := hO.2.1.1
  have hB := hO.2.2.1.1.2
  have hD := hs.ap
  obtain ⟨⟨s1, s2⟩, ⟨s3, s4⟩, ⟨s5, s6, s7⟩, ⟨s8, s9, s10⟩, s11, s12, s13⟩ := id hs.2.1
  have u : UPd (pc_ p) (fun b k => (b = 13 ∧ k = 1) ∨ (b = 14 ∧ k = 1) ∨ (b = 1 ∧ k = 91)) w (g_unm f i w) := by
    unfold g_unm
    refine (UPd.refl.sU (by decide) (Or.inr ?_)).sU (by decide) (Or.inr ?_)
    · rw [hf.2]; exact Or.inr (Or.inr ⟨rfl, rfl⟩)
    · rw [s7]; exact Or.inl ⟨by decide, rfl⟩
  have eP : ∀ j, g_unm f i w 1 (w 29 (w 11 (w 41 f 0) 0) 0) j = if j = i then -1 else w 1 (w 29 (w 11 (w 41 f 0) 0) 0) j := fun j => by
    unfold g_unm
    by_cases e : j = i
    · rw [if_pos e, e, up_s]
    · rw [if_neg e, up_i _ _ _ _ _ _ e, up_k _ (by decide)]
  have eR : ∀ j, g_unm f i w 1 (w 30 (w 11 (w 41 f 0) 0) 0) j = w 1 (w 30 (w 11 (w 41 f 0) 0) 0) j := fun j => by
    unfold g_unm
    rw [up_a _ _ _ (Ne.symm hD.1.2.2), up_k _ (by decide)]
  have a2 : ∀ j, m_unm μ i A 202 0 j = if j = i then -1 else A 202 0 j := fun j => by
    unfold m_unm
    rw [step_at (by decide)]
    by_cases e : j = i
    · rw [if_pos e, e, up_s]
    · rw [if_neg e, up_i _ _ _ _ _ _ e, up_k _ (by decide)]
  have a3 : ∀ j, m_unm μ i A 203 0 j = A 203 0 j := fun j => by
    unfold m_unm
    rw [step_at (by decide), up_k _ (by decide), up_k _ (by decide)]
  have ao : ∀ (k : Nat) (a j : Int), k ≠ 212 → k ≠ 120 → k ≠ 202 → k ≠ 136 → m_unm μ i A k a j = A k a j := fun k a j z1 z2 z3 z5 => by
    unfold m_unm
    rw [step_at ⟨z1, z2⟩, up_k _ z3, up_k _ z5]
  have b2 := hB.2.1
  have v2 := hV.2.1
  refine RLm.stepN (wd := 3 + 8 * 511 + 4096 * (2 * i)) h hl (u.mono fun b k z => by unfold SDb; omega) (fun k a z1 z2 z3 => ?_) hx (mk_V hs hf hV u (fun k j k1 k2 k3 k4 => ao _ _ _ (by omega) (by omega) k3 (by omega)) (fun j j0 j1 => ?_)) ?_ (AgO.of fun c a i hc => ao _ _ _ (by omega) (by omega) (by omega) (by omega)) (fun i => ao _ _ _ (by decide) (by decide) (by decide) (by decide)) ?_ (fun k k0 k1 => ?_) ?_ (by omega) ?_
  · unfold g_unm; rw [up_k _ z1, up_k _ z3]
  · rw [eP, eR, a2, a3, show (6 : Int) * 0 + j = j by omega]
    by_cases y : j = i
    · rw [if_pos y, if_pos y]; exact ⟨rfl, fun hn => absurd rfl hn, (hV.1.1.2.2.2 j j0 j1).2.2⟩
    · rw [if_neg y, if_neg y]
      have := hV.1.1.2.2.2 j j0 j1
      rwa [show (6 : Int) * 0 + j = j by omega] at this
  · refine ⟨?_, ?_, ?_, fun j j0 j1 => ?_⟩
    · unfold g_unm; rw [up_k _ (by decide), up_k _ (by decide)]; exact hB.1
    · unfold g_unm; rw [up_k _ (by decide), up_k _ (by decide)]; exact hB.2.1
    · unfold g_unm; rw [up_k _ (by decide), up_k _ (by decide), up_k _ (by decide), up_k _ (by decide)]; exact hB.2.2.1
    · have e13 : g_unm f i w 13 (w 41 f 0) 0 = w 13 (w 41 f 0) 0 := by unfold g_unm; rw [up_k _ (by decide), up_k _ (by decide)]
      have e14 : g_unm f i w 14 (w 41 f 0) 0 = w 14 (w 41 f 0) 0 := by unfold g_unm; rw [up_k _ (by decide), up_k _ (by decide)]
      rw [e13, e14, u.g (by have := hs.2.2.2.2.1.1; omega) hs.2.2.2.2.1.2.2 (by omega), u.g (by have := hs.2.2.2.2.2.1; omega) hs.2.2.2.2.2.2.2 (by omega)]
      exact hB.2.2.2 j j0 j1
  · unfold m_unm; rw [stp_120, up_k _ (by decide), up_k _ (by decide)]
  · unfold m_unm; rw [stp_212, up_k _ (by decide), up_k _ (by decide), if_neg (by omega), up_k _ (by decide), up_k _ (by decide)]
  · unfold m_unm; rw [stp_212, up_k _ (by decide), up_k _ (by decide), if_pos rfl]
  · rw [show (3 + 8 * 511 + 4096 * (2 * i)) % 8 = 3 by omega]; rfl
end RLS
