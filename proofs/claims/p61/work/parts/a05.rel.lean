/-! the class fits the reference: the point, the answer, views, marks -/
def SNm (b : Int) (k : Nat) : Prop := (b = 10 ∧ (k = 60 ∨ k = 61)) ∨ ((b = 17 ∨ b = 18) ∧ k = 1) ∨ (b = 1 ∧ k = 91)
section RLQ
variable {p : RP} {w W A A' : Mm} {μ : MU} {f q n b x lo v r g m i : Int} {c : Int → Int} {L : List Int} {gf : Int → Int}
theorem RLm.pv (h : RLm p μ f L w A) (hl : 0 ≤ A 122 μ.1 0 ∧ A 122 μ.1 0 ≤ A 120 μ.1 0) (u : UPd (pc_ p) SNm w W) (h0 : ∀ (a : Int), W 0 a 0 = w 0 a 0) (e : ∀ (k : Nat) (a i : Int), k ≠ 1 → k ≠ 60 → k ≠ 61 → k ≠ 91 → W k a i = w k a i) (hA : ∀ (c : Nat) (a i : Int), c ≠ 136 → c ≠ 207 → c ≠ 208 → c ≠ 209 → c ≠ 210 → A' c a i = A c a i)
    (h61 : W 61 (w 41 f 0) 0 = A' 207 0 0) (h60 : W 60 (w 41 f 0) 0 = A' 210 0 0) (hj : ∀ j, 0 ≤ j → j < W 60 (w 41 f 0) 0 → W 1 (w 13 (w 41 f 0) 0) j = A' 208 0 (4 * 0 + j) ∧ W 1 (w 14 (w 41 f 0) 0) j = A' 209 0 (4 * 0 + j))
    (hB : (0 ≤ W 60 (w 41 f 0) 0 ∧ W 60 (w 41 f 0) 0 ≤ 4) ∧ (0 ≤ W 61 (w 41 f 0) 0 ∧ W 61 (w 41 f 0) 0 ≤ 400) ∧ ∀ j, 0 ≤ j → j < 4 → (0 ≤ W 1 (w 13 (w 41 f 0) 0) j ∧ W 1 (w 13 (w 41 f 0) 0) j ≤ 400) ∧ (0 ≤ W 1 (w 14 (w 41 f 0) 0) j ∧ W 1 (w 14 (w 41 f 0) 0) j ≤ 400)) : RLm p μ f L W A' := by
  obtain ⟨hO, hL, ⟨hV, hQ, hLc⟩, hSp⟩ := id h
  have hs := hO.2.2.1.1.1
  have ee : ∀ (k : Nat) (a : Int), k ≠ 1 → k ≠ 60 → k ≠ 61 → k ≠ 91 → W k a 0 = w k a 0 := fun k a z1 z2 z3 z4 => e k a 0 z1 z2 z3 z4
  refine h.nums hl (u.mono fun b k z => by unfold SNm at z; unfold SDb; omega) h0 e (AgO.of fun c a i hc => hA c a i (by omega) (by omega) (by omega) (by omega) (by omega)) (fun i => hA _ _ _ (by decide) (by decide) (by decide) (by decide) (by decide)) (hA _ _ _ (by decide) (by decide) (by decide) (by decide) (by decide)) (fun k _ _ => hA _ _ _ (by decide) (by decide) (by decide) (by decide) (by decide)) ⟨?_, h61, h60, fun j j0 j1 => ?_⟩ ⟨hB.1, hB.2.1, ?_, fun j j0 j1 => ?_⟩
  · rw [ee _ _ (by decide) (by decide) (by decide) (by decide)]
    exact (hV.1.fr hs.2.1 u CXt.refl (fun b' k y0 y1 z => by unfold SNm at z; omega) (fun k z => by unfold SNm at z; omega)).cgV (fun k j a b => hA _ _ _ (by omega) (by omega) (by omega) (by omega) (by omega))
  · rw [ee _ _ (by decide) (by decide) (by decide) (by decide), ee _ _ (by decide) (by decide) (by decide) (by decide)]; exact hj j j0 j1
  · rw [ee _ _ (by decide) (by decide) (by decide) (by decide), ee _ _ (by decide) (by decide) (by decide) (by decide)]; exact hO.2.2.1.1.2.2.2.1
  · rw [ee _ _ (by decide) (by decide) (by decide) (by decide), ee _ _ (by decide) (by decide) (by decide) (by decide)]; exact hB.2.2 j j0 j1
/-- the answer alone -/
theorem RLm.ans (h : RLm p μ f L w A) (hl : 0 ≤ A 122 μ.1 0 ∧ A 122 μ.1 0 ≤ A 120 μ.1 0) : RLm p μ f L (up w 91 f 0 r) (up A 136 μ.1 0 v) := by
  obtain ⟨hO, hL, ⟨hV, hQ, hLc⟩, hSp⟩ := id h
  have hf := hO.2.1.1
  have hB := hO.2.2.1.1.2
  refine h.pv hl (UPd.refl.sU (by decide) (Or.inr ?_)) (fun a => up_k _ (by decide) _ _ _ _ _) (fun k a i _ _ _ h91 => up_k _ h91 _ _ _ _ _) (fun c a i hc _ _ _ _ => up_k _ hc _ _ _ _ _) ?_ ?_ (fun j j0 j1 => ?_) ⟨?_, ?_, fun j j0 j1 => ?_⟩
  · rw [hf.2]; unfold SNm; omega
  · rw [up_k _ (by decide), up_k _ (by decide)]; exact hV.2.1
  · rw [up_k _ (by decide), up_k _ (by decide)]; exact hV.2.2.1
  · rw [up_k _ (by decide)] at j1
    rw [up_k _ (by decide), up_k _ (by decide), up_k _ (by decide), up_k _ (by decide)]; exact hV.2.2.2 j j0 j1
  · rw [up_k _ (by decide)]; exact hB.1
  · rw [up_k _ (by decide)]; exact hB.2.1
  · rw [up_k _ (by decide), up_k _ (by decide)]; exact hB.2.2.2 j j0 j1
theorem RLm.pt (h : RLm p μ f L w A) (hl : 0 ≤ A 122 μ.1 0 ∧ A 122 μ.1 0 ≤ A 120 μ.1 0) (hv : 0 ≤ v ∧ v ≤ 400) : RLm p μ f L (up w 61 (w 41 f 0) 0 v) (up A 207 0 0 v) := by
  obtain ⟨hO, hL, ⟨hV, hQ, hLc⟩, hSp⟩ := id h
  have hs := hO.2.2.1.1.1
  have hB := hO.2.2.1.1.2
  refine h.pv hl (UPd.refl.sU (by decide) (Or.inr ?_)) (fun a => up_k _ (by decide) _ _ _ _ _) (fun k a i _ _ h61 _ => up_k _ h61 _ _ _ _ _) (fun c a i _ hc _ _ _ => up_k _ hc _ _ _ _ _) ?_ ?_ (fun j j0 j1 => ?_) ⟨?_, ?_, fun j j0 j1 => ?_⟩
  · rw [hs.1.2]; unfold SNm; omega
  · rw [up_s, up_s]
  · rw [up_k _ (by decide), up_k _ (by decide)]; exact hV.2.2.1
  · rw [up_k _ (by decide)] at j1
    rw [up_k _ (by decide), up_k _ (by decide), up_k _ (by decide), up_k _ (by decide)]; exact hV.2.2.2 j j0 j1
  · rw [up_k _ (by decide)]; exact hB.1
  · rw [up_s]; exact hv
  · rw [up_k _ (by decide), up_k _ (by decide)]; exact hB.2.2.2 j j0 j1
theorem RLm.go (h : RLm p μ f L w A) (hl : 0 ≤ A 122 μ.1 0 ∧ A 122 μ.1 0 ≤ A 120 μ.1 0) (hv : 0 ≤ v ∧ v ≤ 400) : RLm p μ f L (g_go f v w) (m_goto μ v A) :=
  (h.pt hl hv).ans (by rw [up_k _ (by decide), up_k _ (by decide)]; exact hl)
theorem RLm.wid (h : RLm p μ f L w A) (hl : 0 ≤ A 122 μ.1 0 ∧ A 122 μ.1 0 ≤ A 120 μ.1 0) (h60 : w 60 (w 41 f 0) 0 ≠ 0) : RLm p μ f L (up (up w 60 (w 41 f 0) 0 (w 60 (w 41 f 0) 0 - 1)) 91 f 0 r) (m_wid μ A) := by
  obtain ⟨hO, hL, ⟨hV, hQ, hLc⟩, hSp⟩ := id h
  have hs := hO.2.2.1.1.1
  have hf := hO.2.1.1
  have hB := hO.2.2.1.1.2
  unfold m_wid
  refine h.pv hl ((UPd.refl.sU (by decide) (Or.inr ?_)).sU (by decide) (Or.inr ?_)) (fun a => ?_) (fun k a i _ h1 _ h91 => ?_) (fun c a i h1 _ _ _ hc => ?_) ?_ ?_ (fun j j0 j1 => ?_) ⟨?_, ?_, fun j j0 j1 => ?_⟩
  · rw [hs.1.2]; unfold SNm; omega
  · rw [hf.2]; unfold SNm; omega
  · rw [up_k _ (by decide), up_k _ (by decide)]
  · rw [up_k _ h91, up_k _ h1]
  · rw [up_k _ h1, up_k _ hc]
  · rw [up_k _ (by decide), up_k _ (by decide), up_k _ (by decide), up_k _ (by decide)]; exact hV.2.1
  · rw [up_k _ (by decide), up_s, up_k _ (by decide), up_s, hV.2.2.1]
  · rw [up_k _ (by decide), up_s] at j1
    rw [up_k _ (by decide), up_k _ (by decide), up_k _ (by decide), up_k _ (by decide), up_k _ (by decide), up_k _ (by decide), up_k _ (by decide), up_k _ (by decide)]; exact hV.2.2.2 j j0 (by omega)
  · rw [up_k _ (by decide), up_s]; have := hB.1; omega
  · rw [up_k _ (by decide), up_k _ (by decide)]; exact hB.2.1
  · rw [up_k _ (by decide), up_k _ (by decide), up_k _ (by decide), up_k _ (by decide)]; exact hB.2.2.2 j j0 j1
theorem RLm.view (h : RLm p μ f L w A) (hl : 0 ≤ A 122 μ.1 0 ∧ A 122 μ.1 0 ≤ A 120 μ.1 0) (h60 : w 60 (w 41 f 0) 0 < 4) (hm : w 1 (w 29 (w 11 (w 41 f 0) 0) 0) m = A 202 0 m) (hb : 0 ≤ A 202 0 m ∧ A 202 0 m ≤ 400) : RLm p μ f L (g_view f (w 1 (w 29 (w 11 (w 41 f 0) 0) 0) m) w) (m_nar1 μ m A) := by
  obtain ⟨hO, hL, ⟨hV, hQ, hLc⟩, hSp⟩ := id h
  have hs := hO.2.2.1.1.1
  have hf := hO.2.1.1
  have hB := hO.2.2.1.1.2
  have hap : w 13 (w 41 f 0) 0 ≠ w 14 (w 41 f 0) 0 := hs.ap.2.1.1
  have v3 := hV.2.2.1
  have v2 := hV.2.1
  have B2 := hB.2.1
  rw [hm]
  unfold m_nar1 g_view
  have eS : ∀ j z y, up (up w 1 (w 13 (w 41 f 0) 0) (w 60 (w 41 f 0) 0) z) 1 (w 14 (w 41 f 0) 0) (w 60 (w 41 f 0) 0) y 1 (w 13 (w 41 f 0) 0) j = if j = w 60 (w 41 f 0) 0 then z else w 1 (w 13 (w 41 f 0) 0) j := fun j z y => by
    rw [up_a _ _ _ hap]
    by_cases e : j = w 60 (w 41 f 0) 0
    · rw [if_pos e, e, up_s]
    · rw [if_neg e, up_i _ _ _ _ _ _ e]
  have eE : ∀ j z y, up (up w 1 (w 13 (w 41 f 0) 0) (w 60 (w 41 f 0) 0) z) 1 (w 14 (w 41 f 0) 0) (w 60 (w 41 f 0) 0) y 1 (w 14 (w 41 f 0) 0) j = if j = w 60 (w 41 f 0) 0 then y else w 1 (w 14 (w 41 f 0) 0) j := fun j z y => by
    by_cases e : j = w 60 (w 41 f 0) 0
    · rw [if_pos e, e, up_s]
    · rw [if_neg e, up_i _ _ _ _ _ _ e, up_a _ _ _ (Ne.symm hap)]
  have eA : ∀ j z, up A 208 0 (A 210 0 0) z 208 0 j = if j = A 210 0 0 then z else A 208 0 j := fun j z => by
    by_cases e : j = A 210 0 0
    · rw [if_pos e, e, up_s]
    · rw [if_neg e, up_i _ _ _ _ _ _ e]
  have eB : ∀ j z y, up (up A 208 0 (A 210 0 0) z) 209 0 (A 210 0 0) y 209 0 j = if j = A 210 0 0 then y else A 209 0 j := fun j z y => by
    by_cases e : j = A 210 0 0
    · rw [if_pos e, e, up_s]
    · rw [if_neg e, up_i _ _ _ _ _ _ e, up_k _ (by decide)]
  refine h.pv hl ((((UPd.refl.sU (by decide) (Or.inr ?_)).sU (by decide) (Or.inr ?_)).sU (by decide) (Or.inr ?_)).sU (by decide) (Or.inr ?_)) (fun a => ?_) (fun k a i h1 h2 _ h91 => ?_) (fun c a i h1 _ h3 h4 hc => ?_) ?_ ?_ (fun j j0 j1 => ?_) ⟨?_, ?_, fun j j0 j1 => ?_⟩
  · rw [hs.2.2.2.2.1.2.2]; unfold SNm; omega
  · rw [hs.2.2.2.2.2.2.2]; unfold SNm; omega
  · rw [hs.1.2]; unfold SNm; omega
  · rw [hf.2]; unfold SNm; omega
  · rw [up_k _ (by decide), up_k _ (by decide), up_k _ (by decide), up_k _ (by decide)]
  · rw [up_k _ h91, up_k _ h2, up_k _ h1, up_k _ h1]
  · rw [up_k _ h1, up_k _ hc, up_k _ h4, up_k _ h3]
  · rw [up_k _ (by decide), up_k _ (by decide), up_k _ (by decide), up_k _ (by decide), up_k _ (by decide), up_k _ (by decide), up_k _ (by decide), up_k _ (by decide)]; exact v2
  · rw [up_k _ (by decide), up_s, up_k _ (by decide), up_s, v3]
  · rw [up_k _ (by decide), up_s] at j1
    have hh := hV.2.2.2 j j0
    refine ⟨?_, ?_⟩
    · rw [up_k _ (by decide), up_k _ (by decide), eS, up_k _ (by decide), up_k _ (by decide), up_k _ (by decide), eA]
      by_cases y : j = w 60 (w 41 f 0) 0
      · rw [if_pos y, if_pos (show 4 * 0 + j = A 210 0 0 by omega), v2]
        split <;> split <;> omega
      · rw [if_neg y, if_neg (show ¬ 4 * 0 + j = A 210 0 0 by omega)]; exact (hh (by omega)).1
    · rw [up_k _ (by decide), up_k _ (by decide), eE, up_k _ (by decide), up_k _ (by decide), eB]
      by_cases y : j = w 60 (w 41 f 0) 0
      · rw [if_pos y, if_pos (show 4 * 0 + j = A 210 0 0 by omega), v2]
      · rw [if_neg y, if_neg (show ¬ 4 * 0 + j = A 210 0 0 by omega)]; exact (hh (by omega)).2
  · rw [up_k _ (by decide), up_s]; have := hB.1; omega
  · rw [up_k _ (by decide), up_k _ (by decide), up_k _ (by decide), up_k _ (by decide)]; exact B2
  · have B4 := hB.2.2.2 j j0 j1
    refine ⟨?_, ?_⟩
    · rw [up_k _ (by decide), up_k _ (by decide), eS]
      by_cases y : j = w 60 (w 41 f 0) 0
      · rw [if_pos y]; split <;> omega
      · rw [if_neg y]; exact B4.1
    · rw [up_k _ (by decide), up_k _ (by decide), eE]
      by_cases y : j = w 60 (w 41 f 0) 0
      · rw [if_pos y]; split <;> omega
      · rw [if_neg y]; exact B4.2
end RLQ
