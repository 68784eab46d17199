/-! the class fits the reference: steps that are no text steps; marks set and unset -/
section RLS
variable {p : RP} {w W A A' : Mm} {μ : MU} {f q n b x lo v r g m i k0 wd : Int} {c : Int → Int} {L : List Int} {gf : Int → Int}
theorem RLm.stepN (h : RLm p μ f L w A) (hl : 0 ≤ A 122 μ.1 0 ∧ A 122 μ.1 0 ≤ A 120 μ.1 0) (u : UPd (pc_ p) (SDb 10 (A 122 μ.1 0)) w W) (e : ∀ (k : Nat) (a : Int), k ≠ 1 → k ≠ 3 → k ≠ 91 → W k a 0 = w k a 0) (hx : 0 < x ∧ w 0 x 0 = 0) (hV : vDk (pc_ p) W (w 41 f 0) A' 0) (hB : bDk W (w 41 f 0))
    (hA : AgO μ A A') (hA2 : ∀ i, A' 232 0 i = A 232 0 i) (h120 : A' 120 μ.1 0 = A 120 μ.1 0 + 1) (h212 : ∀ k, 0 ≤ k → k < A 120 μ.1 0 → A' 212 0 k = A 212 0 k) (hw : A' 212 0 (A 120 μ.1 0) = wd) (hk : 2 < wd % 8) (hk2 : kdC (wd % 8) = k0) :
    RS1 p μ f L x w A (k_step (w 12 (w 41 f 0) 0) x k0 0 0 0 W) A' (fun _ => True) := by
  have hlo := h.lsk
  obtain ⟨hO, hL, ⟨-, hQ, hLc⟩, hSp⟩ := id h
  have hs := hO.2.2.1.1.1
  have hxW : W 0 x 0 = 0 := (e _ _ (by decide) (by decide) (by decide)).trans hx.2
  have hsW : sDk (pc_ p) 10 W (w 41 f 0) := (hs.fr u CXt.refl (fun k x y => ⟨fun z => by unfold SDb at z; omega, fun z => by unfold SDb at z; omega⟩)).1
  have e12 : W 12 (w 41 f 0) 0 = w 12 (w 41 f 0) 0 := e _ _ (by decide) (by decide) (by decide)
  have hlW : lsOk (pc_ p) (A 122 μ.1 0) W (W 12 (w 41 f 0) 0) := by
    unfold lsOk at hlo ⊢
    rw [e12, e _ _ (by decide) (by decide) (by decide)]; exact hlo
  have u1 := stp_u (k := k0) (q := 0) (v := 0) (g := 0) hsW hlW ⟨hx.1, hxW⟩ UPd.refl rfl
  rw [e12] at u1
  have u2 : UPd (pc_ p) (fun b k => (b = 16 ∧ (k = 34 ∨ k = 35 ∨ k = 71 ∨ k = 72)) ∨ (b ≤ -(A 122 μ.1 0 + 1) ∧ k = 33)) W (k_step (w 12 (w 41 f 0) 0) x k0 0 0 0 W) := by
    have h12 := hs.2.2.2.1
    refine UPd.sK UPd.refl ⟨hx.1, hxW⟩ ?_ (fun e => by have := h12.1; rw [e] at this; omega) ?_
    · rw [h12.2]; exact ⟨Or.inl ⟨by decide, by omega⟩, Or.inl ⟨by decide, by omega⟩, Or.inl ⟨by decide, by omega⟩, Or.inl ⟨by decide, by omega⟩⟩
    · rw [e _ _ (by decide) (by decide) (by decide)]
      rcases hlo with hl | hl
      · exact Or.inl hl
      · exact Or.inr (Or.inr (Or.inr ⟨hl, rfl⟩))
  obtain ⟨x1, x2, x3, x4, x5⟩ := k_step_v (t := w 12 (w 41 f 0) 0) (x := x) (k := k0) (p := 0) (n := 0) (g := 0) (w := W)
  have hQW : vQs W (w 12 (w 41 f 0) 0) L := hQ.cg (e _ _ (by decide) (by decide) (by decide)) (e _ _ (by decide) (by decide) (by decide)) (e _ _ (by decide) (by decide) (by decide)) (e _ _ (by decide) (by decide) (by decide)) (fun _ _ => ⟨e _ _ (by decide) (by decide) (by decide), e _ _ (by decide) (by decide) (by decide)⟩) (fun _ _ => e _ _ (by decide) (by decide) (by decide))
  have hQ2 := k_step_Q (x := x) (k := k0) (p := 0) (n := 0) (g := 0) hQW ((e _ _ (by decide) (by decide) (by decide)).trans hs.2.2.2.1.1) hx.1 hxW
  refine ⟨_, _, _, RLm.step (wd := wd) (g := 0) (gf := fun _ => 0) h hl (u.trans CXt.refl u1) hA hA2 h120 h212 hw hx x1 (x2.trans hk2.symm) (fun y => absurd hk (by omega)) (fun _ => ⟨x3, x4⟩) (fun y => absurd hk (by omega)) hQ2 ?_ ?_, fun k hk => ⟨cset_o hk, if_neg hk⟩, cset_s, trivial, u.trans CXt.refl u1, cset_new hx.2⟩
  · exact hV.fr hsW u2 CXt.refl (fun b' k y0 y1 y2 z => by omega) (fun k z => by omega)
  · exact hB.fr hsW u2 (fun b' k y0 y1 y2 z => by omega)
/-- the live desk's marks -/
theorem mk_V (hs : sDk c 10 w (w 41 f 0)) (hf : w 0 f 0 = 13 ∧ c f = 1) (hV : vDk c w (w 41 f 0) A 0) (u : UPd c (fun b k => (b = 13 ∧ k = 1) ∨ (b = 14 ∧ k = 1) ∨ (b = 1 ∧ k = 91)) w W) (hA : ∀ (k : Nat) (j : Int), 200 ≤ k → k ≤ 210 → k ≠ 202 → k ≠ 203 → A' k 0 j = A k 0 j)
    (hm : ∀ j, 0 ≤ j → j < 6 → W 1 (w 29 (w 11 (w 41 f 0) 0) 0) j = A' 202 0 (6 * 0 + j) ∧ (W 1 (w 29 (w 11 (w 41 f 0) 0) 0) j ≠ -1 → W 1 (w 30 (w 11 (w 41 f 0) 0) 0) j = A' 203 0 (6 * 0 + j)) ∧ (W 1 (w 30 (w 11 (w 41 f 0) 0) 0) j = 0 ∨ W 1 (w 30 (w 11 (w 41 f 0) 0) 0) j = 1)) : vDk c W (w 41 f 0) A' 0 := by
  obtain ⟨-, ⟨f1, f2, f3, f4⟩, f5, f6, f7, f8⟩ := hs.fr u CXt.refl (fun k x y => ⟨fun z => by omega, fun z => by omega⟩)
  obtain ⟨⟨a1, a2⟩, hS, hT, ⟨b1, b2⟩, ⟨c1, c2, c3⟩, d1, d2, d3⟩ := id hs
  obtain ⟨⟨s1, s2⟩, ⟨s3, s4⟩, ⟨s5, s6, s7⟩, ⟨s8, s9, s10⟩, s11, s12, s13⟩ := id hS
  obtain ⟨⟨⟨v1, v2, v3, v4⟩, v5⟩, v6, v7, v8⟩ := hV
  have g60 : W 60 (w 41 f 0) 0 = w 60 (w 41 f 0) 0 := u.g (by omega) a2 (by omega)
  have g67 : W 67 (w 11 (w 41 f 0) 0) 0 = w 67 (w 11 (w 41 f 0) 0) 0 := u.g (by omega) s2 (by omega)
  refine ⟨?_, ?_, ?_, fun j j0 j1 => ?_⟩
  · rw [f1]
    refine ⟨⟨?_, ?_, fun j j0 j1 => ?_, fun j j0 j1 => ?_⟩, fun r r0 r1 => ?_⟩
    · rw [g67, hA _ _ (by decide) (by decide) (by decide) (by decide)]; exact v1
    · rw [f5, g67, u.t (by omega) (by decide)]; exact v2
    · rw [g67] at j1
      rw [f5, u.g (by omega) s4 (by omega), hA _ _ (by decide) (by decide) (by decide) (by decide)]; exact v3 j j0 j1
    · rw [f6, f7]; exact hm j j0 j1
    · obtain ⟨k1, k2⟩ := v5 r r0 r1
      unfold vSr
      rw [f8, hA _ _ (by decide) (by decide) (by decide) (by decide)]
      refine ⟨k1, fun e e0 e1 => ?_⟩
      have e3 : W 3 (w 31 (w 11 (w 41 f 0) 0) 0) (r + e) = w 3 (w 31 (w 11 (w 41 f 0) 0) 0) (r + e) := u.g (by omega) s13 (by omega)
      rw [e3, hA _ _ (by decide) (by decide) (by decide) (by decide)]
      exact ⟨fun y => (((k2 e e0 e1).1 y).fr u CXt.refl (fun k z => by omega)).fc (fun j _ _ => (hA _ _ (by decide) (by decide) (by decide) (by decide)).symm), (k2 e e0 e1).2⟩
  · rw [u.g (by omega) a2 (by omega), hA _ _ (by decide) (by decide) (by decide) (by decide)]; exact v6
  · rw [g60, hA _ _ (by decide) (by decide) (by decide) (by decide)]; exact v7
  · rw [g60] at j1
    rw [f3, f4, u.g (by omega) c3 (by omega), u.g (by omega) d3 (by omega), hA _ _ (by decide) (by decide) (by decide) (by decide), hA _ _ (by decide) (by decide) (by decide) (by decide)]; exact v8 j j0 j1
theorem RLm.mark (h : RLm p μ f L w A) (hl : 0 ≤ A 122 μ.1 0 ∧ A 122 μ.1 0 ≤ A 120 μ.1 0) (hi : 0 ≤ i ∧ i < 6) (hb : b = 0 ∨ b = 1) (hx : 0 < x ∧ w 0 x 0 = 0) :
    RS1 p μ f L x w A (k_step (w 12 (w 41 f 0) 0) x 4 0 0 0 (g_mark f i b w)) (m_mkp μ i b A) (fun _ => True) := by
  obtain ⟨hO, hL, ⟨hV, hQ, hLc⟩, hSp⟩ := id h
  have hs := hO.2.2.1.1.1
  have hf := hO.2.1.1
  have hB := hO.2.2.1.1.2
  have hD := hs.ap
  obtain ⟨⟨s1, s2⟩, ⟨s3, s4⟩, ⟨s5, s6, s7⟩, ⟨s8, s9, s10⟩, s11, s12, s13⟩ := id hs.2.1
  have u : UPd (pc_ p) (fun b k => (b = 13 ∧ k = 1) ∨ (b = 14 ∧ k = 1) ∨ (b = 1 ∧ k = 91)) w (g_mark f i b w) := by
    unfold g_mark
    refine ((UPd.refl.sU (by decide) (Or.inr ?_)).sU (by decide) (Or.inr ?_)).sU (by decide) (Or.inr ?_)
    · rw [hf.2]; exact Or.inr (Or.inr ⟨rfl, rfl⟩)
    · rw [s7]; exact Or.inl ⟨by decide, rfl⟩
    · rw [s10]; exact Or.inr (Or.inl ⟨by decide, rfl⟩)
  have eP : ∀ j, g_mark f i b w 1 (w 29 (w 11 (w 41 f 0) 0) 0) j = if j = i then w 61 (w 41 f 0) 0 else w 1 (w 29 (w 11 (w 41 f 0) 0) 0) j := fun j => by
    unfold g_mark
    rw [up_a _ _ _ hD.1.2.2]
    by_cases e : j = i
    · rw [if_pos e, e, up_s]
    · rw [if_neg e, up_i _ _ _ _ _ _ e, up_k _ (by decide)]
  have eR : ∀ j, g_mark f i b w 1 (w 30 (w 11 (w 41 f 0) 0) 0) j = if j = i then b else w 1 (w 30 (w 11 (w 41 f 0) 0) 0) j := fun j => by
    unfold g_mark
    by_cases e : j = i
    · rw [if_pos e, e, up_s]
    · rw [if_neg e, up_i _ _ _ _ _ _ e, up_a _ _ _ (Ne.symm hD.1.2.2), up_k _ (by decide)]
  have a2 : ∀ j, m_mkp μ i b A 202 0 j = if j = i then A 207 0 0 else A 202 0 j := fun j => by
    unfold m_mkp
    rw [step_at (by decide), up_k _ (by decide)]
    by_cases e : j = i
    · rw [if_pos e, e, up_s]
    · rw [if_neg e, up_i _ _ _ _ _ _ e, up_k _ (by decide)]
  have a3 : ∀ j, m_mkp μ i b A 203 0 j = if j = i then b else A 203 0 j := fun j => by
    unfold m_mkp
    rw [step_at (by decide)]
    by_cases e : j = i
    · rw [if_pos e, e, up_s]
    · rw [if_neg e, up_i _ _ _ _ _ _ e, up_k _ (by decide), up_k _ (by decide)]
  have ao : ∀ (k : Nat) (a j : Int), k ≠ 212 → k ≠ 120 → k ≠ 202 → k ≠ 203 → k ≠ 136 → m_mkp μ i b A k a j = A k a j := fun k a j z1 z2 z3 z4 z5 => by
    unfold m_mkp
    rw [step_at ⟨z1, z2⟩, up_k _ z4, up_k _ z3, up_k _ z5]
  have b2 := hB.2.1
  have v2 := hV.2.1
  refine RLm.stepN (wd := 3 + 8 * A 207 0 0 + 4096 * (2 * i + b)) h hl (u.mono fun b k z => by unfold SDb; omega) (fun k a z1 z2 z3 => ?_) hx (mk_V hs hf hV u (fun k j k1 k2 k3 k4 => ao _ _ _ (by omega) (by omega) k3 k4 (by omega)) (fun j j0 j1 => ?_)) ?_ (AgO.of fun c a i hc => ao _ _ _ (by omega) (by omega) (by omega) (by omega) (by omega)) (fun i => ao _ _ _ (by decide) (by decide) (by decide) (by decide) (by decide)) ?_ (fun k k0 k1 => ?_) ?_ (by omega) ?_
  · unfold g_mark; rw [up_k _ z1, up_k _ z1, up_k _ z3]
  · rw [eP, eR, a2, a3, show (6 : Int) * 0 + j = j by omega]
    by_cases y : j = i
    · rw [if_pos y, if_pos y, if_pos y, if_pos y]; exact ⟨v2, fun _ => rfl, hb⟩
    · rw [if_neg y, if_neg y, if_neg y, if_neg y]
      have := hV.1.1.2.2.2 j j0 j1
      rwa [show (6 : Int) * 0 + j = j by omega] at this
  · refine ⟨?_, ?_, ?_, fun j j0 j1 => ?_⟩
    · unfold g_mark; rw [up_k _ (by decide), up_k _ (by decide), up_k _ (by decide)]; exact hB.1
    · unfold g_mark; rw [up_k _ (by decide), up_k _ (by decide), up_k _ (by decide)]; exact hB.2.1
    · unfold g_mark; rw [up_k _ (by decide), up_k _ (by decide), up_k _ (by decide), up_k _ (by decide), up_k _ (by decide), up_k _ (by decide)]; exact hB.2.2.1
    · have e13 : g_mark f i b w 13 (w 41 f 0) 0 = w 13 (w 41 f 0) 0 := by unfold g_mark; rw [up_k _ (by decide), up_k _ (by decide), up_k _ (by decide)]
      have e14 : g_mark f i b w 14 (w 41 f 0) 0 = w 14 (w 41 f 0) 0 := by unfold g_mark; rw [up_k _ (by decide), up_k _ (by decide), up_k _ (by decide)]
      rw [e13, e14, u.g (by have := hs.2.2.2.2.1.1; omega) hs.2.2.2.2.1.2.2 (by omega), u.g (by have := hs.2.2.2.2.2.1; omega) hs.2.2.2.2.2.2.2 (by omega)]
      exact hB.2.2.2 j j0 j1
  · unfold m_mkp; rw [stp_120, up_k _ (by decide), up_k _ (by decide), up_k _ (by decide)]
  · unfold m_mkp; rw [stp_212, up_k _ (by decide), up_k _ (by decide), up_k _ (by decide), if_neg (by omega), up_k _ (by decide), up_k _ (by decide), up_k _ (by decide)]
  · unfold m_mkp; rw [stp_212, up_k _ (by decide), up_k _ (by decide), up_k _ (by decide), if_pos rfl]
  · rw [show (3 + 8 * A 207 0 0 + 4096 * (2 * i + b)) % 8 = 3 by omega]; rfl
end RLS
