/-! a command is noted -/
section NTC
variable {p : RP} {c c' : Int → Int} {S : Int → Nat → Prop} {w w' A A' : Mm} {μ : MU} {f q : Int} {L : List Int}
theorem vLs.gn (h : vLs c w A q) (u : UPd c S w w') (hc : CXt w c c') (hN : ∀ (b' : Int) (k : Nat), 45 ≤ b' ∧ b' ≤ 51 → ¬ S b' k) (hA : ∀ (c : Nat) (i : Int), 227 < c ∧ c < 232 → A' c 0 i = A c 0 i) (hA2 : ∀ i, A' 232 0 i = A 232 0 i) : vLs c' w' A' q := by
  obtain ⟨⟨⟨h1, ⟨h2, h3, h4, h5, h6, h7⟩, h8, h9, h10, h11, h12, h13⟩, x0, x1, x2, x3, x4, x5, x6⟩, v1, v2⟩ := h
  have z : ∀ (k : Nat), ¬ S 45 k := fun k => hN _ _ (by omega)
  have f1 : w' 15 q 0 = w 15 q 0 := u.g (by omega) x0 (z _)
  have f2 : w' 16 q 0 = w 16 q 0 := u.g (by omega) x0 (z _)
  have f3 : w' 17 q 0 = w 17 q 0 := u.g (by omega) x0 (z _)
  have f4 : w' 18 q 0 = w 18 q 0 := u.g (by omega) x0 (z _)
  have f5 : w' 19 q 0 = w 19 q 0 := u.g (by omega) x0 (z _)
  have f6 : w' 20 q 0 = w 20 q 0 := u.g (by omega) x0 (z _)
  refine ⟨⟨⟨u.tag h1 (by decide), ?_, ?_⟩, (hc _ (by omega)).trans x0, ?_, ?_, ?_, ?_, ?_, ?_⟩, fun j j0 j1 => ?_, fun j j0 j1 => ?_⟩
  · rw [f1, f2, f3, f4, f5, f6]; exact ⟨u.tag h2 (by decide), u.tag h3 (by decide), u.tag h4 (by decide), u.tag h5 (by decide), u.tag h6 (by decide), u.tag h7 (by decide)⟩
  · rw [f1, f2, f3, f4, f5, f6]; exact ⟨(u.t (by omega) (by decide)).trans h8, (u.t (by omega) (by decide)).trans h9, (u.t (by omega) (by decide)).trans h10, (u.t (by omega) (by decide)).trans h11, (u.t (by omega) (by decide)).trans h12, (u.t (by omega) (by decide)).trans h13⟩
  · rw [f1]; exact (hc _ (by omega)).trans x1
  · rw [f2]; exact (hc _ (by omega)).trans x2
  · rw [f3]; exact (hc _ (by omega)).trans x3
  · rw [f4]; exact (hc _ (by omega)).trans x4
  · rw [f5]; exact (hc _ (by omega)).trans x5
  · rw [f6]; exact (hc _ (by omega)).trans x6
  · rw [f1, f2, f3, f4, u.g (by omega) x1 (hN _ _ (by omega)), u.g (by omega) x2 (hN _ _ (by omega)), u.g (by omega) x3 (hN _ _ (by omega)), u.g (by omega) x4 (hN _ _ (by omega)), hA 228 j (by omega), hA 229 j (by omega), hA 230 j (by omega), hA 231 j (by omega)]; exact v1 j j0 j1
  · rw [f5, u.g (by omega) x5 (hN _ _ (by omega)), hA2]; exact v2 j j0 j1
theorem RLm.note {x a b : Int} (h : RLm p μ f L w A) (hl : 0 ≤ A 122 μ.1 0 ∧ A 122 μ.1 0 ≤ A 120 μ.1 0) (hr : A 133 μ.1 0 ≠ -1 → A 236 0 4 < 16) (hw : w' = if w 86 f 0 = -1 then up w 88 f 0 0 else c_app (w 49 f 0) (x + 1) a b (up w 88 f 0 0)) : RLm p μ f L w' (m_rec μ x a b (up A 129 μ.1 0 (-1))) := by
  obtain ⟨s1, ⟨s2, s3, s4⟩, s5, s6, s7, s8, s9, s10⟩ := id h.1.2.1
  by_cases y : A 133 μ.1 0 = -1
  · rw [if_pos (s6.trans y)] at hw
    have eA : m_rec μ x a b (up A 129 μ.1 0 (-1)) = up A 129 μ.1 0 (-1) := by unfold m_rec; rw [if_neg (fun z => z (by rw [up_k _ (by decide)]; exact y))]
    rw [eA, hw]
    refine h.sc (fun k a i z => up_k _ (by omega) _ _ _ _ _) (fun c a i z => up_k _ (by omega) _ _ _ _ _) ?_
    unfold vSc
    simp (disch := decide) only [up_k, up_s]
    exact ⟨s1, ⟨s2, s3, s4⟩, s5, s6, s7, rfl, s9, s10⟩
  · have h16 := hr y
    obtain ⟨⟨m1, m2, m3⟩, m4, ⟨m5, m6, m7, m8, m9⟩, m10, m11⟩ := id h.1.2.2.2.2.1
    obtain ⟨o1, ⟨o2, o3, o4⟩, ⟨o5, o6, o7⟩, ⟨o8, o9, o10⟩, o11⟩ := id m5
    rw [if_neg (by rw [s6]; exact y)] at hw
    unfold c_app at hw
    rw [up_k _ (by decide), up_k _ (by decide), up_k _ (by decide), up_k _ (by decide), if_pos (by omega)] at hw
    have eA : m_rec μ x a b (up A 129 μ.1 0 (-1)) = m_rec1 x a b (up A 129 μ.1 0 (-1)) := by unfold m_rec; rw [if_pos (by rw [up_k _ (by decide)]; exact y)]
    have eB : ∀ {c : Nat} {a' i : Int}, c ≠ 129 → c ≠ 235 → c ≠ 236 → m_rec1 x a b (up A 129 μ.1 0 (-1)) c a' i = A c a' i := fun z1 z2 z3 => by unfold m_rec1; rw [up_k _ z3, up_k _ z2, up_k _ z2, up_k _ z2, up_k _ z1]
    have e236 : ∀ {i : Int}, m_rec1 x a b (up A 129 μ.1 0 (-1)) 236 0 i = if i = 4 then A 236 0 4 + 1 else A 236 0 i := fun {i} => by
      unfold m_rec1
      by_cases z : i = 4
      · rw [if_pos z, z, up_s, up_k _ (by decide)]
      · rw [if_neg z, up_i _ _ _ _ _ _ z, up_k _ (by decide), up_k _ (by decide), up_k _ (by decide), up_k _ (by decide)]
    have e235 : ∀ {i : Int}, m_rec1 x a b (up A 129 μ.1 0 (-1)) 235 0 i = if i = 192 + 3 * A 236 0 4 + 2 then b else if i = 192 + 3 * A 236 0 4 + 1 then a else if i = 192 + 3 * A 236 0 4 then x else A 235 0 i := fun {i} => by
      unfold m_rec1
      rw [up_k _ (by decide), up_ii, up_ii, up_ii, up_k _ (by decide), up_k _ (by decide)]
    rw [eA]
    have u : UPd (pc_ p) (fun b k => (63 ≤ b ∧ b ≤ 66) ∨ (b = 1 ∧ k = 88)) w w' := by
      rw [hw]
      exact ((((UPd.refl.sU (by decide) (Or.inr (Or.inr ⟨s1.2, rfl⟩))).sU (by decide) (Or.inr (Or.inl (by omega)))).sU (by decide) (Or.inr (Or.inl (by omega)))).sU (by decide) (Or.inr (Or.inl (by omega)))).sU (by decide) (Or.inr (Or.inl (by omega)))
    have gk : ∀ {k : Nat} {a' i : Int}, k ≠ 1 → k ≠ 62 → k ≠ 88 → w' k a' i = w k a' i := fun z1 z2 z3 => by rw [hw, up_k _ z2, up_k _ z1, up_k _ z1, up_k _ z1, up_k _ z3]
    refine h.gen hl (u.mono fun b k z => by omega) (fun a' => gk (by decide) (by decide) (by decide)) ⟨fun c z1 z2 z3 => eB (by omega) (by omega) (by omega), fun c i z => eB (by omega) (by omega) (by omega)⟩ (eB (by decide) (by decide) (by decide)) (fun k _ _ => eB (by decide) (by decide) (by decide)) (fun k j z1 z2 => eB (by omega) (by omega) (by omega)) ?_ ?_ ?_
    · have g : ∀ {k : Nat}, k ≠ 88 → w' k f 0 = w k f 0 := fun {k} z => u.g (by omega) s1.2 (by omega)
      refine ⟨⟨by rw [g (by decide)]; exact s1.1, s1.2⟩, ?_, fun j j0 j1 => ?_, ?_, ?_, ?_, ?_, ?_⟩
      · rw [g (by decide), gk (by decide) (by decide) (by decide), gk (by decide) (by decide) (by decide)]; exact ⟨s2, s3, s4⟩
      · rw [g (by decide), u.g (by omega) s4 (by omega), eB (by decide) (by decide) (by decide)]; exact s5 j j0 j1
      · rw [g (by decide), eB (by decide) (by decide) (by decide)]; exact s6
      · rw [g (by decide), eB (by decide) (by decide) (by decide)]; exact s7
      · have e129 : m_rec1 x a b (up A 129 μ.1 0 (-1)) 129 μ.1 0 = -1 := by unfold m_rec1; rw [up_k _ (by decide), up_k _ (by decide), up_k _ (by decide), up_k _ (by decide), up_s]
        rw [e129, hw, up_k _ (by decide), up_k _ (by decide), up_k _ (by decide), up_k _ (by decide), up_s]; rfl
      · rw [g (by decide), eB (by decide) (by decide) (by decide)]; exact s9
      · rw [g (by decide), eB (by decide) (by decide) (by decide)]; exact s10
    · refine ⟨?_, fun q q0 q1 => ?_, ?_⟩
      · rw [gk (by decide) (by decide) (by decide), gk (by decide) (by decide) (by decide), gk (by decide) (by decide) (by decide)]; exact ⟨m1, m2, m3⟩
      · obtain ⟨⟨v1, v2, v3, v4, v5⟩, v6, v7⟩ := m4 q q0 q1
        rw [gk (k := 48) (by decide) (by decide) (by decide), gk (k := 3) (by decide) (by decide) (by decide)]
        obtain ⟨k1, f1, f2, f3, f4⟩ := v1.fr ⟨v2, v3, v4, v5⟩ u (fun b' k x y => by omega)
        have h16' : 0 ≤ w 62 (w 3 (w 48 f 0) q) 0 ∧ w 62 (w 3 (w 48 f 0) q) 0 ≤ 16 := v1.2.2.2.2
        obtain ⟨r1, ⟨r2, r3, r4⟩, -⟩ := v1
        refine ⟨⟨k1, v2, by rw [f1]; exact v3, by rw [f2]; exact v4, by rw [f3]; exact v5⟩, by rw [f4, e236, if_neg (by omega)]; exact v6, fun k k0 k1 => ?_⟩
        rw [f4] at k1
        rw [f1, f2, f3, u.g (by omega) v3 (by omega), u.g (by omega) v4 (by omega), u.g (by omega) v5 (by omega), e235, e235, e235, if_neg (by omega), if_neg (by omega), if_neg (by omega), if_neg (by omega), if_neg (by omega), if_neg (by omega), if_neg (by omega), if_neg (by omega), if_neg (by omega)]
        exact v7 k k0 k1
      · have w62 : w' 62 (w 49 f 0) 0 = w 62 (w 49 f 0) 0 + 1 := by rw [hw, up_s]
        rw [gk (k := 49) (by decide) (by decide) (by decide)]
        have g21 : w' 21 (w 49 f 0) 0 = w 21 (w 49 f 0) 0 := gk (by decide) (by decide) (by decide)
        have g22 : w' 22 (w 49 f 0) 0 = w 22 (w 49 f 0) 0 := gk (by decide) (by decide) (by decide)
        have g23 : w' 23 (w 49 f 0) 0 = w 23 (w 49 f 0) 0 := gk (by decide) (by decide) (by decide)
        have g0 : ∀ a', w' 0 a' 0 = w 0 a' 0 := fun a' => gk (by decide) (by decide) (by decide)
        have g2 : ∀ a', w' 2 a' 0 = w 2 a' 0 := fun a' => gk (by decide) (by decide) (by decide)
        refine ⟨⟨⟨by rw [g0]; exact o1, by rw [g21, g22, g23, g0, g0, g0]; exact ⟨o2, o3, o4⟩, by rw [g21, g22, g23, g2, g2, g2]; exact ⟨o5, o6, o7⟩, by rw [g21, g22, g23]; exact ⟨o8, o9, o10⟩, by rw [w62]; omega⟩, m6, by rw [g21]; exact m7, by rw [g22]; exact m8, by rw [g23]; exact m9⟩, by rw [w62, e236, if_pos rfl, m10], fun k k0 k1 => ?_⟩
        rw [w62] at k1
        have v1 : ∀ j, w' 1 (w 21 (w 49 f 0) 0) j = if j = w 62 (w 49 f 0) 0 then x + 1 else w 1 (w 21 (w 49 f 0) 0) j := fun j => by
          rw [hw, up_k _ (by decide), up_a _ _ _ o9, up_a _ _ _ o8]
          by_cases z : j = w 62 (w 49 f 0) 0
          · rw [if_pos z, z, up_s]
          · rw [if_neg z, up_i _ _ _ _ _ _ z, up_k _ (by decide)]
        have v2 : ∀ j, w' 1 (w 22 (w 49 f 0) 0) j = if j = w 62 (w 49 f 0) 0 then a else w 1 (w 22 (w 49 f 0) 0) j := fun j => by
          rw [hw, up_k _ (by decide), up_a _ _ _ o10]
          by_cases z : j = w 62 (w 49 f 0) 0
          · rw [if_pos z, z, up_s]
          · rw [if_neg z, up_i _ _ _ _ _ _ z, up_a _ _ _ (Ne.symm o8), up_k _ (by decide)]
        have v3 : ∀ j, w' 1 (w 23 (w 49 f 0) 0) j = if j = w 62 (w 49 f 0) 0 then b else w 1 (w 23 (w 49 f 0) 0) j := fun j => by
          rw [hw, up_k _ (by decide)]
          by_cases z : j = w 62 (w 49 f 0) 0
          · rw [if_pos z, z, up_s]
          · rw [if_neg z, up_i _ _ _ _ _ _ z, up_a _ _ _ (Ne.symm o10), up_a _ _ _ (Ne.symm o9), up_k _ (by decide)]
        rw [g21, g22, g23, v1, v2, v3, e235, e235, e235]
        by_cases z : k = w 62 (w 49 f 0) 0
        · rw [if_pos z, if_pos z, if_pos z, if_neg (by omega), if_neg (by omega), if_pos (by omega), if_neg (by omega), if_pos (by omega), if_pos (by omega)]
          exact ⟨rfl, rfl, rfl⟩
        · rw [if_neg z, if_neg z, if_neg z, if_neg (by omega), if_neg (by omega), if_neg (by omega), if_neg (by omega), if_neg (by omega), if_neg (by omega), if_neg (by omega), if_neg (by omega), if_neg (by omega)]
          exact m11 k k0 (by omega)
    · have e46 : w' 46 f 0 = w 46 f 0 := gk (by decide) (by decide) (by decide)
      rw [e46]
      exact h.2.1.gn u CXt.refl (fun b' k z => by omega) (fun c i z => eB (by omega) (by omega) (by omega)) (fun i => eB (by decide) (by decide) (by decide))
end NTC
