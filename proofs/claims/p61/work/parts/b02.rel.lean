/-! a recorded macro is kept -/
section STP
variable {p : RP} {w w' A A' : Mm} {μ : MU} {f m q o j i : Int} {L : List Int}
theorem c_tk_1 {w : Mm} {q o j k : Int} (h1 : w 21 q 0 ≠ w 22 q 0) (h2 : w 21 q 0 ≠ w 23 q 0) (h3 : w 22 q 0 ≠ w 23 q 0) (hk : 0 ≤ k ∧ k < j) : c_tk q o w j 1 (w 21 q 0) k = w 1 (w 21 o 0) k ∧ c_tk q o w j 1 (w 22 q 0) k = w 1 (w 22 o 0) k ∧ c_tk q o w j 1 (w 23 q 0) k = w 1 (w 23 o 0) k := by
  unfold c_tk
  rw [up_k _ (by decide), up_k _ (by decide), up_k _ (by decide)]
  refine ⟨?_, ?_, ?_⟩
  · rw [flA_a h2, flA_a h1, flA_v, if_pos (by omega)]
  · rw [flA_a h3, flA_v, if_pos (by omega)]
  · rw [flA_v, if_pos (by omega)]
theorem RLm.stp9 (h : RLm p μ f L w A) (hl : 0 ≤ A 122 μ.1 0 ∧ A 122 μ.1 0 ≤ A 120 μ.1 0) (hm : 0 ≤ m ∧ m ≤ 3) (hw : w' = up (up (c_tk (w 3 (w 48 f 0) m) (w 49 f 0) w (w 62 (w 49 f 0) 0)) 86 f 0 (-1)) 88 f 0 0) (hA' : A' = up (up (m_stW μ m A) 133 μ.1 0 (-1)) 129 μ.1 0 (-1)) : RLm p μ f L w' A' ∧ UPG f w w' := by
  obtain ⟨s1, ⟨s2, s3, s4⟩, s5, s6, s7, s8, s9, s10⟩ := id h.1.2.1
  obtain ⟨⟨m1, m2, m3⟩, m4, ⟨m5, m6, m7, m8, m9⟩, m10, m11⟩ := id h.1.2.2.2.2.1
  have htl := h.1.2.2.2.2.2.1.1
  obtain ⟨⟨q1, q2, q3, q4, q5⟩, q6, q7⟩ := m4 m hm.1 (by omega)
  obtain ⟨w0, hw0⟩ : ∃ q, q = w 3 (w 48 f 0) m := ⟨_, rfl⟩
  rw [← hw0] at hw q1 q2 q3 q4 q5 q6 q7
  have qt := q1.1
  have qt2 := q1.2.1
  have u : UPd (pc_ p) (fun b k => (70 + 4 * m ≤ b ∧ b ≤ 70 + 4 * m + 3) ∨ (b = 1 ∧ (k = 86 ∨ k = 88))) w w' := by
    rw [hw]; unfold c_tk
    exact (((((UPd.refl.sF (by decide) (Or.inr (Or.inl (by omega)))).sF (by decide) (Or.inr (Or.inl (by omega)))).sF (by decide) (Or.inr (Or.inl (by omega)))).sU (by decide) (Or.inr (Or.inl (by omega)))).sU (by decide) (Or.inr (Or.inr ⟨s1.2, Or.inl rfl⟩))).sU (by decide) (Or.inr (Or.inr ⟨s1.2, Or.inr rfl⟩))
  have gk : ∀ {k : Nat} {a i : Int}, k ≠ 1 → k ≠ 62 → k ≠ 86 → k ≠ 88 → w' k a i = w k a i := fun z1 z2 z3 z4 => by rw [hw, up_k _ z4, up_k _ z3, c_tk_k z1 z2]
  have eB : ∀ {c : Nat} {a i : Int}, c ≠ 129 → c ≠ 133 → c ≠ 235 → c ≠ 236 → A' c a i = A c a i := fun z1 z2 z3 z4 => by rw [hA', up_k _ z1, up_k _ z2]; unfold m_stW; rw [up_k _ z4, fl_at z3]
  have e236 : ∀ {i : Int}, A' 236 0 i = if i = m then A 236 0 4 else A 236 0 i := fun {i} => by
    rw [hA', up_k _ (by decide), up_k _ (by decide)]; unfold m_stW
    by_cases z : i = m
    · rw [if_pos z, z, up_s]
    · rw [if_neg z, up_i _ _ _ _ _ _ z, fl_at (by decide)]
  have e235 : ∀ {i : Int}, A' 235 0 i = if 48 * m ≤ i ∧ i < 48 * m + 48 then A 235 0 (192 + (i - 48 * m)) else A 235 0 i := fun {i} => by
    rw [hA', up_k _ (by decide), up_k _ (by decide)]; unfold m_stW
    rw [up_k _ (by decide), fl_v]
  refine ⟨h.gen hl (u.mono fun b k z => by omega) (fun a => gk (by decide) (by decide) (by decide) (by decide)) ⟨fun c z1 z2 z3 => eB (by omega) (by omega) (by omega) (by omega), fun c i z => eB (by omega) (by omega) (by omega) (by omega)⟩ (eB (by decide) (by decide) (by decide) (by decide)) (fun k _ _ => eB (by decide) (by decide) (by decide) (by decide)) (fun k j z1 z2 => eB (by omega) (by omega) (by omega) (by omega)) ?_ ?_ ?_, u.toG s1 h.1.2.2.2.2.2.1 (fun k z1 z => by omega) (fun k z => by omega)⟩
  · have g : ∀ {k : Nat}, k ≠ 86 → k ≠ 88 → w' k f 0 = w k f 0 := fun {k} z1 z2 => u.g (by omega) s1.2 (by omega)
    refine ⟨⟨by rw [g (by decide) (by decide)]; exact s1.1, s1.2⟩, ?_, fun j j0 j1 => ?_, ?_, ?_, ?_, ?_, ?_⟩
    · rw [g (by decide) (by decide), gk (by decide) (by decide) (by decide) (by decide), gk (by decide) (by decide) (by decide) (by decide)]; exact ⟨s2, s3, s4⟩
    · rw [g (by decide) (by decide), u.g (by omega) s4 (by omega), eB (by decide) (by decide) (by decide) (by decide)]; exact s5 j j0 j1
    · rw [hw, hA', up_k _ (by decide), up_s, up_k _ (by decide), up_s]
    · rw [g (by decide) (by decide), eB (by decide) (by decide) (by decide) (by decide)]; exact s7
    · rw [hw, hA', up_s, up_s]; rfl
    · rw [g (by decide) (by decide), eB (by decide) (by decide) (by decide) (by decide)]; exact s9
    · rw [g (by decide) (by decide), eB (by decide) (by decide) (by decide) (by decide)]; exact s10
  · have g48 : w' 48 f 0 = w 48 f 0 := gk (by decide) (by decide) (by decide) (by decide)
    have g49 : w' 49 f 0 = w 49 f 0 := gk (by decide) (by decide) (by decide) (by decide)
    refine ⟨?_, fun k k0 k1 => ?_, ?_⟩
    · rw [g48, gk (by decide) (by decide) (by decide) (by decide), gk (by decide) (by decide) (by decide) (by decide)]; exact ⟨m1, m2, m3⟩
    · rw [g48, gk (k := 3) (by decide) (by decide) (by decide) (by decide)]
      by_cases z : k = m
      · rw [z, ← hw0]
        have g21 : w' 21 w0 0 = w 21 w0 0 := gk (by decide) (by decide) (by decide) (by decide)
        have g22 : w' 22 w0 0 = w 22 w0 0 := gk (by decide) (by decide) (by decide) (by decide)
        have g23 : w' 23 w0 0 = w 23 w0 0 := gk (by decide) (by decide) (by decide) (by decide)
        have g0 : ∀ a', w' 0 a' 0 = w 0 a' 0 := fun a' => gk (by decide) (by decide) (by decide) (by decide)
        have g2 : ∀ a', w' 2 a' 0 = w 2 a' 0 := fun a' => gk (by decide) (by decide) (by decide) (by decide)
        have g62 : w' 62 w0 0 = w 62 (w 49 f 0) 0 := by rw [hw, up_k _ (by decide), up_k _ (by decide)]; unfold c_tk; rw [up_s]
        obtain ⟨o1, ⟨o2, o3, o4⟩, ⟨o5, o6, o7⟩, ⟨o8, o9, o10⟩, o11⟩ := id q1
        have hr62 := m5.2.2.2.2
        refine ⟨⟨⟨by rw [g0]; exact o1, by rw [g21, g22, g23, g0, g0, g0]; exact ⟨o2, o3, o4⟩, by rw [g21, g22, g23, g2, g2, g2]; exact ⟨o5, o6, o7⟩, by rw [g21, g22, g23]; exact ⟨o8, o9, o10⟩, by rw [g62]; exact hr62⟩, q2, by rw [g21]; exact q3, by rw [g22]; exact q4, by rw [g23]; exact q5⟩, by rw [g62, e236, if_pos rfl]; exact m10, fun k k0 k1 => ?_⟩
        rw [g62] at k1
        have v := c_tk_1 (o := w 49 f 0) o8 o9 o10 ⟨k0, k1⟩
        have hv := m11 k k0 k1
        have v0 : ∀ a i, w' 1 a i = c_tk w0 (w 49 f 0) w (w 62 (w 49 f 0) 0) 1 a i := fun a i => by rw [hw, up_k _ (by decide), up_k _ (by decide)]
        rw [g21, g22, g23, v0, v0, v0, v.1, v.2.1, v.2.2, e235, e235, e235, if_pos (by omega), if_pos (by omega), if_pos (by omega)]
        rw [show 192 + (48 * m + 3 * k - 48 * m) = 48 * 4 + 3 * k by omega, show 192 + (48 * m + 3 * k + 1 - 48 * m) = 48 * 4 + 3 * k + 1 by omega, show 192 + (48 * m + 3 * k + 2 - 48 * m) = 48 * 4 + 3 * k + 2 by omega]
        exact hv
      · obtain ⟨⟨v1, v2, v3, v4, v5⟩, v6, v7⟩ := m4 k k0 k1
        obtain ⟨k1', f1, f2, f3, f4⟩ := v1.fr ⟨v2, v3, v4, v5⟩ u (fun b' k' x y => by omega)
        have h16' : 0 ≤ w 62 (w 3 (w 48 f 0) k) 0 ∧ w 62 (w 3 (w 48 f 0) k) 0 ≤ 16 := v1.2.2.2.2
        obtain ⟨r1, ⟨r2, r3, r4⟩, -⟩ := v1
        refine ⟨⟨k1', v2, by rw [f1]; exact v3, by rw [f2]; exact v4, by rw [f3]; exact v5⟩, by rw [f4, e236, if_neg z]; exact v6, fun j j0 j1 => ?_⟩
        rw [f4] at j1
        rw [f1, f2, f3, u.g (by omega) v3 (by omega), u.g (by omega) v4 (by omega), u.g (by omega) v5 (by omega), e235, e235, e235, if_neg (by omega), if_neg (by omega), if_neg (by omega)]
        exact v7 j j0 j1
    · rw [g49]
      obtain ⟨k1', f1, f2, f3, f4⟩ := m5.fr ⟨m6, m7, m8, m9⟩ u (fun b' k' x y => by omega)
      have h16' := m5.2.2.2.2
      obtain ⟨r1, ⟨r2, r3, r4⟩, -⟩ := m5
      refine ⟨⟨k1', m6, by rw [f1]; exact m7, by rw [f2]; exact m8, by rw [f3]; exact m9⟩, by rw [f4, e236, if_neg (by omega)]; exact m10, fun j j0 j1 => ?_⟩
      rw [f4] at j1
      rw [f1, f2, f3, u.g (by omega) m7 (by omega), u.g (by omega) m8 (by omega), u.g (by omega) m9 (by omega), e235, e235, e235, if_neg (by omega), if_neg (by omega), if_neg (by omega)]
      exact m11 j j0 j1
  · have e46 : w' 46 f 0 = w 46 f 0 := gk (by decide) (by decide) (by decide) (by decide)
    rw [e46]
    exact h.2.1.gn u CXt.refl (fun b' k z => by omega) (fun c i z => eB (by omega) (by omega) (by omega) (by omega)) (fun i => eB (by decide) (by decide) (by decide) (by decide))
end STP
