/-! a listener no longer listens -/
section ULS
variable {p : RP} {c : Int → Int} {w w' A A' : Mm} {μ : MU} {f q : Int} {L : List Int}
theorem RLm.uls (h : RLm p μ f L w A) (hl : 0 ≤ A 122 μ.1 0 ∧ A 122 μ.1 0 ≤ A 120 μ.1 0) (hq : 0 ≤ q ∧ q < 3)
    (hw : w' = up (up w 1 (w 15 (w 46 f 0) 0) q 0) 88 f 0 0) : RLm p μ f L w' (up (up (m_th μ 0 A) 228 0 q 0) 129 μ.1 0 (-1)) := by
  obtain ⟨s1, ⟨s2, s3, s4⟩, s5, s6, s7, s8, s9, s10⟩ := id h.1.2.1
  obtain ⟨⟨hT, x0, x1, x2, x3, x4, x5, x6⟩, v1, v2⟩ := id h.2.1
  obtain ⟨⟨m1, m2, m3⟩, m4, m5⟩ := id h.1.2.2.2.2.1
  obtain ⟨A', hA'⟩ : ∃ A', A' = up (up (m_th μ 0 A) 228 0 q 0) 129 μ.1 0 (-1) := ⟨_, rfl⟩
  rw [← hA']
  have eB : ∀ {c : Nat} {a' i : Int}, c ≠ 129 → c ≠ 139 → (c < 228 ∨ 231 < c) → A' c a' i = A c a' i := fun z1 z2 z3 => by rw [hA', up_k _ z1, up_k _ (by omega), th_o z2]
  have u : UPd (pc_ p) (fun b k => (46 ≤ b ∧ b ≤ 49) ∨ (b = 1 ∧ k = 88)) w w' := by
    rw [hw]
    exact (UPd.refl.sU (by decide) (Or.inr (Or.inl (by omega)))).sU (by decide) (Or.inr (Or.inr ⟨s1.2, rfl⟩))
  have gk : ∀ {k : Nat} {a' i : Int}, k ≠ 1 → k ≠ 88 → w' k a' i = w k a' i := fun z1 z3 => by rw [hw, up_k _ z3, up_k _ z1]
  refine h.gen hl (u.mono fun b k z => by omega) (fun a' => gk (by decide) (by decide)) ⟨fun c z1 z2 z3 => eB (by omega) (by omega) (by omega), fun c i z => eB (by omega) (by omega) (by omega)⟩ (eB (by decide) (by decide) (by decide)) (fun k _ _ => eB (by decide) (by decide) (by decide)) (fun k j z1 z2 => eB (by omega) (by omega) (by omega)) ?_ ?_ ?_
  · have g : ∀ {k : Nat}, k ≠ 88 → w' k f 0 = w k f 0 := fun {k} z => u.g (by omega) s1.2 (by omega)
    refine ⟨⟨by rw [g (by decide)]; exact s1.1, s1.2⟩, ?_, fun j j0 j1 => ?_, ?_, ?_, ?_, ?_, ?_⟩
    · rw [g (by decide), gk (by decide) (by decide), gk (by decide) (by decide)]; exact ⟨s2, s3, s4⟩
    · rw [g (by decide), u.g (by omega) s4 (by omega), eB (by decide) (by decide) (by decide)]; exact s5 j j0 j1
    · rw [g (by decide), eB (by decide) (by decide) (by decide)]; exact s6
    · rw [g (by decide), eB (by decide) (by decide) (by decide)]; exact s7
    · rw [hA', up_s, hw, up_s]; rfl
    · rw [g (by decide), eB (by decide) (by decide) (by decide)]; exact s9
    · rw [g (by decide), eB (by decide) (by decide) (by decide)]; exact s10
  · have eM : ∀ (c : Nat) (i : Int), c = 235 ∨ c = 236 → A' c 0 i = A c 0 i := fun c i z => eB (by omega) (by omega) (by omega)
    refine ⟨?_, fun m m0 mm1 => ?_, ?_⟩
    · rw [gk (by decide) (by decide), gk (by decide) (by decide), gk (by decide) (by decide)]; exact ⟨m1, m2, m3⟩
    · rw [gk (k := 48) (by decide) (by decide), gk (k := 3) (by decide) (by decide)]
      exact ((m4 m m0 mm1).fr u CXt.refl (fun b' k x y => by omega) (AgO.refl (μ := μ))).cM eM
    · rw [gk (k := 49) (by decide) (by decide)]
      exact (m5.fr u CXt.refl (fun b' k x y => by omega) (AgO.refl (μ := μ))).cM eM
  · have e46 : w' 46 f 0 = w 46 f 0 := gk (by decide) (by decide)
    have n56 : w 15 (w 46 f 0) 0 ≠ w 16 (w 46 f 0) 0 := ne_c x1 x2 (by decide)
    have n57 : w 15 (w 46 f 0) 0 ≠ w 17 (w 46 f 0) 0 := ne_c x1 x3 (by decide)
    have n58 : w 15 (w 46 f 0) 0 ≠ w 18 (w 46 f 0) 0 := ne_c x1 x4 (by decide)
    have n67 : w 16 (w 46 f 0) 0 ≠ w 17 (w 46 f 0) 0 := ne_c x2 x3 (by decide)
    have n68 : w 16 (w 46 f 0) 0 ≠ w 18 (w 46 f 0) 0 := ne_c x2 x4 (by decide)
    have n78 : w 17 (w 46 f 0) 0 ≠ w 18 (w 46 f 0) 0 := ne_c x3 x4 (by decide)
    rw [e46]
    unfold vLs LT at *
    rw [gk (k := 15) (by decide) (by decide), gk (k := 16) (by decide) (by decide), gk (k := 17) (by decide) (by decide), gk (k := 18) (by decide) (by decide), gk (k := 19) (by decide) (by decide), gk (k := 20) (by decide) (by decide)]
    have g0 : ∀ a', w' 0 a' 0 = w 0 a' 0 := fun a' => gk (by decide) (by decide)
    have g2 : ∀ a', w' 2 a' 0 = w 2 a' 0 := fun a' => gk (by decide) (by decide)
    simp only [g0, g2]
    refine ⟨⟨hT, x0, x1, x2, x3, x4, x5, x6⟩, fun j j0 j1 => ?_, fun j j0 j1 => ?_⟩
    · obtain ⟨k1, k2, k3, k4⟩ := v1 j j0 j1
      have r1 : w' 1 (w 15 (w 46 f 0) 0) j = if j = q then 0 else w 1 (w 15 (w 46 f 0) 0) j := by
        rw [hw, up_k _ (by decide), up_ii]
      have r2 : w' 1 (w 16 (w 46 f 0) 0) j = w 1 (w 16 (w 46 f 0) 0) j := by
        rw [hw, up_k _ (by decide), up_a _ _ _ (Ne.symm n56)]
      have r3 : w' 1 (w 17 (w 46 f 0) 0) j = w 1 (w 17 (w 46 f 0) 0) j := by
        rw [hw, up_k _ (by decide), up_a _ _ _ (Ne.symm n57)]
      have r4 : w' 1 (w 18 (w 46 f 0) 0) j = w 1 (w 18 (w 46 f 0) 0) j := by
        rw [hw, up_k _ (by decide), up_a _ _ _ (Ne.symm n58)]
      have t1 : A' 228 0 j = if j = q then 0 else A 228 0 j := by
        rw [hA', up_k _ (by decide), up_ii, th_o (by decide)]
      have t2 : ∀ c : Nat, 229 ≤ c → A' c 0 j = A c 0 j := fun c z => by
        rw [hA', up_k _ (by omega), up_k _ (by omega), th_o (by omega)]
      rw [r1, r2, r3, r4, t1, t2 229 (by decide), t2 230 (by decide), t2 231 (by decide), k1, k2, k3, k4]
      exact ⟨rfl, rfl, rfl, rfl⟩
    · have g50 : w' 1 (w 19 (w 46 f 0) 0) j = w 1 (w 19 (w 46 f 0) 0) j := u.g (by have := hT.2.1.2.2.2.2.1; omega) x5 (by omega)
      rw [g50, eB (by decide) (by decide) (by decide)]; exact v2 j j0 j1
end ULS
