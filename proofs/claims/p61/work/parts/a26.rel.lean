/-! listeners: the class's loop beside the reference's -/
section LST
variable {p : RP} {w W w' A A' : Mm} {μ : MU} {f q n b x lo v g m i k s : Int} {c : Int → Int} {L : List Int} {G : Int → Int → Int} {ρ : Mm}
/-- the first listener that finds -/
theorem ff_eq (h : RLm p μ f L w A) (hb : ∀ j, 0 ≤ j → j < 3 → A 228 0 j = 0 ∨ A 228 0 j = 1) : l_ff w (w 46 f 0) (w 11 (w 41 f 0) 0) 3 0 (-1) = m_ff A := by
  obtain ⟨-, ⟨-, hv, -⟩, -, -⟩ := id h
  have l4 := h.low.2.2.2.1
  have hfd : ∀ j, 0 ≤ j → j < 3 → (fnd (fun i => w 1 (w 28 (w 11 (w 41 f 0) 0) 0) i) (w 1 (w 16 (w 46 f 0) 0) j) (w 67 (w 11 (w 41 f 0) 0) 0).toNat 0 ≠ -1 ↔ m_fd A j = true) := fun j j0 j1 => by
    unfold m_fd m_pof
    rw [decide_eq_true_eq, (hv j j0 j1).2.1, l4]
    rw [fnd_cgr (h2 := fun i => A 200 0 i) _ _ (fun i i0 i1 => h.txt i0 (by omega))]
  have ha : ∀ j, 0 ≤ j → j < 3 → (w 1 (w 15 (w 46 f 0) 0) j ≠ 0 ↔ A 228 0 j = 1) := fun j j0 j1 => by
    rw [(hv j j0 j1).1]; have := hb j j0 j1; omega
  have hr : ∀ j, 0 ≤ j → j < 3 → w 1 (w 18 (w 46 f 0) 0) j = A 231 0 j := fun j j0 j1 => (hv j j0 j1).2.2.2
  have e1 : (if (w 1 (w 15 (w 46 f 0) 0) 0 ≠ 0 ∧ ((-1 : Int) = -1 ∨ w 1 (w 18 (w 46 f 0) 0) 0 < w 1 (w 18 (w 46 f 0) 0) (-1))) ∧ fnd (fun i => w 1 (w 28 (w 11 (w 41 f 0) 0) 0) i) (w 1 (w 16 (w 46 f 0) 0) 0) (w 67 (w 11 (w 41 f 0) 0) 0).toNat 0 ≠ -1 then (0 : Int) else -1) = m_ff1 A (m_fd A) := by
    unfold m_ff1
    have c1 : ((w 1 (w 15 (w 46 f 0) 0) 0 ≠ 0 ∧ ((-1 : Int) = -1 ∨ w 1 (w 18 (w 46 f 0) 0) 0 < w 1 (w 18 (w 46 f 0) 0) (-1))) ∧ fnd (fun i => w 1 (w 28 (w 11 (w 41 f 0) 0) 0) i) (w 1 (w 16 (w 46 f 0) 0) 0) (w 67 (w 11 (w 41 f 0) 0) 0).toNat 0 ≠ -1) ↔ (A 228 0 0 = 1 ∧ m_fd A 0 = true) := by
      rw [hfd 0 (by decide) (by decide), ha 0 (by decide) (by decide)]
      exact ⟨fun z => ⟨z.1.1, z.2⟩, fun z => ⟨⟨z.1, Or.inl rfl⟩, z.2⟩⟩
    by_cases y : A 228 0 0 = 1 ∧ m_fd A 0 = true
    · rw [if_pos (c1.mpr y), if_pos y]
    · rw [if_neg (fun z => y (c1.mp z)), if_neg y]
  have b1 : m_ff1 A (m_fd A) = -1 ∨ m_ff1 A (m_fd A) = 0 := by unfold m_ff1; split <;> omega
  have e2 : (if (w 1 (w 15 (w 46 f 0) 0) 1 ≠ 0 ∧ (m_ff1 A (m_fd A) = -1 ∨ w 1 (w 18 (w 46 f 0) 0) 1 < w 1 (w 18 (w 46 f 0) 0) (m_ff1 A (m_fd A)))) ∧ fnd (fun i => w 1 (w 28 (w 11 (w 41 f 0) 0) 0) i) (w 1 (w 16 (w 46 f 0) 0) 1) (w 67 (w 11 (w 41 f 0) 0) 0).toNat 0 ≠ -1 then (1 : Int) else m_ff1 A (m_fd A)) = m_ff2 A (m_fd A) := by
    unfold m_ff2
    have c1 : ((w 1 (w 15 (w 46 f 0) 0) 1 ≠ 0 ∧ (m_ff1 A (m_fd A) = -1 ∨ w 1 (w 18 (w 46 f 0) 0) 1 < w 1 (w 18 (w 46 f 0) 0) (m_ff1 A (m_fd A)))) ∧ fnd (fun i => w 1 (w 28 (w 11 (w 41 f 0) 0) 0) i) (w 1 (w 16 (w 46 f 0) 0) 1) (w 67 (w 11 (w 41 f 0) 0) 0).toNat 0 ≠ -1) ↔ ((A 228 0 1 = 1 ∧ (m_ff1 A (m_fd A) = -1 ∨ A 231 0 1 < A 231 0 (m_ff1 A (m_fd A)))) ∧ m_fd A 1 = true) := by
      rw [hfd 1 (by decide) (by decide), ha 1 (by decide) (by decide), hr 1 (by decide) (by decide)]
      rcases b1 with b1 | b1
      · exact ⟨fun z => ⟨⟨z.1.1, Or.inl b1⟩, z.2⟩, fun z => ⟨⟨z.1.1, Or.inl b1⟩, z.2⟩⟩
      · rw [hr (m_ff1 A (m_fd A)) (by omega) (by omega)]
    by_cases y : (A 228 0 1 = 1 ∧ (m_ff1 A (m_fd A) = -1 ∨ A 231 0 1 < A 231 0 (m_ff1 A (m_fd A)))) ∧ m_fd A 1 = true
    · rw [if_pos (c1.mpr y), if_pos y]
    · rw [if_neg (fun z => y (c1.mp z)), if_neg y]
  have b2 : m_ff2 A (m_fd A) = -1 ∨ (0 ≤ m_ff2 A (m_fd A) ∧ m_ff2 A (m_fd A) ≤ 1) := by unfold m_ff2; split <;> omega
  have e3 : (if (w 1 (w 15 (w 46 f 0) 0) 2 ≠ 0 ∧ (m_ff2 A (m_fd A) = -1 ∨ w 1 (w 18 (w 46 f 0) 0) 2 < w 1 (w 18 (w 46 f 0) 0) (m_ff2 A (m_fd A)))) ∧ fnd (fun i => w 1 (w 28 (w 11 (w 41 f 0) 0) 0) i) (w 1 (w 16 (w 46 f 0) 0) 2) (w 67 (w 11 (w 41 f 0) 0) 0).toNat 0 ≠ -1 then (2 : Int) else m_ff2 A (m_fd A)) = m_ff A := by
    unfold m_ff m_ffb
    have c1 : ((w 1 (w 15 (w 46 f 0) 0) 2 ≠ 0 ∧ (m_ff2 A (m_fd A) = -1 ∨ w 1 (w 18 (w 46 f 0) 0) 2 < w 1 (w 18 (w 46 f 0) 0) (m_ff2 A (m_fd A)))) ∧ fnd (fun i => w 1 (w 28 (w 11 (w 41 f 0) 0) 0) i) (w 1 (w 16 (w 46 f 0) 0) 2) (w 67 (w 11 (w 41 f 0) 0) 0).toNat 0 ≠ -1) ↔ ((A 228 0 2 = 1 ∧ (m_ff2 A (m_fd A) = -1 ∨ A 231 0 2 < A 231 0 (m_ff2 A (m_fd A)))) ∧ m_fd A 2 = true) := by
      rw [hfd 2 (by decide) (by decide), ha 2 (by decide) (by decide), hr 2 (by decide) (by decide)]
      rcases b2 with b2 | b2
      · exact ⟨fun z => ⟨⟨z.1.1, Or.inl b2⟩, z.2⟩, fun z => ⟨⟨z.1.1, Or.inl b2⟩, z.2⟩⟩
      · rw [hr (m_ff2 A (m_fd A)) (by omega) (by omega)]
    by_cases y : (A 228 0 2 = 1 ∧ (m_ff2 A (m_fd A) = -1 ∨ A 231 0 2 < A 231 0 (m_ff2 A (m_fd A)))) ∧ m_fd A 2 = true
    · rw [if_pos (c1.mpr y), if_pos y]
    · rw [if_neg (fun z => y (c1.mp z)), if_neg y]
  rw [l_ff_s (m := 2) rfl e1.symm, show (0 : Int) + 1 = 1 by decide, l_ff_s (m := 1) rfl e2.symm, show (1 : Int) + 1 = 2 by decide, l_ff_s (m := 0) rfl e3.symm]
  rfl
def SSe (lo : Int) (b : Int) (k : Nat) : Prop := (SDb 10 lo b k ∧ k ≠ 91) ∨ ((b = 50 ∨ b = 51) ∧ k = 1)
def SSf (lo : Int) (b : Int) (k : Nat) : Prop := SDb 10 lo b k ∨ ((b = 50 ∨ b = 51) ∧ k = 1)
theorem SSe.tof : ∀ b k, SSe lo b k → SSf lo b k := fun b k h => h.imp And.left id
theorem UPd.no91 {c : Int → Int} {S : Int → Nat → Prop} {w w' : Mm} (u : UPd c S w w') (h : ∀ a i, w 0 a 0 ≠ 0 → w' 91 a i = w 91 a i) : UPd c (fun b k => S b k ∧ k ≠ 91) w w' :=
  ⟨fun k a i h0 hS => by
    by_cases z : k = 91
    · subst z; exact h a i h0
    · exact u.1 k a i h0 (fun y => hS ⟨y, z⟩), u.2⟩
theorem SSe.std : ∀ b k, SSe lo b k → STd lo b k := fun b k h => by
  rcases h with h | h
  · exact SDb.std (Or.inl rfl) b k h.1
  · unfold STd; omega
/-- what listeners note beside -/
theorem RLm.act (h : RLm p μ f L w A) (hl : 0 ≤ A 122 μ.1 0 ∧ A 122 μ.1 0 ≤ A 120 μ.1 0) (u : UPd (pc_ p) (fun b k => (b = 50 ∨ b = 51) ∧ k = 1) w W) (h0 : ∀ a, W 0 a 0 = w 0 a 0) (hA : AgO μ A A') (h120 : A' 120 μ.1 0 = A 120 μ.1 0) (h212 : ∀ k, 0 ≤ k → k < A 120 μ.1 0 → A' 212 0 k = A 212 0 k) (h5 : ∀ (c : Nat) (j : Int), 200 ≤ c → c ≤ 210 → A' c 0 j = A c 0 j)
    (hch : ∀ j, 0 ≤ j → j < 8 → W 1 (w 19 (w 46 f 0) 0) j = A' 232 0 j) : RLm p μ f L W A' := by
  obtain ⟨hO, hL, ⟨hV, hQ, hLc⟩, hSp⟩ := id h
  have hf := hO.2.1.1
  have hs := hO.2.2.1.1.1
  have hS : ∀ b k, (b = 50 ∨ b = 51) ∧ k = 1 → STd (A 122 μ.1 0) b k := fun b k z => by unfold STd; omega
  have n0 : ∀ (b : Int) (k : Nat), b ≠ 50 → b ≠ 51 → ¬ ((b = 50 ∨ b = 51) ∧ k = 1) := fun b k z1 z2 z => by omega
  have g : ∀ {k : Nat}, k ≠ 91 → W k f 0 = w k f 0 := fun hk => ed_fr hf u hS hl.1 hk
  have fr : ∀ {b : Int} {d : Int}, (b = 10 ∨ b = 20 ∨ b = 30) → sDk (pc_ p) b w d → bDk w d → sDk (pc_ p) b W d ∧ bDk W d := fun hb h1 h2 =>
    ⟨(h1.fr u CXt.refl (fun k x y => ⟨n0 _ _ (by omega) (by omega), n0 _ _ (by omega) (by omega)⟩)).1, h2.fr h1 u (fun b' k x y _ => n0 _ _ (by omega) (by omega))⟩
  obtain ⟨⟨a1, a2⟩, ⟨b1, b2⟩, c1, c2⟩ := hO.2.2.1
  have hD : rDk (pc_ p) W f := by
    unfold rDk
    rw [g (by decide), g (by decide), g (by decide)]
    exact ⟨fr (Or.inl rfl) a1 a2, fr (Or.inr (Or.inl rfl)) b1 b2, fr (Or.inr (Or.inr rfl)) c1 c2⟩
  refine ⟨hO.fr u CXt.refl hS hl.1 hA hSp hl.2 (fun _ _ _ => rfl) (u.c0 hO.1) hD, ?_, ?_, fun k k0 k1 => ?_⟩
  · rw [g (by decide)]
    obtain ⟨⟨⟨h1, ⟨h2, h3, h4, h5', h6, h7⟩, h8, h9, h10, h11, h12, h13⟩, x0, x1, x2, x3, x4, x5, x6⟩, v1, v2⟩ := hL
    have e15 : W 15 (w 46 f 0) 0 = w 15 (w 46 f 0) 0 := u.g (by omega) x0 (n0 _ _ (by decide) (by decide))
    have e16 : W 16 (w 46 f 0) 0 = w 16 (w 46 f 0) 0 := u.g (by omega) x0 (n0 _ _ (by decide) (by decide))
    have e17 : W 17 (w 46 f 0) 0 = w 17 (w 46 f 0) 0 := u.g (by omega) x0 (n0 _ _ (by decide) (by decide))
    have e18 : W 18 (w 46 f 0) 0 = w 18 (w 46 f 0) 0 := u.g (by omega) x0 (n0 _ _ (by decide) (by decide))
    have e19 : W 19 (w 46 f 0) 0 = w 19 (w 46 f 0) 0 := u.g (by omega) x0 (n0 _ _ (by decide) (by decide))
    have e20 : W 20 (w 46 f 0) 0 = w 20 (w 46 f 0) 0 := u.g (by omega) x0 (n0 _ _ (by decide) (by decide))
    refine ⟨⟨⟨u.tag h1 (by decide), ?_, ?_⟩, x0, ?_⟩, fun j j0 j1 => ?_, fun j j0 j1 => ?_⟩
    · rw [e15, e16, e17, e18, e19, e20]; exact ⟨u.tag h2 (by decide), u.tag h3 (by decide), u.tag h4 (by decide), u.tag h5' (by decide), u.tag h6 (by decide), u.tag h7 (by decide)⟩
    · rw [e15, e16, e17, e18, e19, e20]; exact ⟨(u.t (by omega) (by decide)).trans h8, (u.t (by omega) (by decide)).trans h9, (u.t (by omega) (by decide)).trans h10, (u.t (by omega) (by decide)).trans h11, (u.t (by omega) (by decide)).trans h12, (u.t (by omega) (by decide)).trans h13⟩
    · rw [e15, e16, e17, e18, e19, e20]; exact ⟨x1, x2, x3, x4, x5, x6⟩
    · rw [e15, e16, e17, e18, u.g (by omega) x1 (n0 _ _ (by decide) (by decide)), u.g (by omega) x2 (n0 _ _ (by decide) (by decide)), u.g (by omega) x3 (n0 _ _ (by decide) (by decide)), u.g (by omega) x4 (n0 _ _ (by decide) (by decide)), hA.2 228 j (by omega), hA.2 229 j (by omega), hA.2 230 j (by omega), hA.2 231 j (by omega)]; exact v1 j j0 j1
    · rw [e19]; exact hch j j0 j1
  · unfold rLv
    rw [g (by decide)]
    have t7 := hs.2.2.2.1
    have e12 : W 12 (w 41 f 0) 0 = w 12 (w 41 f 0) 0 := u.g (by have := hs.1.1; omega) hs.1.2 (n0 _ _ (by decide) (by decide))
    have eq : ∀ k : Nat, W k (w 12 (w 41 f 0) 0) 0 = w k (w 12 (w 41 f 0) 0) 0 := fun k => u.g (by omega) t7.2 (n0 _ _ (by decide) (by decide))
    have ex : ∀ (k : Nat) (y : Int), y ∈ L → W k y 0 = w k y 0 := fun k y hy => by
      have k1 := hQ.2.2.2.2 y hy
      have k2 := hLc y hy
      exact u.g (b := pc_ p y) (by omega) rfl (n0 _ _ (by omega) (by omega))
    rw [e12]
    refine ⟨(hV.fr hs u CXt.refl (fun b' k x y _ => n0 _ _ (by omega) (by omega)) (fun k => n0 _ _ (by decide) (by decide))).cgV h5, hQ.cg (eq _) (eq _) (eq _) (eq _) (fun y hy => ⟨ex _ y hy, ex _ y hy⟩) (fun y hy => ex _ y hy), fun y hy => ?_⟩
    rw [hA.1 122 (by decide) (by decide) (by decide)]; exact hLc y hy
  · rw [h120] at k1
    exact (hSp k k0 k1).fr u CXt.refl (fun y hy => n0 _ _ (by omega) (by omega)) (fun y => n0 _ _ (by decide) (by decide)) (h212 k k0 k1)
theorem LB.cng {S P : Int} (h : LB μ S P A) (e : ∀ (c : Nat) (a i : Int), c = 120 ∨ c = 121 ∨ (200 ≤ c ∧ c ≤ 211) ∨ c = 240 → A' c a i = A c a i) : LB μ S P A' := by
  obtain ⟨h1, h2, h3, h4, h5⟩ := h
  refine ⟨h1.cong fun c a i x y => e _ _ _ (by omega), h2.cong (fun c a i x y => e _ _ _ (by omega)) (e _ _ _ (by omega)), fun i x y => by rw [e _ _ _ (by omega)]; exact h3 i x y, fun i x y => by rw [e _ _ _ (by omega)]; exact h4 i x y, ?_⟩
  unfold bN; rw [e _ _ _ (by omega), e _ _ _ (by omega)]; exact h5
end LST
