/-! the search for a change: where it stands -/
/-- what is neither a trace nor a pointer down stays -/
def FTh (w w' : Mm) : Prop := ∀ (K : Nat) (a j : Int), w 0 a 0 ≠ 9 → w 0 a 0 ≠ 10 → (w 0 a 0 ≠ 5 ∨ K ≠ 27) → w' K a j = w K a j
def N27 (p : RP) (μ : MU) (A w1 : Mm) : Prop := ∀ k, alv μ A k → w1 27 (pn_ p k) 0 = 0 ∨ w1 0 (w1 27 (pn_ p k) 0) 0 = 5
abbrev fcu (μ : MU) (A : Mm) : Int := A 126 μ.1 0
abbrev fpl (μ : MU) (A : Mm) : Int := m_pln A (fcu μ A) - 1
/-- the pointers down behind place a of the path -/
def DWN (p : RP) (μ : MU) (A w1 : Mm) (a : Int) : Prop := ∀ j, a < j → j ≤ fpl μ A → w1 27 (pn_ p (m_fan A (fcu μ A) j)) 0 = if j = fpl μ A then 0 else pn_ p (m_fan A (fcu μ A) (j + 1))
def FDW (p : RP) (μ : MU) (A w : Mm) (T a : Int) (w1 : Mm) : Prop := (FT7 w w1 ∧ FTh w w1) ∧ (0 ≤ w1 77 T 0 ∧ w1 77 T 0 ≤ 8) ∧ N27 p μ A w1 ∧ DWN p μ A w1 a
def wnx (μ : MU) (PL : Int → List Int) (A : Mm) (a : Int) (W : Mm) : Mm := m_fol μ PL (fcu μ A) A a (m_can μ PL (fcu μ A) A a W)
def FDI (p : RP) (μ : MU) (A w : Mm) (T lo hi a q b : Int) (w1 W : Mm) : Prop :=
  (-1 ≤ a ∧ a ≤ fpl μ A) ∧ q = (if a = -1 then 0 else pn_ p (m_fan A (fcu μ A) a)) ∧ b = (if a = fpl μ A then 0 else pn_ p (m_fan A (fcu μ A) (a + 1))) ∧ FDW p μ A w T a w1 ∧ (∀ (c : Nat) (x i : Int), 216 ≤ c → c ≤ 225 → W c x i = A c x i) ∧ m_fdR μ (pl_ p) (fcu μ A) A lo hi a.toNat W = m_fdI μ (pl_ p) lo hi A
section FDS
variable {p : RP} {w w1 w2 w' W A : Mm} {a b q f T lo hi M k n j : Int} {μ : MU} {L : List Int}
theorem FT7.refl : FT7 w w := fun _ _ _ _ _ _ _ _ _ _ => rfl
theorem FTh.refl : FTh w w := fun _ _ _ _ _ _ => rfl
theorem FT7.u (h : FT7 w w1) {v i x : Int} {K : Nat} (hK : K = 27) : FT7 w (up w1 K x i v) := fun K' a' j z1 z2 z3 z4 z5 z6 z7 => by rw [up_k _ (by omega)]; exact h K' a' j z1 z2 z3 z4 z5 z6 z7
theorem FT7.c (h : FT7 w w1) (g : FTc w1 w2) : FT7 w w2 := fun K a j z1 z2 z3 z4 z5 z6 z7 => (g K a j z2 z3 z4 z5 z6 z7).trans (h K a j z1 z2 z3 z4 z5 z6 z7)
theorem FTh.c (h : FTh w w1) (g : FTg w1 w2) (e0 : ∀ a, w1 0 a 0 = w 0 a 0) : FTh w w2 := fun K a j z1 z2 z3 => (g K a j (by rw [e0]; exact z1) (by rw [e0]; exact z2)).trans (h K a j z1 z2 z3)
theorem FTh.u (h : FTh w w1) {v x i : Int} (hx : w 0 x 0 = 5) : FTh w (up w1 27 x i v) := fun K a j z1 z2 z3 => by
  by_cases c : K = 27
  · rw [up_a _ _ _ (fun e => by rw [e] at z3; omega)]; exact h K a j z1 z2 z3
  · rw [up_k _ c]; exact h K a j z1 z2 z3
/-- the reference's world still says of the tree what it said -/
theorem wnx_at {PL : Int → List Int} {c : Nat} {x i : Int} (h : c ≠ 137 ∧ c ≠ 138 ∧ (c < 241 ∨ 246 < c)) : wnx μ PL A a W c x i = W c x i := by
  have hT : ∀ (xs : List Int) (Y : Mm), (m_trL μ xs Y).2 c x i = Y c x i := fun xs => by
    induction xs with
    | nil => exact fun _ => rfl
    | cons z zs ih =>
      intro Y
      simp only [m_trL]
      split
      · split
        · rfl
        · rw [ih]; unfold m_trB m_trA
          rw [up_k _ (by omega), up_k _ (by omega), up_k _ (by omega), up_k _ (by omega), up_k _ (by omega), up_k _ (by omega), mvN_at (by omega)]
      · exact ih Y
  have hL : ∀ (xs : List Int) (Y : Mm), m_foL μ xs Y c x i = Y c x i := fun xs => by
    induction xs with
    | nil => exact fun _ => rfl
    | cons z zs ih =>
      intro Y
      simp only [m_foL]
      rw [ih]
      split
      · exact mvN_at (by omega) _
      · rfl
  have hP : ∀ (n : Nat) (Y : Mm), m_foP μ PL (fcu μ A) A a n Y c x i = Y c x i := fun n => by
    induction n with
    | zero => exact fun _ => rfl
    | succ n ih => intro Y; simp only [m_foP]; rw [hL, ih]
  have hC : (m_can μ PL (fcu μ A) A a W).2 c x i = W c x i := by
    unfold m_can
    split
    · rw [hT, up_k _ (by omega), up_k _ (by omega)]
    · exact up_k _ (by omega) _ _ _ _ _
  unfold wnx m_fol
  split
  · exact hC
  · rw [hP, hC]
theorem FDW.t (h : FDW p μ A w T a w1) (hT : TrT w T) (hX : TrX w T) : TrT w1 T ∧ TrX w1 T ∧ txT w1 T = txT w T ∧ ∀ a, w1 0 a 0 = w 0 a 0 := by
  obtain ⟨⟨h1, -⟩, h2, -⟩ := h
  have e : ∀ {K : Nat} {a j : Int}, K = 0 ∨ K = 2 ∨ K = 3 ∨ K = 37 → w1 K a j = w K a j := fun z => h1 _ _ _ (by omega) (by omega) (by omega) (by omega) (by omega) (by omega) (by omega)
  refine ⟨?_, ⟨fun i i0 i1 => by rw [e (K := 37) (by decide), e (K := 3) (by decide), e (by decide)]; exact hX.1 i i0 i1, fun i j i0 i1 j0 j1 ij => by rw [e (K := 37) (by decide), e (K := 3) (by decide), e (K := 3) (by decide)]; exact hX.2 i j i0 i1 j0 j1 ij⟩, ?_, fun a => e (by decide)⟩
  · unfold TrT
    rw [e (K := 37) (by decide), e (by decide), e (by decide), e (by decide)]
    exact ⟨hT.1, hT.2.1, hT.2.2.1, h2⟩
  · funext i
    show w1 3 (w1 37 T 0) i = w 3 (w 37 T 0) i
    rw [e (K := 37) (by decide), e (by decide)]
/-- a node of the path comes: its pointer down is set -/
theorem FDW.set (h : RLm p μ f L w A) (hT : TB μ M A) (hE : bEx μ A) (hw : FDW p μ A w T a w1) (ha : 0 ≤ a ∧ a ≤ fpl μ A) (hb : b = (if a = fpl μ A then 0 else pn_ p (m_fan A (fcu μ A) (a + 1)))) : FDW p μ A w T (a - 1) (up w1 27 (pn_ p (m_fan A (fcu μ A) a)) 0 b) := by
  have hcur := hE.cur hT
  obtain ⟨-, fv, -⟩ := fan_v hT hE hcur
  have ef : fpl μ A = m_pln A (A 126 μ.1 0) - 1 := rfl
  obtain ⟨⟨h1, h2⟩, h3, h4, h5⟩ := hw
  have hal := (fv a ha.1 ha.2).1
  have e0 : ∀ x, w1 0 x 0 = w 0 x 0 := fun x => h1 _ _ _ (by decide) (by decide) (by decide) (by decide) (by decide) (by decide) (by decide)
  have hb5 : b = 0 ∨ w 0 b 0 = 5 := by
    by_cases c : a = fpl μ A
    · rw [hb, if_pos c]; exact Or.inl rfl
    · rw [hb, if_neg c]; exact Or.inr (h.tg5 (fv (a + 1) (by omega) (by omega)).1).1
  refine ⟨⟨h1.u rfl, h2.u (h.tg5 hal).1⟩, by rw [up_k _ (by decide)]; exact h3, fun k hk => ?_, fun j j0 j1 => ?_⟩
  · by_cases c : pn_ p k = pn_ p (m_fan A (fcu μ A) a)
    · rw [c, up_s, up_k _ (by decide), e0]; exact hb5
    · rw [up_a _ _ _ c, up_k _ (by decide)]; exact h4 k hk
  · by_cases c : j = a
    · rw [c, up_s]; exact hb
    · have hj := fv j (by omega) j1
      rw [up_a _ _ _ (fun e => ?_)]
      · exact h5 j (by omega) j1
      · have := (h.inj hj.1 hal).mp e
        have h1 := hj.2.1
        rw [this, (fv a ha.1 ha.2).2.1] at h1
        omega
/-- on to the parent -/
theorem FDI.next (h : RLm p μ f L w A) (hT : TB μ M A) (hE : bEx μ A) (hd : FDI p μ A w T lo hi a q b w1 W) (ha : 0 ≤ a) (hw : FDW p μ A w T (a - 1) w2) (hh : 1 ≤ a → ¬ m_hit μ lo hi (m_can μ (pl_ p) (fcu μ A) A a W).1 (wnx μ (pl_ p) A a W)) : FDI p μ A w T lo hi (a - 1) (w2 26 q 0) q w2 (if a = 0 then W else wnx μ (pl_ p) A a W) := by
  have hcur := hE.cur hT
  obtain ⟨⟨p0, p1⟩, fv, fp⟩ := fan_v hT hE hcur
  have ef : fpl μ A = m_pln A (A 126 μ.1 0) - 1 := rfl
  obtain ⟨⟨a1, a2⟩, h1, h2, -, h4, h5⟩ := hd
  rw [if_neg (by omega)] at h1
  have hal := (fv a ha a2).1
  have e26 : w2 26 q 0 = w 26 q 0 := hw.1.1 _ _ _ (by decide) (by decide) (by decide) (by decide) (by decide) (by decide) (by decide)
  have hn := (h.nd hal).2.2.2.1.1
  refine ⟨⟨by omega, by omega⟩, ?_, ?_, hw, fun c x i c0 c1 => ?_, ?_⟩
  · rw [e26, h1, hn]
    by_cases c : a = 0
    · rw [(fv a ha a2).2.2.mpr c, hT.p0, if_pos rfl, if_pos (by omega)]
    · have := fp a (by omega) a2
      rw [this, if_neg (by have := (fv (a - 1) (by omega) (by omega)).1.1.1; omega), if_neg (by omega)]
  · rw [if_neg (by omega), show a - 1 + 1 = a by omega]; exact h1
  · split
    · exact h4 c x i c0 c1
    · rw [wnx_at (by omega)]; exact h4 c x i c0 c1
  · by_cases c : a = 0
    · rw [if_pos c, ← h5, c]; rfl
    · rw [if_neg c, ← h5, show a.toNat = (a - 1).toNat + 1 by omega]
      simp only [m_fdR]
      rw [show (((a - 1).toNat : Nat) : Int) + 1 = a by omega]
      rw [if_neg (show ¬ m_hit μ lo hi (m_can μ (pl_ p) (fcu μ A) A a W).1 (m_fol μ (pl_ p) (fcu μ A) A a (m_can μ (pl_ p) (fcu μ A) A a W)) from hh (by omega))]
      rfl
end FDS
