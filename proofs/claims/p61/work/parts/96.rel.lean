/-! the tree, the listeners, the macros, the whole -/
def ixN (A : Mm) : List Int → List Int
  | [] => []
  | p :: ps => rng (A 220 0 p).toNat (A 218 0 p) ++ ixN A ps
/-- node k: its state is state 1 of ρ k -/
def vNd (c σ ν : Int → Int) (ρ : Int → Mm) (PL : Int → List Int) (μ : MU) (w A : Mm) (k : Int) : Prop :=
  ((w 0 (ν k) 0 = 5 ∧ c (ν k) = 1000 + 10 * k) ∧ w 63 (ν k) 0 = k) ∧ (sSt c (1000 + 10 * k + 1) w (w 24 (ν k) 0) ∧ vSt c w (w 24 (ν k) 0) (ρ k) 1) ∧ ((w 0 (w 25 (ν k) 0) 0 = 8 ∧ c (w 25 (ν k) 0) = 1000 + 10 * k + 6) ∧ vQs w (w 25 (ν k) 0) ((ixN A (PL k)).map σ)) ∧
  (w 26 (ν k) 0 = (if A 217 0 k = -1 then 0 else ν (A 217 0 k)) ∧ w 64 (ν k) 0 = m_chl μ k A ∧ w 65 (ν k) 0 = A 224 0 k ∧ w 66 (ν k) 0 = A 225 0 k % 2 ∧ (w 27 (ν k) 0 = 0 ∨ w 0 (w 27 (ν k) 0) 0 = 5)) ∧ ∀ i ∈ ixN A (PL k), 0 ≤ i ∧ i < A 122 μ.1 0
/-- the tree's objects -/
def sTr (c : Int → Int) (w : Mm) (T : Int) : Prop :=
  (w 0 T 0 = 11 ∧ c T = 41) ∧ (w 0 (w 38 T 0) 0 = 15 ∧ c (w 38 T 0) = 42) ∧ (w 0 (w 51 (w 38 T 0) 0) 0 = 27 ∧ c (w 51 (w 38 T 0) 0) = 43) ∧ (w 0 (w 39 T 0) 0 = 25 ∧ w 2 (w 39 T 0) 0 = 5 ∧ c (w 39 T 0) = 44)
def vTr (ν al : Int → Int) (μ : MU) (w A : Mm) (T : Int) : Prop :=
  (w 93 (w 38 T 0) 0 = A 125 μ.1 0 ∧ w 92 (w 38 T 0) 0 = 2 * A 124 μ.1 0 - A 125 μ.1 0 ∧ w 93 (w 38 T 0) 0 ≤ w 2 (w 51 (w 38 T 0) 0) 0 ∧ w 2 (w 51 (w 38 T 0) 0) 0 ≤ 100000) ∧ (∀ i, 0 ≤ i → i < A 125 μ.1 0 → w 3 (w 51 (w 38 T 0) 0) i = ν (al i)) ∧
  (∀ j, 0 ≤ j → j < 5 → w 3 (w 39 T 0) j = (if A 227 0 j = -1 then 0 else ν (A 227 0 j))) ∧ w 40 T 0 = ν (A 126 μ.1 0) ∧ w 78 T 0 = A 124 μ.1 0 ∧ w 79 T 0 = A 128 μ.1 0
/-- the nodes that are there, by their place in the list -/
def vAl (al : Int → Int) (μ : MU) (A : Mm) : Prop :=
  (∀ i, 0 ≤ i → i < A 125 μ.1 0 → (0 ≤ al i ∧ al i < A 124 μ.1 0) ∧ A 216 0 (al i) = 1) ∧ (∀ i j, 0 ≤ i → i < j → j < A 125 μ.1 0 → al i < al j) ∧ ∀ k, 0 ≤ k → k < A 124 μ.1 0 → A 216 0 k = 1 → ∃ i, (0 ≤ i ∧ i < A 125 μ.1 0) ∧ al i = k
/-- listeners -/
def vLs (c : Int → Int) (w A : Mm) (q : Int) : Prop :=
  (LT w q ∧ c q = 45 ∧ c (w 15 q 0) = 46 ∧ c (w 16 q 0) = 47 ∧ c (w 17 q 0) = 48 ∧ c (w 18 q 0) = 49 ∧ c (w 19 q 0) = 50 ∧ c (w 20 q 0) = 51) ∧
  (∀ j, 0 ≤ j → j < 3 → w 1 (w 15 q 0) j = A 228 0 j ∧ w 1 (w 16 q 0) j = A 229 0 j ∧ w 1 (w 17 q 0) j = A 230 0 j ∧ w 1 (w 18 q 0) j = A 231 0 j) ∧ ∀ j, 0 ≤ j → j < 8 → w 1 (w 19 q 0) j = A 232 0 j
/-- macro m at q -/
def vMc (c : Int → Int) (b : Int) (w A : Mm) (q m : Int) : Prop :=
  (MT w q ∧ c q = b ∧ c (w 21 q 0) = b + 1 ∧ c (w 22 q 0) = b + 2 ∧ c (w 23 q 0) = b + 3) ∧ w 62 q 0 = A 236 0 m ∧ ∀ k, 0 ≤ k → k < w 62 q 0 → w 1 (w 21 q 0) k = A 235 0 (48 * m + 3 * k) + 1 ∧ w 1 (w 22 q 0) k = A 235 0 (48 * m + 3 * k + 1) ∧ w 1 (w 23 q 0) k = A 235 0 (48 * m + 3 * k + 2)
def vMs (c : Int → Int) (w A : Mm) (f : Int) : Prop :=
  (w 0 (w 48 f 0) 0 = 24 ∧ w 2 (w 48 f 0) 0 = 4 ∧ c (w 48 f 0) = 62) ∧ (∀ m, 0 ≤ m → m < 4 → vMc c (70 + 4 * m) w A (w 3 (w 48 f 0) m) m) ∧ vMc c 63 w A (w 49 f 0) 4
/-- traces: their objects alone -/
def vTs (c : Int → Int) (w : Mm) (q : Int) : Prop :=
  (w 0 q 0 = 10 ∧ c q = 52) ∧ (w 0 (w 37 q 0) 0 = 26 ∧ w 2 (w 37 q 0) 0 = 8 ∧ c (w 37 q 0) = 53) ∧ (∀ i, 0 ≤ i → i < 8 → w 0 (w 3 (w 37 q 0) i) 0 = 9 ∧ c (w 3 (w 37 q 0) i) = 54 + i) ∧ (0 ≤ w 77 q 0 ∧ w 77 q 0 ≤ 8)
/-- the editor's own: what is tracked, recording, group, typing -/
def vSc (c : Int → Int) (μ : MU) (w A : Mm) (f : Int) : Prop :=
  (w 0 f 0 = 13 ∧ c f = 1) ∧ (w 0 (w 44 f 0) 0 = 21 ∧ w 2 (w 44 f 0) 0 = 5 ∧ c (w 44 f 0) = 40) ∧ (∀ j, 0 ≤ j → j < 5 → w 1 (w 44 f 0) j = A 211 0 j) ∧ w 86 f 0 = A 133 μ.1 0 ∧ w 87 f 0 = A 132 μ.1 0 ∧ w 88 f 0 = bi (A 129 μ.1 0 ≠ -1) ∧ w 89 f 0 = A 131 μ.1 0 ∧ w 90 f 0 = (if A 130 μ.1 0 < 4 then A 130 μ.1 0 else 4)
def sTl (c : Int → Int) (w : Mm) (f : Int) : Prop := w 0 (w 50 f 0) 0 = 12 ∧ c (w 50 f 0) = 86
def vTl (μ : MU) (w A : Mm) (f : Int) : Prop := w 84 (w 50 f 0) 0 = A 134 μ.1 0 ∧ w 85 (w 50 f 0) 0 = A 135 μ.1 0
abbrev RP : Type := (Int → Int) × (Int → Int) × (Int → Int) × (Int → Int) × (Int → Mm) × (Int → Int → Int) × (Int → List Int)
abbrev pc_ (p : RP) : Int → Int := p.1
abbrev ps_ (p : RP) : Int → Int := p.2.1
abbrev pn_ (p : RP) : Int → Int := p.2.2.1
abbrev pa_ (p : RP) : Int → Int := p.2.2.2.1
abbrev pr_ (p : RP) : Int → Mm := p.2.2.2.2.1
abbrev pg_ (p : RP) : Int → Int → Int := p.2.2.2.2.2.1
abbrev pl_ (p : RP) : Int → List Int := p.2.2.2.2.2.2
/-- the desks' objects -/
def rDk (c : Int → Int) (w : Mm) (f : Int) : Prop := (sDk c 10 w (w 41 f 0) ∧ bDk w (w 41 f 0)) ∧ (sDk c 20 w (w 42 f 0) ∧ bDk w (w 42 f 0)) ∧ (sDk c 30 w (w 43 f 0) ∧ bDk w (w 43 f 0))
/-- the live desk, its steps the list L -/
def rLv (c : Int → Int) (μ : MU) (w A : Mm) (f : Int) (L : List Int) : Prop := vDk c w (w 41 f 0) A 0 ∧ vQs w (w 12 (w 41 f 0) 0) L ∧ ∀ y ∈ L, c y ≤ -(A 122 μ.1 0 + 1)
def rSp (p : RP) (μ : MU) (w A : Mm) : Prop := ∀ k, 0 ≤ k → k < A 120 μ.1 0 → vSp (pc_ p) (ps_ p) (pg_ p) w A k
def rTr (p : RP) (μ : MU) (w A : Mm) (f : Int) : Prop :=
  (sTr (pc_ p) w (w 45 f 0) ∧ vTr (pn_ p) (pa_ p) μ w A (w 45 f 0)) ∧ vAl (pa_ p) μ A ∧ ∀ k, 0 ≤ k → k < A 124 μ.1 0 → A 216 0 k = 1 → vNd (pc_ p) (ps_ p) (pn_ p) (pr_ p) (pl_ p) μ w A k
/-- all but the live desk's contents, its steps, and how the last run went -/
def rOt (p : RP) (μ : MU) (w A : Mm) (f : Int) : Prop :=
  (∀ a, w 0 a 0 = 0 → pc_ p a = 0) ∧ vSc (pc_ p) μ w A f ∧ rDk (pc_ p) w f ∧ rTr p μ w A f ∧ vMs (pc_ p) w A f ∧ sTl (pc_ p) w f ∧ vTs (pc_ p) w (w 47 f 0)
/-- the class fits the reference within a call, the live steps L -/
def RLm (p : RP) (μ : MU) (f : Int) (L : List Int) (w A : Mm) : Prop := rOt p μ w A f ∧ vLs (pc_ p) w A (w 46 f 0) ∧ rLv (pc_ p) μ w A f L ∧ rSp p μ w A
def lvL (p : RP) (μ : MU) (A : Mm) : List Int := (rng (A 120 μ.1 0 - A 122 μ.1 0).toNat (A 122 μ.1 0)).map (ps_ p)
/-- and between calls -/
def REL (p : RP) (μ : MU) (f : Int) (w A : Mm) : Prop := RLm p μ f (lvL p μ A) w A ∧ vTl μ w A f
