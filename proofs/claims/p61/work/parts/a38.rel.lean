/-! LIV of what is kept: it stays while commands go on, and holds when it is saved -/
section LVR
variable {μ : MU} {G G' : Int → Int → Int} {ρ A A' X X' : Mm} {b all : Int}
/-- what state b of two worlds must have in common for going back to it -/
def SLb (b : Int) (X X' : Mm) : Prop := ∀ (k : Nat) (j : Int), 200 ≤ k → k ≤ 210 → b * st0 k ≤ j → j < (b + 1) * st0 k → X' k 0 j = X k 0 j
theorem st0_v : st0 200 = 400 ∧ st0 201 = 1 ∧ st0 202 = 6 ∧ st0 203 = 6 ∧ st0 204 = 5 ∧ st0 205 = 20 ∧ st0 206 = 400 := by decide
theorem rest_EQb (hr : 1 ≤ b ∧ b ≤ 3) (hb : SB b X) (h211 : ∀ r, X' 211 0 r = X 211 0 r) (e : SLb b X X') : EQv (fun r => all = 1 ∨ X 211 0 r = 1) 0 0 (m_rest μ b all X) (m_rest μ b all X') := by
  obtain ⟨t200, t201, t202, t203, t204, t205, t206⟩ := st0_v
  have e0 : ∀ {j : Int}, 400 * b ≤ j → j < 400 * b + 400 → X' 200 0 j = X 200 0 j := fun x y => e 200 _ (by decide) (by decide) (by rw [t200]; omega) (by rw [t200]; omega)
  have e1 : X' 201 0 b = X 201 0 b := e 201 _ (by decide) (by decide) (by rw [t201]; omega) (by rw [t201]; omega)
  have e2 : ∀ {j : Int}, 6 * b ≤ j → j < 6 * b + 6 → X' 202 0 j = X 202 0 j := fun x y => e 202 _ (by decide) (by decide) (by rw [t202]; omega) (by rw [t202]; omega)
  have e3 : ∀ {j : Int}, 6 * b ≤ j → j < 6 * b + 6 → X' 203 0 j = X 203 0 j := fun x y => e 203 _ (by decide) (by decide) (by rw [t203]; omega) (by rw [t203]; omega)
  have e4 : ∀ {j : Int}, 5 * b ≤ j → j < 5 * b + 5 → X' 204 0 j = X 204 0 j := fun x y => e 204 _ (by decide) (by decide) (by rw [t204]; omega) (by rw [t204]; omega)
  have e5 : ∀ {j : Int}, 20 * b ≤ j → j < 20 * b + 20 → X' 205 0 j = X 205 0 j := fun x y => e 205 _ (by decide) (by decide) (by rw [t205]; omega) (by rw [t205]; omega)
  have e6 : ∀ {j : Int}, 400 * b ≤ j → j < 400 * b + 400 → X' 206 0 j = X 206 0 j := fun x y => e 206 _ (by decide) (by decide) (by rw [t206]; omega) (by rw [t206]; omega)
  obtain ⟨h1, -, -, h4, h5, -⟩ := hb
  have h1 : 0 ≤ X 201 0 b ∧ X 201 0 b ≤ 400 := h1
  refine ⟨?_, fun j j0 j1 => ?_, fun j j0 j1 => ?_, fun r r0 r1 hT => ?_⟩
  · rw [rest_cpy _ _ (by decide) (by decide), rest_cpy _ _ (by decide) (by decide), cpy_201, cpy_201, if_pos rfl, if_pos rfl, e1]
  · rw [rest_cpy _ _ (by decide) (by decide), cpy_201, if_pos rfl] at j1
    rw [rest_cpy _ _ (by decide) (by decide), rest_cpy _ _ (by decide) (by decide), cpy_200, cpy_200, e1, if_pos (by omega), if_pos (by omega), e0 (by omega) (by omega)]
  · have q : ∀ Y : Mm, m_rest μ b all Y 202 0 (6 * 0 + j) = Y 202 0 (6 * b + j) ∧ m_rest μ b all Y 203 0 (6 * 0 + j) = Y 203 0 (6 * b + j) := fun Y => by
      rw [rest_cpy _ _ (by decide) (by decide), rest_cpy _ _ (by decide) (by decide), cpy_202, cpy_203, if_pos (by omega), if_pos (by omega)]
      constructor <;> (congr 1; omega)
    rw [(q X).1, (q X').1, (q X).2, (q X').2, e2 (by omega) (by omega), e3 (by omega) (by omega)]
    exact ⟨rfl, fun _ => rfl⟩
  · have hT : all = 1 ∨ X 211 0 r = 1 := hT
    have q4 : ∀ Y : Mm, Y 211 0 r = X 211 0 r → m_rest μ b all Y 204 0 (5 * 0 + r) = Y 204 0 (5 * b + r) := fun Y hY => by
      rw [rest_cpy _ _ (by decide) (by decide), cpy_204, if_pos ⟨by omega, by omega, decide_eq_true (by rw [show 5 * 0 + r - 5 * 0 = r by omega, hY]; exact hT)⟩]; congr 1; omega
    have c4 := h4 (5 * b + r) (by omega) (by omega)
    rw [q4 X rfl, q4 X' (h211 r), e4 (by omega) (by omega)]
    refine ⟨rfl, fun x x0 x1 => ?_⟩
    have x4 : x ≤ 3 := by omega
    have q5 : ∀ Y : Mm, Y 211 0 r = X 211 0 r → m_rest μ b all Y 205 0 (20 * 0 + 4 * r + x) = Y 205 0 (20 * b + 4 * r + x) := fun Y hY => by
      rw [rest_cpy _ _ (by decide) (by decide), cpy_205, if_pos ⟨by omega, by omega, decide_eq_true (by rw [show (20 * 0 + 4 * r + x - 20 * 0) / 4 = r by omega, hY]; exact hT)⟩]; congr 1; omega
    have c5 := h5 (20 * b + 4 * r + x) (by omega) (by omega)
    rw [q5 X rfl, q5 X' (h211 r), e5 (by omega) (by omega)]
    refine ⟨rfl, fun j j0 j1 => ?_⟩
    have q6 : ∀ Y : Mm, Y 211 0 r = X 211 0 r → m_rest μ b all Y 206 0 (400 * 0 + 80 * r + 20 * x + j) = Y 206 0 (400 * b + 80 * r + 20 * x + j) := fun Y hY => by
      rw [rest_cpy _ _ (by decide) (by decide), cpy_206, if_pos ⟨by omega, by omega, decide_eq_true (by rw [show (400 * 0 + 80 * r + 20 * x + j - 400 * 0) / 80 = r by omega, hY]; exact hT)⟩]; congr 1; omega
    rw [q6 X rfl, q6 X' (h211 r), e6 (by omega) (by omega)]
theorem LIV.keepR (h : LIV μ G ρ (m_rest μ b all A)) (hr : 1 ≤ b ∧ b ≤ 3) (hS : SB b A) (eS : SLb b A A') (e214 : A' 214 0 b = A 214 0 b) (e215 : A' 215 0 b = A 215 0 b) (e122 : A' 122 μ.1 0 = A 122 μ.1 0) (e123 : A' 123 μ.1 0 = A 123 μ.1 0) (h212 : ∀ j, 0 ≤ j → j < A 214 0 b → A' 212 0 j = A 212 0 j) (hp : PAg (A 215 0 b) A A') (hb : bB A') (h6 : bPb A') (h211 : ∀ r, A' 211 0 r = A 211 0 r) (hG : ∀ k, 0 ≤ k → k < A 214 0 b → G' k = G k) : LIV μ G' ρ (m_rest μ b all A') := by
  have r0 : ∀ {Y : Mm} {c : Nat} {x i : Int}, (c < 200 ∧ c ≠ 120 ∧ c ≠ 121) ∨ 210 < c → m_rest μ b all Y c x i = Y c x i := fun z => rest_at z
  have q1 : m_rest μ b all A 120 μ.1 0 = A 214 0 b := rest_120.1
  have q2 : m_rest μ b all A 121 μ.1 0 = A 215 0 b := rest_120.2
  have q3 : m_rest μ b all A' 120 μ.1 0 = A' 214 0 b := rest_120.1
  have q4 : m_rest μ b all A' 121 μ.1 0 = A' 215 0 b := rest_120.2
  have k : LIV μ G ρ (m_rest μ b all A') := h.keep (by rw [q1, q3, e214]) (by rw [q2, q4, e215]) (by rw [r0 (by omega), r0 (by omega), e122]) (by rw [r0 (by omega), r0 (by omega), e123]) (fun j j0 j1 => by
      rw [q1] at j1
      rw [r0 (by omega), r0 (by omega)]; exact h212 j j0 j1) (fun j j0 j1 => by
      rw [q2] at j1
      rw [pby_cong (w := A') (r0 (by omega)), pby_cong (w := A) (r0 (by omega))]; exact hp j j0 j1) (fun i a b => by rw [r0 (by omega)]; exact hb i a b) (h6.cong fun i => r0 (by omega)) (fun r => by rw [r0 (by omega), r0 (by omega), h211])
      ((rest_EQb hr hS h211 eS).mono fun r _ _ t => by
        have t : m_rest μ b all A 211 0 r = 1 := t
        rw [r0 (by omega)] at t; exact Or.inr t)
  exact k.gc fun j j0 j1 => hG j j0 (by rw [q3, e214] at j1; exact j1)
theorem LIV.savR (h : LIV μ G ρ A) (hr : 1 ≤ b ∧ b ≤ 3) (hS : SB 0 A) : LIV μ G ρ (m_rest μ b all (m_saves μ b A)) := by
  have r0 : ∀ {c : Nat} {x i : Int}, (c < 200 ∧ c ≠ 120 ∧ c ≠ 121) ∨ (210 < c ∧ c ≠ 214 ∧ c ≠ 215) → m_rest μ b all (m_saves μ b A) c x i = A c x i := fun z => by rw [rest_at (by omega), saves_at (by omega)]
  have q1 : m_rest μ b all (m_saves μ b A) 120 μ.1 0 = A 120 μ.1 0 := rest_120.1.trans saves_214.1
  have q2 : m_rest μ b all (m_saves μ b A) 121 μ.1 0 = A 121 μ.1 0 := rest_120.2.trans saves_214.2
  obtain ⟨h1, -, -, h4, h5, -⟩ := hS
  have h1 : 0 ≤ A 201 0 0 ∧ A 201 0 0 ≤ 400 := h1
  have h0 := h.b0
  refine h.keep q1 q2 (r0 (by omega)) (r0 (by omega)) (fun j _ _ => r0 (by omega)) (fun j _ _ => pby_cong (r0 (by omega))) (fun i x y => by rw [r0 (by omega)]; exact h.1.2.1 i x y) (h0.2.2.1.cong fun i => r0 (by omega)) (fun r => r0 (by omega)) ⟨?_, fun j j0 j1 => ?_, fun j j0 j1 => ?_, fun r r0' r1 hT => ?_⟩
  · rw [rest_cpy _ _ (by decide) (by decide), cpy_201, if_pos rfl, saves_201, if_pos rfl]
  · rw [rest_cpy _ _ (by decide) (by decide), cpy_200, saves_201, if_pos rfl, if_pos (by omega), saves_cpy _ _ (by decide) (by decide), cpy_200, if_pos (by omega)]; congr 1; omega
  · rw [rest_cpy _ _ (by decide) (by decide), rest_cpy _ _ (by decide) (by decide), cpy_202, cpy_203, if_pos (by omega), if_pos (by omega), saves_cpy _ _ (by decide) (by decide), saves_cpy _ _ (by decide) (by decide), cpy_202, cpy_203, if_pos (by omega), if_pos (by omega), show 6 * 0 + j - 6 * 0 + 6 * b - 6 * b + 6 * 0 = 6 * 0 + j by omega]
    exact ⟨rfl, fun _ => rfl⟩
  · have hT : A 211 0 r = 1 := hT
    have e211 : m_saves μ b A 211 0 r = 1 := (saves_at (by omega)).trans hT
    have c4 := h4 (5 * 0 + r) (by omega) (by omega)
    have q4 : m_rest μ b all (m_saves μ b A) 204 0 (5 * 0 + r) = A 204 0 (5 * 0 + r) := by
      rw [rest_cpy _ _ (by decide) (by decide), cpy_204, if_pos ⟨by omega, by omega, decide_eq_true (by rw [show 5 * 0 + r - 5 * 0 = r by omega]; exact Or.inr e211)⟩, saves_cpy _ _ (by decide) (by decide), cpy_204, if_pos ⟨by omega, by omega, rfl⟩]; congr 1; omega
    refine ⟨q4.symm, fun x x0 x1 => ?_⟩
    have c5 := h5 (20 * 0 + 4 * r + x) (by omega) (by omega)
    have q5 : m_rest μ b all (m_saves μ b A) 205 0 (20 * 0 + 4 * r + x) = A 205 0 (20 * 0 + 4 * r + x) := by
      rw [rest_cpy _ _ (by decide) (by decide), cpy_205, if_pos ⟨by omega, by omega, decide_eq_true (by rw [show (20 * 0 + 4 * r + x - 20 * 0) / 4 = r by omega]; exact Or.inr e211)⟩, saves_cpy _ _ (by decide) (by decide), cpy_205, if_pos ⟨by omega, by omega, rfl⟩]; congr 1; omega
    refine ⟨q5.symm, fun j j0 j1 => ?_⟩
    rw [rest_cpy _ _ (by decide) (by decide), cpy_206, if_pos ⟨by omega, by omega, decide_eq_true (by rw [show (400 * 0 + 80 * r + 20 * x + j - 400 * 0) / 80 = r by omega]; exact Or.inr e211)⟩, saves_cpy _ _ (by decide) (by decide), cpy_206, if_pos ⟨by omega, by omega, rfl⟩]; congr 1; omega
end LVR
