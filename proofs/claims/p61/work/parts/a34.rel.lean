/-! what is kept stays; going back when listeners went too deep -/
/-- the desk q keeps state a, with the steps L -/
def SVd (p : RP) (w A : Mm) (q a : Int) (L : List Int) : Prop := vDk (pc_ p) w q A a ∧ vQp w (w 12 q 0) L
section SVD
variable {p : RP} {S : Int → Nat → Prop} {w w' V A A' A9 X X' : Mm} {μ : MU} {f q d b b0 a all lo i r s : Int} {c σ : Int → Int} {G : Int → Int → Int} {L L1 M : List Int} {g : Int → Int → Int} {N : Int × Mm}
theorem vDk.cgS (h : vDk c w d V a) (ha : 1 ≤ a) (e : ∀ (k : Nat) (j : Int), 200 ≤ k → k ≤ 210 → st0 k ≤ j → A' k 0 j = V k 0 j) : vDk c w d A' a := by
  obtain ⟨⟨⟨h1, h2, h3, h4⟩, hs⟩, h5, h6, h7⟩ := h
  have e' : ∀ {k : Nat} {j : Int}, 200 ≤ k → k ≤ 210 → st0 k ≤ j → A' k 0 j = V k 0 j := fun x y z => e _ _ x y z
  have t0 : st0 200 = 400 ∧ st0 201 = 1 ∧ st0 202 = 6 ∧ st0 203 = 6 ∧ st0 204 = 5 ∧ st0 205 = 20 ∧ st0 206 = 400 ∧ st0 207 = 1 ∧ st0 208 = 4 ∧ st0 209 = 4 ∧ st0 210 = 1 := by decide
  obtain ⟨t200, t201, t202, t203, t204, t205, t206, t207, t208, t209, t210⟩ := t0
  refine ⟨⟨⟨by rw [e' (by decide) (by decide) (by omega)]; exact h1, h2, fun j j0 j1 => by rw [e' (by decide) (by decide) (by omega)]; exact h3 j j0 j1, fun j j0 j1 => by rw [e' (by decide) (by decide) (by omega), e' (by decide) (by decide) (by omega)]; exact h4 j j0 j1⟩, fun r r0 r1 => ?_⟩, by rw [e' (by decide) (by decide) (by omega)]; exact h5, by rw [e' (by decide) (by decide) (by omega)]; exact h6, fun j j0 j1 => by rw [e' (by decide) (by decide) (by omega), e' (by decide) (by decide) (by omega)]; exact h7 j j0 j1⟩
  have hr := hs r r0 r1
  refine ⟨by rw [e' (by decide) (by decide) (by omega)]; exact hr.1, fun x x0 x1 => ?_⟩
  rw [e' (k := 204) (by decide) (by decide) (by omega), e' (k := 205) (by decide) (by decide) (by omega)]
  refine ⟨fun y => ?_, (hr.2 x x0 x1).2⟩
  obtain ⟨c1, c2, c3, c4⟩ := (hr.2 x x0 x1).1 y
  refine ⟨c1, c2, c3, fun j j0 j1 => ?_⟩
  show _ = A' 206 0 (400 * a + 80 * r + 20 * x + j)
  rw [e' (by decide) (by decide) (by omega)]; exact c4 j j0 j1
theorem SVd.fr (h : SVd p w A q a L) (hd : sDk (pc_ p) b0 w q) (hb : b0 = 20 ∨ b0 = 30) (ha : 1 ≤ a) (u : UPd (pc_ p) S w w') (hc : CXt w (pc_ p) c) (hS : ∀ (b' : Int) (k : Nat), b0 ≤ b' → b' ≤ b0 + 8 → ¬ S b' k) (h0 : ∀ k : Nat, ¬ S 0 k) (hL : ∀ x ∈ L, pc_ p x ≤ -1) (h68 : ∀ b, b ≤ -1 → ¬ S b 68) (e : ∀ (k : Nat) (j : Int), 200 ≤ k → k ≤ 210 → st0 k ≤ j → A' k 0 j = A k 0 j) : SVd (pU p c σ G) w' A' q a L := by
  have f12 : w' 12 q 0 = w 12 q 0 := u.g (by have := hd.1.1; omega) hd.1.2 (hS _ _ (by omega) (by omega))
  refine ⟨(h.1.fr hd u hc (fun b' k x y _ => hS b' k x y) h0).cgS ha e, ?_⟩
  rw [f12]
  exact h.2.fr u hd.2.2.2.1 (fun k _ => hS _ _ (by omega) (by omega)) (fun x hx => ⟨_, rfl, h68 _ (hL x hx)⟩)
/-- going back leads to the same from worlds that keep the same -/
theorem rest_EQ (hb : SB 2 X) (e : ∀ (k : Nat) (j : Int), 200 ≤ k → k ≤ 210 → st0 k ≤ j → X' k 0 j = X k 0 j) : EQv TA 0 0 (m_rest μ 2 1 X) (m_rest μ 2 1 X') := by
  have e' : ∀ {k : Nat} {j : Int}, 200 ≤ k → k ≤ 210 → st0 k ≤ j → X' k 0 j = X k 0 j := fun x y z => e _ _ x y z
  have t0 : st0 200 = 400 ∧ st0 201 = 1 ∧ st0 202 = 6 ∧ st0 203 = 6 ∧ st0 204 = 5 ∧ st0 205 = 20 ∧ st0 206 = 400 := by decide
  obtain ⟨t200, t201, t202, t203, t204, t205, t206⟩ := t0
  obtain ⟨h1, -, -, h4, h5, -⟩ := hb
  refine ⟨?_, fun j j0 j1 => ?_, fun j j0 j1 => ?_, fun r r0 r1 _ => ?_⟩
  · rw [rest_cpy _ _ (by decide) (by decide), rest_cpy _ _ (by decide) (by decide), cpy_201, cpy_201, if_pos rfl, if_pos rfl, e' (by decide) (by decide) (by omega)]
  · rw [rest_cpy _ _ (by decide) (by decide), cpy_201, if_pos rfl] at j1
    rw [rest_cpy _ _ (by decide) (by decide), rest_cpy _ _ (by decide) (by decide), cpy_200, cpy_200, e' (k := 201) (by decide) (by decide) (by omega), if_pos (by omega), if_pos (by omega), e' (by decide) (by decide) (by omega)]
  · have q : ∀ Y : Mm, m_rest μ 2 1 Y 202 0 (6 * 0 + j) = Y 202 0 (12 + j) ∧ m_rest μ 2 1 Y 203 0 (6 * 0 + j) = Y 203 0 (12 + j) := fun Y => by
      rw [rest_cpy _ _ (by decide) (by decide), rest_cpy _ _ (by decide) (by decide), cpy_202, cpy_203, if_pos (by omega), if_pos (by omega)]
      constructor <;> (congr 1; omega)
    rw [(q X).1, (q X').1, (q X).2, (q X').2, e' (k := 202) (by decide) (by decide) (by omega), e' (k := 203) (by decide) (by decide) (by omega)]
    exact ⟨rfl, fun _ => rfl⟩
  · have qT : decide ((1 : Int) = 1 ∨ X 211 0 r = 1) = true := decide_eq_true (Or.inl rfl)
    have q4 : ∀ Y : Mm, m_rest μ 2 1 Y 204 0 (5 * 0 + r) = Y 204 0 (10 + r) := fun Y => by
      rw [rest_cpy _ _ (by decide) (by decide), cpy_204, if_pos ⟨by omega, by omega, decide_eq_true (Or.inl rfl)⟩]; congr 1; omega
    have c4 := h4 (10 + r) (by omega) (by omega)
    rw [q4, q4, e' (k := 204) (by decide) (by decide) (by omega)]
    refine ⟨rfl, fun x x0 x1 => ?_⟩
    have x4 : x ≤ 3 := by omega
    have q5 : ∀ Y : Mm, m_rest μ 2 1 Y 205 0 (20 * 0 + 4 * r + x) = Y 205 0 (40 + 4 * r + x) := fun Y => by
      rw [rest_cpy _ _ (by decide) (by decide), cpy_205, if_pos ⟨by omega, by omega, decide_eq_true (Or.inl rfl)⟩]; congr 1; omega
    have c5 := h5 (40 + 4 * r + x) (by omega) (by omega)
    rw [q5, q5, e' (k := 205) (by decide) (by decide) (by omega)]
    refine ⟨rfl, fun j j0 j1 => ?_⟩
    have q6 : ∀ Y : Mm, m_rest μ 2 1 Y 206 0 (400 * 0 + 80 * r + 20 * x + j) = Y 206 0 (800 + 80 * r + 20 * x + j) := fun Y => by
      rw [rest_cpy _ _ (by decide) (by decide), cpy_206, if_pos ⟨by omega, by omega, decide_eq_true (Or.inl rfl)⟩]; congr 1; omega
    rw [q6, q6, e' (k := 206) (by decide) (by decide) (by omega)]
/-- the relation after going back, from the reference's own world -/
theorem RLm.cR (h : RLm p μ f L w (m_rest μ 2 1 X)) (hl : 0 ≤ X 122 μ.1 0 ∧ X 122 μ.1 0 ≤ X 214 0 2) (hb : SB 2 X) (e : ∀ (k : Nat) (j : Int), 200 ≤ k → k ≤ 210 → st0 k ≤ j → X' k 0 j = X k 0 j) (e2 : ∀ (k : Nat) (x j : Int), (k < 200 ∧ k ≠ 120 ∧ k ≠ 121) ∨ (210 < k ∧ k ≠ 212 ∧ k ≠ 234) → X' k x j = X k x j) (h4 : ∀ k, 0 ≤ k → k < X 214 0 2 → X' 212 0 k = X 212 0 k) : RLm p μ f L w (m_rest μ 2 1 X') := by
  have e' : ∀ {k : Nat} {j : Int}, 200 ≤ k → k ≤ 210 → st0 k ≤ j → X' k 0 j = X k 0 j := fun x y z => e _ _ x y z
  have t0 : st0 207 = 1 ∧ st0 208 = 4 ∧ st0 209 = 4 ∧ st0 210 = 1 := by decide
  obtain ⟨t207, t208, t209, t210⟩ := t0
  have e1 : ∀ {k : Nat} {x j : Int}, (k < 200 ∧ k ≠ 120 ∧ k ≠ 121) ∨ (210 < k ∧ k ≠ 212 ∧ k ≠ 234) → m_rest μ 2 1 X' k x j = m_rest μ 2 1 X k x j := fun z => by
    rw [rest_at (by omega), rest_at (by omega)]; exact e2 _ _ _ z
  have r120 : m_rest μ 2 1 X 120 μ.1 0 = X 214 0 2 := rest_120.1
  have r120' : m_rest μ 2 1 X' 120 μ.1 0 = X' 214 0 2 := rest_120.1
  refine h.cE (by rw [rest_at (by omega), r120]; exact hl) (AgO.of fun c x i z => e1 (by omega)) (fun i => e1 (by omega)) (by rw [r120, r120']; exact e2 _ _ _ (by omega)) (fun k k0 k1 => ?_) (rest_EQ hb e) ?_ ?_ (fun j j0 j1 => ?_)
  · rw [rest_at (by omega), rest_at (by omega)]; exact h4 k k0 (by omega)
  · rw [rest_cpy _ _ (by decide) (by decide), rest_cpy _ _ (by decide) (by decide), cpy_207, cpy_207, if_pos rfl, if_pos rfl, e' (by decide) (by decide) (by omega)]
  · rw [rest_cpy _ _ (by decide) (by decide), rest_cpy _ _ (by decide) (by decide), cpy_210, cpy_210, if_pos rfl, if_pos rfl, e' (by decide) (by decide) (by omega)]
  · rw [rest_cpy _ _ (by decide) (by decide), rest_cpy _ _ (by decide) (by decide), rest_cpy _ _ (by decide) (by decide), rest_cpy _ _ (by decide) (by decide), cpy_208, cpy_208, cpy_209, cpy_209, if_pos (by omega), if_pos (by omega), if_pos (by omega), if_pos (by omega), e' (k := 208) (by decide) (by decide) (by omega), e' (k := 209) (by decide) (by decide) (by omega)]
    exact ⟨rfl, rfl⟩
end SVD
