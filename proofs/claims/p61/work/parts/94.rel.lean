/-! THE CLASS FITS THE REFERENCE: codes of owners, what changes, states, desks, chains, steps -/
/-- what w' changes of w: of what was there the components k of owners with code b for which S b k, of the reference nothing -/
def UPd (c : Int → Int) (S : Int → Nat → Prop) (w w' : Mm) : Prop :=
  (∀ (k : Nat) (a i : Int), w 0 a 0 ≠ 0 → ¬ S (c a) k → w' k a i = w k a i) ∧
  (∀ (k : Nat) (a i : Int), w 0 a 0 ≠ 0 → (k = 0 ∨ k = 2 ∨ 120 ≤ k) → w' k a i = w k a i) ∧
  (∀ (k : Nat) (i : Int), 120 ≤ k → w' k 0 i = w k 0 i)
/-- codes stay -/
def CXt (w : Mm) (c c' : Int → Int) : Prop := ∀ a, w 0 a 0 ≠ 0 → c' a = c a
section UPS
variable {c c' : Int → Int} {S S' : Int → Nat → Prop} {w w' w1 w2 : Mm}
theorem CXt.refl : CXt w c c := fun _ _ => rfl
theorem UPd.refl : UPd c S w w := ⟨fun _ _ _ _ _ => rfl, fun _ _ _ _ _ => rfl, fun _ _ _ => rfl⟩
theorem UPd.t (u : UPd c S w w') {k : Nat} {a i : Int} (ha : w 0 a 0 ≠ 0) (hk : k = 0 ∨ k = 2 ∨ 120 ≤ k) : w' k a i = w k a i := u.2.1 k a i ha hk
theorem UPd.g (u : UPd c S w w') {k : Nat} {a i b : Int} (ha : w 0 a 0 ≠ 0) (hb : c a = b) (hs : ¬ S b k) : w' k a i = w k a i := u.1 k a i ha (by rw [hb]; exact hs)
theorem UPd.tag (u : UPd c S w w') {a t : Int} (ha : w 0 a 0 = t) (h0 : t ≠ 0) : w' 0 a 0 = t := by rw [u.2.1 0 a 0 (by omega) (Or.inl rfl)]; exact ha
theorem UPd.mono (u : UPd c S w w') (h : ∀ b k, S b k → S' b k) : UPd c S' w w' := ⟨fun k a i h0 hs => u.1 k a i h0 (fun x => hs (h _ _ x)), u.2.1, u.2.2⟩
theorem UPd.trans (u : UPd c S w w1) (hc : CXt w c c') (u2 : UPd c' S w1 w2) : UPd c S w w2 := by
  have ht : ∀ a, w 0 a 0 ≠ 0 → w1 0 a 0 ≠ 0 := fun a h => by rw [u.2.1 0 a 0 h (Or.inl rfl)]; exact h
  refine ⟨fun k a i h0 hs => ?_, fun k a i h0 hk => ?_, fun k i hk => ?_⟩
  · rw [u2.1 k a i (ht a h0) (by rw [hc a h0]; exact hs), u.1 k a i h0 hs]
  · rw [u2.2.1 k a i (ht a h0) hk, u.2.1 k a i h0 hk]
  · rw [u2.2.2 k i hk, u.2.2 k i hk]
theorem CXt.trans {c2 : Int → Int} (h : CXt w c c') (u : UPd c S w w1) (h2 : CXt w1 c' c2) : CXt w c c2 := fun a h0 => by rw [h2 a (by rw [u.2.1 0 a 0 h0 (Or.inl rfl)]; exact h0), h a h0]
theorem UPd.sU (u : UPd c S w w1) {k : Nat} {a i v : Int} (hk : k ≠ 0 ∧ k ≠ 2 ∧ k < 120) (ha : w 0 a 0 = 0 ∨ S (c a) k) : UPd c S w (up w1 k a i v) := by
  refine ⟨fun k' a' i' h0 hs => ?_, fun k' a' i' h0 hk' => ?_, fun k' i' hk' => ?_⟩
  · rw [← u.1 k' a' i' h0 hs]
    by_cases e : k' = k
    · by_cases e2 : a' = a
      · subst e e2; exact absurd (ha.resolve_left h0) hs
      · exact up_a _ _ _ e2 _ _ _
    · exact up_k _ e _ _ _ _ _
  · rw [up_k _ (by omega), u.2.1 k' a' i' h0 hk']
  · rw [up_k _ (by omega), u.2.2 k' i' hk']
theorem UPd.sF (u : UPd c S w w1) {k : Nat} {b lo n : Int} {g : Int → Int} (hk : k ≠ 0 ∧ k ≠ 2 ∧ k < 120) (ha : w 0 b 0 = 0 ∨ S (c b) k) : UPd c S w (flA w1 k b lo n g) := by
  refine ⟨fun k' a' i' h0 hs => ?_, fun k' a' i' h0 hk' => ?_, fun k' i' hk' => ?_⟩
  · rw [← u.1 k' a' i' h0 hs]
    by_cases e : k' = k
    · by_cases e2 : a' = b
      · subst e e2; exact absurd (ha.resolve_left h0) hs
      · exact flA_a e2
    · exact flA_k e
  · rw [flA_k (by omega), u.2.1 k' a' i' h0 hk']
  · rw [flA_k (by omega), u.2.2 k' i' hk']
theorem UPd.sO (u : UPd c S w w1) {q t : Int} (hq : 0 < q) (h0 : w 0 q 0 = 0) : UPd c S w (newO w1 q t) := by
  refine ⟨fun k' a' i' h hs => ?_, fun k' a' i' h hk' => ?_, fun k' i' hk' => ?_⟩
  · rw [newO_o (fun e => h (by rw [e]; exact h0)), u.1 k' a' i' h hs]
  · rw [newO_o (fun e => h (by rw [e]; exact h0)), u.2.1 k' a' i' h hk']
  · rw [newO_o (by omega), u.2.2 k' i' hk']
theorem UPd.sA (u : UPd c S w w1) {q t n : Int} (hq : 0 < q) (h0 : w 0 q 0 = 0) : UPd c S w (newA w1 q t n) := by
  refine ⟨fun k' a' i' h hs => ?_, fun k' a' i' h hk' => ?_, fun k' i' hk' => ?_⟩
  · rw [newA_o (fun e => h (by rw [e]; exact h0)), u.1 k' a' i' h hs]
  · rw [newA_o (fun e => h (by rw [e]; exact h0)), u.2.1 k' a' i' h hk']
  · rw [newA_o (by omega), u.2.2 k' i' hk']
end UPS
/-- the objects of a state, b the first of their codes -/
def sSt (c : Int → Int) (b : Int) (w : Mm) (s : Int) : Prop :=
  (w 0 s 0 = 6 ∧ c s = b) ∧ (w 0 (w 28 s 0) 0 = 20 ∧ c (w 28 s 0) = b + 1) ∧ (w 0 (w 29 s 0) 0 = 20 ∧ w 2 (w 29 s 0) 0 = 6 ∧ c (w 29 s 0) = b + 2) ∧ (w 0 (w 30 s 0) 0 = 21 ∧ w 2 (w 30 s 0) 0 = 6 ∧ c (w 30 s 0) = b + 3) ∧ (w 0 (w 31 s 0) 0 = 23 ∧ w 2 (w 31 s 0) 0 = 8 ∧ c (w 31 s 0) = b + 4)
/-- text and marks are those of state i of V -/
def vTx (w : Mm) (s : Int) (V : Mm) (i : Int) : Prop :=
  w 67 s 0 = V 201 0 i ∧ (0 ≤ w 67 s 0 ∧ w 67 s 0 ≤ w 2 (w 28 s 0) 0 ∧ w 2 (w 28 s 0) 0 ≤ 400) ∧ (∀ j, 0 ≤ j → j < w 67 s 0 → w 1 (w 28 s 0) j = V 200 0 (400 * i + j)) ∧
  ∀ j, 0 ≤ j → j < 6 → w 1 (w 29 s 0) j = V 202 0 (6 * i + j) ∧ (w 1 (w 29 s 0) j ≠ -1 → w 1 (w 30 s 0) j = V 203 0 (6 * i + j)) ∧ (w 1 (w 30 s 0) j = 0 ∨ w 1 (w 30 s 0) j = 1)
/-- characters that never change: n of them, f -/
def vCh (c : Int → Int) (w : Mm) (g n : Int) (f : Int → Int) : Prop :=
  (w 0 g 0 = 1 ∧ c g = 0) ∧ (w 0 (w 10 g 0) 0 = 20 ∧ c (w 10 g 0) = 0) ∧ w 2 (w 10 g 0) 0 = n ∧ ∀ j, 0 ≤ j → j < n → w 1 (w 10 g 0) j = f j
/-- store r is that of state i of V -/
def vSr (c : Int → Int) (w : Mm) (s : Int) (V : Mm) (i r : Int) : Prop :=
  (0 ≤ V 204 0 (5 * i + r) ∧ V 204 0 (5 * i + r) ≤ m_slt r) ∧ ∀ e, 0 ≤ e → e < m_slt r →
    (e < V 204 0 (5 * i + r) → vCh c w (w 3 (w 31 s 0) (r + e)) (V 205 0 (20 * i + 4 * r + e)) (fun j => V 206 0 (400 * i + 80 * r + 20 * e + j))) ∧ (V 204 0 (5 * i + r) ≤ e → w 3 (w 31 s 0) (r + e) = 0)
def vSt (c : Int → Int) (w : Mm) (s : Int) (V : Mm) (i : Int) : Prop := vTx w s V i ∧ ∀ r, 0 ≤ r → r < 5 → vSr c w s V i r
section FRS
variable {c c' : Int → Int} {S : Int → Nat → Prop} {w w' V V' : Mm} {s b i i' r : Int}
theorem sSt.fr (h : sSt c b w s) (u : UPd c S w w') (hc : CXt w c c') (hs : ∀ k : Nat, 28 ≤ k → k ≤ 31 → ¬ S b k) :
    sSt c' b w' s ∧ (w' 28 s 0 = w 28 s 0 ∧ w' 29 s 0 = w 29 s 0 ∧ w' 30 s 0 = w 30 s 0 ∧ w' 31 s 0 = w 31 s 0) := by
  obtain ⟨⟨a1, a2⟩, ⟨b1, b2⟩, ⟨c1, c2, c3⟩, ⟨d1, d2, d3⟩, e1, e2, e3⟩ := h
  have h0 : w 0 s 0 ≠ 0 := by omega
  have z1 : w 0 (w 28 s 0) 0 ≠ 0 := by omega
  have z2 : w 0 (w 29 s 0) 0 ≠ 0 := by omega
  have z3 : w 0 (w 30 s 0) 0 ≠ 0 := by omega
  have z4 : w 0 (w 31 s 0) 0 ≠ 0 := by omega
  have f1 : w' 28 s 0 = w 28 s 0 := u.g h0 a2 (hs 28 (by decide) (by decide))
  have f2 : w' 29 s 0 = w 29 s 0 := u.g h0 a2 (hs 29 (by decide) (by decide))
  have f3 : w' 30 s 0 = w 30 s 0 := u.g h0 a2 (hs 30 (by decide) (by decide))
  have f4 : w' 31 s 0 = w 31 s 0 := u.g h0 a2 (hs 31 (by decide) (by decide))
  refine ⟨⟨⟨u.tag a1 (by decide), (hc s h0).trans a2⟩, ?_, ?_, ?_, ?_⟩, f1, f2, f3, f4⟩
  · rw [f1]; exact ⟨u.tag b1 (by decide), (hc _ z1).trans b2⟩
  · rw [f2]; exact ⟨u.tag c1 (by decide), (u.t z2 (by decide)).trans c2, (hc _ z2).trans c3⟩
  · rw [f3]; exact ⟨u.tag d1 (by decide), (u.t z3 (by decide)).trans d2, (hc _ z3).trans d3⟩
  · rw [f4]; exact ⟨u.tag e1 (by decide), (u.t z4 (by decide)).trans e2, (hc _ z4).trans e3⟩
theorem vTx.fr (h : vTx w s V i) (g : sSt c b w s) (u : UPd c S w w') (hs : ∀ (b' : Int) (k : Nat), b ≤ b' → b' ≤ b + 4 → ¬ S b' k) : vTx w' s V i := by
  obtain ⟨-, f1, f2, f3, f4⟩ := g.fr u (CXt.refl) (fun k _ _ => hs b k (by omega) (by omega))
  obtain ⟨⟨a1, a2⟩, ⟨b1, b2⟩, ⟨c1, c2, c3⟩, ⟨d1, d2, d3⟩, e1, e2, e3⟩ := g
  obtain ⟨h1, h2, h3, h4⟩ := h
  have q67 : w' 67 s 0 = w 67 s 0 := u.g (by omega) a2 (hs b 67 (by omega) (by omega))
  have q2 : w' 2 (w 28 s 0) 0 = w 2 (w 28 s 0) 0 := u.t (by omega) (by decide)
  refine ⟨by rw [q67]; exact h1, by rw [f1, q67, q2]; exact h2, fun j j0 j1 => ?_, fun j j0 j1 => ?_⟩
  · rw [q67] at j1; rw [f1, u.g (by omega) b2 (hs _ 1 (by omega) (by omega))]; exact h3 j j0 j1
  · rw [f2, f3, u.g (by omega) c3 (hs _ 1 (by omega) (by omega)), u.g (by omega) d3 (hs _ 1 (by omega) (by omega))]; exact h4 j j0 j1
theorem vCh.fr {g n : Int} {f : Int → Int} (h : vCh c w g n f) (u : UPd c S w w') (hc : CXt w c c') (hs : ∀ k : Nat, ¬ S 0 k) : vCh c' w' g n f := by
  obtain ⟨⟨a1, a2⟩, ⟨b1, b2⟩, h3, h4⟩ := h
  have f1 : w' 10 g 0 = w 10 g 0 := u.g (by omega) a2 (hs 10)
  refine ⟨⟨u.tag a1 (by decide), (hc g (by omega)).trans a2⟩, ?_, ?_, fun j j0 j1 => ?_⟩
  · rw [f1]; exact ⟨u.tag b1 (by decide), (hc _ (by omega)).trans b2⟩
  · rw [f1, u.t (by omega) (by decide)]; exact h3
  · rw [f1, u.g (by omega) b2 (hs 1)]; exact h4 j j0 j1
theorem vSr.fr (h : vSr c w s V i r) (g : sSt c b w s) (u : UPd c S w w') (hc : CXt w c c') (hs : ∀ (b' : Int) (k : Nat), b ≤ b' → b' ≤ b + 4 → ¬ S b' k) (h0 : ∀ k : Nat, ¬ S 0 k) : vSr c' w' s V i r := by
  obtain ⟨-, f1, f2, f3, f4⟩ := g.fr u (CXt.refl) (fun k _ _ => hs b k (by omega) (by omega))
  obtain ⟨⟨a1, a2⟩, ⟨b1, b2⟩, ⟨c1, c2, c3⟩, ⟨d1, d2, d3⟩, e1, e2, e3⟩ := g
  refine ⟨h.1, fun e x0 x1 => ?_⟩
  have q3 : w' 3 (w' 31 s 0) (r + e) = w 3 (w 31 s 0) (r + e) := by rw [f4]; exact u.g (by omega) e3 (hs _ 3 (by omega) (by omega))
  rw [q3]
  exact ⟨fun y => ((h.2 e x0 x1).1 y).fr u hc h0, (h.2 e x0 x1).2⟩
theorem vSt.fr (h : vSt c w s V i) (g : sSt c b w s) (u : UPd c S w w') (hc : CXt w c c') (hs : ∀ (b' : Int) (k : Nat), b ≤ b' → b' ≤ b + 4 → ¬ S b' k) (h0 : ∀ k : Nat, ¬ S 0 k) : vSt c' w' s V i :=
  ⟨h.1.fr g u hs, fun r x0 x1 => (h.2 r x0 x1).fr g u hc hs h0⟩
theorem vTx.eq {T : Int → Prop} (h : vTx w s V i) (e : EQv T i i' V V') : vTx w s V' i' := by
  obtain ⟨h1, h2, h3, h4⟩ := h
  obtain ⟨e1, e2, e3, -⟩ := e
  refine ⟨by omega, h2, fun j j0 j1 => (h3 j j0 j1).trans (e2 j j0 (by omega)), fun j j0 j1 => ⟨(h4 j j0 j1).1.trans (e3 j j0 j1).1, fun hn => ((h4 j j0 j1).2.1 hn).trans ((e3 j j0 j1).2 (by rw [← (h4 j j0 j1).1]; exact hn)), (h4 j j0 j1).2.2⟩⟩
theorem vSr.eq {T : Int → Prop} (h : vSr c w s V i r) (e : EQv T i i' V V') (hr : 0 ≤ r ∧ r < 5) (ht : T r) : vSr c w s V' i' r := by
  obtain ⟨-, -, -, e4⟩ := e
  obtain ⟨k1, k2⟩ := e4 r hr.1 hr.2 ht
  obtain ⟨h1, h2⟩ := h
  refine ⟨by omega, fun e x0 x1 => ⟨fun y => ?_, fun y => (h2 e x0 x1).2 (by omega)⟩⟩
  obtain ⟨c1, c2, c3, c4⟩ := (h2 e x0 x1).1 (by omega)
  obtain ⟨m1, m2⟩ := k2 e x0 (by omega)
  exact ⟨c1, c2, by omega, fun j j0 j1 => (c4 j j0 (by omega)).trans (m2 j j0 (by omega))⟩
theorem vSt.eq (h : vSt c w s V i) (e : EQv TA i i' V V') : vSt c w s V' i' := ⟨h.1.eq e, fun r x0 x1 => (h.2 r x0 x1).eq e ⟨x0, x1⟩ trivial⟩
theorem sSt.toST (h : sSt c b w s) : ST w s := by
  obtain ⟨⟨a1, a2⟩, ⟨b1, b2⟩, ⟨c1, c2, c3⟩, ⟨d1, d2, d3⟩, e1, e2, e3⟩ := h
  exact ⟨a1, ⟨b1, c1, d1, e1⟩, ⟨c2, d2, e2⟩, fun e => by rw [e] at b2; omega⟩
theorem vTx.toSZ (h : vTx w s V i) : SZ w s := ⟨h.2.1.1, h.2.1.2.1, by have := h.2.1.2.2; omega⟩
theorem vTx.toSB (h : vTx w s V i) : SBt w s := fun j j0 j1 => (h.2.2.2 j j0 j1).2.2
theorem vSt.toSE (h : vSt c w s V i) : SE w s := by
  intro j j0 j1
  have hh : ∀ r e, 0 ≤ r → r < 5 → 0 ≤ e → e < m_slt r → w 3 (w 31 s 0) (r + e) = 0 ∨ w 0 (w 3 (w 31 s 0) (r + e)) 0 = 1 := fun r e r0 r1 e0 e1 => by
    by_cases y : e < V 204 0 (5 * i + r)
    · exact Or.inr ((h.2 r r0 r1).2 e e0 e1 |>.1 y).1.1
    · exact Or.inl (((h.2 r r0 r1).2 e e0 e1).2 (by omega))
  by_cases y : j < 4
  · have := hh j 0 j0 (by omega) (by omega) (by unfold m_slt; split <;> omega)
    rwa [Int.add_zero] at this
  · have := hh 4 (j - 4) (by omega) (by omega) (by omega) (by unfold m_slt; split <;> omega)
    rwa [show 4 + (j - 4) = j by omega] at this
end FRS
