/-! a node object comes -/
/-- what a new node is, in a world w2 behind w: the node x, its chain q1, its state q2 with the arrays a1 (places), a2 (rights), a3 (stored), a4 (text) -/
def NWN (w w2 : Mm) (x q1 q2 a1 a2 a3 a4 n p m : Int) : Prop :=
  ((0 < x ∧ w 0 x 0 = 0) ∧ (0 < q1 ∧ w 0 q1 0 = 0) ∧ (0 < q2 ∧ w 0 q2 0 = 0) ∧ (0 < a1 ∧ w 0 a1 0 = 0) ∧ (0 < a2 ∧ w 0 a2 0 = 0) ∧ (0 < a3 ∧ w 0 a3 0 = 0) ∧ (0 < a4 ∧ w 0 a4 0 = 0)) ∧
  ((x ≠ q1 ∧ x ≠ q2 ∧ x ≠ a1 ∧ x ≠ a2 ∧ x ≠ a3 ∧ x ≠ a4) ∧ (q1 ≠ q2 ∧ q1 ≠ a1 ∧ q1 ≠ a2 ∧ q1 ≠ a3 ∧ q1 ≠ a4) ∧ (q2 ≠ a1 ∧ q2 ≠ a2 ∧ q2 ≠ a3 ∧ q2 ≠ a4) ∧ (a1 ≠ a2 ∧ a1 ≠ a3 ∧ a1 ≠ a4) ∧ (a2 ≠ a3 ∧ a2 ≠ a4) ∧ a3 ≠ a4) ∧
  (∀ (k : Nat) (a i : Int), a ≠ x → a ≠ q1 → a ≠ q2 → a ≠ a1 → a ≠ a2 → a ≠ a3 → a ≠ a4 → w2 k a i = w k a i) ∧
  (w2 0 x 0 = 5 ∧ w2 63 x 0 = n ∧ w2 24 x 0 = q2 ∧ w2 25 x 0 = q1 ∧ w2 26 x 0 = p ∧ w2 27 x 0 = 0 ∧ w2 64 x 0 = 0 ∧ w2 65 x 0 = 0 ∧ w2 66 x 0 = 0) ∧
  (w2 0 q1 0 = 8 ∧ w2 34 q1 0 = 0 ∧ w2 35 q1 0 = 0 ∧ w2 71 q1 0 = 0 ∧ w2 72 q1 0 = 0) ∧
  (w2 0 q2 0 = 6 ∧ w2 28 q2 0 = a4 ∧ w2 29 q2 0 = a1 ∧ w2 30 q2 0 = a2 ∧ w2 31 q2 0 = a3 ∧ w2 67 q2 0 = 0) ∧
  ((w2 0 a1 0 = 20 ∧ w2 2 a1 0 = 6 ∧ ∀ i, 0 ≤ i → i < 6 → w2 1 a1 i = -1) ∧ (w2 0 a2 0 = 21 ∧ w2 2 a2 0 = 6 ∧ ∀ i, w2 1 a2 i = 0) ∧ (w2 0 a3 0 = 23 ∧ w2 2 a3 0 = 8 ∧ ∀ i, w2 3 a3 i = 0) ∧ (w2 0 a4 0 = 20 ∧ w2 2 a4 0 = if 0 < m then m else 0))
theorem newO_f {w : Mm} {q t : Int} {k : Nat} (h : 10 ≤ k) : newO w q t k q 0 = 0 := by unfold newO; rw [if_pos ⟨rfl, rfl, Or.inr h⟩, if_neg (by omega)]
theorem newA_1 {w : Mm} {q t n i : Int} {k : Nat} (h : k = 1 ∨ k = 3) : newA w q t n k q i = 0 := by unfold newA; rw [if_pos ⟨rfl, h⟩]
theorem NWN.of {w w1 w2 : Mm} {x q1 q2 a1 a2 a3 a4 n p m : Int} (hx : 0 < x ∧ w 0 x 0 = 0) (e1 : w1 = newO w x 5) (hq : 0 < q1 ∧ 0 < q2 ∧ w1 0 q1 0 = 0 ∧ w1 0 q2 0 = 0 ∧ q1 ≠ q2) (ha : 0 < a1 ∧ 0 < a2 ∧ 0 < a3 ∧ 0 < a4)
    (hf : (newO (up (up (up (newO w1 q1 8) 25 x 0 q1) 63 x 0 n) 26 x 0 p) q2 6) 0 a1 0 = 0 ∧ (newO (up (up (up (newO w1 q1 8) 25 x 0 q1) 63 x 0 n) 26 x 0 p) q2 6) 0 a2 0 = 0 ∧ (newO (up (up (up (newO w1 q1 8) 25 x 0 q1) 63 x 0 n) 26 x 0 p) q2 6) 0 a3 0 = 0 ∧ (newO (up (up (up (newO w1 q1 8) 25 x 0 q1) 63 x 0 n) 26 x 0 p) q2 6) 0 a4 0 = 0)
    (hn : a1 ≠ a2 ∧ a1 ≠ a3 ∧ a1 ≠ a4 ∧ a2 ≠ a3 ∧ a2 ≠ a4 ∧ a3 ≠ a4) (hw : w2 = up (flA (t_new q2 a1 a2 a3 a4 (if 0 < m then m else 0) (newO (up (up (up (newO w1 q1 8) 25 x 0 q1) 63 x 0 n) 26 x 0 p) q2 6)) 1 a1 0 6 (fun _ => -1)) 24 x 0 q2) : NWN w w2 x q1 q2 a1 a2 a3 a4 n p m := by
  obtain ⟨g1, g2, g3, g4, g5⟩ := hq
  obtain ⟨h1, h2, h3, h4⟩ := ha
  obtain ⟨f1, f2, f3, f4⟩ := hf
  obtain ⟨n1, n2, n3, n4, n5, n6⟩ := hn
  have x1 : x ≠ q1 := fun e => by rw [e1, ← e, newO_t] at g3; omega
  have x2 : x ≠ q2 := fun e => by rw [e1, ← e, newO_t] at g4; omega
  have w1f : ∀ a, a ≠ x → w1 0 a 0 = w 0 a 0 := fun a ha => by rw [e1, newO_o ha]
  obtain ⟨W0, hW0⟩ : ∃ W0, W0 = newO (up (up (up (newO w1 q1 8) 25 x 0 q1) 63 x 0 n) 26 x 0 p) q2 6 := ⟨_, rfl⟩
  rw [← hW0] at f1 f2 f3 f4 hw
  have t0x : W0 0 x 0 = 5 := by rw [hW0, newO_o x2, up_k _ (by decide), up_k _ (by decide), up_k _ (by decide), newO_o x1, e1, newO_t]
  have t0q1 : W0 0 q1 0 = 8 := by rw [hW0, newO_o g5, up_k _ (by decide), up_k _ (by decide), up_k _ (by decide), newO_t]
  have t0q2 : W0 0 q2 0 = 6 := by rw [hW0, newO_t]
  have na : ∀ a, W0 0 a 0 = 0 → a ≠ x ∧ a ≠ q1 ∧ a ≠ q2 := fun a h => ⟨fun e => by rw [e] at h; omega, fun e => by rw [e] at h; omega, fun e => by rw [e] at h; omega⟩
  obtain ⟨u1, u2, u3⟩ := na a1 f1
  obtain ⟨u4, u5, u6⟩ := na a2 f2
  obtain ⟨u7, u8, u9⟩ := na a3 f3
  obtain ⟨u10, u11, u12⟩ := na a4 f4
  have w0o : ∀ (k : Nat) (a i : Int), a ≠ x → a ≠ q1 → a ≠ q2 → W0 k a i = w k a i := fun k a i z1 z2 z3 => by
    rw [hW0, newO_o z3, up_a _ _ _ z1, up_a _ _ _ z1, up_a _ _ _ z1, newO_o z2, e1, newO_o z1]
  have hw2 : w2 = up (flA (up (newA (up (newA (up (newA (up (newA W0 a1 20 6) 29 q2 0 a1) a2 21 6) 30 q2 0 a2) a3 23 8) 31 q2 0 a3) a4 20 (if 0 < m then m else 0)) 28 q2 0 a4) 1 a1 0 6 (fun _ => -1)) 24 x 0 q2 := hw
  have rd : ∀ (k : Nat) (a i : Int), a ≠ a1 → a ≠ a2 → a ≠ a3 → a ≠ a4 → a ≠ q2 → a ≠ x → w2 k a i = W0 k a i := fun k a i z1 z2 z3 z4 z5 z6 => by
    rw [hw2, up_a _ _ _ z6, flA_a z1, up_a _ _ _ z5, newA_o z4, up_a _ _ _ z5, newA_o z3, up_a _ _ _ z5, newA_o z2, up_a _ _ _ z5, newA_o z1]
  have rx : ∀ (k : Nat), k ≠ 24 → w2 k x 0 = W0 k x 0 := fun k hk => by
    rw [hw2, up_k _ hk, flA_a u1.symm, up_a _ _ _ x2, newA_o u10.symm, up_a _ _ _ x2, newA_o u7.symm, up_a _ _ _ x2, newA_o u4.symm, up_a _ _ _ x2, newA_o u1.symm]
  have rq : ∀ (k : Nat), k ≠ 28 → k ≠ 29 → k ≠ 30 → k ≠ 31 → w2 k q2 0 = W0 k q2 0 := fun k k1 k2 k3 k4 => by
    rw [hw2, up_a _ _ _ x2.symm, flA_a u3.symm, up_k _ k1, newA_o u12.symm, up_k _ k4, newA_o u9.symm, up_k _ k3, newA_o u6.symm, up_k _ k2, newA_o u3.symm]
  refine ⟨⟨hx, ⟨g1, by rw [← w1f q1 x1.symm]; exact g3⟩, ⟨g2, by rw [← w1f q2 x2.symm]; exact g4⟩, ⟨h1, by rw [← w0o 0 a1 0 u1 u2 u3]; exact f1⟩, ⟨h2, by rw [← w0o 0 a2 0 u4 u5 u6]; exact f2⟩, ⟨h3, by rw [← w0o 0 a3 0 u7 u8 u9]; exact f3⟩, ⟨h4, by rw [← w0o 0 a4 0 u10 u11 u12]; exact f4⟩⟩,
    ⟨⟨x1, x2, u1.symm, u4.symm, u7.symm, u10.symm⟩, ⟨g5, u2.symm, u5.symm, u8.symm, u11.symm⟩, ⟨u3.symm, u6.symm, u9.symm, u12.symm⟩, ⟨n1, n2, n3⟩, ⟨n4, n5⟩, n6⟩,
    fun k a i z1 z2 z3 z4 z5 z6 z7 => by rw [rd k a i z4 z5 z6 z7 z3 z1]; exact w0o k a i z1 z2 z3, ⟨?_, ?_, ?_, ?_, ?_, ?_, ?_, ?_, ?_⟩, ⟨?_, ?_, ?_, ?_, ?_⟩, ⟨?_, ?_, ?_, ?_, ?_, ?_⟩, ⟨?_, ?_, fun i i0 i1 => ?_⟩, ⟨?_, ?_, fun i => ?_⟩, ⟨?_, ?_, fun i => ?_⟩, ?_, ?_⟩
  · rw [rx 0 (by decide)]; exact t0x
  · rw [rx 63 (by decide), hW0, newO_o x2, up_k _ (by decide), up_s]
  · rw [hw2, up_s]
  · rw [rx 25 (by decide), hW0, newO_o x2, up_k _ (by decide), up_k _ (by decide), up_s]
  · rw [rx 26 (by decide), hW0, newO_o x2, up_s]
  · rw [rx 27 (by decide), hW0, newO_o x2, up_k _ (by decide), up_k _ (by decide), up_k _ (by decide), newO_o x1, e1, newO_f (by decide)]
  · rw [rx 64 (by decide), hW0, newO_o x2, up_k _ (by decide), up_k _ (by decide), up_k _ (by decide), newO_o x1, e1, newO_f (by decide)]
  · rw [rx 65 (by decide), hW0, newO_o x2, up_k _ (by decide), up_k _ (by decide), up_k _ (by decide), newO_o x1, e1, newO_f (by decide)]
  · rw [rx 66 (by decide), hW0, newO_o x2, up_k _ (by decide), up_k _ (by decide), up_k _ (by decide), newO_o x1, e1, newO_f (by decide)]
  · rw [rd 0 q1 0 u2.symm u5.symm u8.symm u11.symm g5 x1.symm]; exact t0q1
  · rw [rd _ q1 0 u2.symm u5.symm u8.symm u11.symm g5 x1.symm, hW0, newO_o g5, up_k _ (by decide), up_k _ (by decide), up_k _ (by decide), newO_f (by decide)]
  · rw [rd _ q1 0 u2.symm u5.symm u8.symm u11.symm g5 x1.symm, hW0, newO_o g5, up_k _ (by decide), up_k _ (by decide), up_k _ (by decide), newO_f (by decide)]
  · rw [rd _ q1 0 u2.symm u5.symm u8.symm u11.symm g5 x1.symm, hW0, newO_o g5, up_k _ (by decide), up_k _ (by decide), up_k _ (by decide), newO_f (by decide)]
  · rw [rd _ q1 0 u2.symm u5.symm u8.symm u11.symm g5 x1.symm, hW0, newO_o g5, up_k _ (by decide), up_k _ (by decide), up_k _ (by decide), newO_f (by decide)]
  · rw [rq 0 (by decide) (by decide) (by decide) (by decide)]; exact t0q2
  · rw [hw2, up_k _ (by decide), flA_k (by decide), up_s]
  · rw [hw2, up_k _ (by decide), flA_k (by decide), up_k _ (by decide), newA_o u12.symm, up_k _ (by decide), newA_o u9.symm, up_k _ (by decide), newA_o u6.symm, up_s]
  · rw [hw2, up_k _ (by decide), flA_k (by decide), up_k _ (by decide), newA_o u12.symm, up_k _ (by decide), newA_o u9.symm, up_s]
  · rw [hw2, up_k _ (by decide), flA_k (by decide), up_k _ (by decide), newA_o u12.symm, up_s]
  · rw [rq 67 (by decide) (by decide) (by decide) (by decide), hW0, newO_f (by decide)]
  · rw [hw2, up_k _ (by decide), flA_k (by decide), up_k _ (by decide), newA_o n3, up_k _ (by decide), newA_o n2, up_k _ (by decide), newA_o n1, up_k _ (by decide), newA_t]
  · rw [hw2, up_k _ (by decide), flA_k (by decide), up_k _ (by decide), newA_o n3, up_k _ (by decide), newA_o n2, up_k _ (by decide), newA_o n1, up_k _ (by decide), newA_n]
  · rw [hw2, up_k _ (by decide), flA_v, if_pos (by omega)]
  · rw [hw2, up_k _ (by decide), flA_k (by decide), up_k _ (by decide), newA_o n5, up_k _ (by decide), newA_o n4, up_k _ (by decide), newA_t]
  · rw [hw2, up_k _ (by decide), flA_k (by decide), up_k _ (by decide), newA_o n5, up_k _ (by decide), newA_o n4, up_k _ (by decide), newA_n]
  · rw [hw2, up_k _ (by decide), flA_a n1.symm, up_k _ (by decide), newA_o n5, up_k _ (by decide), newA_o n4, up_k _ (by decide), newA_1 (Or.inl rfl)]
  · rw [hw2, up_k _ (by decide), flA_k (by decide), up_k _ (by decide), newA_o n6, up_k _ (by decide), newA_t]
  · rw [hw2, up_k _ (by decide), flA_k (by decide), up_k _ (by decide), newA_o n6, up_k _ (by decide), newA_n]
  · rw [hw2, up_k _ (by decide), flA_k (by decide), up_k _ (by decide), newA_o n6, up_k _ (by decide), newA_1 (Or.inr rfl)]
  · rw [hw2, up_k _ (by decide), flA_k (by decide), up_k _ (by decide), newA_t]
  · rw [hw2, up_k _ (by decide), flA_k (by decide), up_k _ (by decide), newA_n]
