/-! objects come, codes for them; the reference's first numbers -/
def KPc (c : Int → Int) (w : Mm) : Prop := (∀ a, w 0 a 0 = 0 → c a = 0) ∧ ∀ a, w 0 a 0 < 100
/-- w' is w with new things; of what was there only fields of x have changed -/
def NW (x : Int) (c c' : Int → Int) (w w' : Mm) : Prop :=
  CXt w c c' ∧ KPc c' w' ∧ (∀ (k : Nat) (a i : Int), w 0 a 0 ≠ 0 → (a ≠ x ∨ k = 0 ∨ k = 2 ∨ 120 ≤ k) → w' k a i = w k a i) ∧ ∀ (k : Nat) (i : Int), w' k 0 i = w k 0 i
def SX (b : Int) : Int → Nat → Prop := fun b' k => b' = b ∧ k ≠ 0 ∧ k ≠ 2 ∧ k < 120
section NWS
variable {x y q tg b n v : Int} {c c' c1 c2 : Int → Int} {w w' w1 w2 : Mm} {k : Nat} {i : Int}
theorem NW.refl (hk : KPc c w) : NW x c c w w := ⟨CXt.refl, hk, fun _ _ _ _ _ => rfl, fun _ _ => rfl⟩
theorem NW.t (h : NW x c c' w w') {a : Int} (ha : w 0 a 0 ≠ 0) : w' 0 a 0 = w 0 a 0 := h.2.2.1 0 a 0 ha (Or.inr (Or.inl rfl))
theorem NW.tt (h : NW x c c' w w') {a : Int} (ha : w 0 a 0 = tg) (h0 : tg ≠ 0) : w' 0 a 0 = tg := by rw [h.t (by omega)]; exact ha
theorem NW.o (h : NW x c c' w w') {a i : Int} (ha : w 0 a 0 ≠ 0) (hx : a ≠ x) : w' k a i = w k a i := h.2.2.1 k a i ha (Or.inl hx)
theorem NW.u (h : NW x c c' w w') (hb : c x = b) : UPd c (SX b) w w' := by
  refine ⟨fun k a i ha hs => ?_, fun k a i ha hk => h.2.2.1 k a i ha (Or.inr hk), fun k i _ => h.2.2.2 k i⟩
  by_cases e : a = x
  · refine h.2.2.1 k a i ha ?_
    apply Classical.byContradiction
    intro z
    exact hs ⟨by rw [e]; exact hb, by omega, by omega, by omega⟩
  · exact h.2.2.1 k a i ha (Or.inl e)
theorem NW.trans (h : NW x c c1 w w1) (g : NW y c1 c2 w1 w2) (hy : y = x ∨ w 0 y 0 = 0) : NW x c c2 w w2 := by
  have ht : ∀ a, w 0 a 0 ≠ 0 → w1 0 a 0 ≠ 0 := fun a ha => by rw [h.t ha]; exact ha
  refine ⟨fun a ha => (g.1 a (ht a ha)).trans (h.1 a ha), g.2.1, fun k a i ha hx => ?_, fun k i => (g.2.2.2 k i).trans (h.2.2.2 k i)⟩
  refine (g.2.2.1 k a i (ht a ha) ?_).trans (h.2.2.1 k a i ha hx)
  rcases hx with hx | hx
  · left
    rcases hy with hy | hy
    · rw [hy]; exact hx
    · intro e; rw [e] at ha; exact ha hy
  · exact Or.inr hx
/-- a new object, a new array, a field, a part of an array -/
theorem NW.O (h : NW x c c' w w') (hq : 0 < q) (h0 : w' 0 q 0 = 0) (ht : tg ≠ 0 ∧ tg < 100) : NW x c (fun a => if a = q then b else c' a) w (newO w' q tg) := by
  have hq0 : ∀ a, w 0 a 0 ≠ 0 → a ≠ q := fun a ha e => by rw [← e, h.t ha] at h0; exact ha h0
  refine ⟨fun a ha => ?_, ⟨fun a ha => ?_, fun a => ?_⟩, fun k a i ha hx => ?_, fun k i => ?_⟩
  · show (if a = q then b else c' a) = c a
    rw [if_neg (hq0 a ha)]; exact h.1 a ha
  · show (if a = q then b else c' a) = 0
    by_cases e : a = q
    · rw [e, newO_t] at ha; exact absurd ha ht.1
    · rw [newO_o e] at ha; rw [if_neg e]; exact h.2.1.1 a ha
  · by_cases e : a = q
    · rw [e, newO_t]; exact ht.2
    · rw [newO_o e]; exact h.2.1.2 a
  · rw [newO_o (hq0 a ha)]; exact h.2.2.1 k a i ha hx
  · rw [newO_o (by omega)]; exact h.2.2.2 k i
theorem NW.A (h : NW x c c' w w') (hq : 0 < q) (h0 : w' 0 q 0 = 0) (ht : tg ≠ 0 ∧ tg < 100) : NW x c (fun a => if a = q then b else c' a) w (newA w' q tg n) := by
  have hq0 : ∀ a, w 0 a 0 ≠ 0 → a ≠ q := fun a ha e => by rw [← e, h.t ha] at h0; exact ha h0
  refine ⟨fun a ha => ?_, ⟨fun a ha => ?_, fun a => ?_⟩, fun k a i ha hx => ?_, fun k i => ?_⟩
  · show (if a = q then b else c' a) = c a
    rw [if_neg (hq0 a ha)]; exact h.1 a ha
  · show (if a = q then b else c' a) = 0
    by_cases e : a = q
    · rw [e, newA_t] at ha; exact absurd ha ht.1
    · rw [newA_o e] at ha; rw [if_neg e]; exact h.2.1.1 a ha
  · by_cases e : a = q
    · rw [e, newA_t]; exact ht.2
    · rw [newA_o e]; exact h.2.1.2 a
  · rw [newA_o (hq0 a ha)]; exact h.2.2.1 k a i ha hx
  · rw [newA_o (by omega)]; exact h.2.2.2 k i
theorem NW.p (h : NW x c c' w w') (hy : y = x ∨ w 0 y 0 = 0) (h0 : y ≠ 0) (hk : k ≠ 0 ∧ k ≠ 2 ∧ k < 120) : NW x c c' w (up w' k y i v) := by
  refine ⟨h.1, ⟨fun a ha => h.2.1.1 a ?_, fun a => by rw [up_k _ (Ne.symm hk.1)]; exact h.2.1.2 a⟩, fun k' a i' ha hx => ?_, fun k' i' => ?_⟩
  · rw [up_k _ (Ne.symm hk.1)] at ha; exact ha
  · rw [← h.2.2.1 k' a i' ha hx]
    by_cases e : k' = k
    · refine up_a _ _ _ (fun z => ?_) _ _ _
      rcases hy with hy | hy
      · rcases hx with hx | hx
        · exact hx (z.trans hy)
        · omega
      · rw [z] at ha; exact ha hy
    · exact up_k _ e _ _ _ _ _
  · rw [up_a _ _ _ (Ne.symm h0)]; exact h.2.2.2 k' i'
theorem NW.F {lo : Int} {f : Int → Int} (h : NW x c c' w w') (hy : w 0 y 0 = 0) (h0 : y ≠ 0) (hk : k ≠ 0 ∧ k ≠ 2 ∧ k < 120) : NW x c c' w (flA w' k y lo n f) := by
  refine ⟨h.1, ⟨fun a ha => h.2.1.1 a ?_, fun a => by rw [flA_k (Ne.symm hk.1)]; exact h.2.1.2 a⟩, fun k' a i' ha hx => ?_, fun k' i' => ?_⟩
  · rw [flA_k (Ne.symm hk.1)] at ha; exact ha
  · rw [← h.2.2.1 k' a i' ha hx]
    exact flA_a (fun z => by rw [z] at ha; exact ha hy)
  · rw [flA_a (Ne.symm h0)]; exact h.2.2.2 k' i'
end NWS
/-! the reference's first numbers -/
def vin (c : Nat) : Int := if c = 135 then -1 else if c = 133 then -1 else if c = 129 then -1 else if c = 128 then 600 else if c = 125 then 1 else if c = 124 then 1 else 0
def AI (μ : MU) (A : Mm) : Prop :=
  (∀ c : Nat, 120 ≤ c → c < 140 → A c μ.1 0 = vin c) ∧ (∀ (c : Nat) (i : Int), 200 ≤ c → c ≤ 246 → c ≠ 216 → c ≠ 217 → c ≠ 221 → c ≠ 202 → c ≠ 232 → c ≠ 227 → A c 0 i = 0) ∧
  (A 216 0 0 = 1 ∧ A 217 0 0 = -1 ∧ A 221 0 0 = -1) ∧ (∀ i, 0 ≤ i → i < 24 → A 202 0 i = -1) ∧ (∀ i, 0 ≤ i → i < 8 → A 232 0 i = -1) ∧ ∀ i, 0 ≤ i → i < 5 → A 227 0 i = -1
theorem AI.z {μ : MU} {A : Mm} (h : AI μ A) {c : Nat} (hc : 200 ≤ c ∧ c ≤ 246 ∧ c ≠ 216 ∧ c ≠ 217 ∧ c ≠ 221 ∧ c ≠ 202 ∧ c ≠ 232 ∧ c ≠ 227) (i : Int) : A c 0 i = 0 := h.2.1 c i hc.1 hc.2.1 hc.2.2.1 hc.2.2.2.1 hc.2.2.2.2.1 hc.2.2.2.2.2.1 hc.2.2.2.2.2.2.1 hc.2.2.2.2.2.2.2
theorem AI.v {μ : MU} {A : Mm} (h : AI μ A) {c : Nat} (hc : 120 ≤ c ∧ c < 140) {v : Int} (e : vin c = v) : A c μ.1 0 = v := (h.1 c hc.1 hc.2).trans e
/-! a fresh state, a fresh chain, a fresh desk -/
def FSt (w : Mm) (s n : Int) : Prop := w 67 s 0 = 0 ∧ w 2 (w 28 s 0) 0 = n ∧ ∀ j, 0 ≤ j → (j < 6 → w 1 (w 29 s 0) j = -1 ∧ w 1 (w 30 s 0) j = 0) ∧ w 3 (w 31 s 0) j = 0
def FQs (w : Mm) (t : Int) : Prop := w 34 t 0 = 0 ∧ w 35 t 0 = 0 ∧ w 71 t 0 = 0 ∧ w 72 t 0 = 0
def FDk (w : Mm) (d : Int) : Prop := FSt w (w 11 d 0) 400 ∧ (w 60 d 0 = 0 ∧ w 61 d 0 = 0) ∧ FQs w (w 12 d 0) ∧ ∀ j, 0 ≤ j → j < 4 → w 1 (w 13 d 0) j = 0 ∧ w 1 (w 14 d 0) j = 0
section FRE
variable {c c' : Int → Int} {S : Int → Nat → Prop} {w w' A : Mm} {μ : MU} {s b d n i t : Int}
theorem FSt.fr (h : FSt w s n) (g : sSt c b w s) (u : UPd c S w w') (hs : ∀ (b' : Int) (k : Nat), b ≤ b' → b' ≤ b + 4 → ¬ S b' k) : FSt w' s n := by
  obtain ⟨-, f1, f2, f3, f4⟩ := g.fr u (CXt.refl) (fun k _ _ => hs b k (by omega) (by omega))
  obtain ⟨⟨a1, a2⟩, ⟨b1, b2⟩, ⟨c1, c2, c3⟩, ⟨d1, d2, d3⟩, e1, e2, e3⟩ := g
  obtain ⟨h1, h2, h3⟩ := h
  refine ⟨(u.g (by omega) a2 (hs b 67 (by omega) (by omega))).trans h1, by rw [f1, u.t (by omega) (by decide)]; exact h2, fun j j0 => ⟨fun j1 => ?_, ?_⟩⟩
  · rw [f2, f3, u.g (by omega) c3 (hs _ 1 (by omega) (by omega)), u.g (by omega) d3 (hs _ 1 (by omega) (by omega))]; exact (h3 j j0).1 j1
  · rw [f4, u.g (by omega) e3 (hs _ 3 (by omega) (by omega))]; exact (h3 j j0).2
theorem FSt.v (h : FSt w s n) (hn : 0 ≤ n ∧ n ≤ 400) (hA : AI μ A) (hi : 0 ≤ i ∧ i < 4) : vSt c w s A i := by
  obtain ⟨h1, h2, h3⟩ := h
  refine ⟨⟨by rw [h1, hA.z (by decide)], by omega, fun j j0 j1 => by omega, fun j j0 j1 => ?_⟩, fun r r0 r1 => ⟨?_, fun e e0 e1 => ⟨fun y => ?_, fun _ => (h3 (r + e) (by omega)).2⟩⟩⟩
  · obtain ⟨z1, z2⟩ := (h3 j j0).1 j1
    rw [z1, z2, hA.2.2.2.1 _ (by omega) (by omega)]
    exact ⟨rfl, fun y => absurd rfl y, Or.inl rfl⟩
  · rw [hA.z (by decide)]; unfold m_slt; split <;> omega
  · rw [hA.z (by decide)] at y; omega
theorem FQs.q (h : FQs w t) : vQs w t [] := ⟨h.1, h.2.1, h.2.2.1, h.2.2.2, fun x hx => absurd hx List.not_mem_nil⟩
theorem FQs.fr (h : FQs w t) (ht : w 0 t 0 = 8 ∧ c t = b) (u : UPd c S w w') (hs : ∀ k : Nat, ¬ S b k) : FQs w' t := by
  have o : ∀ k : Nat, w' k t 0 = w k t 0 := fun k => u.g (by omega) ht.2 (hs k)
  unfold FQs
  rw [o, o, o, o]; exact h
theorem FDk.bd (h : FDk w d) : bDk w d := by
  obtain ⟨⟨h1, -⟩, ⟨h2, h3⟩, -, h4⟩ := h
  refine ⟨by omega, by omega, by omega, fun j j0 j1 => ?_⟩
  obtain ⟨z1, z2⟩ := h4 j j0 j1
  rw [z1, z2]; decide
theorem FDk.v (h : FDk w d) (hA : AI μ A) : vDk c w d A 0 := by
  obtain ⟨h1, ⟨h2, h3⟩, -, h4⟩ := h
  refine ⟨h1.v (by decide) hA (by decide), by rw [h3, hA.z (by decide)], by rw [h2, hA.z (by decide)], fun j j0 j1 => by omega⟩
theorem FDk.fr (h : FDk w d) (g : sDk c b w d) (u : UPd c S w w') (hs : ∀ (b' : Int) (k : Nat), b ≤ b' → b' ≤ b + 8 → ¬ S b' k) : FDk w' d := by
  obtain ⟨⟨g1, g2⟩, g3, g4, g5, ⟨g6, g7, g8⟩, g9, g10, g11⟩ := g
  obtain ⟨h1, ⟨h2, h3⟩, h4, h5⟩ := h
  have o : ∀ k : Nat, w' k d 0 = w k d 0 := fun k => u.g (by omega) g2 (hs b k (by omega) (by omega))
  refine ⟨by rw [o]; exact h1.fr g3 u (fun b' k x y => hs b' k (by omega) (by omega)), by rw [o, o]; exact ⟨h2, h3⟩, by rw [o]; exact h4.fr g5 u (fun k => hs _ k (by omega) (by omega)), fun j j0 j1 => ?_⟩
  rw [o, o, u.g (by omega) g8 (hs _ 1 (by omega) (by omega)), u.g (by omega) g11 (hs _ 1 (by omega) (by omega))]; exact h5 j j0 j1
theorem SX_n {b b' : Int} {k : Nat} (h : b' ≠ b) : ¬ SX b b' k := fun z => h z.1
/-- a state is made -/
theorem NW.st2 {m b : Int} {c1 : Int → Int} {W0 w2 : Mm} {s : Int} (hk : KPc c1 W0) (ho : W0 0 s 0 = 6 ∧ c1 s = b) (hz : ∀ k : Nat, 10 ≤ k → W0 k s 0 = 0) (hs : 0 < s)
    (hp : ∃ q1 q2 q3 q4, (0 < q1 ∧ 0 < q2 ∧ 0 < q3 ∧ 0 < q4) ∧ (W0 0 q1 0 = 0 ∧ W0 0 q2 0 = 0 ∧ W0 0 q3 0 = 0 ∧ W0 0 q4 0 = 0) ∧ (q1 ≠ q2 ∧ q1 ≠ q3 ∧ q1 ≠ q4 ∧ q2 ≠ q3 ∧ q2 ≠ q4 ∧ q3 ≠ q4) ∧ w2 = flA (t_new s q1 q2 q3 q4 m W0) 1 q1 0 6 (fun _ => -1)) :
    ∃ c2, NW s c1 c2 W0 w2 ∧ sSt c2 b w2 s ∧ FSt w2 s m := by
  obtain ⟨q1, q2, q3, q4, ⟨p1, p2, p3, p4⟩, ⟨f1, f2, f3, f4⟩, ⟨n1, n2, n3, n4, n5, n6⟩, hw⟩ := hp
  obtain ⟨ts, hb⟩ := ho
  have s1 : s ≠ q1 := fun e => by rw [e] at ts; omega
  have s2 : s ≠ q2 := fun e => by rw [e] at ts; omega
  have s3 : s ≠ q3 := fun e => by rw [e] at ts; omega
  have s4 : s ≠ q4 := fun e => by rw [e] at ts; omega
  have z67 : W0 67 s 0 = 0 := hz 67 (by decide)
  have h : NW s c1 c1 W0 W0 := NW.refl hk
  have a1 := (h.A (b := b + 2) (tg := 20) (n := 6) p1 f1 (by decide)).p (k := 29) (i := 0) (v := q1) (Or.inl rfl) (by omega) (by decide)
  have a2 := (a1.A (b := b + 3) (tg := 21) (n := 6) p2 (by rw [up_k _ (by decide), newA_o n1.symm]; exact f2) (by decide)).p (k := 30) (i := 0) (v := q2) (Or.inl rfl) (by omega) (by decide)
  have a3 := (a2.A (b := b + 4) (tg := 23) (n := 8) p3 (by rw [up_k _ (by decide), newA_o n4.symm, up_k _ (by decide), newA_o n2.symm]; exact f3) (by decide)).p (k := 31) (i := 0) (v := q3) (Or.inl rfl) (by omega) (by decide)
  have a4 := ((a3.A (b := b + 1) (tg := 20) (n := m) p4 (by rw [up_k _ (by decide), newA_o n6.symm, up_k _ (by decide), newA_o n5.symm, up_k _ (by decide), newA_o n3.symm]; exact f4) (by decide)).p (k := 28) (i := 0) (v := q4) (Or.inl rfl) (by omega) (by decide)).F (k := 1) (lo := 0) (n := 6) (f := fun _ => -1) (y := q1) f1 (by omega) (by decide)
  have hw' : w2 = flA (up (newA (up (newA (up (newA (up (newA W0 q1 20 6) 29 s 0 q1) q2 21 6) 30 s 0 q2) q3 23 8) 31 s 0 q3) q4 20 m) 28 s 0 q4) 1 q1 0 6 (fun _ => -1) := hw
  rw [← hw'] at a4
  have e28 : w2 28 s 0 = q4 := by rw [hw', flA_k (by decide), up_s]
  have e29 : w2 29 s 0 = q1 := by rw [hw', flA_k (by decide), up_k _ (by decide), newA_o s4, up_k _ (by decide), newA_o s3, up_k _ (by decide), newA_o s2, up_s]
  have e30 : w2 30 s 0 = q2 := by rw [hw', flA_k (by decide), up_k _ (by decide), newA_o s4, up_k _ (by decide), newA_o s3, up_s]
  have e31 : w2 31 s 0 = q3 := by rw [hw', flA_k (by decide), up_k _ (by decide), newA_o s4, up_s]
  have e67 : w2 67 s 0 = 0 := by rw [hw', flA_k (by decide), up_k _ (by decide), newA_o s4, up_k _ (by decide), newA_o s3, up_k _ (by decide), newA_o s2, up_k _ (by decide), newA_o s1]; exact z67
  have e0s : w2 0 s 0 = 6 := by rw [hw', flA_k (by decide), up_k _ (by decide), newA_o s4, up_k _ (by decide), newA_o s3, up_k _ (by decide), newA_o s2, up_k _ (by decide), newA_o s1]; exact ts
  have e0a : w2 0 q1 0 = 20 ∧ w2 2 q1 0 = 6 := by
    rw [hw', flA_k (by decide), flA_k (by decide), up_k _ (by decide), newA_o n3, up_k _ (by decide), newA_o n2, up_k _ (by decide), newA_o n1, up_k _ (by decide), newA_t, up_k _ (by decide), newA_o n3, up_k _ (by decide), newA_o n2, up_k _ (by decide), newA_o n1, up_k _ (by decide), newA_n]
    exact ⟨rfl, rfl⟩
  have e0b : w2 0 q2 0 = 21 ∧ w2 2 q2 0 = 6 := by
    rw [hw', flA_k (by decide), flA_k (by decide), up_k _ (by decide), newA_o n5, up_k _ (by decide), newA_o n4, up_k _ (by decide), newA_t, up_k _ (by decide), newA_o n5, up_k _ (by decide), newA_o n4, up_k _ (by decide), newA_n]
    exact ⟨rfl, rfl⟩
  have e0c : w2 0 q3 0 = 23 ∧ w2 2 q3 0 = 8 := by
    rw [hw', flA_k (by decide), flA_k (by decide), up_k _ (by decide), newA_o n6, up_k _ (by decide), newA_t, up_k _ (by decide), newA_o n6, up_k _ (by decide), newA_n]
    exact ⟨rfl, rfl⟩
  have e0d : w2 0 q4 0 = 20 ∧ w2 2 q4 0 = m := by
    rw [hw', flA_k (by decide), flA_k (by decide), up_k _ (by decide), newA_t, up_k _ (by decide), newA_n]
    exact ⟨rfl, rfl⟩
  refine ⟨_, a4, ⟨⟨e0s, ?_⟩, ⟨by rw [e28]; exact e0d.1, ?_⟩, ⟨by rw [e29]; exact e0a.1, by rw [e29]; exact e0a.2, ?_⟩, ⟨by rw [e30]; exact e0b.1, by rw [e30]; exact e0b.2, ?_⟩, ⟨by rw [e31]; exact e0c.1, by rw [e31]; exact e0c.2, ?_⟩⟩, e67, by rw [e28]; exact e0d.2, fun j j0 => ⟨fun j1 => ?_, ?_⟩⟩
  · dsimp only; rw [if_neg s4, if_neg s3, if_neg s2, if_neg s1]; exact hb
  · rw [e28]; dsimp only; rw [if_pos rfl]
  · rw [e29]; dsimp only; rw [if_neg n3, if_neg n2, if_neg n1, if_pos rfl]
  · rw [e30]; dsimp only; rw [if_neg n5, if_neg n4, if_pos rfl]
  · rw [e31]; dsimp only; rw [if_neg n6, if_pos rfl]
  · rw [e29, e30]
    refine ⟨by rw [hw', flA_v, if_pos (by omega)], ?_⟩
    rw [hw', flA_a n1.symm, up_k _ (by decide), newA_o n5, up_k _ (by decide), newA_o n4, up_k _ (by decide), newA_1 (Or.inl rfl)]
  · rw [e31, hw', flA_k (by decide), up_k _ (by decide), newA_o n6, up_k _ (by decide), newA_1 (Or.inr rfl)]
end FRE
section NWU
variable {x b t n code : Int} {c c' : Int → Int} {w w' : Mm} {k : Nat} {a i : Int} {S : Int → Nat → Prop}
theorem NW.f (h : NW x c c' w w') (hx : w 0 x 0 = 0) (ha : w 0 a 0 ≠ 0) : w' k a i = w k a i := h.2.2.1 k a i ha (Or.inl (fun e => by rw [e] at ha; exact ha hx))
theorem NW.un (h : NW x c c' w w') (ha : w' 0 a 0 = 0) : w 0 a 0 = 0 := by
  apply Classical.byContradiction
  intro z
  rw [h.t z] at ha
  exact z ha
theorem NW.u1 (h : NW x c c' w w') (hx : w 0 x 0 = 0) : UPd c (SX b) w w' := ⟨fun _ _ _ ha _ => h.f hx ha, fun _ _ _ ha _ => h.f hx ha, fun k i _ => h.2.2.2 k i⟩
/-- an object, an array -/
def OBt (c : Int → Int) (w : Mm) (a t code : Int) : Prop := w 0 a 0 = t ∧ c a = code
def ARt (c : Int → Int) (w : Mm) (a t n code : Int) : Prop := (w 0 a 0 = t ∧ w 2 a 0 = n ∧ c a = code) ∧ ∀ j, w 1 a j = 0 ∧ w 3 a j = 0
theorem OBt.fr (h : OBt c w a t code) (ht : t ≠ 0) (u : UPd c S w w') (hc : CXt w c c') : OBt c' w' a t code := ⟨u.tag h.1 ht, (hc a (by have := h.1; omega)).trans h.2⟩
theorem ARt.fr (h : ARt c w a t n code) (ht : t ≠ 0) (u : UPd c S w w') (hc : CXt w c c') (hs : ∀ k : Nat, ¬ S code k) : ARt c' w' a t n code := by
  obtain ⟨⟨h1, h2, h3⟩, h4⟩ := h
  refine ⟨⟨u.tag h1 ht, (u.t (by omega) (by decide)).trans h2, (hc a (by omega)).trans h3⟩, fun j => ?_⟩
  rw [u.g (by omega) h3 (hs 1), u.g (by omega) h3 (hs 3)]; exact h4 j
theorem FQs.fr2 (h : FQs w a) (g : OBt c w a 8 code) (u : UPd c S w w') (hs : ∀ k : Nat, ¬ S code k) : FQs w' a := h.fr g u hs
end NWU
