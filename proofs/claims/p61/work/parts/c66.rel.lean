/-! what is made: listeners, macros, traces, the tree and its first node -/
def FLs (c : Int → Int) (w : Mm) (q : Int) : Prop :=
  OBt c w q 3 45 ∧ ARt c w (w 15 q 0) 21 3 46 ∧ ARt c w (w 16 q 0) 20 3 47 ∧ ARt c w (w 17 q 0) 20 3 48 ∧ ARt c w (w 18 q 0) 20 3 49 ∧ ((w 0 (w 19 q 0) 0 = 20 ∧ w 2 (w 19 q 0) 0 = 8 ∧ c (w 19 q 0) = 50) ∧ ∀ j, 0 ≤ j → j < 8 → w 1 (w 19 q 0) j = -1) ∧ ARt c w (w 20 q 0) 20 8 51
def FMc (c : Int → Int) (b : Int) (w : Mm) (q : Int) : Prop :=
  OBt c w q 4 b ∧ ARt c w (w 21 q 0) 20 16 (b + 1) ∧ ARt c w (w 22 q 0) 20 16 (b + 2) ∧ ARt c w (w 23 q 0) 20 16 (b + 3) ∧ w 62 q 0 = 0
def FNd (c : Int → Int) (w : Mm) (N : Int) : Prop :=
  (OBt c w N 5 1000 ∧ w 63 N 0 = 0) ∧ (sSt c 1001 w (w 24 N 0) ∧ FSt w (w 24 N 0) 0) ∧ (OBt c w (w 25 N 0) 8 1006 ∧ FQs w (w 25 N 0)) ∧ (w 26 N 0 = 0 ∧ w 64 N 0 = 0 ∧ w 65 N 0 = 0 ∧ w 66 N 0 = 0 ∧ w 27 N 0 = 0)
def FLe (w : Mm) (q E : Int) : Prop := w 51 q 0 = E ∧ w 93 q 0 = 0 ∧ w 92 q 0 = 0
def FTr (c : Int → Int) (w : Mm) (T N : Int) : Prop :=
  sTr c w T ∧ (w 93 (w 38 T 0) 0 = 1 ∧ w 92 (w 38 T 0) 0 = 1 ∧ w 2 (w 51 (w 38 T 0) 0) 0 = 10 ∧ w 3 (w 51 (w 38 T 0) 0) 0 = N) ∧ (∀ j, 0 ≤ j → j < 5 → w 3 (w 39 T 0) j = 0) ∧ w 40 T 0 = N ∧ w 78 T 0 = 1 ∧ w 79 T 0 = 600
section FRF
variable {c c' : Int → Int} {S : Int → Nat → Prop} {w w' A : Mm} {μ : MU} {s b d n i t q N T E m : Int}
theorem FLs.fr (h : FLs c w q) (u : UPd c S w w') (hc : CXt w c c') (hs : ∀ (b' : Int) (k : Nat), 45 ≤ b' → b' ≤ 51 → ¬ S b' k) : FLs c' w' q := by
  obtain ⟨h0, h1, h2, h3, h4, ⟨⟨h5, h6, h7⟩, h8⟩, h9⟩ := h
  have o : ∀ k : Nat, w' k q 0 = w k q 0 := fun k => u.g (by have := h0.1; omega) h0.2 (hs 45 k (by decide) (by decide))
  unfold FLs
  rw [o, o, o, o, o, o]
  refine ⟨h0.fr (by decide) u hc, h1.fr (by decide) u hc (fun k => hs _ k (by decide) (by decide)), h2.fr (by decide) u hc (fun k => hs _ k (by decide) (by decide)), h3.fr (by decide) u hc (fun k => hs _ k (by decide) (by decide)), h4.fr (by decide) u hc (fun k => hs _ k (by decide) (by decide)), ⟨⟨u.tag h5 (by decide), (u.t (by omega) (by decide)).trans h6, (hc _ (by omega)).trans h7⟩, fun j j0 j1 => ?_⟩, h9.fr (by decide) u hc (fun k => hs _ k (by decide) (by decide))⟩
  rw [u.g (by omega) h7 (hs 50 1 (by decide) (by decide))]; exact h8 j j0 j1
theorem FLs.v (h : FLs c w q) (hA : AI μ A) : vLs c w A q := by
  obtain ⟨h0, h1, h2, h3, h4, ⟨⟨h5, h6, h7⟩, h8⟩, h9⟩ := h
  refine ⟨⟨⟨h0.1, ⟨h1.1.1, h2.1.1, h3.1.1, h4.1.1, h5, h9.1.1⟩, h1.1.2.1, h2.1.2.1, h3.1.2.1, h4.1.2.1, h6, h9.1.2.1⟩, h0.2, h1.1.2.2, h2.1.2.2, h3.1.2.2, h4.1.2.2, h7, h9.1.2.2⟩, fun j j0 j1 => ?_, fun j j0 j1 => ?_⟩
  · rw [(h1.2 j).1, (h2.2 j).1, (h3.2 j).1, (h4.2 j).1, hA.z (by decide), hA.z (by decide), hA.z (by decide), hA.z (by decide)]
    exact ⟨rfl, rfl, rfl, rfl⟩
  · rw [h8 j j0 j1, hA.2.2.2.2.1 j j0 j1]
theorem FMc.fr (h : FMc c b w q) (u : UPd c S w w') (hc : CXt w c c') (hs : ∀ (b' : Int) (k : Nat), b ≤ b' → b' ≤ b + 3 → ¬ S b' k) : FMc c' b w' q := by
  obtain ⟨h0, h1, h2, h3, h4⟩ := h
  have o : ∀ k : Nat, w' k q 0 = w k q 0 := fun k => u.g (by have := h0.1; omega) h0.2 (hs b k (by omega) (by omega))
  unfold FMc
  rw [o, o, o, o]
  exact ⟨h0.fr (by decide) u hc, h1.fr (by decide) u hc (fun k => hs _ k (by omega) (by omega)), h2.fr (by decide) u hc (fun k => hs _ k (by omega) (by omega)), h3.fr (by decide) u hc (fun k => hs _ k (by omega) (by omega)), h4⟩
theorem FMc.v (h : FMc c b w q) (hA : AI μ A) : vMc c b w A q m := by
  obtain ⟨h0, h1, h2, h3, h4⟩ := h
  have e1 := h1.1.2.2
  have e2 := h2.1.2.2
  have e3 := h3.1.2.2
  refine ⟨⟨⟨h0.1, ⟨h1.1.1, h2.1.1, h3.1.1⟩, ⟨h1.1.2.1, h2.1.2.1, h3.1.2.1⟩, ⟨fun e => by rw [e] at e1; omega, fun e => by rw [e] at e1; omega, fun e => by rw [e] at e2; omega⟩, by rw [h4]; decide⟩, h0.2, e1, e2, e3⟩, by rw [h4, hA.z (by decide)], fun k k0 k1 => by rw [h4] at k1; omega⟩
theorem vTs.fr2 (h : vTs c w q) (u : UPd c S w w') (hc : CXt w c c') (hs : ∀ (b' : Int) (k : Nat), 52 ≤ b' → b' ≤ 61 → ¬ S b' k) : vTs c' w' q := by
  obtain ⟨⟨h1, h2⟩, ⟨h3, h4, h5⟩, h6, h7⟩ := h
  have o : ∀ k : Nat, w' k q 0 = w k q 0 := fun k => u.g (by omega) h2 (hs 52 k (by decide) (by decide))
  unfold vTs
  rw [o, o 37, o]
  refine ⟨⟨h1, (hc q (by omega)).trans h2⟩, ⟨u.tag h3 (by decide), (u.t (by omega) (by decide)).trans h4, (hc _ (by omega)).trans h5⟩, fun i i0 i1 => ?_, h7⟩
  obtain ⟨z1, z2⟩ := h6 i i0 i1
  rw [u.g (by omega) h5 (hs 53 3 (by decide) (by decide))]
  exact ⟨u.tag z1 (by decide), (hc _ (by omega)).trans z2⟩
theorem FNd.fr (h : FNd c w N) (u : UPd c S w w') (hc : CXt w c c') (hs : ∀ (b' : Int) (k : Nat), 1000 ≤ b' → b' ≤ 1006 → ¬ S b' k) : FNd c' w' N := by
  obtain ⟨⟨h0, h1⟩, ⟨h2, h3⟩, ⟨h4, h5⟩, h6⟩ := h
  have o : ∀ k : Nat, w' k N 0 = w k N 0 := fun k => u.g (by have := h0.1; omega) h0.2 (hs 1000 k (by decide) (by decide))
  unfold FNd
  rw [o, o, o, o, o, o, o, o]
  exact ⟨⟨h0.fr (by decide) u hc, h1⟩, ⟨(h2.fr u hc (fun k _ _ => hs _ k (by decide) (by decide))).1, h3.fr h2 u (fun b' k x y => hs b' k (by omega) (by omega))⟩, ⟨h4.fr (by decide) u hc, h5.fr h4 u (fun k => hs _ k (by decide) (by decide))⟩, h6⟩
theorem FLe.fr (h : FLe w q E) (g : OBt c w q 15 b) (u : UPd c S w w') (hs : ∀ k : Nat, ¬ S b k) : FLe w' q E := by
  have o : ∀ k : Nat, w' k q 0 = w k q 0 := fun k => u.g (by have := g.1; omega) g.2 (hs k)
  unfold FLe
  rw [o, o, o]; exact h
theorem FTr.fr (h : FTr c w T N) (u : UPd c S w w') (hc : CXt w c c') (hs : ∀ (b' : Int) (k : Nat), 41 ≤ b' → b' ≤ 44 → ¬ S b' k) : FTr c' w' T N := by
  obtain ⟨⟨⟨a1, a2⟩, ⟨a3, a4⟩, ⟨a5, a6⟩, a7, a8, a9⟩, ⟨h1, h2, h3, h4⟩, h5, h6⟩ := h
  have o : ∀ k : Nat, w' k T 0 = w k T 0 := fun k => u.g (by omega) a2 (hs 41 k (by decide) (by decide))
  have ol : ∀ k : Nat, w' k (w 38 T 0) 0 = w k (w 38 T 0) 0 := fun k => u.g (by omega) a4 (hs 42 k (by decide) (by decide))
  unfold FTr sTr
  rw [o 0, o 38, o 39, o 40, o 78, o 79, ol 0, ol 51, ol 93, ol 92]
  refine ⟨⟨⟨a1, (hc _ (by omega)).trans a2⟩, ⟨a3, (hc _ (by omega)).trans a4⟩, ⟨u.tag a5 (by decide), (hc _ (by omega)).trans a6⟩, u.tag a7 (by decide), (u.t (by omega) (by decide)).trans a8, (hc _ (by omega)).trans a9⟩, ⟨h1, h2, (u.t (by omega) (by decide)).trans h3, (u.g (by omega) a6 (hs 43 3 (by decide) (by decide))).trans h4⟩, fun j j0 j1 => ?_, h6⟩
  rw [u.g (by omega) a9 (hs 44 3 (by decide) (by decide))]; exact h5 j j0 j1
/-- a macro is made -/
theorem NW.mc (hk : KPc c w) (ho : OBt c w m 4 b) (hz : ∀ k : Nat, 10 ≤ k → w k m 0 = 0) (h0 : 0 < m) (hp : ∃ q1 q2 q3, (0 < q1 ∧ 0 < q2 ∧ 0 < q3) ∧ (w 0 q1 0 = 0 ∧ w 0 q2 0 = 0 ∧ w 0 q3 0 = 0) ∧ (q1 ≠ q2 ∧ q1 ≠ q3 ∧ q2 ≠ q3) ∧ w' = up (newA (up (newA (up (newA w q1 20 16) 21 m 0 q1) q2 20 16) 22 m 0 q2) q3 20 16) 23 m 0 q3) :
    ∃ c', NW m c c' w w' ∧ FMc c' b w' m := by
  obtain ⟨q1, q2, q3, ⟨p1, p2, p3⟩, ⟨f1, f2, f3⟩, ⟨n1, n2, n3⟩, hw⟩ := hp
  obtain ⟨ts, hb⟩ := ho
  have s1 : m ≠ q1 := fun e => by rw [e] at ts; omega
  have s2 : m ≠ q2 := fun e => by rw [e] at ts; omega
  have s3 : m ≠ q3 := fun e => by rw [e] at ts; omega
  have a1 := ((NW.refl (x := m) hk).A (b := b + 1) (tg := 20) (n := 16) p1 f1 (by decide)).p (k := 21) (i := 0) (v := q1) (Or.inl rfl) (by omega) (by decide)
  have a2 := (a1.A (b := b + 2) (tg := 20) (n := 16) p2 (by rw [up_k _ (by decide), newA_o n1.symm]; exact f2) (by decide)).p (k := 22) (i := 0) (v := q2) (Or.inl rfl) (by omega) (by decide)
  have a3 := (a2.A (b := b + 3) (tg := 20) (n := 16) p3 (by rw [up_k _ (by decide), newA_o n3.symm, up_k _ (by decide), newA_o n2.symm]; exact f3) (by decide)).p (k := 23) (i := 0) (v := q3) (Or.inl rfl) (by omega) (by decide)
  rw [← hw] at a3
  have e23 : w' 23 m 0 = q3 := by rw [hw, up_s]
  have e22 : w' 22 m 0 = q2 := by rw [hw, up_k _ (by decide), newA_o s3, up_s]
  have e21 : w' 21 m 0 = q1 := by rw [hw, up_k _ (by decide), newA_o s3, up_k _ (by decide), newA_o s2, up_s]
  have em : ∀ k : Nat, k ≠ 21 → k ≠ 22 → k ≠ 23 → w' k m 0 = w k m 0 := fun k x1 x2 x3 => by rw [hw, up_k _ x3, newA_o s3, up_k _ x2, newA_o s2, up_k _ x1, newA_o s1]
  have g1 : ∀ (k : Nat) (i : Int), w' k q1 i = newA w q1 20 16 k q1 i := fun k i => by rw [hw, up_a _ _ _ s1.symm, newA_o n2, up_a _ _ _ s1.symm, newA_o n1, up_a _ _ _ s1.symm]
  have g2 : ∀ (k : Nat) (i : Int), w' k q2 i = newA (up (newA w q1 20 16) 21 m 0 q1) q2 20 16 k q2 i := fun k i => by rw [hw, up_a _ _ _ s2.symm, newA_o n3, up_a _ _ _ s2.symm]
  have g3 : ∀ (k : Nat) (i : Int), w' k q3 i = newA (up (newA (up (newA w q1 20 16) 21 m 0 q1) q2 20 16) 22 m 0 q2) q3 20 16 k q3 i := fun k i => by rw [hw, up_a _ _ _ s3.symm]
  refine ⟨_, a3, ⟨by rw [em 0 (by decide) (by decide) (by decide)]; exact ts, ?_⟩, ?_, ?_, ?_, by rw [em 62 (by decide) (by decide) (by decide)]; exact hz 62 (by decide)⟩
  · dsimp only; rw [if_neg s3, if_neg s2, if_neg s1]; exact hb
  · rw [e21]
    refine ⟨⟨by rw [g1, newA_t], by rw [g1, newA_n], ?_⟩, fun j => by rw [g1, g1, newA_1 (Or.inl rfl), newA_1 (Or.inr rfl)]; exact ⟨rfl, rfl⟩⟩
    dsimp only; rw [if_neg n2, if_neg n1, if_pos rfl]
  · rw [e22]
    refine ⟨⟨by rw [g2, newA_t], by rw [g2, newA_n], ?_⟩, fun j => by rw [g2, g2, newA_1 (Or.inl rfl), newA_1 (Or.inr rfl)]; exact ⟨rfl, rfl⟩⟩
    dsimp only; rw [if_neg n3, if_pos rfl]
  · rw [e23]
    refine ⟨⟨by rw [g3, newA_t], by rw [g3, newA_n], ?_⟩, fun j => by rw [g3, g3, newA_1 (Or.inl rfl), newA_1 (Or.inr rfl)]; exact ⟨rfl, rfl⟩⟩
    dsimp only; rw [if_pos rfl]
/-- the first node is made -/
theorem NW.nd {x q1 q2 a1 a2 a3 a4 : Int} (hk : KPc c w) (h : NWN w w' x q1 q2 a1 a2 a3 a4 0 0 0) : ∃ c', NW x c c' w w' ∧ FNd c' w' x := by
  obtain ⟨⟨⟨x1, x2⟩, ⟨y1, y2⟩, ⟨z1, z2⟩, ⟨b1, b2⟩, ⟨b3, b4⟩, ⟨b5, b6⟩, b7, b8⟩, ⟨⟨n1, n2, n3, n4, n5, n6⟩, ⟨n7, n8, n9, n10, n11⟩, ⟨n12, n13, n14, n15⟩, ⟨n16, n17, n18⟩, ⟨n19, n20⟩, n21⟩, ho, ⟨t1, t2, t3, t4, t5, t6, t7, t8, t9⟩, ⟨r1, r2, r3, r4, r5⟩, ⟨v1, v2, v3, v4, v5, v6⟩, ⟨l1, l2, l3⟩, ⟨l4, l5, l6⟩, ⟨l7, l8, l9⟩, l10, l11⟩ := h
  have nn : ∀ a y : Int, w 0 a 0 ≠ 0 → w 0 y 0 = 0 → a ≠ y := fun a y p q e => by rw [e] at p; exact p q
  obtain ⟨c2, hc2⟩ : ∃ k : Int → Int, k = (fun a => if a = x then 1000 else if a = q1 then 1006 else if a = q2 then 1001 else if a = a4 then 1002 else if a = a1 then 1003 else if a = a2 then 1004 else if a = a3 then 1005 else c a) := ⟨_, rfl⟩
  have cx : c2 x = 1000 := by rw [hc2]; exact if_pos rfl
  have cq1 : c2 q1 = 1006 := by rw [hc2]; dsimp only; rw [if_neg n1.symm, if_pos rfl]
  have cq2 : c2 q2 = 1001 := by rw [hc2]; dsimp only; rw [if_neg n2.symm, if_neg n7.symm, if_pos rfl]
  have c4 : c2 a4 = 1002 := by rw [hc2]; dsimp only; rw [if_neg n6.symm, if_neg n11.symm, if_neg n15.symm, if_pos rfl]
  have c1 : c2 a1 = 1003 := by rw [hc2]; dsimp only; rw [if_neg n3.symm, if_neg n8.symm, if_neg n12.symm, if_neg n18, if_pos rfl]
  have c22 : c2 a2 = 1004 := by rw [hc2]; dsimp only; rw [if_neg n4.symm, if_neg n9.symm, if_neg n13.symm, if_neg n20, if_neg n16.symm, if_pos rfl]
  have c3 : c2 a3 = 1005 := by rw [hc2]; dsimp only; rw [if_neg n5.symm, if_neg n10.symm, if_neg n14.symm, if_neg n21, if_neg n17.symm, if_neg n19.symm, if_pos rfl]
  have co : ∀ a, a ≠ x → a ≠ q1 → a ≠ q2 → a ≠ a1 → a ≠ a2 → a ≠ a3 → a ≠ a4 → c2 a = c a := fun a e1 e2 e3 e4 e5 e6 e7 => by
    rw [hc2]; dsimp only; rw [if_neg e1, if_neg e2, if_neg e3, if_neg e7, if_neg e4, if_neg e5, if_neg e6]
  refine ⟨c2, ⟨fun a ha => co a (nn a x ha x2) (nn a q1 ha y2) (nn a q2 ha z2) (nn a a1 ha b2) (nn a a2 ha b4) (nn a a3 ha b6) (nn a a4 ha b8), ⟨fun a ha => ?_, fun a => ?_⟩, fun k a i ha _ => ho k a i (nn a x ha x2) (nn a q1 ha y2) (nn a q2 ha z2) (nn a a1 ha b2) (nn a a2 ha b4) (nn a a3 ha b6) (nn a a4 ha b8), fun k i => ho k 0 i (by omega) (by omega) (by omega) (by omega) (by omega) (by omega) (by omega)⟩, ⟨⟨⟨t1, cx⟩, t2⟩, ⟨?_, ?_⟩, ⟨?_, ?_⟩, t5, t7, t8, t9, t6⟩⟩
  · have g : ∀ y t : Int, w' 0 y 0 = t → t ≠ 0 → a ≠ y := fun y t p q e => by rw [e, p] at ha; exact q ha
    have e1 := g x 5 t1 (by decide)
    have e2 := g q1 8 r1 (by decide)
    have e3 := g q2 6 v1 (by decide)
    have e4 := g a1 20 l1 (by decide)
    have e5 := g a2 21 l4 (by decide)
    have e6 := g a3 23 l7 (by decide)
    have e7 := g a4 20 l10 (by decide)
    rw [co a e1 e2 e3 e4 e5 e6 e7]
    exact hk.1 a (by rw [← ho 0 a 0 e1 e2 e3 e4 e5 e6 e7]; exact ha)
  · by_cases e1 : a = x
    · rw [e1, t1]; decide
    · by_cases e2 : a = q1
      · rw [e2, r1]; decide
      · by_cases e3 : a = q2
        · rw [e3, v1]; decide
        · by_cases e4 : a = a1
          · rw [e4, l1]; decide
          · by_cases e5 : a = a2
            · rw [e5, l4]; decide
            · by_cases e6 : a = a3
              · rw [e6, l7]; decide
              · by_cases e7 : a = a4
                · rw [e7, l10]; decide
                · rw [ho 0 a 0 e1 e2 e3 e4 e5 e6 e7]; exact hk.2 a
  · rw [t3]
    exact ⟨⟨v1, cq2⟩, by rw [v2]; exact ⟨l10, c4⟩, by rw [v3]; exact ⟨l1, l2, c1⟩, by rw [v4]; exact ⟨l4, l5, c22⟩, by rw [v5]; exact ⟨l7, l8, c3⟩⟩
  · rw [t3]
    refine ⟨v6, by rw [v2, l11]; rfl, fun j j0 => ⟨fun j1 => by rw [v3, v4]; exact ⟨l3 j j0 j1, l6 j⟩, by rw [v5]; exact l9 j⟩⟩
  · rw [t4]; exact ⟨r1, cq1⟩
  · rw [t4]; exact ⟨r2, r3, r4, r5⟩
/-- the first node comes into the list -/
theorem NW.ad {l x : Int} (hk : KPc c w) (ho : OBt c w l 15 42) (hx : w 0 x 0 ≠ 0) (h0 : 0 < l) (h92 : w 92 l 0 = 0) (hp : ∃ q, (0 < q ∧ w 0 q 0 = 0) ∧ w' = up (up (up (newA (up w 92 l 0 (0 + 1)) q 27 10) 51 l 0 q) 3 q 0 x) 93 l 0 (0 + 1)) :
    ∃ c', NW l c c' w w' ∧ OBt c' w' l 15 42 ∧ OBt c' w' (w' 51 l 0) 27 43 ∧ (w' 93 l 0 = 1 ∧ w' 92 l 0 = 1 ∧ w' 2 (w' 51 l 0) 0 = 10 ∧ w' 3 (w' 51 l 0) 0 = x) := by
  obtain ⟨q, ⟨q0, q1⟩, hw⟩ := hp
  obtain ⟨ts, hb⟩ := ho
  have s1 : l ≠ q := fun e => by rw [e] at ts; omega
  have a1 := (((((NW.refl (x := l) hk).p (k := 92) (i := 0) (v := 0 + 1) (Or.inl rfl) (by omega) (by decide)).A (b := 43) (tg := 27) (n := 10) q0 (by rw [up_k _ (by decide)]; exact q1) (by decide)).p (k := 51) (i := 0) (v := q) (Or.inl rfl) (by omega) (by decide)).p (k := 3) (y := q) (i := 0) (v := x) (Or.inr q1) (by omega) (by decide)).p (k := 93) (i := 0) (v := 0 + 1) (Or.inl rfl) (by omega) (by decide)
  rw [← hw] at a1
  have e51 : w' 51 l 0 = q := by rw [hw, up_k _ (by decide), up_k _ (by decide), up_s]
  refine ⟨_, a1, ⟨?_, ?_⟩, ⟨?_, ?_⟩, ?_, ?_, ?_, ?_⟩
  · rw [hw, up_k _ (by decide), up_k _ (by decide), up_k _ (by decide), newA_o s1, up_k _ (by decide)]; exact ts
  · dsimp only; rw [if_neg s1]; exact hb
  · rw [e51, hw, up_k _ (by decide), up_k _ (by decide), up_k _ (by decide), newA_t]
  · rw [e51]; dsimp only; rw [if_pos rfl]
  · rw [hw, up_s]; rfl
  · rw [hw, up_k _ (by decide), up_k _ (by decide), up_k _ (by decide), newA_o s1, up_s]; rfl
  · rw [e51, hw, up_k _ (by decide), up_k _ (by decide), up_k _ (by decide), newA_n]
  · rw [e51, hw, up_k _ (by decide), up_s]
/-- i traces have come -/
def TRi (T : Int) (c0 : Int → Int) (w0 : Mm) (i : Int) (W : Mm) : Prop :=
  ∃ c', NW T c0 c' w0 W ∧ OBt c' W T 10 52 ∧ (W 0 (W 37 T 0) 0 = 26 ∧ W 2 (W 37 T 0) 0 = 8 ∧ c' (W 37 T 0) = 53) ∧ w0 0 (W 37 T 0) 0 = 0 ∧ (∀ j, 0 ≤ j → j < i → W 0 (W 3 (W 37 T 0) j) 0 = 9 ∧ c' (W 3 (W 37 T 0) j) = 54 + j) ∧ W 77 T 0 = 0
theorem TRi.nx {c0 : Int → Int} {w0 W : Mm} (h : TRi T c0 w0 i W) (hi : 0 ≤ i) (hq : 0 < q) (h0 : W 0 q 0 = 0) : TRi T c0 w0 (i + 1) (up (newO W q 9) 3 (W 37 T 0) i q) := by
  obtain ⟨c', N, ⟨h1, h2⟩, ⟨h3, h4, h5⟩, h6, h7, h8⟩ := h
  have s1 : T ≠ q := fun e => by rw [e] at h1; omega
  have s2 : W 37 T 0 ≠ q := fun e => by rw [e] at h3; omega
  have s3 : W 37 T 0 ≠ T := fun e => by rw [e] at h3; omega
  have e37 : up (newO W q 9) 3 (W 37 T 0) i q 37 T 0 = W 37 T 0 := by rw [up_k _ (by decide), newO_o s1]
  have N2 := (N.O (b := 54 + i) (tg := 9) hq h0 (by decide)).p (k := 3) (y := W 37 T 0) (i := i) (v := q) (Or.inr h6) (fun e => by have z := N.2.2.2 0 0; rw [e] at h3 h6; omega) (by decide)
  refine ⟨_, N2, ⟨?_, ?_⟩, ?_, by rw [e37]; exact h6, fun j j0 j1 => ?_, ?_⟩
  · rw [up_k _ (by decide), newO_o s1]; exact h1
  · dsimp only; rw [if_neg s1]; exact h2
  · rw [e37, up_k _ (by decide), newO_o s2, up_k _ (by decide), newO_o s2]
    refine ⟨h3, h4, ?_⟩
    rw [if_neg s2]; exact h5
  · rw [e37]
    by_cases e : j = i
    · subst e
      rw [up_s, up_k _ (by decide), newO_t]
      refine ⟨rfl, ?_⟩
      rw [if_pos rfl]
    · obtain ⟨z1, z2⟩ := h7 j j0 (by omega)
      have s4 : W 3 (W 37 T 0) j ≠ q := fun x => by rw [x] at z1; omega
      rw [up_i _ _ _ _ _ _ e, newO_o s2, up_k _ (by decide), newO_o s4]
      refine ⟨z1, ?_⟩
      rw [if_neg s4]; exact z2
  · rw [up_k _ (by decide), newO_o s1]; exact h8
end FRF
