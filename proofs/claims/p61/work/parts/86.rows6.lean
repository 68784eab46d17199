/-! ROWS OF THE CLASS, fifth part: nodes moved in an array of objects -/
/-- n references of the array a from sp on come into the array b from dp on -/
def cpQ (w : Mm) (a b sp dp n : Int) : Mm := flA w 3 b dp n (fun i => w 3 a (i - dp + sp))
theorem cpQ_k {w : Mm} {c' : Nat} {a b sp dp n x i : Int} (h : c' ≠ 3) : cpQ w a b sp dp n c' x i = w c' x i := flA_k h
theorem cpQ_a {w : Mm} {c' : Nat} {a b sp dp n x i : Int} (h : x ≠ b) : cpQ w a b sp dp n c' x i = w c' x i := flA_a h
section XK5
variable {κ : KC} {P S : Nat} {w : Mm} {pc : Nat} {ls : List (Option Value)} {st : List Value} {own : String} {cc : ByteArray} {d : Nat}
theorem X_copyq (np : Nat) (hO : Ok κ own cc) {ix : Nat} (hl : Cond.methodLink own ix arraycopyName ∈ lwG) {a b sp dp n : Int} {rest : List Value} (dg : decode cc pc = .ok (.invokestatic ix, 3)) (hn : np = pc + 3) (ta : w 0 a 0 = 27) (tb : w 0 b 0 = 27) (h1 : 0 ≤ sp ∧ sp + n ≤ w 2 a 0) (h2 : 0 ≤ dp ∧ dp + n ≤ w 2 b 0) (h3 : 0 ≤ n) (hE : ∀ i, sp ≤ i → i < sp + n → w 3 a i = 0 ∨ w 0 (w 3 a i) 0 = 5) (hD : Dp κ d) (hd : 1 ≤ d) (hrest : (rest.map fun v => v.category).sum ≤ 8) (kk : X κ P S (cpQ w a b sp dp n) np ls rest) : X κ P S w pc ls (.int (I n) :: .int (I dp) :: rv b :: .int (I sp) :: rv a :: rest) := by
  subst hn
  intro H locs la k m q1 q2 q3 q4 q5 q6
  obtain ⟨a0, a1⟩ := zpos q1 (t := 27) ta (by decide)
  obtain ⟨b0, b1⟩ := zpos q1 (t := 27) tb (by decide)
  rw [rv_pos a0, rv_pos b0]
  have ia : IR (w 2 a 0) := q1.1 2 a 0 rfl
  have ib : IR (w 2 b 0) := q1.1 2 b 0 rfl
  have i1 : IR sp := by omega
  have i2 : IR dp := by omega
  have i3 : IR n := by omega
  have hz : IR 0 := by omega
  have ta' : w 0 (a.toNat : Nat) 0 = ((27 : Nat) : Int) := by rw [a1]; exact ta
  have tb' : w 0 (b.toNat : Nat) 0 = ((27 : Nat) : Int) := by rw [b1]; exact tb
  have hk0 : ∀ c : Nat, cpQ w a b sp dp n 0 c 0 = w 0 c 0 := fun c => flA_k (by decide)
  have tb2 : cpQ w a b sp dp n 0 (b.toNat : Nat) 0 = ((27 : Nat) : Int) := by rw [hk0]; exact tb'
  obtain ⟨L, qa, qb, hP, hDd, hqa, hqb, hset⟩ := q2.two (a := a.toNat) (b := b.toNat) (w1 := cpQ w a b sp dp n) (by rw [ta']; decide) (by rw [tb']; decide) hk0 (fun c hc hc0 => cf_congr (fun k i => flA_a (by omega)) (fun k i hk2 _ => flA_k (by omega)))
  rw [cf_refs ta' (by decide) (by decide), a1] at hqa
  rw [cf_refs tb' (by decide) (by decide), b1] at hqb
  rw [cf_refs tb2 (by decide) (by decide), b1] at hset
  have hlen : (cpQ w a b sp dp n 2 b 0) = w 2 b 0 := flA_k (by decide)
  have hfun : (fun j : Nat => ro (cpQ w a b sp dp n 3 b j)) = va_cpy (fun j : Nat => ro (w 3 a j)) (fun j : Nat => ro (w 3 b j)) (I sp).toNatClampNeg (I dp).toNatClampNeg (I n).toNatClampNeg := by
    funext j
    rw [I_clamp i1, I_clamp i2, I_clamp i3]
    unfold cpQ va_cpy
    rw [flA_v]
    by_cases c : dp ≤ (j : Int) ∧ (j : Int) < dp + n
    · rw [if_pos c, if_pos (by omega)]
      congr 2; omega
    · rw [if_neg c, if_neg (by omega)]
  rw [hlen, hfun] at hset
  have hw1 : WI (cpQ w a b sp dp n) := by
    refine ⟨fun c x i hc => ?_, fun z hz0 => ?_, fun x y e hx => ?_⟩
    · unfold cpQ flA
      by_cases e : c = 3 ∧ x = b ∧ dp ≤ i ∧ i < dp + n
      · rw [e.1] at hc; cases hc
      · rw [if_neg e]; exact q1.1 c x i hc
    · have e : cpQ w a b sp dp n 0 z 0 = w 0 z 0 := flA_k (by decide)
      rw [e] at hz0 ⊢; exact q1.2.1 z hz0
    · have e1 : ∀ z, cpQ w a b sp dp n 0 z 0 = w 0 z 0 := fun z => flA_k (by decide)
      rw [e1, e1] at e
      rw [e1] at hx
      exact q1.2.2 x y e hx
  have h9 : nativeFrameWords "java/lang/System" "arraycopy" 5 + 11 ≤ 50 := by decide +kernel
  have hca := hO.2.2.2.2.2.2.2.2.2.2.2.2.2.2.2.1 ("Foldback$Node", "java/lang/Object") (by decide)
  refine va_copyq hO.1 hO.2.1 (hO.2.2.1.trans q4.1.symm) hO.2.2.2.1 (hO.w hl) (hO.w w_397) (hO.w w_396) (hO.w w_135) hO.2.2.2.2.2.2.1 hP hDd q3 qa qb 7 7 (E0 := "java/lang/Object") (E1 := "java/lang/Object") (C := "Foldback$Node") hqa hqb rfl rfl (fun q => absurd ((I_lt i1 hz).mp q) (by omega)) (fun q => absurd ((I_lt i2 hz).mp q) (by omega)) (fun q => absurd ((I_lt i3 hz).mp q) (by omega)) (by rw [I_clamp i1, I_clamp i3]; omega) (by rw [I_clamp i2, I_clamp i3]; omega) (fun i hi y hy => ?_) (fun comp c0 g1 g2 => ?_) (by have := hD.1; omega) (by have := hD.2; omega) dg (fun H1 l1 r1 r2 r3 => kk H1 l1 la k m hw1 (hset H1 r1 r2) r3 q4 q5 q6)
  · rw [I_clamp i3] at hi
    rw [I_clamp i1] at hy
    have hy' : ro (w 3 a ((sp.toNat + i : Nat) : Int)) = some y := hy
    unfold ro at hy'
    split at hy'
    · cases hy'
    · have e := (hE ((sp.toNat + i : Nat) : Int) (by omega) (by omega)).resolve_left (by assumption)
      cases hy'
      exact recv_at hO q1 q2 (t := 5) (by decide) (by decide) rfl e
  · obtain ⟨c1, t1, f1, f2, f3⟩ := Cond.castable_spec (va_Nw.use (A := ka κ) rfl hca)
    cases g2.symm.trans f1
    cases g1.symm.trans f2
    exact f3
end XK5
