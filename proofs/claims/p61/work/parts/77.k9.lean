/-! listeners' looks, lists of commands, traces side by side -/
def pw (c : Int) : Int := (((2 : Nat) ^ c.toNat : Nat) : Int)
def sbt (v c : Int) : Int := if v / pw c % 2 = 1 then v else v + pw c
theorem bt_all : ∀ c : Fin 9, ∀ v : Fin 512, (I (v.val : Int) ||| I (pw (c.val : Int)) = I (sbt v.val c.val)) ∧ (0 ≤ sbt v.val c.val ∧ sbt v.val c.val < 512) ∧ (I (v.val : Int) >>> (I (c.val : Int) &&& 31) = I ((v.val : Int) / pw c.val)) ∧ (I ((v.val : Int) / pw c.val) &&& I 1 = I ((v.val : Int) / pw c.val % 2)) := by decide +kernel
theorem bt_shl : ∀ c : Fin 9, I 1 <<< (I (c.val : Int) &&& 31) = I (pw c.val) := by decide +kernel
theorem bt_i {v c : Int} (hv : 0 ≤ v ∧ v < 512) (hc : 0 ≤ c ∧ c ≤ 8) : (I v ||| I (pw c) = I (sbt v c)) ∧ (0 ≤ sbt v c ∧ sbt v c < 512) ∧ (I v >>> (I c &&& 31) = I (v / pw c)) ∧ (I (v / pw c) &&& I 1 = I (v / pw c % 2)) ∧ I 1 <<< (I c &&& 31) = I (pw c) := by
  have h1 := bt_all ⟨c.toNat, by omega⟩ ⟨v.toNat, by omega⟩
  have h2 := bt_shl ⟨c.toNat, by omega⟩
  simp only [show ((c.toNat : Nat) : Int) = c by omega, show ((v.toNat : Nat) : Int) = v by omega] at h1 h2
  exact ⟨h1.1, h1.2.1, h1.2.2.1, h1.2.2.2, h2⟩
def c_tk (m o : Int) (w : Mm) (j : Int) : Mm := up (flA (flA (flA w 1 (w 21 m 0) 0 j (fun i => w 1 (w 21 o 0) i)) 1 (w 22 m 0) 0 j (fun i => w 1 (w 22 o 0) i)) 1 (w 23 m 0) 0 j (fun i => w 1 (w 23 o 0) i)) 62 m 0 j
theorem c_tk_k {m o : Int} {w : Mm} {j a i : Int} {k : Nat} (h1 : k ≠ 1) (h2 : k ≠ 62) : c_tk m o w j k a i = w k a i := by
  unfold c_tk; rw [up_k _ h2, flA_k h1, flA_k h1, flA_k h1]
theorem c_tk_a {m o : Int} {w : Mm} {j a i : Int} {k : Nat} (h0 : a ≠ m) (h1 : a ≠ w 21 m 0) (h2 : a ≠ w 22 m 0) (h3 : a ≠ w 23 m 0) : c_tk m o w j k a i = w k a i := by
  unfold c_tk; rw [up_a _ _ _ h0, flA_a h3, flA_a h2, flA_a h1]
theorem c_tk_s {m o : Int} {w : Mm} {j : Int} (hj : 0 ≤ j ∧ j < 16) (h1 : w 21 m 0 ≠ w 22 m 0) (h2 : w 21 m 0 ≠ w 23 m 0) (h3 : w 22 m 0 ≠ w 23 m 0) : c_app m (w 1 (w 21 o 0) j) (w 1 (w 22 o 0) j) (w 1 (w 23 o 0) j) (c_tk m o w j) = c_tk m o w (j + 1) := by
  have e : c_tk m o w j 62 m 0 = j := by unfold c_tk; rw [up_s]
  unfold c_app
  rw [e, if_pos hj.2, c_tk_k (by decide) (by decide), c_tk_k (by decide) (by decide), c_tk_k (by decide) (by decide)]
  unfold c_tk
  rw [up_comm (c := 62) (c' := 1) (Or.inl (by decide)), up_comm (c := 62) (c' := 1) (Or.inl (by decide)), up_comm (c := 62) (c' := 1) (Or.inl (by decide)), up_up,
    flA_up (b := w 23 m 0) (a := w 21 m 0) (Or.inr h2), flA_up (b := w 22 m 0) (a := w 21 m 0) (Or.inr h1), flA_e hj.1 rfl, flA_up (b := w 23 m 0) (a := w 22 m 0) (Or.inr h3), flA_e hj.1 rfl, flA_e hj.1 rfl]
def TrT (w : Mm) (T : Int) : Prop := w 0 T 0 = 10 ∧ w 0 (w 37 T 0) 0 = 26 ∧ w 2 (w 37 T 0) 0 = 8 ∧ (0 ≤ w 77 T 0 ∧ w 77 T 0 ≤ 8)
def TrX (w : Mm) (T : Int) : Prop := (∀ i, 0 ≤ i → i < 8 → w 0 (w 3 (w 37 T 0) i) 0 = 9) ∧ ∀ i j, 0 ≤ i → i < 8 → 0 ≤ j → j < 8 → i ≠ j → w 3 (w 37 T 0) i ≠ w 3 (w 37 T 0) j
def TrB (w : Mm) (T : Int) : Prop := ∀ i, 0 ≤ i → i < 8 → (-1000000000 ≤ w 73 (w 3 (w 37 T 0) i) 0 ∧ w 73 (w 3 (w 37 T 0) i) 0 ≤ 1000000000) ∧ (-1000000000 ≤ w 74 (w 3 (w 37 T 0) i) 0 ∧ w 74 (w 3 (w 37 T 0) i) 0 ≤ 1000000000) ∧ (0 ≤ w 76 (w 3 (w 37 T 0) i) 0 ∧ w 76 (w 3 (w 37 T 0) i) 0 < 512)
theorem tr_meet_k {x k p n : Int} {w : Mm} {c : Nat} {a i : Int} (h1 : c ≠ 73) (h2 : c ≠ 74) (h3 : c ≠ 75) : tr_meet x k p n w c a i = w c a i := by
  unfold tr_meet tr_ins tr_del tr_shift
  repeat (first | rfl | (rw [up_k _ h3]) | (rw [up_k _ h2, up_k _ h1]) | split)
theorem tr_meet_a {x k p n : Int} {w : Mm} {c : Nat} {a i : Int} (h : a ≠ x) : tr_meet x k p n w c a i = w c a i := by
  unfold tr_meet tr_ins tr_del tr_shift
  repeat (first | rfl | (rw [up_a _ _ _ h]) | split)
def ts_met (x : Int → Int) (k p n : Int) (w : Mm) : Nat → Mm
  | 0 => w
  | c + 1 => tr_meet (x c) k p n (ts_met x k p n w c)
theorem ts_met_k {x : Int → Int} {k p n : Int} {w : Mm} {c : Nat} {a i : Int} (h1 : c ≠ 73) (h2 : c ≠ 74) (h3 : c ≠ 75) : ∀ {j : Nat}, ts_met x k p n w j c a i = w c a i
  | 0 => rfl
  | j + 1 => (tr_meet_k h1 h2 h3).trans (ts_met_k h1 h2 h3)
theorem ts_met_a {x : Int → Int} {k p n : Int} {w : Mm} {c : Nat} {a i : Int} : ∀ {j : Nat}, (∀ m : Nat, m < j → a ≠ x m) → ts_met x k p n w j c a i = w c a i
  | 0, _ => rfl
  | j + 1, h => (tr_meet_a (h j (by omega))).trans (ts_met_a (fun m hm => h m (by omega)))
theorem ts_met_s {x : Int → Int} {k p n : Int} {w : Mm} {j : Int} (hj : 0 ≤ j) : tr_meet (x j) k p n (ts_met x k p n w j.toNat) = ts_met x k p n w (j + 1).toNat := by
  rw [show (j + 1).toNat = j.toNat + 1 by omega]
  show _ = tr_meet (x (j.toNat : Int)) k p n _
  rw [show ((j.toNat : Nat) : Int) = j by omega]
def ts_o1 (x : Int) (q k p n : Int) (W : Mm) : Mm := if tr_meet x k p n W 73 x 0 < W 73 x 0 then up (tr_meet x k p n W) 76 x 0 (sbt (tr_meet x k p n W 76 x 0) q) else tr_meet x k p n W
def ts_own (x : Int → Int) (q k p n : Int) (w : Mm) : Nat → Mm
  | 0 => w
  | c + 1 => ts_o1 (x c) q k p n (ts_own x q k p n w c)
theorem ts_o1_k {x q k p n : Int} {w : Mm} {c : Nat} {a i : Int} (h1 : c ≠ 73) (h2 : c ≠ 74) (h3 : c ≠ 75) (h4 : c ≠ 76) : ts_o1 x q k p n w c a i = w c a i := by
  unfold ts_o1; split <;> (try rw [up_k _ h4]) <;> exact tr_meet_k h1 h2 h3
theorem ts_o1_a {x q k p n : Int} {w : Mm} {c : Nat} {a i : Int} (h : a ≠ x) : ts_o1 x q k p n w c a i = w c a i := by
  unfold ts_o1; split <;> (try rw [up_a _ _ _ h]) <;> exact tr_meet_a h
theorem ts_own_k {x : Int → Int} {q k p n : Int} {w : Mm} {c : Nat} {a i : Int} (h1 : c ≠ 73) (h2 : c ≠ 74) (h3 : c ≠ 75) (h4 : c ≠ 76) : ∀ {j : Nat}, ts_own x q k p n w j c a i = w c a i
  | 0 => rfl
  | j + 1 => (ts_o1_k h1 h2 h3 h4).trans (ts_own_k h1 h2 h3 h4)
theorem ts_own_a {x : Int → Int} {q k p n : Int} {w : Mm} {c : Nat} {a i : Int} : ∀ {j : Nat}, (∀ m : Nat, m < j → a ≠ x m) → ts_own x q k p n w j c a i = w c a i
  | 0, _ => rfl
  | j + 1, h => (ts_o1_a (h j (by omega))).trans (ts_own_a (fun m hm => h m (by omega)))
theorem ts_own_s {x : Int → Int} {q k p n : Int} {w : Mm} {j : Int} (hj : 0 ≤ j) : ts_o1 (x j) q k p n (ts_own x q k p n w j.toNat) = ts_own x q k p n w (j + 1).toNat := by
  rw [show (j + 1).toNat = j.toNat + 1 by omega]
  show _ = ts_o1 (x (j.toNat : Int)) q k p n _
  rw [show ((j.toNat : Nat) : Int) = j by omega]
theorem dX2_firstToFind_0 : decode cX2_firstToFind 0 = .ok (.iconst (-1), 1) := by decide +kernel
theorem dX2_firstToFind_1 : decode cX2_firstToFind 1 = .ok (.istore_n 2, 1) := by decide +kernel
theorem dX2_firstToFind_2 : decode cX2_firstToFind 2 = .ok (.iconst 0, 1) := by decide +kernel
theorem dX2_firstToFind_3 : decode cX2_firstToFind 3 = .ok (.istore_n 3, 1) := by decide +kernel
theorem dX2_firstToFind_4 : decode cX2_firstToFind 4 = .ok (.iload_n 3, 1) := by decide +kernel
theorem dX2_firstToFind_5 : decode cX2_firstToFind 5 = .ok (.iconst 3, 1) := by decide +kernel
theorem dX2_firstToFind_6 : decode cX2_firstToFind 6 = .ok (.if_icmp .ge 71, 3) := by decide +kernel
theorem dX2_firstToFind_9 : decode cX2_firstToFind 9 = .ok (.aload_n 0, 1) := by decide +kernel
theorem dX2_firstToFind_10 : decode cX2_firstToFind 10 = .ok (.getfield 9, 3) := by decide +kernel
theorem dX2_firstToFind_13 : decode cX2_firstToFind 13 = .ok (.iload_n 3, 1) := by decide +kernel
theorem dX2_firstToFind_14 : decode cX2_firstToFind 14 = .ok (.baload, 1) := by decide +kernel
theorem dX2_firstToFind_15 : decode cX2_firstToFind 15 = .ok (.ifCond .eq 27, 3) := by decide +kernel
theorem dX2_firstToFind_18 : decode cX2_firstToFind 18 = .ok (.iload_n 2, 1) := by decide +kernel
theorem dX2_firstToFind_19 : decode cX2_firstToFind 19 = .ok (.iconst (-1), 1) := by decide +kernel
theorem dX2_firstToFind_20 : decode cX2_firstToFind 20 = .ok (.if_icmp .eq 18, 3) := by decide +kernel
theorem dX2_firstToFind_23 : decode cX2_firstToFind 23 = .ok (.aload_n 0, 1) := by decide +kernel
theorem dX2_firstToFind_24 : decode cX2_firstToFind 24 = .ok (.getfield 22, 3) := by decide +kernel
theorem dX2_firstToFind_27 : decode cX2_firstToFind 27 = .ok (.iload_n 3, 1) := by decide +kernel
theorem dX2_firstToFind_28 : decode cX2_firstToFind 28 = .ok (.iaload, 1) := by decide +kernel
theorem dX2_firstToFind_29 : decode cX2_firstToFind 29 = .ok (.aload_n 0, 1) := by decide +kernel
theorem dX2_firstToFind_30 : decode cX2_firstToFind 30 = .ok (.getfield 22, 3) := by decide +kernel
theorem dX2_firstToFind_33 : decode cX2_firstToFind 33 = .ok (.iload_n 2, 1) := by decide +kernel
theorem dX2_firstToFind_34 : decode cX2_firstToFind 34 = .ok (.iaload, 1) := by decide +kernel
theorem dX2_firstToFind_35 : decode cX2_firstToFind 35 = .ok (.if_icmp .ge 7, 3) := by decide +kernel
theorem dX2_firstToFind_38 : decode cX2_firstToFind 38 = .ok (.iconst 1, 1) := by decide +kernel
theorem dX2_firstToFind_39 : decode cX2_firstToFind 39 = .ok (.goto 4, 3) := by decide +kernel
theorem dX2_firstToFind_42 : decode cX2_firstToFind 42 = .ok (.iconst 0, 1) := by decide +kernel
theorem dX2_firstToFind_43 : decode cX2_firstToFind 43 = .ok (.istore 4, 2) := by decide +kernel
theorem dX2_firstToFind_45 : decode cX2_firstToFind 45 = .ok (.iload 4, 2) := by decide +kernel
theorem dX2_firstToFind_47 : decode cX2_firstToFind 47 = .ok (.ifCond .eq 24, 3) := by decide +kernel
theorem dX2_firstToFind_50 : decode cX2_firstToFind 50 = .ok (.aload_n 1, 1) := by decide +kernel
theorem dX2_firstToFind_51 : decode cX2_firstToFind 51 = .ok (.aload_n 0, 1) := by decide +kernel
theorem dX2_firstToFind_52 : decode cX2_firstToFind 52 = .ok (.getfield 15, 3) := by decide +kernel
theorem dX2_firstToFind_55 : decode cX2_firstToFind 55 = .ok (.iload_n 3, 1) := by decide +kernel
theorem dX2_firstToFind_56 : decode cX2_firstToFind 56 = .ok (.iaload, 1) := by decide +kernel
theorem dX2_firstToFind_57 : decode cX2_firstToFind 57 = .ok (.iconst 0, 1) := by decide +kernel
theorem dX2_firstToFind_58 : decode cX2_firstToFind 58 = .ok (.aload_n 1, 1) := by decide +kernel
theorem dX2_firstToFind_59 : decode cX2_firstToFind 59 = .ok (.getfield 41, 3) := by decide +kernel
theorem dX2_firstToFind_62 : decode cX2_firstToFind 62 = .ok (.invokevirtual 47, 3) := by decide +kernel
theorem dX2_firstToFind_65 : decode cX2_firstToFind 65 = .ok (.iconst (-1), 1) := by decide +kernel
theorem dX2_firstToFind_66 : decode cX2_firstToFind 66 = .ok (.if_icmp .eq 5, 3) := by decide +kernel
theorem dX2_firstToFind_69 : decode cX2_firstToFind 69 = .ok (.iload_n 3, 1) := by decide +kernel
theorem dX2_firstToFind_70 : decode cX2_firstToFind 70 = .ok (.istore_n 2, 1) := by decide +kernel
theorem dX2_firstToFind_71 : decode cX2_firstToFind 71 = .ok (.iinc 3 1, 3) := by decide +kernel
theorem dX2_firstToFind_74 : decode cX2_firstToFind 74 = .ok (.goto (-70), 3) := by decide +kernel
theorem dX2_firstToFind_77 : decode cX2_firstToFind 77 = .ok (.iload_n 2, 1) := by decide +kernel
theorem dX2_firstToFind_78 : decode cX2_firstToFind 78 = .ok (.ireturn, 1) := by decide +kernel
set_option maxRecDepth 4000 in
theorem kX2_firstToFind (γ : LC) (w : Mm) (L s : Int) (hL : LT w L) (hs : ST w s) (hz : SZ w s) : KI γ 3 mX2_firstToFind [rv L, rv s] w (0) (0) (fun r w' => r = l_ff w L s 3 0 (-1) ∧ w' = w) NX := by
  refine MX_of rfl rfl (by simp [rv_cat, int_cat]) rfl ?_
  rintro κ hO hF rfl
  have hD := hF.dp
  show X κ (0) (0) w 0 [some (rv L), some (rv s), none, none, none] []
  obtain ⟨t0, ⟨t1, t2, t3, t4, t5, t6⟩, ⟨u1, u2, u3, u4, u5, u6⟩⟩ := id hL
  have hs0 := hs.1
  obtain ⟨z1, z2, z3⟩ := id hz
  refine X_iconst 1 hO dX2_firstToFind_0 rfl ?_
  refine X_istore_n 2 hO dX2_firstToFind_1 rfl rfl ?_
  refine X_iconst 3 hO dX2_firstToFind_2 rfl ?_
  refine X_istore_n 4 hO dX2_firstToFind_3 rfl rfl ?_
  have LP4 : ∀ (nn : Nat) (j b : Int), (3 - j).toNat < nn → (0 ≤ j ∧ j ≤ 3) → (-1 ≤ b ∧ b < 3) → (l_ff w L s 3 0 (-1) = l_ff w L s (3 - j).toNat j b) → X κ (0) (0) (w) 4 [some (rv L), some (rv s), some (.int (I b)), some (.int (I j)), none] [] := by
    intro nn
    induction nn with
    | zero => intro j b hm; exact absurd hm (Nat.not_lt_zero _)
    | succ nn ih =>
      intro j b hm hj hb hE
      refine X_iload_n 5 hO dX2_firstToFind_4 rfl rfl ?_
      refine X_iconst 6 hO dX2_firstToFind_5 rfl ?_
      refine X_icmp_ge 9 77 hO dX2_firstToFind_6 rfl rfl (by omega) (by omega) (fun hc_6 => ?_) (fun hc_6 => ?_)
      ·
        refine X_iload_n 78 hO dX2_firstToFind_77 rfl rfl ?_
        exact X_iret hO hF rfl (by first | exact Or.inl rfl | exact Or.inr ⟨rfl, bi_01 _⟩ | exact Or.inr ⟨rfl, by omega⟩) dX2_firstToFind_78 ⟨_, rfl, (by omega), ⟨by rw [hE, show (3 - j).toNat = 0 by omega]; rfl, rfl⟩⟩
      ·
        have JP43 : ∀ (z : Int), (z = bi (w 1 (w 15 L 0) j ≠ 0 ∧ (b = -1 ∨ w 1 (w 18 L 0) j < w 1 (w 18 L 0) b))) → (0 ≤ z ∧ z ≤ 1) → X κ (0) (0) (w) 43 [some (rv L), some (rv s), some (.int (I b)), some (.int (I j)), none] [.int (I z)] := by
          intro z hq hqi
          refine X_istore 45 hO dX2_firstToFind_43 rfl rfl ?_
          refine X_iload 47 hO dX2_firstToFind_45 rfl rfl ?_
          refine X_if_eq 50 71 hO dX2_firstToFind_47 rfl rfl (by omega) (fun hc_47 => ?_) (fun hc_47 => ?_)
          ·
            have hcn := bi_0.mp (hq.symm.trans hc_47)
            have hb2 : b = (if (w 1 (w 15 L 0) j ≠ 0 ∧ (b = -1 ∨ w 1 (w 18 L 0) j < w 1 (w 18 L 0) b)) ∧ fnd (fun i => w 1 (w 28 s 0) i) (w 1 (w 16 L 0) j) (w 67 s 0).toNat 0 ≠ -1 then j else b) := (if_neg (fun h => hcn h.1)).symm
            refine X_iinc 74 hO dX2_firstToFind_71 rfl rfl ?_
            refine X_goto hO dX2_firstToFind_74 (tgt := 4) rfl ?_
            exact X_wk (by simp only [lwk, lset, true_or, or_true, and_self]) (ih (j + 1) _ (by omega) (by omega) (by omega) (hE.trans (l_ff_s (by omega) hb2)))
          ·
            have hcp := bi_ne.mp (fun h => hc_47 (hq.trans h))
            refine X_aload_n 51 hO dX2_firstToFind_50 rfl rfl ?_
            refine X_aload_n 52 hO dX2_firstToFind_51 rfl rfl ?_
            refine gX2_15 55 hO dX2_firstToFind_52 rfl (by first | assumption | omega | (simp (disch := first | decide | assumption | omega) only [up_k, up_s, up_a, up_i, flA_k, flA_a, flA_n, cpA_k, cpA_a, newO_o, newA_o, newO_t, newA_t, newA_n] <;> first | assumption | omega)) ?_
            try simp (disch := first | decide | assumption | omega) only [up_k, up_s, up_a, up_i, flA_k, flA_a, flA_n, cpA_k, cpA_a, newO_o, newA_o, newO_t, newA_t, newA_n]
            refine X_iload_n 56 hO dX2_firstToFind_55 rfl rfl ?_
            refine X_iald 57 hO dX2_firstToFind_56 rfl (by first | assumption | omega | (simp (disch := first | decide | assumption | omega) only [up_k, up_s, up_a, up_i, flA_k, flA_a, flA_n, cpA_k, cpA_a, newO_o, newA_o, newO_t, newA_t, newA_n] <;> first | assumption | omega)) (by first | assumption | omega | (simp (disch := first | decide | assumption | omega) only [up_k, up_s, up_a, up_i, flA_k, flA_a, flA_n, cpA_k, cpA_a, newO_o, newA_o, newO_t, newA_t, newA_n] <;> first | assumption | omega)) (fun hi_56 => ?_)
            try simp (disch := first | decide | assumption | omega) only [up_k, up_s, up_a, up_i, flA_k, flA_a, flA_n, cpA_k, cpA_a, newO_o, newA_o, newO_t, newA_t, newA_n] at hi_56 ⊢
            refine X_iconst 58 hO dX2_firstToFind_57 rfl ?_
            refine X_aload_n 59 hO dX2_firstToFind_58 rfl rfl ?_
            refine gX2_41 62 hO dX2_firstToFind_59 rfl (by first | assumption | omega | (simp (disch := first | decide | assumption | omega) only [up_k, up_s, up_a, up_i, flA_k, flA_a, flA_n, cpA_k, cpA_a, newO_o, newA_o, newO_t, newA_t, newA_n] <;> first | assumption | omega)) (fun hi_59 => ?_)
            try simp (disch := first | decide | assumption | omega) only [up_k, up_s, up_a, up_i, flA_k, flA_a, flA_n, cpA_k, cpA_a, newO_o, newA_o, newO_t, newA_t, newA_n] at hi_59 ⊢
            refine X_kVi (t := 6) 65 hO hD lX2_47 rfl (by decide) [_, _, _] rfl dX2_firstToFind_62 rfl (by first | assumption | omega | (simp (disch := first | decide | assumption | omega) only [up_k, up_s, up_a, up_i, flA_k, flA_a, flA_n, cpA_k, cpA_a, newO_o, newA_o, newO_t, newA_t, newA_n] <;> first | assumption | omega)) (kX5_indexOfSign _ _ _ _ _ _ hs hz (by omega) (by omega) (by omega)) (by decide) (by simp [rv_cat, int_cat]) (by first | decide | exact Nat.zero_le _ | omega) (by first | decide | exact Nat.zero_le _ | omega) (fun r_62 w_62 hr_62 hp_62 => ?_) (fun E w_ hx_ => hx_.elim)
            obtain ⟨e1_62, e2_62⟩ := hp_62
            rw [if_neg (by omega), if_neg (by omega), show w 67 s 0 - 0 = w 67 s 0 by omega] at e1_62
            subst r_62
            subst w_62
            refine X_iconst 66 hO dX2_firstToFind_65 rfl ?_
            refine X_icmp_eq 69 71 hO dX2_firstToFind_66 rfl rfl (by omega) (by omega) (fun hc_66 => ?_) (fun hc_66 => ?_)
            ·
              have hb2 : b = (if (w 1 (w 15 L 0) j ≠ 0 ∧ (b = -1 ∨ w 1 (w 18 L 0) j < w 1 (w 18 L 0) b)) ∧ fnd (fun i => w 1 (w 28 s 0) i) (w 1 (w 16 L 0) j) (w 67 s 0).toNat 0 ≠ -1 then j else b) := (if_neg (fun h => h.2 hc_66)).symm
              refine X_iinc 74 hO dX2_firstToFind_71 rfl rfl ?_
              refine X_goto hO dX2_firstToFind_74 (tgt := 4) rfl ?_
              exact X_wk (by simp only [lwk, lset, true_or, or_true, and_self]) (ih (j + 1) _ (by omega) (by omega) (by omega) (hE.trans (l_ff_s (by omega) hb2)))
            ·
              have hb2 : j = (if (w 1 (w 15 L 0) j ≠ 0 ∧ (b = -1 ∨ w 1 (w 18 L 0) j < w 1 (w 18 L 0) b)) ∧ fnd (fun i => w 1 (w 28 s 0) i) (w 1 (w 16 L 0) j) (w 67 s 0).toNat 0 ≠ -1 then j else b) := (if_pos ⟨hcp, hc_66⟩).symm
              refine X_iload_n 70 hO dX2_firstToFind_69 rfl rfl ?_
              refine X_istore_n 71 hO dX2_firstToFind_70 rfl rfl ?_
              refine X_iinc 74 hO dX2_firstToFind_71 rfl rfl ?_
              refine X_goto hO dX2_firstToFind_74 (tgt := 4) rfl ?_
              exact X_wk (by simp only [lwk, lset, true_or, or_true, and_self]) (ih (j + 1) _ (by omega) (by omega) (by omega) (hE.trans (l_ff_s (by omega) hb2)))
        refine X_aload_n 10 hO dX2_firstToFind_9 rfl rfl ?_
        refine gX2_9 13 hO dX2_firstToFind_10 rfl (by first | assumption | omega | (simp (disch := first | decide | assumption | omega) only [up_k, up_s, up_a, up_i, flA_k, flA_a, flA_n, cpA_k, cpA_a, newO_o, newA_o, newO_t, newA_t, newA_n] <;> first | assumption | omega)) ?_
        try simp (disch := first | decide | assumption | omega) only [up_k, up_s, up_a, up_i, flA_k, flA_a, flA_n, cpA_k, cpA_a, newO_o, newA_o, newO_t, newA_t, newA_n]
        refine X_iload_n 14 hO dX2_firstToFind_13 rfl rfl ?_
        refine X_zald 15 hO dX2_firstToFind_14 rfl (by first | assumption | omega | (simp (disch := first | decide | assumption | omega) only [up_k, up_s, up_a, up_i, flA_k, flA_a, flA_n, cpA_k, cpA_a, newO_o, newA_o, newO_t, newA_t, newA_n] <;> first | assumption | omega)) (by first | assumption | omega | (simp (disch := first | decide | assumption | omega) only [up_k, up_s, up_a, up_i, flA_k, flA_a, flA_n, cpA_k, cpA_a, newO_o, newA_o, newO_t, newA_t, newA_n] <;> first | assumption | omega)) (fun hi_14 => ?_)
        try simp (disch := first | decide | assumption | omega) only [up_k, up_s, up_a, up_i, flA_k, flA_a, flA_n, cpA_k, cpA_a, newO_o, newA_o, newO_t, newA_t, newA_n] at hi_14 ⊢
        refine X_if_eq 18 42 hO dX2_firstToFind_15 rfl rfl (by omega) (fun hc_15 => ?_) (fun hc_15 => ?_)
        ·
          refine X_iconst 43 hO dX2_firstToFind_42 rfl ?_
          exact JP43 _ (by first | exact bi_t (by omega) | exact bi_f (by omega)) (by omega)
        ·
          refine X_iload_n 19 hO dX2_firstToFind_18 rfl rfl ?_
          refine X_iconst 20 hO dX2_firstToFind_19 rfl ?_
          refine X_icmp_eq 23 38 hO dX2_firstToFind_20 rfl rfl (by omega) (by omega) (fun hc_20 => ?_) (fun hc_20 => ?_)
          ·
            refine X_iconst 39 hO dX2_firstToFind_38 rfl ?_
            refine X_goto hO dX2_firstToFind_39 (tgt := 43) rfl ?_
            exact JP43 _ (by first | exact bi_t (by omega) | exact bi_f (by omega)) (by omega)
          ·
            refine X_aload_n 24 hO dX2_firstToFind_23 rfl rfl ?_
            refine gX2_22 27 hO dX2_firstToFind_24 rfl (by first | assumption | omega | (simp (disch := first | decide | assumption | omega) only [up_k, up_s, up_a, up_i, flA_k, flA_a, flA_n, cpA_k, cpA_a, newO_o, newA_o, newO_t, newA_t, newA_n] <;> first | assumption | omega)) ?_
            try simp (disch := first | decide | assumption | omega) only [up_k, up_s, up_a, up_i, flA_k, flA_a, flA_n, cpA_k, cpA_a, newO_o, newA_o, newO_t, newA_t, newA_n]
            refine X_iload_n 28 hO dX2_firstToFind_27 rfl rfl ?_
            refine X_iald 29 hO dX2_firstToFind_28 rfl (by first | assumption | omega | (simp (disch := first | decide | assumption | omega) only [up_k, up_s, up_a, up_i, flA_k, flA_a, flA_n, cpA_k, cpA_a, newO_o, newA_o, newO_t, newA_t, newA_n] <;> first | assumption | omega)) (by first | assumption | omega | (simp (disch := first | decide | assumption | omega) only [up_k, up_s, up_a, up_i, flA_k, flA_a, flA_n, cpA_k, cpA_a, newO_o, newA_o, newO_t, newA_t, newA_n] <;> first | assumption | omega)) (fun hi_28 => ?_)
            try simp (disch := first | decide | assumption | omega) only [up_k, up_s, up_a, up_i, flA_k, flA_a, flA_n, cpA_k, cpA_a, newO_o, newA_o, newO_t, newA_t, newA_n] at hi_28 ⊢
            refine X_aload_n 30 hO dX2_firstToFind_29 rfl rfl ?_
            refine gX2_22 33 hO dX2_firstToFind_30 rfl (by first | assumption | omega | (simp (disch := first | decide | assumption | omega) only [up_k, up_s, up_a, up_i, flA_k, flA_a, flA_n, cpA_k, cpA_a, newO_o, newA_o, newO_t, newA_t, newA_n] <;> first | assumption | omega)) ?_
            try simp (disch := first | decide | assumption | omega) only [up_k, up_s, up_a, up_i, flA_k, flA_a, flA_n, cpA_k, cpA_a, newO_o, newA_o, newO_t, newA_t, newA_n]
            refine X_iload_n 34 hO dX2_firstToFind_33 rfl rfl ?_
            refine X_iald 35 hO dX2_firstToFind_34 rfl (by first | assumption | omega | (simp (disch := first | decide | assumption | omega) only [up_k, up_s, up_a, up_i, flA_k, flA_a, flA_n, cpA_k, cpA_a, newO_o, newA_o, newO_t, newA_t, newA_n] <;> first | assumption | omega)) (by first | assumption | omega | (simp (disch := first | decide | assumption | omega) only [up_k, up_s, up_a, up_i, flA_k, flA_a, flA_n, cpA_k, cpA_a, newO_o, newA_o, newO_t, newA_t, newA_n] <;> first | assumption | omega)) (fun hi_34 => ?_)
            try simp (disch := first | decide | assumption | omega) only [up_k, up_s, up_a, up_i, flA_k, flA_a, flA_n, cpA_k, cpA_a, newO_o, newA_o, newO_t, newA_t, newA_n] at hi_34 ⊢
            refine X_icmp_ge 38 42 hO dX2_firstToFind_35 rfl rfl (by omega) (by omega) (fun hc_35 => ?_) (fun hc_35 => ?_)
            ·
              refine X_iconst 43 hO dX2_firstToFind_42 rfl ?_
              exact JP43 _ (by first | exact bi_t (by omega) | exact bi_f (by omega)) (by omega)
            ·
              refine X_iconst 39 hO dX2_firstToFind_38 rfl ?_
              refine X_goto hO dX2_firstToFind_39 (tgt := 43) rfl ?_
              exact JP43 _ (by first | exact bi_t (by omega) | exact bi_f (by omega)) (by omega)
  exact LP4 _ 0 (-1) (Nat.lt_succ_self _) (by omega) (by omega) rfl
theorem dX3_takeList_0 : decode cX3_takeList 0 = .ok (.aload_n 0, 1) := by decide +kernel
theorem dX3_takeList_1 : decode cX3_takeList 1 = .ok (.iconst 0, 1) := by decide +kernel
theorem dX3_takeList_2 : decode cX3_takeList 2 = .ok (.putfield 21, 3) := by decide +kernel
theorem dX3_takeList_5 : decode cX3_takeList 5 = .ok (.iconst 0, 1) := by decide +kernel
theorem dX3_takeList_6 : decode cX3_takeList 6 = .ok (.istore_n 2, 1) := by decide +kernel
theorem dX3_takeList_7 : decode cX3_takeList 7 = .ok (.iload_n 2, 1) := by decide +kernel
theorem dX3_takeList_8 : decode cX3_takeList 8 = .ok (.aload_n 1, 1) := by decide +kernel
theorem dX3_takeList_9 : decode cX3_takeList 9 = .ok (.getfield 21, 3) := by decide +kernel
theorem dX3_takeList_12 : decode cX3_takeList 12 = .ok (.if_icmp .ge 31, 3) := by decide +kernel
theorem dX3_takeList_15 : decode cX3_takeList 15 = .ok (.aload_n 0, 1) := by decide +kernel
theorem dX3_takeList_16 : decode cX3_takeList 16 = .ok (.aload_n 1, 1) := by decide +kernel
theorem dX3_takeList_17 : decode cX3_takeList 17 = .ok (.getfield 9, 3) := by decide +kernel
theorem dX3_takeList_20 : decode cX3_takeList 20 = .ok (.iload_n 2, 1) := by decide +kernel
theorem dX3_takeList_21 : decode cX3_takeList 21 = .ok (.iaload, 1) := by decide +kernel
theorem dX3_takeList_22 : decode cX3_takeList 22 = .ok (.aload_n 1, 1) := by decide +kernel
theorem dX3_takeList_23 : decode cX3_takeList 23 = .ok (.getfield 15, 3) := by decide +kernel
theorem dX3_takeList_26 : decode cX3_takeList 26 = .ok (.iload_n 2, 1) := by decide +kernel
theorem dX3_takeList_27 : decode cX3_takeList 27 = .ok (.iaload, 1) := by decide +kernel
theorem dX3_takeList_28 : decode cX3_takeList 28 = .ok (.aload_n 1, 1) := by decide +kernel
theorem dX3_takeList_29 : decode cX3_takeList 29 = .ok (.getfield 18, 3) := by decide +kernel
theorem dX3_takeList_32 : decode cX3_takeList 32 = .ok (.iload_n 2, 1) := by decide +kernel
theorem dX3_takeList_33 : decode cX3_takeList 33 = .ok (.iaload, 1) := by decide +kernel
theorem dX3_takeList_34 : decode cX3_takeList 34 = .ok (.invokevirtual 25, 3) := by decide +kernel
theorem dX3_takeList_37 : decode cX3_takeList 37 = .ok (.iinc 2 1, 3) := by decide +kernel
theorem dX3_takeList_40 : decode cX3_takeList 40 = .ok (.goto (-33), 3) := by decide +kernel
theorem dX3_takeList_43 : decode cX3_takeList 43 = .ok (.return_, 1) := by decide +kernel
set_option maxRecDepth 4000 in
theorem kX3_takeList (γ : LC) (w : Mm) (m o : Int) (hm : MT w m) (ho : MT w o) (hmo : m ≠ o) (hd : ∀ x, x = w 21 o 0 ∨ x = w 22 o 0 ∨ x = w 23 o 0 → x ≠ w 21 m 0 ∧ x ≠ w 22 m 0 ∧ x ≠ w 23 m 0) : KV γ 2 mX3_takeList [rv m, rv o] w (0) (0) (fun w' => w' = c_tk m o w (w 62 o 0)) NX := by
  refine MX_of rfl rfl (by simp [rv_cat, int_cat]) rfl ?_
  rintro κ hO hF rfl
  have hD := hF.dp
  show X κ (0) (0) w 0 [some (rv m), some (rv o), none] []
  obtain ⟨t0, ⟨t1, t2, t3⟩, ⟨t4, t5, t6⟩, ⟨t7, t8, t9⟩, t10⟩ := id hm
  obtain ⟨u0, ⟨u1, u2, u3⟩, ⟨u4, u5, u6⟩, ⟨u7, u8, u9⟩, u10⟩ := id ho
  have hom := Ne.symm hmo
  obtain ⟨d1, d2, d3⟩ := hd _ (Or.inl rfl)
  obtain ⟨d4, d5, d6⟩ := hd _ (Or.inr (Or.inl rfl))
  obtain ⟨d7, d8, d9⟩ := hd _ (Or.inr (Or.inr rfl))
  have g1 : w 21 o 0 ≠ m := ne_tag u1 t0 (by decide)
  have g2 : w 22 o 0 ≠ m := ne_tag u2 t0 (by decide)
  have g3 : w 23 o 0 ≠ m := ne_tag u3 t0 (by decide)
  have f1 : o ≠ w 21 m 0 := ne_tag u0 t1 (by decide)
  have f2 : o ≠ w 22 m 0 := ne_tag u0 t2 (by decide)
  have f3 : o ≠ w 23 m 0 := ne_tag u0 t3 (by decide)
  refine X_aload_n 1 hO dX3_takeList_0 rfl rfl ?_
  refine X_iconst 2 hO dX3_takeList_1 rfl ?_
  refine pX3_21 5 hO dX3_takeList_2 rfl (by first | assumption | omega | (simp (disch := first | decide | assumption | omega) only [up_k, up_s, up_a, up_i, flA_k, flA_a, flA_n, cpA_k, cpA_a, newO_o, newA_o, newO_t, newA_t, newA_n, c_tk_k, c_tk_a] <;> first | assumption | omega)) (by omega) ?_
  refine X_iconst 6 hO dX3_takeList_5 rfl ?_
  refine X_istore_n 7 hO dX3_takeList_6 rfl rfl ?_
  have LP7 : ∀ (nn : Nat) (j : Int), (w 62 o 0 - j).toNat < nn → (0 ≤ j ∧ j ≤ w 62 o 0) → X κ (0) (0) (c_tk m o w j) 7 [some (rv m), some (rv o), some (.int (I j))] [] := by
    intro nn
    induction nn with
    | zero => intro j hm; exact absurd hm (Nat.not_lt_zero _)
    | succ nn ih =>
      intro j hm hj
      refine X_iload_n 8 hO dX3_takeList_7 rfl rfl ?_
      refine X_aload_n 9 hO dX3_takeList_8 rfl rfl ?_
      refine gX3_21 12 hO dX3_takeList_9 rfl (by first | assumption | omega | (simp (disch := first | decide | assumption | omega) only [up_k, up_s, up_a, up_i, flA_k, flA_a, flA_n, cpA_k, cpA_a, newO_o, newA_o, newO_t, newA_t, newA_n, c_tk_k, c_tk_a] <;> first | assumption | omega)) (fun hi_9 => ?_)
      try simp (disch := first | decide | assumption | omega) only [up_k, up_s, up_a, up_i, flA_k, flA_a, flA_n, cpA_k, cpA_a, newO_o, newA_o, newO_t, newA_t, newA_n, c_tk_k, c_tk_a] at hi_9 ⊢
      refine X_icmp_ge 15 43 hO dX3_takeList_12 rfl rfl (by omega) (by omega) (fun hc_12 => ?_) (fun hc_12 => ?_)
      ·
        exact X_vret hO hF rfl dX3_takeList_43 ⟨rfl, (by have ej : j = w 62 o 0 := (by omega); subst ej; rfl)⟩
      ·
        refine X_aload_n 16 hO dX3_takeList_15 rfl rfl ?_
        refine X_aload_n 17 hO dX3_takeList_16 rfl rfl ?_
        refine gX3_9 20 hO dX3_takeList_17 rfl (by first | assumption | omega | (simp (disch := first | decide | assumption | omega) only [up_k, up_s, up_a, up_i, flA_k, flA_a, flA_n, cpA_k, cpA_a, newO_o, newA_o, newO_t, newA_t, newA_n, c_tk_k, c_tk_a] <;> first | assumption | omega)) ?_
        try simp (disch := first | decide | assumption | omega) only [up_k, up_s, up_a, up_i, flA_k, flA_a, flA_n, cpA_k, cpA_a, newO_o, newA_o, newO_t, newA_t, newA_n, c_tk_k, c_tk_a]
        refine X_iload_n 21 hO dX3_takeList_20 rfl rfl ?_
        refine X_iald 22 hO dX3_takeList_21 rfl (by first | assumption | omega | (simp (disch := first | decide | assumption | omega) only [up_k, up_s, up_a, up_i, flA_k, flA_a, flA_n, cpA_k, cpA_a, newO_o, newA_o, newO_t, newA_t, newA_n, c_tk_k, c_tk_a] <;> first | assumption | omega)) (by first | assumption | omega | (simp (disch := first | decide | assumption | omega) only [up_k, up_s, up_a, up_i, flA_k, flA_a, flA_n, cpA_k, cpA_a, newO_o, newA_o, newO_t, newA_t, newA_n, c_tk_k, c_tk_a] <;> first | assumption | omega)) (fun hi_21 => ?_)
        try simp (disch := first | decide | assumption | omega) only [up_k, up_s, up_a, up_i, flA_k, flA_a, flA_n, cpA_k, cpA_a, newO_o, newA_o, newO_t, newA_t, newA_n, c_tk_k, c_tk_a] at hi_21 ⊢
        refine X_aload_n 23 hO dX3_takeList_22 rfl rfl ?_
        refine gX3_15 26 hO dX3_takeList_23 rfl (by first | assumption | omega | (simp (disch := first | decide | assumption | omega) only [up_k, up_s, up_a, up_i, flA_k, flA_a, flA_n, cpA_k, cpA_a, newO_o, newA_o, newO_t, newA_t, newA_n, c_tk_k, c_tk_a] <;> first | assumption | omega)) ?_
        try simp (disch := first | decide | assumption | omega) only [up_k, up_s, up_a, up_i, flA_k, flA_a, flA_n, cpA_k, cpA_a, newO_o, newA_o, newO_t, newA_t, newA_n, c_tk_k, c_tk_a]
        refine X_iload_n 27 hO dX3_takeList_26 rfl rfl ?_
        refine X_iald 28 hO dX3_takeList_27 rfl (by first | assumption | omega | (simp (disch := first | decide | assumption | omega) only [up_k, up_s, up_a, up_i, flA_k, flA_a, flA_n, cpA_k, cpA_a, newO_o, newA_o, newO_t, newA_t, newA_n, c_tk_k, c_tk_a] <;> first | assumption | omega)) (by first | assumption | omega | (simp (disch := first | decide | assumption | omega) only [up_k, up_s, up_a, up_i, flA_k, flA_a, flA_n, cpA_k, cpA_a, newO_o, newA_o, newO_t, newA_t, newA_n, c_tk_k, c_tk_a] <;> first | assumption | omega)) (fun hi_27 => ?_)
        try simp (disch := first | decide | assumption | omega) only [up_k, up_s, up_a, up_i, flA_k, flA_a, flA_n, cpA_k, cpA_a, newO_o, newA_o, newO_t, newA_t, newA_n, c_tk_k, c_tk_a] at hi_27 ⊢
        refine X_aload_n 29 hO dX3_takeList_28 rfl rfl ?_
        refine gX3_18 32 hO dX3_takeList_29 rfl (by first | assumption | omega | (simp (disch := first | decide | assumption | omega) only [up_k, up_s, up_a, up_i, flA_k, flA_a, flA_n, cpA_k, cpA_a, newO_o, newA_o, newO_t, newA_t, newA_n, c_tk_k, c_tk_a] <;> first | assumption | omega)) ?_
        try simp (disch := first | decide | assumption | omega) only [up_k, up_s, up_a, up_i, flA_k, flA_a, flA_n, cpA_k, cpA_a, newO_o, newA_o, newO_t, newA_t, newA_n, c_tk_k, c_tk_a]
        refine X_iload_n 33 hO dX3_takeList_32 rfl rfl ?_
        refine X_iald 34 hO dX3_takeList_33 rfl (by first | assumption | omega | (simp (disch := first | decide | assumption | omega) only [up_k, up_s, up_a, up_i, flA_k, flA_a, flA_n, cpA_k, cpA_a, newO_o, newA_o, newO_t, newA_t, newA_n, c_tk_k, c_tk_a] <;> first | assumption | omega)) (by first | assumption | omega | (simp (disch := first | decide | assumption | omega) only [up_k, up_s, up_a, up_i, flA_k, flA_a, flA_n, cpA_k, cpA_a, newO_o, newA_o, newO_t, newA_t, newA_n, c_tk_k, c_tk_a] <;> first | assumption | omega)) (fun hi_33 => ?_)
        try simp (disch := first | decide | assumption | omega) only [up_k, up_s, up_a, up_i, flA_k, flA_a, flA_n, cpA_k, cpA_a, newO_o, newA_o, newO_t, newA_t, newA_n, c_tk_k, c_tk_a] at hi_33 ⊢
        have hmj : MT (c_tk m o w j) m := by
          have e62 : c_tk m o w j 62 m 0 = j := by unfold c_tk; rw [up_s]
          unfold MT
          rw [e62]
          simp (disch := decide) only [c_tk_k]
          exact ⟨t0, ⟨t1, t2, t3⟩, ⟨t4, t5, t6⟩, ⟨t7, t8, t9⟩, by omega⟩
        refine X_kVv (t := 4) 37 hO hD lX3_25 rfl (by decide) [_, _, _] rfl dX3_takeList_34 rfl (by first | assumption | omega | (simp (disch := first | decide | assumption | omega) only [up_k, up_s, up_a, up_i, flA_k, flA_a, flA_n, cpA_k, cpA_a, newO_o, newA_o, newO_t, newA_t, newA_n, c_tk_k, c_tk_a] <;> first | assumption | omega)) (kX3_append _ _ _ _ _ _ hmj (by omega) (by omega) (by omega)) (by decide) (by simp [rv_cat, int_cat]) (by first | decide | exact Nat.zero_le _ | omega) (by first | decide | exact Nat.zero_le _ | omega) (fun w_34 hp_34 => ?_) (fun E w_ hx_ => hx_.elim)
        subst w_34
        refine X_iinc 40 hO dX3_takeList_37 rfl rfl ?_
        refine X_goto hO dX3_takeList_40 (tgt := 7) rfl ?_
        exact X_eqW (c_tk_s (by omega) t7 t8 t9) (ih (j + 1) (by omega) (by omega))
  refine X_eqW (w2 := c_tk m o w 0) ?_ (LP7 _ 0 (Nat.lt_succ_self _) (by omega))
  unfold c_tk; rw [flA_0, flA_0, flA_0]
theorem dX9_oneIsCovered_0 : decode cX9_oneIsCovered 0 = .ok (.iconst 0, 1) := by decide +kernel
theorem dX9_oneIsCovered_1 : decode cX9_oneIsCovered 1 = .ok (.istore_n 1, 1) := by decide +kernel
theorem dX9_oneIsCovered_2 : decode cX9_oneIsCovered 2 = .ok (.iload_n 1, 1) := by decide +kernel
theorem dX9_oneIsCovered_3 : decode cX9_oneIsCovered 3 = .ok (.aload_n 0, 1) := by decide +kernel
theorem dX9_oneIsCovered_4 : decode cX9_oneIsCovered 4 = .ok (.getfield 49, 3) := by decide +kernel
theorem dX9_oneIsCovered_7 : decode cX9_oneIsCovered 7 = .ok (.if_icmp .ge 23, 3) := by decide +kernel
theorem dX9_oneIsCovered_10 : decode cX9_oneIsCovered 10 = .ok (.aload_n 0, 1) := by decide +kernel
theorem dX9_oneIsCovered_11 : decode cX9_oneIsCovered 11 = .ok (.getfield 11, 3) := by decide +kernel
theorem dX9_oneIsCovered_14 : decode cX9_oneIsCovered 14 = .ok (.iload_n 1, 1) := by decide +kernel
theorem dX9_oneIsCovered_15 : decode cX9_oneIsCovered 15 = .ok (.aaload, 1) := by decide +kernel
theorem dX9_oneIsCovered_16 : decode cX9_oneIsCovered 16 = .ok (.getfield 94, 3) := by decide +kernel
theorem dX9_oneIsCovered_19 : decode cX9_oneIsCovered 19 = .ok (.ifCond .eq 5, 3) := by decide +kernel
theorem dX9_oneIsCovered_22 : decode cX9_oneIsCovered 22 = .ok (.iconst 1, 1) := by decide +kernel
theorem dX9_oneIsCovered_23 : decode cX9_oneIsCovered 23 = .ok (.ireturn, 1) := by decide +kernel
theorem dX9_oneIsCovered_24 : decode cX9_oneIsCovered 24 = .ok (.iinc 1 1, 3) := by decide +kernel
theorem dX9_oneIsCovered_27 : decode cX9_oneIsCovered 27 = .ok (.goto (-25), 3) := by decide +kernel
theorem dX9_oneIsCovered_30 : decode cX9_oneIsCovered 30 = .ok (.iconst 0, 1) := by decide +kernel
theorem dX9_oneIsCovered_31 : decode cX9_oneIsCovered 31 = .ok (.ireturn, 1) := by decide +kernel
set_option maxRecDepth 4000 in
theorem kX9_oneIsCovered (γ : LC) (w : Mm) (T : Int) (hT : TrT w T) (hX : TrX w T) : KI γ 1 mX9_oneIsCovered [rv T] w (0) (0) (fun r w' => r = bi (fnd (fun i => bi (w 75 (w 3 (w 37 T 0) i) 0 = 0)) 0 (w 77 T 0).toNat 0 ≠ -1) ∧ w' = w) NX := by
  refine MX_of rfl rfl (by simp [rv_cat, int_cat]) rfl ?_
  rintro κ hO hF rfl
  have hD := hF.dp
  show X κ (0) (0) w 0 [some (rv T), none] []
  obtain ⟨t0, t1, t2, t3⟩ := id hT
  obtain ⟨x1, x2⟩ := id hX
  refine X_iconst 1 hO dX9_oneIsCovered_0 rfl ?_
  refine X_istore_n 2 hO dX9_oneIsCovered_1 rfl rfl ?_
  have LP2 : ∀ (nn : Nat) (j : Int), (w 77 T 0 - j).toNat < nn → (0 ≤ j ∧ j ≤ w 77 T 0) → (fnd (fun i => bi (w 75 (w 3 (w 37 T 0) i) 0 = 0)) 0 (w 77 T 0).toNat 0 = fnd (fun i => bi (w 75 (w 3 (w 37 T 0) i) 0 = 0)) 0 (w 77 T 0 - j).toNat j) → X κ (0) (0) (w) 2 [some (rv T), some (.int (I j))] [] := by
    intro nn
    induction nn with
    | zero => intro j hm; exact absurd hm (Nat.not_lt_zero _)
    | succ nn ih =>
      intro j hm hj hE
      refine X_iload_n 3 hO dX9_oneIsCovered_2 rfl rfl ?_
      refine X_aload_n 4 hO dX9_oneIsCovered_3 rfl rfl ?_
      refine gX9_49 7 hO dX9_oneIsCovered_4 rfl (by first | assumption | omega | (simp (disch := first | decide | assumption | omega) only [up_k, up_s, up_a, up_i, flA_k, flA_a, flA_n, cpA_k, cpA_a, newO_o, newA_o, newO_t, newA_t, newA_n] <;> first | assumption | omega)) (fun hi_4 => ?_)
      try simp (disch := first | decide | assumption | omega) only [up_k, up_s, up_a, up_i, flA_k, flA_a, flA_n, cpA_k, cpA_a, newO_o, newA_o, newO_t, newA_t, newA_n] at hi_4 ⊢
      refine X_icmp_ge 10 30 hO dX9_oneIsCovered_7 rfl rfl (by omega) (by omega) (fun hc_7 => ?_) (fun hc_7 => ?_)
      ·
        refine X_iconst 31 hO dX9_oneIsCovered_30 rfl ?_
        exact X_iret hO hF rfl (by first | exact Or.inl rfl | exact Or.inr ⟨rfl, bi_01 _⟩ | exact Or.inr ⟨rfl, by omega⟩) dX9_oneIsCovered_31 ⟨_, rfl, (by omega), ⟨by rw [hE, fnd_no (by omega)]; exact bi_f (fun h => h rfl), rfl⟩⟩
      ·
        refine X_aload_n 11 hO dX9_oneIsCovered_10 rfl rfl ?_
        refine gX9_11 14 hO dX9_oneIsCovered_11 rfl (by first | assumption | omega | (simp (disch := first | decide | assumption | omega) only [up_k, up_s, up_a, up_i, flA_k, flA_a, flA_n, cpA_k, cpA_a, newO_o, newA_o, newO_t, newA_t, newA_n] <;> first | assumption | omega)) ?_
        try simp (disch := first | decide | assumption | omega) only [up_k, up_s, up_a, up_i, flA_k, flA_a, flA_n, cpA_k, cpA_a, newO_o, newA_o, newO_t, newA_t, newA_n]
        refine X_iload_n 15 hO dX9_oneIsCovered_14 rfl rfl ?_
        refine X_aald (t := 26) (C := "Foldback$Trace") 16 hO rfl (by decide) dX9_oneIsCovered_15 rfl (by first | assumption | omega | (simp (disch := first | decide | assumption | omega) only [up_k, up_s, up_a, up_i, flA_k, flA_a, flA_n, cpA_k, cpA_a, newO_o, newA_o, newO_t, newA_t, newA_n] <;> first | assumption | omega)) (by first | assumption | omega | (simp (disch := first | decide | assumption | omega) only [up_k, up_s, up_a, up_i, flA_k, flA_a, flA_n, cpA_k, cpA_a, newO_o, newA_o, newO_t, newA_t, newA_n] <;> first | assumption | omega)) ?_
        try simp (disch := first | decide | assumption | omega) only [up_k, up_s, up_a, up_i, flA_k, flA_a, flA_n, cpA_k, cpA_a, newO_o, newA_o, newO_t, newA_t, newA_n]
        refine gX9_94 19 hO dX9_oneIsCovered_16 rfl (x1 j (by omega) (by omega)) (fun hi_16 => ?_)
        try simp (disch := first | decide | assumption | omega) only [up_k, up_s, up_a, up_i, flA_k, flA_a, flA_n, cpA_k, cpA_a, newO_o, newA_o, newO_t, newA_t, newA_n] at hi_16 ⊢
        refine X_if_eq 22 24 hO dX9_oneIsCovered_19 rfl rfl (by omega) (fun hc_19 => ?_) (fun hc_19 => ?_)
        ·
          try simp only [bi_0, bi_ne, ne_eq, Classical.not_not] at hc_19
          refine X_iinc 27 hO dX9_oneIsCovered_24 rfl rfl ?_
          refine X_goto hO dX9_oneIsCovered_27 (tgt := 2) rfl ?_
          exact ih (j + 1) (by omega) (by omega) (hE.trans (fnd_next (by omega) (by rw [← bi_t hc_19]; decide)))
        ·
          try simp only [bi_0, bi_ne, ne_eq, Classical.not_not] at hc_19
          refine X_iconst 23 hO dX9_oneIsCovered_22 rfl ?_
          exact X_iret hO hF rfl (by first | exact Or.inl rfl | exact Or.inr ⟨rfl, bi_01 _⟩ | exact Or.inr ⟨rfl, by omega⟩) dX9_oneIsCovered_23 ⟨_, rfl, (by omega), ⟨(by have hh := fnd_hit (f := fun i => bi (w 75 (w 3 (w 37 T 0) i) 0 = 0)) (c := 0) (n := (w 77 T 0 - j).toNat) (i := j) (by omega) (bi_f hc_19).symm; rw [hE, hh]; exact bi_t (by omega)), rfl⟩⟩
  exact LP2 _ 0 (Nat.lt_succ_self _) (by omega) (by rw [show w 77 T 0 - 0 = w 77 T 0 by omega])
theorem dX9_meetRegion_0 : decode cX9_meetRegion 0 = .ok (.iconst 0, 1) := by decide +kernel
theorem dX9_meetRegion_1 : decode cX9_meetRegion 1 = .ok (.istore_n 3, 1) := by decide +kernel
theorem dX9_meetRegion_2 : decode cX9_meetRegion 2 = .ok (.iload_n 3, 1) := by decide +kernel
theorem dX9_meetRegion_3 : decode cX9_meetRegion 3 = .ok (.aload_n 0, 1) := by decide +kernel
theorem dX9_meetRegion_4 : decode cX9_meetRegion 4 = .ok (.getfield 49, 3) := by decide +kernel
theorem dX9_meetRegion_7 : decode cX9_meetRegion 7 = .ok (.if_icmp .ge 37, 3) := by decide +kernel
theorem dX9_meetRegion_10 : decode cX9_meetRegion 10 = .ok (.aload_n 0, 1) := by decide +kernel
theorem dX9_meetRegion_11 : decode cX9_meetRegion 11 = .ok (.getfield 11, 3) := by decide +kernel
theorem dX9_meetRegion_14 : decode cX9_meetRegion 14 = .ok (.iload_n 3, 1) := by decide +kernel
theorem dX9_meetRegion_15 : decode cX9_meetRegion 15 = .ok (.aaload, 1) := by decide +kernel
theorem dX9_meetRegion_16 : decode cX9_meetRegion 16 = .ok (.getfield 78, 3) := by decide +kernel
theorem dX9_meetRegion_19 : decode cX9_meetRegion 19 = .ok (.iload_n 2, 1) := by decide +kernel
theorem dX9_meetRegion_20 : decode cX9_meetRegion 20 = .ok (.if_icmp .gt 18, 3) := by decide +kernel
theorem dX9_meetRegion_23 : decode cX9_meetRegion 23 = .ok (.aload_n 0, 1) := by decide +kernel
theorem dX9_meetRegion_24 : decode cX9_meetRegion 24 = .ok (.getfield 11, 3) := by decide +kernel
theorem dX9_meetRegion_27 : decode cX9_meetRegion 27 = .ok (.iload_n 3, 1) := by decide +kernel
theorem dX9_meetRegion_28 : decode cX9_meetRegion 28 = .ok (.aaload, 1) := by decide +kernel
theorem dX9_meetRegion_29 : decode cX9_meetRegion 29 = .ok (.getfield 97, 3) := by decide +kernel
theorem dX9_meetRegion_32 : decode cX9_meetRegion 32 = .ok (.iload_n 1, 1) := by decide +kernel
theorem dX9_meetRegion_33 : decode cX9_meetRegion 33 = .ok (.if_icmp .lt 5, 3) := by decide +kernel
theorem dX9_meetRegion_36 : decode cX9_meetRegion 36 = .ok (.iconst 1, 1) := by decide +kernel
theorem dX9_meetRegion_37 : decode cX9_meetRegion 37 = .ok (.ireturn, 1) := by decide +kernel
theorem dX9_meetRegion_38 : decode cX9_meetRegion 38 = .ok (.iinc 3 1, 3) := by decide +kernel
theorem dX9_meetRegion_41 : decode cX9_meetRegion 41 = .ok (.goto (-39), 3) := by decide +kernel
theorem dX9_meetRegion_44 : decode cX9_meetRegion 44 = .ok (.iconst 0, 1) := by decide +kernel
theorem dX9_meetRegion_45 : decode cX9_meetRegion 45 = .ok (.ireturn, 1) := by decide +kernel
set_option maxRecDepth 4000 in
theorem kX9_meetRegion (γ : LC) (w : Mm) (T a b : Int) (hT : TrT w T) (hX : TrX w T) (ha : IR a) (hb : IR b) : KI γ 1 mX9_meetRegion [rv T, .int (I a), .int (I b)] w (0) (0) (fun r w' => r = bi (fnd (fun i => bi (¬ (w 73 (w 3 (w 37 T 0) i) 0 ≤ b ∧ a ≤ w 74 (w 3 (w 37 T 0) i) 0))) 0 (w 77 T 0).toNat 0 ≠ -1) ∧ w' = w) NX := by
  refine MX_of rfl rfl (by simp [rv_cat, int_cat]) rfl ?_
  rintro κ hO hF rfl
  have hD := hF.dp
  show X κ (0) (0) w 0 [some (rv T), some (.int (I a)), some (.int (I b)), none] []
  obtain ⟨t0, t1, t2, t3⟩ := id hT
  obtain ⟨x1, x2⟩ := id hX
  refine X_iconst 1 hO dX9_meetRegion_0 rfl ?_
  refine X_istore_n 2 hO dX9_meetRegion_1 rfl rfl ?_
  have LP2 : ∀ (nn : Nat) (j : Int), (w 77 T 0 - j).toNat < nn → (0 ≤ j ∧ j ≤ w 77 T 0) → (fnd (fun i => bi (¬ (w 73 (w 3 (w 37 T 0) i) 0 ≤ b ∧ a ≤ w 74 (w 3 (w 37 T 0) i) 0))) 0 (w 77 T 0).toNat 0 = fnd (fun i => bi (¬ (w 73 (w 3 (w 37 T 0) i) 0 ≤ b ∧ a ≤ w 74 (w 3 (w 37 T 0) i) 0))) 0 (w 77 T 0 - j).toNat j) → X κ (0) (0) (w) 2 [some (rv T), some (.int (I a)), some (.int (I b)), some (.int (I j))] [] := by
    intro nn
    induction nn with
    | zero => intro j hm; exact absurd hm (Nat.not_lt_zero _)
    | succ nn ih =>
      intro j hm hj hE
      refine X_iload_n 3 hO dX9_meetRegion_2 rfl rfl ?_
      refine X_aload_n 4 hO dX9_meetRegion_3 rfl rfl ?_
      refine gX9_49 7 hO dX9_meetRegion_4 rfl (by first | assumption | omega | (simp (disch := first | decide | assumption | omega) only [up_k, up_s, up_a, up_i, flA_k, flA_a, flA_n, cpA_k, cpA_a, newO_o, newA_o, newO_t, newA_t, newA_n] <;> first | assumption | omega)) (fun hi_4 => ?_)
      try simp (disch := first | decide | assumption | omega) only [up_k, up_s, up_a, up_i, flA_k, flA_a, flA_n, cpA_k, cpA_a, newO_o, newA_o, newO_t, newA_t, newA_n] at hi_4 ⊢
      refine X_icmp_ge 10 44 hO dX9_meetRegion_7 rfl rfl (by omega) (by omega) (fun hc_7 => ?_) (fun hc_7 => ?_)
      ·
        refine X_iconst 45 hO dX9_meetRegion_44 rfl ?_
        exact X_iret hO hF rfl (by first | exact Or.inl rfl | exact Or.inr ⟨rfl, bi_01 _⟩ | exact Or.inr ⟨rfl, by omega⟩) dX9_meetRegion_45 ⟨_, rfl, (by omega), ⟨by rw [hE, fnd_no (by omega)]; exact bi_f (fun h => h rfl), rfl⟩⟩
      ·
        refine X_aload_n 11 hO dX9_meetRegion_10 rfl rfl ?_
        refine gX9_11 14 hO dX9_meetRegion_11 rfl (by first | assumption | omega | (simp (disch := first | decide | assumption | omega) only [up_k, up_s, up_a, up_i, flA_k, flA_a, flA_n, cpA_k, cpA_a, newO_o, newA_o, newO_t, newA_t, newA_n] <;> first | assumption | omega)) ?_
        try simp (disch := first | decide | assumption | omega) only [up_k, up_s, up_a, up_i, flA_k, flA_a, flA_n, cpA_k, cpA_a, newO_o, newA_o, newO_t, newA_t, newA_n]
        refine X_iload_n 15 hO dX9_meetRegion_14 rfl rfl ?_
        refine X_aald (t := 26) (C := "Foldback$Trace") 16 hO rfl (by decide) dX9_meetRegion_15 rfl (by first | assumption | omega | (simp (disch := first | decide | assumption | omega) only [up_k, up_s, up_a, up_i, flA_k, flA_a, flA_n, cpA_k, cpA_a, newO_o, newA_o, newO_t, newA_t, newA_n] <;> first | assumption | omega)) (by first | assumption | omega | (simp (disch := first | decide | assumption | omega) only [up_k, up_s, up_a, up_i, flA_k, flA_a, flA_n, cpA_k, cpA_a, newO_o, newA_o, newO_t, newA_t, newA_n] <;> first | assumption | omega)) ?_
        try simp (disch := first | decide | assumption | omega) only [up_k, up_s, up_a, up_i, flA_k, flA_a, flA_n, cpA_k, cpA_a, newO_o, newA_o, newO_t, newA_t, newA_n]
        refine gX9_78 19 hO dX9_meetRegion_16 rfl (x1 j (by omega) (by omega)) (fun hi_16 => ?_)
        try simp (disch := first | decide | assumption | omega) only [up_k, up_s, up_a, up_i, flA_k, flA_a, flA_n, cpA_k, cpA_a, newO_o, newA_o, newO_t, newA_t, newA_n] at hi_16 ⊢
        refine X_iload_n 20 hO dX9_meetRegion_19 rfl rfl ?_
        refine X_icmp_gt 23 38 hO dX9_meetRegion_20 rfl rfl (by omega) (by omega) (fun hc_20 => ?_) (fun hc_20 => ?_)
        ·
          refine X_iinc 41 hO dX9_meetRegion_38 rfl rfl ?_
          refine X_goto hO dX9_meetRegion_41 (tgt := 2) rfl ?_
          exact ih (j + 1) (by omega) (by omega) (hE.trans (fnd_next (by omega) (by rw [← bi_t (show ¬ (w 73 (w 3 (w 37 T 0) j) 0 ≤ b ∧ a ≤ w 74 (w 3 (w 37 T 0) j) 0) by omega)]; decide)))
        ·
          refine X_aload_n 24 hO dX9_meetRegion_23 rfl rfl ?_
          refine gX9_11 27 hO dX9_meetRegion_24 rfl (by first | assumption | omega | (simp (disch := first | decide | assumption | omega) only [up_k, up_s, up_a, up_i, flA_k, flA_a, flA_n, cpA_k, cpA_a, newO_o, newA_o, newO_t, newA_t, newA_n] <;> first | assumption | omega)) ?_
          try simp (disch := first | decide | assumption | omega) only [up_k, up_s, up_a, up_i, flA_k, flA_a, flA_n, cpA_k, cpA_a, newO_o, newA_o, newO_t, newA_t, newA_n]
          refine X_iload_n 28 hO dX9_meetRegion_27 rfl rfl ?_
          refine X_aald (t := 26) (C := "Foldback$Trace") 29 hO rfl (by decide) dX9_meetRegion_28 rfl (by first | assumption | omega | (simp (disch := first | decide | assumption | omega) only [up_k, up_s, up_a, up_i, flA_k, flA_a, flA_n, cpA_k, cpA_a, newO_o, newA_o, newO_t, newA_t, newA_n] <;> first | assumption | omega)) (by first | assumption | omega | (simp (disch := first | decide | assumption | omega) only [up_k, up_s, up_a, up_i, flA_k, flA_a, flA_n, cpA_k, cpA_a, newO_o, newA_o, newO_t, newA_t, newA_n] <;> first | assumption | omega)) ?_
          try simp (disch := first | decide | assumption | omega) only [up_k, up_s, up_a, up_i, flA_k, flA_a, flA_n, cpA_k, cpA_a, newO_o, newA_o, newO_t, newA_t, newA_n]
          refine gX9_97 32 hO dX9_meetRegion_29 rfl (x1 j (by omega) (by omega)) (fun hi_29 => ?_)
          try simp (disch := first | decide | assumption | omega) only [up_k, up_s, up_a, up_i, flA_k, flA_a, flA_n, cpA_k, cpA_a, newO_o, newA_o, newO_t, newA_t, newA_n] at hi_29 ⊢
          refine X_iload_n 33 hO dX9_meetRegion_32 rfl rfl ?_
          refine X_icmp_lt 36 38 hO dX9_meetRegion_33 rfl rfl (by omega) (by omega) (fun hc_33 => ?_) (fun hc_33 => ?_)
          ·
            refine X_iinc 41 hO dX9_meetRegion_38 rfl rfl ?_
            refine X_goto hO dX9_meetRegion_41 (tgt := 2) rfl ?_
            exact ih (j + 1) (by omega) (by omega) (hE.trans (fnd_next (by omega) (by rw [← bi_t (show ¬ (w 73 (w 3 (w 37 T 0) j) 0 ≤ b ∧ a ≤ w 74 (w 3 (w 37 T 0) j) 0) by omega)]; decide)))
          ·
            refine X_iconst 37 hO dX9_meetRegion_36 rfl ?_
            exact X_iret hO hF rfl (by first | exact Or.inl rfl | exact Or.inr ⟨rfl, bi_01 _⟩ | exact Or.inr ⟨rfl, by omega⟩) dX9_meetRegion_37 ⟨_, rfl, (by omega), ⟨(by have hh := fnd_hit (f := fun i => bi (¬ (w 73 (w 3 (w 37 T 0) i) 0 ≤ b ∧ a ≤ w 74 (w 3 (w 37 T 0) i) 0))) (c := 0) (n := (w 77 T 0 - j).toNat) (i := j) (by omega) (bi_f (show ¬ ¬ (w 73 (w 3 (w 37 T 0) j) 0 ≤ b ∧ a ≤ w 74 (w 3 (w 37 T 0) j) 0) by omega)).symm; rw [hE, hh]; exact bi_t (by omega)), rfl⟩⟩
  exact LP2 _ 0 (Nat.lt_succ_self _) (by omega) (by rw [show w 77 T 0 - 0 = w 77 T 0 by omega])
