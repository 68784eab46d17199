/-! the state's text, marks and stores -/
theorem flA_n {w : Mm} {c : Nat} {b lo n i : Int} {f : Int → Int} (h : ¬ (lo ≤ i ∧ i < lo + n)) : flA w c b lo n f c b i = w c b i := by rw [flA_v, if_neg h]
theorem cpA_k {w : Mm} {c' : Nat} {a b sp dp n x i : Int} (h : c' ≠ 1) : cpA w a b sp dp n c' x i = w c' x i := flA_k h
theorem cpA_a {w : Mm} {c' : Nat} {a b sp dp n x i : Int} (h : x ≠ b) : cpA w a b sp dp n c' x i = w c' x i := flA_a h
theorem newO_t {w : Mm} {q t : Int} : newO w q t 0 q 0 = t := by unfold newO; rw [if_pos ⟨rfl, rfl, Or.inl rfl⟩, if_pos rfl]
theorem newA_t {w : Mm} {q t n : Int} : newA w q t n 0 q 0 = t := by unfold newA; rw [if_neg (by simp), if_neg (by simp), if_pos ⟨rfl, rfl, rfl⟩]
theorem newA_n {w : Mm} {q t n : Int} : newA w q t n 2 q 0 = n := by unfold newA; rw [if_neg (by simp), if_pos ⟨rfl, rfl, rfl⟩]
theorem ne_tag {w : Mm} {a b x y : Int} (h1 : w 0 a 0 = x) (h2 : w 0 b 0 = y) (h : x ≠ y) : a ≠ b := fun e => h (by rw [← h1, ← h2, e])
theorem ST_c {w w' : Mm} {s : Int} (h : ∀ (k : Nat) (a : Int), k = 0 ∨ k = 2 ∨ (28 ≤ k ∧ k ≤ 31) → w' k a 0 = w k a 0) (hs : ST w s) : ST w' s := by
  unfold ST
  rw [h 28 _ (by omega), h 29 _ (by omega), h 30 _ (by omega), h 31 _ (by omega)]
  simp only [fun a => h 0 a (Or.inl rfl), fun a => h 2 a (Or.inr (Or.inl rfl))]
  exact hs
theorem m_ecn_b (w : Mm) (s r : Int) : 0 ≤ m_ecn w s r ∧ m_ecn w s r ≤ m_slt r := by
  have h1 : 1 ≤ m_slt r := by unfold m_slt; split <;> omega
  unfold m_ecn
  rcases fnd_spec (fun i => w 3 (w 31 s 0) i) 0 (m_slt r).toNat r with ⟨h, _⟩ | ⟨h, h2, _⟩
  · rw [if_pos h]; omega
  · by_cases c : fnd (fun i => w 3 (w 31 s 0) i) 0 (m_slt r).toNat r = -1
    · rw [if_pos c]; omega
    · rw [if_neg c]; omega
def t_ring (s : Int) (w : Mm) : Mm := up (flA w 3 (w 31 s 0) 4 (m_ecn w s 4 - 1) (fun i => w 3 (w 31 s 0) (i + 1))) 3 (w 31 s 0) (4 + (if 0 < m_ecn w s 4 - 1 then m_ecn w s 4 - 1 else 0)) (w 3 (w 31 s 0) 4)
/-- what two states own apart -/
def SD (w : Mm) (s o : Int) : Prop := s ≠ o ∧ w 28 s 0 ≠ w 28 o 0 ∧ w 28 s 0 ≠ w 29 o 0 ∧ w 29 s 0 ≠ w 29 o 0 ∧ w 29 s 0 ≠ w 28 o 0 ∧ w 30 s 0 ≠ w 30 o 0 ∧ w 31 s 0 ≠ w 31 o 0
def SZ (w : Mm) (s : Int) : Prop := 0 ≤ w 67 s 0 ∧ w 67 s 0 ≤ w 2 (w 28 s 0) 0 ∧ w 2 (w 28 s 0) 0 ≤ 100000
def SBt (w : Mm) (s : Int) : Prop := ∀ i, 0 ≤ i → i < 6 → w 1 (w 30 s 0) i = 0 ∨ w 1 (w 30 s 0) i = 1
def SP (w : Mm) (s : Int) : Prop := ∀ i, 0 ≤ i → i < 6 → -1 ≤ w 1 (w 29 s 0) i ∧ w 1 (w 29 s 0) i ≤ 200000
def SE (w : Mm) (s : Int) : Prop := ∀ i, 0 ≤ i → i < 8 → w 3 (w 31 s 0) i = 0 ∨ w 0 (w 3 (w 31 s 0) i) 0 = 1
def t_tm1 (s o : Int) (W : Mm) : Mm := up (cpA W (W 28 o 0) (W 28 s 0) 0 0 (W 67 o 0)) 67 s 0 (W 67 o 0)
def t_tmj (s o : Int) (W : Mm) (j : Int) : Mm := flA (flA (t_tm1 s o W) 1 (W 29 s 0) 0 j (fun i => W 1 (W 29 o 0) i)) 1 (W 30 s 0) 0 j (fun i => W 1 (W 30 o 0) i)
def t_tm (s o : Int) (W : Mm) : Mm := t_tmj s o W 6
theorem t_tmj_k {s o : Int} {W : Mm} {j a i : Int} {k : Nat} (h : k ≠ 1) (h2 : k ≠ 67) : t_tmj s o W j k a i = W k a i := by
  unfold t_tmj t_tm1; rw [flA_k h, flA_k h, up_k _ h2, cpA_k h]
theorem t_tmj_67 {s o : Int} {W : Mm} {j a i : Int} (h : a ≠ s) : t_tmj s o W j 67 a i = W 67 a i := by
  unfold t_tmj t_tm1; rw [flA_k (by decide), flA_k (by decide), up_a _ _ _ h, cpA_k (by decide)]
theorem t_tmj_1 {s o : Int} {W : Mm} {j a i : Int} (h1 : a ≠ W 28 s 0) (h2 : a ≠ W 29 s 0) (h3 : a ≠ W 30 s 0) : t_tmj s o W j 1 a i = W 1 a i := by
  unfold t_tmj t_tm1; rw [flA_a h3, flA_a h2, up_k _ (by decide), cpA_a h1]
theorem t_tmj_0 {s o : Int} {W : Mm} : t_tmj s o W 0 = t_tm1 s o W := by unfold t_tmj; rw [flA_0, flA_0]
theorem t_tmj_s {s o : Int} {W : Mm} {j : Int} (h : W 29 s 0 ≠ W 30 s 0) (hj : 0 ≤ j) : up (up (t_tmj s o W j) 1 (W 29 s 0) j (W 1 (W 29 o 0) j)) 1 (W 30 s 0) j (W 1 (W 30 o 0) j) = t_tmj s o W (j + 1) := by
  unfold t_tmj
  rw [flA_up (Or.inr h)]
  have e : ∀ (w : Mm) (b : Int) (f : Int → Int), up (flA w 1 b 0 j f) 1 b j (f j) = flA w 1 b 0 (j + 1) f := fun w b f => by
    have := flA_s (w := w) (c := 1) (b := b) (lo := 0) (n := j) (v := f j) (f := f) hj (by rw [show 0 + j = j by omega])
    rwa [show 0 + j = j by omega] at this
  rw [e, e]
/-- what taking over text and marks does: a new text where the old is too short -/
def TM (s o : Int) (w w' : Mm) : Prop := (w 67 o 0 ≤ w 2 (w 28 s 0) 0 ∧ w' = t_tm s o w) ∨ (w 2 (w 28 s 0) 0 < w 67 o 0 ∧ ∃ q, 0 < q ∧ w 0 q 0 = 0 ∧ w' = t_tm s o (up (newA w q 20 (w 67 o 0)) 28 s 0 q))
def t_str (s o r0 : Int) (W : Mm) (j : Int) : Mm := flA W 3 (W 31 s 0) r0 j (fun i => W 3 (W 31 o 0) i)
def t_tk (s o tr m : Int) (W : Mm) : Mm := fun k a i => if k = 3 ∧ a = W 31 s 0 ∧ 0 ≤ i ∧ i < m ∧ W 1 tr (if i < 4 then i else 4) ≠ 0 then W 3 (W 31 o 0) i else W k a i
theorem t_tk_k {s o tr m : Int} {W : Mm} {k : Nat} {a i : Int} (h : k ≠ 3) : t_tk s o tr m W k a i = W k a i := by unfold t_tk; rw [if_neg (fun c => h c.1)]
theorem t_tk_a {s o tr m : Int} {W : Mm} {k : Nat} {a i : Int} (h : a ≠ W 31 s 0) : t_tk s o tr m W k a i = W k a i := by unfold t_tk; rw [if_neg (fun c => h c.2.1)]
theorem t_tk_0 {s o tr : Int} {W : Mm} : t_tk s o tr 0 W = W := by
  funext k a i; unfold t_tk; rw [if_neg (fun c => by omega)]
theorem t_tk_s {s o tr j : Int} {W : Mm} (hj : 0 ≤ j ∧ j < 5) (ho : W 31 s 0 ≠ W 31 o 0) (hb : W 1 tr j ≠ 0) : t_str s o j (t_tk s o tr j W) (m_slt j) = t_tk s o tr (if j < 4 then j + 1 else 8) W := by
  funext k a i
  unfold t_str flA
  rw [t_tk_k (by decide), t_tk_k (by decide)]
  have hm : m_slt j = if j = 4 then 4 else 1 := rfl
  by_cases c : k = 3 ∧ a = W 31 s 0 ∧ j ≤ i ∧ i < j + m_slt j
  · rw [if_pos c]
    show t_tk s o tr j W 3 (W 31 o 0) i = _
    rw [t_tk_a (Ne.symm ho)]
    unfold t_tk
    have e : (if i < 4 then i else 4) = j := by
      by_cases h4 : j = 4
      · rw [if_neg (by omega)]; omega
      · rw [if_neg h4] at hm; rw [if_pos (by omega)]; omega
    have hu : i < (if j < 4 then j + 1 else 8) := by
      by_cases h4 : j = 4
      · rw [if_neg (by omega)]; rw [if_pos h4] at hm; omega
      · rw [if_pos (by omega)]; rw [if_neg h4] at hm; omega
    rw [if_pos ⟨c.1, c.2.1, by omega, hu, by rw [e]; exact hb⟩]
  · rw [if_neg c]
    unfold t_tk
    by_cases c2 : k = 3 ∧ a = W 31 s 0 ∧ 0 ≤ i ∧ i < j ∧ W 1 tr (if i < 4 then i else 4) ≠ 0
    · rw [if_pos c2, if_pos ⟨c2.1, c2.2.1, c2.2.2.1, by split <;> omega, c2.2.2.2.2⟩]
    · rw [if_neg c2, if_neg]
      intro c3
      by_cases h5 : i < j
      · exact c2 ⟨c3.1, c3.2.1, c3.2.2.1, h5, c3.2.2.2.2⟩
      · refine c ⟨c3.1, c3.2.1, by omega, ?_⟩
        have := c3.2.2.2.1
        by_cases h4 : j = 4
        · rw [if_neg (by omega)] at this; rw [if_pos h4] at hm; omega
        · rw [if_pos (by omega)] at this; rw [if_neg h4] at hm; omega
theorem t_tk_n {s o tr j : Int} {W : Mm} (hj : 0 ≤ j ∧ j < 5) (hb : W 1 tr j = 0) : t_tk s o tr j W = t_tk s o tr (if j < 4 then j + 1 else 8) W := by
  funext k a i
  unfold t_tk
  by_cases c2 : k = 3 ∧ a = W 31 s 0 ∧ 0 ≤ i ∧ i < j ∧ W 1 tr (if i < 4 then i else 4) ≠ 0
  · rw [if_pos c2, if_pos ⟨c2.1, c2.2.1, c2.2.2.1, by split <;> omega, c2.2.2.2.2⟩]
  · rw [if_neg c2, if_neg]
    intro c3
    by_cases h5 : i < j
    · exact c2 ⟨c3.1, c3.2.1, c3.2.2.1, h5, c3.2.2.2.2⟩
    · have h6 := c3.2.2.2.1
      have e : (if i < 4 then i else 4) = j := by
        by_cases h4 : j = 4
        · rw [if_neg (by omega)]; omega
        · rw [if_pos (by omega)] at h6; rw [if_pos (by omega)]; omega
      exact c3.2.2.2.2 (by rw [e]; exact hb)
/-- new Chars r of the n numbers from lo on of the array b -/
def NCh (w w' : Mm) (r b lo n : Int) : Prop := ∃ q, 0 < q ∧ 0 < r ∧ w 0 q 0 = 0 ∧ w 0 r 0 = 0 ∧ r ≠ q ∧ w' = up (newO (cpA (newA w q 20 n) b q lo 0 n) r 1) 10 r 0 q
def t_pt1 (s p b : Int) (W : Mm) : Mm := up (cpA (cpA W (W 28 s 0) (W 28 s 0) p (p + W 2 b 0) (W 67 s 0 - p)) b (W 28 s 0) 0 p (W 2 b 0)) 67 s 0 (W 67 s 0 + W 2 b 0)
def t_ptj (s p b : Int) (W : Mm) (j : Int) : Mm := flA (t_pt1 s p b W) 1 (W 29 s 0) 0 j (fun i => mvF (W 1 (W 29 s 0) i) p (W 2 b 0) (W 1 (W 30 s 0) i))
def t_to1 (s p n : Int) (W : Mm) : Mm := up (cpA W (W 28 s 0) (W 28 s 0) (p + n) p (W 67 s 0 - p - n)) 67 s 0 (W 67 s 0 - n)
def t_toj (s p n : Int) (W : Mm) (j : Int) : Mm := flA (t_to1 s p n W) 1 (W 29 s 0) 0 j (fun i => dbF (W 1 (W 29 s 0) i) p n)
theorem t_pt1_k {s p b : Int} {W : Mm} {a i : Int} {k : Nat} (h : k ≠ 1) (h2 : k ≠ 67) : t_pt1 s p b W k a i = W k a i := by unfold t_pt1; rw [up_k _ h2, cpA_k h, cpA_k h]
theorem t_pt1_1 {s p b : Int} {W : Mm} {a i : Int} (h : a ≠ W 28 s 0) : t_pt1 s p b W 1 a i = W 1 a i := by unfold t_pt1; rw [up_k _ (by decide), cpA_a h, cpA_a h]
theorem t_to1_k {s p n : Int} {W : Mm} {a i : Int} {k : Nat} (h : k ≠ 1) (h2 : k ≠ 67) : t_to1 s p n W k a i = W k a i := by unfold t_to1; rw [up_k _ h2, cpA_k h]
theorem t_to1_1 {s p n : Int} {W : Mm} {a i : Int} (h : a ≠ W 28 s 0) : t_to1 s p n W 1 a i = W 1 a i := by unfold t_to1; rw [up_k _ (by decide), cpA_a h]
theorem flA_e {W : Mm} {c : Nat} {b j v : Int} {f : Int → Int} (hj : 0 ≤ j) (hv : v = f j) : up (flA W c b 0 j f) c b j v = flA W c b 0 (j + 1) f := by
  have := flA_s (w := W) (c := c) (b := b) (lo := 0) (n := j) (v := v) (f := f) hj (by rw [show 0 + j = j by omega]; exact hv)
  rwa [show 0 + j = j by omega] at this
def t_new (s q1 q2 q3 q4 m : Int) (w : Mm) : Mm := up (newA (up (newA (up (newA (up (newA w q1 20 6) 29 s 0 q1) q2 21 6) 30 s 0 q2) q3 23 8) 31 s 0 q3) q4 20 m) 28 s 0 q4
theorem dX5_turnRing_0 : decode cX5_turnRing 0 = .ok (.aload_n 0, 1) := by decide +kernel
theorem dX5_turnRing_1 : decode cX5_turnRing 1 = .ok (.iconst 4, 1) := by decide +kernel
theorem dX5_turnRing_2 : decode cX5_turnRing 2 = .ok (.invokevirtual 65, 3) := by decide +kernel
theorem dX5_turnRing_5 : decode cX5_turnRing 5 = .ok (.iconst 1, 1) := by decide +kernel
theorem dX5_turnRing_6 : decode cX5_turnRing 6 = .ok (.isub, 1) := by decide +kernel
theorem dX5_turnRing_7 : decode cX5_turnRing 7 = .ok (.istore_n 1, 1) := by decide +kernel
theorem dX5_turnRing_8 : decode cX5_turnRing 8 = .ok (.aload_n 0, 1) := by decide +kernel
theorem dX5_turnRing_9 : decode cX5_turnRing 9 = .ok (.getfield 21, 3) := by decide +kernel
theorem dX5_turnRing_12 : decode cX5_turnRing 12 = .ok (.iconst 4, 1) := by decide +kernel
theorem dX5_turnRing_13 : decode cX5_turnRing 13 = .ok (.aaload, 1) := by decide +kernel
theorem dX5_turnRing_14 : decode cX5_turnRing 14 = .ok (.astore_n 2, 1) := by decide +kernel
theorem dX5_turnRing_15 : decode cX5_turnRing 15 = .ok (.iconst 0, 1) := by decide +kernel
theorem dX5_turnRing_16 : decode cX5_turnRing 16 = .ok (.istore_n 3, 1) := by decide +kernel
theorem dX5_turnRing_17 : decode cX5_turnRing 17 = .ok (.iload_n 3, 1) := by decide +kernel
theorem dX5_turnRing_18 : decode cX5_turnRing 18 = .ok (.iload_n 1, 1) := by decide +kernel
theorem dX5_turnRing_19 : decode cX5_turnRing 19 = .ok (.if_icmp .ge 27, 3) := by decide +kernel
theorem dX5_turnRing_22 : decode cX5_turnRing 22 = .ok (.aload_n 0, 1) := by decide +kernel
theorem dX5_turnRing_23 : decode cX5_turnRing 23 = .ok (.getfield 21, 3) := by decide +kernel
theorem dX5_turnRing_26 : decode cX5_turnRing 26 = .ok (.iconst 4, 1) := by decide +kernel
theorem dX5_turnRing_27 : decode cX5_turnRing 27 = .ok (.iload_n 3, 1) := by decide +kernel
theorem dX5_turnRing_28 : decode cX5_turnRing 28 = .ok (.iadd, 1) := by decide +kernel
theorem dX5_turnRing_29 : decode cX5_turnRing 29 = .ok (.aload_n 0, 1) := by decide +kernel
theorem dX5_turnRing_30 : decode cX5_turnRing 30 = .ok (.getfield 21, 3) := by decide +kernel
theorem dX5_turnRing_33 : decode cX5_turnRing 33 = .ok (.iconst 4, 1) := by decide +kernel
theorem dX5_turnRing_34 : decode cX5_turnRing 34 = .ok (.iload_n 3, 1) := by decide +kernel
theorem dX5_turnRing_35 : decode cX5_turnRing 35 = .ok (.iadd, 1) := by decide +kernel
theorem dX5_turnRing_36 : decode cX5_turnRing 36 = .ok (.iconst 1, 1) := by decide +kernel
theorem dX5_turnRing_37 : decode cX5_turnRing 37 = .ok (.iadd, 1) := by decide +kernel
theorem dX5_turnRing_38 : decode cX5_turnRing 38 = .ok (.aaload, 1) := by decide +kernel
theorem dX5_turnRing_39 : decode cX5_turnRing 39 = .ok (.aastore, 1) := by decide +kernel
theorem dX5_turnRing_40 : decode cX5_turnRing 40 = .ok (.iinc 3 1, 3) := by decide +kernel
theorem dX5_turnRing_43 : decode cX5_turnRing 43 = .ok (.goto (-26), 3) := by decide +kernel
theorem dX5_turnRing_46 : decode cX5_turnRing 46 = .ok (.aload_n 0, 1) := by decide +kernel
theorem dX5_turnRing_47 : decode cX5_turnRing 47 = .ok (.getfield 21, 3) := by decide +kernel
theorem dX5_turnRing_50 : decode cX5_turnRing 50 = .ok (.iconst 4, 1) := by decide +kernel
theorem dX5_turnRing_51 : decode cX5_turnRing 51 = .ok (.iconst 0, 1) := by decide +kernel
theorem dX5_turnRing_52 : decode cX5_turnRing 52 = .ok (.iload_n 1, 1) := by decide +kernel
theorem dX5_turnRing_53 : decode cX5_turnRing 53 = .ok (.invokestatic 25, 3) := by decide +kernel
theorem dX5_turnRing_56 : decode cX5_turnRing 56 = .ok (.iadd, 1) := by decide +kernel
theorem dX5_turnRing_57 : decode cX5_turnRing 57 = .ok (.aload_n 2, 1) := by decide +kernel
theorem dX5_turnRing_58 : decode cX5_turnRing 58 = .ok (.aastore, 1) := by decide +kernel
theorem dX5_turnRing_59 : decode cX5_turnRing 59 = .ok (.return_, 1) := by decide +kernel
set_option maxRecDepth 4000 in
theorem kX5_turnRing (γ : LC) (w : Mm) (s : Int) (hs : ST w s) (hE : SE w s) : KV γ 3 mX5_turnRing [rv s] w (0) (0) (fun w' => w' = t_ring s w) NX := by
  refine MX_of rfl rfl (by simp [rv_cat, int_cat]) rfl ?_
  rintro κ hO hF rfl
  have hD := hF.dp
  show X κ (0) (0) w 0 [some (rv s), none, none, none] []
  obtain ⟨t0, ⟨t1, t2, t3, t4⟩, ⟨t5, t6, t7⟩, t8⟩ := id hs
  have hm := m_ecn_b w s 4
  have hm4 : m_slt 4 = 4 := rfl
  refine X_aload_n 1 hO dX5_turnRing_0 rfl rfl ?_
  refine X_iconst 2 hO dX5_turnRing_1 rfl ?_
  refine X_kVi (t := 6) 5 hO hD lX5_65 rfl (by decide) [_] rfl dX5_turnRing_2 rfl (by first | assumption | omega | (simp (disch := first | decide | assumption | omega) only [up_k, up_s, up_a, up_i, flA_k, flA_a, flA_n, cpA_k, cpA_a, newO_o, newA_o, newO_t, newA_t, newA_n] <;> first | assumption | omega)) (kX5_entryCount _ _ _ _ hs (by omega)) (by decide) (by simp [rv_cat, int_cat]) (by first | decide | exact Nat.zero_le _ | omega) (by first | decide | exact Nat.zero_le _ | omega) (fun r_2 w_2 hr_2 hp_2 => ?_) (fun E w_ hx_ => hx_.elim)
  obtain ⟨e1_2, e2_2⟩ := hp_2
  subst r_2
  subst w_2
  refine X_iconst 6 hO dX5_turnRing_5 rfl ?_
  refine X_isub 7 hO dX5_turnRing_6 rfl ?_
  refine X_istore_n 8 hO dX5_turnRing_7 rfl rfl ?_
  refine X_aload_n 9 hO dX5_turnRing_8 rfl rfl ?_
  refine gX5_21 12 hO dX5_turnRing_9 rfl (by first | assumption | omega | (simp (disch := first | decide | assumption | omega) only [up_k, up_s, up_a, up_i, flA_k, flA_a, flA_n, cpA_k, cpA_a, newO_o, newA_o, newO_t, newA_t, newA_n] <;> first | assumption | omega)) ?_
  try simp (disch := first | decide | assumption | omega) only [up_k, up_s, up_a, up_i, flA_k, flA_a, flA_n, cpA_k, cpA_a, newO_o, newA_o, newO_t, newA_t, newA_n]
  refine X_iconst 13 hO dX5_turnRing_12 rfl ?_
  refine X_aald (t := 23) (C := "Foldback$Chars") 14 hO rfl (by decide) dX5_turnRing_13 rfl (by first | assumption | omega | (simp (disch := first | decide | assumption | omega) only [up_k, up_s, up_a, up_i, flA_k, flA_a, flA_n, cpA_k, cpA_a, newO_o, newA_o, newO_t, newA_t, newA_n] <;> first | assumption | omega)) (by first | assumption | omega | (simp (disch := first | decide | assumption | omega) only [up_k, up_s, up_a, up_i, flA_k, flA_a, flA_n, cpA_k, cpA_a, newO_o, newA_o, newO_t, newA_t, newA_n] <;> first | assumption | omega)) ?_
  try simp (disch := first | decide | assumption | omega) only [up_k, up_s, up_a, up_i, flA_k, flA_a, flA_n, cpA_k, cpA_a, newO_o, newA_o, newO_t, newA_t, newA_n]
  refine X_astore_n 15 hO dX5_turnRing_14 rfl rfl ?_
  refine X_iconst 16 hO dX5_turnRing_15 rfl ?_
  refine X_istore_n 17 hO dX5_turnRing_16 rfl rfl ?_
  have LP17 : ∀ (nn : Nat) (j : Int), (m_ecn w s 4 - 1 - j).toNat < nn → (0 ≤ j ∧ (j = 0 ∨ j ≤ m_ecn w s 4 - 1)) → X κ (0) (0) (flA w 3 (w 31 s 0) 4 j (fun i => w 3 (w 31 s 0) (i + 1))) 17 [some (rv s), some (.int (I (m_ecn w s 4 - 1))), some (rv (w 3 (w 31 s 0) 4)), some (.int (I j))] [] := by
    intro nn
    induction nn with
    | zero => intro j hm; exact absurd hm (Nat.not_lt_zero _)
    | succ nn ih =>
      intro j hm hj
      refine X_iload_n 18 hO dX5_turnRing_17 rfl rfl ?_
      refine X_iload_n 19 hO dX5_turnRing_18 rfl rfl ?_
      refine X_icmp_ge 22 46 hO dX5_turnRing_19 rfl rfl (by omega) (by omega) (fun hc_19 => ?_) (fun hc_19 => ?_)
      ·
        refine X_aload_n 47 hO dX5_turnRing_46 rfl rfl ?_
        refine gX5_21 50 hO dX5_turnRing_47 rfl (by first | assumption | omega | (simp (disch := first | decide | assumption | omega) only [up_k, up_s, up_a, up_i, flA_k, flA_a, flA_n, cpA_k, cpA_a, newO_o, newA_o, newO_t, newA_t, newA_n] <;> first | assumption | omega)) ?_
        try simp (disch := first | decide | assumption | omega) only [up_k, up_s, up_a, up_i, flA_k, flA_a, flA_n, cpA_k, cpA_a, newO_o, newA_o, newO_t, newA_t, newA_n]
        refine X_iconst 51 hO dX5_turnRing_50 rfl ?_
        refine X_iconst 52 hO dX5_turnRing_51 rfl ?_
        refine X_iload_n 53 hO dX5_turnRing_52 rfl rfl ?_
        refine X_mmax 56 hO w_174 dX5_turnRing_53 rfl (by omega) (by omega) hD (by decide) (by simp [rv_cat, int_cat]) ?_
        refine X_iadd 57 hO dX5_turnRing_56 rfl ?_
        refine X_aload_n 58 hO dX5_turnRing_57 rfl rfl ?_
        refine X_aast (t := 23) (tv := 1) (C := "Foldback$Chars") 59 hO rfl (by decide) (by decide) rfl (Or.inr rfl) dX5_turnRing_58 rfl (by first | assumption | omega | (simp (disch := first | decide | assumption | omega) only [up_k, up_s, up_a, up_i, flA_k, flA_a, flA_n, cpA_k, cpA_a, newO_o, newA_o, newO_t, newA_t, newA_n] <;> first | assumption | omega)) (by simp (disch := decide) only [flA_k]; rw [t7]; split <;> omega) (by have := hE 4 (by omega) (by omega); simp (disch := decide) only [flA_k]; exact this) ?_
        exact X_vret hO hF rfl dX5_turnRing_59 ⟨rfl, (by show up _ _ _ _ _ = _; unfold t_ring; rcases (show j = m_ecn w s 4 - 1 ∨ (j = 0 ∧ m_ecn w s 4 - 1 < 0) by omega) with e0 | e0 <;> first | (subst e0; rfl) | (obtain ⟨e1, e2⟩ := e0; subst e1; rw [flA_0]; congr 1; funext k a i; unfold flA; rw [if_neg (by omega)]))⟩
      ·
        refine X_aload_n 23 hO dX5_turnRing_22 rfl rfl ?_
        refine gX5_21 26 hO dX5_turnRing_23 rfl (by first | assumption | omega | (simp (disch := first | decide | assumption | omega) only [up_k, up_s, up_a, up_i, flA_k, flA_a, flA_n, cpA_k, cpA_a, newO_o, newA_o, newO_t, newA_t, newA_n] <;> first | assumption | omega)) ?_
        try simp (disch := first | decide | assumption | omega) only [up_k, up_s, up_a, up_i, flA_k, flA_a, flA_n, cpA_k, cpA_a, newO_o, newA_o, newO_t, newA_t, newA_n]
        refine X_iconst 27 hO dX5_turnRing_26 rfl ?_
        refine X_iload_n 28 hO dX5_turnRing_27 rfl rfl ?_
        refine X_iadd 29 hO dX5_turnRing_28 rfl ?_
        refine X_aload_n 30 hO dX5_turnRing_29 rfl rfl ?_
        refine gX5_21 33 hO dX5_turnRing_30 rfl (by first | assumption | omega | (simp (disch := first | decide | assumption | omega) only [up_k, up_s, up_a, up_i, flA_k, flA_a, flA_n, cpA_k, cpA_a, newO_o, newA_o, newO_t, newA_t, newA_n] <;> first | assumption | omega)) ?_
        try simp (disch := first | decide | assumption | omega) only [up_k, up_s, up_a, up_i, flA_k, flA_a, flA_n, cpA_k, cpA_a, newO_o, newA_o, newO_t, newA_t, newA_n]
        refine X_iconst 34 hO dX5_turnRing_33 rfl ?_
        refine X_iload_n 35 hO dX5_turnRing_34 rfl rfl ?_
        refine X_iadd 36 hO dX5_turnRing_35 rfl ?_
        refine X_iconst 37 hO dX5_turnRing_36 rfl ?_
        refine X_iadd 38 hO dX5_turnRing_37 rfl ?_
        refine X_aald (t := 23) (C := "Foldback$Chars") 39 hO rfl (by decide) dX5_turnRing_38 rfl (by first | assumption | omega | (simp (disch := first | decide | assumption | omega) only [up_k, up_s, up_a, up_i, flA_k, flA_a, flA_n, cpA_k, cpA_a, newO_o, newA_o, newO_t, newA_t, newA_n] <;> first | assumption | omega)) (by first | assumption | omega | (simp (disch := first | decide | assumption | omega) only [up_k, up_s, up_a, up_i, flA_k, flA_a, flA_n, cpA_k, cpA_a, newO_o, newA_o, newO_t, newA_t, newA_n] <;> first | assumption | omega)) ?_
        try simp (disch := first | decide | assumption | omega) only [up_k, up_s, up_a, up_i, flA_k, flA_a, flA_n, cpA_k, cpA_a, newO_o, newA_o, newO_t, newA_t, newA_n]
        refine X_aast (t := 23) (tv := 1) (C := "Foldback$Chars") 40 hO rfl (by decide) (by decide) rfl (Or.inr rfl) dX5_turnRing_39 rfl (by first | assumption | omega | (simp (disch := first | decide | assumption | omega) only [up_k, up_s, up_a, up_i, flA_k, flA_a, flA_n, cpA_k, cpA_a, newO_o, newA_o, newO_t, newA_t, newA_n] <;> first | assumption | omega)) (by first | assumption | omega | (simp (disch := first | decide | assumption | omega) only [up_k, up_s, up_a, up_i, flA_k, flA_a, flA_n, cpA_k, cpA_a, newO_o, newA_o, newO_t, newA_t, newA_n] <;> first | assumption | omega)) (by have := hE (4 + j + 1) (by omega) (by omega); simp (disch := decide) only [flA_k]; exact this) ?_
        refine X_iinc 43 hO dX5_turnRing_40 rfl rfl ?_
        refine X_goto hO dX5_turnRing_43 (tgt := 17) rfl ?_
        refine X_eqW (flA_s (by omega) ?_) (ih (j + 1) (by omega) (by omega))
        rw [show 4 + j + 1 = 4 + j + 1 by rfl]
  exact X_eqW (w2 := flA w 3 (w 31 s 0) 4 0 (fun i => w 3 (w 31 s 0) (i + 1))) flA_0.symm (LP17 _ 0 (Nat.lt_succ_self _) (by omega))
theorem dX5_takeTextAndMarks_0 : decode cX5_takeTextAndMarks 0 = .ok (.aload_n 0, 1) := by decide +kernel
theorem dX5_takeTextAndMarks_1 : decode cX5_takeTextAndMarks 1 = .ok (.getfield 31, 3) := by decide +kernel
theorem dX5_takeTextAndMarks_4 : decode cX5_takeTextAndMarks 4 = .ok (.arraylength, 1) := by decide +kernel
theorem dX5_takeTextAndMarks_5 : decode cX5_takeTextAndMarks 5 = .ok (.aload_n 1, 1) := by decide +kernel
theorem dX5_takeTextAndMarks_6 : decode cX5_takeTextAndMarks 6 = .ok (.getfield 40, 3) := by decide +kernel
theorem dX5_takeTextAndMarks_9 : decode cX5_takeTextAndMarks 9 = .ok (.if_icmp .ge 13, 3) := by decide +kernel
theorem dX5_takeTextAndMarks_12 : decode cX5_takeTextAndMarks 12 = .ok (.aload_n 0, 1) := by decide +kernel
theorem dX5_takeTextAndMarks_13 : decode cX5_takeTextAndMarks 13 = .ok (.aload_n 1, 1) := by decide +kernel
theorem dX5_takeTextAndMarks_14 : decode cX5_takeTextAndMarks 14 = .ok (.getfield 40, 3) := by decide +kernel
theorem dX5_takeTextAndMarks_17 : decode cX5_takeTextAndMarks 17 = .ok (.newarray .int, 2) := by decide +kernel
theorem dX5_takeTextAndMarks_19 : decode cX5_takeTextAndMarks 19 = .ok (.putfield 31, 3) := by decide +kernel
theorem dX5_takeTextAndMarks_22 : decode cX5_takeTextAndMarks 22 = .ok (.aload_n 1, 1) := by decide +kernel
theorem dX5_takeTextAndMarks_23 : decode cX5_takeTextAndMarks 23 = .ok (.getfield 31, 3) := by decide +kernel
theorem dX5_takeTextAndMarks_26 : decode cX5_takeTextAndMarks 26 = .ok (.iconst 0, 1) := by decide +kernel
theorem dX5_takeTextAndMarks_27 : decode cX5_takeTextAndMarks 27 = .ok (.aload_n 0, 1) := by decide +kernel
theorem dX5_takeTextAndMarks_28 : decode cX5_takeTextAndMarks 28 = .ok (.getfield 31, 3) := by decide +kernel
theorem dX5_takeTextAndMarks_31 : decode cX5_takeTextAndMarks 31 = .ok (.iconst 0, 1) := by decide +kernel
theorem dX5_takeTextAndMarks_32 : decode cX5_takeTextAndMarks 32 = .ok (.aload_n 1, 1) := by decide +kernel
theorem dX5_takeTextAndMarks_33 : decode cX5_takeTextAndMarks 33 = .ok (.getfield 40, 3) := by decide +kernel
theorem dX5_takeTextAndMarks_36 : decode cX5_takeTextAndMarks 36 = .ok (.invokestatic 44, 3) := by decide +kernel
theorem dX5_takeTextAndMarks_39 : decode cX5_takeTextAndMarks 39 = .ok (.aload_n 0, 1) := by decide +kernel
theorem dX5_takeTextAndMarks_40 : decode cX5_takeTextAndMarks 40 = .ok (.aload_n 1, 1) := by decide +kernel
theorem dX5_takeTextAndMarks_41 : decode cX5_takeTextAndMarks 41 = .ok (.getfield 40, 3) := by decide +kernel
theorem dX5_takeTextAndMarks_44 : decode cX5_takeTextAndMarks 44 = .ok (.putfield 40, 3) := by decide +kernel
theorem dX5_takeTextAndMarks_47 : decode cX5_takeTextAndMarks 47 = .ok (.iconst 0, 1) := by decide +kernel
theorem dX5_takeTextAndMarks_48 : decode cX5_takeTextAndMarks 48 = .ok (.istore_n 2, 1) := by decide +kernel
theorem dX5_takeTextAndMarks_49 : decode cX5_takeTextAndMarks 49 = .ok (.iload_n 2, 1) := by decide +kernel
theorem dX5_takeTextAndMarks_50 : decode cX5_takeTextAndMarks 50 = .ok (.bipush 6, 2) := by decide +kernel
theorem dX5_takeTextAndMarks_52 : decode cX5_takeTextAndMarks 52 = .ok (.if_icmp .ge 33, 3) := by decide +kernel
theorem dX5_takeTextAndMarks_55 : decode cX5_takeTextAndMarks 55 = .ok (.aload_n 0, 1) := by decide +kernel
theorem dX5_takeTextAndMarks_56 : decode cX5_takeTextAndMarks 56 = .ok (.getfield 9, 3) := by decide +kernel
theorem dX5_takeTextAndMarks_59 : decode cX5_takeTextAndMarks 59 = .ok (.iload_n 2, 1) := by decide +kernel
theorem dX5_takeTextAndMarks_60 : decode cX5_takeTextAndMarks 60 = .ok (.aload_n 1, 1) := by decide +kernel
theorem dX5_takeTextAndMarks_61 : decode cX5_takeTextAndMarks 61 = .ok (.getfield 9, 3) := by decide +kernel
theorem dX5_takeTextAndMarks_64 : decode cX5_takeTextAndMarks 64 = .ok (.iload_n 2, 1) := by decide +kernel
theorem dX5_takeTextAndMarks_65 : decode cX5_takeTextAndMarks 65 = .ok (.iaload, 1) := by decide +kernel
theorem dX5_takeTextAndMarks_66 : decode cX5_takeTextAndMarks 66 = .ok (.iastore, 1) := by decide +kernel
theorem dX5_takeTextAndMarks_67 : decode cX5_takeTextAndMarks 67 = .ok (.aload_n 0, 1) := by decide +kernel
theorem dX5_takeTextAndMarks_68 : decode cX5_takeTextAndMarks 68 = .ok (.getfield 15, 3) := by decide +kernel
theorem dX5_takeTextAndMarks_71 : decode cX5_takeTextAndMarks 71 = .ok (.iload_n 2, 1) := by decide +kernel
theorem dX5_takeTextAndMarks_72 : decode cX5_takeTextAndMarks 72 = .ok (.aload_n 1, 1) := by decide +kernel
theorem dX5_takeTextAndMarks_73 : decode cX5_takeTextAndMarks 73 = .ok (.getfield 15, 3) := by decide +kernel
theorem dX5_takeTextAndMarks_76 : decode cX5_takeTextAndMarks 76 = .ok (.iload_n 2, 1) := by decide +kernel
theorem dX5_takeTextAndMarks_77 : decode cX5_takeTextAndMarks 77 = .ok (.baload, 1) := by decide +kernel
theorem dX5_takeTextAndMarks_78 : decode cX5_takeTextAndMarks 78 = .ok (.bastore, 1) := by decide +kernel
theorem dX5_takeTextAndMarks_79 : decode cX5_takeTextAndMarks 79 = .ok (.iinc 2 1, 3) := by decide +kernel
theorem dX5_takeTextAndMarks_82 : decode cX5_takeTextAndMarks 82 = .ok (.goto (-33), 3) := by decide +kernel
theorem dX5_takeTextAndMarks_85 : decode cX5_takeTextAndMarks 85 = .ok (.return_, 1) := by decide +kernel
set_option maxRecDepth 4000 in
theorem kX5_takeTextAndMarks (γ : LC) (w : Mm) (s o : Int) (sS : Nat) (hs : ST w s) (ho : ST w o) (hd : SD w s o) (hz : SZ w o) (h2 : 0 ≤ w 2 (w 28 s 0) 0 ∧ w 2 (w 28 s 0) 0 ≤ 100000) (hb : SBt w o) (hS : w 67 o 0 ≤ sS) : KV γ 1 mX5_takeTextAndMarks [rv s, rv o] w (1) (sS) (fun w' => TM s o w w') NX := by
  refine MX_of rfl rfl (by simp [rv_cat, int_cat]) rfl ?_
  rintro κ hO hF rfl
  have hD := hF.dp
  show X κ (1) (sS) w 0 [some (rv s), some (rv o), none] []
  obtain ⟨t0, ⟨t1, t2, t3, t4⟩, ⟨t5, t6, t7⟩, t8⟩ := id hs
  obtain ⟨o0, ⟨o1, o2, o3, o4⟩, ⟨o5, o6, o7⟩, o8⟩ := id ho
  obtain ⟨d0, d1, d2, d3, d4, d5, d6⟩ := id hd
  obtain ⟨z1, z2, z3⟩ := id hz
  have dos : o ≠ s := Ne.symm d0
  have JP22 : ∀ (W : Mm), (ST W s) → (ST W o) → (SD W s o) → (SZ W o) → (W 67 o 0 ≤ W 2 (W 28 s 0) 0) → (SBt W o) → (∀ w', w' = t_tm s o W → TM s o w w') → X κ 0 0 (W) 22 [some (rv s), some (rv o), none] [] := by
    intro W gs go gd gz g2 gb gT
    obtain ⟨u0, ⟨u1, u2, u3, u4⟩, ⟨u5, u6, u7⟩, u8⟩ := id gs
    obtain ⟨v0, ⟨v1, v2, v3, v4⟩, ⟨v5, v6, v7⟩, v8⟩ := id go
    obtain ⟨f0, f1, f2, f3, f4, f5, f6⟩ := id gd
    obtain ⟨y1, y2, y3⟩ := id gz
    have n1 : W 29 s 0 ≠ W 30 s 0 := ne_tag u2 u3 (by decide)
    have n2 : W 30 o 0 ≠ W 28 s 0 := ne_tag v3 u1 (by decide)
    have n3 : W 30 o 0 ≠ W 29 s 0 := ne_tag v3 u2 (by decide)
    have n4 : W 29 o 0 ≠ W 30 s 0 := ne_tag v2 u3 (by decide)
    refine X_aload_n 23 hO dX5_takeTextAndMarks_22 rfl rfl ?_
    refine gX5_31 26 hO dX5_takeTextAndMarks_23 rfl (by first | assumption | omega | (simp (disch := first | decide | assumption | omega) only [up_k, up_s, up_a, up_i, flA_k, flA_a, flA_n, cpA_k, cpA_a, newO_o, newA_o, newO_t, newA_t, newA_n] <;> first | assumption | omega)) ?_
    try simp (disch := first | decide | assumption | omega) only [up_k, up_s, up_a, up_i, flA_k, flA_a, flA_n, cpA_k, cpA_a, newO_o, newA_o, newO_t, newA_t, newA_n, t_tmj_k, t_tmj_67, t_tmj_1]
    refine X_iconst 27 hO dX5_takeTextAndMarks_26 rfl ?_
    refine X_aload_n 28 hO dX5_takeTextAndMarks_27 rfl rfl ?_
    refine gX5_31 31 hO dX5_takeTextAndMarks_28 rfl (by first | assumption | omega | (simp (disch := first | decide | assumption | omega) only [up_k, up_s, up_a, up_i, flA_k, flA_a, flA_n, cpA_k, cpA_a, newO_o, newA_o, newO_t, newA_t, newA_n] <;> first | assumption | omega)) ?_
    try simp (disch := first | decide | assumption | omega) only [up_k, up_s, up_a, up_i, flA_k, flA_a, flA_n, cpA_k, cpA_a, newO_o, newA_o, newO_t, newA_t, newA_n, t_tmj_k, t_tmj_67, t_tmj_1]
    refine X_iconst 32 hO dX5_takeTextAndMarks_31 rfl ?_
    refine X_aload_n 33 hO dX5_takeTextAndMarks_32 rfl rfl ?_
    refine gX5_40 36 hO dX5_takeTextAndMarks_33 rfl (by first | assumption | omega | (simp (disch := first | decide | assumption | omega) only [up_k, up_s, up_a, up_i, flA_k, flA_a, flA_n, cpA_k, cpA_a, newO_o, newA_o, newO_t, newA_t, newA_n] <;> first | assumption | omega)) (fun hi_33 => ?_)
    try simp (disch := first | decide | assumption | omega) only [up_k, up_s, up_a, up_i, flA_k, flA_a, flA_n, cpA_k, cpA_a, newO_o, newA_o, newO_t, newA_t, newA_n, t_tmj_k, t_tmj_67, t_tmj_1] at hi_33 ⊢
    refine X_copyi 39 hO w_757 dX5_takeTextAndMarks_36 rfl (by assumption) (by assumption) (by omega) (by omega) (by omega) hD (by decide) (by simp [rv_cat, int_cat]) ?_
    refine X_aload_n 40 hO dX5_takeTextAndMarks_39 rfl rfl ?_
    refine X_aload_n 41 hO dX5_takeTextAndMarks_40 rfl rfl ?_
    refine gX5_40 44 hO dX5_takeTextAndMarks_41 rfl (by first | assumption | omega | (simp (disch := first | decide | assumption | omega) only [up_k, up_s, up_a, up_i, flA_k, flA_a, flA_n, cpA_k, cpA_a, newO_o, newA_o, newO_t, newA_t, newA_n] <;> first | assumption | omega)) (fun hi_41 => ?_)
    try simp (disch := first | decide | assumption | omega) only [up_k, up_s, up_a, up_i, flA_k, flA_a, flA_n, cpA_k, cpA_a, newO_o, newA_o, newO_t, newA_t, newA_n, t_tmj_k, t_tmj_67, t_tmj_1] at hi_41 ⊢
    refine pX5_40 47 hO dX5_takeTextAndMarks_44 rfl (by first | assumption | omega | (simp (disch := first | decide | assumption | omega) only [up_k, up_s, up_a, up_i, flA_k, flA_a, flA_n, cpA_k, cpA_a, newO_o, newA_o, newO_t, newA_t, newA_n] <;> first | assumption | omega)) (by omega) ?_
    refine X_iconst 48 hO dX5_takeTextAndMarks_47 rfl ?_
    refine X_istore_n 49 hO dX5_takeTextAndMarks_48 rfl rfl ?_
    have LP49 : ∀ (nn : Nat) (j : Int), (6 - j).toNat < nn → (0 ≤ j ∧ j ≤ 6) → X κ 0 0 (t_tmj s o W j) 49 [some (rv s), some (rv o), some (.int (I j))] [] := by
      intro nn
      induction nn with
      | zero => intro j hm; exact absurd hm (Nat.not_lt_zero _)
      | succ nn ih =>
        intro j hm hj
        refine X_iload_n 50 hO dX5_takeTextAndMarks_49 rfl rfl ?_
        refine X_bipush 52 hO dX5_takeTextAndMarks_50 rfl (by decide) ?_
        refine X_icmp_ge 55 85 hO dX5_takeTextAndMarks_52 rfl rfl (by omega) (by omega) (fun hc_52 => ?_) (fun hc_52 => ?_)
        ·
          exact X_vret hO hF rfl dX5_takeTextAndMarks_85 ⟨rfl, gT _ (by have ej : j = 6 := (by omega); subst ej; rfl)⟩
        ·
          refine X_aload_n 56 hO dX5_takeTextAndMarks_55 rfl rfl ?_
          refine gX5_9 59 hO dX5_takeTextAndMarks_56 rfl (by first | assumption | omega | (simp (disch := first | decide | assumption | omega) only [up_k, up_s, up_a, up_i, flA_k, flA_a, flA_n, cpA_k, cpA_a, newO_o, newA_o, newO_t, newA_t, newA_n, t_tmj_k, t_tmj_67, t_tmj_1] <;> first | assumption | omega)) ?_
          try simp (disch := first | decide | assumption | omega) only [up_k, up_s, up_a, up_i, flA_k, flA_a, flA_n, cpA_k, cpA_a, newO_o, newA_o, newO_t, newA_t, newA_n, t_tmj_k, t_tmj_67, t_tmj_1]
          refine X_iload_n 60 hO dX5_takeTextAndMarks_59 rfl rfl ?_
          refine X_aload_n 61 hO dX5_takeTextAndMarks_60 rfl rfl ?_
          refine gX5_9 64 hO dX5_takeTextAndMarks_61 rfl (by first | assumption | omega | (simp (disch := first | decide | assumption | omega) only [up_k, up_s, up_a, up_i, flA_k, flA_a, flA_n, cpA_k, cpA_a, newO_o, newA_o, newO_t, newA_t, newA_n, t_tmj_k, t_tmj_67, t_tmj_1] <;> first | assumption | omega)) ?_
          try simp (disch := first | decide | assumption | omega) only [up_k, up_s, up_a, up_i, flA_k, flA_a, flA_n, cpA_k, cpA_a, newO_o, newA_o, newO_t, newA_t, newA_n, t_tmj_k, t_tmj_67, t_tmj_1]
          refine X_iload_n 65 hO dX5_takeTextAndMarks_64 rfl rfl ?_
          refine X_iald 66 hO dX5_takeTextAndMarks_65 rfl (by first | assumption | omega | (simp (disch := first | decide | assumption | omega) only [up_k, up_s, up_a, up_i, flA_k, flA_a, flA_n, cpA_k, cpA_a, newO_o, newA_o, newO_t, newA_t, newA_n, t_tmj_k, t_tmj_67, t_tmj_1] <;> first | assumption | omega)) (by first | assumption | omega | (simp (disch := first | decide | assumption | omega) only [up_k, up_s, up_a, up_i, flA_k, flA_a, flA_n, cpA_k, cpA_a, newO_o, newA_o, newO_t, newA_t, newA_n, t_tmj_k, t_tmj_67, t_tmj_1] <;> first | assumption | omega)) (fun hi_65 => ?_)
          try simp (disch := first | decide | assumption | omega) only [up_k, up_s, up_a, up_i, flA_k, flA_a, flA_n, cpA_k, cpA_a, newO_o, newA_o, newO_t, newA_t, newA_n, t_tmj_k, t_tmj_67, t_tmj_1] at hi_65 ⊢
          refine X_iast 67 hO dX5_takeTextAndMarks_66 rfl (by first | assumption | omega | (simp (disch := first | decide | assumption | omega) only [up_k, up_s, up_a, up_i, flA_k, flA_a, flA_n, cpA_k, cpA_a, newO_o, newA_o, newO_t, newA_t, newA_n, t_tmj_k, t_tmj_67, t_tmj_1] <;> first | assumption | omega)) (by first | assumption | omega | (simp (disch := first | decide | assumption | omega) only [up_k, up_s, up_a, up_i, flA_k, flA_a, flA_n, cpA_k, cpA_a, newO_o, newA_o, newO_t, newA_t, newA_n, t_tmj_k, t_tmj_67, t_tmj_1] <;> first | assumption | omega)) (by omega) ?_
          refine X_aload_n 68 hO dX5_takeTextAndMarks_67 rfl rfl ?_
          refine gX5_15 71 hO dX5_takeTextAndMarks_68 rfl (by first | assumption | omega | (simp (disch := first | decide | assumption | omega) only [up_k, up_s, up_a, up_i, flA_k, flA_a, flA_n, cpA_k, cpA_a, newO_o, newA_o, newO_t, newA_t, newA_n, t_tmj_k, t_tmj_67, t_tmj_1] <;> first | assumption | omega)) ?_
          try simp (disch := first | decide | assumption | omega) only [up_k, up_s, up_a, up_i, flA_k, flA_a, flA_n, cpA_k, cpA_a, newO_o, newA_o, newO_t, newA_t, newA_n, t_tmj_k, t_tmj_67, t_tmj_1]
          refine X_iload_n 72 hO dX5_takeTextAndMarks_71 rfl rfl ?_
          refine X_aload_n 73 hO dX5_takeTextAndMarks_72 rfl rfl ?_
          refine gX5_15 76 hO dX5_takeTextAndMarks_73 rfl (by first | assumption | omega | (simp (disch := first | decide | assumption | omega) only [up_k, up_s, up_a, up_i, flA_k, flA_a, flA_n, cpA_k, cpA_a, newO_o, newA_o, newO_t, newA_t, newA_n, t_tmj_k, t_tmj_67, t_tmj_1] <;> first | assumption | omega)) ?_
          try simp (disch := first | decide | assumption | omega) only [up_k, up_s, up_a, up_i, flA_k, flA_a, flA_n, cpA_k, cpA_a, newO_o, newA_o, newO_t, newA_t, newA_n, t_tmj_k, t_tmj_67, t_tmj_1]
          refine X_iload_n 77 hO dX5_takeTextAndMarks_76 rfl rfl ?_
          refine X_zald 78 hO dX5_takeTextAndMarks_77 rfl (by first | assumption | omega | (simp (disch := first | decide | assumption | omega) only [up_k, up_s, up_a, up_i, flA_k, flA_a, flA_n, cpA_k, cpA_a, newO_o, newA_o, newO_t, newA_t, newA_n, t_tmj_k, t_tmj_67, t_tmj_1] <;> first | assumption | omega)) (by first | assumption | omega | (simp (disch := first | decide | assumption | omega) only [up_k, up_s, up_a, up_i, flA_k, flA_a, flA_n, cpA_k, cpA_a, newO_o, newA_o, newO_t, newA_t, newA_n, t_tmj_k, t_tmj_67, t_tmj_1] <;> first | assumption | omega)) (fun hi_77 => ?_)
          try simp (disch := first | decide | assumption | omega) only [up_k, up_s, up_a, up_i, flA_k, flA_a, flA_n, cpA_k, cpA_a, newO_o, newA_o, newO_t, newA_t, newA_n, t_tmj_k, t_tmj_67, t_tmj_1] at hi_77 ⊢
          refine X_zast 79 hO dX5_takeTextAndMarks_78 rfl (by first | assumption | omega | (simp (disch := first | decide | assumption | omega) only [up_k, up_s, up_a, up_i, flA_k, flA_a, flA_n, cpA_k, cpA_a, newO_o, newA_o, newO_t, newA_t, newA_n, t_tmj_k, t_tmj_67, t_tmj_1] <;> first | assumption | omega)) (by first | assumption | omega | (simp (disch := first | decide | assumption | omega) only [up_k, up_s, up_a, up_i, flA_k, flA_a, flA_n, cpA_k, cpA_a, newO_o, newA_o, newO_t, newA_t, newA_n, t_tmj_k, t_tmj_67, t_tmj_1] <;> first | assumption | omega)) (by have := gb j (by omega) (by omega); exact this) ?_
          refine X_iinc 82 hO dX5_takeTextAndMarks_79 rfl rfl ?_
          refine X_goto hO dX5_takeTextAndMarks_82 (tgt := 49) rfl ?_
          exact X_eqW (t_tmj_s n1 (by omega)) (ih (j + 1) (by omega) (by omega))
    exact X_eqW (w2 := t_tmj s o W 0) t_tmj_0.symm (LP49 _ 0 (Nat.lt_succ_self _) (by omega))
  refine X_aload_n 1 hO dX5_takeTextAndMarks_0 rfl rfl ?_
  refine gX5_31 4 hO dX5_takeTextAndMarks_1 rfl (by first | assumption | omega | (simp (disch := first | decide | assumption | omega) only [up_k, up_s, up_a, up_i, flA_k, flA_a, flA_n, cpA_k, cpA_a, newO_o, newA_o, newO_t, newA_t, newA_n] <;> first | assumption | omega)) ?_
  try simp (disch := first | decide | assumption | omega) only [up_k, up_s, up_a, up_i, flA_k, flA_a, flA_n, cpA_k, cpA_a, newO_o, newA_o, newO_t, newA_t, newA_n, t_tmj_k, t_tmj_67, t_tmj_1]
  refine X_alen (t := 20) 5 hO (by first | assumption | omega | (simp (disch := first | decide | assumption | omega) only [up_k, up_s, up_a, up_i, flA_k, flA_a, flA_n, cpA_k, cpA_a, newO_o, newA_o, newO_t, newA_t, newA_n] <;> first | assumption | omega)) (by decide) dX5_takeTextAndMarks_4 rfl (by first | assumption | omega | (simp (disch := first | decide | assumption | omega) only [up_k, up_s, up_a, up_i, flA_k, flA_a, flA_n, cpA_k, cpA_a, newO_o, newA_o, newO_t, newA_t, newA_n] <;> first | assumption | omega)) (fun hi_4 => ?_)
  try simp (disch := first | decide | assumption | omega) only [up_k, up_s, up_a, up_i, flA_k, flA_a, flA_n, cpA_k, cpA_a, newO_o, newA_o, newO_t, newA_t, newA_n, t_tmj_k, t_tmj_67, t_tmj_1] at hi_4 ⊢
  refine X_aload_n 6 hO dX5_takeTextAndMarks_5 rfl rfl ?_
  refine gX5_40 9 hO dX5_takeTextAndMarks_6 rfl (by first | assumption | omega | (simp (disch := first | decide | assumption | omega) only [up_k, up_s, up_a, up_i, flA_k, flA_a, flA_n, cpA_k, cpA_a, newO_o, newA_o, newO_t, newA_t, newA_n] <;> first | assumption | omega)) (fun hi_6 => ?_)
  try simp (disch := first | decide | assumption | omega) only [up_k, up_s, up_a, up_i, flA_k, flA_a, flA_n, cpA_k, cpA_a, newO_o, newA_o, newO_t, newA_t, newA_n, t_tmj_k, t_tmj_67, t_tmj_1] at hi_6 ⊢
  refine X_icmp_ge 12 22 hO dX5_takeTextAndMarks_9 rfl rfl (by omega) (by omega) (fun hc_9 => ?_) (fun hc_9 => ?_)
  ·
    exact X_mono (Nat.zero_le _) (Nat.zero_le _) (JP22 w hs ho hd hz (by omega) hb (fun w' e => Or.inl ⟨by omega, e⟩))
  ·
    refine X_aload_n 13 hO dX5_takeTextAndMarks_12 rfl rfl ?_
    refine X_aload_n 14 hO dX5_takeTextAndMarks_13 rfl rfl ?_
    refine gX5_40 17 hO dX5_takeTextAndMarks_14 rfl (by first | assumption | omega | (simp (disch := first | decide | assumption | omega) only [up_k, up_s, up_a, up_i, flA_k, flA_a, flA_n, cpA_k, cpA_a, newO_o, newA_o, newO_t, newA_t, newA_n] <;> first | assumption | omega)) (fun hi_14 => ?_)
    try simp (disch := first | decide | assumption | omega) only [up_k, up_s, up_a, up_i, flA_k, flA_a, flA_n, cpA_k, cpA_a, newO_o, newA_o, newO_t, newA_t, newA_n, t_tmj_k, t_tmj_67, t_tmj_1] at hi_14 ⊢
    refine X_newi 19 hO w_aci (by omega) (by omega) (by omega) dX5_takeTextAndMarks_17 rfl (fun q_17 hq_17 hf_17 => ?_)
    have hqs : s ≠ q_17 := fun h => by rw [h] at t0; omega
    have hqo : o ≠ q_17 := fun h => by rw [h] at o0; omega
    refine pX5_31 22 hO dX5_takeTextAndMarks_19 rfl (by first | assumption | omega | (simp (disch := first | decide | assumption | omega) only [up_k, up_s, up_a, up_i, flA_k, flA_a, flA_n, cpA_k, cpA_a, newO_o, newA_o, newO_t, newA_t, newA_n] <;> first | assumption | omega)) ?_
    have m1 : w 28 o 0 ≠ q_17 := fun h => by rw [h] at o1; omega
    have m2 : w 29 o 0 ≠ q_17 := fun h => by rw [h] at o2; omega
    have m3 : w 30 o 0 ≠ q_17 := fun h => by rw [h] at o3; omega
    have m4 : w 31 o 0 ≠ q_17 := fun h => by rw [h] at o4; omega
    have m5 : w 29 s 0 ≠ q_17 := fun h => by rw [h] at t2; omega
    have m6 : w 30 s 0 ≠ q_17 := fun h => by rw [h] at t3; omega
    have m7 : w 31 s 0 ≠ q_17 := fun h => by rw [h] at t4; omega
    refine X_mono (Nat.zero_le _) (Nat.zero_le _) (JP22 _ ?_ ?_ ?_ ?_ ?_ ?_ (fun w' e => Or.inr ⟨by omega, q_17, hq_17, hf_17, e⟩))
    · refine ⟨?_, ⟨?_, ?_, ?_, ?_⟩, ⟨?_, ?_, ?_⟩, ?_⟩ <;> simp (disch := first | decide | assumption | omega) only [up_k, up_s, up_a, up_i, flA_k, flA_a, flA_n, cpA_k, cpA_a, newO_o, newA_o, newO_t, newA_t, newA_n] <;> first | assumption | omega
    · refine ⟨?_, ⟨?_, ?_, ?_, ?_⟩, ⟨?_, ?_, ?_⟩, ?_⟩ <;> simp (disch := first | decide | assumption | omega) only [up_k, up_s, up_a, up_i, flA_k, flA_a, flA_n, cpA_k, cpA_a, newO_o, newA_o, newO_t, newA_t, newA_n] <;> first | assumption | omega
    · refine ⟨?_, ?_, ?_, ?_, ?_, ?_, ?_⟩ <;> (try simp (disch := first | decide | assumption | omega) only [up_k, up_s, up_a, up_i, flA_k, flA_a, flA_n, cpA_k, cpA_a, newO_o, newA_o, newO_t, newA_t, newA_n]) <;> first | assumption | omega
    · refine ⟨?_, ?_, ?_⟩ <;> simp (disch := first | decide | assumption | omega) only [up_k, up_s, up_a, up_i, flA_k, flA_a, flA_n, cpA_k, cpA_a, newO_o, newA_o, newO_t, newA_t, newA_n] <;> first | assumption | omega
    · simp (disch := first | decide | assumption | omega) only [up_k, up_s, up_a, up_i, flA_k, flA_a, flA_n, cpA_k, cpA_a, newO_o, newA_o, newO_t, newA_t, newA_n] <;> omega
    · unfold SBt; simp (disch := first | decide | assumption | omega) only [up_k, up_s, up_a, up_i, flA_k, flA_a, flA_n, cpA_k, cpA_a, newO_o, newA_o, newO_t, newA_t, newA_n]; exact hb
theorem dX5_takeStore_0 : decode cX5_takeStore 0 = .ok (.iconst 0, 1) := by decide +kernel
theorem dX5_takeStore_1 : decode cX5_takeStore 1 = .ok (.istore_n 3, 1) := by decide +kernel
theorem dX5_takeStore_2 : decode cX5_takeStore 2 = .ok (.iload_n 3, 1) := by decide +kernel
theorem dX5_takeStore_3 : decode cX5_takeStore 3 = .ok (.iload_n 2, 1) := by decide +kernel
theorem dX5_takeStore_4 : decode cX5_takeStore 4 = .ok (.invokestatic 61, 3) := by decide +kernel
theorem dX5_takeStore_7 : decode cX5_takeStore 7 = .ok (.if_icmp .ge 25, 3) := by decide +kernel
theorem dX5_takeStore_10 : decode cX5_takeStore 10 = .ok (.aload_n 0, 1) := by decide +kernel
theorem dX5_takeStore_11 : decode cX5_takeStore 11 = .ok (.getfield 21, 3) := by decide +kernel
theorem dX5_takeStore_14 : decode cX5_takeStore 14 = .ok (.iload_n 2, 1) := by decide +kernel
theorem dX5_takeStore_15 : decode cX5_takeStore 15 = .ok (.iload_n 3, 1) := by decide +kernel
theorem dX5_takeStore_16 : decode cX5_takeStore 16 = .ok (.iadd, 1) := by decide +kernel
theorem dX5_takeStore_17 : decode cX5_takeStore 17 = .ok (.aload_n 1, 1) := by decide +kernel
theorem dX5_takeStore_18 : decode cX5_takeStore 18 = .ok (.getfield 21, 3) := by decide +kernel
theorem dX5_takeStore_21 : decode cX5_takeStore 21 = .ok (.iload_n 2, 1) := by decide +kernel
theorem dX5_takeStore_22 : decode cX5_takeStore 22 = .ok (.iload_n 3, 1) := by decide +kernel
theorem dX5_takeStore_23 : decode cX5_takeStore 23 = .ok (.iadd, 1) := by decide +kernel
theorem dX5_takeStore_24 : decode cX5_takeStore 24 = .ok (.aaload, 1) := by decide +kernel
theorem dX5_takeStore_25 : decode cX5_takeStore 25 = .ok (.aastore, 1) := by decide +kernel
theorem dX5_takeStore_26 : decode cX5_takeStore 26 = .ok (.iinc 3 1, 3) := by decide +kernel
theorem dX5_takeStore_29 : decode cX5_takeStore 29 = .ok (.goto (-27), 3) := by decide +kernel
theorem dX5_takeStore_32 : decode cX5_takeStore 32 = .ok (.return_, 1) := by decide +kernel
set_option maxRecDepth 4000 in
theorem kX5_takeStore (γ : LC) (w : Mm) (s o r0 : Int) (hs : ST w s) (ho : ST w o) (hd : w 31 s 0 ≠ w 31 o 0) (hE : SE w o) (hr : 0 ≤ r0 ∧ r0 ≤ 4) : KV γ 2 mX5_takeStore [rv s, rv o, .int (I r0)] w (0) (0) (fun w' => w' = t_str s o r0 w (m_slt r0)) NX := by
  refine MX_of rfl rfl (by simp [rv_cat, int_cat]) rfl ?_
  rintro κ hO hF rfl
  have hD := hF.dp
  show X κ (0) (0) w 0 [some (rv s), some (rv o), some (.int (I r0)), none] []
  obtain ⟨t0, ⟨t1, t2, t3, t4⟩, ⟨t5, t6, t7⟩, t8⟩ := id hs
  obtain ⟨o0, ⟨o1, o2, o3, o4⟩, ⟨o5, o6, o7⟩, o8⟩ := id ho
  have hsl : 1 ≤ m_slt r0 ∧ m_slt r0 + r0 ≤ 8 ∧ m_slt r0 ≤ 4 := by unfold m_slt; split <;> omega
  refine X_iconst 1 hO dX5_takeStore_0 rfl ?_
  refine X_istore_n 2 hO dX5_takeStore_1 rfl rfl ?_
  have LP2 : ∀ (nn : Nat) (j : Int), (m_slt r0 - j).toNat < nn → (0 ≤ j ∧ j ≤ m_slt r0) → X κ (0) (0) (flA w 3 (w 31 s 0) r0 j (fun i => w 3 (w 31 o 0) i)) 2 [some (rv s), some (rv o), some (.int (I r0)), some (.int (I j))] [] := by
    intro nn
    induction nn with
    | zero => intro j hm; exact absurd hm (Nat.not_lt_zero _)
    | succ nn ih =>
      intro j hm hj
      refine X_iload_n 3 hO dX5_takeStore_2 rfl rfl ?_
      refine X_iload_n 4 hO dX5_takeStore_3 rfl rfl ?_
      refine X_kSi 7 hO hD lX5_61 [_] rfl dX5_takeStore_4 rfl (kX5_slots _ _ _ (by omega)) (by decide) (by simp [rv_cat, int_cat]) (by first | decide | exact Nat.zero_le _ | omega) (by first | decide | exact Nat.zero_le _ | omega) (fun r_4 w_4 hr_4 hp_4 => ?_) (fun E w_ hx_ => hx_.elim)
      obtain ⟨e1_4, e2_4⟩ := hp_4
      subst r_4
      subst w_4
      refine X_icmp_ge 10 32 hO dX5_takeStore_7 rfl rfl (by omega) (by omega) (fun hc_7 => ?_) (fun hc_7 => ?_)
      ·
        exact X_vret hO hF rfl dX5_takeStore_32 ⟨rfl, (by have ej : j = m_slt r0 := (by omega); subst ej; rfl)⟩
      ·
        refine X_aload_n 11 hO dX5_takeStore_10 rfl rfl ?_
        refine gX5_21 14 hO dX5_takeStore_11 rfl (by first | assumption | omega | (simp (disch := first | decide | assumption | omega) only [up_k, up_s, up_a, up_i, flA_k, flA_a, flA_n, cpA_k, cpA_a, newO_o, newA_o, newO_t, newA_t, newA_n] <;> first | assumption | omega)) ?_
        try simp (disch := first | decide | assumption | omega) only [up_k, up_s, up_a, up_i, flA_k, flA_a, flA_n, cpA_k, cpA_a, newO_o, newA_o, newO_t, newA_t, newA_n]
        refine X_iload_n 15 hO dX5_takeStore_14 rfl rfl ?_
        refine X_iload_n 16 hO dX5_takeStore_15 rfl rfl ?_
        refine X_iadd 17 hO dX5_takeStore_16 rfl ?_
        refine X_aload_n 18 hO dX5_takeStore_17 rfl rfl ?_
        refine gX5_21 21 hO dX5_takeStore_18 rfl (by first | assumption | omega | (simp (disch := first | decide | assumption | omega) only [up_k, up_s, up_a, up_i, flA_k, flA_a, flA_n, cpA_k, cpA_a, newO_o, newA_o, newO_t, newA_t, newA_n] <;> first | assumption | omega)) ?_
        try simp (disch := first | decide | assumption | omega) only [up_k, up_s, up_a, up_i, flA_k, flA_a, flA_n, cpA_k, cpA_a, newO_o, newA_o, newO_t, newA_t, newA_n]
        refine X_iload_n 22 hO dX5_takeStore_21 rfl rfl ?_
        refine X_iload_n 23 hO dX5_takeStore_22 rfl rfl ?_
        refine X_iadd 24 hO dX5_takeStore_23 rfl ?_
        refine X_aald (t := 23) (C := "Foldback$Chars") 25 hO rfl (by decide) dX5_takeStore_24 rfl (by first | assumption | omega | (simp (disch := first | decide | assumption | omega) only [up_k, up_s, up_a, up_i, flA_k, flA_a, flA_n, cpA_k, cpA_a, newO_o, newA_o, newO_t, newA_t, newA_n] <;> first | assumption | omega)) (by first | assumption | omega | (simp (disch := first | decide | assumption | omega) only [up_k, up_s, up_a, up_i, flA_k, flA_a, flA_n, cpA_k, cpA_a, newO_o, newA_o, newO_t, newA_t, newA_n] <;> first | assumption | omega)) ?_
        try simp (disch := first | decide | assumption | omega) only [up_k, up_s, up_a, up_i, flA_k, flA_a, flA_n, cpA_k, cpA_a, newO_o, newA_o, newO_t, newA_t, newA_n]
        refine X_aast (t := 23) (tv := 1) (C := "Foldback$Chars") 26 hO rfl (by decide) (by decide) rfl (Or.inr rfl) dX5_takeStore_25 rfl (by first | assumption | omega | (simp (disch := first | decide | assumption | omega) only [up_k, up_s, up_a, up_i, flA_k, flA_a, flA_n, cpA_k, cpA_a, newO_o, newA_o, newO_t, newA_t, newA_n] <;> first | assumption | omega)) (by first | assumption | omega | (simp (disch := first | decide | assumption | omega) only [up_k, up_s, up_a, up_i, flA_k, flA_a, flA_n, cpA_k, cpA_a, newO_o, newA_o, newO_t, newA_t, newA_n] <;> first | assumption | omega)) (by have := hE (r0 + j) (by omega) (by omega); simp (disch := decide) only [flA_k]; exact this) ?_
        refine X_iinc 29 hO dX5_takeStore_26 rfl rfl ?_
        refine X_goto hO dX5_takeStore_29 (tgt := 2) rfl ?_
        exact X_eqW (flA_s (by omega) rfl) (ih (j + 1) (by omega) (by omega))
  exact X_eqW (w2 := flA w 3 (w 31 s 0) r0 0 (fun i => w 3 (w 31 o 0) i)) flA_0.symm (LP2 _ 0 (Nat.lt_succ_self _) (by omega))
theorem dX5_indexOfSign_0 : decode cX5_indexOfSign 0 = .ok (.iload_n 3, 1) := by decide +kernel
theorem dX5_indexOfSign_1 : decode cX5_indexOfSign 1 = .ok (.aload_n 0, 1) := by decide +kernel
theorem dX5_indexOfSign_2 : decode cX5_indexOfSign 2 = .ok (.getfield 40, 3) := by decide +kernel
theorem dX5_indexOfSign_5 : decode cX5_indexOfSign 5 = .ok (.invokestatic 34, 3) := by decide +kernel
theorem dX5_indexOfSign_8 : decode cX5_indexOfSign 8 = .ok (.istore 4, 2) := by decide +kernel
theorem dX5_indexOfSign_10 : decode cX5_indexOfSign 10 = .ok (.iconst 0, 1) := by decide +kernel
theorem dX5_indexOfSign_11 : decode cX5_indexOfSign 11 = .ok (.iload_n 2, 1) := by decide +kernel
theorem dX5_indexOfSign_12 : decode cX5_indexOfSign 12 = .ok (.invokestatic 25, 3) := by decide +kernel
theorem dX5_indexOfSign_15 : decode cX5_indexOfSign 15 = .ok (.istore 5, 2) := by decide +kernel
theorem dX5_indexOfSign_17 : decode cX5_indexOfSign 17 = .ok (.iload 5, 2) := by decide +kernel
theorem dX5_indexOfSign_19 : decode cX5_indexOfSign 19 = .ok (.iload 4, 2) := by decide +kernel
theorem dX5_indexOfSign_21 : decode cX5_indexOfSign 21 = .ok (.if_icmp .ge 23, 3) := by decide +kernel
theorem dX5_indexOfSign_24 : decode cX5_indexOfSign 24 = .ok (.aload_n 0, 1) := by decide +kernel
theorem dX5_indexOfSign_25 : decode cX5_indexOfSign 25 = .ok (.getfield 31, 3) := by decide +kernel
theorem dX5_indexOfSign_28 : decode cX5_indexOfSign 28 = .ok (.iload 5, 2) := by decide +kernel
theorem dX5_indexOfSign_30 : decode cX5_indexOfSign 30 = .ok (.iaload, 1) := by decide +kernel
theorem dX5_indexOfSign_31 : decode cX5_indexOfSign 31 = .ok (.iload_n 1, 1) := by decide +kernel
theorem dX5_indexOfSign_32 : decode cX5_indexOfSign 32 = .ok (.if_icmp .ne 6, 3) := by decide +kernel
theorem dX5_indexOfSign_35 : decode cX5_indexOfSign 35 = .ok (.iload 5, 2) := by decide +kernel
theorem dX5_indexOfSign_37 : decode cX5_indexOfSign 37 = .ok (.ireturn, 1) := by decide +kernel
theorem dX5_indexOfSign_38 : decode cX5_indexOfSign 38 = .ok (.iinc 5 1, 3) := by decide +kernel
theorem dX5_indexOfSign_41 : decode cX5_indexOfSign 41 = .ok (.goto (-24), 3) := by decide +kernel
theorem dX5_indexOfSign_44 : decode cX5_indexOfSign 44 = .ok (.iconst (-1), 1) := by decide +kernel
theorem dX5_indexOfSign_45 : decode cX5_indexOfSign 45 = .ok (.ireturn, 1) := by decide +kernel
set_option maxRecDepth 4000 in
theorem kX5_indexOfSign (γ : LC) (w : Mm) (s c a b : Int) (hs : ST w s) (hz : SZ w s) (hc : IR c) (ha : IR a) (hb : IR b) : KI γ 2 mX5_indexOfSign [rv s, .int (I c), .int (I a), .int (I b)] w (0) (0) (fun r w' => r = fnd (fun i => w 1 (w 28 s 0) i) c ((if w 67 s 0 < b then w 67 s 0 else b) - (if 0 < a then a else 0)).toNat (if 0 < a then a else 0) ∧ w' = w) NX := by
  refine MX_of rfl rfl (by simp [rv_cat, int_cat]) rfl ?_
  rintro κ hO hF rfl
  have hD := hF.dp
  show X κ (0) (0) w 0 [some (rv s), some (.int (I c)), some (.int (I a)), some (.int (I b)), none, none] []
  obtain ⟨t0, ⟨t1, t2, t3, t4⟩, ⟨t5, t6, t7⟩, t8⟩ := id hs
  obtain ⟨z1, z2, z3⟩ := id hz
  obtain ⟨e, he⟩ : ∃ e, e = (if w 67 s 0 < b then w 67 s 0 else b) := ⟨_, rfl⟩
  obtain ⟨i0, hi0⟩ : ∃ i0, i0 = (if 0 < a then a else 0) := ⟨_, rfl⟩
  have e1 : IR e ∧ e ≤ w 67 s 0 := by rw [he]; split <;> omega
  have i1 : IR i0 ∧ 0 ≤ i0 := by rw [hi0]; split <;> omega
  refine X_iload_n 1 hO dX5_indexOfSign_0 rfl rfl ?_
  refine X_aload_n 2 hO dX5_indexOfSign_1 rfl rfl ?_
  refine gX5_40 5 hO dX5_indexOfSign_2 rfl (by first | assumption | omega | (simp (disch := first | decide | assumption | omega) only [up_k, up_s, up_a, up_i, flA_k, flA_a, flA_n, cpA_k, cpA_a, newO_o, newA_o, newO_t, newA_t, newA_n] <;> first | assumption | omega)) (fun hi_2 => ?_)
  try simp (disch := first | decide | assumption | omega) only [up_k, up_s, up_a, up_i, flA_k, flA_a, flA_n, cpA_k, cpA_a, newO_o, newA_o, newO_t, newA_t, newA_n] at hi_2 ⊢
  refine X_mmin 8 hO w_880 dX5_indexOfSign_5 rfl (by omega) (by omega) hD (by decide) (by simp [rv_cat, int_cat]) ?_
  rw [← he]
  refine X_istore 10 hO dX5_indexOfSign_8 rfl rfl ?_
  refine X_iconst 11 hO dX5_indexOfSign_10 rfl ?_
  refine X_iload_n 12 hO dX5_indexOfSign_11 rfl rfl ?_
  refine X_mmax 15 hO w_174 dX5_indexOfSign_12 rfl (by omega) (by omega) hD (by decide) (by simp [rv_cat, int_cat]) ?_
  rw [← hi0]
  refine X_istore 17 hO dX5_indexOfSign_15 rfl rfl ?_
  have LP17 : ∀ (nn : Nat) (j : Int), (e - j).toNat < nn → (0 ≤ j ∧ IR j) → (fnd (fun i => w 1 (w 28 s 0) i) c (e - i0).toNat i0 = fnd (fun i => w 1 (w 28 s 0) i) c (e - j).toNat j) → X κ (0) (0) (w) 17 [some (rv s), some (.int (I c)), some (.int (I a)), some (.int (I b)), some (.int (I e)), some (.int (I j))] [] := by
    intro nn
    induction nn with
    | zero => intro j hm; exact absurd hm (Nat.not_lt_zero _)
    | succ nn ih =>
      intro j hm hj hE
      refine X_iload 19 hO dX5_indexOfSign_17 rfl rfl ?_
      refine X_iload 21 hO dX5_indexOfSign_19 rfl rfl ?_
      refine X_icmp_ge 24 44 hO dX5_indexOfSign_21 rfl rfl (by omega) (by omega) (fun hc_21 => ?_) (fun hc_21 => ?_)
      ·
        refine X_iconst 45 hO dX5_indexOfSign_44 rfl ?_
        exact X_iret hO hF rfl (by first | exact Or.inl rfl | exact Or.inr ⟨rfl, bi_01 _⟩ | exact Or.inr ⟨rfl, by omega⟩) dX5_indexOfSign_45 ⟨_, rfl, (by omega), (by show _ = _ ∧ _; rw [← he, ← hi0]; exact ⟨(hE.trans (fnd_no (by omega))).symm, rfl⟩)⟩
      ·
        refine X_aload_n 25 hO dX5_indexOfSign_24 rfl rfl ?_
        refine gX5_31 28 hO dX5_indexOfSign_25 rfl (by first | assumption | omega | (simp (disch := first | decide | assumption | omega) only [up_k, up_s, up_a, up_i, flA_k, flA_a, flA_n, cpA_k, cpA_a, newO_o, newA_o, newO_t, newA_t, newA_n] <;> first | assumption | omega)) ?_
        try simp (disch := first | decide | assumption | omega) only [up_k, up_s, up_a, up_i, flA_k, flA_a, flA_n, cpA_k, cpA_a, newO_o, newA_o, newO_t, newA_t, newA_n]
        refine X_iload 30 hO dX5_indexOfSign_28 rfl rfl ?_
        refine X_iald 31 hO dX5_indexOfSign_30 rfl (by first | assumption | omega | (simp (disch := first | decide | assumption | omega) only [up_k, up_s, up_a, up_i, flA_k, flA_a, flA_n, cpA_k, cpA_a, newO_o, newA_o, newO_t, newA_t, newA_n] <;> first | assumption | omega)) (by first | assumption | omega | (simp (disch := first | decide | assumption | omega) only [up_k, up_s, up_a, up_i, flA_k, flA_a, flA_n, cpA_k, cpA_a, newO_o, newA_o, newO_t, newA_t, newA_n] <;> first | assumption | omega)) (fun hi_30 => ?_)
        try simp (disch := first | decide | assumption | omega) only [up_k, up_s, up_a, up_i, flA_k, flA_a, flA_n, cpA_k, cpA_a, newO_o, newA_o, newO_t, newA_t, newA_n] at hi_30 ⊢
        refine X_iload_n 32 hO dX5_indexOfSign_31 rfl rfl ?_
        refine X_icmp_ne 35 38 hO dX5_indexOfSign_32 rfl rfl (by omega) (by omega) (fun hc_32 => ?_) (fun hc_32 => ?_)
        ·
          refine X_iinc 41 hO dX5_indexOfSign_38 rfl rfl ?_
          refine X_goto hO dX5_indexOfSign_41 (tgt := 17) rfl ?_
          exact ih (j + 1) (by omega) (by omega) (hE.trans (fnd_next (by omega) (by omega)))
        ·
          refine X_iload 37 hO dX5_indexOfSign_35 rfl rfl ?_
          exact X_iret hO hF rfl (by first | exact Or.inl rfl | exact Or.inr ⟨rfl, bi_01 _⟩ | exact Or.inr ⟨rfl, by omega⟩) dX5_indexOfSign_37 ⟨_, rfl, (by omega), (by show _ = _ ∧ _; rw [← he, ← hi0]; exact ⟨(hE.trans (fnd_hit (by omega) (by omega))).symm, rfl⟩)⟩
  exact LP17 _ i0 (Nat.lt_succ_self _) (by omega) rfl
theorem dX5_charsFrom_0 : decode cX5_charsFrom 0 = .ok (.iload_n 1, 1) := by decide +kernel
theorem dX5_charsFrom_1 : decode cX5_charsFrom 1 = .ok (.ifCond .lt 17, 3) := by decide +kernel
theorem dX5_charsFrom_4 : decode cX5_charsFrom 4 = .ok (.iload_n 2, 1) := by decide +kernel
theorem dX5_charsFrom_5 : decode cX5_charsFrom 5 = .ok (.ifCond .lt 13, 3) := by decide +kernel
theorem dX5_charsFrom_8 : decode cX5_charsFrom 8 = .ok (.iload_n 1, 1) := by decide +kernel
theorem dX5_charsFrom_9 : decode cX5_charsFrom 9 = .ok (.aload_n 0, 1) := by decide +kernel
theorem dX5_charsFrom_10 : decode cX5_charsFrom 10 = .ok (.getfield 40, 3) := by decide +kernel
theorem dX5_charsFrom_13 : decode cX5_charsFrom 13 = .ok (.iload_n 2, 1) := by decide +kernel
theorem dX5_charsFrom_14 : decode cX5_charsFrom 14 = .ok (.isub, 1) := by decide +kernel
theorem dX5_charsFrom_15 : decode cX5_charsFrom 15 = .ok (.if_icmp .le 5, 3) := by decide +kernel
theorem dX5_charsFrom_18 : decode cX5_charsFrom 18 = .ok (.aconst_null, 1) := by decide +kernel
theorem dX5_charsFrom_19 : decode cX5_charsFrom 19 = .ok (.areturn, 1) := by decide +kernel
theorem dX5_charsFrom_20 : decode cX5_charsFrom 20 = .ok (.iload_n 2, 1) := by decide +kernel
theorem dX5_charsFrom_21 : decode cX5_charsFrom 21 = .ok (.newarray .int, 2) := by decide +kernel
theorem dX5_charsFrom_23 : decode cX5_charsFrom 23 = .ok (.astore_n 3, 1) := by decide +kernel
theorem dX5_charsFrom_24 : decode cX5_charsFrom 24 = .ok (.aload_n 0, 1) := by decide +kernel
theorem dX5_charsFrom_25 : decode cX5_charsFrom 25 = .ok (.getfield 31, 3) := by decide +kernel
theorem dX5_charsFrom_28 : decode cX5_charsFrom 28 = .ok (.iload_n 1, 1) := by decide +kernel
theorem dX5_charsFrom_29 : decode cX5_charsFrom 29 = .ok (.aload_n 3, 1) := by decide +kernel
theorem dX5_charsFrom_30 : decode cX5_charsFrom 30 = .ok (.iconst 0, 1) := by decide +kernel
theorem dX5_charsFrom_31 : decode cX5_charsFrom 31 = .ok (.iload_n 2, 1) := by decide +kernel
theorem dX5_charsFrom_32 : decode cX5_charsFrom 32 = .ok (.invokestatic 44, 3) := by decide +kernel
theorem dX5_charsFrom_35 : decode cX5_charsFrom 35 = .ok (.new 19, 3) := by decide +kernel
theorem dX5_charsFrom_38 : decode cX5_charsFrom 38 = .ok (.dup, 1) := by decide +kernel
theorem dX5_charsFrom_39 : decode cX5_charsFrom 39 = .ok (.aload_n 3, 1) := by decide +kernel
theorem dX5_charsFrom_40 : decode cX5_charsFrom 40 = .ok (.invokespecial 58, 3) := by decide +kernel
theorem dX5_charsFrom_43 : decode cX5_charsFrom 43 = .ok (.areturn, 1) := by decide +kernel
set_option maxRecDepth 4000 in
theorem kX5_charsFrom (γ : LC) (w : Mm) (s a n : Int) (sS : Nat) (hs : ST w s) (hz : SZ w s) (ha : IR a) (hn : IR n) (hi : IR (w 67 s 0 - n)) (hS : w 67 s 0 ≤ sS) : KR γ 2 mX5_charsFrom [rv s, .int (I a), .int (I n)] w (2) (sS + 1) (fun r w' => (¬ (0 ≤ a ∧ 0 ≤ n ∧ a ≤ w 67 s 0 - n) ∧ r = 0 ∧ w' = w) ∨ ((0 ≤ a ∧ 0 ≤ n ∧ a ≤ w 67 s 0 - n) ∧ NCh w w' r (w 28 s 0) a n)) NX := by
  refine MX_of rfl rfl (by simp [rv_cat, int_cat]) rfl ?_
  rintro κ hO hF rfl
  have hD := hF.dp
  show X κ (2) (sS + 1) w 0 [some (rv s), some (.int (I a)), some (.int (I n)), none] []
  obtain ⟨t0, ⟨t1, t2, t3, t4⟩, ⟨t5, t6, t7⟩, t8⟩ := id hs
  obtain ⟨z1, z2, z3⟩ := id hz
  refine X_iload_n 1 hO dX5_charsFrom_0 rfl rfl ?_
  refine X_if_lt 4 18 hO dX5_charsFrom_1 rfl rfl (by omega) (fun hc_1 => ?_) (fun hc_1 => ?_)
  ·
    refine X_null 19 hO dX5_charsFrom_18 rfl ?_
    exact X_aret hO hF rfl (by first | exact Or.inl ⟨_, rfl⟩ | exact Or.inr ⟨_, rfl⟩) dX5_charsFrom_19 ⟨_, rfl, Or.inl ⟨by omega, rfl, rfl⟩⟩
  ·
    refine X_iload_n 5 hO dX5_charsFrom_4 rfl rfl ?_
    refine X_if_lt 8 18 hO dX5_charsFrom_5 rfl rfl (by omega) (fun hc_5 => ?_) (fun hc_5 => ?_)
    ·
      refine X_null 19 hO dX5_charsFrom_18 rfl ?_
      exact X_aret hO hF rfl (by first | exact Or.inl ⟨_, rfl⟩ | exact Or.inr ⟨_, rfl⟩) dX5_charsFrom_19 ⟨_, rfl, Or.inl ⟨by omega, rfl, rfl⟩⟩
    ·
      refine X_iload_n 9 hO dX5_charsFrom_8 rfl rfl ?_
      refine X_aload_n 10 hO dX5_charsFrom_9 rfl rfl ?_
      refine gX5_40 13 hO dX5_charsFrom_10 rfl (by first | assumption | omega | (simp (disch := first | decide | assumption | omega) only [up_k, up_s, up_a, up_i, flA_k, flA_a, flA_n, cpA_k, cpA_a, newO_o, newA_o, newO_t, newA_t, newA_n] <;> first | assumption | omega)) (fun hi_10 => ?_)
      try simp (disch := first | decide | assumption | omega) only [up_k, up_s, up_a, up_i, flA_k, flA_a, flA_n, cpA_k, cpA_a, newO_o, newA_o, newO_t, newA_t, newA_n] at hi_10 ⊢
      refine X_iload_n 14 hO dX5_charsFrom_13 rfl rfl ?_
      refine X_isub 15 hO dX5_charsFrom_14 rfl ?_
      refine X_icmp_le 18 20 hO dX5_charsFrom_15 rfl rfl (by omega) (by omega) (fun hc_15 => ?_) (fun hc_15 => ?_)
      ·
        refine X_iload_n 21 hO dX5_charsFrom_20 rfl rfl ?_
        refine X_newi 23 hO w_aci (by omega) (by omega) (by omega) dX5_charsFrom_21 rfl (fun q_21 hq_21 hf_21 => ?_)
        have hqs : s ≠ q_21 := fun h => by rw [h] at t0; omega
        have hqt : w 28 s 0 ≠ q_21 := fun h => by rw [h] at t1; omega
        refine X_astore_n 24 hO dX5_charsFrom_23 rfl rfl ?_
        refine X_aload_n 25 hO dX5_charsFrom_24 rfl rfl ?_
        refine gX5_31 28 hO dX5_charsFrom_25 rfl (by first | assumption | omega | (simp (disch := first | decide | assumption | omega) only [up_k, up_s, up_a, up_i, flA_k, flA_a, flA_n, cpA_k, cpA_a, newO_o, newA_o, newO_t, newA_t, newA_n] <;> first | assumption | omega)) ?_
        try simp (disch := first | decide | assumption | omega) only [up_k, up_s, up_a, up_i, flA_k, flA_a, flA_n, cpA_k, cpA_a, newO_o, newA_o, newO_t, newA_t, newA_n]
        refine X_iload_n 29 hO dX5_charsFrom_28 rfl rfl ?_
        refine X_aload_n 30 hO dX5_charsFrom_29 rfl rfl ?_
        refine X_iconst 31 hO dX5_charsFrom_30 rfl ?_
        refine X_iload_n 32 hO dX5_charsFrom_31 rfl rfl ?_
        refine X_copyi 35 hO w_757 dX5_charsFrom_32 rfl (by first | assumption | omega | (simp (disch := first | decide | assumption | omega) only [up_k, up_s, up_a, up_i, flA_k, flA_a, flA_n, cpA_k, cpA_a, newO_o, newA_o, newO_t, newA_t, newA_n] <;> first | assumption | omega)) (by first | assumption | omega | (simp (disch := first | decide | assumption | omega) only [up_k, up_s, up_a, up_i, flA_k, flA_a, flA_n, cpA_k, cpA_a, newO_o, newA_o, newO_t, newA_t, newA_n] <;> first | assumption | omega)) (by simp (disch := first | decide | assumption | omega) only [up_k, up_s, up_a, up_i, flA_k, flA_a, flA_n, cpA_k, cpA_a, newO_o, newA_o, newO_t, newA_t, newA_n] <;> omega) (by rw [newA_n]; omega) (by omega) hD (by decide) (by simp [rv_cat, int_cat]) ?_
        refine n_1 38 hO w_172 (by omega) (by omega) dX5_charsFrom_35 rfl (fun q_35 hq_35 hf_35 => ?_)
        rw [cpA_k (by decide)] at hf_35
        have hne : q_35 ≠ q_21 := fun h => by rw [h, newA_t] at hf_35; omega
        rw [newA_o hne] at hf_35
        refine X_dup 39 hO dX5_charsFrom_38 rfl (by first | rfl | exact rv_cat _) ?_
        refine X_aload_n 40 hO dX5_charsFrom_39 rfl rfl ?_
        refine X_kIv 43 hO hD lX5_58 [_] rfl dX5_charsFrom_40 rfl (by assumption) (kX0_init _ _ _ _ (by assumption) (newO_t)) (by decide) (by simp [rv_cat, int_cat]) (by first | decide | exact Nat.zero_le _ | omega) (by first | decide | exact Nat.zero_le _ | omega) (fun w_40 hp_40 => ?_) (fun E w_ hx_ => hx_.elim)
        subst w_40
        exact X_aret hO hF rfl (by first | exact Or.inl ⟨_, rfl⟩ | exact Or.inr ⟨_, rfl⟩) dX5_charsFrom_43 ⟨_, rfl, Or.inr ⟨by omega, q_21, hq_21, hq_35, hf_21, hf_35, hne, rfl⟩⟩
      ·
        refine X_null 19 hO dX5_charsFrom_18 rfl ?_
        exact X_aret hO hF rfl (by first | exact Or.inl ⟨_, rfl⟩ | exact Or.inr ⟨_, rfl⟩) dX5_charsFrom_19 ⟨_, rfl, Or.inl ⟨by omega, rfl, rfl⟩⟩
theorem dX5_putIn_0 : decode cX5_putIn 0 = .ok (.aload_n 2, 1) := by decide +kernel
theorem dX5_putIn_1 : decode cX5_putIn 1 = .ok (.getfield 37, 3) := by decide +kernel
theorem dX5_putIn_4 : decode cX5_putIn 4 = .ok (.arraylength, 1) := by decide +kernel
theorem dX5_putIn_5 : decode cX5_putIn 5 = .ok (.istore_n 3, 1) := by decide +kernel
theorem dX5_putIn_6 : decode cX5_putIn 6 = .ok (.iload_n 1, 1) := by decide +kernel
theorem dX5_putIn_7 : decode cX5_putIn 7 = .ok (.ifCond .lt 25, 3) := by decide +kernel
theorem dX5_putIn_10 : decode cX5_putIn 10 = .ok (.iload_n 1, 1) := by decide +kernel
theorem dX5_putIn_11 : decode cX5_putIn 11 = .ok (.aload_n 0, 1) := by decide +kernel
theorem dX5_putIn_12 : decode cX5_putIn 12 = .ok (.getfield 40, 3) := by decide +kernel
theorem dX5_putIn_15 : decode cX5_putIn 15 = .ok (.if_icmp .gt 17, 3) := by decide +kernel
theorem dX5_putIn_18 : decode cX5_putIn 18 = .ok (.iload_n 3, 1) := by decide +kernel
theorem dX5_putIn_19 : decode cX5_putIn 19 = .ok (.aload_n 0, 1) := by decide +kernel
theorem dX5_putIn_20 : decode cX5_putIn 20 = .ok (.getfield 31, 3) := by decide +kernel
theorem dX5_putIn_23 : decode cX5_putIn 23 = .ok (.arraylength, 1) := by decide +kernel
theorem dX5_putIn_24 : decode cX5_putIn 24 = .ok (.aload_n 0, 1) := by decide +kernel
theorem dX5_putIn_25 : decode cX5_putIn 25 = .ok (.getfield 40, 3) := by decide +kernel
theorem dX5_putIn_28 : decode cX5_putIn 28 = .ok (.isub, 1) := by decide +kernel
theorem dX5_putIn_29 : decode cX5_putIn 29 = .ok (.if_icmp .le 5, 3) := by decide +kernel
theorem dX5_putIn_32 : decode cX5_putIn 32 = .ok (.iconst 0, 1) := by decide +kernel
theorem dX5_putIn_33 : decode cX5_putIn 33 = .ok (.ireturn, 1) := by decide +kernel
theorem dX5_putIn_34 : decode cX5_putIn 34 = .ok (.aload_n 0, 1) := by decide +kernel
theorem dX5_putIn_35 : decode cX5_putIn 35 = .ok (.getfield 31, 3) := by decide +kernel
theorem dX5_putIn_38 : decode cX5_putIn 38 = .ok (.iload_n 1, 1) := by decide +kernel
theorem dX5_putIn_39 : decode cX5_putIn 39 = .ok (.aload_n 0, 1) := by decide +kernel
theorem dX5_putIn_40 : decode cX5_putIn 40 = .ok (.getfield 31, 3) := by decide +kernel
theorem dX5_putIn_43 : decode cX5_putIn 43 = .ok (.iload_n 1, 1) := by decide +kernel
theorem dX5_putIn_44 : decode cX5_putIn 44 = .ok (.iload_n 3, 1) := by decide +kernel
theorem dX5_putIn_45 : decode cX5_putIn 45 = .ok (.iadd, 1) := by decide +kernel
theorem dX5_putIn_46 : decode cX5_putIn 46 = .ok (.aload_n 0, 1) := by decide +kernel
theorem dX5_putIn_47 : decode cX5_putIn 47 = .ok (.getfield 40, 3) := by decide +kernel
theorem dX5_putIn_50 : decode cX5_putIn 50 = .ok (.iload_n 1, 1) := by decide +kernel
theorem dX5_putIn_51 : decode cX5_putIn 51 = .ok (.isub, 1) := by decide +kernel
theorem dX5_putIn_52 : decode cX5_putIn 52 = .ok (.invokestatic 44, 3) := by decide +kernel
theorem dX5_putIn_55 : decode cX5_putIn 55 = .ok (.aload_n 2, 1) := by decide +kernel
theorem dX5_putIn_56 : decode cX5_putIn 56 = .ok (.getfield 37, 3) := by decide +kernel
theorem dX5_putIn_59 : decode cX5_putIn 59 = .ok (.iconst 0, 1) := by decide +kernel
theorem dX5_putIn_60 : decode cX5_putIn 60 = .ok (.aload_n 0, 1) := by decide +kernel
theorem dX5_putIn_61 : decode cX5_putIn 61 = .ok (.getfield 31, 3) := by decide +kernel
theorem dX5_putIn_64 : decode cX5_putIn 64 = .ok (.iload_n 1, 1) := by decide +kernel
theorem dX5_putIn_65 : decode cX5_putIn 65 = .ok (.iload_n 3, 1) := by decide +kernel
theorem dX5_putIn_66 : decode cX5_putIn 66 = .ok (.invokestatic 44, 3) := by decide +kernel
theorem dX5_putIn_69 : decode cX5_putIn 69 = .ok (.aload_n 0, 1) := by decide +kernel
theorem dX5_putIn_70 : decode cX5_putIn 70 = .ok (.dup, 1) := by decide +kernel
theorem dX5_putIn_71 : decode cX5_putIn 71 = .ok (.getfield 40, 3) := by decide +kernel
theorem dX5_putIn_74 : decode cX5_putIn 74 = .ok (.iload_n 3, 1) := by decide +kernel
theorem dX5_putIn_75 : decode cX5_putIn 75 = .ok (.iadd, 1) := by decide +kernel
theorem dX5_putIn_76 : decode cX5_putIn 76 = .ok (.putfield 40, 3) := by decide +kernel
theorem dX5_putIn_79 : decode cX5_putIn 79 = .ok (.iconst 0, 1) := by decide +kernel
theorem dX5_putIn_80 : decode cX5_putIn 80 = .ok (.istore 4, 2) := by decide +kernel
theorem dX5_putIn_82 : decode cX5_putIn 82 = .ok (.iload 4, 2) := by decide +kernel
theorem dX5_putIn_84 : decode cX5_putIn 84 = .ok (.bipush 6, 2) := by decide +kernel
theorem dX5_putIn_86 : decode cX5_putIn 86 = .ok (.if_icmp .ge 35, 3) := by decide +kernel
theorem dX5_putIn_89 : decode cX5_putIn 89 = .ok (.aload_n 0, 1) := by decide +kernel
theorem dX5_putIn_90 : decode cX5_putIn 90 = .ok (.getfield 9, 3) := by decide +kernel
theorem dX5_putIn_93 : decode cX5_putIn 93 = .ok (.iload 4, 2) := by decide +kernel
theorem dX5_putIn_95 : decode cX5_putIn 95 = .ok (.aload_n 0, 1) := by decide +kernel
theorem dX5_putIn_96 : decode cX5_putIn 96 = .ok (.getfield 9, 3) := by decide +kernel
theorem dX5_putIn_99 : decode cX5_putIn 99 = .ok (.iload 4, 2) := by decide +kernel
theorem dX5_putIn_101 : decode cX5_putIn 101 = .ok (.iaload, 1) := by decide +kernel
theorem dX5_putIn_102 : decode cX5_putIn 102 = .ok (.aload_n 0, 1) := by decide +kernel
theorem dX5_putIn_103 : decode cX5_putIn 103 = .ok (.getfield 15, 3) := by decide +kernel
theorem dX5_putIn_106 : decode cX5_putIn 106 = .ok (.iload 4, 2) := by decide +kernel
theorem dX5_putIn_108 : decode cX5_putIn 108 = .ok (.baload, 1) := by decide +kernel
theorem dX5_putIn_109 : decode cX5_putIn 109 = .ok (.iload_n 1, 1) := by decide +kernel
theorem dX5_putIn_110 : decode cX5_putIn 110 = .ok (.iload_n 3, 1) := by decide +kernel
theorem dX5_putIn_111 : decode cX5_putIn 111 = .ok (.invokestatic 50, 3) := by decide +kernel
theorem dX5_putIn_114 : decode cX5_putIn 114 = .ok (.iastore, 1) := by decide +kernel
theorem dX5_putIn_115 : decode cX5_putIn 115 = .ok (.iinc 4 1, 3) := by decide +kernel
theorem dX5_putIn_118 : decode cX5_putIn 118 = .ok (.goto (-36), 3) := by decide +kernel
theorem dX5_putIn_121 : decode cX5_putIn 121 = .ok (.iconst 1, 1) := by decide +kernel
theorem dX5_putIn_122 : decode cX5_putIn 122 = .ok (.ireturn, 1) := by decide +kernel
set_option maxRecDepth 4000 in
theorem kX5_putIn (γ : LC) (w : Mm) (s p c : Int) (hs : ST w s) (hz : SZ w s) (hb : SBt w s) (hp : SP w s) (hi : IR p) (hc : w 0 c 0 = 1) (hc1 : w 0 (w 10 c 0) 0 = 20) (hc2 : w 10 c 0 ≠ w 28 s 0) (hc3 : 0 ≤ w 2 (w 10 c 0) 0 ∧ w 2 (w 10 c 0) 0 ≤ 100000) : KI γ 2 mX5_putIn [rv s, .int (I p), rv c] w (0) (0) (fun r w' => (¬ (0 ≤ p ∧ p ≤ w 67 s 0 ∧ w 2 (w 10 c 0) 0 ≤ w 2 (w 28 s 0) 0 - w 67 s 0) ∧ r = 0 ∧ w' = w) ∨ ((0 ≤ p ∧ p ≤ w 67 s 0 ∧ w 2 (w 10 c 0) 0 ≤ w 2 (w 28 s 0) 0 - w 67 s 0) ∧ r = 1 ∧ w' = t_ptj s p (w 10 c 0) w 6)) NX := by
  refine MX_of rfl rfl (by simp [rv_cat, int_cat]) rfl ?_
  rintro κ hO hF rfl
  have hD := hF.dp
  show X κ (0) (0) w 0 [some (rv s), some (.int (I p)), some (rv c), none, none] []
  obtain ⟨t0, ⟨t1, t2, t3, t4⟩, ⟨t5, t6, t7⟩, t8⟩ := id hs
  obtain ⟨z1, z2, z3⟩ := id hz
  have n1 : w 29 s 0 ≠ w 30 s 0 := ne_tag t2 t3 (by decide)
  have n2 : w 30 s 0 ≠ w 28 s 0 := ne_tag t3 t1 (by decide)
  refine X_aload_n 1 hO dX5_putIn_0 rfl rfl ?_
  refine gX5_37 4 hO dX5_putIn_1 rfl (by first | assumption | omega | (simp (disch := first | decide | assumption | omega) only [up_k, up_s, up_a, up_i, flA_k, flA_a, flA_n, cpA_k, cpA_a, newO_o, newA_o, newO_t, newA_t, newA_n] <;> first | assumption | omega)) ?_
  try simp (disch := first | decide | assumption | omega) only [up_k, up_s, up_a, up_i, flA_k, flA_a, flA_n, cpA_k, cpA_a, newO_o, newA_o, newO_t, newA_t, newA_n, t_pt1_k, t_pt1_1]
  refine X_alen (t := 20) 5 hO (by first | assumption | omega | (simp (disch := first | decide | assumption | omega) only [up_k, up_s, up_a, up_i, flA_k, flA_a, flA_n, cpA_k, cpA_a, newO_o, newA_o, newO_t, newA_t, newA_n] <;> first | assumption | omega)) (by decide) dX5_putIn_4 rfl (by first | assumption | omega | (simp (disch := first | decide | assumption | omega) only [up_k, up_s, up_a, up_i, flA_k, flA_a, flA_n, cpA_k, cpA_a, newO_o, newA_o, newO_t, newA_t, newA_n] <;> first | assumption | omega)) (fun hi_4 => ?_)
  try simp (disch := first | decide | assumption | omega) only [up_k, up_s, up_a, up_i, flA_k, flA_a, flA_n, cpA_k, cpA_a, newO_o, newA_o, newO_t, newA_t, newA_n, t_pt1_k, t_pt1_1] at hi_4 ⊢
  refine X_istore_n 6 hO dX5_putIn_5 rfl rfl ?_
  refine X_iload_n 7 hO dX5_putIn_6 rfl rfl ?_
  refine X_if_lt 10 32 hO dX5_putIn_7 rfl rfl (by omega) (fun hc_7 => ?_) (fun hc_7 => ?_)
  ·
    refine X_iconst 33 hO dX5_putIn_32 rfl ?_
    exact X_iret hO hF rfl (by first | exact Or.inl rfl | exact Or.inr ⟨rfl, bi_01 _⟩ | exact Or.inr ⟨rfl, by omega⟩) dX5_putIn_33 ⟨_, rfl, (by omega), Or.inl ⟨by omega, rfl, rfl⟩⟩
  ·
    refine X_iload_n 11 hO dX5_putIn_10 rfl rfl ?_
    refine X_aload_n 12 hO dX5_putIn_11 rfl rfl ?_
    refine gX5_40 15 hO dX5_putIn_12 rfl (by first | assumption | omega | (simp (disch := first | decide | assumption | omega) only [up_k, up_s, up_a, up_i, flA_k, flA_a, flA_n, cpA_k, cpA_a, newO_o, newA_o, newO_t, newA_t, newA_n] <;> first | assumption | omega)) (fun hi_12 => ?_)
    try simp (disch := first | decide | assumption | omega) only [up_k, up_s, up_a, up_i, flA_k, flA_a, flA_n, cpA_k, cpA_a, newO_o, newA_o, newO_t, newA_t, newA_n, t_pt1_k, t_pt1_1] at hi_12 ⊢
    refine X_icmp_gt 18 32 hO dX5_putIn_15 rfl rfl (by omega) (by omega) (fun hc_15 => ?_) (fun hc_15 => ?_)
    ·
      refine X_iconst 33 hO dX5_putIn_32 rfl ?_
      exact X_iret hO hF rfl (by first | exact Or.inl rfl | exact Or.inr ⟨rfl, bi_01 _⟩ | exact Or.inr ⟨rfl, by omega⟩) dX5_putIn_33 ⟨_, rfl, (by omega), Or.inl ⟨by omega, rfl, rfl⟩⟩
    ·
      refine X_iload_n 19 hO dX5_putIn_18 rfl rfl ?_
      refine X_aload_n 20 hO dX5_putIn_19 rfl rfl ?_
      refine gX5_31 23 hO dX5_putIn_20 rfl (by first | assumption | omega | (simp (disch := first | decide | assumption | omega) only [up_k, up_s, up_a, up_i, flA_k, flA_a, flA_n, cpA_k, cpA_a, newO_o, newA_o, newO_t, newA_t, newA_n] <;> first | assumption | omega)) ?_
      try simp (disch := first | decide | assumption | omega) only [up_k, up_s, up_a, up_i, flA_k, flA_a, flA_n, cpA_k, cpA_a, newO_o, newA_o, newO_t, newA_t, newA_n, t_pt1_k, t_pt1_1]
      refine X_alen (t := 20) 24 hO (by first | assumption | omega | (simp (disch := first | decide | assumption | omega) only [up_k, up_s, up_a, up_i, flA_k, flA_a, flA_n, cpA_k, cpA_a, newO_o, newA_o, newO_t, newA_t, newA_n] <;> first | assumption | omega)) (by decide) dX5_putIn_23 rfl (by first | assumption | omega | (simp (disch := first | decide | assumption | omega) only [up_k, up_s, up_a, up_i, flA_k, flA_a, flA_n, cpA_k, cpA_a, newO_o, newA_o, newO_t, newA_t, newA_n] <;> first | assumption | omega)) (fun hi_23 => ?_)
      try simp (disch := first | decide | assumption | omega) only [up_k, up_s, up_a, up_i, flA_k, flA_a, flA_n, cpA_k, cpA_a, newO_o, newA_o, newO_t, newA_t, newA_n, t_pt1_k, t_pt1_1] at hi_23 ⊢
      refine X_aload_n 25 hO dX5_putIn_24 rfl rfl ?_
      refine gX5_40 28 hO dX5_putIn_25 rfl (by first | assumption | omega | (simp (disch := first | decide | assumption | omega) only [up_k, up_s, up_a, up_i, flA_k, flA_a, flA_n, cpA_k, cpA_a, newO_o, newA_o, newO_t, newA_t, newA_n] <;> first | assumption | omega)) (fun hi_25 => ?_)
      try simp (disch := first | decide | assumption | omega) only [up_k, up_s, up_a, up_i, flA_k, flA_a, flA_n, cpA_k, cpA_a, newO_o, newA_o, newO_t, newA_t, newA_n, t_pt1_k, t_pt1_1] at hi_25 ⊢
      refine X_isub 29 hO dX5_putIn_28 rfl ?_
      refine X_icmp_le 32 34 hO dX5_putIn_29 rfl rfl (by omega) (by omega) (fun hc_29 => ?_) (fun hc_29 => ?_)
      ·
        refine X_aload_n 35 hO dX5_putIn_34 rfl rfl ?_
        refine gX5_31 38 hO dX5_putIn_35 rfl (by first | assumption | omega | (simp (disch := first | decide | assumption | omega) only [up_k, up_s, up_a, up_i, flA_k, flA_a, flA_n, cpA_k, cpA_a, newO_o, newA_o, newO_t, newA_t, newA_n] <;> first | assumption | omega)) ?_
        try simp (disch := first | decide | assumption | omega) only [up_k, up_s, up_a, up_i, flA_k, flA_a, flA_n, cpA_k, cpA_a, newO_o, newA_o, newO_t, newA_t, newA_n, t_pt1_k, t_pt1_1]
        refine X_iload_n 39 hO dX5_putIn_38 rfl rfl ?_
        refine X_aload_n 40 hO dX5_putIn_39 rfl rfl ?_
        refine gX5_31 43 hO dX5_putIn_40 rfl (by first | assumption | omega | (simp (disch := first | decide | assumption | omega) only [up_k, up_s, up_a, up_i, flA_k, flA_a, flA_n, cpA_k, cpA_a, newO_o, newA_o, newO_t, newA_t, newA_n] <;> first | assumption | omega)) ?_
        try simp (disch := first | decide | assumption | omega) only [up_k, up_s, up_a, up_i, flA_k, flA_a, flA_n, cpA_k, cpA_a, newO_o, newA_o, newO_t, newA_t, newA_n, t_pt1_k, t_pt1_1]
        refine X_iload_n 44 hO dX5_putIn_43 rfl rfl ?_
        refine X_iload_n 45 hO dX5_putIn_44 rfl rfl ?_
        refine X_iadd 46 hO dX5_putIn_45 rfl ?_
        refine X_aload_n 47 hO dX5_putIn_46 rfl rfl ?_
        refine gX5_40 50 hO dX5_putIn_47 rfl (by first | assumption | omega | (simp (disch := first | decide | assumption | omega) only [up_k, up_s, up_a, up_i, flA_k, flA_a, flA_n, cpA_k, cpA_a, newO_o, newA_o, newO_t, newA_t, newA_n] <;> first | assumption | omega)) (fun hi_47 => ?_)
        try simp (disch := first | decide | assumption | omega) only [up_k, up_s, up_a, up_i, flA_k, flA_a, flA_n, cpA_k, cpA_a, newO_o, newA_o, newO_t, newA_t, newA_n, t_pt1_k, t_pt1_1] at hi_47 ⊢
        refine X_iload_n 51 hO dX5_putIn_50 rfl rfl ?_
        refine X_isub 52 hO dX5_putIn_51 rfl ?_
        refine X_copyi 55 hO w_757 dX5_putIn_52 rfl (by assumption) (by assumption) (by omega) (by omega) (by omega) hD (by decide) (by simp [rv_cat, int_cat]) ?_
        refine X_aload_n 56 hO dX5_putIn_55 rfl rfl ?_
        refine gX5_37 59 hO dX5_putIn_56 rfl (by first | assumption | omega | (simp (disch := first | decide | assumption | omega) only [up_k, up_s, up_a, up_i, flA_k, flA_a, flA_n, cpA_k, cpA_a, newO_o, newA_o, newO_t, newA_t, newA_n] <;> first | assumption | omega)) ?_
        try simp (disch := first | decide | assumption | omega) only [up_k, up_s, up_a, up_i, flA_k, flA_a, flA_n, cpA_k, cpA_a, newO_o, newA_o, newO_t, newA_t, newA_n, t_pt1_k, t_pt1_1]
        refine X_iconst 60 hO dX5_putIn_59 rfl ?_
        refine X_aload_n 61 hO dX5_putIn_60 rfl rfl ?_
        refine gX5_31 64 hO dX5_putIn_61 rfl (by first | assumption | omega | (simp (disch := first | decide | assumption | omega) only [up_k, up_s, up_a, up_i, flA_k, flA_a, flA_n, cpA_k, cpA_a, newO_o, newA_o, newO_t, newA_t, newA_n] <;> first | assumption | omega)) ?_
        try simp (disch := first | decide | assumption | omega) only [up_k, up_s, up_a, up_i, flA_k, flA_a, flA_n, cpA_k, cpA_a, newO_o, newA_o, newO_t, newA_t, newA_n, t_pt1_k, t_pt1_1]
        refine X_iload_n 65 hO dX5_putIn_64 rfl rfl ?_
        refine X_iload_n 66 hO dX5_putIn_65 rfl rfl ?_
        refine X_copyi 69 hO w_757 dX5_putIn_66 rfl (by first | assumption | omega | (simp (disch := first | decide | assumption | omega) only [up_k, up_s, up_a, up_i, flA_k, flA_a, flA_n, cpA_k, cpA_a, newO_o, newA_o, newO_t, newA_t, newA_n] <;> first | assumption | omega)) (by first | assumption | omega | (simp (disch := first | decide | assumption | omega) only [up_k, up_s, up_a, up_i, flA_k, flA_a, flA_n, cpA_k, cpA_a, newO_o, newA_o, newO_t, newA_t, newA_n] <;> first | assumption | omega)) (by simp (disch := first | decide | assumption | omega) only [up_k, up_s, up_a, up_i, flA_k, flA_a, flA_n, cpA_k, cpA_a, newO_o, newA_o, newO_t, newA_t, newA_n] <;> omega) (by simp (disch := first | decide | assumption | omega) only [up_k, up_s, up_a, up_i, flA_k, flA_a, flA_n, cpA_k, cpA_a, newO_o, newA_o, newO_t, newA_t, newA_n] <;> omega) (by omega) hD (by decide) (by simp [rv_cat, int_cat]) ?_
        refine X_aload_n 70 hO dX5_putIn_69 rfl rfl ?_
        refine X_dup 71 hO dX5_putIn_70 rfl (by first | rfl | exact rv_cat _) ?_
        refine gX5_40 74 hO dX5_putIn_71 rfl (by first | assumption | omega | (simp (disch := first | decide | assumption | omega) only [up_k, up_s, up_a, up_i, flA_k, flA_a, flA_n, cpA_k, cpA_a, newO_o, newA_o, newO_t, newA_t, newA_n] <;> first | assumption | omega)) (fun hi_71 => ?_)
        try simp (disch := first | decide | assumption | omega) only [up_k, up_s, up_a, up_i, flA_k, flA_a, flA_n, cpA_k, cpA_a, newO_o, newA_o, newO_t, newA_t, newA_n, t_pt1_k, t_pt1_1] at hi_71 ⊢
        refine X_iload_n 75 hO dX5_putIn_74 rfl rfl ?_
        refine X_iadd 76 hO dX5_putIn_75 rfl ?_
        refine pX5_40 79 hO dX5_putIn_76 rfl (by first | assumption | omega | (simp (disch := first | decide | assumption | omega) only [up_k, up_s, up_a, up_i, flA_k, flA_a, flA_n, cpA_k, cpA_a, newO_o, newA_o, newO_t, newA_t, newA_n] <;> first | assumption | omega)) (by omega) ?_
        refine X_iconst 80 hO dX5_putIn_79 rfl ?_
        refine X_istore 82 hO dX5_putIn_80 rfl rfl ?_
        have LP82 : ∀ (nn : Nat) (j : Int), (6 - j).toNat < nn → (0 ≤ j ∧ j ≤ 6) → X κ (0) (0) (flA (t_pt1 s p (w 10 c 0) w) 1 (w 29 s 0) 0 j (fun i => mvF (w 1 (w 29 s 0) i) p (w 2 (w 10 c 0) 0) (w 1 (w 30 s 0) i))) 82 [some (rv s), some (.int (I p)), some (rv c), some (.int (I (w 2 (w 10 c 0) 0))), some (.int (I j))] [] := by
          intro nn
          induction nn with
          | zero => intro j hm; exact absurd hm (Nat.not_lt_zero _)
          | succ nn ih =>
            intro j hm hj
            refine X_iload 84 hO dX5_putIn_82 rfl rfl ?_
            refine X_bipush 86 hO dX5_putIn_84 rfl (by decide) ?_
            refine X_icmp_ge 89 121 hO dX5_putIn_86 rfl rfl (by omega) (by omega) (fun hc_86 => ?_) (fun hc_86 => ?_)
            ·
              refine X_iconst 122 hO dX5_putIn_121 rfl ?_
              exact X_iret hO hF rfl (by first | exact Or.inl rfl | exact Or.inr ⟨rfl, bi_01 _⟩ | exact Or.inr ⟨rfl, by omega⟩) dX5_putIn_122 ⟨_, rfl, (by omega), Or.inr ⟨by omega, rfl, (by have ej : j = 6 := (by omega); subst ej; rfl)⟩⟩
            ·
              refine X_aload_n 90 hO dX5_putIn_89 rfl rfl ?_
              refine gX5_9 93 hO dX5_putIn_90 rfl (by first | assumption | omega | (simp (disch := first | decide | assumption | omega) only [up_k, up_s, up_a, up_i, flA_k, flA_a, flA_n, cpA_k, cpA_a, newO_o, newA_o, newO_t, newA_t, newA_n, t_pt1_k, t_pt1_1] <;> first | assumption | omega)) ?_
              try simp (disch := first | decide | assumption | omega) only [up_k, up_s, up_a, up_i, flA_k, flA_a, flA_n, cpA_k, cpA_a, newO_o, newA_o, newO_t, newA_t, newA_n, t_pt1_k, t_pt1_1]
              refine X_iload 95 hO dX5_putIn_93 rfl rfl ?_
              refine X_aload_n 96 hO dX5_putIn_95 rfl rfl ?_
              refine gX5_9 99 hO dX5_putIn_96 rfl (by first | assumption | omega | (simp (disch := first | decide | assumption | omega) only [up_k, up_s, up_a, up_i, flA_k, flA_a, flA_n, cpA_k, cpA_a, newO_o, newA_o, newO_t, newA_t, newA_n, t_pt1_k, t_pt1_1] <;> first | assumption | omega)) ?_
              try simp (disch := first | decide | assumption | omega) only [up_k, up_s, up_a, up_i, flA_k, flA_a, flA_n, cpA_k, cpA_a, newO_o, newA_o, newO_t, newA_t, newA_n, t_pt1_k, t_pt1_1]
              refine X_iload 101 hO dX5_putIn_99 rfl rfl ?_
              refine X_iald 102 hO dX5_putIn_101 rfl (by first | assumption | omega | (simp (disch := first | decide | assumption | omega) only [up_k, up_s, up_a, up_i, flA_k, flA_a, flA_n, cpA_k, cpA_a, newO_o, newA_o, newO_t, newA_t, newA_n, t_pt1_k, t_pt1_1] <;> first | assumption | omega)) (by first | assumption | omega | (simp (disch := first | decide | assumption | omega) only [up_k, up_s, up_a, up_i, flA_k, flA_a, flA_n, cpA_k, cpA_a, newO_o, newA_o, newO_t, newA_t, newA_n, t_pt1_k, t_pt1_1] <;> first | assumption | omega)) (fun hi_101 => ?_)
              try simp (disch := first | decide | assumption | omega) only [up_k, up_s, up_a, up_i, flA_k, flA_a, flA_n, cpA_k, cpA_a, newO_o, newA_o, newO_t, newA_t, newA_n, t_pt1_k, t_pt1_1] at hi_101 ⊢
              refine X_aload_n 103 hO dX5_putIn_102 rfl rfl ?_
              refine gX5_15 106 hO dX5_putIn_103 rfl (by first | assumption | omega | (simp (disch := first | decide | assumption | omega) only [up_k, up_s, up_a, up_i, flA_k, flA_a, flA_n, cpA_k, cpA_a, newO_o, newA_o, newO_t, newA_t, newA_n, t_pt1_k, t_pt1_1] <;> first | assumption | omega)) ?_
              try simp (disch := first | decide | assumption | omega) only [up_k, up_s, up_a, up_i, flA_k, flA_a, flA_n, cpA_k, cpA_a, newO_o, newA_o, newO_t, newA_t, newA_n, t_pt1_k, t_pt1_1]
              refine X_iload 108 hO dX5_putIn_106 rfl rfl ?_
              refine X_zald 109 hO dX5_putIn_108 rfl (by first | assumption | omega | (simp (disch := first | decide | assumption | omega) only [up_k, up_s, up_a, up_i, flA_k, flA_a, flA_n, cpA_k, cpA_a, newO_o, newA_o, newO_t, newA_t, newA_n, t_pt1_k, t_pt1_1] <;> first | assumption | omega)) (by first | assumption | omega | (simp (disch := first | decide | assumption | omega) only [up_k, up_s, up_a, up_i, flA_k, flA_a, flA_n, cpA_k, cpA_a, newO_o, newA_o, newO_t, newA_t, newA_n, t_pt1_k, t_pt1_1] <;> first | assumption | omega)) (fun hi_108 => ?_)
              try simp (disch := first | decide | assumption | omega) only [up_k, up_s, up_a, up_i, flA_k, flA_a, flA_n, cpA_k, cpA_a, newO_o, newA_o, newO_t, newA_t, newA_n, t_pt1_k, t_pt1_1] at hi_108 ⊢
              have hpj := hp j (by omega) (by omega)
              have hbj := hb j (by omega) (by omega)
              refine X_iload_n 110 hO dX5_putIn_109 rfl rfl ?_
              refine X_iload_n 111 hO dX5_putIn_110 rfl rfl ?_
              refine X_kSi 114 hO hD lX5_50 [_, _, _, _] rfl dX5_putIn_111 rfl (kX5_placeAfterInsertion _ _ _ _ _ _ (by omega) (by assumption) (by omega) (by omega)) (by decide) (by simp [rv_cat, int_cat]) (by first | decide | exact Nat.zero_le _ | omega) (by first | decide | exact Nat.zero_le _ | omega) (fun r_111 w_111 hr_111 hp_111 => ?_) (fun E w_ hx_ => hx_.elim)
              obtain ⟨e1_111, e2_111⟩ := hp_111
              subst r_111
              subst w_111
              refine X_iast 115 hO dX5_putIn_114 rfl (by first | assumption | omega | (simp (disch := first | decide | assumption | omega) only [up_k, up_s, up_a, up_i, flA_k, flA_a, flA_n, cpA_k, cpA_a, newO_o, newA_o, newO_t, newA_t, newA_n, t_pt1_k, t_pt1_1] <;> first | assumption | omega)) (by first | assumption | omega | (simp (disch := first | decide | assumption | omega) only [up_k, up_s, up_a, up_i, flA_k, flA_a, flA_n, cpA_k, cpA_a, newO_o, newA_o, newO_t, newA_t, newA_n, t_pt1_k, t_pt1_1] <;> first | assumption | omega)) (by unfold mvF; split <;> omega) ?_
              refine X_iinc 118 hO dX5_putIn_115 rfl rfl ?_
              refine X_goto hO dX5_putIn_118 (tgt := 82) rfl ?_
              exact X_eqW (flA_e (by omega) rfl) (ih (j + 1) (by omega) (by omega))
        exact X_eqW (w2 := flA (t_pt1 s p (w 10 c 0) w) 1 (w 29 s 0) 0 0 (fun i => mvF (w 1 (w 29 s 0) i) p (w 2 (w 10 c 0) 0) (w 1 (w 30 s 0) i))) flA_0.symm (LP82 _ 0 (Nat.lt_succ_self _) (by omega))
      ·
        refine X_iconst 33 hO dX5_putIn_32 rfl ?_
        exact X_iret hO hF rfl (by first | exact Or.inl rfl | exact Or.inr ⟨rfl, bi_01 _⟩ | exact Or.inr ⟨rfl, by omega⟩) dX5_putIn_33 ⟨_, rfl, (by omega), Or.inl ⟨by omega, rfl, rfl⟩⟩
theorem dX5_takeOut_0 : decode cX5_takeOut 0 = .ok (.aload_n 0, 1) := by decide +kernel
theorem dX5_takeOut_1 : decode cX5_takeOut 1 = .ok (.getfield 31, 3) := by decide +kernel
theorem dX5_takeOut_4 : decode cX5_takeOut 4 = .ok (.iload_n 1, 1) := by decide +kernel
theorem dX5_takeOut_5 : decode cX5_takeOut 5 = .ok (.iload_n 2, 1) := by decide +kernel
theorem dX5_takeOut_6 : decode cX5_takeOut 6 = .ok (.iadd, 1) := by decide +kernel
theorem dX5_takeOut_7 : decode cX5_takeOut 7 = .ok (.aload_n 0, 1) := by decide +kernel
theorem dX5_takeOut_8 : decode cX5_takeOut 8 = .ok (.getfield 31, 3) := by decide +kernel
theorem dX5_takeOut_11 : decode cX5_takeOut 11 = .ok (.iload_n 1, 1) := by decide +kernel
theorem dX5_takeOut_12 : decode cX5_takeOut 12 = .ok (.aload_n 0, 1) := by decide +kernel
theorem dX5_takeOut_13 : decode cX5_takeOut 13 = .ok (.getfield 40, 3) := by decide +kernel
theorem dX5_takeOut_16 : decode cX5_takeOut 16 = .ok (.iload_n 1, 1) := by decide +kernel
theorem dX5_takeOut_17 : decode cX5_takeOut 17 = .ok (.isub, 1) := by decide +kernel
theorem dX5_takeOut_18 : decode cX5_takeOut 18 = .ok (.iload_n 2, 1) := by decide +kernel
theorem dX5_takeOut_19 : decode cX5_takeOut 19 = .ok (.isub, 1) := by decide +kernel
theorem dX5_takeOut_20 : decode cX5_takeOut 20 = .ok (.invokestatic 44, 3) := by decide +kernel
theorem dX5_takeOut_23 : decode cX5_takeOut 23 = .ok (.aload_n 0, 1) := by decide +kernel
theorem dX5_takeOut_24 : decode cX5_takeOut 24 = .ok (.dup, 1) := by decide +kernel
theorem dX5_takeOut_25 : decode cX5_takeOut 25 = .ok (.getfield 40, 3) := by decide +kernel
theorem dX5_takeOut_28 : decode cX5_takeOut 28 = .ok (.iload_n 2, 1) := by decide +kernel
theorem dX5_takeOut_29 : decode cX5_takeOut 29 = .ok (.isub, 1) := by decide +kernel
theorem dX5_takeOut_30 : decode cX5_takeOut 30 = .ok (.putfield 40, 3) := by decide +kernel
theorem dX5_takeOut_33 : decode cX5_takeOut 33 = .ok (.iconst 0, 1) := by decide +kernel
theorem dX5_takeOut_34 : decode cX5_takeOut 34 = .ok (.istore_n 3, 1) := by decide +kernel
theorem dX5_takeOut_35 : decode cX5_takeOut 35 = .ok (.iload_n 3, 1) := by decide +kernel
theorem dX5_takeOut_36 : decode cX5_takeOut 36 = .ok (.bipush 6, 2) := by decide +kernel
theorem dX5_takeOut_38 : decode cX5_takeOut 38 = .ok (.if_icmp .ge 26, 3) := by decide +kernel
theorem dX5_takeOut_41 : decode cX5_takeOut 41 = .ok (.aload_n 0, 1) := by decide +kernel
theorem dX5_takeOut_42 : decode cX5_takeOut 42 = .ok (.getfield 9, 3) := by decide +kernel
theorem dX5_takeOut_45 : decode cX5_takeOut 45 = .ok (.iload_n 3, 1) := by decide +kernel
theorem dX5_takeOut_46 : decode cX5_takeOut 46 = .ok (.aload_n 0, 1) := by decide +kernel
theorem dX5_takeOut_47 : decode cX5_takeOut 47 = .ok (.getfield 9, 3) := by decide +kernel
theorem dX5_takeOut_50 : decode cX5_takeOut 50 = .ok (.iload_n 3, 1) := by decide +kernel
theorem dX5_takeOut_51 : decode cX5_takeOut 51 = .ok (.iaload, 1) := by decide +kernel
theorem dX5_takeOut_52 : decode cX5_takeOut 52 = .ok (.iload_n 1, 1) := by decide +kernel
theorem dX5_takeOut_53 : decode cX5_takeOut 53 = .ok (.iload_n 2, 1) := by decide +kernel
theorem dX5_takeOut_54 : decode cX5_takeOut 54 = .ok (.invokestatic 54, 3) := by decide +kernel
theorem dX5_takeOut_57 : decode cX5_takeOut 57 = .ok (.iastore, 1) := by decide +kernel
theorem dX5_takeOut_58 : decode cX5_takeOut 58 = .ok (.iinc 3 1, 3) := by decide +kernel
theorem dX5_takeOut_61 : decode cX5_takeOut 61 = .ok (.goto (-26), 3) := by decide +kernel
theorem dX5_takeOut_64 : decode cX5_takeOut 64 = .ok (.return_, 1) := by decide +kernel
set_option maxRecDepth 4000 in
theorem kX5_takeOut (γ : LC) (w : Mm) (s p n : Int) (hs : ST w s) (hz : SZ w s) (hp : SP w s) (h1 : 0 ≤ p ∧ 0 ≤ n ∧ p + n ≤ w 67 s 0) : KV γ 3 mX5_takeOut [rv s, .int (I p), .int (I n)] w (0) (0) (fun w' => w' = t_toj s p n w 6) NX := by
  refine MX_of rfl rfl (by simp [rv_cat, int_cat]) rfl ?_
  rintro κ hO hF rfl
  have hD := hF.dp
  show X κ (0) (0) w 0 [some (rv s), some (.int (I p)), some (.int (I n)), none] []
  obtain ⟨t0, ⟨t1, t2, t3, t4⟩, ⟨t5, t6, t7⟩, t8⟩ := id hs
  obtain ⟨z1, z2, z3⟩ := id hz
  refine X_aload_n 1 hO dX5_takeOut_0 rfl rfl ?_
  refine gX5_31 4 hO dX5_takeOut_1 rfl (by first | assumption | omega | (simp (disch := first | decide | assumption | omega) only [up_k, up_s, up_a, up_i, flA_k, flA_a, flA_n, cpA_k, cpA_a, newO_o, newA_o, newO_t, newA_t, newA_n] <;> first | assumption | omega)) ?_
  try simp (disch := first | decide | assumption | omega) only [up_k, up_s, up_a, up_i, flA_k, flA_a, flA_n, cpA_k, cpA_a, newO_o, newA_o, newO_t, newA_t, newA_n, t_to1_k, t_to1_1]
  refine X_iload_n 5 hO dX5_takeOut_4 rfl rfl ?_
  refine X_iload_n 6 hO dX5_takeOut_5 rfl rfl ?_
  refine X_iadd 7 hO dX5_takeOut_6 rfl ?_
  refine X_aload_n 8 hO dX5_takeOut_7 rfl rfl ?_
  refine gX5_31 11 hO dX5_takeOut_8 rfl (by first | assumption | omega | (simp (disch := first | decide | assumption | omega) only [up_k, up_s, up_a, up_i, flA_k, flA_a, flA_n, cpA_k, cpA_a, newO_o, newA_o, newO_t, newA_t, newA_n] <;> first | assumption | omega)) ?_
  try simp (disch := first | decide | assumption | omega) only [up_k, up_s, up_a, up_i, flA_k, flA_a, flA_n, cpA_k, cpA_a, newO_o, newA_o, newO_t, newA_t, newA_n, t_to1_k, t_to1_1]
  refine X_iload_n 12 hO dX5_takeOut_11 rfl rfl ?_
  refine X_aload_n 13 hO dX5_takeOut_12 rfl rfl ?_
  refine gX5_40 16 hO dX5_takeOut_13 rfl (by first | assumption | omega | (simp (disch := first | decide | assumption | omega) only [up_k, up_s, up_a, up_i, flA_k, flA_a, flA_n, cpA_k, cpA_a, newO_o, newA_o, newO_t, newA_t, newA_n] <;> first | assumption | omega)) (fun hi_13 => ?_)
  try simp (disch := first | decide | assumption | omega) only [up_k, up_s, up_a, up_i, flA_k, flA_a, flA_n, cpA_k, cpA_a, newO_o, newA_o, newO_t, newA_t, newA_n, t_to1_k, t_to1_1] at hi_13 ⊢
  refine X_iload_n 17 hO dX5_takeOut_16 rfl rfl ?_
  refine X_isub 18 hO dX5_takeOut_17 rfl ?_
  refine X_iload_n 19 hO dX5_takeOut_18 rfl rfl ?_
  refine X_isub 20 hO dX5_takeOut_19 rfl ?_
  refine X_copyi 23 hO w_757 dX5_takeOut_20 rfl (by assumption) (by assumption) (by omega) (by omega) (by omega) hD (by decide) (by simp [rv_cat, int_cat]) ?_
  refine X_aload_n 24 hO dX5_takeOut_23 rfl rfl ?_
  refine X_dup 25 hO dX5_takeOut_24 rfl (by first | rfl | exact rv_cat _) ?_
  refine gX5_40 28 hO dX5_takeOut_25 rfl (by first | assumption | omega | (simp (disch := first | decide | assumption | omega) only [up_k, up_s, up_a, up_i, flA_k, flA_a, flA_n, cpA_k, cpA_a, newO_o, newA_o, newO_t, newA_t, newA_n] <;> first | assumption | omega)) (fun hi_25 => ?_)
  try simp (disch := first | decide | assumption | omega) only [up_k, up_s, up_a, up_i, flA_k, flA_a, flA_n, cpA_k, cpA_a, newO_o, newA_o, newO_t, newA_t, newA_n, t_to1_k, t_to1_1] at hi_25 ⊢
  refine X_iload_n 29 hO dX5_takeOut_28 rfl rfl ?_
  refine X_isub 30 hO dX5_takeOut_29 rfl ?_
  refine pX5_40 33 hO dX5_takeOut_30 rfl (by first | assumption | omega | (simp (disch := first | decide | assumption | omega) only [up_k, up_s, up_a, up_i, flA_k, flA_a, flA_n, cpA_k, cpA_a, newO_o, newA_o, newO_t, newA_t, newA_n] <;> first | assumption | omega)) (by omega) ?_
  refine X_iconst 34 hO dX5_takeOut_33 rfl ?_
  refine X_istore_n 35 hO dX5_takeOut_34 rfl rfl ?_
  have LP35 : ∀ (nn : Nat) (j : Int), (6 - j).toNat < nn → (0 ≤ j ∧ j ≤ 6) → X κ (0) (0) (flA (t_to1 s p n w) 1 (w 29 s 0) 0 j (fun i => dbF (w 1 (w 29 s 0) i) p n)) 35 [some (rv s), some (.int (I p)), some (.int (I n)), some (.int (I j))] [] := by
    intro nn
    induction nn with
    | zero => intro j hm; exact absurd hm (Nat.not_lt_zero _)
    | succ nn ih =>
      intro j hm hj
      refine X_iload_n 36 hO dX5_takeOut_35 rfl rfl ?_
      refine X_bipush 38 hO dX5_takeOut_36 rfl (by decide) ?_
      refine X_icmp_ge 41 64 hO dX5_takeOut_38 rfl rfl (by omega) (by omega) (fun hc_38 => ?_) (fun hc_38 => ?_)
      ·
        exact X_vret hO hF rfl dX5_takeOut_64 ⟨rfl, (by have ej : j = 6 := (by omega); subst ej; rfl)⟩
      ·
        refine X_aload_n 42 hO dX5_takeOut_41 rfl rfl ?_
        refine gX5_9 45 hO dX5_takeOut_42 rfl (by first | assumption | omega | (simp (disch := first | decide | assumption | omega) only [up_k, up_s, up_a, up_i, flA_k, flA_a, flA_n, cpA_k, cpA_a, newO_o, newA_o, newO_t, newA_t, newA_n, t_to1_k, t_to1_1] <;> first | assumption | omega)) ?_
        try simp (disch := first | decide | assumption | omega) only [up_k, up_s, up_a, up_i, flA_k, flA_a, flA_n, cpA_k, cpA_a, newO_o, newA_o, newO_t, newA_t, newA_n, t_to1_k, t_to1_1]
        refine X_iload_n 46 hO dX5_takeOut_45 rfl rfl ?_
        refine X_aload_n 47 hO dX5_takeOut_46 rfl rfl ?_
        refine gX5_9 50 hO dX5_takeOut_47 rfl (by first | assumption | omega | (simp (disch := first | decide | assumption | omega) only [up_k, up_s, up_a, up_i, flA_k, flA_a, flA_n, cpA_k, cpA_a, newO_o, newA_o, newO_t, newA_t, newA_n, t_to1_k, t_to1_1] <;> first | assumption | omega)) ?_
        try simp (disch := first | decide | assumption | omega) only [up_k, up_s, up_a, up_i, flA_k, flA_a, flA_n, cpA_k, cpA_a, newO_o, newA_o, newO_t, newA_t, newA_n, t_to1_k, t_to1_1]
        refine X_iload_n 51 hO dX5_takeOut_50 rfl rfl ?_
        refine X_iald 52 hO dX5_takeOut_51 rfl (by first | assumption | omega | (simp (disch := first | decide | assumption | omega) only [up_k, up_s, up_a, up_i, flA_k, flA_a, flA_n, cpA_k, cpA_a, newO_o, newA_o, newO_t, newA_t, newA_n, t_to1_k, t_to1_1] <;> first | assumption | omega)) (by first | assumption | omega | (simp (disch := first | decide | assumption | omega) only [up_k, up_s, up_a, up_i, flA_k, flA_a, flA_n, cpA_k, cpA_a, newO_o, newA_o, newO_t, newA_t, newA_n, t_to1_k, t_to1_1] <;> first | assumption | omega)) (fun hi_51 => ?_)
        try simp (disch := first | decide | assumption | omega) only [up_k, up_s, up_a, up_i, flA_k, flA_a, flA_n, cpA_k, cpA_a, newO_o, newA_o, newO_t, newA_t, newA_n, t_to1_k, t_to1_1] at hi_51 ⊢
        have hpj := hp j (by omega) (by omega)
        refine X_iload_n 53 hO dX5_takeOut_52 rfl rfl ?_
        refine X_iload_n 54 hO dX5_takeOut_53 rfl rfl ?_
        refine X_kSi 57 hO hD lX5_54 [_, _, _] rfl dX5_takeOut_54 rfl (kX5_placeAfterDeletion _ _ _ _ _ (by omega) (by omega) (by omega) (by omega)) (by decide) (by simp [rv_cat, int_cat]) (by first | decide | exact Nat.zero_le _ | omega) (by first | decide | exact Nat.zero_le _ | omega) (fun r_54 w_54 hr_54 hp_54 => ?_) (fun E w_ hx_ => hx_.elim)
        obtain ⟨e1_54, e2_54⟩ := hp_54
        subst r_54
        subst w_54
        refine X_iast 58 hO dX5_takeOut_57 rfl (by first | assumption | omega | (simp (disch := first | decide | assumption | omega) only [up_k, up_s, up_a, up_i, flA_k, flA_a, flA_n, cpA_k, cpA_a, newO_o, newA_o, newO_t, newA_t, newA_n, t_to1_k, t_to1_1] <;> first | assumption | omega)) (by first | assumption | omega | (simp (disch := first | decide | assumption | omega) only [up_k, up_s, up_a, up_i, flA_k, flA_a, flA_n, cpA_k, cpA_a, newO_o, newA_o, newO_t, newA_t, newA_n, t_to1_k, t_to1_1] <;> first | assumption | omega)) (by unfold dbF; split <;> (try split) <;> omega) ?_
        refine X_iinc 61 hO dX5_takeOut_58 rfl rfl ?_
        refine X_goto hO dX5_takeOut_61 (tgt := 35) rfl ?_
        exact X_eqW (flA_e (by omega) rfl) (ih (j + 1) (by omega) (by omega))
  exact X_eqW (w2 := flA (t_to1 s p n w) 1 (w 29 s 0) 0 0 (fun i => dbF (w 1 (w 29 s 0) i) p n)) flA_0.symm (LP35 _ 0 (Nat.lt_succ_self _) (by omega))
