/-! the desk: steps added, characters put in, taken out -/
def QT (w : Mm) (t : Int) : Prop := w 0 t 0 = 8 ∧ (w 35 t 0 = 0 ∨ w 0 (w 35 t 0) 0 = 7) ∧ (0 ≤ w 71 t 0 ∧ w 71 t 0 ≤ 100000) ∧ (0 ≤ w 72 t 0 ∧ w 72 t 0 ≤ 100000)
theorem QT_c {w w' : Mm} {t : Int} (h : ∀ (k : Nat) (a : Int), k = 0 ∨ k = 35 ∨ k = 71 ∨ k = 72 → w' k a 0 = w k a 0) (hs : QT w t) : QT w' t := by
  unfold QT
  rw [h 35 _ (by omega), h 71 _ (by omega), h 72 _ (by omega)]
  simp only [fun a => h 0 a (Or.inl rfl)]
  exact hs
def stepO (x k p n g : Int) (w : Mm) : Mm := up (up (up (up (newO w x 7) 68 x 0 k) 69 x 0 p) 70 x 0 n) 32 x 0 g
def k_step (t x k p n g : Int) (w : Mm) : Mm := q_app t x (stepO x k p n g w)
theorem stepO_a {x k p n g : Int} {w : Mm} {c : Nat} {a i : Int} (h : a ≠ x) : stepO x k p n g w c a i = w c a i := by
  unfold stepO; rw [up_a _ _ _ h, up_a _ _ _ h, up_a _ _ _ h, up_a _ _ _ h, newO_o h]
theorem stepO_t {x k p n g : Int} {w : Mm} : stepO x k p n g w 0 x 0 = 7 := by
  unfold stepO; rw [up_k _ (by decide), up_k _ (by decide), up_k _ (by decide), up_k _ (by decide), newO_t]
theorem q_app_k {t x : Int} {w : Mm} {c : Nat} {a i : Int} (h1 : c ≠ 33) (h2 : c ≠ 34) (h3 : c ≠ 35) (h4 : c ≠ 71) (h5 : c ≠ 72) : q_app t x w c a i = w c a i := by
  unfold q_app
  have e : ∀ W : Mm, up (up W 35 t 0 x) 71 t 0 (w 71 t 0 + 1) c a i = W c a i := fun W => by rw [up_k _ h4, up_k _ h3]
  split <;> (try rw [up_k _ h5]) <;> rw [e] <;> split <;> first | exact up_k _ h2 _ _ _ _ _ | exact up_k _ h1 _ _ _ _ _
theorem k_step_k {t x k p n g : Int} {w : Mm} {c : Nat} {a i : Int} (h : a ≠ x) (h1 : c ≠ 33) (h2 : c ≠ 34) (h3 : c ≠ 35) (h4 : c ≠ 71) (h5 : c ≠ 72) : k_step t x k p n g w c a i = w c a i := by
  unfold k_step; rw [q_app_k h1 h2 h3 h4 h5, stepO_a h]
theorem kap (γ : LC) (w : Mm) (t x k p n g : Int) (h : QT w t) (hx : 0 < x) (hf : w 0 x 0 = 0) : KV γ 1 mX7_append [rv t, rv x] (up (up (up (up (newO w x 7) 68 x 0 k) 69 x 0 p) 70 x 0 n) 32 x 0 g) 0 0 (fun w' => w' = k_step t x k p n g w) NX := by
  obtain ⟨h1, h2, h3, h4⟩ := h
  have tx : t ≠ x := fun e => by rw [e] at h1; omega
  show KV γ 1 mX7_append [rv t, rv x] (stepO x k p n g w) 0 0 (fun w' => w' = k_step t x k p n g w) NX
  refine kX7_append γ (stepO x k p n g w) t x (by rw [stepO_a tx]; exact h1) stepO_t ?_ (by rw [stepO_a tx]; exact h3) (by rw [stepO_a tx]; exact h4)
  rw [stepO_a tx]
  rcases h2 with h2 | h2
  · exact Or.inl h2
  · refine Or.inr ?_
    rw [stepO_a (fun e => by rw [e] at h2; omega)]; exact h2
theorem flA2_e {W : Mm} {c : Nat} {A B j v u : Int} {f g : Int → Int} (h : A ≠ B) (hj : 0 ≤ j) (hv : v = f j) (hu : u = g j) : up (up (flA (flA W c A 0 j f) c B 0 j g) c A j v) c B j u = flA (flA W c A 0 (j + 1) f) c B 0 (j + 1) g := by
  rw [flA_up (Or.inr h), flA_e hj hv, flA_e hj hu]
theorem t_ptj_k {s p b : Int} {W : Mm} {j a i : Int} {k : Nat} (h : k ≠ 1) (h2 : k ≠ 67) : t_ptj s p b W j k a i = W k a i := by unfold t_ptj; rw [flA_k h, t_pt1_k h h2]
theorem t_ptj_1 {s p b : Int} {W : Mm} {j a i : Int} (h : a ≠ W 28 s 0) (h2 : a ≠ W 29 s 0) : t_ptj s p b W j 1 a i = W 1 a i := by unfold t_ptj; rw [flA_a h2, t_pt1_1 h]
theorem t_toj_k {s p n : Int} {W : Mm} {j a i : Int} {k : Nat} (h : k ≠ 1) (h2 : k ≠ 67) : t_toj s p n W j k a i = W k a i := by unfold t_toj; rw [flA_k h, t_to1_k h h2]
theorem t_toj_1 {s p n : Int} {W : Mm} {j a i : Int} (h : a ≠ W 28 s 0) (h2 : a ≠ W 29 s 0) : t_toj s p n W j 1 a i = W 1 a i := by unfold t_toj; rw [flA_a h2, t_to1_1 h]
/-- what is allocated stays -/
def FrO (w W : Mm) : Prop := ∀ (k : Nat) (a i : Int), w 0 a 0 ≠ 0 → W k a i = w k a i
theorem ST_fr {w W : Mm} {s : Int} (h : FrO w W) (hs : ST w s) : ST W s := by
  obtain ⟨t0, ⟨t1, t2, t3, t4⟩, ⟨t5, t6, t7⟩, t8⟩ := hs
  have f : w 0 s 0 ≠ 0 := by omega
  unfold ST
  rw [h 0 s 0 f, h 28 s 0 f, h 29 s 0 f, h 30 s 0 f, h 31 s 0 f, h 0 (w 28 s 0) 0 (by omega), h 0 (w 29 s 0) 0 (by omega), h 0 (w 30 s 0) 0 (by omega), h 0 (w 31 s 0) 0 (by omega), h 2 (w 29 s 0) 0 (by omega), h 2 (w 30 s 0) 0 (by omega), h 2 (w 31 s 0) 0 (by omega)]
  exact ⟨t0, ⟨t1, t2, t3, t4⟩, ⟨t5, t6, t7⟩, t8⟩
theorem SX_fr {w W : Mm} {s : Int} (h : FrO w W) (hs : ST w s) : (SZ w s → SZ W s) ∧ (SBt w s → SBt W s) ∧ (SP w s → SP W s) ∧ (SE w s → SE W s) := by
  obtain ⟨t0, ⟨t1, t2, t3, t4⟩, -, -⟩ := hs
  have f : w 0 s 0 ≠ 0 := by omega
  refine ⟨fun c => ?_, fun c i h1 h2 => ?_, fun c i h1 h2 => ?_, fun c i h1 h2 => ?_⟩
  · unfold SZ; rw [h 67 s 0 f, h 28 s 0 f, h 2 (w 28 s 0) 0 (by omega)]; exact c
  · rw [h 30 s 0 f, h 1 (w 30 s 0) i (by omega)]; exact c i h1 h2
  · rw [h 29 s 0 f, h 1 (w 29 s 0) i (by omega)]; exact c i h1 h2
  · rw [h 31 s 0 f, h 3 (w 31 s 0) i (by omega)]
    rcases c i h1 h2 with c | c
    · exact Or.inl c
    · exact Or.inr (by rw [h 0 _ 0 (by omega)]; exact c)
theorem QT_fr {w W : Mm} {t : Int} (h : FrO w W) (hs : QT w t) : QT W t := by
  obtain ⟨h1, h2, h3, h4⟩ := hs
  have f : w 0 t 0 ≠ 0 := by omega
  unfold QT
  rw [h 0 t 0 f, h 35 t 0 f, h 71 t 0 f, h 72 t 0 f]
  refine ⟨h1, ?_, h3, h4⟩
  rcases h2 with c | c
  · exact Or.inl c
  · exact Or.inr (by rw [h 0 _ 0 (by omega)]; exact c)
def DNj (w : Mm) (d : Int) : Prop := w 13 d 0 ≠ w 14 d 0 ∧ w 13 d 0 ≠ w 28 (w 11 d 0) 0 ∧ w 13 d 0 ≠ w 29 (w 11 d 0) 0 ∧ w 14 d 0 ≠ w 28 (w 11 d 0) 0 ∧ w 14 d 0 ≠ w 29 (w 11 d 0) 0
def DG (w : Mm) (d : Int) : Prop := DTl w d ∧ DVb w d ∧ (ST w (w 11 d 0) ∧ SZ w (w 11 d 0) ∧ SBt w (w 11 d 0) ∧ SP w (w 11 d 0) ∧ SE w (w 11 d 0)) ∧ QT w (w 12 d 0) ∧ DNj w d
theorem DTl_fr {w W : Mm} {d : Int} (h : FrO w W) (hs : DTl w d) : DTl W d := by
  obtain ⟨t0, t1, ⟨t2, t3⟩, ⟨t4, t5⟩, t6, t7, t8⟩ := hs
  have f : w 0 d 0 ≠ 0 := by omega
  unfold DTl
  rw [h 0 d 0 f, h 11 d 0 f, h 13 d 0 f, h 14 d 0 f, h 60 d 0 f, h 61 d 0 f, h 0 (w 11 d 0) 0 (by omega), h 67 (w 11 d 0) 0 (by omega), h 0 (w 13 d 0) 0 (by omega), h 2 (w 13 d 0) 0 (by omega), h 0 (w 14 d 0) 0 (by omega), h 2 (w 14 d 0) 0 (by omega)]
  exact ⟨t0, t1, ⟨t2, t3⟩, ⟨t4, t5⟩, t6, t7, t8⟩
theorem DG_fr {w W : Mm} {d : Int} (h : FrO w W) (hs : DG w d) : DG W d := by
  obtain ⟨hd, hv, ⟨s1, s2, s3, s4, s5⟩, hQ, hN⟩ := hs
  have t := hd
  obtain ⟨t0, t1, ⟨t2, t3⟩, ⟨t4, t5⟩, t6, t7, t8⟩ := t
  have f : w 0 d 0 ≠ 0 := by omega
  obtain ⟨g1, g2, g3, g4⟩ := SX_fr h s1
  refine ⟨DTl_fr h hd, fun i h1 h2 => ?_, ?_, ?_, ?_⟩
  · rw [h 13 d 0 f, h 14 d 0 f, h 1 (w 13 d 0) i (by omega), h 1 (w 14 d 0) i (by omega)]; exact hv i h1 h2
  · rw [h 11 d 0 f]; exact ⟨ST_fr h s1, g1 s2, g2 s3, g3 s4, g4 s5⟩
  · rw [h 12 d 0 f]; exact QT_fr h hQ
  · unfold DNj
    rw [h 13 d 0 f, h 14 d 0 f, h 11 d 0 f, h 28 _ 0 (by omega), h 29 _ 0 (by omega)]; exact hN
theorem NCh_fr {w W : Mm} {r b lo n : Int} (h : NCh w W r b lo n) : FrO w W := by
  obtain ⟨q, h1, h2, h3, h4, h5, e⟩ := h
  intro k a i h0
  have a1 : a ≠ q := fun c => h0 (by rw [c]; exact h3)
  have a2 : a ≠ r := fun c => h0 (by rw [c]; exact h4)
  rw [e, up_a _ _ _ a2, newO_o a2, cpA_a a1, newA_o a1]
theorem NCh_r {w W : Mm} {r b lo n : Int} (h : NCh w W r b lo n) : 0 < r ∧ W 0 r 0 = 1 ∧ w 0 r 0 = 0 := by
  obtain ⟨q, h1, h2, h3, h4, h5, e⟩ := h
  exact ⟨h2, by rw [e, up_k _ (by decide), newO_t], h4⟩
/-- desk d when the n characters of the array b came in at p: the step is x -/
def d_pj (d p b x : Int) (w : Mm) (j : Int) : Mm :=
  flA (flA (up (k_step (w 12 d 0) x 1 p (w 2 b 0) 0 (t_ptj (w 11 d 0) p b w 6)) 61 d 0 (mvF (w 61 d 0) p (w 2 b 0) 0)) 1 (w 13 d 0) 0 j (fun i => mvF (w 1 (w 13 d 0) i) p (w 2 b 0) 0)) 1 (w 14 d 0) 0 j (fun i => mvF (w 1 (w 14 d 0) i) p (w 2 b 0) 1)
/-- desk d when n characters at p went, as g: the step is x; w0 before the characters were made, w after -/
def d_tj (d p n g x : Int) (w : Mm) (j : Int) : Mm :=
  flA (flA (up (k_step (w 12 d 0) x 2 p n g (t_toj (w 11 d 0) p n w 6)) 61 d 0 (dbF (w 61 d 0) p n)) 1 (w 13 d 0) 0 j (fun i => dbF (w 1 (w 13 d 0) i) p n)) 1 (w 14 d 0) 0 j (fun i => dbF (w 1 (w 14 d 0) i) p n)
section
variable {d p b x n g : Int} {w : Mm} {j a i : Int} {k : Nat}
theorem d_pj_k (h : a ≠ x) (h1 : k ≠ 1 ∧ k ≠ 67 ∧ k ≠ 61 ∧ k ≠ 33 ∧ k ≠ 34 ∧ k ≠ 35 ∧ k ≠ 71 ∧ k ≠ 72) : d_pj d p b x w j k a i = w k a i := by
  obtain ⟨h1, h2, h3, h4, h5, h6, h7, h8⟩ := h1
  unfold d_pj; rw [flA_k h1, flA_k h1, up_k _ h3, k_step_k h h4 h5 h6 h7 h8, t_ptj_k h1 h2]
theorem d_tj_k (h : a ≠ x) (h1 : k ≠ 1 ∧ k ≠ 67 ∧ k ≠ 61 ∧ k ≠ 33 ∧ k ≠ 34 ∧ k ≠ 35 ∧ k ≠ 71 ∧ k ≠ 72) : d_tj d p n g x w j k a i = w k a i := by
  obtain ⟨h1, h2, h3, h4, h5, h6, h7, h8⟩ := h1
  unfold d_tj; rw [flA_k h1, flA_k h1, up_k _ h3, k_step_k h h4 h5 h6 h7 h8, t_toj_k h1 h2]
theorem d_pj_s (hN : DNj w d) (hx : w 13 d 0 ≠ x) (hj : j ≤ i) : d_pj d p b x w j 1 (w 13 d 0) i = w 1 (w 13 d 0) i := by
  obtain ⟨n1, n2, n3, n4, n5⟩ := hN
  unfold d_pj; rw [flA_a n1, flA_n (by omega), up_k _ (by decide), k_step_k hx (by decide) (by decide) (by decide) (by decide) (by decide), t_ptj_1 n2 n3]
theorem d_pj_e (hN : DNj w d) (hx : w 14 d 0 ≠ x) (hj : j ≤ i) : d_pj d p b x w j 1 (w 14 d 0) i = w 1 (w 14 d 0) i := by
  obtain ⟨n1, n2, n3, n4, n5⟩ := hN
  unfold d_pj; rw [flA_n (by omega), flA_a (Ne.symm n1), up_k _ (by decide), k_step_k hx (by decide) (by decide) (by decide) (by decide) (by decide), t_ptj_1 n4 n5]
theorem d_tj_s (hN : DNj w d) (hx : w 13 d 0 ≠ x) (hj : j ≤ i) : d_tj d p n g x w j 1 (w 13 d 0) i = w 1 (w 13 d 0) i := by
  obtain ⟨n1, n2, n3, n4, n5⟩ := hN
  unfold d_tj; rw [flA_a n1, flA_n (by omega), up_k _ (by decide), k_step_k hx (by decide) (by decide) (by decide) (by decide) (by decide), t_toj_1 n2 n3]
theorem d_tj_e (hN : DNj w d) (hx : w 14 d 0 ≠ x) (hj : j ≤ i) : d_tj d p n g x w j 1 (w 14 d 0) i = w 1 (w 14 d 0) i := by
  obtain ⟨n1, n2, n3, n4, n5⟩ := hN
  unfold d_tj; rw [flA_n (by omega), flA_a (Ne.symm n1), up_k _ (by decide), k_step_k hx (by decide) (by decide) (by decide) (by decide) (by decide), t_toj_1 n4 n5]
end
def d_copy (d o : Int) (w : Mm) (j : Int) : Mm :=
  flA (flA (up (up w 61 d 0 (w 61 o 0)) 60 d 0 (w 60 o 0)) 1 (w 13 d 0) 0 j (fun i => w 1 (w 13 o 0) i)) 1 (w 14 d 0) 0 j (fun i => w 1 (w 14 o 0) i)
theorem dX1_addStep_0 : decode cX1_addStep 0 = .ok (.aload_n 0, 1) := by decide +kernel
theorem dX1_addStep_1 : decode cX1_addStep 1 = .ok (.getfield 23, 3) := by decide +kernel
theorem dX1_addStep_4 : decode cX1_addStep 4 = .ok (.new 51, 3) := by decide +kernel
theorem dX1_addStep_7 : decode cX1_addStep 7 = .ok (.dup, 1) := by decide +kernel
theorem dX1_addStep_8 : decode cX1_addStep 8 = .ok (.iload_n 1, 1) := by decide +kernel
theorem dX1_addStep_9 : decode cX1_addStep 9 = .ok (.iconst 0, 1) := by decide +kernel
theorem dX1_addStep_10 : decode cX1_addStep 10 = .ok (.iconst 0, 1) := by decide +kernel
theorem dX1_addStep_11 : decode cX1_addStep 11 = .ok (.aconst_null, 1) := by decide +kernel
theorem dX1_addStep_12 : decode cX1_addStep 12 = .ok (.invokespecial 53, 3) := by decide +kernel
theorem dX1_addStep_15 : decode cX1_addStep 15 = .ok (.invokevirtual 56, 3) := by decide +kernel
theorem dX1_addStep_18 : decode cX1_addStep 18 = .ok (.return_, 1) := by decide +kernel
set_option maxRecDepth 4000 in
theorem kX1_addStep (γ : LC) (w : Mm) (d k : Int) (h0 : w 0 d 0 = 2) (hQ : QT w (w 12 d 0)) (hk : IR k) : KV γ 3 mX1_addStep [rv d, .int (I k)] w (1) (5) (fun w' => ∃ x, 0 < x ∧ w 0 x 0 = 0 ∧ w' = k_step (w 12 d 0) x k 0 0 0 w) NX := by
  refine MX_of rfl rfl (by simp [rv_cat, int_cat]) rfl ?_
  rintro κ hO hF rfl
  have hD := hF.dp
  show X κ (1) (5) w 0 [some (rv d), some (.int (I k))] []
  have hz0 : IR 0 := by omega
  have hQ1 := hQ.1
  refine X_aload_n 1 hO dX1_addStep_0 rfl rfl ?_
  refine gX1_23 4 hO dX1_addStep_1 rfl (by first | assumption | omega | (simp (disch := first | decide | assumption | omega) only [up_k, up_s, up_a, up_i, flA_k, flA_a, flA_n, cpA_k, cpA_a, newO_o, newA_o, newO_t, newA_t, newA_n] <;> first | assumption | omega)) ?_
  try simp (disch := first | decide | assumption | omega) only [up_k, up_s, up_a, up_i, flA_k, flA_a, flA_n, cpA_k, cpA_a, newO_o, newA_o, newO_t, newA_t, newA_n]
  refine n_7 7 hO w_810 (by omega) (by omega) dX1_addStep_4 rfl (fun q_4 hq_4 hf_4 => ?_)
  have nx : w 12 d 0 ≠ q_4 := fun h => by rw [h] at hQ1; omega
  refine X_dup 8 hO dX1_addStep_7 rfl (by first | rfl | exact rv_cat _) ?_
  refine X_iload_n 9 hO dX1_addStep_8 rfl rfl ?_
  refine X_iconst 10 hO dX1_addStep_9 rfl ?_
  refine X_iconst 11 hO dX1_addStep_10 rfl ?_
  refine X_null 12 hO dX1_addStep_11 rfl ?_
  refine X_kIv 15 hO hD lX1_53 [_, _, _, _] rfl dX1_addStep_12 rfl (by assumption) (kX6_init _ _ _ _ _ _ _ (by assumption) (newO_t) (by omega) (by omega) (by omega)) (by decide) (by simp [rv_cat, int_cat]) (by first | decide | exact Nat.zero_le _ | omega) (by first | decide | exact Nat.zero_le _ | omega) (fun w_12 hp_12 => ?_) (fun E w_ hx_ => hx_.elim)
  subst w_12
  refine X_kVv (t := 8) 18 hO hD lX1_56 rfl (by decide) [_] rfl dX1_addStep_15 rfl (by first | assumption | omega | (simp (disch := first | decide | assumption | omega) only [up_k, up_s, up_a, up_i, flA_k, flA_a, flA_n, cpA_k, cpA_a, newO_o, newA_o, newO_t, newA_t, newA_n] <;> first | assumption | omega)) (kap _ _ _ _ _ _ _ _ hQ (by assumption) (by assumption)) (by decide) (by simp [rv_cat, int_cat]) (by first | decide | exact Nat.zero_le _ | omega) (by first | decide | exact Nat.zero_le _ | omega) (fun w_15 hp_15 => ?_) (fun E w_ hx_ => hx_.elim)
  subst w_15
  exact X_vret hO hF rfl dX1_addStep_18 ⟨rfl, ⟨q_4, hq_4, hf_4, rfl⟩⟩
theorem dX1_takePlacesAndSteps_0 : decode cX1_takePlacesAndSteps 0 = .ok (.aload_n 0, 1) := by decide +kernel
theorem dX1_takePlacesAndSteps_1 : decode cX1_takePlacesAndSteps 1 = .ok (.aload_n 1, 1) := by decide +kernel
theorem dX1_takePlacesAndSteps_2 : decode cX1_takePlacesAndSteps 2 = .ok (.getfield 48, 3) := by decide +kernel
theorem dX1_takePlacesAndSteps_5 : decode cX1_takePlacesAndSteps 5 = .ok (.putfield 48, 3) := by decide +kernel
theorem dX1_takePlacesAndSteps_8 : decode cX1_takePlacesAndSteps 8 = .ok (.aload_n 0, 1) := by decide +kernel
theorem dX1_takePlacesAndSteps_9 : decode cX1_takePlacesAndSteps 9 = .ok (.aload_n 1, 1) := by decide +kernel
theorem dX1_takePlacesAndSteps_10 : decode cX1_takePlacesAndSteps 10 = .ok (.getfield 34, 3) := by decide +kernel
theorem dX1_takePlacesAndSteps_13 : decode cX1_takePlacesAndSteps 13 = .ok (.putfield 34, 3) := by decide +kernel
theorem dX1_takePlacesAndSteps_16 : decode cX1_takePlacesAndSteps 16 = .ok (.iconst 0, 1) := by decide +kernel
theorem dX1_takePlacesAndSteps_17 : decode cX1_takePlacesAndSteps 17 = .ok (.istore_n 2, 1) := by decide +kernel
theorem dX1_takePlacesAndSteps_18 : decode cX1_takePlacesAndSteps 18 = .ok (.iload_n 2, 1) := by decide +kernel
theorem dX1_takePlacesAndSteps_19 : decode cX1_takePlacesAndSteps 19 = .ok (.iconst 4, 1) := by decide +kernel
theorem dX1_takePlacesAndSteps_20 : decode cX1_takePlacesAndSteps 20 = .ok (.if_icmp .ge 33, 3) := by decide +kernel
theorem dX1_takePlacesAndSteps_23 : decode cX1_takePlacesAndSteps 23 = .ok (.aload_n 0, 1) := by decide +kernel
theorem dX1_takePlacesAndSteps_24 : decode cX1_takePlacesAndSteps 24 = .ok (.getfield 27, 3) := by decide +kernel
theorem dX1_takePlacesAndSteps_27 : decode cX1_takePlacesAndSteps 27 = .ok (.iload_n 2, 1) := by decide +kernel
theorem dX1_takePlacesAndSteps_28 : decode cX1_takePlacesAndSteps 28 = .ok (.aload_n 1, 1) := by decide +kernel
theorem dX1_takePlacesAndSteps_29 : decode cX1_takePlacesAndSteps 29 = .ok (.getfield 27, 3) := by decide +kernel
theorem dX1_takePlacesAndSteps_32 : decode cX1_takePlacesAndSteps 32 = .ok (.iload_n 2, 1) := by decide +kernel
theorem dX1_takePlacesAndSteps_33 : decode cX1_takePlacesAndSteps 33 = .ok (.iaload, 1) := by decide +kernel
theorem dX1_takePlacesAndSteps_34 : decode cX1_takePlacesAndSteps 34 = .ok (.iastore, 1) := by decide +kernel
theorem dX1_takePlacesAndSteps_35 : decode cX1_takePlacesAndSteps 35 = .ok (.aload_n 0, 1) := by decide +kernel
theorem dX1_takePlacesAndSteps_36 : decode cX1_takePlacesAndSteps 36 = .ok (.getfield 31, 3) := by decide +kernel
theorem dX1_takePlacesAndSteps_39 : decode cX1_takePlacesAndSteps 39 = .ok (.iload_n 2, 1) := by decide +kernel
theorem dX1_takePlacesAndSteps_40 : decode cX1_takePlacesAndSteps 40 = .ok (.aload_n 1, 1) := by decide +kernel
theorem dX1_takePlacesAndSteps_41 : decode cX1_takePlacesAndSteps 41 = .ok (.getfield 31, 3) := by decide +kernel
theorem dX1_takePlacesAndSteps_44 : decode cX1_takePlacesAndSteps 44 = .ok (.iload_n 2, 1) := by decide +kernel
theorem dX1_takePlacesAndSteps_45 : decode cX1_takePlacesAndSteps 45 = .ok (.iaload, 1) := by decide +kernel
theorem dX1_takePlacesAndSteps_46 : decode cX1_takePlacesAndSteps 46 = .ok (.iastore, 1) := by decide +kernel
theorem dX1_takePlacesAndSteps_47 : decode cX1_takePlacesAndSteps 47 = .ok (.iinc 2 1, 3) := by decide +kernel
theorem dX1_takePlacesAndSteps_50 : decode cX1_takePlacesAndSteps 50 = .ok (.goto (-32), 3) := by decide +kernel
theorem dX1_takePlacesAndSteps_53 : decode cX1_takePlacesAndSteps 53 = .ok (.aload_n 0, 1) := by decide +kernel
theorem dX1_takePlacesAndSteps_54 : decode cX1_takePlacesAndSteps 54 = .ok (.getfield 23, 3) := by decide +kernel
theorem dX1_takePlacesAndSteps_57 : decode cX1_takePlacesAndSteps 57 = .ok (.aload_n 1, 1) := by decide +kernel
theorem dX1_takePlacesAndSteps_58 : decode cX1_takePlacesAndSteps 58 = .ok (.getfield 23, 3) := by decide +kernel
theorem dX1_takePlacesAndSteps_61 : decode cX1_takePlacesAndSteps 61 = .ok (.invokevirtual 104, 3) := by decide +kernel
theorem dX1_takePlacesAndSteps_64 : decode cX1_takePlacesAndSteps 64 = .ok (.return_, 1) := by decide +kernel
set_option maxRecDepth 4000 in
theorem kX1_takePlacesAndSteps (γ : LC) (w : Mm) (d o : Int) (hd : DTl w d) (ho : DTl w o) (hdo : d ≠ o) (hn : w 13 d 0 ≠ w 14 d 0 ∧ w 13 d 0 ≠ w 13 o 0 ∧ w 13 d 0 ≠ w 14 o 0 ∧ w 14 d 0 ≠ w 13 o 0 ∧ w 14 d 0 ≠ w 14 o 0) (hq : w 0 (w 12 d 0) 0 = 8) (hq2 : QT w (w 12 o 0)) (hqn : w 12 d 0 ≠ w 12 o 0) : KV γ 2 mX1_takePlacesAndSteps [rv d, rv o] w (0) (0) (fun w' => w' = q_ext (w 12 d 0) (w 12 o 0) (d_copy d o w 4)) NX := by
  refine MX_of rfl rfl (by simp [rv_cat, int_cat]) rfl ?_
  rintro κ hO hF rfl
  have hD := hF.dp
  show X κ (0) (0) w 0 [some (rv d), some (rv o), none] []
  obtain ⟨t0, t1, ⟨t2, t3⟩, ⟨t4, t5⟩, t6, t7, t8⟩ := id hd
  obtain ⟨u0, u1, ⟨u2, u3⟩, ⟨u4, u5⟩, u6, u7, u8⟩ := id ho
  obtain ⟨n1, n2, n3, n4, n5⟩ := hn
  obtain ⟨y0, y1, y2, y3⟩ := hq2
  have hod : o ≠ d := Ne.symm hdo
  refine X_aload_n 1 hO dX1_takePlacesAndSteps_0 rfl rfl ?_
  refine X_aload_n 2 hO dX1_takePlacesAndSteps_1 rfl rfl ?_
  refine gX1_48 5 hO dX1_takePlacesAndSteps_2 rfl (by first | assumption | omega | (simp (disch := first | decide | assumption | omega) only [up_k, up_s, up_a, up_i, flA_k, flA_a, flA_n, cpA_k, cpA_a, newO_o, newA_o, newO_t, newA_t, newA_n] <;> first | assumption | omega)) (fun hi_2 => ?_)
  try simp (disch := first | decide | assumption | omega) only [up_k, up_s, up_a, up_i, flA_k, flA_a, flA_n, cpA_k, cpA_a, newO_o, newA_o, newO_t, newA_t, newA_n] at hi_2 ⊢
  refine pX1_48 8 hO dX1_takePlacesAndSteps_5 rfl (by first | assumption | omega | (simp (disch := first | decide | assumption | omega) only [up_k, up_s, up_a, up_i, flA_k, flA_a, flA_n, cpA_k, cpA_a, newO_o, newA_o, newO_t, newA_t, newA_n] <;> first | assumption | omega)) (by omega) ?_
  refine X_aload_n 9 hO dX1_takePlacesAndSteps_8 rfl rfl ?_
  refine X_aload_n 10 hO dX1_takePlacesAndSteps_9 rfl rfl ?_
  refine gX1_34 13 hO dX1_takePlacesAndSteps_10 rfl (by first | assumption | omega | (simp (disch := first | decide | assumption | omega) only [up_k, up_s, up_a, up_i, flA_k, flA_a, flA_n, cpA_k, cpA_a, newO_o, newA_o, newO_t, newA_t, newA_n] <;> first | assumption | omega)) (fun hi_10 => ?_)
  try simp (disch := first | decide | assumption | omega) only [up_k, up_s, up_a, up_i, flA_k, flA_a, flA_n, cpA_k, cpA_a, newO_o, newA_o, newO_t, newA_t, newA_n] at hi_10 ⊢
  refine pX1_34 16 hO dX1_takePlacesAndSteps_13 rfl (by first | assumption | omega | (simp (disch := first | decide | assumption | omega) only [up_k, up_s, up_a, up_i, flA_k, flA_a, flA_n, cpA_k, cpA_a, newO_o, newA_o, newO_t, newA_t, newA_n] <;> first | assumption | omega)) (by omega) ?_
  refine X_iconst 17 hO dX1_takePlacesAndSteps_16 rfl ?_
  refine X_istore_n 18 hO dX1_takePlacesAndSteps_17 rfl rfl ?_
  have LP18 : ∀ (nn : Nat) (j : Int), (4 - j).toNat < nn → (0 ≤ j ∧ j ≤ 4) → X κ (0) (0) (flA (flA (up (up w 61 d 0 (w 61 o 0)) 60 d 0 (w 60 o 0)) 1 (w 13 d 0) 0 j (fun i => w 1 (w 13 o 0) i)) 1 (w 14 d 0) 0 j (fun i => w 1 (w 14 o 0) i)) 18 [some (rv d), some (rv o), some (.int (I j))] [] := by
    intro nn
    induction nn with
    | zero => intro j hm; exact absurd hm (Nat.not_lt_zero _)
    | succ nn ih =>
      intro j hm hj
      refine X_iload_n 19 hO dX1_takePlacesAndSteps_18 rfl rfl ?_
      refine X_iconst 20 hO dX1_takePlacesAndSteps_19 rfl ?_
      refine X_icmp_ge 23 53 hO dX1_takePlacesAndSteps_20 rfl rfl (by omega) (by omega) (fun hc_20 => ?_) (fun hc_20 => ?_)
      ·
        have ej : j = 4 := by omega
        subst ej
        refine X_aload_n 54 hO dX1_takePlacesAndSteps_53 rfl rfl ?_
        refine gX1_23 57 hO dX1_takePlacesAndSteps_54 rfl (by first | assumption | omega | (simp (disch := first | decide | assumption | omega) only [up_k, up_s, up_a, up_i, flA_k, flA_a, flA_n, cpA_k, cpA_a, newO_o, newA_o, newO_t, newA_t, newA_n] <;> first | assumption | omega)) ?_
        try simp (disch := first | decide | assumption | omega) only [up_k, up_s, up_a, up_i, flA_k, flA_a, flA_n, cpA_k, cpA_a, newO_o, newA_o, newO_t, newA_t, newA_n]
        refine X_aload_n 58 hO dX1_takePlacesAndSteps_57 rfl rfl ?_
        refine gX1_23 61 hO dX1_takePlacesAndSteps_58 rfl (by first | assumption | omega | (simp (disch := first | decide | assumption | omega) only [up_k, up_s, up_a, up_i, flA_k, flA_a, flA_n, cpA_k, cpA_a, newO_o, newA_o, newO_t, newA_t, newA_n] <;> first | assumption | omega)) ?_
        try simp (disch := first | decide | assumption | omega) only [up_k, up_s, up_a, up_i, flA_k, flA_a, flA_n, cpA_k, cpA_a, newO_o, newA_o, newO_t, newA_t, newA_n]
        refine X_kVv (t := 8) 64 hO hD lX1_104 rfl (by decide) [_] rfl dX1_takePlacesAndSteps_61 rfl (by first | assumption | omega | (simp (disch := first | decide | assumption | omega) only [up_k, up_s, up_a, up_i, flA_k, flA_a, flA_n, cpA_k, cpA_a, newO_o, newA_o, newO_t, newA_t, newA_n] <;> first | assumption | omega)) (kX7_takeExtent _ _ _ _ (by first | assumption | omega | (simp (disch := first | decide | assumption | omega) only [up_k, up_s, up_a, up_i, flA_k, flA_a, flA_n, cpA_k, cpA_a, newO_o, newA_o, newO_t, newA_t, newA_n] <;> first | assumption | omega)) (by first | assumption | omega | (simp (disch := first | decide | assumption | omega) only [up_k, up_s, up_a, up_i, flA_k, flA_a, flA_n, cpA_k, cpA_a, newO_o, newA_o, newO_t, newA_t, newA_n] <;> first | assumption | omega)) hqn (by simp (disch := decide) only [flA_k, up_k]; exact y1)) (by decide) (by simp [rv_cat, int_cat]) (by first | decide | exact Nat.zero_le _ | omega) (by first | decide | exact Nat.zero_le _ | omega) (fun w_61 hp_61 => ?_) (fun E w_ hx_ => hx_.elim)
        subst w_61
        exact X_vret hO hF rfl dX1_takePlacesAndSteps_64 ⟨rfl, rfl⟩
      ·
        refine X_aload_n 24 hO dX1_takePlacesAndSteps_23 rfl rfl ?_
        refine gX1_27 27 hO dX1_takePlacesAndSteps_24 rfl (by first | assumption | omega | (simp (disch := first | decide | assumption | omega) only [up_k, up_s, up_a, up_i, flA_k, flA_a, flA_n, cpA_k, cpA_a, newO_o, newA_o, newO_t, newA_t, newA_n] <;> first | assumption | omega)) ?_
        try simp (disch := first | decide | assumption | omega) only [up_k, up_s, up_a, up_i, flA_k, flA_a, flA_n, cpA_k, cpA_a, newO_o, newA_o, newO_t, newA_t, newA_n]
        refine X_iload_n 28 hO dX1_takePlacesAndSteps_27 rfl rfl ?_
        refine X_aload_n 29 hO dX1_takePlacesAndSteps_28 rfl rfl ?_
        refine gX1_27 32 hO dX1_takePlacesAndSteps_29 rfl (by first | assumption | omega | (simp (disch := first | decide | assumption | omega) only [up_k, up_s, up_a, up_i, flA_k, flA_a, flA_n, cpA_k, cpA_a, newO_o, newA_o, newO_t, newA_t, newA_n] <;> first | assumption | omega)) ?_
        try simp (disch := first | decide | assumption | omega) only [up_k, up_s, up_a, up_i, flA_k, flA_a, flA_n, cpA_k, cpA_a, newO_o, newA_o, newO_t, newA_t, newA_n]
        refine X_iload_n 33 hO dX1_takePlacesAndSteps_32 rfl rfl ?_
        refine X_iald 34 hO dX1_takePlacesAndSteps_33 rfl (by first | assumption | omega | (simp (disch := first | decide | assumption | omega) only [up_k, up_s, up_a, up_i, flA_k, flA_a, flA_n, cpA_k, cpA_a, newO_o, newA_o, newO_t, newA_t, newA_n] <;> first | assumption | omega)) (by first | assumption | omega | (simp (disch := first | decide | assumption | omega) only [up_k, up_s, up_a, up_i, flA_k, flA_a, flA_n, cpA_k, cpA_a, newO_o, newA_o, newO_t, newA_t, newA_n] <;> first | assumption | omega)) (fun hi_33 => ?_)
        try simp (disch := first | decide | assumption | omega) only [up_k, up_s, up_a, up_i, flA_k, flA_a, flA_n, cpA_k, cpA_a, newO_o, newA_o, newO_t, newA_t, newA_n] at hi_33 ⊢
        refine X_iast 35 hO dX1_takePlacesAndSteps_34 rfl (by first | assumption | omega | (simp (disch := first | decide | assumption | omega) only [up_k, up_s, up_a, up_i, flA_k, flA_a, flA_n, cpA_k, cpA_a, newO_o, newA_o, newO_t, newA_t, newA_n] <;> first | assumption | omega)) (by first | assumption | omega | (simp (disch := first | decide | assumption | omega) only [up_k, up_s, up_a, up_i, flA_k, flA_a, flA_n, cpA_k, cpA_a, newO_o, newA_o, newO_t, newA_t, newA_n] <;> first | assumption | omega)) (by omega) ?_
        refine X_aload_n 36 hO dX1_takePlacesAndSteps_35 rfl rfl ?_
        refine gX1_31 39 hO dX1_takePlacesAndSteps_36 rfl (by first | assumption | omega | (simp (disch := first | decide | assumption | omega) only [up_k, up_s, up_a, up_i, flA_k, flA_a, flA_n, cpA_k, cpA_a, newO_o, newA_o, newO_t, newA_t, newA_n] <;> first | assumption | omega)) ?_
        try simp (disch := first | decide | assumption | omega) only [up_k, up_s, up_a, up_i, flA_k, flA_a, flA_n, cpA_k, cpA_a, newO_o, newA_o, newO_t, newA_t, newA_n]
        refine X_iload_n 40 hO dX1_takePlacesAndSteps_39 rfl rfl ?_
        refine X_aload_n 41 hO dX1_takePlacesAndSteps_40 rfl rfl ?_
        refine gX1_31 44 hO dX1_takePlacesAndSteps_41 rfl (by first | assumption | omega | (simp (disch := first | decide | assumption | omega) only [up_k, up_s, up_a, up_i, flA_k, flA_a, flA_n, cpA_k, cpA_a, newO_o, newA_o, newO_t, newA_t, newA_n] <;> first | assumption | omega)) ?_
        try simp (disch := first | decide | assumption | omega) only [up_k, up_s, up_a, up_i, flA_k, flA_a, flA_n, cpA_k, cpA_a, newO_o, newA_o, newO_t, newA_t, newA_n]
        refine X_iload_n 45 hO dX1_takePlacesAndSteps_44 rfl rfl ?_
        refine X_iald 46 hO dX1_takePlacesAndSteps_45 rfl (by first | assumption | omega | (simp (disch := first | decide | assumption | omega) only [up_k, up_s, up_a, up_i, flA_k, flA_a, flA_n, cpA_k, cpA_a, newO_o, newA_o, newO_t, newA_t, newA_n] <;> first | assumption | omega)) (by first | assumption | omega | (simp (disch := first | decide | assumption | omega) only [up_k, up_s, up_a, up_i, flA_k, flA_a, flA_n, cpA_k, cpA_a, newO_o, newA_o, newO_t, newA_t, newA_n] <;> first | assumption | omega)) (fun hi_45 => ?_)
        try simp (disch := first | decide | assumption | omega) only [up_k, up_s, up_a, up_i, flA_k, flA_a, flA_n, cpA_k, cpA_a, newO_o, newA_o, newO_t, newA_t, newA_n] at hi_45 ⊢
        refine X_iast 47 hO dX1_takePlacesAndSteps_46 rfl (by first | assumption | omega | (simp (disch := first | decide | assumption | omega) only [up_k, up_s, up_a, up_i, flA_k, flA_a, flA_n, cpA_k, cpA_a, newO_o, newA_o, newO_t, newA_t, newA_n] <;> first | assumption | omega)) (by first | assumption | omega | (simp (disch := first | decide | assumption | omega) only [up_k, up_s, up_a, up_i, flA_k, flA_a, flA_n, cpA_k, cpA_a, newO_o, newA_o, newO_t, newA_t, newA_n] <;> first | assumption | omega)) (by omega) ?_
        refine X_iinc 50 hO dX1_takePlacesAndSteps_47 rfl rfl ?_
        refine X_goto hO dX1_takePlacesAndSteps_50 (tgt := 18) rfl ?_
        exact X_eqW (flA2_e n1 (by omega) rfl rfl) (ih (j + 1) (by omega) (by omega))
  refine X_eqW (w2 := flA (flA (up (up w 61 d 0 (w 61 o 0)) 60 d 0 (w 60 o 0)) 1 (w 13 d 0) 0 0 (fun i => w 1 (w 13 o 0) i)) 1 (w 14 d 0) 0 0 (fun i => w 1 (w 14 o 0) i)) ?_ (LP18 _ 0 (Nat.lt_succ_self _) (by omega))
  rw [flA_0, flA_0]
theorem dX1_putIn_0 : decode cX1_putIn 0 = .ok (.aload_n 0, 1) := by decide +kernel
theorem dX1_putIn_1 : decode cX1_putIn 1 = .ok (.getfield 14, 3) := by decide +kernel
theorem dX1_putIn_4 : decode cX1_putIn 4 = .ok (.iload_n 1, 1) := by decide +kernel
theorem dX1_putIn_5 : decode cX1_putIn 5 = .ok (.aload_n 2, 1) := by decide +kernel
theorem dX1_putIn_6 : decode cX1_putIn 6 = .ok (.invokevirtual 60, 3) := by decide +kernel
theorem dX1_putIn_9 : decode cX1_putIn 9 = .ok (.ifCond .ne 5, 3) := by decide +kernel
theorem dX1_putIn_12 : decode cX1_putIn 12 = .ok (.iconst 0, 1) := by decide +kernel
theorem dX1_putIn_13 : decode cX1_putIn 13 = .ok (.ireturn, 1) := by decide +kernel
theorem dX1_putIn_14 : decode cX1_putIn 14 = .ok (.aload_n 2, 1) := by decide +kernel
theorem dX1_putIn_15 : decode cX1_putIn 15 = .ok (.getfield 64, 3) := by decide +kernel
theorem dX1_putIn_18 : decode cX1_putIn 18 = .ok (.arraylength, 1) := by decide +kernel
theorem dX1_putIn_19 : decode cX1_putIn 19 = .ok (.istore_n 3, 1) := by decide +kernel
theorem dX1_putIn_20 : decode cX1_putIn 20 = .ok (.aload_n 0, 1) := by decide +kernel
theorem dX1_putIn_21 : decode cX1_putIn 21 = .ok (.getfield 23, 3) := by decide +kernel
theorem dX1_putIn_24 : decode cX1_putIn 24 = .ok (.new 51, 3) := by decide +kernel
theorem dX1_putIn_27 : decode cX1_putIn 27 = .ok (.dup, 1) := by decide +kernel
theorem dX1_putIn_28 : decode cX1_putIn 28 = .ok (.iconst 1, 1) := by decide +kernel
theorem dX1_putIn_29 : decode cX1_putIn 29 = .ok (.iload_n 1, 1) := by decide +kernel
theorem dX1_putIn_30 : decode cX1_putIn 30 = .ok (.iload_n 3, 1) := by decide +kernel
theorem dX1_putIn_31 : decode cX1_putIn 31 = .ok (.aconst_null, 1) := by decide +kernel
theorem dX1_putIn_32 : decode cX1_putIn 32 = .ok (.invokespecial 53, 3) := by decide +kernel
theorem dX1_putIn_35 : decode cX1_putIn 35 = .ok (.invokevirtual 56, 3) := by decide +kernel
theorem dX1_putIn_38 : decode cX1_putIn 38 = .ok (.aload_n 0, 1) := by decide +kernel
theorem dX1_putIn_39 : decode cX1_putIn 39 = .ok (.aload_n 0, 1) := by decide +kernel
theorem dX1_putIn_40 : decode cX1_putIn 40 = .ok (.getfield 48, 3) := by decide +kernel
theorem dX1_putIn_43 : decode cX1_putIn 43 = .ok (.iconst 0, 1) := by decide +kernel
theorem dX1_putIn_44 : decode cX1_putIn 44 = .ok (.iload_n 1, 1) := by decide +kernel
theorem dX1_putIn_45 : decode cX1_putIn 45 = .ok (.iload_n 3, 1) := by decide +kernel
theorem dX1_putIn_46 : decode cX1_putIn 46 = .ok (.invokestatic 69, 3) := by decide +kernel
theorem dX1_putIn_49 : decode cX1_putIn 49 = .ok (.putfield 48, 3) := by decide +kernel
theorem dX1_putIn_52 : decode cX1_putIn 52 = .ok (.iconst 0, 1) := by decide +kernel
theorem dX1_putIn_53 : decode cX1_putIn 53 = .ok (.istore 4, 2) := by decide +kernel
theorem dX1_putIn_55 : decode cX1_putIn 55 = .ok (.iload 4, 2) := by decide +kernel
theorem dX1_putIn_57 : decode cX1_putIn 57 = .ok (.aload_n 0, 1) := by decide +kernel
theorem dX1_putIn_58 : decode cX1_putIn 58 = .ok (.getfield 34, 3) := by decide +kernel
theorem dX1_putIn_61 : decode cX1_putIn 61 = .ok (.if_icmp .ge 49, 3) := by decide +kernel
theorem dX1_putIn_64 : decode cX1_putIn 64 = .ok (.aload_n 0, 1) := by decide +kernel
theorem dX1_putIn_65 : decode cX1_putIn 65 = .ok (.getfield 27, 3) := by decide +kernel
theorem dX1_putIn_68 : decode cX1_putIn 68 = .ok (.iload 4, 2) := by decide +kernel
theorem dX1_putIn_70 : decode cX1_putIn 70 = .ok (.aload_n 0, 1) := by decide +kernel
theorem dX1_putIn_71 : decode cX1_putIn 71 = .ok (.getfield 27, 3) := by decide +kernel
theorem dX1_putIn_74 : decode cX1_putIn 74 = .ok (.iload 4, 2) := by decide +kernel
theorem dX1_putIn_76 : decode cX1_putIn 76 = .ok (.iaload, 1) := by decide +kernel
theorem dX1_putIn_77 : decode cX1_putIn 77 = .ok (.iconst 0, 1) := by decide +kernel
theorem dX1_putIn_78 : decode cX1_putIn 78 = .ok (.iload_n 1, 1) := by decide +kernel
theorem dX1_putIn_79 : decode cX1_putIn 79 = .ok (.iload_n 3, 1) := by decide +kernel
theorem dX1_putIn_80 : decode cX1_putIn 80 = .ok (.invokestatic 69, 3) := by decide +kernel
theorem dX1_putIn_83 : decode cX1_putIn 83 = .ok (.iastore, 1) := by decide +kernel
theorem dX1_putIn_84 : decode cX1_putIn 84 = .ok (.aload_n 0, 1) := by decide +kernel
theorem dX1_putIn_85 : decode cX1_putIn 85 = .ok (.getfield 31, 3) := by decide +kernel
theorem dX1_putIn_88 : decode cX1_putIn 88 = .ok (.iload 4, 2) := by decide +kernel
theorem dX1_putIn_90 : decode cX1_putIn 90 = .ok (.aload_n 0, 1) := by decide +kernel
theorem dX1_putIn_91 : decode cX1_putIn 91 = .ok (.getfield 31, 3) := by decide +kernel
theorem dX1_putIn_94 : decode cX1_putIn 94 = .ok (.iload 4, 2) := by decide +kernel
theorem dX1_putIn_96 : decode cX1_putIn 96 = .ok (.iaload, 1) := by decide +kernel
theorem dX1_putIn_97 : decode cX1_putIn 97 = .ok (.iconst 1, 1) := by decide +kernel
theorem dX1_putIn_98 : decode cX1_putIn 98 = .ok (.iload_n 1, 1) := by decide +kernel
theorem dX1_putIn_99 : decode cX1_putIn 99 = .ok (.iload_n 3, 1) := by decide +kernel
theorem dX1_putIn_100 : decode cX1_putIn 100 = .ok (.invokestatic 69, 3) := by decide +kernel
theorem dX1_putIn_103 : decode cX1_putIn 103 = .ok (.iastore, 1) := by decide +kernel
theorem dX1_putIn_104 : decode cX1_putIn 104 = .ok (.iinc 4 1, 3) := by decide +kernel
theorem dX1_putIn_107 : decode cX1_putIn 107 = .ok (.goto (-52), 3) := by decide +kernel
theorem dX1_putIn_110 : decode cX1_putIn 110 = .ok (.iconst 1, 1) := by decide +kernel
theorem dX1_putIn_111 : decode cX1_putIn 111 = .ok (.ireturn, 1) := by decide +kernel
set_option maxRecDepth 4000 in
theorem kX1_putIn (γ : LC) (w : Mm) (d p c : Int) (hG : DG w d) (hi : IR p) (hc : w 0 c 0 = 1) (hc1 : w 0 (w 10 c 0) 0 = 20) (hc2 : w 10 c 0 ≠ w 28 (w 11 d 0) 0) (hc3 : 0 ≤ w 2 (w 10 c 0) 0 ∧ w 2 (w 10 c 0) 0 ≤ 100000) : KI γ 3 mX1_putIn [rv d, .int (I p), rv c] w (1) (5) (fun r w' => (¬ (0 ≤ p ∧ p ≤ w 67 (w 11 d 0) 0 ∧ w 2 (w 10 c 0) 0 ≤ w 2 (w 28 (w 11 d 0) 0) 0 - w 67 (w 11 d 0) 0) ∧ r = 0 ∧ w' = w) ∨ ((0 ≤ p ∧ p ≤ w 67 (w 11 d 0) 0 ∧ w 2 (w 10 c 0) 0 ≤ w 2 (w 28 (w 11 d 0) 0) 0 - w 67 (w 11 d 0) 0) ∧ r = 1 ∧ ∃ x, 0 < x ∧ w 0 x 0 = 0 ∧ w' = d_pj d p (w 10 c 0) x w (w 60 d 0))) NX := by
  refine MX_of rfl rfl (by simp [rv_cat, int_cat]) rfl ?_
  rintro κ hO hF rfl
  have hD := hF.dp
  show X κ (1) (5) w 0 [some (rv d), some (.int (I p)), some (rv c), none, none] []
  obtain ⟨hd, hv, ⟨hs, hz, hb, hp, hE⟩, hQ, ⟨n1, n2, n3, n4, n5⟩⟩ := id hG
  obtain ⟨t0, t1, ⟨t2, t3⟩, ⟨t4, t5⟩, t6, t7, t8⟩ := id hd
  obtain ⟨s0, ⟨s1, s2, s3, s4⟩, ⟨s5, s6, s7⟩, s8⟩ := id hs
  obtain ⟨z1, z2, z3⟩ := id hz
  obtain ⟨y0, y1, y2, y3⟩ := id hQ
  have hNj : DNj w d := ⟨n1, n2, n3, n4, n5⟩
  have hz0 : IR 0 := by omega
  have hz1 : IR 1 := by omega
  refine X_aload_n 1 hO dX1_putIn_0 rfl rfl ?_
  refine gX1_14 4 hO dX1_putIn_1 rfl (by first | assumption | omega | (simp (disch := first | decide | assumption | omega) only [up_k, up_s, up_a, up_i, flA_k, flA_a, flA_n, cpA_k, cpA_a, newO_o, newA_o, newO_t, newA_t, newA_n, k_step_k, t_ptj_k, t_ptj_1, t_toj_k, t_toj_1, d_pj_k, d_pj_s, d_pj_e] <;> first | assumption | omega)) ?_
  try simp (disch := first | decide | assumption | omega) only [up_k, up_s, up_a, up_i, flA_k, flA_a, flA_n, cpA_k, cpA_a, newO_o, newA_o, newO_t, newA_t, newA_n, k_step_k, t_ptj_k, t_ptj_1, t_toj_k, t_toj_1, d_pj_k, d_pj_s, d_pj_e]
  refine X_iload_n 5 hO dX1_putIn_4 rfl rfl ?_
  refine X_aload_n 6 hO dX1_putIn_5 rfl rfl ?_
  refine X_kVi (t := 6) 9 hO hD lX1_60 rfl (by decide) [_, _] rfl dX1_putIn_6 rfl (by first | assumption | omega | (simp (disch := first | decide | assumption | omega) only [up_k, up_s, up_a, up_i, flA_k, flA_a, flA_n, cpA_k, cpA_a, newO_o, newA_o, newO_t, newA_t, newA_n, k_step_k, t_ptj_k, t_ptj_1, t_toj_k, t_toj_1, d_pj_k, d_pj_s, d_pj_e] <;> first | assumption | omega)) (kX5_putIn _ _ _ _ _ hs hz hb hp hi hc hc1 hc2 hc3) (by decide) (by simp [rv_cat, int_cat]) (by first | decide | exact Nat.zero_le _ | omega) (by first | decide | exact Nat.zero_le _ | omega) (fun r_6 w_6 hr_6 hp_6 => ?_) (fun E w_ hx_ => hx_.elim)
  refine X_if_ne 12 14 hO dX1_putIn_9 rfl rfl (by omega) (fun hc_9 => ?_) (fun hc_9 => ?_)
  ·
    try simp only [bi_0, bi_ne, ne_eq, Classical.not_not] at hc_9
    obtain ⟨hY, e1_6, e2_6⟩ := hp_6.resolve_left (fun h => by have := h.2.1; omega)
    subst w_6
    refine X_aload_n 15 hO dX1_putIn_14 rfl rfl ?_
    refine gX1_64 18 hO dX1_putIn_15 rfl (by first | assumption | omega | (simp (disch := first | decide | assumption | omega) only [up_k, up_s, up_a, up_i, flA_k, flA_a, flA_n, cpA_k, cpA_a, newO_o, newA_o, newO_t, newA_t, newA_n, k_step_k, t_ptj_k, t_ptj_1, t_toj_k, t_toj_1, d_pj_k, d_pj_s, d_pj_e] <;> first | assumption | omega)) ?_
    try simp (disch := first | decide | assumption | omega) only [up_k, up_s, up_a, up_i, flA_k, flA_a, flA_n, cpA_k, cpA_a, newO_o, newA_o, newO_t, newA_t, newA_n, k_step_k, t_ptj_k, t_ptj_1, t_toj_k, t_toj_1, d_pj_k, d_pj_s, d_pj_e]
    refine X_alen (t := 20) 19 hO (by first | assumption | omega | (simp (disch := first | decide | assumption | omega) only [up_k, up_s, up_a, up_i, flA_k, flA_a, flA_n, cpA_k, cpA_a, newO_o, newA_o, newO_t, newA_t, newA_n, k_step_k, t_ptj_k, t_ptj_1, t_toj_k, t_toj_1, d_pj_k, d_pj_s, d_pj_e] <;> first | assumption | omega)) (by decide) dX1_putIn_18 rfl (by first | assumption | omega | (simp (disch := first | decide | assumption | omega) only [up_k, up_s, up_a, up_i, flA_k, flA_a, flA_n, cpA_k, cpA_a, newO_o, newA_o, newO_t, newA_t, newA_n, k_step_k, t_ptj_k, t_ptj_1, t_toj_k, t_toj_1, d_pj_k, d_pj_s, d_pj_e] <;> first | assumption | omega)) (fun hi_18 => ?_)
    try simp (disch := first | decide | assumption | omega) only [up_k, up_s, up_a, up_i, flA_k, flA_a, flA_n, cpA_k, cpA_a, newO_o, newA_o, newO_t, newA_t, newA_n, k_step_k, t_ptj_k, t_ptj_1, t_toj_k, t_toj_1, d_pj_k, d_pj_s, d_pj_e] at hi_18 ⊢
    refine X_istore_n 20 hO dX1_putIn_19 rfl rfl ?_
    refine X_aload_n 21 hO dX1_putIn_20 rfl rfl ?_
    refine gX1_23 24 hO dX1_putIn_21 rfl (by first | assumption | omega | (simp (disch := first | decide | assumption | omega) only [up_k, up_s, up_a, up_i, flA_k, flA_a, flA_n, cpA_k, cpA_a, newO_o, newA_o, newO_t, newA_t, newA_n, k_step_k, t_ptj_k, t_ptj_1, t_toj_k, t_toj_1, d_pj_k, d_pj_s, d_pj_e] <;> first | assumption | omega)) ?_
    try simp (disch := first | decide | assumption | omega) only [up_k, up_s, up_a, up_i, flA_k, flA_a, flA_n, cpA_k, cpA_a, newO_o, newA_o, newO_t, newA_t, newA_n, k_step_k, t_ptj_k, t_ptj_1, t_toj_k, t_toj_1, d_pj_k, d_pj_s, d_pj_e]
    refine n_7 27 hO w_810 (by omega) (by omega) dX1_putIn_24 rfl (fun q_24 hq_24 hf_24 => ?_)
    have hf2 : w 0 q_24 0 = 0 := by rw [t_ptj_k (by decide) (by decide)] at hf_24; exact hf_24
    have hQx : QT (t_ptj (w 11 d 0) p (w 10 c 0) w 6) (w 12 d 0) := QT_c (fun k a h => t_ptj_k (by omega) (by omega)) hQ
    have nx0 : d ≠ q_24 := fun h => by rw [h] at t0; omega
    have nx1 : w 11 d 0 ≠ q_24 := fun h => by rw [h] at t1; omega
    have nx2 : w 13 d 0 ≠ q_24 := fun h => by rw [h] at t2; omega
    have nx3 : w 14 d 0 ≠ q_24 := fun h => by rw [h] at t4; omega
    have nx4 : w 12 d 0 ≠ q_24 := fun h => by rw [h] at y0; omega
    refine X_dup 28 hO dX1_putIn_27 rfl (by first | rfl | exact rv_cat _) ?_
    refine X_iconst 29 hO dX1_putIn_28 rfl ?_
    refine X_iload_n 30 hO dX1_putIn_29 rfl rfl ?_
    refine X_iload_n 31 hO dX1_putIn_30 rfl rfl ?_
    refine X_null 32 hO dX1_putIn_31 rfl ?_
    refine X_kIv 35 hO hD lX1_53 [_, _, _, _] rfl dX1_putIn_32 rfl (by assumption) (kX6_init _ _ _ _ _ _ _ (by assumption) (newO_t) (by omega) (by omega) (by omega)) (by decide) (by simp [rv_cat, int_cat]) (by first | decide | exact Nat.zero_le _ | omega) (by first | decide | exact Nat.zero_le _ | omega) (fun w_32 hp_32 => ?_) (fun E w_ hx_ => hx_.elim)
    subst w_32
    refine X_kVv (t := 8) 38 hO hD lX1_56 rfl (by decide) [_] rfl dX1_putIn_35 rfl (by first | assumption | omega | (simp (disch := first | decide | assumption | omega) only [up_k, up_s, up_a, up_i, flA_k, flA_a, flA_n, cpA_k, cpA_a, newO_o, newA_o, newO_t, newA_t, newA_n, k_step_k, t_ptj_k, t_ptj_1, t_toj_k, t_toj_1, d_pj_k, d_pj_s, d_pj_e] <;> first | assumption | omega)) (kap _ _ _ _ _ _ _ _ hQx (by assumption) (by assumption)) (by decide) (by simp [rv_cat, int_cat]) (by first | decide | exact Nat.zero_le _ | omega) (by first | decide | exact Nat.zero_le _ | omega) (fun w_35 hp_35 => ?_) (fun E w_ hx_ => hx_.elim)
    subst w_35
    refine X_aload_n 39 hO dX1_putIn_38 rfl rfl ?_
    refine X_aload_n 40 hO dX1_putIn_39 rfl rfl ?_
    refine gX1_48 43 hO dX1_putIn_40 rfl (by first | assumption | omega | (simp (disch := first | decide | assumption | omega) only [up_k, up_s, up_a, up_i, flA_k, flA_a, flA_n, cpA_k, cpA_a, newO_o, newA_o, newO_t, newA_t, newA_n, k_step_k, t_ptj_k, t_ptj_1, t_toj_k, t_toj_1, d_pj_k, d_pj_s, d_pj_e] <;> first | assumption | omega)) (fun hi_40 => ?_)
    try simp (disch := first | decide | assumption | omega) only [up_k, up_s, up_a, up_i, flA_k, flA_a, flA_n, cpA_k, cpA_a, newO_o, newA_o, newO_t, newA_t, newA_n, k_step_k, t_ptj_k, t_ptj_1, t_toj_k, t_toj_1, d_pj_k, d_pj_s, d_pj_e] at hi_40 ⊢
    refine X_iconst 44 hO dX1_putIn_43 rfl ?_
    refine X_iload_n 45 hO dX1_putIn_44 rfl rfl ?_
    refine X_iload_n 46 hO dX1_putIn_45 rfl rfl ?_
    refine X_kSi 49 hO hD lX1_69 [_, _, _, _] rfl dX1_putIn_46 rfl (kX5_placeAfterInsertion _ _ _ _ _ _ (by omega) (by omega) (by omega) (by omega)) (by decide) (by simp [rv_cat, int_cat]) (by first | decide | exact Nat.zero_le _ | omega) (by first | decide | exact Nat.zero_le _ | omega) (fun r_46 w_46 hr_46 hp_46 => ?_) (fun E w_ hx_ => hx_.elim)
    obtain ⟨e1_46, e2_46⟩ := hp_46
    subst r_46
    subst w_46
    refine pX1_48 52 hO dX1_putIn_49 rfl (by first | assumption | omega | (simp (disch := first | decide | assumption | omega) only [up_k, up_s, up_a, up_i, flA_k, flA_a, flA_n, cpA_k, cpA_a, newO_o, newA_o, newO_t, newA_t, newA_n, k_step_k, t_ptj_k, t_ptj_1, t_toj_k, t_toj_1, d_pj_k, d_pj_s, d_pj_e] <;> first | assumption | omega)) (by unfold mvF; split <;> omega) ?_
    refine X_iconst 53 hO dX1_putIn_52 rfl ?_
    refine X_istore 55 hO dX1_putIn_53 rfl rfl ?_
    have LP55 : ∀ (nn : Nat) (j : Int), (w 60 d 0 - j).toNat < nn → (0 ≤ j ∧ j ≤ w 60 d 0) → X κ 0 0 (d_pj d p (w 10 c 0) q_24 w j) 55 [some (rv d), some (.int (I p)), some (rv c), some (.int (I (w 2 (w 10 c 0) 0))), some (.int (I j))] [] := by
      intro nn
      induction nn with
      | zero => intro j hm; exact absurd hm (Nat.not_lt_zero _)
      | succ nn ih =>
        intro j hm hj
        refine X_iload 57 hO dX1_putIn_55 rfl rfl ?_
        refine X_aload_n 58 hO dX1_putIn_57 rfl rfl ?_
        refine gX1_34 61 hO dX1_putIn_58 rfl (by first | assumption | omega | (simp (disch := first | decide | assumption | omega) only [up_k, up_s, up_a, up_i, flA_k, flA_a, flA_n, cpA_k, cpA_a, newO_o, newA_o, newO_t, newA_t, newA_n, k_step_k, t_ptj_k, t_ptj_1, t_toj_k, t_toj_1, d_pj_k, d_pj_s, d_pj_e] <;> first | assumption | omega)) (fun hi_58 => ?_)
        try simp (disch := first | decide | assumption | omega) only [up_k, up_s, up_a, up_i, flA_k, flA_a, flA_n, cpA_k, cpA_a, newO_o, newA_o, newO_t, newA_t, newA_n, k_step_k, t_ptj_k, t_ptj_1, t_toj_k, t_toj_1, d_pj_k, d_pj_s, d_pj_e] at hi_58 ⊢
        refine X_icmp_ge 64 110 hO dX1_putIn_61 rfl rfl (by omega) (by omega) (fun hc_61 => ?_) (fun hc_61 => ?_)
        ·
          refine X_iconst 111 hO dX1_putIn_110 rfl ?_
          exact X_iret hO hF rfl (by first | exact Or.inl rfl | exact Or.inr ⟨rfl, bi_01 _⟩ | exact Or.inr ⟨rfl, by omega⟩) dX1_putIn_111 ⟨_, rfl, (by omega), Or.inr ⟨hY, rfl, q_24, hq_24, hf2, (by have ej : j = w 60 d 0 := (by omega); subst ej; rfl)⟩⟩
        ·
          refine X_aload_n 65 hO dX1_putIn_64 rfl rfl ?_
          refine gX1_27 68 hO dX1_putIn_65 rfl (by first | assumption | omega | (simp (disch := first | decide | assumption | omega) only [up_k, up_s, up_a, up_i, flA_k, flA_a, flA_n, cpA_k, cpA_a, newO_o, newA_o, newO_t, newA_t, newA_n, k_step_k, t_ptj_k, t_ptj_1, t_toj_k, t_toj_1, d_pj_k, d_pj_s, d_pj_e] <;> first | assumption | omega)) ?_
          try simp (disch := first | decide | assumption | omega) only [up_k, up_s, up_a, up_i, flA_k, flA_a, flA_n, cpA_k, cpA_a, newO_o, newA_o, newO_t, newA_t, newA_n, k_step_k, t_ptj_k, t_ptj_1, t_toj_k, t_toj_1, d_pj_k, d_pj_s, d_pj_e]
          refine X_iload 70 hO dX1_putIn_68 rfl rfl ?_
          refine X_aload_n 71 hO dX1_putIn_70 rfl rfl ?_
          refine gX1_27 74 hO dX1_putIn_71 rfl (by first | assumption | omega | (simp (disch := first | decide | assumption | omega) only [up_k, up_s, up_a, up_i, flA_k, flA_a, flA_n, cpA_k, cpA_a, newO_o, newA_o, newO_t, newA_t, newA_n, k_step_k, t_ptj_k, t_ptj_1, t_toj_k, t_toj_1, d_pj_k, d_pj_s, d_pj_e] <;> first | assumption | omega)) ?_
          try simp (disch := first | decide | assumption | omega) only [up_k, up_s, up_a, up_i, flA_k, flA_a, flA_n, cpA_k, cpA_a, newO_o, newA_o, newO_t, newA_t, newA_n, k_step_k, t_ptj_k, t_ptj_1, t_toj_k, t_toj_1, d_pj_k, d_pj_s, d_pj_e]
          refine X_iload 76 hO dX1_putIn_74 rfl rfl ?_
          refine X_iald 77 hO dX1_putIn_76 rfl (by first | assumption | omega | (simp (disch := first | decide | assumption | omega) only [up_k, up_s, up_a, up_i, flA_k, flA_a, flA_n, cpA_k, cpA_a, newO_o, newA_o, newO_t, newA_t, newA_n, k_step_k, t_ptj_k, t_ptj_1, t_toj_k, t_toj_1, d_pj_k, d_pj_s, d_pj_e] <;> first | assumption | omega)) (by first | assumption | omega | (simp (disch := first | decide | assumption | omega) only [up_k, up_s, up_a, up_i, flA_k, flA_a, flA_n, cpA_k, cpA_a, newO_o, newA_o, newO_t, newA_t, newA_n, k_step_k, t_ptj_k, t_ptj_1, t_toj_k, t_toj_1, d_pj_k, d_pj_s, d_pj_e] <;> first | assumption | omega)) (fun hi_76 => ?_)
          try simp (disch := first | decide | assumption | omega) only [up_k, up_s, up_a, up_i, flA_k, flA_a, flA_n, cpA_k, cpA_a, newO_o, newA_o, newO_t, newA_t, newA_n, k_step_k, t_ptj_k, t_ptj_1, t_toj_k, t_toj_1, d_pj_k, d_pj_s, d_pj_e] at hi_76 ⊢
          have hvj := hv j (by omega) (by omega)
          refine X_iconst 78 hO dX1_putIn_77 rfl ?_
          refine X_iload_n 79 hO dX1_putIn_78 rfl rfl ?_
          refine X_iload_n 80 hO dX1_putIn_79 rfl rfl ?_
          refine X_kSi 83 hO hD lX1_69 [_, _, _, _] rfl dX1_putIn_80 rfl (kX5_placeAfterInsertion _ _ _ _ _ _ (by omega) (by omega) (by omega) (by omega)) (by decide) (by simp [rv_cat, int_cat]) (by first | decide | exact Nat.zero_le _ | omega) (by first | decide | exact Nat.zero_le _ | omega) (fun r_80 w_80 hr_80 hp_80 => ?_) (fun E w_ hx_ => hx_.elim)
          obtain ⟨e1_80, e2_80⟩ := hp_80
          subst r_80
          subst w_80
          refine X_iast 84 hO dX1_putIn_83 rfl (by first | assumption | omega | (simp (disch := first | decide | assumption | omega) only [up_k, up_s, up_a, up_i, flA_k, flA_a, flA_n, cpA_k, cpA_a, newO_o, newA_o, newO_t, newA_t, newA_n, k_step_k, t_ptj_k, t_ptj_1, t_toj_k, t_toj_1, d_pj_k, d_pj_s, d_pj_e] <;> first | assumption | omega)) (by first | assumption | omega | (simp (disch := first | decide | assumption | omega) only [up_k, up_s, up_a, up_i, flA_k, flA_a, flA_n, cpA_k, cpA_a, newO_o, newA_o, newO_t, newA_t, newA_n, k_step_k, t_ptj_k, t_ptj_1, t_toj_k, t_toj_1, d_pj_k, d_pj_s, d_pj_e] <;> first | assumption | omega)) (by unfold mvF; split <;> omega) ?_
          refine X_aload_n 85 hO dX1_putIn_84 rfl rfl ?_
          refine gX1_31 88 hO dX1_putIn_85 rfl (by first | assumption | omega | (simp (disch := first | decide | assumption | omega) only [up_k, up_s, up_a, up_i, flA_k, flA_a, flA_n, cpA_k, cpA_a, newO_o, newA_o, newO_t, newA_t, newA_n, k_step_k, t_ptj_k, t_ptj_1, t_toj_k, t_toj_1, d_pj_k, d_pj_s, d_pj_e] <;> first | assumption | omega)) ?_
          try simp (disch := first | decide | assumption | omega) only [up_k, up_s, up_a, up_i, flA_k, flA_a, flA_n, cpA_k, cpA_a, newO_o, newA_o, newO_t, newA_t, newA_n, k_step_k, t_ptj_k, t_ptj_1, t_toj_k, t_toj_1, d_pj_k, d_pj_s, d_pj_e]
          refine X_iload 90 hO dX1_putIn_88 rfl rfl ?_
          refine X_aload_n 91 hO dX1_putIn_90 rfl rfl ?_
          refine gX1_31 94 hO dX1_putIn_91 rfl (by first | assumption | omega | (simp (disch := first | decide | assumption | omega) only [up_k, up_s, up_a, up_i, flA_k, flA_a, flA_n, cpA_k, cpA_a, newO_o, newA_o, newO_t, newA_t, newA_n, k_step_k, t_ptj_k, t_ptj_1, t_toj_k, t_toj_1, d_pj_k, d_pj_s, d_pj_e] <;> first | assumption | omega)) ?_
          try simp (disch := first | decide | assumption | omega) only [up_k, up_s, up_a, up_i, flA_k, flA_a, flA_n, cpA_k, cpA_a, newO_o, newA_o, newO_t, newA_t, newA_n, k_step_k, t_ptj_k, t_ptj_1, t_toj_k, t_toj_1, d_pj_k, d_pj_s, d_pj_e]
          refine X_iload 96 hO dX1_putIn_94 rfl rfl ?_
          refine X_iald 97 hO dX1_putIn_96 rfl (by first | assumption | omega | (simp (disch := first | decide | assumption | omega) only [up_k, up_s, up_a, up_i, flA_k, flA_a, flA_n, cpA_k, cpA_a, newO_o, newA_o, newO_t, newA_t, newA_n, k_step_k, t_ptj_k, t_ptj_1, t_toj_k, t_toj_1, d_pj_k, d_pj_s, d_pj_e] <;> first | assumption | omega)) (by first | assumption | omega | (simp (disch := first | decide | assumption | omega) only [up_k, up_s, up_a, up_i, flA_k, flA_a, flA_n, cpA_k, cpA_a, newO_o, newA_o, newO_t, newA_t, newA_n, k_step_k, t_ptj_k, t_ptj_1, t_toj_k, t_toj_1, d_pj_k, d_pj_s, d_pj_e] <;> first | assumption | omega)) (fun hi_96 => ?_)
          try simp (disch := first | decide | assumption | omega) only [up_k, up_s, up_a, up_i, flA_k, flA_a, flA_n, cpA_k, cpA_a, newO_o, newA_o, newO_t, newA_t, newA_n, k_step_k, t_ptj_k, t_ptj_1, t_toj_k, t_toj_1, d_pj_k, d_pj_s, d_pj_e] at hi_96 ⊢
          refine X_iconst 98 hO dX1_putIn_97 rfl ?_
          refine X_iload_n 99 hO dX1_putIn_98 rfl rfl ?_
          refine X_iload_n 100 hO dX1_putIn_99 rfl rfl ?_
          refine X_kSi 103 hO hD lX1_69 [_, _, _, _] rfl dX1_putIn_100 rfl (kX5_placeAfterInsertion _ _ _ _ _ _ (by omega) (by omega) (by omega) (by omega)) (by decide) (by simp [rv_cat, int_cat]) (by first | decide | exact Nat.zero_le _ | omega) (by first | decide | exact Nat.zero_le _ | omega) (fun r_100 w_100 hr_100 hp_100 => ?_) (fun E w_ hx_ => hx_.elim)
          obtain ⟨e1_100, e2_100⟩ := hp_100
          subst r_100
          subst w_100
          refine X_iast 104 hO dX1_putIn_103 rfl (by first | assumption | omega | (simp (disch := first | decide | assumption | omega) only [up_k, up_s, up_a, up_i, flA_k, flA_a, flA_n, cpA_k, cpA_a, newO_o, newA_o, newO_t, newA_t, newA_n, k_step_k, t_ptj_k, t_ptj_1, t_toj_k, t_toj_1, d_pj_k, d_pj_s, d_pj_e] <;> first | assumption | omega)) (by first | assumption | omega | (simp (disch := first | decide | assumption | omega) only [up_k, up_s, up_a, up_i, flA_k, flA_a, flA_n, cpA_k, cpA_a, newO_o, newA_o, newO_t, newA_t, newA_n, k_step_k, t_ptj_k, t_ptj_1, t_toj_k, t_toj_1, d_pj_k, d_pj_s, d_pj_e] <;> first | assumption | omega)) (by unfold mvF; split <;> omega) ?_
          refine X_iinc 107 hO dX1_putIn_104 rfl rfl ?_
          refine X_goto hO dX1_putIn_107 (tgt := 55) rfl ?_
          exact X_eqW (flA2_e n1 (by omega) rfl rfl) (ih (j + 1) (by omega) (by omega))
    refine X_mono (Nat.zero_le _) (Nat.zero_le _) (X_eqW (w2 := d_pj d p (w 10 c 0) q_24 w 0) ?_ (LP55 _ 0 (Nat.lt_succ_self _) (by omega)))
    unfold d_pj; rw [flA_0, flA_0]
  ·
    try simp only [bi_0, bi_ne, ne_eq, Classical.not_not] at hc_9
    obtain ⟨hN, e1_6, e2_6⟩ := hp_6.resolve_right (fun h => by have := h.2.1; omega)
    subst w_6
    refine X_iconst 13 hO dX1_putIn_12 rfl ?_
    exact X_iret hO hF rfl (by first | exact Or.inl rfl | exact Or.inr ⟨rfl, bi_01 _⟩ | exact Or.inr ⟨rfl, by omega⟩) dX1_putIn_13 ⟨_, rfl, (by omega), Or.inl ⟨hN, rfl, rfl⟩⟩
