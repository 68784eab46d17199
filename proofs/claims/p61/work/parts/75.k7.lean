/-! a desk taken over from another -/
theorem flA_app {w : Mm} {c : Nat} {b j n : Int} {f : Int → Int} (hj : 0 ≤ j) (hn : 0 ≤ n) : flA (flA w c b 0 j f) c b j n f = flA w c b 0 (j + n) f := by
  funext k a i
  unfold flA
  by_cases h : k = c ∧ a = b ∧ j ≤ i ∧ i < j + n
  · rw [if_pos h, if_pos ⟨h.1, h.2.1, by omega, by omega⟩]
  · rw [if_neg h]
    by_cases h2 : k = c ∧ a = b ∧ 0 ≤ i ∧ i < 0 + j
    · rw [if_pos h2, if_pos ⟨h2.1, h2.2.1, by omega, by omega⟩]
    · rw [if_neg h2, if_neg (fun x => ?_)]
      by_cases h3 : i < j
      · exact h2 ⟨x.1, x.2.1, by omega, by omega⟩
      · exact h ⟨x.1, x.2.1, by omega, by omega⟩
def t_all (s o m : Int) (W : Mm) : Mm := flA W 3 (W 31 s 0) 0 m (fun i => W 3 (W 31 o 0) i)
theorem t_all_k {s o m : Int} {W : Mm} {k : Nat} {a i : Int} (h : k ≠ 3) : t_all s o m W k a i = W k a i := flA_k h
theorem t_all_a {s o m : Int} {W : Mm} {k : Nat} {a i : Int} (h : a ≠ W 31 s 0) : t_all s o m W k a i = W k a i := flA_a h
theorem t_all_s {s o j : Int} {W : Mm} (h : W 31 s 0 ≠ W 31 o 0) (hj : 0 ≤ j ∧ j ≤ 4) : t_str s o j (t_all s o j W) (m_slt j) = t_all s o (if j < 4 then j + 1 else 8) W := by
  have h1 : 0 ≤ m_slt j := by unfold m_slt; split <;> omega
  have e1 : t_all s o j W 31 s 0 = W 31 s 0 := t_all_k (by decide)
  have e2 : t_all s o j W 31 o 0 = W 31 o 0 := t_all_k (by decide)
  have e3 : (fun i => t_all s o j W 3 (W 31 o 0) i) = (fun i => W 3 (W 31 o 0) i) := by
    funext i; exact t_all_a (Ne.symm h)
  unfold t_str
  rw [e1, e2, e3]
  unfold t_all
  rw [flA_app hj.1 h1]
  have : j + m_slt j = if j < 4 then j + 1 else 8 := by
    unfold m_slt
    by_cases c : j = 4
    · rw [if_pos c, if_neg (by omega)]; omega
    · rw [if_neg c, if_pos (by omega)]
  rw [this]
theorem SE_all {s o m : Int} {W : Mm} (gd : W 31 s 0 ≠ W 31 o 0) (he : SE W o) : SE (t_all s o m W) o := by
  intro i h1 h2
  have e1 : t_all s o m W 31 o 0 = W 31 o 0 := t_all_k (by decide)
  rw [e1, t_all_a (Ne.symm gd), t_all_k (by decide)]
  exact he i h1 h2
theorem TM_67 {s o : Int} {w W : Mm} (h : TM s o w W) (hso : s ≠ o) (ho : w 0 o 0 ≠ 0) : W 67 s 0 = w 67 o 0 := by
  have e : ∀ V : Mm, t_tm s o V 67 s 0 = V 67 o 0 := fun V => by
    unfold t_tm t_tmj t_tm1; rw [flA_k (by decide), flA_k (by decide), up_s]
  rcases h with ⟨_, e1⟩ | ⟨_, q, hq, hf, e1⟩
  · rw [e1, e]
  · rw [e1, e, up_k _ (by decide), newA_o (fun c => ho (by rw [c]; exact hf))]
theorem TM_67o {s o : Int} {w W : Mm} (h : TM s o w W) {a i : Int} (hs : a ≠ s) (ho : w 0 a 0 ≠ 0) : W 67 a i = w 67 a i := by
  rcases h with ⟨_, e1⟩ | ⟨_, q, hq, hf, e1⟩
  · rw [e1]; unfold t_tm; rw [t_tmj_67 hs]
  · rw [e1]; unfold t_tm; rw [t_tmj_67 hs, up_k _ (by decide), newA_o (fun c => ho (by rw [c]; exact hf))]
theorem DTl_c {w w' : Mm} {d : Int} (h : ∀ (k : Nat) (a : Int), k = 0 ∨ k = 2 ∨ (11 ≤ k ∧ k ≤ 14) ∨ (60 ≤ k ∧ k ≤ 61) ∨ k = 67 → w' k a 0 = w k a 0) (hs : DTl w d) : DTl w' d := by
  unfold DTl
  rw [h 11 d (by omega), h 13 d (by omega), h 14 d (by omega), h 60 d (by omega), h 61 d (by omega), h 67 _ (by omega)]
  simp only [fun a => h 0 a (Or.inl rfl), fun a => h 2 a (Or.inr (Or.inl rfl))]
  exact hs
theorem DTl_TM {s o d : Int} {w W : Mm} (h : TM s o w W) (hd : DTl w d) (hb : 0 ≤ W 67 (w 11 d 0) 0 ∧ W 67 (w 11 d 0) 0 ≤ 200000) : DTl W d := by
  obtain ⟨t0, t1, ⟨t2, t3⟩, ⟨t4, t5⟩, t6, t7, t8⟩ := hd
  have f : w 0 d 0 ≠ 0 := by omega
  have g : ∀ (k : Nat) (a i : Int), k ≠ 1 → k ≠ 67 → k ≠ 28 → w 0 a 0 ≠ 0 → W k a i = w k a i := fun k a i h1 h2 h3 h4 => TM_k h h1 h2 (fun c => absurd c h3) h4
  unfold DTl
  rw [g 0 d 0 (by decide) (by decide) (by decide) f, g 11 d 0 (by decide) (by decide) (by decide) f, g 13 d 0 (by decide) (by decide) (by decide) f, g 14 d 0 (by decide) (by decide) (by decide) f, g 60 d 0 (by decide) (by decide) (by decide) f, g 61 d 0 (by decide) (by decide) (by decide) f, g 0 (w 11 d 0) 0 (by decide) (by decide) (by decide) (by omega), g 0 (w 13 d 0) 0 (by decide) (by decide) (by decide) (by omega), g 2 (w 13 d 0) 0 (by decide) (by decide) (by decide) (by omega), g 0 (w 14 d 0) 0 (by decide) (by decide) (by decide) (by omega), g 2 (w 14 d 0) 0 (by decide) (by decide) (by decide) (by omega)]
  exact ⟨t0, t1, ⟨t2, t3⟩, ⟨t4, t5⟩, t6, t7, hb⟩
theorem QT_TM {s o t : Int} {w W : Mm} (h : TM s o w W) (hs : QT w t) : QT W t := by
  obtain ⟨h1, h2, h3, h4⟩ := hs
  have f : w 0 t 0 ≠ 0 := by omega
  have g : ∀ (k : Nat) (a i : Int), k ≠ 1 → k ≠ 67 → k ≠ 28 → w 0 a 0 ≠ 0 → W k a i = w k a i := fun k a i h1 h2 h3 h4 => TM_k h h1 h2 (fun c => absurd c h3) h4
  unfold QT
  rw [g 0 t 0 (by decide) (by decide) (by decide) f, g 35 t 0 (by decide) (by decide) (by decide) f, g 71 t 0 (by decide) (by decide) (by decide) f, g 72 t 0 (by decide) (by decide) (by decide) f]
  refine ⟨h1, ?_, h3, h4⟩
  rcases h2 with c | c
  · exact Or.inl c
  · exact Or.inr (by rw [g 0 _ 0 (by decide) (by decide) (by decide) (by omega)]; exact c)
/-- two desks that share nothing -/
def D2 (w : Mm) (d o : Int) : Prop := d ≠ o ∧ SD w (w 11 d 0) (w 11 o 0) ∧ (w 13 d 0 ≠ w 14 d 0 ∧ w 13 d 0 ≠ w 13 o 0 ∧ w 13 d 0 ≠ w 14 o 0 ∧ w 14 d 0 ≠ w 13 o 0 ∧ w 14 d 0 ≠ w 14 o 0) ∧ w 12 d 0 ≠ w 12 o 0
/-- what the desk d must be, that takes over, and o, that it takes over -/
def DA (w : Mm) (d o : Int) : Prop := DTl w d ∧ DTl w o ∧ (ST w (w 11 d 0) ∧ ST w (w 11 o 0)) ∧ D2 w d o ∧ SZ w (w 11 o 0) ∧ (0 ≤ w 2 (w 28 (w 11 d 0) 0) 0 ∧ w 2 (w 28 (w 11 d 0) 0) 0 ≤ 100000) ∧ SBt w (w 11 o 0) ∧ SE w (w 11 o 0) ∧ w 0 (w 12 d 0) 0 = 8 ∧ QT w (w 12 o 0)
theorem DA_places {d o : Int} {w W V : Mm} (h : TM (w 11 d 0) (w 11 o 0) w W) (hA : DA w d o) (hV : ∀ (k : Nat) (a i : Int), k ≠ 3 → V k a i = W k a i) :
    DTl V d ∧ DTl V o ∧ (V 13 d 0 ≠ V 14 d 0 ∧ V 13 d 0 ≠ V 13 o 0 ∧ V 13 d 0 ≠ V 14 o 0 ∧ V 14 d 0 ≠ V 13 o 0 ∧ V 14 d 0 ≠ V 14 o 0) ∧ V 0 (V 12 d 0) 0 = 8 ∧ QT V (V 12 o 0) ∧ V 12 d 0 ≠ V 12 o 0 ∧ (V 12 d 0 = w 12 d 0 ∧ V 12 o 0 = w 12 o 0) ∧ (V 11 d 0 = w 11 d 0 ∧ V 11 o 0 = w 11 o 0) ∧ (W 11 d 0 = w 11 d 0 ∧ W 11 o 0 = w 11 o 0) := by
  obtain ⟨hd, ho, ⟨s1, s2⟩, ⟨d0, d1, d2, d3⟩, hz, h2, hb, hE, hq, hq2⟩ := hA
  have fd : w 0 d 0 ≠ 0 := by have := hd.1; omega
  have fo : w 0 o 0 ≠ 0 := by have := ho.1; omega
  have fs : w 0 (w 11 o 0) 0 ≠ 0 := by have := ho.2.1; omega
  have g : ∀ (k : Nat) (a i : Int), k ≠ 1 → k ≠ 67 → k ≠ 28 → w 0 a 0 ≠ 0 → W k a i = w k a i := fun k a i h1 h2 h3 h4 => TM_k h h1 h2 (fun c => absurd c h3) h4
  have gv : ∀ (k : Nat) (a i : Int), k ≠ 1 → k ≠ 67 → k ≠ 28 → k ≠ 3 → w 0 a 0 ≠ 0 → V k a i = w k a i := fun k a i h1 h2 h3 h3 h4 => (hV k a i h3).trans (g k a i h1 h2 (by assumption) h4)
  have b1 : W 67 (w 11 d 0) 0 = w 67 (w 11 o 0) 0 := TM_67 h d1.1 fs
  have b2 : W 67 (w 11 o 0) 0 = w 67 (w 11 o 0) 0 := TM_67o h (Ne.symm d1.1) fs
  have b3 := ho.2.2.2.2.2.2
  have x1 : DTl V d := DTl_c (fun k a hk => hV k a 0 (by omega)) (DTl_TM h hd (by rw [b1]; exact b3))
  have x2 : DTl V o := DTl_c (fun k a hk => hV k a 0 (by omega)) (DTl_TM h ho (by rw [b2]; exact b3))
  have p : ∀ k : Nat, (11 ≤ k ∧ k ≤ 14) → V k d 0 = w k d 0 ∧ V k o 0 = w k o 0 ∧ W k d 0 = w k d 0 ∧ W k o 0 = w k o 0 := fun k hk => ⟨gv k d 0 (by omega) (by omega) (by omega) (by omega) fd, gv k o 0 (by omega) (by omega) (by omega) (by omega) fo, g k d 0 (by omega) (by omega) (by omega) fd, g k o 0 (by omega) (by omega) (by omega) fo⟩
  have p11 := p 11 (by omega)
  have p12 := p 12 (by omega)
  have p13 := p 13 (by omega)
  have p14 := p 14 (by omega)
  refine ⟨x1, x2, ?_, ?_, ?_, ?_, ⟨p12.1, p12.2.1⟩, ⟨p11.1, p11.2.1⟩, p11.2.2⟩
  · rw [p13.1, p13.2.1, p14.1, p14.2.1]; exact d2
  · rw [p12.1, gv 0 _ 0 (by decide) (by decide) (by decide) (by decide) (by omega)]; exact hq
  · rw [p12.2.1]; exact QT_c (fun k a hk => hV k a 0 (by omega)) (QT_TM h hq2)
  · rw [p12.1, p12.2.1]; exact d3
theorem dX1_takeAll_0 : decode cX1_takeAll 0 = .ok (.aload_n 0, 1) := by decide +kernel
theorem dX1_takeAll_1 : decode cX1_takeAll 1 = .ok (.getfield 14, 3) := by decide +kernel
theorem dX1_takeAll_4 : decode cX1_takeAll 4 = .ok (.aload_n 1, 1) := by decide +kernel
theorem dX1_takeAll_5 : decode cX1_takeAll 5 = .ok (.getfield 14, 3) := by decide +kernel
theorem dX1_takeAll_8 : decode cX1_takeAll 8 = .ok (.invokevirtual 88, 3) := by decide +kernel
theorem dX1_takeAll_11 : decode cX1_takeAll 11 = .ok (.iconst 0, 1) := by decide +kernel
theorem dX1_takeAll_12 : decode cX1_takeAll 12 = .ok (.istore_n 2, 1) := by decide +kernel
theorem dX1_takeAll_13 : decode cX1_takeAll 13 = .ok (.iload_n 2, 1) := by decide +kernel
theorem dX1_takeAll_14 : decode cX1_takeAll 14 = .ok (.iconst 5, 1) := by decide +kernel
theorem dX1_takeAll_15 : decode cX1_takeAll 15 = .ok (.if_icmp .ge 21, 3) := by decide +kernel
theorem dX1_takeAll_18 : decode cX1_takeAll 18 = .ok (.aload_n 0, 1) := by decide +kernel
theorem dX1_takeAll_19 : decode cX1_takeAll 19 = .ok (.getfield 14, 3) := by decide +kernel
theorem dX1_takeAll_22 : decode cX1_takeAll 22 = .ok (.aload_n 1, 1) := by decide +kernel
theorem dX1_takeAll_23 : decode cX1_takeAll 23 = .ok (.getfield 14, 3) := by decide +kernel
theorem dX1_takeAll_26 : decode cX1_takeAll 26 = .ok (.iload_n 2, 1) := by decide +kernel
theorem dX1_takeAll_27 : decode cX1_takeAll 27 = .ok (.invokevirtual 92, 3) := by decide +kernel
theorem dX1_takeAll_30 : decode cX1_takeAll 30 = .ok (.iinc 2 1, 3) := by decide +kernel
theorem dX1_takeAll_33 : decode cX1_takeAll 33 = .ok (.goto (-20), 3) := by decide +kernel
theorem dX1_takeAll_36 : decode cX1_takeAll 36 = .ok (.aload_n 0, 1) := by decide +kernel
theorem dX1_takeAll_37 : decode cX1_takeAll 37 = .ok (.aload_n 1, 1) := by decide +kernel
theorem dX1_takeAll_38 : decode cX1_takeAll 38 = .ok (.invokevirtual 96, 3) := by decide +kernel
theorem dX1_takeAll_41 : decode cX1_takeAll 41 = .ok (.return_, 1) := by decide +kernel
set_option maxRecDepth 4000 in
theorem kX1_takeAll (γ : LC) (w : Mm) (d o : Int) (sS : Nat) (hA : DA w d o) (hS : w 67 (w 11 o 0) 0 ≤ sS) : KV γ 3 mX1_takeAll [rv d, rv o] w (1) (sS) (fun w' => ∃ W, TM (w 11 d 0) (w 11 o 0) w W ∧ w' = q_ext (w 12 d 0) (w 12 o 0) (d_copy d o (t_all (w 11 d 0) (w 11 o 0) 8 W) 4)) NX := by
  refine MX_of rfl rfl (by simp [rv_cat, int_cat]) rfl ?_
  rintro κ hO hF rfl
  have hD := hF.dp
  show X κ (1) (sS) w 0 [some (rv d), some (rv o), none] []
  obtain ⟨hd, ho, ⟨hs1, hs2⟩, ⟨d0, d1, d2, d3⟩, hz, h2, hb, hE, hq, hq2⟩ := id hA
  have t0 := hd.1
  have u0 := ho.1
  have t1 := hd.2.1
  have u1 := ho.2.1
  refine X_aload_n 1 hO dX1_takeAll_0 rfl rfl ?_
  refine gX1_14 4 hO dX1_takeAll_1 rfl (by first | assumption | omega | (simp (disch := first | decide | assumption | omega) only [up_k, up_s, up_a, up_i, flA_k, flA_a, flA_n, cpA_k, cpA_a, newO_o, newA_o, newO_t, newA_t, newA_n, t_all_k, t_tk_k, e1, e2] <;> first | assumption | omega)) ?_
  try simp (disch := first | decide | assumption | omega) only [up_k, up_s, up_a, up_i, flA_k, flA_a, flA_n, cpA_k, cpA_a, newO_o, newA_o, newO_t, newA_t, newA_n, t_all_k, e1, e2]
  refine X_aload_n 5 hO dX1_takeAll_4 rfl rfl ?_
  refine gX1_14 8 hO dX1_takeAll_5 rfl (by first | assumption | omega | (simp (disch := first | decide | assumption | omega) only [up_k, up_s, up_a, up_i, flA_k, flA_a, flA_n, cpA_k, cpA_a, newO_o, newA_o, newO_t, newA_t, newA_n, t_all_k, t_tk_k, e1, e2] <;> first | assumption | omega)) ?_
  try simp (disch := first | decide | assumption | omega) only [up_k, up_s, up_a, up_i, flA_k, flA_a, flA_n, cpA_k, cpA_a, newO_o, newA_o, newO_t, newA_t, newA_n, t_all_k, e1, e2]
  refine X_kVv (t := 6) 11 hO hD lX1_88 rfl (by decide) [_] rfl dX1_takeAll_8 rfl (by first | assumption | omega | (simp (disch := first | decide | assumption | omega) only [up_k, up_s, up_a, up_i, flA_k, flA_a, flA_n, cpA_k, cpA_a, newO_o, newA_o, newO_t, newA_t, newA_n, t_all_k, t_tk_k, e1, e2] <;> first | assumption | omega)) (kX5_takeTextAndMarks _ _ _ _ _ hs1 hs2 d1 hz h2 hb hS) (by decide) (by simp [rv_cat, int_cat]) (by first | decide | exact Nat.zero_le _ | omega) (by first | decide | exact Nat.zero_le _ | omega) (fun w_8 hp_8 => ?_) (fun E w_ hx_ => hx_.elim)
  have gs := ST_TM_s hp_8 hs1
  have go := ST_TM_o hp_8 (Ne.symm d1.1) hs2
  have ge := SE_TM hp_8 hs2 hE
  have gd : w_8 31 (w 11 d 0) 0 ≠ w_8 31 (w 11 o 0) 0 := by rw [TM_k hp_8 (by decide) (by decide) (fun c => absurd c (by decide)) (by omega), TM_k hp_8 (by decide) (by decide) (fun c => absurd c (by decide)) (by omega)]; exact d1.2.2.2.2.2.2
  obtain ⟨-, -, -, -, -, -, -, -, e1, e2⟩ := DA_places hp_8 hA (V := w_8) (fun _ _ _ _ => rfl)
  have v0 : w_8 0 d 0 = 2 := (TM_k hp_8 (by decide) (by decide) (fun c => absurd c (by decide)) (by omega)).trans t0
  have x0 : w_8 0 o 0 = 2 := (TM_k hp_8 (by decide) (by decide) (fun c => absurd c (by decide)) (by omega)).trans u0
  have v1 : w_8 0 (w 11 d 0) 0 = 6 := (TM_k hp_8 (by decide) (by decide) (fun c => absurd c (by decide)) (by omega)).trans t1
  refine X_iconst 12 hO dX1_takeAll_11 rfl ?_
  refine X_istore_n 13 hO dX1_takeAll_12 rfl rfl ?_
  have LP13 : ∀ (nn : Nat) (j : Int), (5 - j).toNat < nn → (0 ≤ j ∧ j ≤ 5) → X κ 0 0 (t_all (w 11 d 0) (w 11 o 0) (if j < 5 then j else 8) w_8) 13 [some (rv d), some (rv o), some (.int (I j))] [] := by
    intro nn
    induction nn with
    | zero => intro j hm; exact absurd hm (Nat.not_lt_zero _)
    | succ nn ih =>
      intro j hm hj
      refine X_iload_n 14 hO dX1_takeAll_13 rfl rfl ?_
      refine X_iconst 15 hO dX1_takeAll_14 rfl ?_
      refine X_icmp_ge 18 36 hO dX1_takeAll_15 rfl rfl (by omega) (by omega) (fun hc_15 => ?_) (fun hc_15 => ?_)
      ·
        rw [if_neg (show ¬ j < 5 by omega)]
        obtain ⟨b1, b2, b3, b4, b5, b6, b7, -, -⟩ := DA_places hp_8 hA (V := t_all (w 11 d 0) (w 11 o 0) 8 w_8) (fun k a i h => t_all_k h)
        refine X_aload_n 37 hO dX1_takeAll_36 rfl rfl ?_
        refine X_aload_n 38 hO dX1_takeAll_37 rfl rfl ?_
        refine X_kVv (t := 2) 41 hO hD lX1_96 rfl (by decide) [_] rfl dX1_takeAll_38 rfl (by first | assumption | omega | (simp (disch := first | decide | assumption | omega) only [up_k, up_s, up_a, up_i, flA_k, flA_a, flA_n, cpA_k, cpA_a, newO_o, newA_o, newO_t, newA_t, newA_n, t_all_k, t_tk_k, e1, e2] <;> first | assumption | omega)) (kX1_takePlacesAndSteps _ _ _ _ b1 b2 d0 b3 b4 b5 b6) (by decide) (by simp [rv_cat, int_cat]) (by first | decide | exact Nat.zero_le _ | omega) (by first | decide | exact Nat.zero_le _ | omega) (fun w_38 hp_38 => ?_) (fun E w_ hx_ => hx_.elim)
        rw [b7.1, b7.2] at hp_38
        exact X_vret hO hF rfl dX1_takeAll_41 ⟨rfl, ⟨_, hp_8, hp_38⟩⟩
      ·
        rw [if_pos (show j < 5 by omega)]
        refine X_aload_n 19 hO dX1_takeAll_18 rfl rfl ?_
        refine gX1_14 22 hO dX1_takeAll_19 rfl (by first | assumption | omega | (simp (disch := first | decide | assumption | omega) only [up_k, up_s, up_a, up_i, flA_k, flA_a, flA_n, cpA_k, cpA_a, newO_o, newA_o, newO_t, newA_t, newA_n, t_all_k, t_tk_k, e1, e2] <;> first | assumption | omega)) ?_
        try simp (disch := first | decide | assumption | omega) only [up_k, up_s, up_a, up_i, flA_k, flA_a, flA_n, cpA_k, cpA_a, newO_o, newA_o, newO_t, newA_t, newA_n, t_all_k, e1, e2]
        refine X_aload_n 23 hO dX1_takeAll_22 rfl rfl ?_
        refine gX1_14 26 hO dX1_takeAll_23 rfl (by first | assumption | omega | (simp (disch := first | decide | assumption | omega) only [up_k, up_s, up_a, up_i, flA_k, flA_a, flA_n, cpA_k, cpA_a, newO_o, newA_o, newO_t, newA_t, newA_n, t_all_k, t_tk_k, e1, e2] <;> first | assumption | omega)) ?_
        try simp (disch := first | decide | assumption | omega) only [up_k, up_s, up_a, up_i, flA_k, flA_a, flA_n, cpA_k, cpA_a, newO_o, newA_o, newO_t, newA_t, newA_n, t_all_k, e1, e2]
        refine X_iload_n 27 hO dX1_takeAll_26 rfl rfl ?_
        refine X_kVv (t := 6) 30 hO hD lX1_92 rfl (by decide) [_, _] rfl dX1_takeAll_27 rfl (by first | assumption | omega | (simp (disch := first | decide | assumption | omega) only [up_k, up_s, up_a, up_i, flA_k, flA_a, flA_n, cpA_k, cpA_a, newO_o, newA_o, newO_t, newA_t, newA_n, t_all_k, t_tk_k, e1, e2] <;> first | assumption | omega)) (kX5_takeStore _ _ _ _ _ (ST_c (fun k a h => t_all_k (by omega)) gs) (ST_c (fun k a h => t_all_k (by omega)) go) (by rw [t_all_k (by decide), t_all_k (by decide)]; exact gd) (SE_all gd ge) (by omega)) (by decide) (by simp [rv_cat, int_cat]) (by first | decide | exact Nat.zero_le _ | omega) (by first | decide | exact Nat.zero_le _ | omega) (fun w_27 hp_27 => ?_) (fun E w_ hx_ => hx_.elim)
        subst w_27
        refine X_iinc 33 hO dX1_takeAll_30 rfl rfl ?_
        refine X_goto hO dX1_takeAll_33 (tgt := 13) rfl ?_
        have e5 : (if j + 1 < 5 then j + 1 else 8) = (if j < 4 then j + 1 else 8) := by split <;> split <;> omega
        exact X_eqW ((t_all_s gd (by omega)).trans (by rw [e5])) (ih (j + 1) (by omega) (by omega))
  refine X_mono (Nat.zero_le _) (Nat.zero_le _) (X_eqW (w2 := t_all (w 11 d 0) (w 11 o 0) (if (0 : Int) < 5 then 0 else 8) w_8) ?_ (LP13 _ 0 (Nat.lt_succ_self _) (by omega)))
  rw [if_pos (by decide)]; unfold t_all; rw [flA_0]
theorem dX1_takeBack_0 : decode cX1_takeBack 0 = .ok (.aload_n 0, 1) := by decide +kernel
theorem dX1_takeBack_1 : decode cX1_takeBack 1 = .ok (.getfield 14, 3) := by decide +kernel
theorem dX1_takeBack_4 : decode cX1_takeBack 4 = .ok (.aload_n 1, 1) := by decide +kernel
theorem dX1_takeBack_5 : decode cX1_takeBack 5 = .ok (.getfield 14, 3) := by decide +kernel
theorem dX1_takeBack_8 : decode cX1_takeBack 8 = .ok (.aload_n 2, 1) := by decide +kernel
theorem dX1_takeBack_9 : decode cX1_takeBack 9 = .ok (.invokevirtual 100, 3) := by decide +kernel
theorem dX1_takeBack_12 : decode cX1_takeBack 12 = .ok (.aload_n 0, 1) := by decide +kernel
theorem dX1_takeBack_13 : decode cX1_takeBack 13 = .ok (.aload_n 1, 1) := by decide +kernel
theorem dX1_takeBack_14 : decode cX1_takeBack 14 = .ok (.invokevirtual 96, 3) := by decide +kernel
theorem dX1_takeBack_17 : decode cX1_takeBack 17 = .ok (.return_, 1) := by decide +kernel
set_option maxRecDepth 4000 in
theorem kX1_takeBack (γ : LC) (w : Mm) (d o tr : Int) (sS : Nat) (hA : DA w d o) (hS : w 67 (w 11 o 0) 0 ≤ sS) (ht : w 0 tr 0 = 21 ∧ w 2 tr 0 = 5) (hts : tr ≠ w 30 (w 11 d 0) 0) : KV γ 4 mX1_takeBack [rv d, rv o, rv tr] w (1) (sS) (fun w' => ∃ W, TM (w 11 d 0) (w 11 o 0) w W ∧ w' = q_ext (w 12 d 0) (w 12 o 0) (d_copy d o (t_tk (w 11 d 0) (w 11 o 0) tr 8 W) 4)) NX := by
  refine MX_of rfl rfl (by simp [rv_cat, int_cat]) rfl ?_
  rintro κ hO hF rfl
  have hD := hF.dp
  show X κ (1) (sS) w 0 [some (rv d), some (rv o), some (rv tr)] []
  obtain ⟨hd, ho, ⟨hs1, hs2⟩, ⟨d0, d1, d2, d3⟩, hz, h2, hb, hE, hq, hq2⟩ := id hA
  have t0 := hd.1
  have u0 := ho.1
  have t1 := hd.2.1
  have u1 := ho.2.1
  refine X_aload_n 1 hO dX1_takeBack_0 rfl rfl ?_
  refine gX1_14 4 hO dX1_takeBack_1 rfl (by first | assumption | omega | (simp (disch := first | decide | assumption | omega) only [up_k, up_s, up_a, up_i, flA_k, flA_a, flA_n, cpA_k, cpA_a, newO_o, newA_o, newO_t, newA_t, newA_n, t_all_k, t_tk_k, e1, e2] <;> first | assumption | omega)) ?_
  try simp (disch := first | decide | assumption | omega) only [up_k, up_s, up_a, up_i, flA_k, flA_a, flA_n, cpA_k, cpA_a, newO_o, newA_o, newO_t, newA_t, newA_n, t_tk_k, e1, e2]
  refine X_aload_n 5 hO dX1_takeBack_4 rfl rfl ?_
  refine gX1_14 8 hO dX1_takeBack_5 rfl (by first | assumption | omega | (simp (disch := first | decide | assumption | omega) only [up_k, up_s, up_a, up_i, flA_k, flA_a, flA_n, cpA_k, cpA_a, newO_o, newA_o, newO_t, newA_t, newA_n, t_all_k, t_tk_k, e1, e2] <;> first | assumption | omega)) ?_
  try simp (disch := first | decide | assumption | omega) only [up_k, up_s, up_a, up_i, flA_k, flA_a, flA_n, cpA_k, cpA_a, newO_o, newA_o, newO_t, newA_t, newA_n, t_tk_k, e1, e2]
  refine X_aload_n 9 hO dX1_takeBack_8 rfl rfl ?_
  refine X_kVv (t := 6) 12 hO hD lX1_100 rfl (by decide) [_, _] rfl dX1_takeBack_9 rfl (by first | assumption | omega | (simp (disch := first | decide | assumption | omega) only [up_k, up_s, up_a, up_i, flA_k, flA_a, flA_n, cpA_k, cpA_a, newO_o, newA_o, newO_t, newA_t, newA_n, t_all_k, t_tk_k, e1, e2] <;> first | assumption | omega)) (kX5_take _ _ _ _ _ sS hs1 hs2 d1 hz h2 hb hE hS ht hts) (by decide) (by simp [rv_cat, int_cat]) (by first | decide | exact Nat.zero_le _ | omega) (by first | decide | exact Nat.zero_le _ | omega) (fun w_9 hp_9 => ?_) (fun E w_ hx_ => hx_.elim)
  obtain ⟨W, hW, eW⟩ := hp_9
  subst eW
  obtain ⟨b1, b2, b3, b4, b5, b6, b7, -, e1, e2⟩ := DA_places hW hA (V := t_tk (w 11 d 0) (w 11 o 0) tr 8 W) (fun k a i h => t_tk_k h)
  have v0 : W 0 d 0 = 2 := (TM_k hW (by decide) (by decide) (fun c => absurd c (by decide)) (by omega)).trans t0
  refine X_aload_n 13 hO dX1_takeBack_12 rfl rfl ?_
  refine X_aload_n 14 hO dX1_takeBack_13 rfl rfl ?_
  refine X_kVv (t := 2) 17 hO hD lX1_96 rfl (by decide) [_] rfl dX1_takeBack_14 rfl (by first | assumption | omega | (simp (disch := first | decide | assumption | omega) only [up_k, up_s, up_a, up_i, flA_k, flA_a, flA_n, cpA_k, cpA_a, newO_o, newA_o, newO_t, newA_t, newA_n, t_all_k, t_tk_k, e1, e2] <;> first | assumption | omega)) (kX1_takePlacesAndSteps _ _ _ _ b1 b2 d0 b3 b4 b5 b6) (by decide) (by simp [rv_cat, int_cat]) (by first | decide | exact Nat.zero_le _ | omega) (by first | decide | exact Nat.zero_le _ | omega) (fun w_14 hp_14 => ?_) (fun E w_ hx_ => hx_.elim)
  rw [b7.1, b7.2] at hp_14
  exact X_vret hO hF rfl dX1_takeBack_17 ⟨rfl, ⟨_, hW, hp_14⟩⟩
