/-! the state made, taken over; the desk's looks -/
theorem t_tm_k {s o : Int} {W : Mm} {k : Nat} {a i : Int} (h : k ≠ 1) (h2 : k ≠ 67) : t_tm s o W k a i = W k a i := t_tmj_k h h2
theorem TM_k {s o : Int} {w W : Mm} (h : TM s o w W) {k : Nat} {a i : Int} (h1 : k ≠ 1) (h2 : k ≠ 67) (h3 : k = 28 → a ≠ s) (h0 : w 0 a 0 ≠ 0) : W k a i = w k a i := by
  rcases h with ⟨_, e⟩ | ⟨_, q, hq, hf, e⟩
  · rw [e, t_tm_k h1 h2]
  · have hne : a ≠ q := fun e => h0 (by rw [e]; exact hf)
    rw [e, t_tm_k h1 h2]
    by_cases c : k = 28
    · rw [up_a _ _ _ (h3 c), newA_o hne]
    · rw [up_k _ c, newA_o hne]
theorem TM_1 {s o : Int} {w W : Mm} (h : TM s o w W) (hs : ST w s) {a i : Int} (h0 : w 0 a 0 ≠ 0) (h1 : a ≠ w 28 s 0) (h2 : a ≠ w 29 s 0) (h3 : a ≠ w 30 s 0) : W 1 a i = w 1 a i := by
  obtain ⟨t0, ⟨t1, t2, t3, t4⟩, -, -⟩ := hs
  rcases h with ⟨_, e⟩ | ⟨_, q, hq, hf, e⟩
  · rw [e]; unfold t_tm; rw [t_tmj_1 h1 h2 h3]
  · have hne : a ≠ q := fun e => h0 (by rw [e]; exact hf)
    have hsq : s ≠ q := fun e => by rw [e] at t0; omega
    rw [e]; unfold t_tm
    rw [t_tmj_1 (by rw [up_s]; exact hne) (by rw [up_k _ (by decide), newA_o hsq]; exact h2) (by rw [up_k _ (by decide), newA_o hsq]; exact h3), up_k _ (by decide), newA_o hne]
theorem ST_TM_o {s o : Int} {w W : Mm} (h : TM s o w W) {x : Int} (hx : x ≠ s) (hs : ST w x) : ST W x := by
  have f0 : w 0 x 0 ≠ 0 := by have := hs.1; omega
  obtain ⟨t0, ⟨t1, t2, t3, t4⟩, ⟨t5, t6, t7⟩, t8⟩ := hs
  have e : ∀ k : Nat, k ≠ 1 → k ≠ 67 → W k x 0 = w k x 0 := fun k h1 h2 => TM_k h h1 h2 (fun _ => hx) f0
  unfold ST
  rw [e 0 (by decide) (by decide), e 28 (by decide) (by decide), e 29 (by decide) (by decide), e 30 (by decide) (by decide), e 31 (by decide) (by decide)]
  have g : ∀ (k : Nat) (a : Int), k = 0 ∨ k = 2 → w 0 a 0 ≠ 0 → W k a 0 = w k a 0 := fun k a h1 h2 => TM_k h (by omega) (by omega) (by omega) h2
  rw [g 0 _ (by decide) (by omega), g 0 _ (by decide) (by omega), g 0 _ (by decide) (by omega), g 0 _ (by decide) (by omega), g 2 _ (by decide) (by omega), g 2 _ (by decide) (by omega), g 2 _ (by decide) (by omega)]
  exact ⟨t0, ⟨t1, t2, t3, t4⟩, ⟨t5, t6, t7⟩, t8⟩
theorem ST_TM_s {s o : Int} {w W : Mm} (h : TM s o w W) (hs : ST w s) : ST W s := by
  have f0 : w 0 s 0 ≠ 0 := by have := hs.1; omega
  obtain ⟨t0, ⟨t1, t2, t3, t4⟩, ⟨t5, t6, t7⟩, t8⟩ := id hs
  have e : ∀ k : Nat, k ≠ 1 → k ≠ 67 → k ≠ 28 → W k s 0 = w k s 0 := fun k h1 h2 h3 => TM_k h h1 h2 (fun c => absurd c h3) f0
  have g : ∀ (k : Nat) (a : Int), k = 0 ∨ k = 2 → w 0 a 0 ≠ 0 → W k a 0 = w k a 0 := fun k a h1 h2 => TM_k h (by omega) (by omega) (by omega) h2
  have e28 : W 0 (W 28 s 0) 0 = 20 ∧ W 28 s 0 ≠ w 29 s 0 := by
    rcases h with ⟨_, e⟩ | ⟨_, q, hq, hf, e⟩
    · rw [e, t_tm_k (by decide) (by decide), t_tm_k (by decide) (by decide)]; exact ⟨t1, t8⟩
    · rw [e, t_tm_k (by decide) (by decide), t_tm_k (by decide) (by decide), up_s, up_k _ (by decide), newA_t]
      exact ⟨rfl, fun c => by rw [← c] at t2; omega⟩
  unfold ST
  rw [e 0 (by decide) (by decide) (by decide), e 29 (by decide) (by decide) (by decide), e 30 (by decide) (by decide) (by decide), e 31 (by decide) (by decide) (by decide)]
  rw [g 0 (w 29 s 0) (by decide) (by omega), g 0 (w 30 s 0) (by decide) (by omega), g 0 (w 31 s 0) (by decide) (by omega), g 2 (w 29 s 0) (by decide) (by omega), g 2 (w 30 s 0) (by decide) (by omega), g 2 (w 31 s 0) (by decide) (by omega)]
  exact ⟨t0, ⟨e28.1, t2, t3, t4⟩, ⟨t5, t6, t7⟩, e28.2⟩
theorem SE_TM {s o : Int} {w W : Mm} (h : TM s o w W) {x : Int} (hs : ST w x) (he : SE w x) : SE W x := by
  intro i h1 h2
  have f0 : w 0 x 0 ≠ 0 := by have := hs.1; omega
  have f1 : w 0 (w 31 x 0) 0 ≠ 0 := by have := hs.2.1.2.2.2; omega
  rw [TM_k h (by decide) (by decide) (fun c => absurd c (by decide)) f0, TM_k h (by decide) (by decide) (fun c => absurd c (by decide)) f1]
  rcases he i h1 h2 with e | e
  · exact Or.inl e
  · refine Or.inr ?_
    rw [TM_k h (by decide) (by decide) (fun c => absurd c (by decide)) (by omega)]; exact e
theorem SE_tk {s o tr m : Int} {W : Mm} (gd : W 31 s 0 ≠ W 31 o 0) (he : SE W o) : SE (t_tk s o tr m W) o := by
  intro i h1 h2
  have e1 : t_tk s o tr m W 31 o 0 = W 31 o 0 := t_tk_k (by decide)
  rw [e1, t_tk_a (Ne.symm gd), t_tk_k (by decide)]
  exact he i h1 h2
theorem dX5_take_0 : decode cX5_take 0 = .ok (.aload_n 0, 1) := by decide +kernel
theorem dX5_take_1 : decode cX5_take 1 = .ok (.aload_n 1, 1) := by decide +kernel
theorem dX5_take_2 : decode cX5_take 2 = .ok (.invokevirtual 68, 3) := by decide +kernel
theorem dX5_take_5 : decode cX5_take 5 = .ok (.iconst 0, 1) := by decide +kernel
theorem dX5_take_6 : decode cX5_take 6 = .ok (.istore_n 3, 1) := by decide +kernel
theorem dX5_take_7 : decode cX5_take 7 = .ok (.iload_n 3, 1) := by decide +kernel
theorem dX5_take_8 : decode cX5_take 8 = .ok (.aload_n 2, 1) := by decide +kernel
theorem dX5_take_9 : decode cX5_take 9 = .ok (.arraylength, 1) := by decide +kernel
theorem dX5_take_10 : decode cX5_take 10 = .ok (.if_icmp .ge 21, 3) := by decide +kernel
theorem dX5_take_13 : decode cX5_take 13 = .ok (.aload_n 2, 1) := by decide +kernel
theorem dX5_take_14 : decode cX5_take 14 = .ok (.iload_n 3, 1) := by decide +kernel
theorem dX5_take_15 : decode cX5_take 15 = .ok (.baload, 1) := by decide +kernel
theorem dX5_take_16 : decode cX5_take 16 = .ok (.ifCond .eq 9, 3) := by decide +kernel
theorem dX5_take_19 : decode cX5_take 19 = .ok (.aload_n 0, 1) := by decide +kernel
theorem dX5_take_20 : decode cX5_take 20 = .ok (.aload_n 1, 1) := by decide +kernel
theorem dX5_take_21 : decode cX5_take 21 = .ok (.iload_n 3, 1) := by decide +kernel
theorem dX5_take_22 : decode cX5_take 22 = .ok (.invokevirtual 72, 3) := by decide +kernel
theorem dX5_take_25 : decode cX5_take 25 = .ok (.iinc 3 1, 3) := by decide +kernel
theorem dX5_take_28 : decode cX5_take 28 = .ok (.goto (-21), 3) := by decide +kernel
theorem dX5_take_31 : decode cX5_take 31 = .ok (.return_, 1) := by decide +kernel
set_option maxRecDepth 4000 in
theorem kX5_take (γ : LC) (w : Mm) (s o tr : Int) (sS : Nat) (hs : ST w s) (ho : ST w o) (hd : SD w s o) (hz : SZ w o) (h2 : 0 ≤ w 2 (w 28 s 0) 0 ∧ w 2 (w 28 s 0) 0 ≤ 100000) (hb : SBt w o) (hE : SE w o) (hS : w 67 o 0 ≤ sS) (ht : w 0 tr 0 = 21 ∧ w 2 tr 0 = 5) (hts : tr ≠ w 30 s 0) : KV γ 3 mX5_take [rv s, rv o, rv tr] w (1) (sS) (fun w' => ∃ W, TM s o w W ∧ w' = t_tk s o tr 8 W) NX := by
  refine MX_of rfl rfl (by simp [rv_cat, int_cat]) rfl ?_
  rintro κ hO hF rfl
  have hD := hF.dp
  show X κ (1) (sS) w 0 [some (rv s), some (rv o), some (rv tr), none] []
  have t0 := hs.1
  refine X_aload_n 1 hO dX5_take_0 rfl rfl ?_
  refine X_aload_n 2 hO dX5_take_1 rfl rfl ?_
  refine X_kVv (t := 6) 5 hO hD lX5_68 rfl (by decide) [_] rfl dX5_take_2 rfl (by first | assumption | omega | (simp (disch := first | decide | assumption | omega) only [up_k, up_s, up_a, up_i, flA_k, flA_a, flA_n, cpA_k, cpA_a, newO_o, newA_o, newO_t, newA_t, newA_n] <;> first | assumption | omega)) (kX5_takeTextAndMarks _ _ _ _ _ hs ho hd hz h2 hb hS) (by decide) (by simp [rv_cat, int_cat]) (by first | decide | exact Nat.zero_le _ | omega) (by first | decide | exact Nat.zero_le _ | omega) (fun w_2 hp_2 => ?_) (fun E w_ hx_ => hx_.elim)
  have f0 : w 0 s 0 ≠ 0 := by have := hs.1; omega
  have f1 : w 0 o 0 ≠ 0 := by have := ho.1; omega
  have f2 : w 0 tr 0 ≠ 0 := by omega
  have gs := ST_TM_s hp_2 hs
  have go := ST_TM_o hp_2 (Ne.symm hd.1) ho
  have ge := SE_TM hp_2 ho hE
  have g1 : w_2 0 tr 0 = 21 := (TM_k hp_2 (by decide) (by decide) (fun c => absurd c (by decide)) f2).trans ht.1
  have g2 : w_2 2 tr 0 = 5 := (TM_k hp_2 (by decide) (by decide) (fun c => absurd c (by decide)) f2).trans ht.2
  have gd : w_2 31 s 0 ≠ w_2 31 o 0 := by rw [TM_k hp_2 (by decide) (by decide) (fun c => absurd c (by decide)) f0, TM_k hp_2 (by decide) (by decide) (fun c => absurd c (by decide)) f1]; exact hd.2.2.2.2.2.2
  clear hs ho hd hz h2 hb hE hS
  refine X_iconst 6 hO dX5_take_5 rfl ?_
  refine X_istore_n 7 hO dX5_take_6 rfl rfl ?_
  have LP7 : ∀ (nn : Nat) (j : Int), (5 - j).toNat < nn → (0 ≤ j ∧ j ≤ 5) → X κ 0 0 (t_tk s o tr (if j < 5 then j else 8) w_2) 7 [some (rv s), some (rv o), some (rv tr), some (.int (I j))] [] := by
    intro nn
    induction nn with
    | zero => intro j hm; exact absurd hm (Nat.not_lt_zero _)
    | succ nn ih =>
      intro j hm hj
      refine X_iload_n 8 hO dX5_take_7 rfl rfl ?_
      refine X_aload_n 9 hO dX5_take_8 rfl rfl ?_
      refine X_alen (t := 21) 10 hO (by rw [t_tk_k (by decide)]; exact g1) (by decide) dX5_take_9 rfl (by rw [t_tk_k (by decide), g2]; decide) (fun hi_9 => ?_)
      try simp (disch := first | decide | assumption | omega) only [up_k, up_s, up_a, up_i, flA_k, flA_a, flA_n, cpA_k, cpA_a, newO_o, newA_o, newO_t, newA_t, newA_n] at hi_9 ⊢
      refine X_icmp_ge 13 31 hO dX5_take_10 rfl rfl (by omega) (by omega) (fun hc_10 => ?_) (fun hc_10 => ?_)
      ·
        exact X_vret hO hF rfl dX5_take_31 ⟨rfl, ⟨_, hp_2, by rw [t_tk_k (by decide), g2] at hc_10; rw [if_neg (by omega)]⟩⟩
      ·
        rw [t_tk_k (by decide), g2] at hc_10
        rw [if_pos (show j < 5 by omega)]
        refine X_aload_n 14 hO dX5_take_13 rfl rfl ?_
        refine X_iload_n 15 hO dX5_take_14 rfl rfl ?_
        refine X_zald 16 hO dX5_take_15 rfl (by rw [t_tk_k (by decide)]; exact g1) (by rw [t_tk_k (by decide), g2]; omega) (fun hi_15 => ?_)
        try simp (disch := first | decide | assumption | omega) only [up_k, up_s, up_a, up_i, flA_k, flA_a, flA_n, cpA_k, cpA_a, newO_o, newA_o, newO_t, newA_t, newA_n] at hi_15 ⊢
        rw [t_tk_k (by decide)] at hi_15 ⊢
        refine X_if_eq 19 25 hO dX5_take_16 rfl rfl (by omega) (fun hc_16 => ?_) (fun hc_16 => ?_)
        ·
          refine X_iinc 28 hO dX5_take_25 rfl rfl ?_
          refine X_goto hO dX5_take_28 (tgt := 7) rfl ?_
          have e5 : (if j + 1 < 5 then j + 1 else 8) = (if j < 4 then j + 1 else 8) := by split <;> split <;> omega
          first
          | exact X_eqW ((t_tk_n ⟨by omega, by omega⟩ (by omega)).trans (by rw [e5])) (ih (j + 1) (by omega) (by omega))
          | exact X_eqW ((t_tk_s ⟨by omega, by omega⟩ gd (by omega)).trans (by rw [e5])) (ih (j + 1) (by omega) (by omega))
        ·
          refine X_aload_n 20 hO dX5_take_19 rfl rfl ?_
          refine X_aload_n 21 hO dX5_take_20 rfl rfl ?_
          refine X_iload_n 22 hO dX5_take_21 rfl rfl ?_
          refine X_kVv (t := 6) 25 hO hD lX5_72 rfl (by decide) [_, _] rfl dX5_take_22 rfl (by rw [t_tk_k (by decide)]; exact gs.1) (kX5_takeStore _ _ _ _ _ (ST_c (fun k a h => t_tk_k (by omega)) gs) (ST_c (fun k a h => t_tk_k (by omega)) go) (by rw [t_tk_k (by decide), t_tk_k (by decide)]; exact gd) (SE_tk gd ge) (by omega)) (by decide) (by simp [rv_cat, int_cat]) (by first | decide | exact Nat.zero_le _ | omega) (by first | decide | exact Nat.zero_le _ | omega) (fun w_22 hp_22 => ?_) (fun E w_ hx_ => hx_.elim)
          subst w_22
          refine X_iinc 28 hO dX5_take_25 rfl rfl ?_
          refine X_goto hO dX5_take_28 (tgt := 7) rfl ?_
          have e5 : (if j + 1 < 5 then j + 1 else 8) = (if j < 4 then j + 1 else 8) := by split <;> split <;> omega
          first
          | exact X_eqW ((t_tk_n ⟨by omega, by omega⟩ (by omega)).trans (by rw [e5])) (ih (j + 1) (by omega) (by omega))
          | exact X_eqW ((t_tk_s ⟨by omega, by omega⟩ gd (by omega)).trans (by rw [e5])) (ih (j + 1) (by omega) (by omega))
  refine X_mono (Nat.zero_le _) (Nat.zero_le _) (X_eqW (w2 := t_tk s o tr (if (0 : Int) < 5 then 0 else 8) w_2) ?_ (LP7 _ 0 (Nat.lt_succ_self _) (by omega)))
  rw [if_pos (by decide), t_tk_0]
theorem dX5_init_0 : decode cX5_init 0 = .ok (.aload_n 0, 1) := by decide +kernel
theorem dX5_init_1 : decode cX5_init 1 = .ok (.invokespecial 3, 3) := by decide +kernel
theorem dX5_init_4 : decode cX5_init 4 = .ok (.aload_n 0, 1) := by decide +kernel
theorem dX5_init_5 : decode cX5_init 5 = .ok (.bipush 6, 2) := by decide +kernel
theorem dX5_init_7 : decode cX5_init 7 = .ok (.newarray .int, 2) := by decide +kernel
theorem dX5_init_9 : decode cX5_init 9 = .ok (.putfield 9, 3) := by decide +kernel
theorem dX5_init_12 : decode cX5_init 12 = .ok (.aload_n 0, 1) := by decide +kernel
theorem dX5_init_13 : decode cX5_init 13 = .ok (.bipush 6, 2) := by decide +kernel
theorem dX5_init_15 : decode cX5_init 15 = .ok (.newarray .boolean, 2) := by decide +kernel
theorem dX5_init_17 : decode cX5_init 17 = .ok (.putfield 15, 3) := by decide +kernel
theorem dX5_init_20 : decode cX5_init 20 = .ok (.aload_n 0, 1) := by decide +kernel
theorem dX5_init_21 : decode cX5_init 21 = .ok (.bipush 8, 2) := by decide +kernel
theorem dX5_init_23 : decode cX5_init 23 = .ok (.anewarray 19, 3) := by decide +kernel
theorem dX5_init_26 : decode cX5_init 26 = .ok (.putfield 21, 3) := by decide +kernel
theorem dX5_init_29 : decode cX5_init 29 = .ok (.aload_n 0, 1) := by decide +kernel
theorem dX5_init_30 : decode cX5_init 30 = .ok (.iconst 0, 1) := by decide +kernel
theorem dX5_init_31 : decode cX5_init 31 = .ok (.iload_n 1, 1) := by decide +kernel
theorem dX5_init_32 : decode cX5_init 32 = .ok (.invokestatic 25, 3) := by decide +kernel
theorem dX5_init_35 : decode cX5_init 35 = .ok (.newarray .int, 2) := by decide +kernel
theorem dX5_init_37 : decode cX5_init 37 = .ok (.putfield 31, 3) := by decide +kernel
theorem dX5_init_40 : decode cX5_init 40 = .ok (.iconst 0, 1) := by decide +kernel
theorem dX5_init_41 : decode cX5_init 41 = .ok (.istore_n 2, 1) := by decide +kernel
theorem dX5_init_42 : decode cX5_init 42 = .ok (.iload_n 2, 1) := by decide +kernel
theorem dX5_init_43 : decode cX5_init 43 = .ok (.bipush 6, 2) := by decide +kernel
theorem dX5_init_45 : decode cX5_init 45 = .ok (.if_icmp .ge 16, 3) := by decide +kernel
theorem dX5_init_48 : decode cX5_init 48 = .ok (.aload_n 0, 1) := by decide +kernel
theorem dX5_init_49 : decode cX5_init 49 = .ok (.getfield 9, 3) := by decide +kernel
theorem dX5_init_52 : decode cX5_init 52 = .ok (.iload_n 2, 1) := by decide +kernel
theorem dX5_init_53 : decode cX5_init 53 = .ok (.iconst (-1), 1) := by decide +kernel
theorem dX5_init_54 : decode cX5_init 54 = .ok (.iastore, 1) := by decide +kernel
theorem dX5_init_55 : decode cX5_init 55 = .ok (.iinc 2 1, 3) := by decide +kernel
theorem dX5_init_58 : decode cX5_init 58 = .ok (.goto (-16), 3) := by decide +kernel
theorem dX5_init_61 : decode cX5_init 61 = .ok (.return_, 1) := by decide +kernel
set_option maxRecDepth 4000 in
theorem kX5_init (γ : LC) (w : Mm) (s n : Int) (sS : Nat) (hq : 0 < s) (ht : w 0 s 0 = 6) (hn : IR n) (hn2 : n ≤ 100000) (hS : n ≤ sS) : KV γ 2 mX5_init [rv s, .int (I n)] w (4) (sS + 20) (fun w' => ∃ q1 q2 q3 q4, (0 < q1 ∧ 0 < q2 ∧ 0 < q3 ∧ 0 < q4) ∧ (w 0 q1 0 = 0 ∧ w 0 q2 0 = 0 ∧ w 0 q3 0 = 0 ∧ w 0 q4 0 = 0) ∧ (q1 ≠ q2 ∧ q1 ≠ q3 ∧ q1 ≠ q4 ∧ q2 ≠ q3 ∧ q2 ≠ q4 ∧ q3 ≠ q4) ∧ w' = flA (t_new s q1 q2 q3 q4 (if 0 < n then n else 0) w) 1 q1 0 6 (fun _ => -1)) NX := by
  refine MX_of rfl rfl (by simp [rv_cat, int_cat]) rfl ?_
  rintro κ hO hF rfl
  have hD := hF.dp
  show X κ (4) (sS + 20) w 0 [some (rv s), some (.int (I n)), none] []
  have hmx : 0 ≤ (if 0 < n then n else 0) ∧ (if 0 < n then n else 0) ≤ 100000 ∧ (if 0 < n then n else 0) ≤ (sS : Int) := by split <;> omega
  obtain ⟨m, hm0⟩ : ∃ m, m = (if 0 < n then n else 0) := ⟨_, rfl⟩
  rw [← hm0] at hmx
  refine X_aload_n 1 hO dX5_init_0 rfl rfl ?_
  refine X_objInit 4 hO w_171 dX5_init_1 rfl hD (by decide) (by assumption) (by simp [rv_cat, int_cat]) ?_
  refine X_aload_n 5 hO dX5_init_4 rfl rfl ?_
  refine X_bipush 7 hO dX5_init_5 rfl (by decide) ?_
  refine X_newi 9 hO w_aci (by omega) (by omega) (by omega) dX5_init_7 rfl (fun q_7 hq_7 hf_7 => ?_)
  have s1 : s ≠ q_7 := fun h => by rw [h] at ht; omega
  refine pX5_9 12 hO hF.2.2.2.2 dX5_init_9 rfl (by first | assumption | omega | (simp (disch := first | decide | assumption | omega) only [up_k, up_s, up_a, up_i, flA_k, flA_a, flA_n, cpA_k, cpA_a, newO_o, newA_o, newO_t, newA_t, newA_n] <;> first | assumption | omega)) ?_
  have r1 : (up (newA w q_7 20 6) 29 s 0 q_7) 0 q_7 0 = 20 := by rw [up_k _ (by decide), newA_t]
  have r0 : (up (newA w q_7 20 6) 29 s 0 q_7) 0 s 0 = 6 := by rw [up_k _ (by decide), newA_o s1]; exact ht
  refine X_aload_n 13 hO dX5_init_12 rfl rfl ?_
  refine X_bipush 15 hO dX5_init_13 rfl (by decide) ?_
  refine X_newz 17 hO w_acz (by omega) (by omega) (by omega) dX5_init_15 rfl (fun q_15 hq_15 hf_15 => ?_)
  have a12 : q_7 ≠ q_15 := fun h => by rw [← h] at hf_15; omega
  have s2 : s ≠ q_15 := fun h => by rw [← h] at hf_15; omega
  rw [up_k _ (by decide), newA_o (Ne.symm a12)] at hf_15
  refine pX5_15 20 hO hF.2.2.2.2 dX5_init_17 rfl (by first | assumption | omega | (simp (disch := first | decide | assumption | omega) only [up_k, up_s, up_a, up_i, flA_k, flA_a, flA_n, cpA_k, cpA_a, newO_o, newA_o, newO_t, newA_t, newA_n] <;> first | assumption | omega)) ?_
  refine X_aload_n 21 hO dX5_init_20 rfl rfl ?_
  refine X_bipush 23 hO dX5_init_21 rfl (by decide) ?_
  refine X_newq (t := 23) 26 hO rfl (by decide) w_172 (by decide) (by omega) (by omega) (by omega) dX5_init_23 rfl (fun q_23 hq_23 hf_23 => ?_)
  have s3 : s ≠ q_23 := fun h => by rw [← h, up_k _ (by decide), newA_o s2] at hf_23; omega
  have a13 : q_7 ≠ q_23 := fun h => by rw [← h, up_k _ (by decide), newA_o a12] at hf_23; omega
  have a23 : q_15 ≠ q_23 := fun h => by rw [← h, up_k _ (by decide), newA_t] at hf_23; omega
  rw [up_k _ (by decide), newA_o (Ne.symm a23), up_k _ (by decide), newA_o (Ne.symm a13)] at hf_23
  clear r1 r0
  refine pX5_21 29 hO hF.2.2.2.2 dX5_init_26 rfl (by first | assumption | omega | (simp (disch := first | decide | assumption | omega) only [up_k, up_s, up_a, up_i, flA_k, flA_a, flA_n, cpA_k, cpA_a, newO_o, newA_o, newO_t, newA_t, newA_n] <;> first | assumption | omega)) ?_
  refine X_aload_n 30 hO dX5_init_29 rfl rfl ?_
  refine X_iconst 31 hO dX5_init_30 rfl ?_
  refine X_iload_n 32 hO dX5_init_31 rfl rfl ?_
  refine X_mmax 35 hO w_174 dX5_init_32 rfl (by omega) (by omega) hD (by decide) (by simp [rv_cat, int_cat]) ?_
  rw [← hm0]
  refine X_newi 37 hO w_aci (by omega) (by omega) (by omega) dX5_init_35 rfl (fun q_35 hq_35 hf_35 => ?_)
  have s4 : s ≠ q_35 := fun h => by rw [← h] at hf_35; simp (disch := first | decide | assumption | omega) only [up_k, newA_o] at hf_35; omega
  have a14 : q_7 ≠ q_35 := fun h => by rw [← h] at hf_35; simp (disch := first | decide | assumption | omega) only [up_k, newA_o, newA_t] at hf_35; omega
  have a24 : q_15 ≠ q_35 := fun h => by rw [← h] at hf_35; simp (disch := first | decide | assumption | omega) only [up_k, newA_o, newA_t] at hf_35; omega
  have a34 : q_23 ≠ q_35 := fun h => by rw [← h] at hf_35; simp (disch := first | decide | assumption | omega) only [up_k, newA_o, newA_t] at hf_35; omega
  simp (disch := first | decide | assumption | omega) only [up_k, newA_o] at hf_35
  refine pX5_31 40 hO dX5_init_37 rfl (by first | assumption | omega | (simp (disch := first | decide | assumption | omega) only [up_k, up_s, up_a, up_i, flA_k, flA_a, flA_n, cpA_k, cpA_a, newO_o, newA_o, newO_t, newA_t, newA_n] <;> first | assumption | omega)) ?_
  refine X_iconst 41 hO dX5_init_40 rfl ?_
  refine X_istore_n 42 hO dX5_init_41 rfl rfl ?_
  have LP42 : ∀ (nn : Nat) (j : Int), (6 - j).toNat < nn → (0 ≤ j ∧ j ≤ 6) → X κ 0 0 (flA (t_new s q_7 q_15 q_23 q_35 m w) 1 q_7 0 j (fun _ => -1)) 42 [some (rv s), some (.int (I n)), some (.int (I j))] [] := by
    intro nn
    induction nn with
    | zero => intro j hm; exact absurd hm (Nat.not_lt_zero _)
    | succ nn ih =>
      intro j hm hj
      refine X_iload_n 43 hO dX5_init_42 rfl rfl ?_
      refine X_bipush 45 hO dX5_init_43 rfl (by decide) ?_
      refine X_icmp_ge 48 61 hO dX5_init_45 rfl rfl (by omega) (by omega) (fun hc_45 => ?_) (fun hc_45 => ?_)
      ·
        exact X_vret hO hF rfl dX5_init_61 ⟨rfl, ⟨q_7, q_15, q_23, q_35, ⟨hq_7, hq_15, hq_23, hq_35⟩, ⟨hf_7, hf_15, hf_23, hf_35⟩, ⟨a12, a13, a14, a23, a24, a34⟩, by rw [← hm0]; have ej : j = 6 := (by omega); subst ej; rfl⟩⟩
      ·
        refine X_aload_n 49 hO dX5_init_48 rfl rfl ?_
        refine gX5_9 52 hO dX5_init_49 rfl (by (try unfold t_new); simp (disch := first | decide | assumption | omega) only [up_k, up_s, up_a, up_i, flA_k, flA_a, flA_n, cpA_k, cpA_a, newO_o, newA_o, newO_t, newA_t, newA_n] <;> first | assumption | omega) ?_
        try simp (disch := first | decide | assumption | omega) only [up_k, up_s, up_a, up_i, flA_k, flA_a, flA_n, cpA_k, cpA_a, newO_o, newA_o, newO_t, newA_t, newA_n, t_new]
        refine X_iload_n 53 hO dX5_init_52 rfl rfl ?_
        refine X_iconst 54 hO dX5_init_53 rfl ?_
        refine X_iast 55 hO dX5_init_54 rfl (by (try unfold t_new); simp (disch := first | decide | assumption | omega) only [up_k, up_s, up_a, up_i, flA_k, flA_a, flA_n, cpA_k, cpA_a, newO_o, newA_o, newO_t, newA_t, newA_n] <;> first | assumption | omega) (by (try unfold t_new); simp (disch := first | decide | assumption | omega) only [up_k, up_s, up_a, up_i, flA_k, flA_a, flA_n, cpA_k, cpA_a, newO_o, newA_o, newO_t, newA_t, newA_n] <;> omega) (by omega) ?_
        refine X_iinc 58 hO dX5_init_55 rfl rfl ?_
        refine X_goto hO dX5_init_58 (tgt := 42) rfl ?_
        exact X_eqW (flA_e (by omega) rfl) (ih (j + 1) (by omega) (by omega))
  exact X_mono (Nat.zero_le _) (Nat.zero_le _) (X_eqW (w2 := flA (t_new s q_7 q_15 q_23 q_35 m w) 1 q_7 0 0 (fun _ => -1)) flA_0.symm (LP42 _ 0 (Nat.lt_succ_self _) (by omega)))
/-- a desk's shape and its bounds -/
def DTl (w : Mm) (d : Int) : Prop := w 0 d 0 = 2 ∧ w 0 (w 11 d 0) 0 = 6 ∧ (w 0 (w 13 d 0) 0 = 20 ∧ w 2 (w 13 d 0) 0 = 4) ∧ (w 0 (w 14 d 0) 0 = 20 ∧ w 2 (w 14 d 0) 0 = 4) ∧ (0 ≤ w 60 d 0 ∧ w 60 d 0 ≤ 4) ∧ (0 ≤ w 61 d 0 ∧ w 61 d 0 ≤ 200000) ∧ (0 ≤ w 67 (w 11 d 0) 0 ∧ w 67 (w 11 d 0) 0 ≤ 200000)
def DVb (w : Mm) (d : Int) : Prop := ∀ i, 0 ≤ i → i < 4 → (0 ≤ w 1 (w 13 d 0) i ∧ w 1 (w 13 d 0) i ≤ 200000) ∧ (0 ≤ w 1 (w 14 d 0) i ∧ w 1 (w 14 d 0) i ≤ 200000)
def d_low (w : Mm) (d : Int) : Int := if w 60 d 0 = 0 then 0 else w 1 (w 13 d 0) (w 60 d 0 - 1)
def d_high (w : Mm) (d : Int) : Int := if w 60 d 0 = 0 then w 67 (w 11 d 0) 0 else w 1 (w 14 d 0) (w 60 d 0 - 1)
theorem d_low_b {w : Mm} {d : Int} (h : DTl w d) (hv : DVb w d) : 0 ≤ d_low w d ∧ d_low w d ≤ 200000 := by
  obtain ⟨_, _, _, _, h5, _, _⟩ := h
  unfold d_low; split
  · omega
  · exact (hv _ (by omega) (by omega)).1
theorem d_high_b {w : Mm} {d : Int} (h : DTl w d) (hv : DVb w d) : 0 ≤ d_high w d ∧ d_high w d ≤ 200000 := by
  obtain ⟨_, _, _, _, h5, _, h7⟩ := h
  unfold d_high; split
  · omega
  · exact (hv _ (by omega) (by omega)).2
theorem dX1_low_0 : decode cX1_low 0 = .ok (.aload_n 0, 1) := by decide +kernel
theorem dX1_low_1 : decode cX1_low 1 = .ok (.getfield 34, 3) := by decide +kernel
theorem dX1_low_4 : decode cX1_low 4 = .ok (.ifCond .ne 7, 3) := by decide +kernel
theorem dX1_low_7 : decode cX1_low 7 = .ok (.iconst 0, 1) := by decide +kernel
theorem dX1_low_8 : decode cX1_low 8 = .ok (.goto 14, 3) := by decide +kernel
theorem dX1_low_11 : decode cX1_low 11 = .ok (.aload_n 0, 1) := by decide +kernel
theorem dX1_low_12 : decode cX1_low 12 = .ok (.getfield 27, 3) := by decide +kernel
theorem dX1_low_15 : decode cX1_low 15 = .ok (.aload_n 0, 1) := by decide +kernel
theorem dX1_low_16 : decode cX1_low 16 = .ok (.getfield 34, 3) := by decide +kernel
theorem dX1_low_19 : decode cX1_low 19 = .ok (.iconst 1, 1) := by decide +kernel
theorem dX1_low_20 : decode cX1_low 20 = .ok (.isub, 1) := by decide +kernel
theorem dX1_low_21 : decode cX1_low 21 = .ok (.iaload, 1) := by decide +kernel
theorem dX1_low_22 : decode cX1_low 22 = .ok (.ireturn, 1) := by decide +kernel
set_option maxRecDepth 4000 in
theorem kX1_low (γ : LC) (w : Mm) (d : Int) (hd : DTl w d) (hv : DVb w d) : KI γ 1 mX1_low [rv d] w (0) (0) (fun r w' => r = d_low w d ∧ w' = w) NX := by
  refine MX_of rfl rfl (by simp [rv_cat, int_cat]) rfl ?_
  rintro κ hO hF rfl
  have hD := hF.dp
  show X κ (0) (0) w 0 [some (rv d)] []
  obtain ⟨t0, t1, ⟨t2, t3⟩, ⟨t4, t5⟩, t6, t7, t8⟩ := id hd
  have JP22 : ∀ (z : Int), (z = d_low w d) → (IR z) → X κ (0) (0) (w) 22 [some (rv d)] [.int (I z)] := by
    intro z hz hzi
    exact X_iret hO hF rfl (by first | exact Or.inl rfl | exact Or.inr ⟨rfl, bi_01 _⟩ | exact Or.inr ⟨rfl, by omega⟩) dX1_low_22 ⟨_, rfl, (by omega), ⟨hz, rfl⟩⟩
  refine X_aload_n 1 hO dX1_low_0 rfl rfl ?_
  refine gX1_34 4 hO dX1_low_1 rfl (by first | assumption | omega | (simp (disch := first | decide | assumption | omega) only [up_k, up_s, up_a, up_i, flA_k, flA_a, flA_n, cpA_k, cpA_a, newO_o, newA_o, newO_t, newA_t, newA_n] <;> first | assumption | omega)) (fun hi_1 => ?_)
  try simp (disch := first | decide | assumption | omega) only [up_k, up_s, up_a, up_i, flA_k, flA_a, flA_n, cpA_k, cpA_a, newO_o, newA_o, newO_t, newA_t, newA_n] at hi_1 ⊢
  refine X_if_ne 7 11 hO dX1_low_4 rfl rfl (by omega) (fun hc_4 => ?_) (fun hc_4 => ?_)
  ·
    refine X_aload_n 12 hO dX1_low_11 rfl rfl ?_
    refine gX1_27 15 hO dX1_low_12 rfl (by first | assumption | omega | (simp (disch := first | decide | assumption | omega) only [up_k, up_s, up_a, up_i, flA_k, flA_a, flA_n, cpA_k, cpA_a, newO_o, newA_o, newO_t, newA_t, newA_n] <;> first | assumption | omega)) ?_
    try simp (disch := first | decide | assumption | omega) only [up_k, up_s, up_a, up_i, flA_k, flA_a, flA_n, cpA_k, cpA_a, newO_o, newA_o, newO_t, newA_t, newA_n]
    refine X_aload_n 16 hO dX1_low_15 rfl rfl ?_
    refine gX1_34 19 hO dX1_low_16 rfl (by first | assumption | omega | (simp (disch := first | decide | assumption | omega) only [up_k, up_s, up_a, up_i, flA_k, flA_a, flA_n, cpA_k, cpA_a, newO_o, newA_o, newO_t, newA_t, newA_n] <;> first | assumption | omega)) (fun hi_16 => ?_)
    try simp (disch := first | decide | assumption | omega) only [up_k, up_s, up_a, up_i, flA_k, flA_a, flA_n, cpA_k, cpA_a, newO_o, newA_o, newO_t, newA_t, newA_n] at hi_16 ⊢
    refine X_iconst 20 hO dX1_low_19 rfl ?_
    refine X_isub 21 hO dX1_low_20 rfl ?_
    refine X_iald 22 hO dX1_low_21 rfl (by first | assumption | omega | (simp (disch := first | decide | assumption | omega) only [up_k, up_s, up_a, up_i, flA_k, flA_a, flA_n, cpA_k, cpA_a, newO_o, newA_o, newO_t, newA_t, newA_n] <;> first | assumption | omega)) (by first | assumption | omega | (simp (disch := first | decide | assumption | omega) only [up_k, up_s, up_a, up_i, flA_k, flA_a, flA_n, cpA_k, cpA_a, newO_o, newA_o, newO_t, newA_t, newA_n] <;> first | assumption | omega)) (fun hi_21 => ?_)
    try simp (disch := first | decide | assumption | omega) only [up_k, up_s, up_a, up_i, flA_k, flA_a, flA_n, cpA_k, cpA_a, newO_o, newA_o, newO_t, newA_t, newA_n] at hi_21 ⊢
    exact JP22 _ (by unfold d_low; first | rw [if_pos (by omega)] | rw [if_neg (by omega)]) (by omega)
  ·
    refine X_iconst 8 hO dX1_low_7 rfl ?_
    refine X_goto hO dX1_low_8 (tgt := 22) rfl ?_
    exact JP22 _ (by unfold d_low; first | rw [if_pos (by omega)] | rw [if_neg (by omega)]) (by omega)
theorem dX1_high_0 : decode cX1_high 0 = .ok (.aload_n 0, 1) := by decide +kernel
theorem dX1_high_1 : decode cX1_high 1 = .ok (.getfield 34, 3) := by decide +kernel
theorem dX1_high_4 : decode cX1_high 4 = .ok (.ifCond .ne 13, 3) := by decide +kernel
theorem dX1_high_7 : decode cX1_high 7 = .ok (.aload_n 0, 1) := by decide +kernel
theorem dX1_high_8 : decode cX1_high 8 = .ok (.getfield 14, 3) := by decide +kernel
theorem dX1_high_11 : decode cX1_high 11 = .ok (.getfield 38, 3) := by decide +kernel
theorem dX1_high_14 : decode cX1_high 14 = .ok (.goto 14, 3) := by decide +kernel
theorem dX1_high_17 : decode cX1_high 17 = .ok (.aload_n 0, 1) := by decide +kernel
theorem dX1_high_18 : decode cX1_high 18 = .ok (.getfield 31, 3) := by decide +kernel
theorem dX1_high_21 : decode cX1_high 21 = .ok (.aload_n 0, 1) := by decide +kernel
theorem dX1_high_22 : decode cX1_high 22 = .ok (.getfield 34, 3) := by decide +kernel
theorem dX1_high_25 : decode cX1_high 25 = .ok (.iconst 1, 1) := by decide +kernel
theorem dX1_high_26 : decode cX1_high 26 = .ok (.isub, 1) := by decide +kernel
theorem dX1_high_27 : decode cX1_high 27 = .ok (.iaload, 1) := by decide +kernel
theorem dX1_high_28 : decode cX1_high 28 = .ok (.ireturn, 1) := by decide +kernel
set_option maxRecDepth 4000 in
theorem kX1_high (γ : LC) (w : Mm) (d : Int) (hd : DTl w d) (hv : DVb w d) : KI γ 1 mX1_high [rv d] w (0) (0) (fun r w' => r = d_high w d ∧ w' = w) NX := by
  refine MX_of rfl rfl (by simp [rv_cat, int_cat]) rfl ?_
  rintro κ hO hF rfl
  have hD := hF.dp
  show X κ (0) (0) w 0 [some (rv d)] []
  obtain ⟨t0, t1, ⟨t2, t3⟩, ⟨t4, t5⟩, t6, t7, t8⟩ := id hd
  have JP28 : ∀ (z : Int), (z = d_high w d) → (IR z) → X κ (0) (0) (w) 28 [some (rv d)] [.int (I z)] := by
    intro z hz hzi
    exact X_iret hO hF rfl (by first | exact Or.inl rfl | exact Or.inr ⟨rfl, bi_01 _⟩ | exact Or.inr ⟨rfl, by omega⟩) dX1_high_28 ⟨_, rfl, (by omega), ⟨hz, rfl⟩⟩
  refine X_aload_n 1 hO dX1_high_0 rfl rfl ?_
  refine gX1_34 4 hO dX1_high_1 rfl (by first | assumption | omega | (simp (disch := first | decide | assumption | omega) only [up_k, up_s, up_a, up_i, flA_k, flA_a, flA_n, cpA_k, cpA_a, newO_o, newA_o, newO_t, newA_t, newA_n] <;> first | assumption | omega)) (fun hi_1 => ?_)
  try simp (disch := first | decide | assumption | omega) only [up_k, up_s, up_a, up_i, flA_k, flA_a, flA_n, cpA_k, cpA_a, newO_o, newA_o, newO_t, newA_t, newA_n] at hi_1 ⊢
  refine X_if_ne 7 17 hO dX1_high_4 rfl rfl (by omega) (fun hc_4 => ?_) (fun hc_4 => ?_)
  ·
    refine X_aload_n 18 hO dX1_high_17 rfl rfl ?_
    refine gX1_31 21 hO dX1_high_18 rfl (by first | assumption | omega | (simp (disch := first | decide | assumption | omega) only [up_k, up_s, up_a, up_i, flA_k, flA_a, flA_n, cpA_k, cpA_a, newO_o, newA_o, newO_t, newA_t, newA_n] <;> first | assumption | omega)) ?_
    try simp (disch := first | decide | assumption | omega) only [up_k, up_s, up_a, up_i, flA_k, flA_a, flA_n, cpA_k, cpA_a, newO_o, newA_o, newO_t, newA_t, newA_n]
    refine X_aload_n 22 hO dX1_high_21 rfl rfl ?_
    refine gX1_34 25 hO dX1_high_22 rfl (by first | assumption | omega | (simp (disch := first | decide | assumption | omega) only [up_k, up_s, up_a, up_i, flA_k, flA_a, flA_n, cpA_k, cpA_a, newO_o, newA_o, newO_t, newA_t, newA_n] <;> first | assumption | omega)) (fun hi_22 => ?_)
    try simp (disch := first | decide | assumption | omega) only [up_k, up_s, up_a, up_i, flA_k, flA_a, flA_n, cpA_k, cpA_a, newO_o, newA_o, newO_t, newA_t, newA_n] at hi_22 ⊢
    refine X_iconst 26 hO dX1_high_25 rfl ?_
    refine X_isub 27 hO dX1_high_26 rfl ?_
    refine X_iald 28 hO dX1_high_27 rfl (by first | assumption | omega | (simp (disch := first | decide | assumption | omega) only [up_k, up_s, up_a, up_i, flA_k, flA_a, flA_n, cpA_k, cpA_a, newO_o, newA_o, newO_t, newA_t, newA_n] <;> first | assumption | omega)) (by first | assumption | omega | (simp (disch := first | decide | assumption | omega) only [up_k, up_s, up_a, up_i, flA_k, flA_a, flA_n, cpA_k, cpA_a, newO_o, newA_o, newO_t, newA_t, newA_n] <;> first | assumption | omega)) (fun hi_27 => ?_)
    try simp (disch := first | decide | assumption | omega) only [up_k, up_s, up_a, up_i, flA_k, flA_a, flA_n, cpA_k, cpA_a, newO_o, newA_o, newO_t, newA_t, newA_n] at hi_27 ⊢
    exact JP28 _ (by unfold d_high; first | rw [if_pos (by omega)] | rw [if_neg (by omega)]) (by omega)
  ·
    refine X_aload_n 8 hO dX1_high_7 rfl rfl ?_
    refine gX1_14 11 hO dX1_high_8 rfl (by first | assumption | omega | (simp (disch := first | decide | assumption | omega) only [up_k, up_s, up_a, up_i, flA_k, flA_a, flA_n, cpA_k, cpA_a, newO_o, newA_o, newO_t, newA_t, newA_n] <;> first | assumption | omega)) ?_
    try simp (disch := first | decide | assumption | omega) only [up_k, up_s, up_a, up_i, flA_k, flA_a, flA_n, cpA_k, cpA_a, newO_o, newA_o, newO_t, newA_t, newA_n]
    refine gX1_38 14 hO dX1_high_11 rfl (by first | assumption | omega | (simp (disch := first | decide | assumption | omega) only [up_k, up_s, up_a, up_i, flA_k, flA_a, flA_n, cpA_k, cpA_a, newO_o, newA_o, newO_t, newA_t, newA_n] <;> first | assumption | omega)) (fun hi_11 => ?_)
    try simp (disch := first | decide | assumption | omega) only [up_k, up_s, up_a, up_i, flA_k, flA_a, flA_n, cpA_k, cpA_a, newO_o, newA_o, newO_t, newA_t, newA_n] at hi_11 ⊢
    refine X_goto hO dX1_high_14 (tgt := 28) rfl ?_
    exact JP28 _ (by unfold d_high; first | rw [if_pos (by omega)] | rw [if_neg (by omega)]) (by omega)
theorem dX1_isInView_0 : decode cX1_isInView 0 = .ok (.iload_n 1, 1) := by decide +kernel
theorem dX1_isInView_1 : decode cX1_isInView 1 = .ok (.aload_n 0, 1) := by decide +kernel
theorem dX1_isInView_2 : decode cX1_isInView 2 = .ok (.invokevirtual 41, 3) := by decide +kernel
theorem dX1_isInView_5 : decode cX1_isInView 5 = .ok (.if_icmp .lt 15, 3) := by decide +kernel
theorem dX1_isInView_8 : decode cX1_isInView 8 = .ok (.iload_n 1, 1) := by decide +kernel
theorem dX1_isInView_9 : decode cX1_isInView 9 = .ok (.aload_n 0, 1) := by decide +kernel
theorem dX1_isInView_10 : decode cX1_isInView 10 = .ok (.invokevirtual 45, 3) := by decide +kernel
theorem dX1_isInView_13 : decode cX1_isInView 13 = .ok (.if_icmp .gt 7, 3) := by decide +kernel
theorem dX1_isInView_16 : decode cX1_isInView 16 = .ok (.iconst 1, 1) := by decide +kernel
theorem dX1_isInView_17 : decode cX1_isInView 17 = .ok (.goto 4, 3) := by decide +kernel
theorem dX1_isInView_20 : decode cX1_isInView 20 = .ok (.iconst 0, 1) := by decide +kernel
theorem dX1_isInView_21 : decode cX1_isInView 21 = .ok (.ireturn, 1) := by decide +kernel
set_option maxRecDepth 4000 in
theorem kX1_isInView (γ : LC) (w : Mm) (d p : Int) (hd : DTl w d) (hv : DVb w d) (hp : IR p) : KI γ 2 mX1_isInView [rv d, .int (I p)] w (0) (0) (fun r w' => r = bi (d_low w d ≤ p ∧ p ≤ d_high w d) ∧ w' = w) NX := by
  refine MX_of rfl rfl (by simp [rv_cat, int_cat]) rfl ?_
  rintro κ hO hF rfl
  have hD := hF.dp
  show X κ (0) (0) w 0 [some (rv d), some (.int (I p))] []
  obtain ⟨t0, t1, ⟨t2, t3⟩, ⟨t4, t5⟩, t6, t7, t8⟩ := id hd
  have hl := d_low_b hd hv
  have hh := d_high_b hd hv
  have JP21 : ∀ (z : Int), (z = bi (d_low w d ≤ p ∧ p ≤ d_high w d)) → (0 ≤ z ∧ z ≤ 1) → X κ (0) (0) (w) 21 [some (rv d), some (.int (I p))] [.int (I z)] := by
    intro z hz hzi
    exact X_iret hO hF rfl (by first | exact Or.inl rfl | exact Or.inr ⟨rfl, bi_01 _⟩ | exact Or.inr ⟨rfl, by omega⟩) dX1_isInView_21 ⟨_, rfl, (by omega), ⟨hz, rfl⟩⟩
  refine X_iload_n 1 hO dX1_isInView_0 rfl rfl ?_
  refine X_aload_n 2 hO dX1_isInView_1 rfl rfl ?_
  refine X_kVi (t := 2) 5 hO hD lX1_41 rfl (by decide) [] rfl dX1_isInView_2 rfl (by first | assumption | omega | (simp (disch := first | decide | assumption | omega) only [up_k, up_s, up_a, up_i, flA_k, flA_a, flA_n, cpA_k, cpA_a, newO_o, newA_o, newO_t, newA_t, newA_n] <;> first | assumption | omega)) (kX1_low _ _ _ hd hv) (by decide) (by simp [rv_cat, int_cat]) (by first | decide | exact Nat.zero_le _ | omega) (by first | decide | exact Nat.zero_le _ | omega) (fun r_2 w_2 hr_2 hp_2 => ?_) (fun E w_ hx_ => hx_.elim)
  obtain ⟨e1_2, e2_2⟩ := hp_2
  subst r_2
  subst w_2
  refine X_icmp_lt 8 20 hO dX1_isInView_5 rfl rfl (by omega) (by omega) (fun hc_5 => ?_) (fun hc_5 => ?_)
  ·
    refine X_iconst 21 hO dX1_isInView_20 rfl ?_
    exact JP21 _ (by first | exact bi_t (by omega) | exact bi_f (by omega)) (by omega)
  ·
    refine X_iload_n 9 hO dX1_isInView_8 rfl rfl ?_
    refine X_aload_n 10 hO dX1_isInView_9 rfl rfl ?_
    refine X_kVi (t := 2) 13 hO hD lX1_45 rfl (by decide) [] rfl dX1_isInView_10 rfl (by first | assumption | omega | (simp (disch := first | decide | assumption | omega) only [up_k, up_s, up_a, up_i, flA_k, flA_a, flA_n, cpA_k, cpA_a, newO_o, newA_o, newO_t, newA_t, newA_n] <;> first | assumption | omega)) (kX1_high _ _ _ hd hv) (by decide) (by simp [rv_cat, int_cat]) (by first | decide | exact Nat.zero_le _ | omega) (by first | decide | exact Nat.zero_le _ | omega) (fun r_10 w_10 hr_10 hp_10 => ?_) (fun E w_ hx_ => hx_.elim)
    obtain ⟨e1_10, e2_10⟩ := hp_10
    subst r_10
    subst w_10
    refine X_icmp_gt 16 20 hO dX1_isInView_13 rfl rfl (by omega) (by omega) (fun hc_13 => ?_) (fun hc_13 => ?_)
    ·
      refine X_iconst 21 hO dX1_isInView_20 rfl ?_
      exact JP21 _ (by first | exact bi_t (by omega) | exact bi_f (by omega)) (by omega)
    ·
      refine X_iconst 17 hO dX1_isInView_16 rfl ?_
      refine X_goto hO dX1_isInView_17 (tgt := 21) rfl ?_
      exact JP21 _ (by first | exact bi_t (by omega) | exact bi_f (by omega)) (by omega)
theorem dX1_hasBehindPoint_0 : decode cX1_hasBehindPoint 0 = .ok (.aload_n 0, 1) := by decide +kernel
theorem dX1_hasBehindPoint_1 : decode cX1_hasBehindPoint 1 = .ok (.invokevirtual 45, 3) := by decide +kernel
theorem dX1_hasBehindPoint_4 : decode cX1_hasBehindPoint 4 = .ok (.aload_n 0, 1) := by decide +kernel
theorem dX1_hasBehindPoint_5 : decode cX1_hasBehindPoint 5 = .ok (.getfield 48, 3) := by decide +kernel
theorem dX1_hasBehindPoint_8 : decode cX1_hasBehindPoint 8 = .ok (.isub, 1) := by decide +kernel
theorem dX1_hasBehindPoint_9 : decode cX1_hasBehindPoint 9 = .ok (.iload_n 1, 1) := by decide +kernel
theorem dX1_hasBehindPoint_10 : decode cX1_hasBehindPoint 10 = .ok (.if_icmp .lt 7, 3) := by decide +kernel
theorem dX1_hasBehindPoint_13 : decode cX1_hasBehindPoint 13 = .ok (.iconst 1, 1) := by decide +kernel
theorem dX1_hasBehindPoint_14 : decode cX1_hasBehindPoint 14 = .ok (.goto 4, 3) := by decide +kernel
theorem dX1_hasBehindPoint_17 : decode cX1_hasBehindPoint 17 = .ok (.iconst 0, 1) := by decide +kernel
theorem dX1_hasBehindPoint_18 : decode cX1_hasBehindPoint 18 = .ok (.ireturn, 1) := by decide +kernel
set_option maxRecDepth 4000 in
theorem kX1_hasBehindPoint (γ : LC) (w : Mm) (d n : Int) (hd : DTl w d) (hv : DVb w d) (hn : IR n) : KI γ 2 mX1_hasBehindPoint [rv d, .int (I n)] w (0) (0) (fun r w' => r = bi (n ≤ d_high w d - w 61 d 0) ∧ w' = w) NX := by
  refine MX_of rfl rfl (by simp [rv_cat, int_cat]) rfl ?_
  rintro κ hO hF rfl
  have hD := hF.dp
  show X κ (0) (0) w 0 [some (rv d), some (.int (I n))] []
  obtain ⟨t0, t1, ⟨t2, t3⟩, ⟨t4, t5⟩, t6, t7, t8⟩ := id hd
  have hh := d_high_b hd hv
  have JP18 : ∀ (z : Int), (z = bi (n ≤ d_high w d - w 61 d 0)) → (0 ≤ z ∧ z ≤ 1) → X κ (0) (0) (w) 18 [some (rv d), some (.int (I n))] [.int (I z)] := by
    intro z hz hzi
    exact X_iret hO hF rfl (by first | exact Or.inl rfl | exact Or.inr ⟨rfl, bi_01 _⟩ | exact Or.inr ⟨rfl, by omega⟩) dX1_hasBehindPoint_18 ⟨_, rfl, (by omega), ⟨hz, rfl⟩⟩
  refine X_aload_n 1 hO dX1_hasBehindPoint_0 rfl rfl ?_
  refine X_kVi (t := 2) 4 hO hD lX1_45 rfl (by decide) [] rfl dX1_hasBehindPoint_1 rfl (by first | assumption | omega | (simp (disch := first | decide | assumption | omega) only [up_k, up_s, up_a, up_i, flA_k, flA_a, flA_n, cpA_k, cpA_a, newO_o, newA_o, newO_t, newA_t, newA_n] <;> first | assumption | omega)) (kX1_high _ _ _ hd hv) (by decide) (by simp [rv_cat, int_cat]) (by first | decide | exact Nat.zero_le _ | omega) (by first | decide | exact Nat.zero_le _ | omega) (fun r_1 w_1 hr_1 hp_1 => ?_) (fun E w_ hx_ => hx_.elim)
  obtain ⟨e1_1, e2_1⟩ := hp_1
  subst r_1
  subst w_1
  refine X_aload_n 5 hO dX1_hasBehindPoint_4 rfl rfl ?_
  refine gX1_48 8 hO dX1_hasBehindPoint_5 rfl (by first | assumption | omega | (simp (disch := first | decide | assumption | omega) only [up_k, up_s, up_a, up_i, flA_k, flA_a, flA_n, cpA_k, cpA_a, newO_o, newA_o, newO_t, newA_t, newA_n] <;> first | assumption | omega)) (fun hi_5 => ?_)
  try simp (disch := first | decide | assumption | omega) only [up_k, up_s, up_a, up_i, flA_k, flA_a, flA_n, cpA_k, cpA_a, newO_o, newA_o, newO_t, newA_t, newA_n] at hi_5 ⊢
  refine X_isub 9 hO dX1_hasBehindPoint_8 rfl ?_
  refine X_iload_n 10 hO dX1_hasBehindPoint_9 rfl rfl ?_
  refine X_icmp_lt 13 17 hO dX1_hasBehindPoint_10 rfl rfl (by omega) (by omega) (fun hc_10 => ?_) (fun hc_10 => ?_)
  ·
    refine X_iconst 18 hO dX1_hasBehindPoint_17 rfl ?_
    exact JP18 _ (by first | exact bi_t (by omega) | exact bi_f (by omega)) (by omega)
  ·
    refine X_iconst 14 hO dX1_hasBehindPoint_13 rfl ?_
    refine X_goto hO dX1_hasBehindPoint_14 (tgt := 18) rfl ?_
    exact JP18 _ (by first | exact bi_t (by omega) | exact bi_f (by omega)) (by omega)
