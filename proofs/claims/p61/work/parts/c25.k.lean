/-! all traces meet a step: what is asked of those in use alone -/
def TrBn (w : Mm) (T n : Int) : Prop := ∀ i, 0 ≤ i → i < n → (-1000000000 ≤ w 73 (w 3 (w 37 T 0) i) 0 ∧ w 73 (w 3 (w 37 T 0) i) 0 ≤ 1000000000) ∧ (-1000000000 ≤ w 74 (w 3 (w 37 T 0) i) 0 ∧ w 74 (w 3 (w 37 T 0) i) 0 ≤ 1000000000) ∧ (0 ≤ w 76 (w 3 (w 37 T 0) i) 0 ∧ w 76 (w 3 (w 37 T 0) i) 0 < 512)
set_option maxRecDepth 4000 in
theorem kX9_meetStep2 (γ : LC) (w : Mm) (T t : Int) (hT : TrT w T) (hX : TrX w T) (hB : TrBn w T (w 77 T 0)) (hst : w 0 t 0 = 7) (hp : -1000000000 ≤ w 69 t 0 ∧ w 69 t 0 ≤ 1000000000) (hn : -1000000000 ≤ w 70 t 0 ∧ w 70 t 0 ≤ 1000000000) : KV γ 4 mX9_meetStep [rv T, rv t] w (0) (0) (fun w' => w' = ts_met (fun i => w 3 (w 37 T 0) i) (w 68 t 0) (w 69 t 0) (w 70 t 0) w (w 77 T 0).toNat) NX := by
  refine MX_of rfl rfl (by simp [rv_cat, int_cat]) rfl ?_
  rintro κ hO hF rfl
  have hD := hF.dp
  show X κ (0) (0) w 0 [some (rv T), some (rv t), none] []
  obtain ⟨t0, t1, t2, t3⟩ := id hT
  obtain ⟨x1, x2⟩ := id hX
  refine X_iconst 1 hO dX9_meetStep_0 rfl ?_
  refine X_istore_n 2 hO dX9_meetStep_1 rfl rfl ?_
  have LP2 : ∀ (nn : Nat) (j : Int), (w 77 T 0 - j).toNat < nn → (0 ≤ j ∧ j ≤ w 77 T 0) → X κ (0) (0) (ts_met (fun i => w 3 (w 37 T 0) i) (w 68 t 0) (w 69 t 0) (w 70 t 0) w j.toNat) 2 [some (rv T), some (rv t), some (.int (I j))] [] := by
    intro nn
    induction nn with
    | zero => intro j hm; exact absurd hm (Nat.not_lt_zero _)
    | succ nn ih =>
      intro j hm hj
      have eW : j < 8 → ∀ (c : Nat) (i : Int), ts_met (fun i => w 3 (w 37 T 0) i) (w 68 t 0) (w 69 t 0) (w 70 t 0) w j.toNat c (w 3 (w 37 T 0) j) i = w c (w 3 (w 37 T 0) j) i := fun h c i => ts_met_a (fun m hm => x2 j m (by omega) h (by omega) (by omega) (by omega))
      refine X_iload_n 3 hO dX9_meetStep_2 rfl rfl ?_
      refine X_aload_n 4 hO dX9_meetStep_3 rfl rfl ?_
      refine gX9_49 7 hO dX9_meetStep_4 rfl (by first | assumption | omega | (simp (disch := first | decide | assumption | omega) only [up_k, up_s, up_a, up_i, flA_k, flA_a, flA_n, cpA_k, cpA_a, newO_o, newA_o, newO_t, newA_t, newA_n, cpQ_k, cpQ_a, ts_met_k, eW] <;> first | assumption | omega | exact x1 j (by omega) (by omega))) (fun hi_4 => ?_)
      try simp (disch := first | decide | assumption | omega) only [up_k, up_s, up_a, up_i, flA_k, flA_a, flA_n, cpA_k, cpA_a, newO_o, newA_o, newO_t, newA_t, newA_n, cpQ_k, cpQ_a, ts_met_k, eW] at hi_4 ⊢
      refine X_icmp_ge 10 37 hO dX9_meetStep_7 rfl rfl (by omega) (by omega) (fun hc_7 => ?_) (fun hc_7 => ?_)
      ·
        exact X_vret hO hF rfl dX9_meetStep_37 ⟨rfl, (by have ej : j = w 77 T 0 := (by omega); subst ej; rfl)⟩
      ·
        refine X_aload_n 11 hO dX9_meetStep_10 rfl rfl ?_
        refine gX9_11 14 hO dX9_meetStep_11 rfl (by first | assumption | omega | (simp (disch := first | decide | assumption | omega) only [up_k, up_s, up_a, up_i, flA_k, flA_a, flA_n, cpA_k, cpA_a, newO_o, newA_o, newO_t, newA_t, newA_n, cpQ_k, cpQ_a, ts_met_k, eW] <;> first | assumption | omega | exact x1 j (by omega) (by omega))) ?_
        try simp (disch := first | decide | assumption | omega) only [up_k, up_s, up_a, up_i, flA_k, flA_a, flA_n, cpA_k, cpA_a, newO_o, newA_o, newO_t, newA_t, newA_n, cpQ_k, cpQ_a, ts_met_k, eW]
        refine X_iload_n 15 hO dX9_meetStep_14 rfl rfl ?_
        refine X_aald (t := 26) (C := "Foldback$Trace") 16 hO rfl (by decide) dX9_meetStep_15 rfl (by first | assumption | omega | (simp (disch := first | decide | assumption | omega) only [up_k, up_s, up_a, up_i, flA_k, flA_a, flA_n, cpA_k, cpA_a, newO_o, newA_o, newO_t, newA_t, newA_n, cpQ_k, cpQ_a, ts_met_k, eW] <;> first | assumption | omega | exact x1 j (by omega) (by omega))) (by first | assumption | omega | (simp (disch := first | decide | assumption | omega) only [up_k, up_s, up_a, up_i, flA_k, flA_a, flA_n, cpA_k, cpA_a, newO_o, newA_o, newO_t, newA_t, newA_n, cpQ_k, cpQ_a, ts_met_k, eW] <;> first | assumption | omega | exact x1 j (by omega) (by omega))) ?_
        try simp (disch := first | decide | assumption | omega) only [up_k, up_s, up_a, up_i, flA_k, flA_a, flA_n, cpA_k, cpA_a, newO_o, newA_o, newO_t, newA_t, newA_n, cpQ_k, cpQ_a, ts_met_k, eW]
        have hBj := hB j (by omega) (by omega)
        refine X_aload_n 17 hO dX9_meetStep_16 rfl rfl ?_
        refine gX9_60 20 hO dX9_meetStep_17 rfl (by first | assumption | omega | (simp (disch := first | decide | assumption | omega) only [up_k, up_s, up_a, up_i, flA_k, flA_a, flA_n, cpA_k, cpA_a, newO_o, newA_o, newO_t, newA_t, newA_n, cpQ_k, cpQ_a, ts_met_k, eW] <;> first | assumption | omega | exact x1 j (by omega) (by omega))) (fun hi_17 => ?_)
        try simp (disch := first | decide | assumption | omega) only [up_k, up_s, up_a, up_i, flA_k, flA_a, flA_n, cpA_k, cpA_a, newO_o, newA_o, newO_t, newA_t, newA_n, cpQ_k, cpQ_a, ts_met_k, eW] at hi_17 ⊢
        refine X_aload_n 21 hO dX9_meetStep_20 rfl rfl ?_
        refine gX9_81 24 hO dX9_meetStep_21 rfl (by first | assumption | omega | (simp (disch := first | decide | assumption | omega) only [up_k, up_s, up_a, up_i, flA_k, flA_a, flA_n, cpA_k, cpA_a, newO_o, newA_o, newO_t, newA_t, newA_n, cpQ_k, cpQ_a, ts_met_k, eW] <;> first | assumption | omega | exact x1 j (by omega) (by omega))) (fun hi_21 => ?_)
        try simp (disch := first | decide | assumption | omega) only [up_k, up_s, up_a, up_i, flA_k, flA_a, flA_n, cpA_k, cpA_a, newO_o, newA_o, newO_t, newA_t, newA_n, cpQ_k, cpQ_a, ts_met_k, eW] at hi_21 ⊢
        refine X_aload_n 25 hO dX9_meetStep_24 rfl rfl ?_
        refine gX9_84 28 hO dX9_meetStep_25 rfl (by first | assumption | omega | (simp (disch := first | decide | assumption | omega) only [up_k, up_s, up_a, up_i, flA_k, flA_a, flA_n, cpA_k, cpA_a, newO_o, newA_o, newO_t, newA_t, newA_n, cpQ_k, cpQ_a, ts_met_k, eW] <;> first | assumption | omega | exact x1 j (by omega) (by omega))) (fun hi_25 => ?_)
        try simp (disch := first | decide | assumption | omega) only [up_k, up_s, up_a, up_i, flA_k, flA_a, flA_n, cpA_k, cpA_a, newO_o, newA_o, newO_t, newA_t, newA_n, cpQ_k, cpQ_a, ts_met_k, eW] at hi_25 ⊢
        refine X_kVv (t := 9) 31 hO hD lX9_87 rfl (by decide) [_, _, _] rfl dX9_meetStep_28 rfl (by first | assumption | omega | (simp (disch := first | decide | assumption | omega) only [up_k, up_s, up_a, up_i, flA_k, flA_a, flA_n, cpA_k, cpA_a, newO_o, newA_o, newO_t, newA_t, newA_n, cpQ_k, cpQ_a, ts_met_k, eW] <;> first | assumption | omega | exact x1 j (by omega) (by omega))) (kX8_meet _ _ _ _ _ _ (by simp (disch := decide) only [ts_met_k]; exact x1 j (by omega) (by omega)) (by omega) (by omega) (by rw [eW (by omega)]; omega) (by rw [eW (by omega)]; omega) (by rw [eW (by omega)]; omega) (by rw [eW (by omega)]; omega) (by omega)) (by decide) (by simp [rv_cat, int_cat]) (by first | decide | exact Nat.zero_le _ | omega) (by first | decide | exact Nat.zero_le _ | omega) (fun w_28 hp_28 => ?_) (fun E w_ hx_ => hx_.elim)
        subst w_28
        refine X_iinc 34 hO dX9_meetStep_31 rfl rfl ?_
        refine X_goto hO dX9_meetStep_34 (tgt := 2) rfl ?_
        exact X_eqW (ts_met_s (x := (fun i => w 3 (w 37 T 0) i)) (by omega)) (ih (j + 1) (by omega) (by omega))
  exact LP2 _ 0 (Nat.lt_succ_self _) (by omega)
set_option maxRecDepth 4000 in
theorem kX9_meetOwnStep2 (γ : LC) (w : Mm) (T t : Int) (hT : TrT w T) (hX : TrX w T) (hB : TrBn w T (w 77 T 0)) (hst : w 0 t 0 = 7) (hp : -1000000000 ≤ w 69 t 0 ∧ w 69 t 0 ≤ 1000000000) (hn : -1000000000 ≤ w 70 t 0 ∧ w 70 t 0 ≤ 1000000000) : KV γ 4 mX9_meetOwnStep [rv T, rv t] w (0) (0) (fun w' => w' = ts_own (fun i => w 3 (w 37 T 0) i) (w 77 T 0) (w 68 t 0) (w 69 t 0) (w 70 t 0) w (w 77 T 0).toNat) NX := by
  refine MX_of rfl rfl (by simp [rv_cat, int_cat]) rfl ?_
  rintro κ hO hF rfl
  have hD := hF.dp
  show X κ (0) (0) w 0 [some (rv T), some (rv t), none, none, none] []
  obtain ⟨t0, t1, t2, t3⟩ := id hT
  obtain ⟨x1, x2⟩ := id hX
  refine X_iconst 1 hO dX9_meetOwnStep_0 rfl ?_
  refine X_istore_n 2 hO dX9_meetOwnStep_1 rfl rfl ?_
  have LP2 : ∀ (nn : Nat) (j : Int), (w 77 T 0 - j).toNat < nn → (0 ≤ j ∧ j ≤ w 77 T 0) → X κ (0) (0) (ts_own (fun i => w 3 (w 37 T 0) i) (w 77 T 0) (w 68 t 0) (w 69 t 0) (w 70 t 0) w j.toNat) 2 [some (rv T), some (rv t), some (.int (I j)), none, none] [] := by
    intro nn
    induction nn with
    | zero => intro j hm; exact absurd hm (Nat.not_lt_zero _)
    | succ nn ih =>
      intro j hm hj
      have eW : j < 8 → ∀ (c : Nat) (i : Int), ts_own (fun i => w 3 (w 37 T 0) i) (w 77 T 0) (w 68 t 0) (w 69 t 0) (w 70 t 0) w j.toNat c (w 3 (w 37 T 0) j) i = w c (w 3 (w 37 T 0) j) i := fun h c i => ts_own_a (fun m hm => x2 j m (by omega) h (by omega) (by omega) (by omega))
      refine X_iload_n 3 hO dX9_meetOwnStep_2 rfl rfl ?_
      refine X_aload_n 4 hO dX9_meetOwnStep_3 rfl rfl ?_
      refine gX9_49 7 hO dX9_meetOwnStep_4 rfl (by first | assumption | omega | (simp (disch := first | decide | assumption | omega) only [up_k, up_s, up_a, up_i, flA_k, flA_a, flA_n, cpA_k, cpA_a, newO_o, newA_o, newO_t, newA_t, newA_n, cpQ_k, cpQ_a, ts_own_k, tr_meet_k, eW] <;> first | assumption | omega | exact x1 j (by omega) (by omega))) (fun hi_4 => ?_)
      try simp (disch := first | decide | assumption | omega) only [up_k, up_s, up_a, up_i, flA_k, flA_a, flA_n, cpA_k, cpA_a, newO_o, newA_o, newO_t, newA_t, newA_n, cpQ_k, cpQ_a, ts_own_k, tr_meet_k, eW] at hi_4 ⊢
      refine X_icmp_ge 10 69 hO dX9_meetOwnStep_7 rfl rfl (by omega) (by omega) (fun hc_7 => ?_) (fun hc_7 => ?_)
      ·
        exact X_vret hO hF rfl dX9_meetOwnStep_69 ⟨rfl, (by have ej : j = w 77 T 0 := (by omega); subst ej; rfl)⟩
      ·
        refine X_aload_n 11 hO dX9_meetOwnStep_10 rfl rfl ?_
        refine gX9_11 14 hO dX9_meetOwnStep_11 rfl (by first | assumption | omega | (simp (disch := first | decide | assumption | omega) only [up_k, up_s, up_a, up_i, flA_k, flA_a, flA_n, cpA_k, cpA_a, newO_o, newA_o, newO_t, newA_t, newA_n, cpQ_k, cpQ_a, ts_own_k, tr_meet_k, eW] <;> first | assumption | omega | exact x1 j (by omega) (by omega))) ?_
        try simp (disch := first | decide | assumption | omega) only [up_k, up_s, up_a, up_i, flA_k, flA_a, flA_n, cpA_k, cpA_a, newO_o, newA_o, newO_t, newA_t, newA_n, cpQ_k, cpQ_a, ts_own_k, tr_meet_k, eW]
        refine X_iload_n 15 hO dX9_meetOwnStep_14 rfl rfl ?_
        refine X_aald (t := 26) (C := "Foldback$Trace") 16 hO rfl (by decide) dX9_meetOwnStep_15 rfl (by first | assumption | omega | (simp (disch := first | decide | assumption | omega) only [up_k, up_s, up_a, up_i, flA_k, flA_a, flA_n, cpA_k, cpA_a, newO_o, newA_o, newO_t, newA_t, newA_n, cpQ_k, cpQ_a, ts_own_k, tr_meet_k, eW] <;> first | assumption | omega | exact x1 j (by omega) (by omega))) (by first | assumption | omega | (simp (disch := first | decide | assumption | omega) only [up_k, up_s, up_a, up_i, flA_k, flA_a, flA_n, cpA_k, cpA_a, newO_o, newA_o, newO_t, newA_t, newA_n, cpQ_k, cpQ_a, ts_own_k, tr_meet_k, eW] <;> first | assumption | omega | exact x1 j (by omega) (by omega))) ?_
        try simp (disch := first | decide | assumption | omega) only [up_k, up_s, up_a, up_i, flA_k, flA_a, flA_n, cpA_k, cpA_a, newO_o, newA_o, newO_t, newA_t, newA_n, cpQ_k, cpQ_a, ts_own_k, tr_meet_k, eW]
        have hBj := hB j (by omega) (by omega)
        refine X_astore_n 17 hO dX9_meetOwnStep_16 rfl rfl ?_
        refine X_aload_n 18 hO dX9_meetOwnStep_17 rfl rfl ?_
        refine gX9_78 21 hO dX9_meetOwnStep_18 rfl (by first | assumption | omega | (simp (disch := first | decide | assumption | omega) only [up_k, up_s, up_a, up_i, flA_k, flA_a, flA_n, cpA_k, cpA_a, newO_o, newA_o, newO_t, newA_t, newA_n, cpQ_k, cpQ_a, ts_own_k, tr_meet_k, eW] <;> first | assumption | omega | exact x1 j (by omega) (by omega))) (fun hi_18 => ?_)
        try simp (disch := first | decide | assumption | omega) only [up_k, up_s, up_a, up_i, flA_k, flA_a, flA_n, cpA_k, cpA_a, newO_o, newA_o, newO_t, newA_t, newA_n, cpQ_k, cpQ_a, ts_own_k, tr_meet_k, eW] at hi_18 ⊢
        refine X_istore 23 hO dX9_meetOwnStep_21 rfl rfl ?_
        refine X_aload_n 24 hO dX9_meetOwnStep_23 rfl rfl ?_
        refine X_aload_n 25 hO dX9_meetOwnStep_24 rfl rfl ?_
        refine gX9_60 28 hO dX9_meetOwnStep_25 rfl (by first | assumption | omega | (simp (disch := first | decide | assumption | omega) only [up_k, up_s, up_a, up_i, flA_k, flA_a, flA_n, cpA_k, cpA_a, newO_o, newA_o, newO_t, newA_t, newA_n, cpQ_k, cpQ_a, ts_own_k, tr_meet_k, eW] <;> first | assumption | omega | exact x1 j (by omega) (by omega))) (fun hi_25 => ?_)
        try simp (disch := first | decide | assumption | omega) only [up_k, up_s, up_a, up_i, flA_k, flA_a, flA_n, cpA_k, cpA_a, newO_o, newA_o, newO_t, newA_t, newA_n, cpQ_k, cpQ_a, ts_own_k, tr_meet_k, eW] at hi_25 ⊢
        refine X_aload_n 29 hO dX9_meetOwnStep_28 rfl rfl ?_
        refine gX9_81 32 hO dX9_meetOwnStep_29 rfl (by first | assumption | omega | (simp (disch := first | decide | assumption | omega) only [up_k, up_s, up_a, up_i, flA_k, flA_a, flA_n, cpA_k, cpA_a, newO_o, newA_o, newO_t, newA_t, newA_n, cpQ_k, cpQ_a, ts_own_k, tr_meet_k, eW] <;> first | assumption | omega | exact x1 j (by omega) (by omega))) (fun hi_29 => ?_)
        try simp (disch := first | decide | assumption | omega) only [up_k, up_s, up_a, up_i, flA_k, flA_a, flA_n, cpA_k, cpA_a, newO_o, newA_o, newO_t, newA_t, newA_n, cpQ_k, cpQ_a, ts_own_k, tr_meet_k, eW] at hi_29 ⊢
        refine X_aload_n 33 hO dX9_meetOwnStep_32 rfl rfl ?_
        refine gX9_84 36 hO dX9_meetOwnStep_33 rfl (by first | assumption | omega | (simp (disch := first | decide | assumption | omega) only [up_k, up_s, up_a, up_i, flA_k, flA_a, flA_n, cpA_k, cpA_a, newO_o, newA_o, newO_t, newA_t, newA_n, cpQ_k, cpQ_a, ts_own_k, tr_meet_k, eW] <;> first | assumption | omega | exact x1 j (by omega) (by omega))) (fun hi_33 => ?_)
        try simp (disch := first | decide | assumption | omega) only [up_k, up_s, up_a, up_i, flA_k, flA_a, flA_n, cpA_k, cpA_a, newO_o, newA_o, newO_t, newA_t, newA_n, cpQ_k, cpQ_a, ts_own_k, tr_meet_k, eW] at hi_33 ⊢
        refine X_kVv (t := 9) 39 hO hD lX9_87 rfl (by decide) [_, _, _] rfl dX9_meetOwnStep_36 rfl (by first | assumption | omega | (simp (disch := first | decide | assumption | omega) only [up_k, up_s, up_a, up_i, flA_k, flA_a, flA_n, cpA_k, cpA_a, newO_o, newA_o, newO_t, newA_t, newA_n, cpQ_k, cpQ_a, ts_own_k, tr_meet_k, eW] <;> first | assumption | omega | exact x1 j (by omega) (by omega))) (kX8_meet _ _ _ _ _ _ (by simp (disch := decide) only [ts_own_k]; exact x1 j (by omega) (by omega)) (by omega) (by omega) (by rw [eW (by omega)]; omega) (by rw [eW (by omega)]; omega) (by rw [eW (by omega)]; omega) (by rw [eW (by omega)]; omega) (by omega)) (by decide) (by simp [rv_cat, int_cat]) (by first | decide | exact Nat.zero_le _ | omega) (by first | decide | exact Nat.zero_le _ | omega) (fun w_36 hp_36 => ?_) (fun E w_ hx_ => hx_.elim)
        subst w_36
        refine X_aload_n 40 hO dX9_meetOwnStep_39 rfl rfl ?_
        refine gX9_78 43 hO dX9_meetOwnStep_40 rfl (by first | assumption | omega | (simp (disch := first | decide | assumption | omega) only [up_k, up_s, up_a, up_i, flA_k, flA_a, flA_n, cpA_k, cpA_a, newO_o, newA_o, newO_t, newA_t, newA_n, cpQ_k, cpQ_a, ts_own_k, tr_meet_k, eW] <;> first | assumption | omega | exact x1 j (by omega) (by omega))) (fun hi_40 => ?_)
        try simp (disch := first | decide | assumption | omega) only [up_k, up_s, up_a, up_i, flA_k, flA_a, flA_n, cpA_k, cpA_a, newO_o, newA_o, newO_t, newA_t, newA_n, cpQ_k, cpQ_a, ts_own_k, tr_meet_k, eW] at hi_40 ⊢
        refine X_iload 45 hO dX9_meetOwnStep_43 rfl rfl ?_
        refine X_icmp_ge 48 63 hO dX9_meetOwnStep_45 rfl rfl (by omega) (by omega) (fun hc_45 => ?_) (fun hc_45 => ?_)
        ·
          refine X_iinc 66 hO dX9_meetOwnStep_63 rfl rfl ?_
          refine X_goto hO dX9_meetOwnStep_66 (tgt := 2) rfl ?_
          refine X_wk (by simp only [lwk, lset, true_or, or_true, and_self]) (X_eqW (w2 := ts_own (fun i => w 3 (w 37 T 0) i) (w 77 T 0) (w 68 t 0) (w 69 t 0) (w 70 t 0) w (j + 1).toNat) ?_ (ih (j + 1) (by omega) (by omega)))
          rw [← ts_own_s (x := (fun i => w 3 (w 37 T 0) i)) (by omega)]
          show _ = ts_o1 (w 3 (w 37 T 0) j) _ _ _ _ _
          unfold ts_o1
          first
          | (rw [if_neg (by rw [eW (by omega)]; omega)]; done)
          | (rw [if_pos (by rw [eW (by omega)]; omega), tr_meet_k (by decide) (by decide) (by decide), eW (by omega)]; done)
        ·
          refine X_aload_n 49 hO dX9_meetOwnStep_48 rfl rfl ?_
          refine X_dup 50 hO dX9_meetOwnStep_49 rfl (by first | rfl | exact rv_cat _) ?_
          refine gX9_91 53 hO dX9_meetOwnStep_50 rfl (by first | assumption | omega | (simp (disch := first | decide | assumption | omega) only [up_k, up_s, up_a, up_i, flA_k, flA_a, flA_n, cpA_k, cpA_a, newO_o, newA_o, newO_t, newA_t, newA_n, cpQ_k, cpQ_a, ts_own_k, tr_meet_k, eW] <;> first | assumption | omega | exact x1 j (by omega) (by omega))) (fun hi_50 => ?_)
          try simp (disch := first | decide | assumption | omega) only [up_k, up_s, up_a, up_i, flA_k, flA_a, flA_n, cpA_k, cpA_a, newO_o, newA_o, newO_t, newA_t, newA_n, cpQ_k, cpQ_a, ts_own_k, tr_meet_k, eW] at hi_50 ⊢
          refine X_iconst 54 hO dX9_meetOwnStep_53 rfl ?_
          refine X_aload_n 55 hO dX9_meetOwnStep_54 rfl rfl ?_
          refine gX9_49 58 hO dX9_meetOwnStep_55 rfl (by first | assumption | omega | (simp (disch := first | decide | assumption | omega) only [up_k, up_s, up_a, up_i, flA_k, flA_a, flA_n, cpA_k, cpA_a, newO_o, newA_o, newO_t, newA_t, newA_n, cpQ_k, cpQ_a, ts_own_k, tr_meet_k, eW] <;> first | assumption | omega | exact x1 j (by omega) (by omega))) (fun hi_55 => ?_)
          try simp (disch := first | decide | assumption | omega) only [up_k, up_s, up_a, up_i, flA_k, flA_a, flA_n, cpA_k, cpA_a, newO_o, newA_o, newO_t, newA_t, newA_n, cpQ_k, cpQ_a, ts_own_k, tr_meet_k, eW] at hi_55 ⊢
          refine X_ishl 59 hO dX9_meetOwnStep_58 rfl ((bt_i (v := 0) (by omega) (by omega)).2.2.2.2) ?_
          refine X_ior 60 hO dX9_meetOwnStep_59 rfl ((bt_i hBj.2.2 (by omega)).1) ?_
          refine pX9_91 63 hO dX9_meetOwnStep_60 rfl (by first | assumption | omega | (simp (disch := first | decide | assumption | omega) only [up_k, up_s, up_a, up_i, flA_k, flA_a, flA_n, cpA_k, cpA_a, newO_o, newA_o, newO_t, newA_t, newA_n, cpQ_k, cpQ_a, ts_own_k, tr_meet_k, eW] <;> first | assumption | omega | exact x1 j (by omega) (by omega))) (by have := (bt_i (c := w 77 T 0) hBj.2.2 (by omega)).2.1; omega) ?_
          refine X_iinc 66 hO dX9_meetOwnStep_63 rfl rfl ?_
          refine X_goto hO dX9_meetOwnStep_66 (tgt := 2) rfl ?_
          refine X_wk (by simp only [lwk, lset, true_or, or_true, and_self]) (X_eqW (w2 := ts_own (fun i => w 3 (w 37 T 0) i) (w 77 T 0) (w 68 t 0) (w 69 t 0) (w 70 t 0) w (j + 1).toNat) ?_ (ih (j + 1) (by omega) (by omega)))
          rw [← ts_own_s (x := (fun i => w 3 (w 37 T 0) i)) (by omega)]
          show _ = ts_o1 (w 3 (w 37 T 0) j) _ _ _ _ _
          unfold ts_o1
          first
          | (rw [if_neg (by rw [eW (by omega)]; omega)]; done)
          | (rw [if_pos (by rw [eW (by omega)]; omega), tr_meet_k (by decide) (by decide) (by decide), eW (by omega)]; done)
  exact X_wk (by simp only [lwk, lset, true_or, or_true, and_self]) (LP2 _ 0 (Nat.lt_succ_self _) (by omega))
set_option maxRecDepth 4000 in
theorem kX9_meetOpposite2 (γ : LC) (w : Mm) (T q k p n : Int) (hT : TrT w T) (hX : TrX w T) (hB : TrBn w T q) (hq : 0 ≤ q ∧ q ≤ 8) (hk : IR k) (hp : -1000000000 ≤ p ∧ p ≤ 1000000000) (hn : -1000000000 ≤ n ∧ n ≤ 1000000000) : KV γ 4 mX9_meetOpposite [rv T, .int (I q), .int (I k), .int (I p), .int (I n)] w (0) (0) (fun w' => w' = ts_opp (fun i => w 3 (w 37 T 0) i) q k p n w q.toNat) NX := by
  refine MX_of rfl rfl (by simp [rv_cat, int_cat]) rfl ?_
  rintro κ hO hF rfl
  have hD := hF.dp
  show X κ (0) (0) w 0 [some (rv T), some (.int (I q)), some (.int (I k)), some (.int (I p)), some (.int (I n)), none, none] []
  obtain ⟨t0, t1, t2, t3⟩ := id hT
  obtain ⟨x1, x2⟩ := id hX
  refine X_iconst 1 hO dX9_meetOpposite_0 rfl ?_
  refine X_istore 3 hO dX9_meetOpposite_1 rfl rfl ?_
  have LP3 : ∀ (nn : Nat) (j : Int), (q - j).toNat < nn → (0 ≤ j ∧ j ≤ q) → X κ (0) (0) (ts_opp (fun i => w 3 (w 37 T 0) i) q k p n w j.toNat) 3 [some (rv T), some (.int (I q)), some (.int (I k)), some (.int (I p)), some (.int (I n)), some (.int (I j)), none] [] := by
    intro nn
    induction nn with
    | zero => intro j hm; exact absurd hm (Nat.not_lt_zero _)
    | succ nn ih =>
      intro j hm hj
      have eW : j < 8 → ∀ (c : Nat) (i : Int), ts_opp (fun i => w 3 (w 37 T 0) i) q k p n w j.toNat c (w 3 (w 37 T 0) j) i = w c (w 3 (w 37 T 0) j) i := fun h c i => ts_opp_a (fun m hm => x2 j m (by omega) h (by omega) (by omega) (by omega))
      refine X_iload 5 hO dX9_meetOpposite_3 rfl rfl ?_
      refine X_iload_n 6 hO dX9_meetOpposite_5 rfl rfl ?_
      refine X_icmp_ge 9 79 hO dX9_meetOpposite_6 rfl rfl (by omega) (by omega) (fun hc_6 => ?_) (fun hc_6 => ?_)
      ·
        exact X_vret hO hF rfl dX9_meetOpposite_79 ⟨rfl, (by have ej : j = q := (by omega); subst ej; rfl)⟩
      ·
        refine X_aload_n 10 hO dX9_meetOpposite_9 rfl rfl ?_
        refine gX9_11 13 hO dX9_meetOpposite_10 rfl (by first | assumption | omega | (simp (disch := first | decide | assumption | omega) only [up_k, up_s, up_a, up_i, flA_k, flA_a, flA_n, cpA_k, cpA_a, newO_o, newA_o, newO_t, newA_t, newA_n, cpQ_k, cpQ_a, ts_opp_k, eW] <;> first | assumption | omega | exact x1 j (by omega) (by omega))) ?_
        try simp (disch := first | decide | assumption | omega) only [up_k, up_s, up_a, up_i, flA_k, flA_a, flA_n, cpA_k, cpA_a, newO_o, newA_o, newO_t, newA_t, newA_n, cpQ_k, cpQ_a, ts_opp_k, eW]
        refine X_iload 15 hO dX9_meetOpposite_13 rfl rfl ?_
        refine X_aald (t := 26) (C := "Foldback$Trace") 16 hO rfl (by decide) dX9_meetOpposite_15 rfl (by first | assumption | omega | (simp (disch := first | decide | assumption | omega) only [up_k, up_s, up_a, up_i, flA_k, flA_a, flA_n, cpA_k, cpA_a, newO_o, newA_o, newO_t, newA_t, newA_n, cpQ_k, cpQ_a, ts_opp_k, eW] <;> first | assumption | omega | exact x1 j (by omega) (by omega))) (by first | assumption | omega | (simp (disch := first | decide | assumption | omega) only [up_k, up_s, up_a, up_i, flA_k, flA_a, flA_n, cpA_k, cpA_a, newO_o, newA_o, newO_t, newA_t, newA_n, cpQ_k, cpQ_a, ts_opp_k, eW] <;> first | assumption | omega | exact x1 j (by omega) (by omega))) ?_
        try simp (disch := first | decide | assumption | omega) only [up_k, up_s, up_a, up_i, flA_k, flA_a, flA_n, cpA_k, cpA_a, newO_o, newA_o, newO_t, newA_t, newA_n, cpQ_k, cpQ_a, ts_opp_k, eW]
        have hBj := hB j (by omega) (by omega)
        refine X_astore 18 hO dX9_meetOpposite_16 rfl rfl ?_
        refine X_iload_n 19 hO dX9_meetOpposite_18 rfl rfl ?_
        refine X_iconst 20 hO dX9_meetOpposite_19 rfl ?_
        refine X_icmp_ne 23 64 hO dX9_meetOpposite_20 rfl rfl (by omega) (by omega) (fun hc_20 => ?_) (fun hc_20 => ?_)
        ·
          refine X_aload 66 hO dX9_meetOpposite_64 rfl rfl ?_
          refine X_iload_n 67 hO dX9_meetOpposite_66 rfl rfl ?_
          refine X_iload_n 68 hO dX9_meetOpposite_67 rfl rfl ?_
          refine X_iload 70 hO dX9_meetOpposite_68 rfl rfl ?_
          refine X_kVv (t := 9) 73 hO hD lX9_87 rfl (by decide) [_, _, _] rfl dX9_meetOpposite_70 rfl (by first | assumption | omega | (simp (disch := first | decide | assumption | omega) only [up_k, up_s, up_a, up_i, flA_k, flA_a, flA_n, cpA_k, cpA_a, newO_o, newA_o, newO_t, newA_t, newA_n, cpQ_k, cpQ_a, ts_opp_k, eW] <;> first | assumption | omega | exact x1 j (by omega) (by omega))) (kX8_meet _ _ _ _ _ _ (by simp (disch := decide) only [ts_opp_k]; exact x1 j (by omega) (by omega)) (by omega) (by omega) (by rw [eW (by omega)]; omega) (by rw [eW (by omega)]; omega) (by rw [eW (by omega)]; omega) (by rw [eW (by omega)]; omega) (by omega)) (by decide) (by simp [rv_cat, int_cat]) (by first | decide | exact Nat.zero_le _ | omega) (by first | decide | exact Nat.zero_le _ | omega) (fun w_70 hp_70 => ?_) (fun E w_ hx_ => hx_.elim)
          subst w_70
          refine X_iinc 76 hO dX9_meetOpposite_73 rfl rfl ?_
          refine X_goto hO dX9_meetOpposite_76 (tgt := 3) rfl ?_
          refine X_wk (by simp only [lwk, lset, true_or, or_true, and_self]) (X_eqW (w2 := ts_opp (fun i => w 3 (w 37 T 0) i) q k p n w (j + 1).toNat) ?_ (ih (j + 1) (by omega) (by omega)))
          rw [← ts_opp_s (x := (fun i => w 3 (w 37 T 0) i)) (by omega)]
          show _ = ts_p1 (w 3 (w 37 T 0) j) _ _ _ _ _
          unfold ts_p1
          rw [eW (by omega), eW (by omega), eW (by omega)]
          first
          | (rw [if_neg (by omega)]; done)
          | (rw [if_pos (by omega), if_pos (by omega)]; done)
          | (rw [if_pos (by omega), if_neg (by omega)]; done)
        ·
          refine X_aload 25 hO dX9_meetOpposite_23 rfl rfl ?_
          refine gX9_78 28 hO dX9_meetOpposite_25 rfl (by first | assumption | omega | (simp (disch := first | decide | assumption | omega) only [up_k, up_s, up_a, up_i, flA_k, flA_a, flA_n, cpA_k, cpA_a, newO_o, newA_o, newO_t, newA_t, newA_n, cpQ_k, cpQ_a, ts_opp_k, eW] <;> first | assumption | omega | exact x1 j (by omega) (by omega))) (fun hi_25 => ?_)
          try simp (disch := first | decide | assumption | omega) only [up_k, up_s, up_a, up_i, flA_k, flA_a, flA_n, cpA_k, cpA_a, newO_o, newA_o, newO_t, newA_t, newA_n, cpQ_k, cpQ_a, ts_opp_k, eW] at hi_25 ⊢
          refine X_iload_n 29 hO dX9_meetOpposite_28 rfl rfl ?_
          refine X_icmp_ne 32 64 hO dX9_meetOpposite_29 rfl rfl (by omega) (by omega) (fun hc_29 => ?_) (fun hc_29 => ?_)
          ·
            refine X_aload 66 hO dX9_meetOpposite_64 rfl rfl ?_
            refine X_iload_n 67 hO dX9_meetOpposite_66 rfl rfl ?_
            refine X_iload_n 68 hO dX9_meetOpposite_67 rfl rfl ?_
            refine X_iload 70 hO dX9_meetOpposite_68 rfl rfl ?_
            refine X_kVv (t := 9) 73 hO hD lX9_87 rfl (by decide) [_, _, _] rfl dX9_meetOpposite_70 rfl (by first | assumption | omega | (simp (disch := first | decide | assumption | omega) only [up_k, up_s, up_a, up_i, flA_k, flA_a, flA_n, cpA_k, cpA_a, newO_o, newA_o, newO_t, newA_t, newA_n, cpQ_k, cpQ_a, ts_opp_k, eW] <;> first | assumption | omega | exact x1 j (by omega) (by omega))) (kX8_meet _ _ _ _ _ _ (by simp (disch := decide) only [ts_opp_k]; exact x1 j (by omega) (by omega)) (by omega) (by omega) (by rw [eW (by omega)]; omega) (by rw [eW (by omega)]; omega) (by rw [eW (by omega)]; omega) (by rw [eW (by omega)]; omega) (by omega)) (by decide) (by simp [rv_cat, int_cat]) (by first | decide | exact Nat.zero_le _ | omega) (by first | decide | exact Nat.zero_le _ | omega) (fun w_70 hp_70 => ?_) (fun E w_ hx_ => hx_.elim)
            subst w_70
            refine X_iinc 76 hO dX9_meetOpposite_73 rfl rfl ?_
            refine X_goto hO dX9_meetOpposite_76 (tgt := 3) rfl ?_
            refine X_wk (by simp only [lwk, lset, true_or, or_true, and_self]) (X_eqW (w2 := ts_opp (fun i => w 3 (w 37 T 0) i) q k p n w (j + 1).toNat) ?_ (ih (j + 1) (by omega) (by omega)))
            rw [← ts_opp_s (x := (fun i => w 3 (w 37 T 0) i)) (by omega)]
            show _ = ts_p1 (w 3 (w 37 T 0) j) _ _ _ _ _
            unfold ts_p1
            rw [eW (by omega), eW (by omega), eW (by omega)]
            first
            | (rw [if_neg (by omega)]; done)
            | (rw [if_pos (by omega), if_pos (by omega)]; done)
            | (rw [if_pos (by omega), if_neg (by omega)]; done)
          ·
            refine X_aload 34 hO dX9_meetOpposite_32 rfl rfl ?_
            refine gX9_97 37 hO dX9_meetOpposite_34 rfl (by first | assumption | omega | (simp (disch := first | decide | assumption | omega) only [up_k, up_s, up_a, up_i, flA_k, flA_a, flA_n, cpA_k, cpA_a, newO_o, newA_o, newO_t, newA_t, newA_n, cpQ_k, cpQ_a, ts_opp_k, eW] <;> first | assumption | omega | exact x1 j (by omega) (by omega))) (fun hi_34 => ?_)
            try simp (disch := first | decide | assumption | omega) only [up_k, up_s, up_a, up_i, flA_k, flA_a, flA_n, cpA_k, cpA_a, newO_o, newA_o, newO_t, newA_t, newA_n, cpQ_k, cpQ_a, ts_opp_k, eW] at hi_34 ⊢
            refine X_iload_n 38 hO dX9_meetOpposite_37 rfl rfl ?_
            refine X_icmp_ne 41 64 hO dX9_meetOpposite_38 rfl rfl (by omega) (by omega) (fun hc_38 => ?_) (fun hc_38 => ?_)
            ·
              refine X_aload 66 hO dX9_meetOpposite_64 rfl rfl ?_
              refine X_iload_n 67 hO dX9_meetOpposite_66 rfl rfl ?_
              refine X_iload_n 68 hO dX9_meetOpposite_67 rfl rfl ?_
              refine X_iload 70 hO dX9_meetOpposite_68 rfl rfl ?_
              refine X_kVv (t := 9) 73 hO hD lX9_87 rfl (by decide) [_, _, _] rfl dX9_meetOpposite_70 rfl (by first | assumption | omega | (simp (disch := first | decide | assumption | omega) only [up_k, up_s, up_a, up_i, flA_k, flA_a, flA_n, cpA_k, cpA_a, newO_o, newA_o, newO_t, newA_t, newA_n, cpQ_k, cpQ_a, ts_opp_k, eW] <;> first | assumption | omega | exact x1 j (by omega) (by omega))) (kX8_meet _ _ _ _ _ _ (by simp (disch := decide) only [ts_opp_k]; exact x1 j (by omega) (by omega)) (by omega) (by omega) (by rw [eW (by omega)]; omega) (by rw [eW (by omega)]; omega) (by rw [eW (by omega)]; omega) (by rw [eW (by omega)]; omega) (by omega)) (by decide) (by simp [rv_cat, int_cat]) (by first | decide | exact Nat.zero_le _ | omega) (by first | decide | exact Nat.zero_le _ | omega) (fun w_70 hp_70 => ?_) (fun E w_ hx_ => hx_.elim)
              subst w_70
              refine X_iinc 76 hO dX9_meetOpposite_73 rfl rfl ?_
              refine X_goto hO dX9_meetOpposite_76 (tgt := 3) rfl ?_
              refine X_wk (by simp only [lwk, lset, true_or, or_true, and_self]) (X_eqW (w2 := ts_opp (fun i => w 3 (w 37 T 0) i) q k p n w (j + 1).toNat) ?_ (ih (j + 1) (by omega) (by omega)))
              rw [← ts_opp_s (x := (fun i => w 3 (w 37 T 0) i)) (by omega)]
              show _ = ts_p1 (w 3 (w 37 T 0) j) _ _ _ _ _
              unfold ts_p1
              rw [eW (by omega), eW (by omega), eW (by omega)]
              first
              | (rw [if_neg (by omega)]; done)
              | (rw [if_pos (by omega), if_pos (by omega)]; done)
              | (rw [if_pos (by omega), if_neg (by omega)]; done)
            ·
              refine X_aload 43 hO dX9_meetOpposite_41 rfl rfl ?_
              refine gX9_91 46 hO dX9_meetOpposite_43 rfl (by first | assumption | omega | (simp (disch := first | decide | assumption | omega) only [up_k, up_s, up_a, up_i, flA_k, flA_a, flA_n, cpA_k, cpA_a, newO_o, newA_o, newO_t, newA_t, newA_n, cpQ_k, cpQ_a, ts_opp_k, eW] <;> first | assumption | omega | exact x1 j (by omega) (by omega))) (fun hi_43 => ?_)
              try simp (disch := first | decide | assumption | omega) only [up_k, up_s, up_a, up_i, flA_k, flA_a, flA_n, cpA_k, cpA_a, newO_o, newA_o, newO_t, newA_t, newA_n, cpQ_k, cpQ_a, ts_opp_k, eW] at hi_43 ⊢
              refine X_iload_n 47 hO dX9_meetOpposite_46 rfl rfl ?_
              refine X_ishr 48 hO dX9_meetOpposite_47 rfl ((bt_i hBj.2.2 (by omega)).2.2.1) ?_
              refine X_iconst 49 hO dX9_meetOpposite_48 rfl ?_
              refine X_iand 50 hO dX9_meetOpposite_49 rfl ((bt_i hBj.2.2 (by omega)).2.2.2.1) ?_
              refine X_iconst 51 hO dX9_meetOpposite_50 rfl ?_
              refine X_icmp_ne 54 73 hO dX9_meetOpposite_51 rfl rfl (by omega) (by omega) (fun hc_51 => ?_) (fun hc_51 => ?_)
              ·
                refine X_iinc 76 hO dX9_meetOpposite_73 rfl rfl ?_
                refine X_goto hO dX9_meetOpposite_76 (tgt := 3) rfl ?_
                refine X_wk (by simp only [lwk, lset, true_or, or_true, and_self]) (X_eqW (w2 := ts_opp (fun i => w 3 (w 37 T 0) i) q k p n w (j + 1).toNat) ?_ (ih (j + 1) (by omega) (by omega)))
                rw [← ts_opp_s (x := (fun i => w 3 (w 37 T 0) i)) (by omega)]
                show _ = ts_p1 (w 3 (w 37 T 0) j) _ _ _ _ _
                unfold ts_p1
                rw [eW (by omega), eW (by omega), eW (by omega)]
                first
                | (rw [if_neg (by omega)]; done)
                | (rw [if_pos (by omega), if_pos (by omega)]; done)
                | (rw [if_pos (by omega), if_neg (by omega)]; done)
              ·
                refine X_aload 56 hO dX9_meetOpposite_54 rfl rfl ?_
                refine X_iload 58 hO dX9_meetOpposite_56 rfl rfl ?_
                refine X_kVv (t := 9) 61 hO hD lX9_135 rfl (by decide) [_] rfl dX9_meetOpposite_58 rfl (by first | assumption | omega | (simp (disch := first | decide | assumption | omega) only [up_k, up_s, up_a, up_i, flA_k, flA_a, flA_n, cpA_k, cpA_a, newO_o, newA_o, newO_t, newA_t, newA_n, cpQ_k, cpQ_a, ts_opp_k, eW] <;> first | assumption | omega | exact x1 j (by omega) (by omega))) (kX8_shift _ _ _ _ (by simp (disch := decide) only [ts_opp_k]; exact x1 j (by omega) (by omega)) (by rw [eW (by omega)]; omega) (by rw [eW (by omega)]; omega)) (by decide) (by simp [rv_cat, int_cat]) (by first | decide | exact Nat.zero_le _ | omega) (by first | decide | exact Nat.zero_le _ | omega) (fun w_58 hp_58 => ?_) (fun E w_ hx_ => hx_.elim)
                subst w_58
                refine X_goto hO dX9_meetOpposite_61 (tgt := 73) rfl ?_
                refine X_iinc 76 hO dX9_meetOpposite_73 rfl rfl ?_
                refine X_goto hO dX9_meetOpposite_76 (tgt := 3) rfl ?_
                refine X_wk (by simp only [lwk, lset, true_or, or_true, and_self]) (X_eqW (w2 := ts_opp (fun i => w 3 (w 37 T 0) i) q k p n w (j + 1).toNat) ?_ (ih (j + 1) (by omega) (by omega)))
                rw [← ts_opp_s (x := (fun i => w 3 (w 37 T 0) i)) (by omega)]
                show _ = ts_p1 (w 3 (w 37 T 0) j) _ _ _ _ _
                unfold ts_p1
                rw [eW (by omega), eW (by omega), eW (by omega)]
                first
                | (rw [if_neg (by omega)]; done)
                | (rw [if_pos (by omega), if_pos (by omega)]; done)
                | (rw [if_pos (by omega), if_neg (by omega)]; done)
  exact X_wk (by simp only [lwk, lset, true_or, or_true, and_self]) (LP3 _ 0 (Nat.lt_succ_self _) (by omega))
