/-! what is asked of a node -/
set_option maxRecDepth 4000 in
theorem kX12_parentOf9 (γ : LC) (w : Mm) (f n : Int) (t0 : w 0 f 0 = 13) (hT : TRt w (w 45 f 0)) (hN : nodeOf w f n ≠ 0 → NDt w (nodeOf w f n)) (hn : IR n) : KI γ 8 mX12_parentOf [rv f, .int (I n)] w (1) (6) (fun r w' => nodeOf w f n ≠ 0 ∧ r = nb w (w 26 (nodeOf w f n) 0) ∧ w' = w) (fun E w' => E = "java/lang/IndexOutOfBoundsException" ∧ nodeOf w f n = 0 ∧ w' = w) := by
  refine MX_of rfl rfl (by simp [rv_cat, int_cat]) rfl ?_
  rintro κ hO hF rfl
  have hD := hF.dp
  show X κ (1) (6) w 0 [some (rv f), some (.int (I n))] []
  refine X_aload_n 1 hO dX12_parentOf_0 rfl rfl ?_
  refine X_iload_n 2 hO dX12_parentOf_1 rfl rfl ?_
  refine X_kVr (t := 13) 5 hO hD lX12_215 rfl (by decide) [_] rfl dX12_parentOf_2 rfl (by first | assumption | omega | (simp (disch := first | decide | assumption | omega) only [up_k, up_s, up_a, up_i, flA_k, flA_a, flA_n, cpA_k, cpA_a, newO_o, newA_o, newO_t, newA_t, newA_n, cpQ_k, cpQ_a] <;> first | assumption | omega)) (kX12_requireNode _ _ _ _ t0 hT hn) (by decide) (by simp [rv_cat, int_cat]) (by first | decide | exact Nat.zero_le _ | omega) (by first | decide | exact Nat.zero_le _ | omega) (fun r_2 w_2 hp_2 => ?_) (fun E w_ hx_ => (XE_out hO hF (by obtain ⟨g1, g2, g3⟩ := hx_; exact ⟨g1, g2, g3⟩)))
  obtain ⟨e0_2, e1_2, e2_2⟩ := hp_2
  subst w_2
  replace e1_2 : r_2 = nodeOf w f n := e1_2
  subst r_2
  have hn5 := (nodeOf_t hT e0_2).1
  have hn6 := (nodeOf_t hT e0_2).2
  obtain ⟨hs, hz, hE, hq8, hpp⟩ := hN e0_2
  have hs0 := hs.1
  obtain ⟨z1, z2, z3⟩ := id hz
  refine gX12_204 8 hO dX12_parentOf_5 rfl (by first | assumption | omega | (simp (disch := first | decide | assumption | omega) only [up_k, up_s, up_a, up_i, flA_k, flA_a, flA_n, cpA_k, cpA_a, newO_o, newA_o, newO_t, newA_t, newA_n, cpQ_k, cpQ_a] <;> first | assumption | omega)) ?_
  try simp (disch := first | decide | assumption | omega) only [up_k, up_s, up_a, up_i, flA_k, flA_a, flA_n, cpA_k, cpA_a, newO_o, newA_o, newO_t, newA_t, newA_n, cpQ_k, cpQ_a]
  refine X_kSi 11 hO hD lX12_301 [_] rfl dX12_parentOf_8 rfl (kX12_numberOf _ _ _ (by assumption)) (by decide) (by simp [rv_cat, int_cat]) (by first | decide | exact Nat.zero_le _ | omega) (by first | decide | exact Nat.zero_le _ | omega) (fun r_8 w_8 hr_8 hp_8 => ?_) (fun E w_ hx_ => hx_.elim)
  obtain ⟨e1_8, e2_8⟩ := hp_8
  subst w_8
  exact X_iret hO hF rfl (by first | exact Or.inl rfl | exact Or.inr ⟨rfl, bi_01 _⟩ | exact Or.inr ⟨rfl, by omega⟩) dX12_parentOf_11 ⟨_, rfl, (by omega), ⟨e0_2, e1_8, rfl⟩⟩
set_option maxRecDepth 4000 in
theorem kX12_stepsOf9 (γ : LC) (w : Mm) (f n : Int) (t0 : w 0 f 0 = 13) (hT : TRt w (w 45 f 0)) (hN : nodeOf w f n ≠ 0 → NDt w (nodeOf w f n)) (hn : IR n) : KI γ 8 mX12_stepsOf [rv f, .int (I n)] w (1) (6) (fun r w' => nodeOf w f n ≠ 0 ∧ r = w 71 (w 25 (nodeOf w f n) 0) 0 ∧ w' = w) (fun E w' => E = "java/lang/IndexOutOfBoundsException" ∧ nodeOf w f n = 0 ∧ w' = w) := by
  refine MX_of rfl rfl (by simp [rv_cat, int_cat]) rfl ?_
  rintro κ hO hF rfl
  have hD := hF.dp
  show X κ (1) (6) w 0 [some (rv f), some (.int (I n))] []
  refine X_aload_n 1 hO dX12_stepsOf_0 rfl rfl ?_
  refine X_iload_n 2 hO dX12_stepsOf_1 rfl rfl ?_
  refine X_kVr (t := 13) 5 hO hD lX12_215 rfl (by decide) [_] rfl dX12_stepsOf_2 rfl (by first | assumption | omega | (simp (disch := first | decide | assumption | omega) only [up_k, up_s, up_a, up_i, flA_k, flA_a, flA_n, cpA_k, cpA_a, newO_o, newA_o, newO_t, newA_t, newA_n, cpQ_k, cpQ_a] <;> first | assumption | omega)) (kX12_requireNode _ _ _ _ t0 hT hn) (by decide) (by simp [rv_cat, int_cat]) (by first | decide | exact Nat.zero_le _ | omega) (by first | decide | exact Nat.zero_le _ | omega) (fun r_2 w_2 hp_2 => ?_) (fun E w_ hx_ => (XE_out hO hF (by obtain ⟨g1, g2, g3⟩ := hx_; exact ⟨g1, g2, g3⟩)))
  obtain ⟨e0_2, e1_2, e2_2⟩ := hp_2
  subst w_2
  replace e1_2 : r_2 = nodeOf w f n := e1_2
  subst r_2
  have hn5 := (nodeOf_t hT e0_2).1
  have hn6 := (nodeOf_t hT e0_2).2
  obtain ⟨hs, hz, hE, hq8, hpp⟩ := hN e0_2
  have hs0 := hs.1
  obtain ⟨z1, z2, z3⟩ := id hz
  refine gX12_102 8 hO dX12_stepsOf_5 rfl (by first | assumption | omega | (simp (disch := first | decide | assumption | omega) only [up_k, up_s, up_a, up_i, flA_k, flA_a, flA_n, cpA_k, cpA_a, newO_o, newA_o, newO_t, newA_t, newA_n, cpQ_k, cpQ_a] <;> first | assumption | omega)) ?_
  try simp (disch := first | decide | assumption | omega) only [up_k, up_s, up_a, up_i, flA_k, flA_a, flA_n, cpA_k, cpA_a, newO_o, newA_o, newO_t, newA_t, newA_n, cpQ_k, cpQ_a]
  refine gX12_108 11 hO dX12_stepsOf_8 rfl (by first | assumption | omega | (simp (disch := first | decide | assumption | omega) only [up_k, up_s, up_a, up_i, flA_k, flA_a, flA_n, cpA_k, cpA_a, newO_o, newA_o, newO_t, newA_t, newA_n, cpQ_k, cpQ_a] <;> first | assumption | omega)) (fun hi_8 => ?_)
  try simp (disch := first | decide | assumption | omega) only [up_k, up_s, up_a, up_i, flA_k, flA_a, flA_n, cpA_k, cpA_a, newO_o, newA_o, newO_t, newA_t, newA_n, cpQ_k, cpQ_a] at hi_8 ⊢
  exact X_iret hO hF rfl (by first | exact Or.inl rfl | exact Or.inr ⟨rfl, bi_01 _⟩ | exact Or.inr ⟨rfl, by omega⟩) dX12_stepsOf_11 ⟨_, rfl, (by omega), ⟨e0_2, rfl, rfl⟩⟩
set_option maxRecDepth 4000 in
theorem kX12_lengthByReplay9 (γ : LC) (w : Mm) (f n : Int) (t0 : w 0 f 0 = 13) (hT : TRt w (w 45 f 0)) (hN : nodeOf w f n ≠ 0 → NDt w (nodeOf w f n)) (hn : IR n) : KI γ 8 mX12_lengthByReplay [rv f, .int (I n)] w (1) (6) (fun r w' => nodeOf w f n ≠ 0 ∧ r = w 67 (w 24 (nodeOf w f n) 0) 0 ∧ w' = w) (fun E w' => E = "java/lang/IndexOutOfBoundsException" ∧ nodeOf w f n = 0 ∧ w' = w) := by
  refine MX_of rfl rfl (by simp [rv_cat, int_cat]) rfl ?_
  rintro κ hO hF rfl
  have hD := hF.dp
  show X κ (1) (6) w 0 [some (rv f), some (.int (I n))] []
  refine X_aload_n 1 hO dX12_lengthByReplay_0 rfl rfl ?_
  refine X_iload_n 2 hO dX12_lengthByReplay_1 rfl rfl ?_
  refine X_kVr (t := 13) 5 hO hD lX12_215 rfl (by decide) [_] rfl dX12_lengthByReplay_2 rfl (by first | assumption | omega | (simp (disch := first | decide | assumption | omega) only [up_k, up_s, up_a, up_i, flA_k, flA_a, flA_n, cpA_k, cpA_a, newO_o, newA_o, newO_t, newA_t, newA_n, cpQ_k, cpQ_a] <;> first | assumption | omega)) (kX12_requireNode _ _ _ _ t0 hT hn) (by decide) (by simp [rv_cat, int_cat]) (by first | decide | exact Nat.zero_le _ | omega) (by first | decide | exact Nat.zero_le _ | omega) (fun r_2 w_2 hp_2 => ?_) (fun E w_ hx_ => (XE_out hO hF (by obtain ⟨g1, g2, g3⟩ := hx_; exact ⟨g1, g2, g3⟩)))
  obtain ⟨e0_2, e1_2, e2_2⟩ := hp_2
  subst w_2
  replace e1_2 : r_2 = nodeOf w f n := e1_2
  subst r_2
  have hn5 := (nodeOf_t hT e0_2).1
  have hn6 := (nodeOf_t hT e0_2).2
  obtain ⟨hs, hz, hE, hq8, hpp⟩ := hN e0_2
  have hs0 := hs.1
  obtain ⟨z1, z2, z3⟩ := id hz
  refine gX12_308 8 hO dX12_lengthByReplay_5 rfl (by first | assumption | omega | (simp (disch := first | decide | assumption | omega) only [up_k, up_s, up_a, up_i, flA_k, flA_a, flA_n, cpA_k, cpA_a, newO_o, newA_o, newO_t, newA_t, newA_n, cpQ_k, cpQ_a] <;> first | assumption | omega)) ?_
  try simp (disch := first | decide | assumption | omega) only [up_k, up_s, up_a, up_i, flA_k, flA_a, flA_n, cpA_k, cpA_a, newO_o, newA_o, newO_t, newA_t, newA_n, cpQ_k, cpQ_a]
  refine gX12_227 11 hO dX12_lengthByReplay_8 rfl (by first | assumption | omega | (simp (disch := first | decide | assumption | omega) only [up_k, up_s, up_a, up_i, flA_k, flA_a, flA_n, cpA_k, cpA_a, newO_o, newA_o, newO_t, newA_t, newA_n, cpQ_k, cpQ_a] <;> first | assumption | omega)) (fun hi_8 => ?_)
  try simp (disch := first | decide | assumption | omega) only [up_k, up_s, up_a, up_i, flA_k, flA_a, flA_n, cpA_k, cpA_a, newO_o, newA_o, newO_t, newA_t, newA_n, cpQ_k, cpQ_a] at hi_8 ⊢
  exact X_iret hO hF rfl (by first | exact Or.inl rfl | exact Or.inr ⟨rfl, bi_01 _⟩ | exact Or.inr ⟨rfl, by omega⟩) dX12_lengthByReplay_11 ⟨_, rfl, (by omega), ⟨e0_2, rfl, rfl⟩⟩
set_option maxRecDepth 4000 in
theorem kX12_charByReplay9 (γ : LC) (w : Mm) (f n i : Int) (t0 : w 0 f 0 = 13) (hT : TRt w (w 45 f 0)) (hN : nodeOf w f n ≠ 0 → NDt w (nodeOf w f n)) (hn : IR n) (hi : IR i) : KI γ 8 mX12_charByReplay [rv f, .int (I n), .int (I i)] w (2) (12) (fun r w' => (nodeOf w f n ≠ 0 ∧ 0 ≤ i ∧ i < w 67 (w 24 (nodeOf w f n) 0) 0) ∧ r = w 1 (w 28 (w 24 (nodeOf w f n) 0) 0) i ∧ w' = w) (fun E w' => E = "java/lang/IndexOutOfBoundsException" ∧ ¬ (nodeOf w f n ≠ 0 ∧ 0 ≤ i ∧ i < w 67 (w 24 (nodeOf w f n) 0) 0) ∧ w' = w) := by
  refine MX_of rfl rfl (by simp [rv_cat, int_cat]) rfl ?_
  rintro κ hO hF rfl
  have hD := hF.dp
  show X κ (2) (12) w 0 [some (rv f), some (.int (I n)), some (.int (I i)), none] []
  refine X_aload_n 1 hO dX12_charByReplay_0 rfl rfl ?_
  refine X_iload_n 2 hO dX12_charByReplay_1 rfl rfl ?_
  refine X_kVr (t := 13) 5 hO hD lX12_215 rfl (by decide) [_] rfl dX12_charByReplay_2 rfl (by first | assumption | omega | (simp (disch := first | decide | assumption | omega) only [up_k, up_s, up_a, up_i, flA_k, flA_a, flA_n, cpA_k, cpA_a, newO_o, newA_o, newO_t, newA_t, newA_n, cpQ_k, cpQ_a] <;> first | assumption | omega)) (kX12_requireNode _ _ _ _ t0 hT hn) (by decide) (by simp [rv_cat, int_cat]) (by first | decide | exact Nat.zero_le _ | omega) (by first | decide | exact Nat.zero_le _ | omega) (fun r_2 w_2 hp_2 => ?_) (fun E w_ hx_ => (XE_out hO hF (by obtain ⟨g1, g2, g3⟩ := hx_; exact ⟨g1, fun h => h.1 g2, g3⟩)))
  obtain ⟨e0_2, e1_2, e2_2⟩ := hp_2
  subst w_2
  replace e1_2 : r_2 = nodeOf w f n := e1_2
  subst r_2
  have hn5 := (nodeOf_t hT e0_2).1
  have hn6 := (nodeOf_t hT e0_2).2
  obtain ⟨hs, hz, hE, hq8, hpp⟩ := hN e0_2
  have hs0 := hs.1
  obtain ⟨z1, z2, z3⟩ := id hz
  refine gX12_308 8 hO dX12_charByReplay_5 rfl (by first | assumption | omega | (simp (disch := first | decide | assumption | omega) only [up_k, up_s, up_a, up_i, flA_k, flA_a, flA_n, cpA_k, cpA_a, newO_o, newA_o, newO_t, newA_t, newA_n, cpQ_k, cpQ_a] <;> first | assumption | omega)) ?_
  try simp (disch := first | decide | assumption | omega) only [up_k, up_s, up_a, up_i, flA_k, flA_a, flA_n, cpA_k, cpA_a, newO_o, newA_o, newO_t, newA_t, newA_n, cpQ_k, cpQ_a]
  refine X_astore_n 9 hO dX12_charByReplay_8 rfl rfl ?_
  refine X_iload_n 10 hO dX12_charByReplay_9 rfl rfl ?_
  refine X_aload_n 11 hO dX12_charByReplay_10 rfl rfl ?_
  refine gX12_227 14 hO dX12_charByReplay_11 rfl (by first | assumption | omega | (simp (disch := first | decide | assumption | omega) only [up_k, up_s, up_a, up_i, flA_k, flA_a, flA_n, cpA_k, cpA_a, newO_o, newA_o, newO_t, newA_t, newA_n, cpQ_k, cpQ_a] <;> first | assumption | omega)) (fun hi_11 => ?_)
  try simp (disch := first | decide | assumption | omega) only [up_k, up_s, up_a, up_i, flA_k, flA_a, flA_n, cpA_k, cpA_a, newO_o, newA_o, newO_t, newA_t, newA_n, cpQ_k, cpQ_a] at hi_11 ⊢
  refine X_kSv 17 hO hD lX12_132 [_, _] rfl dX12_charByReplay_14 rfl (kX12_requireIndex _ _ (i) (w 67 (w 24 (nodeOf w f n) 0) 0) (by omega) (by omega)) (by decide) (by simp [rv_cat, int_cat]) (by first | decide | exact Nat.zero_le _ | omega) (by first | decide | exact Nat.zero_le _ | omega) (fun w_14 hp_14 => ?_) (fun E w_ hx_ => (XE_out hO hF (by obtain ⟨g1, g2, g3⟩ := hx_; exact ⟨g1, fun h => g2 h.2, g3⟩)))
  obtain ⟨e1_14, e2_14⟩ := hp_14
  subst w_14
  obtain ⟨s0, ⟨s1, s2, s3, s4⟩, ⟨s5, s6, s7⟩, s8⟩ := id hs
  refine X_aload_n 18 hO dX12_charByReplay_17 rfl rfl ?_
  refine gX12_267 21 hO dX12_charByReplay_18 rfl (by first | assumption | omega | (simp (disch := first | decide | assumption | omega) only [up_k, up_s, up_a, up_i, flA_k, flA_a, flA_n, cpA_k, cpA_a, newO_o, newA_o, newO_t, newA_t, newA_n, cpQ_k, cpQ_a] <;> first | assumption | omega)) ?_
  try simp (disch := first | decide | assumption | omega) only [up_k, up_s, up_a, up_i, flA_k, flA_a, flA_n, cpA_k, cpA_a, newO_o, newA_o, newO_t, newA_t, newA_n, cpQ_k, cpQ_a]
  refine X_iload_n 22 hO dX12_charByReplay_21 rfl rfl ?_
  refine X_iald 23 hO dX12_charByReplay_22 rfl (by first | assumption | omega | (simp (disch := first | decide | assumption | omega) only [up_k, up_s, up_a, up_i, flA_k, flA_a, flA_n, cpA_k, cpA_a, newO_o, newA_o, newO_t, newA_t, newA_n, cpQ_k, cpQ_a] <;> first | assumption | omega)) (by first | assumption | omega | (simp (disch := first | decide | assumption | omega) only [up_k, up_s, up_a, up_i, flA_k, flA_a, flA_n, cpA_k, cpA_a, newO_o, newA_o, newO_t, newA_t, newA_n, cpQ_k, cpQ_a] <;> first | assumption | omega)) (fun hi_22 => ?_)
  try simp (disch := first | decide | assumption | omega) only [up_k, up_s, up_a, up_i, flA_k, flA_a, flA_n, cpA_k, cpA_a, newO_o, newA_o, newO_t, newA_t, newA_n, cpQ_k, cpQ_a] at hi_22 ⊢
  exact X_iret hO hF rfl (by first | exact Or.inl rfl | exact Or.inr ⟨rfl, bi_01 _⟩ | exact Or.inr ⟨rfl, by omega⟩) dX12_charByReplay_23 ⟨_, rfl, (by omega), ⟨⟨e0_2, e1_14⟩, rfl, rfl⟩⟩
set_option maxRecDepth 4000 in
theorem kX12_markByReplay9 (γ : LC) (w : Mm) (f n i : Int) (t0 : w 0 f 0 = 13) (hT : TRt w (w 45 f 0)) (hN : nodeOf w f n ≠ 0 → NDt w (nodeOf w f n)) (hn : IR n) (hi : IR i) : KI γ 8 mX12_markByReplay [rv f, .int (I n), .int (I i)] w (2) (12) (fun r w' => (nodeOf w f n ≠ 0 ∧ 0 ≤ i ∧ i < 6) ∧ r = w 1 (w 29 (w 24 (nodeOf w f n) 0) 0) i ∧ w' = w) (fun E w' => E = "java/lang/IndexOutOfBoundsException" ∧ ¬ (nodeOf w f n ≠ 0 ∧ 0 ≤ i ∧ i < 6) ∧ w' = w) := by
  refine MX_of rfl rfl (by simp [rv_cat, int_cat]) rfl ?_
  rintro κ hO hF rfl
  have hD := hF.dp
  show X κ (2) (12) w 0 [some (rv f), some (.int (I n)), some (.int (I i)), none] []
  refine X_aload_n 1 hO dX12_markByReplay_0 rfl rfl ?_
  refine X_iload_n 2 hO dX12_markByReplay_1 rfl rfl ?_
  refine X_kVr (t := 13) 5 hO hD lX12_215 rfl (by decide) [_] rfl dX12_markByReplay_2 rfl (by first | assumption | omega | (simp (disch := first | decide | assumption | omega) only [up_k, up_s, up_a, up_i, flA_k, flA_a, flA_n, cpA_k, cpA_a, newO_o, newA_o, newO_t, newA_t, newA_n, cpQ_k, cpQ_a] <;> first | assumption | omega)) (kX12_requireNode _ _ _ _ t0 hT hn) (by decide) (by simp [rv_cat, int_cat]) (by first | decide | exact Nat.zero_le _ | omega) (by first | decide | exact Nat.zero_le _ | omega) (fun r_2 w_2 hp_2 => ?_) (fun E w_ hx_ => (XE_out hO hF (by obtain ⟨g1, g2, g3⟩ := hx_; exact ⟨g1, fun h => h.1 g2, g3⟩)))
  obtain ⟨e0_2, e1_2, e2_2⟩ := hp_2
  subst w_2
  replace e1_2 : r_2 = nodeOf w f n := e1_2
  subst r_2
  have hn5 := (nodeOf_t hT e0_2).1
  have hn6 := (nodeOf_t hT e0_2).2
  obtain ⟨hs, hz, hE, hq8, hpp⟩ := hN e0_2
  have hs0 := hs.1
  obtain ⟨z1, z2, z3⟩ := id hz
  refine gX12_308 8 hO dX12_markByReplay_5 rfl (by first | assumption | omega | (simp (disch := first | decide | assumption | omega) only [up_k, up_s, up_a, up_i, flA_k, flA_a, flA_n, cpA_k, cpA_a, newO_o, newA_o, newO_t, newA_t, newA_n, cpQ_k, cpQ_a] <;> first | assumption | omega)) ?_
  try simp (disch := first | decide | assumption | omega) only [up_k, up_s, up_a, up_i, flA_k, flA_a, flA_n, cpA_k, cpA_a, newO_o, newA_o, newO_t, newA_t, newA_n, cpQ_k, cpQ_a]
  refine X_astore_n 9 hO dX12_markByReplay_8 rfl rfl ?_
  refine X_iload_n 10 hO dX12_markByReplay_9 rfl rfl ?_
  refine X_bipush 12 hO dX12_markByReplay_10 rfl (by decide) ?_
  refine X_kSv 15 hO hD lX12_132 [_, _] rfl dX12_markByReplay_12 rfl (kX12_requireIndex _ _ (i) (6) (by omega) (by omega)) (by decide) (by simp [rv_cat, int_cat]) (by first | decide | exact Nat.zero_le _ | omega) (by first | decide | exact Nat.zero_le _ | omega) (fun w_12 hp_12 => ?_) (fun E w_ hx_ => (XE_out hO hF (by obtain ⟨g1, g2, g3⟩ := hx_; exact ⟨g1, fun h => g2 h.2, g3⟩)))
  obtain ⟨e1_12, e2_12⟩ := hp_12
  subst w_12
  obtain ⟨s0, ⟨s1, s2, s3, s4⟩, ⟨s5, s6, s7⟩, s8⟩ := id hs
  refine X_aload_n 16 hO dX12_markByReplay_15 rfl rfl ?_
  refine gX12_284 19 hO dX12_markByReplay_16 rfl (by first | assumption | omega | (simp (disch := first | decide | assumption | omega) only [up_k, up_s, up_a, up_i, flA_k, flA_a, flA_n, cpA_k, cpA_a, newO_o, newA_o, newO_t, newA_t, newA_n, cpQ_k, cpQ_a] <;> first | assumption | omega)) ?_
  try simp (disch := first | decide | assumption | omega) only [up_k, up_s, up_a, up_i, flA_k, flA_a, flA_n, cpA_k, cpA_a, newO_o, newA_o, newO_t, newA_t, newA_n, cpQ_k, cpQ_a]
  refine X_iload_n 20 hO dX12_markByReplay_19 rfl rfl ?_
  refine X_iald 21 hO dX12_markByReplay_20 rfl (by first | assumption | omega | (simp (disch := first | decide | assumption | omega) only [up_k, up_s, up_a, up_i, flA_k, flA_a, flA_n, cpA_k, cpA_a, newO_o, newA_o, newO_t, newA_t, newA_n, cpQ_k, cpQ_a] <;> first | assumption | omega)) (by first | assumption | omega | (simp (disch := first | decide | assumption | omega) only [up_k, up_s, up_a, up_i, flA_k, flA_a, flA_n, cpA_k, cpA_a, newO_o, newA_o, newO_t, newA_t, newA_n, cpQ_k, cpQ_a] <;> first | assumption | omega)) (fun hi_20 => ?_)
  try simp (disch := first | decide | assumption | omega) only [up_k, up_s, up_a, up_i, flA_k, flA_a, flA_n, cpA_k, cpA_a, newO_o, newA_o, newO_t, newA_t, newA_n, cpQ_k, cpQ_a] at hi_20 ⊢
  exact X_iret hO hF rfl (by first | exact Or.inl rfl | exact Or.inr ⟨rfl, bi_01 _⟩ | exact Or.inr ⟨rfl, by omega⟩) dX12_markByReplay_21 ⟨_, rfl, (by omega), ⟨⟨e0_2, e1_12⟩, rfl, rfl⟩⟩
