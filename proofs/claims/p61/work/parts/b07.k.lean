/-! entries of stores -/
set_option maxRecDepth 4000 in
theorem kX12_requireEntry9 (γ : LC) (w : Mm) (f q e : Int) (hF0 : FBt w f) (hs : ST w (w 11 (w 41 f 0) 0)) (hC : 0 ≤ q → q < 5 → ∀ e, 0 ≤ e ∧ e < m_ecn w (w 11 (w 41 f 0) 0) q → (0 ≤ q + e ∧ q + e < 8) ∧ w 0 (w 3 (w 31 (w 11 (w 41 f 0) 0) 0) (q + e)) 0 = 1 ∧ w 0 (w 10 (w 3 (w 31 (w 11 (w 41 f 0) 0) 0) (q + e)) 0) 0 = 20 ∧ 0 ≤ w 2 (w 10 (w 3 (w 31 (w 11 (w 41 f 0) 0) 0) (q + e)) 0) 0 ∧ w 2 (w 10 (w 3 (w 31 (w 11 (w 41 f 0) 0) 0) (q + e)) 0) 0 ≤ 100000) (hq : IR q) (he : IR e) : KR γ 7 mX12_requireEntry [rv f, .int (I q), .int (I e)] w (2) (12) (fun r w' => (0 ≤ q ∧ q < 5 ∧ 0 ≤ e ∧ e < m_ecn w (w 11 (w 41 f 0) 0) q) ∧ r = w 3 (w 31 (w 11 (w 41 f 0) 0) 0) (q + e) ∧ w' = w) (fun E w' => E = "java/lang/IndexOutOfBoundsException" ∧ ¬ (0 ≤ q ∧ q < 5 ∧ 0 ≤ e ∧ e < m_ecn w (w 11 (w 41 f 0) 0) q) ∧ w' = w) := by
  refine MX_of rfl rfl (by simp [rv_cat, int_cat]) rfl ?_
  rintro κ hO hF rfl
  have hD := hF.dp
  show X κ (2) (12) w 0 [some (rv f), some (.int (I q)), some (.int (I e))] []
  obtain ⟨t0, t1, t2, t3⟩ := id hF0
  refine X_iload_n 1 hO dX12_requireEntry_0 rfl rfl ?_
  refine X_iconst 2 hO dX12_requireEntry_1 rfl ?_
  refine X_kSv 5 hO hD lX12_132 [_, _] rfl dX12_requireEntry_2 rfl (kX12_requireIndex _ _ (q) (5) (by omega) (by omega)) (by decide) (by simp [rv_cat, int_cat]) (by first | decide | exact Nat.zero_le _ | omega) (by first | decide | exact Nat.zero_le _ | omega) (fun w_2 hp_2 => ?_) (fun E w_ hx_ => (XE_out hO hF (by obtain ⟨g1, g2, g3⟩ := hx_; exact ⟨g1, fun h => g2 ⟨h.1, h.2.1⟩, g3⟩)))
  obtain ⟨e1_2, e2_2⟩ := hp_2
  subst w_2
  refine X_iload_n 6 hO dX12_requireEntry_5 rfl rfl ?_
  refine X_aload_n 7 hO dX12_requireEntry_6 rfl rfl ?_
  refine gX12_10 10 hO dX12_requireEntry_7 rfl (by first | assumption | omega | (simp (disch := first | decide | assumption | omega) only [up_k, up_s, up_a, up_i, flA_k, flA_a, flA_n, cpA_k, cpA_a, newO_o, newA_o, newO_t, newA_t, newA_n, cpQ_k, cpQ_a] <;> first | assumption | omega)) ?_
  try simp (disch := first | decide | assumption | omega) only [up_k, up_s, up_a, up_i, flA_k, flA_a, flA_n, cpA_k, cpA_a, newO_o, newA_o, newO_t, newA_t, newA_n, cpQ_k, cpQ_a]
  refine gX12_223 13 hO dX12_requireEntry_10 rfl (by first | assumption | omega | (simp (disch := first | decide | assumption | omega) only [up_k, up_s, up_a, up_i, flA_k, flA_a, flA_n, cpA_k, cpA_a, newO_o, newA_o, newO_t, newA_t, newA_n, cpQ_k, cpQ_a] <;> first | assumption | omega)) ?_
  try simp (disch := first | decide | assumption | omega) only [up_k, up_s, up_a, up_i, flA_k, flA_a, flA_n, cpA_k, cpA_a, newO_o, newA_o, newO_t, newA_t, newA_n, cpQ_k, cpQ_a]
  refine X_iload_n 14 hO dX12_requireEntry_13 rfl rfl ?_
  refine X_kVi (t := 6) 17 hO hD lX12_309 rfl (by decide) [_] rfl dX12_requireEntry_14 rfl (by first | assumption | omega | (simp (disch := first | decide | assumption | omega) only [up_k, up_s, up_a, up_i, flA_k, flA_a, flA_n, cpA_k, cpA_a, newO_o, newA_o, newO_t, newA_t, newA_n, cpQ_k, cpQ_a] <;> first | assumption | omega)) (kX5_entryCount _ _ _ _ hs (by omega)) (by decide) (by simp [rv_cat, int_cat]) (by first | decide | exact Nat.zero_le _ | omega) (by first | decide | exact Nat.zero_le _ | omega) (fun r_14 w_14 hr_14 hp_14 => ?_) (fun E w_ hx_ => hx_.elim)
  obtain ⟨e1_14, e2_14⟩ := hp_14
  subst r_14
  subst w_14
  refine X_kSv 20 hO hD lX12_132 [_, _] rfl dX12_requireEntry_17 rfl (kX12_requireIndex _ _ (e) (m_ecn w (w 11 (w 41 f 0) 0) q) (by omega) (by omega)) (by decide) (by simp [rv_cat, int_cat]) (by first | decide | exact Nat.zero_le _ | omega) (by first | decide | exact Nat.zero_le _ | omega) (fun w_17 hp_17 => ?_) (fun E w_ hx_ => (XE_out hO hF (by obtain ⟨g1, g2, g3⟩ := hx_; exact ⟨g1, fun h => g2 h.2.2, g3⟩)))
  obtain ⟨e1_17, e2_17⟩ := hp_17
  subst w_17
  have hmt := hC e1_2.1 e1_2.2 e e1_17
  obtain ⟨m1, m2, m3, m4⟩ := hmt
  refine X_aload_n 21 hO dX12_requireEntry_20 rfl rfl ?_
  refine gX12_10 24 hO dX12_requireEntry_21 rfl (by first | assumption | omega | (simp (disch := first | decide | assumption | omega) only [up_k, up_s, up_a, up_i, flA_k, flA_a, flA_n, cpA_k, cpA_a, newO_o, newA_o, newO_t, newA_t, newA_n, cpQ_k, cpQ_a] <;> first | assumption | omega)) ?_
  try simp (disch := first | decide | assumption | omega) only [up_k, up_s, up_a, up_i, flA_k, flA_a, flA_n, cpA_k, cpA_a, newO_o, newA_o, newO_t, newA_t, newA_n, cpQ_k, cpQ_a]
  refine gX12_223 27 hO dX12_requireEntry_24 rfl (by first | assumption | omega | (simp (disch := first | decide | assumption | omega) only [up_k, up_s, up_a, up_i, flA_k, flA_a, flA_n, cpA_k, cpA_a, newO_o, newA_o, newO_t, newA_t, newA_n, cpQ_k, cpQ_a] <;> first | assumption | omega)) ?_
  try simp (disch := first | decide | assumption | omega) only [up_k, up_s, up_a, up_i, flA_k, flA_a, flA_n, cpA_k, cpA_a, newO_o, newA_o, newO_t, newA_t, newA_n, cpQ_k, cpQ_a]
  refine X_iload_n 28 hO dX12_requireEntry_27 rfl rfl ?_
  refine X_iload_n 29 hO dX12_requireEntry_28 rfl rfl ?_
  refine X_kVr (t := 6) 32 hO hD lX12_312 rfl (by decide) [_, _] rfl dX12_requireEntry_29 rfl (by first | assumption | omega | (simp (disch := first | decide | assumption | omega) only [up_k, up_s, up_a, up_i, flA_k, flA_a, flA_n, cpA_k, cpA_a, newO_o, newA_o, newO_t, newA_t, newA_n, cpQ_k, cpQ_a] <;> first | assumption | omega)) (kX5_entry _ _ _ _ _ hs (by omega)) (by decide) (by simp [rv_cat, int_cat]) (by first | decide | exact Nat.zero_le _ | omega) (by first | decide | exact Nat.zero_le _ | omega) (fun r_29 w_29 hp_29 => ?_) (fun E w_ hx_ => hx_.elim)
  obtain ⟨e1_29, e2_29⟩ := hp_29
  subst w_29
  subst r_29
  exact X_aret hO hF rfl (by first | exact Or.inl ⟨_, rfl⟩ | exact Or.inr ⟨_, rfl⟩) dX12_requireEntry_32 ⟨_, rfl, ⟨⟨e1_2.1, e1_2.2, e1_17⟩, rfl, rfl⟩⟩
set_option maxRecDepth 4000 in
theorem kX12_entryLength9 (γ : LC) (w : Mm) (f q e : Int) (hF0 : FBt w f) (hs : ST w (w 11 (w 41 f 0) 0)) (hC : 0 ≤ q → q < 5 → ∀ e, 0 ≤ e ∧ e < m_ecn w (w 11 (w 41 f 0) 0) q → (0 ≤ q + e ∧ q + e < 8) ∧ w 0 (w 3 (w 31 (w 11 (w 41 f 0) 0) 0) (q + e)) 0 = 1 ∧ w 0 (w 10 (w 3 (w 31 (w 11 (w 41 f 0) 0) 0) (q + e)) 0) 0 = 20 ∧ 0 ≤ w 2 (w 10 (w 3 (w 31 (w 11 (w 41 f 0) 0) 0) (q + e)) 0) 0 ∧ w 2 (w 10 (w 3 (w 31 (w 11 (w 41 f 0) 0) 0) (q + e)) 0) 0 ≤ 100000) (hq : IR q) (he : IR e) : KI γ 8 mX12_entryLength [rv f, .int (I q), .int (I e)] w (2) (12) (fun r w' => (0 ≤ q ∧ q < 5 ∧ 0 ≤ e ∧ e < m_ecn w (w 11 (w 41 f 0) 0) q) ∧ r = w 2 (w 10 (w 3 (w 31 (w 11 (w 41 f 0) 0) 0) (q + e)) 0) 0 ∧ w' = w) (fun E w' => E = "java/lang/IndexOutOfBoundsException" ∧ ¬ (0 ≤ q ∧ q < 5 ∧ 0 ≤ e ∧ e < m_ecn w (w 11 (w 41 f 0) 0) q) ∧ w' = w) := by
  refine MX_of rfl rfl (by simp [rv_cat, int_cat]) rfl ?_
  rintro κ hO hF rfl
  have hD := hF.dp
  show X κ (2) (12) w 0 [some (rv f), some (.int (I q)), some (.int (I e))] []
  obtain ⟨t0, t1, t2, t3⟩ := id hF0
  refine X_aload_n 1 hO dX12_entryLength_0 rfl rfl ?_
  refine X_iload_n 2 hO dX12_entryLength_1 rfl rfl ?_
  refine X_iload_n 3 hO dX12_entryLength_2 rfl rfl ?_
  refine X_kVr (t := 13) 6 hO hD lX12_321 rfl (by decide) [_, _] rfl dX12_entryLength_3 rfl (by first | assumption | omega | (simp (disch := first | decide | assumption | omega) only [up_k, up_s, up_a, up_i, flA_k, flA_a, flA_n, cpA_k, cpA_a, newO_o, newA_o, newO_t, newA_t, newA_n, cpQ_k, cpQ_a] <;> first | assumption | omega)) (kX12_requireEntry9 _ _ _ _ _ hF0 hs hC hq he) (by decide) (by simp [rv_cat, int_cat]) (by first | decide | exact Nat.zero_le _ | omega) (by first | decide | exact Nat.zero_le _ | omega) (fun r_3 w_3 hp_3 => ?_) (fun E w_ hx_ => (XE_out hO hF (by obtain ⟨g1, g2, g3⟩ := hx_; exact ⟨g1, g2, g3⟩)))
  obtain ⟨e0_3, e1_3, e2_3⟩ := hp_3
  subst w_3
  subst r_3
  obtain ⟨m1, m2, m3, m4, m5⟩ := hC e0_3.1 e0_3.2.1 e e0_3.2.2
  refine gX12_316 9 hO dX12_entryLength_6 rfl (by first | assumption | omega | (simp (disch := first | decide | assumption | omega) only [up_k, up_s, up_a, up_i, flA_k, flA_a, flA_n, cpA_k, cpA_a, newO_o, newA_o, newO_t, newA_t, newA_n, cpQ_k, cpQ_a] <;> first | assumption | omega)) ?_
  try simp (disch := first | decide | assumption | omega) only [up_k, up_s, up_a, up_i, flA_k, flA_a, flA_n, cpA_k, cpA_a, newO_o, newA_o, newO_t, newA_t, newA_n, cpQ_k, cpQ_a]
  refine X_alen (t := 20) 10 hO (by first | assumption | omega | (simp (disch := first | decide | assumption | omega) only [up_k, up_s, up_a, up_i, flA_k, flA_a, flA_n, cpA_k, cpA_a, newO_o, newA_o, newO_t, newA_t, newA_n, cpQ_k, cpQ_a] <;> first | assumption | omega)) (by decide) dX12_entryLength_9 rfl (by first | assumption | omega | (simp (disch := first | decide | assumption | omega) only [up_k, up_s, up_a, up_i, flA_k, flA_a, flA_n, cpA_k, cpA_a, newO_o, newA_o, newO_t, newA_t, newA_n, cpQ_k, cpQ_a] <;> first | assumption | omega)) (fun hi_9 => ?_)
  try simp (disch := first | decide | assumption | omega) only [up_k, up_s, up_a, up_i, flA_k, flA_a, flA_n, cpA_k, cpA_a, newO_o, newA_o, newO_t, newA_t, newA_n, cpQ_k, cpQ_a] at hi_9 ⊢
  exact X_iret hO hF rfl (by first | exact Or.inl rfl | exact Or.inr ⟨rfl, bi_01 _⟩ | exact Or.inr ⟨rfl, by omega⟩) dX12_entryLength_10 ⟨_, rfl, (by omega), ⟨e0_3, rfl, rfl⟩⟩
theorem dX12_storedByReplay_0 : decode cX12_storedByReplay 0 = .ok (.aload_n 0, 1) := by decide +kernel
theorem dX12_storedByReplay_1 : decode cX12_storedByReplay 1 = .ok (.iload_n 1, 1) := by decide +kernel
theorem dX12_storedByReplay_2 : decode cX12_storedByReplay 2 = .ok (.invokevirtual 215, 3) := by decide +kernel
theorem dX12_storedByReplay_5 : decode cX12_storedByReplay 5 = .ok (.getfield 308, 3) := by decide +kernel
theorem dX12_storedByReplay_8 : decode cX12_storedByReplay 8 = .ok (.astore_n 3, 1) := by decide +kernel
theorem dX12_storedByReplay_9 : decode cX12_storedByReplay 9 = .ok (.iload_n 2, 1) := by decide +kernel
theorem dX12_storedByReplay_10 : decode cX12_storedByReplay 10 = .ok (.iconst 5, 1) := by decide +kernel
theorem dX12_storedByReplay_11 : decode cX12_storedByReplay 11 = .ok (.invokestatic 132, 3) := by decide +kernel
theorem dX12_storedByReplay_14 : decode cX12_storedByReplay 14 = .ok (.iconst 0, 1) := by decide +kernel
theorem dX12_storedByReplay_15 : decode cX12_storedByReplay 15 = .ok (.istore 4, 2) := by decide +kernel
theorem dX12_storedByReplay_17 : decode cX12_storedByReplay 17 = .ok (.iconst 0, 1) := by decide +kernel
theorem dX12_storedByReplay_18 : decode cX12_storedByReplay 18 = .ok (.istore 5, 2) := by decide +kernel
theorem dX12_storedByReplay_20 : decode cX12_storedByReplay 20 = .ok (.iload 5, 2) := by decide +kernel
theorem dX12_storedByReplay_22 : decode cX12_storedByReplay 22 = .ok (.aload_n 3, 1) := by decide +kernel
theorem dX12_storedByReplay_23 : decode cX12_storedByReplay 23 = .ok (.iload_n 2, 1) := by decide +kernel
theorem dX12_storedByReplay_24 : decode cX12_storedByReplay 24 = .ok (.invokevirtual 309, 3) := by decide +kernel
theorem dX12_storedByReplay_27 : decode cX12_storedByReplay 27 = .ok (.if_icmp .ge 25, 3) := by decide +kernel
theorem dX12_storedByReplay_30 : decode cX12_storedByReplay 30 = .ok (.iload 4, 2) := by decide +kernel
theorem dX12_storedByReplay_32 : decode cX12_storedByReplay 32 = .ok (.aload_n 3, 1) := by decide +kernel
theorem dX12_storedByReplay_33 : decode cX12_storedByReplay 33 = .ok (.iload_n 2, 1) := by decide +kernel
theorem dX12_storedByReplay_34 : decode cX12_storedByReplay 34 = .ok (.iload 5, 2) := by decide +kernel
theorem dX12_storedByReplay_36 : decode cX12_storedByReplay 36 = .ok (.invokevirtual 312, 3) := by decide +kernel
theorem dX12_storedByReplay_39 : decode cX12_storedByReplay 39 = .ok (.getfield 316, 3) := by decide +kernel
theorem dX12_storedByReplay_42 : decode cX12_storedByReplay 42 = .ok (.arraylength, 1) := by decide +kernel
theorem dX12_storedByReplay_43 : decode cX12_storedByReplay 43 = .ok (.iadd, 1) := by decide +kernel
theorem dX12_storedByReplay_44 : decode cX12_storedByReplay 44 = .ok (.istore 4, 2) := by decide +kernel
theorem dX12_storedByReplay_46 : decode cX12_storedByReplay 46 = .ok (.iinc 5 1, 3) := by decide +kernel
theorem dX12_storedByReplay_49 : decode cX12_storedByReplay 49 = .ok (.goto (-29), 3) := by decide +kernel
theorem dX12_storedByReplay_52 : decode cX12_storedByReplay 52 = .ok (.iload 4, 2) := by decide +kernel
theorem dX12_storedByReplay_54 : decode cX12_storedByReplay 54 = .ok (.ireturn, 1) := by decide +kernel
set_option maxRecDepth 4000 in
theorem kX12_storedByReplay (γ : LC) (w : Mm) (f n q : Int) (t0 : w 0 f 0 = 13) (hT : TRt w (w 45 f 0)) (hN : nodeOf w f n ≠ 0 → NDt w (nodeOf w f n)) (hn : IR n) (hC : nodeOf w f n ≠ 0 → (0 ≤ q → q < 5 → ∀ e, 0 ≤ e ∧ e < m_ecn w (w 24 (nodeOf w f n) 0) q → (0 ≤ q + e ∧ q + e < 8) ∧ w 0 (w 3 (w 31 (w 24 (nodeOf w f n) 0) 0) (q + e)) 0 = 1 ∧ w 0 (w 10 (w 3 (w 31 (w 24 (nodeOf w f n) 0) 0) (q + e)) 0) 0 = 20 ∧ 0 ≤ w 2 (w 10 (w 3 (w 31 (w 24 (nodeOf w f n) 0) 0) (q + e)) 0) 0 ∧ w 2 (w 10 (w 3 (w 31 (w 24 (nodeOf w f n) 0) 0) (q + e)) 0) 0 ≤ 100000)) (hq : IR q) : KI γ 8 mX12_storedByReplay [rv f, .int (I n), .int (I q)] w (2) (12) (fun r w' => (nodeOf w f n ≠ 0 ∧ 0 ≤ q ∧ q < 5) ∧ r = sumN (fun e => w 2 (w 10 (w 3 (w 31 (w 24 (nodeOf w f n) 0) 0) (q + e)) 0) 0) (m_ecn w (w 24 (nodeOf w f n) 0) q).toNat ∧ w' = w) (fun E w' => E = "java/lang/IndexOutOfBoundsException" ∧ ¬ (nodeOf w f n ≠ 0 ∧ 0 ≤ q ∧ q < 5) ∧ w' = w) := by
  refine MX_of rfl rfl (by simp [rv_cat, int_cat]) rfl ?_
  rintro κ hO hF rfl
  have hD := hF.dp
  show X κ (2) (12) w 0 [some (rv f), some (.int (I n)), some (.int (I q)), none, none, none] []
  refine X_aload_n 1 hO dX12_storedByReplay_0 rfl rfl ?_
  refine X_iload_n 2 hO dX12_storedByReplay_1 rfl rfl ?_
  refine X_kVr (t := 13) 5 hO hD lX12_215 rfl (by decide) [_] rfl dX12_storedByReplay_2 rfl (by first | assumption | omega | (simp (disch := first | decide | assumption | omega) only [up_k, up_s, up_a, up_i, flA_k, flA_a, flA_n, cpA_k, cpA_a, newO_o, newA_o, newO_t, newA_t, newA_n, cpQ_k, cpQ_a] <;> first | assumption | omega)) (kX12_requireNode _ _ _ _ t0 hT hn) (by decide) (by simp [rv_cat, int_cat]) (by first | decide | exact Nat.zero_le _ | omega) (by first | decide | exact Nat.zero_le _ | omega) (fun r_2 w_2 hp_2 => ?_) (fun E w_ hx_ => (XE_out hO hF (by obtain ⟨g1, g2, g3⟩ := hx_; exact ⟨g1, fun h => h.1 g2, g3⟩)))
  obtain ⟨e0_2, e1_2, e2_2⟩ := hp_2
  subst w_2
  replace e1_2 : r_2 = nodeOf w f n := e1_2
  subst r_2
  have hn5 := (nodeOf_t hT e0_2).1
  have hn6 := (nodeOf_t hT e0_2).2
  obtain ⟨hs, hz, hE, hq8, hpp⟩ := hN e0_2
  have hs0 := hs.1
  obtain ⟨z1, z2, z3⟩ := id hz
  refine gX12_308 8 hO dX12_storedByReplay_5 rfl (by first | assumption | omega | (simp (disch := first | decide | assumption | omega) only [up_k, up_s, up_a, up_i, flA_k, flA_a, flA_n, cpA_k, cpA_a, newO_o, newA_o, newO_t, newA_t, newA_n, cpQ_k, cpQ_a] <;> first | assumption | omega)) ?_
  try simp (disch := first | decide | assumption | omega) only [up_k, up_s, up_a, up_i, flA_k, flA_a, flA_n, cpA_k, cpA_a, newO_o, newA_o, newO_t, newA_t, newA_n, cpQ_k, cpQ_a]
  refine X_astore_n 9 hO dX12_storedByReplay_8 rfl rfl ?_
  refine X_iload_n 10 hO dX12_storedByReplay_9 rfl rfl ?_
  refine X_iconst 11 hO dX12_storedByReplay_10 rfl ?_
  refine X_kSv 14 hO hD lX12_132 [_, _] rfl dX12_storedByReplay_11 rfl (kX12_requireIndex _ _ (q) (5) (by omega) (by omega)) (by decide) (by simp [rv_cat, int_cat]) (by first | decide | exact Nat.zero_le _ | omega) (by first | decide | exact Nat.zero_le _ | omega) (fun w_11 hp_11 => ?_) (fun E w_ hx_ => (XE_out hO hF (by obtain ⟨g1, g2, g3⟩ := hx_; exact ⟨g1, fun h => g2 h.2, g3⟩)))
  obtain ⟨e1_11, e2_11⟩ := hp_11
  subst w_11
  have hb9 := m_ecn_b w (w 24 (nodeOf w f n) 0) q
  have hm4 : 0 ≤ m_slt q ∧ m_slt q ≤ 4 := by unfold m_slt; split <;> omega
  refine X_iconst 15 hO dX12_storedByReplay_14 rfl ?_
  refine X_istore 17 hO dX12_storedByReplay_15 rfl rfl ?_
  refine X_iconst 18 hO dX12_storedByReplay_17 rfl ?_
  refine X_istore 20 hO dX12_storedByReplay_18 rfl rfl ?_
  have LP20 : ∀ (nn : Nat) (i a : Int), (m_ecn w (w 24 (nodeOf w f n) 0) q - i).toNat < nn → (0 ≤ i ∧ i ≤ m_ecn w (w 24 (nodeOf w f n) 0) q) → (0 ≤ a ∧ a ≤ 100000 * i) → (a = sumN (fun e => w 2 (w 10 (w 3 (w 31 (w 24 (nodeOf w f n) 0) 0) (q + e)) 0) 0) i.toNat) → X κ 0 0 (w) 20 [some (rv f), some (.int (I n)), some (.int (I q)), some (rv (w 24 (nodeOf w f n) 0)), some (.int (I a)), some (.int (I i))] [] := by
    intro nn
    induction nn with
    | zero => intro i a hm; exact absurd hm (Nat.not_lt_zero _)
    | succ nn ih =>
      intro i a hm hi ha hE2
      refine X_iload 22 hO dX12_storedByReplay_20 rfl rfl ?_
      refine X_aload_n 23 hO dX12_storedByReplay_22 rfl rfl ?_
      refine X_iload_n 24 hO dX12_storedByReplay_23 rfl rfl ?_
      refine X_kVi (t := 6) 27 hO hD lX12_309 rfl (by decide) [_] rfl dX12_storedByReplay_24 rfl (by first | assumption | omega | (simp (disch := first | decide | assumption | omega) only [up_k, up_s, up_a, up_i, flA_k, flA_a, flA_n, cpA_k, cpA_a, newO_o, newA_o, newO_t, newA_t, newA_n, cpQ_k, cpQ_a] <;> first | assumption | omega)) (kX5_entryCount _ _ _ _ hs (by omega)) (by decide) (by simp [rv_cat, int_cat]) (by first | decide | exact Nat.zero_le _ | omega) (by first | decide | exact Nat.zero_le _ | omega) (fun r_24 w_24 hr_24 hp_24 => ?_) (fun E w_ hx_ => hx_.elim)
      obtain ⟨e1_24, e2_24⟩ := hp_24
      subst w_24
      subst r_24
      refine X_icmp_ge 30 52 hO dX12_storedByReplay_27 rfl rfl (by omega) (by omega) (fun hc_27 => ?_) (fun hc_27 => ?_)
      ·
        refine X_iload 54 hO dX12_storedByReplay_52 rfl rfl ?_
        exact X_iret hO hF rfl (by first | exact Or.inl rfl | exact Or.inr ⟨rfl, bi_01 _⟩ | exact Or.inr ⟨rfl, by omega⟩) dX12_storedByReplay_54 ⟨_, rfl, (by omega), ⟨⟨e0_2, e1_11⟩, by rw [hE2, show i = m_ecn w (w 24 (nodeOf w f n) 0) q by omega], rfl⟩⟩
      ·
        obtain ⟨m1, m2, m3, m4, m5⟩ := hC e0_2 e1_11.1 e1_11.2 i ⟨hi.1, by omega⟩
        refine X_iload 32 hO dX12_storedByReplay_30 rfl rfl ?_
        refine X_aload_n 33 hO dX12_storedByReplay_32 rfl rfl ?_
        refine X_iload_n 34 hO dX12_storedByReplay_33 rfl rfl ?_
        refine X_iload 36 hO dX12_storedByReplay_34 rfl rfl ?_
        refine X_kVr (t := 6) 39 hO hD lX12_312 rfl (by decide) [_, _] rfl dX12_storedByReplay_36 rfl (by first | assumption | omega | (simp (disch := first | decide | assumption | omega) only [up_k, up_s, up_a, up_i, flA_k, flA_a, flA_n, cpA_k, cpA_a, newO_o, newA_o, newO_t, newA_t, newA_n, cpQ_k, cpQ_a] <;> first | assumption | omega)) (kX5_entry _ _ _ _ _ hs (by omega)) (by decide) (by simp [rv_cat, int_cat]) (by first | decide | exact Nat.zero_le _ | omega) (by first | decide | exact Nat.zero_le _ | omega) (fun r_36 w_36 hp_36 => ?_) (fun E w_ hx_ => hx_.elim)
        obtain ⟨e1_36, e2_36⟩ := hp_36
        subst w_36
        subst r_36
        refine gX12_316 42 hO dX12_storedByReplay_39 rfl (by first | assumption | omega | (simp (disch := first | decide | assumption | omega) only [up_k, up_s, up_a, up_i, flA_k, flA_a, flA_n, cpA_k, cpA_a, newO_o, newA_o, newO_t, newA_t, newA_n, cpQ_k, cpQ_a] <;> first | assumption | omega)) ?_
        try simp (disch := first | decide | assumption | omega) only [up_k, up_s, up_a, up_i, flA_k, flA_a, flA_n, cpA_k, cpA_a, newO_o, newA_o, newO_t, newA_t, newA_n, cpQ_k, cpQ_a]
        refine X_alen (t := 20) 43 hO (by first | assumption | omega | (simp (disch := first | decide | assumption | omega) only [up_k, up_s, up_a, up_i, flA_k, flA_a, flA_n, cpA_k, cpA_a, newO_o, newA_o, newO_t, newA_t, newA_n, cpQ_k, cpQ_a] <;> first | assumption | omega)) (by decide) dX12_storedByReplay_42 rfl (by first | assumption | omega | (simp (disch := first | decide | assumption | omega) only [up_k, up_s, up_a, up_i, flA_k, flA_a, flA_n, cpA_k, cpA_a, newO_o, newA_o, newO_t, newA_t, newA_n, cpQ_k, cpQ_a] <;> first | assumption | omega)) (fun hi_42 => ?_)
        try simp (disch := first | decide | assumption | omega) only [up_k, up_s, up_a, up_i, flA_k, flA_a, flA_n, cpA_k, cpA_a, newO_o, newA_o, newO_t, newA_t, newA_n, cpQ_k, cpQ_a] at hi_42 ⊢
        refine X_iadd 44 hO dX12_storedByReplay_43 rfl ?_
        refine X_istore 46 hO dX12_storedByReplay_44 rfl rfl ?_
        refine X_iinc 49 hO dX12_storedByReplay_46 rfl rfl ?_
        refine X_goto hO dX12_storedByReplay_49 (tgt := 20) rfl ?_
        have hsum : sumN (fun e => w 2 (w 10 (w 3 (w 31 (w 24 (nodeOf w f n) 0) 0) (q + e)) 0) 0) (i + 1).toNat = sumN (fun e => w 2 (w 10 (w 3 (w 31 (w 24 (nodeOf w f n) 0) 0) (q + e)) 0) 0) i.toNat + w 2 (w 10 (w 3 (w 31 (w 24 (nodeOf w f n) 0) 0) (q + i)) 0) 0 := by
          rw [show (i + 1).toNat = i.toNat + 1 by omega]
          show sumN _ i.toNat + w 2 (w 10 (w 3 (w 31 (w 24 (nodeOf w f n) 0) 0) (q + (i.toNat : Int))) 0) 0 = _
          rw [show ((i.toNat : Nat) : Int) = i by omega]
        exact ih (i + 1) _ (by omega) (by omega) (by omega) (by rw [hsum]; omega)
  exact X_mono (Nat.zero_le _) (Nat.zero_le _) (LP20 _ 0 0 (Nat.lt_succ_self _) (by omega) (by omega) rfl)
