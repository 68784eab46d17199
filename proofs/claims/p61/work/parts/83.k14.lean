/-! more answers -/
def CHt (w : Mm) : Prop := ∀ c, w 0 c 0 = 1 → w 0 (w 10 c 0) 0 = 20 ∧ 0 ≤ w 2 (w 10 c 0) 0 ∧ w 2 (w 10 c 0) 0 ≤ 100000
theorem m_ecn_nz {w : Mm} {s r e : Int} (hr : 0 ≤ r) (he : 0 ≤ e ∧ e < m_ecn w s r) : w 3 (w 31 s 0) (r + e) ≠ 0 := by
  have hb := m_ecn_b w s r
  unfold m_ecn at he
  rcases fnd_spec (fun i => w 3 (w 31 s 0) i) 0 (m_slt r).toNat r with ⟨h, h2⟩ | ⟨h, h2, h3, h4⟩
  · rw [if_pos h] at he; exact h2 (r + e) (by omega) (by omega)
  · by_cases c : fnd (fun i => w 3 (w 31 s 0) i) 0 (m_slt r).toNat r = -1
    · rw [if_pos c] at he
      rcases fnd_spec (fun i => w 3 (w 31 s 0) i) 0 (m_slt r).toNat r with ⟨g, g2⟩ | ⟨g, g2, g3, g4⟩
      · exact g2 (r + e) (by omega) (by omega)
      · exact g4 (r + e) (by omega) (by omega)
    · rw [if_neg c] at he
      exact h4 (r + e) (by omega) (by omega)
theorem m_ecn_t {w : Mm} {s r e : Int} (hE : SE w s) (hC : CHt w) (hr : 0 ≤ r ∧ r ≤ 4) (he : 0 ≤ e ∧ e < m_ecn w s r) :
    (0 ≤ r + e ∧ r + e < 8) ∧ w 0 (w 3 (w 31 s 0) (r + e)) 0 = 1 ∧ w 0 (w 10 (w 3 (w 31 s 0) (r + e)) 0) 0 = 20 ∧ 0 ≤ w 2 (w 10 (w 3 (w 31 s 0) (r + e)) 0) 0 ∧ w 2 (w 10 (w 3 (w 31 s 0) (r + e)) 0) 0 ≤ 100000 := by
  have hb := m_ecn_b w s r
  have hsl : m_slt r + r ≤ 8 := by unfold m_slt; split <;> omega
  have h8 : 0 ≤ r + e ∧ r + e < 8 := by omega
  have h1 := (hE (r + e) h8.1 h8.2).resolve_left (m_ecn_nz hr.1 he)
  exact ⟨h8, h1, hC _ h1⟩
def l_st (w : Mm) (s : Int) : Nat → Int
  | 0 => 0
  | k + 1 => fnd (fun i => w 1 (w 28 s 0) i) 10 (w 67 s 0 - l_st w s k).toNat (l_st w s k) + 1
theorem l_st_b {w : Mm} {s : Int} (hz : SZ w s) : ∀ k : Nat, 0 ≤ l_st w s k ∧ l_st w s k ≤ w 67 s 0
  | 0 => ⟨Int.le_refl _, hz.1⟩
  | k + 1 => by
    have h := l_st_b hz k
    simp only [l_st]
    rcases fnd_spec (fun i => w 1 (w 28 s 0) i) 10 (w 67 s 0 - l_st w s k).toNat (l_st w s k) with ⟨g, -⟩ | ⟨g, g2, -, -⟩
    · rw [g]; have := hz.1; omega
    · omega
theorem dX12_charByReplay_0 : decode cX12_charByReplay 0 = .ok (.aload_n 0, 1) := by decide +kernel
theorem dX12_charByReplay_1 : decode cX12_charByReplay 1 = .ok (.iload_n 1, 1) := by decide +kernel
theorem dX12_charByReplay_2 : decode cX12_charByReplay 2 = .ok (.invokevirtual 215, 3) := by decide +kernel
theorem dX12_charByReplay_5 : decode cX12_charByReplay 5 = .ok (.getfield 308, 3) := by decide +kernel
theorem dX12_charByReplay_8 : decode cX12_charByReplay 8 = .ok (.astore_n 3, 1) := by decide +kernel
theorem dX12_charByReplay_9 : decode cX12_charByReplay 9 = .ok (.iload_n 2, 1) := by decide +kernel
theorem dX12_charByReplay_10 : decode cX12_charByReplay 10 = .ok (.aload_n 3, 1) := by decide +kernel
theorem dX12_charByReplay_11 : decode cX12_charByReplay 11 = .ok (.getfield 227, 3) := by decide +kernel
theorem dX12_charByReplay_14 : decode cX12_charByReplay 14 = .ok (.invokestatic 132, 3) := by decide +kernel
theorem dX12_charByReplay_17 : decode cX12_charByReplay 17 = .ok (.aload_n 3, 1) := by decide +kernel
theorem dX12_charByReplay_18 : decode cX12_charByReplay 18 = .ok (.getfield 267, 3) := by decide +kernel
theorem dX12_charByReplay_21 : decode cX12_charByReplay 21 = .ok (.iload_n 2, 1) := by decide +kernel
theorem dX12_charByReplay_22 : decode cX12_charByReplay 22 = .ok (.iaload, 1) := by decide +kernel
theorem dX12_charByReplay_23 : decode cX12_charByReplay 23 = .ok (.ireturn, 1) := by decide +kernel
set_option maxRecDepth 4000 in
theorem kX12_charByReplay (γ : LC) (w : Mm) (f n i : Int) (t0 : w 0 f 0 = 13) (hT : TRt w (w 45 f 0)) (hN : ∀ x, w 0 x 0 = 5 → NDt w x) (hn : IR n) (hi : IR i) : KI γ 8 mX12_charByReplay [rv f, .int (I n), .int (I i)] w (2) (12) (fun r w' => (nodeOf w f n ≠ 0 ∧ 0 ≤ i ∧ i < w 67 (w 24 (nodeOf w f n) 0) 0) ∧ r = w 1 (w 28 (w 24 (nodeOf w f n) 0) 0) i ∧ w' = w) (fun E w' => E = "java/lang/IndexOutOfBoundsException" ∧ (¬ (nodeOf w f n ≠ 0 ∧ 0 ≤ i ∧ i < w 67 (w 24 (nodeOf w f n) 0) 0)) ∧ w' = w) := by
  refine MX_of rfl rfl (by simp [rv_cat, int_cat]) rfl ?_
  rintro κ hO hF rfl
  have hD := hF.dp
  show X κ (2) (12) w 0 [some (rv f), some (.int (I n)), some (.int (I i)), none] []
  refine X_aload_n 1 hO dX12_charByReplay_0 rfl rfl ?_
  refine X_iload_n 2 hO dX12_charByReplay_1 rfl rfl ?_
  refine X_kVr (t := 13) 5 hO hD lX12_215 rfl (by decide) [_] rfl dX12_charByReplay_2 rfl (by first | assumption | omega | (simp (disch := first | decide | assumption | omega) only [up_k, up_s, up_a, up_i, flA_k, flA_a, flA_n, cpA_k, cpA_a, newO_o, newA_o, newO_t, newA_t, newA_n] <;> first | assumption | omega)) (kX12_requireNode _ _ _ _ t0 hT hn) (by decide) (by simp [rv_cat, int_cat]) (by first | decide | exact Nat.zero_le _ | omega) (by first | decide | exact Nat.zero_le _ | omega) (fun r_2 w_2 hp_2 => ?_) (fun E w_ hx_ => (XE_out hO hF (by obtain ⟨g1, g2, g3⟩ := hx_; exact ⟨g1, fun h => h.1 g2, g3⟩)))
  obtain ⟨e0_2, e1_2, e2_2⟩ := hp_2
  subst w_2
  replace e1_2 : r_2 = nodeOf w f n := e1_2
  subst r_2
  have hn5 := (nodeOf_t hT e0_2).1
  have hn6 := (nodeOf_t hT e0_2).2
  obtain ⟨hs, hz, hE, hq8, hpp⟩ := hN _ hn5
  have hs0 := hs.1
  obtain ⟨z1, z2, z3⟩ := id hz
  refine gX12_308 8 hO dX12_charByReplay_5 rfl (by first | assumption | omega | (simp (disch := first | decide | assumption | omega) only [up_k, up_s, up_a, up_i, flA_k, flA_a, flA_n, cpA_k, cpA_a, newO_o, newA_o, newO_t, newA_t, newA_n] <;> first | assumption | omega)) ?_
  try simp (disch := first | decide | assumption | omega) only [up_k, up_s, up_a, up_i, flA_k, flA_a, flA_n, cpA_k, cpA_a, newO_o, newA_o, newO_t, newA_t, newA_n]
  refine X_astore_n 9 hO dX12_charByReplay_8 rfl rfl ?_
  refine X_iload_n 10 hO dX12_charByReplay_9 rfl rfl ?_
  refine X_aload_n 11 hO dX12_charByReplay_10 rfl rfl ?_
  refine gX12_227 14 hO dX12_charByReplay_11 rfl (by first | assumption | omega | (simp (disch := first | decide | assumption | omega) only [up_k, up_s, up_a, up_i, flA_k, flA_a, flA_n, cpA_k, cpA_a, newO_o, newA_o, newO_t, newA_t, newA_n] <;> first | assumption | omega)) (fun hi_11 => ?_)
  try simp (disch := first | decide | assumption | omega) only [up_k, up_s, up_a, up_i, flA_k, flA_a, flA_n, cpA_k, cpA_a, newO_o, newA_o, newO_t, newA_t, newA_n] at hi_11 ⊢
  refine X_kSv 17 hO hD lX12_132 [_, _] rfl dX12_charByReplay_14 rfl (kX12_requireIndex _ _ (i) (w 67 (w 24 (nodeOf w f n) 0) 0) (by omega) (by omega)) (by decide) (by simp [rv_cat, int_cat]) (by first | decide | exact Nat.zero_le _ | omega) (by first | decide | exact Nat.zero_le _ | omega) (fun w_14 hp_14 => ?_) (fun E w_ hx_ => (XE_out hO hF (by obtain ⟨g1, g2, g3⟩ := hx_; exact ⟨g1, fun h => g2 h.2, g3⟩)))
  obtain ⟨e1_14, e2_14⟩ := hp_14
  subst w_14
  obtain ⟨s0, ⟨s1, s2, s3, s4⟩, ⟨s5, s6, s7⟩, s8⟩ := id hs
  refine X_aload_n 18 hO dX12_charByReplay_17 rfl rfl ?_
  refine gX12_267 21 hO dX12_charByReplay_18 rfl (by first | assumption | omega | (simp (disch := first | decide | assumption | omega) only [up_k, up_s, up_a, up_i, flA_k, flA_a, flA_n, cpA_k, cpA_a, newO_o, newA_o, newO_t, newA_t, newA_n] <;> first | assumption | omega)) ?_
  try simp (disch := first | decide | assumption | omega) only [up_k, up_s, up_a, up_i, flA_k, flA_a, flA_n, cpA_k, cpA_a, newO_o, newA_o, newO_t, newA_t, newA_n]
  refine X_iload_n 22 hO dX12_charByReplay_21 rfl rfl ?_
  refine X_iald 23 hO dX12_charByReplay_22 rfl (by first | assumption | omega | (simp (disch := first | decide | assumption | omega) only [up_k, up_s, up_a, up_i, flA_k, flA_a, flA_n, cpA_k, cpA_a, newO_o, newA_o, newO_t, newA_t, newA_n] <;> first | assumption | omega)) (by first | assumption | omega | (simp (disch := first | decide | assumption | omega) only [up_k, up_s, up_a, up_i, flA_k, flA_a, flA_n, cpA_k, cpA_a, newO_o, newA_o, newO_t, newA_t, newA_n] <;> first | assumption | omega)) (fun hi_22 => ?_)
  try simp (disch := first | decide | assumption | omega) only [up_k, up_s, up_a, up_i, flA_k, flA_a, flA_n, cpA_k, cpA_a, newO_o, newA_o, newO_t, newA_t, newA_n] at hi_22 ⊢
  exact X_iret hO hF rfl (by first | exact Or.inl rfl | exact Or.inr ⟨rfl, bi_01 _⟩ | exact Or.inr ⟨rfl, by omega⟩) dX12_charByReplay_23 ⟨_, rfl, (by omega), ⟨⟨e0_2, e1_14⟩, rfl, rfl⟩⟩
theorem dX12_markByReplay_0 : decode cX12_markByReplay 0 = .ok (.aload_n 0, 1) := by decide +kernel
theorem dX12_markByReplay_1 : decode cX12_markByReplay 1 = .ok (.iload_n 1, 1) := by decide +kernel
theorem dX12_markByReplay_2 : decode cX12_markByReplay 2 = .ok (.invokevirtual 215, 3) := by decide +kernel
theorem dX12_markByReplay_5 : decode cX12_markByReplay 5 = .ok (.getfield 308, 3) := by decide +kernel
theorem dX12_markByReplay_8 : decode cX12_markByReplay 8 = .ok (.astore_n 3, 1) := by decide +kernel
theorem dX12_markByReplay_9 : decode cX12_markByReplay 9 = .ok (.iload_n 2, 1) := by decide +kernel
theorem dX12_markByReplay_10 : decode cX12_markByReplay 10 = .ok (.bipush 6, 2) := by decide +kernel
theorem dX12_markByReplay_12 : decode cX12_markByReplay 12 = .ok (.invokestatic 132, 3) := by decide +kernel
theorem dX12_markByReplay_15 : decode cX12_markByReplay 15 = .ok (.aload_n 3, 1) := by decide +kernel
theorem dX12_markByReplay_16 : decode cX12_markByReplay 16 = .ok (.getfield 284, 3) := by decide +kernel
theorem dX12_markByReplay_19 : decode cX12_markByReplay 19 = .ok (.iload_n 2, 1) := by decide +kernel
theorem dX12_markByReplay_20 : decode cX12_markByReplay 20 = .ok (.iaload, 1) := by decide +kernel
theorem dX12_markByReplay_21 : decode cX12_markByReplay 21 = .ok (.ireturn, 1) := by decide +kernel
set_option maxRecDepth 4000 in
theorem kX12_markByReplay (γ : LC) (w : Mm) (f n i : Int) (t0 : w 0 f 0 = 13) (hT : TRt w (w 45 f 0)) (hN : ∀ x, w 0 x 0 = 5 → NDt w x) (hn : IR n) (hi : IR i) : KI γ 8 mX12_markByReplay [rv f, .int (I n), .int (I i)] w (2) (12) (fun r w' => (nodeOf w f n ≠ 0 ∧ 0 ≤ i ∧ i < 6) ∧ r = w 1 (w 29 (w 24 (nodeOf w f n) 0) 0) i ∧ w' = w) (fun E w' => E = "java/lang/IndexOutOfBoundsException" ∧ (¬ (nodeOf w f n ≠ 0 ∧ 0 ≤ i ∧ i < 6)) ∧ w' = w) := by
  refine MX_of rfl rfl (by simp [rv_cat, int_cat]) rfl ?_
  rintro κ hO hF rfl
  have hD := hF.dp
  show X κ (2) (12) w 0 [some (rv f), some (.int (I n)), some (.int (I i)), none] []
  refine X_aload_n 1 hO dX12_markByReplay_0 rfl rfl ?_
  refine X_iload_n 2 hO dX12_markByReplay_1 rfl rfl ?_
  refine X_kVr (t := 13) 5 hO hD lX12_215 rfl (by decide) [_] rfl dX12_markByReplay_2 rfl (by first | assumption | omega | (simp (disch := first | decide | assumption | omega) only [up_k, up_s, up_a, up_i, flA_k, flA_a, flA_n, cpA_k, cpA_a, newO_o, newA_o, newO_t, newA_t, newA_n] <;> first | assumption | omega)) (kX12_requireNode _ _ _ _ t0 hT hn) (by decide) (by simp [rv_cat, int_cat]) (by first | decide | exact Nat.zero_le _ | omega) (by first | decide | exact Nat.zero_le _ | omega) (fun r_2 w_2 hp_2 => ?_) (fun E w_ hx_ => (XE_out hO hF (by obtain ⟨g1, g2, g3⟩ := hx_; exact ⟨g1, fun h => h.1 g2, g3⟩)))
  obtain ⟨e0_2, e1_2, e2_2⟩ := hp_2
  subst w_2
  replace e1_2 : r_2 = nodeOf w f n := e1_2
  subst r_2
  have hn5 := (nodeOf_t hT e0_2).1
  have hn6 := (nodeOf_t hT e0_2).2
  obtain ⟨hs, hz, hE, hq8, hpp⟩ := hN _ hn5
  have hs0 := hs.1
  obtain ⟨z1, z2, z3⟩ := id hz
  refine gX12_308 8 hO dX12_markByReplay_5 rfl (by first | assumption | omega | (simp (disch := first | decide | assumption | omega) only [up_k, up_s, up_a, up_i, flA_k, flA_a, flA_n, cpA_k, cpA_a, newO_o, newA_o, newO_t, newA_t, newA_n] <;> first | assumption | omega)) ?_
  try simp (disch := first | decide | assumption | omega) only [up_k, up_s, up_a, up_i, flA_k, flA_a, flA_n, cpA_k, cpA_a, newO_o, newA_o, newO_t, newA_t, newA_n]
  refine X_astore_n 9 hO dX12_markByReplay_8 rfl rfl ?_
  refine X_iload_n 10 hO dX12_markByReplay_9 rfl rfl ?_
  refine X_bipush 12 hO dX12_markByReplay_10 rfl (by decide) ?_
  refine X_kSv 15 hO hD lX12_132 [_, _] rfl dX12_markByReplay_12 rfl (kX12_requireIndex _ _ (i) (6) (by omega) (by omega)) (by decide) (by simp [rv_cat, int_cat]) (by first | decide | exact Nat.zero_le _ | omega) (by first | decide | exact Nat.zero_le _ | omega) (fun w_12 hp_12 => ?_) (fun E w_ hx_ => (XE_out hO hF (by obtain ⟨g1, g2, g3⟩ := hx_; exact ⟨g1, fun h => g2 h.2, g3⟩)))
  obtain ⟨e1_12, e2_12⟩ := hp_12
  subst w_12
  obtain ⟨s0, ⟨s1, s2, s3, s4⟩, ⟨s5, s6, s7⟩, s8⟩ := id hs
  refine X_aload_n 16 hO dX12_markByReplay_15 rfl rfl ?_
  refine gX12_284 19 hO dX12_markByReplay_16 rfl (by first | assumption | omega | (simp (disch := first | decide | assumption | omega) only [up_k, up_s, up_a, up_i, flA_k, flA_a, flA_n, cpA_k, cpA_a, newO_o, newA_o, newO_t, newA_t, newA_n] <;> first | assumption | omega)) ?_
  try simp (disch := first | decide | assumption | omega) only [up_k, up_s, up_a, up_i, flA_k, flA_a, flA_n, cpA_k, cpA_a, newO_o, newA_o, newO_t, newA_t, newA_n]
  refine X_iload_n 20 hO dX12_markByReplay_19 rfl rfl ?_
  refine X_iald 21 hO dX12_markByReplay_20 rfl (by first | assumption | omega | (simp (disch := first | decide | assumption | omega) only [up_k, up_s, up_a, up_i, flA_k, flA_a, flA_n, cpA_k, cpA_a, newO_o, newA_o, newO_t, newA_t, newA_n] <;> first | assumption | omega)) (by first | assumption | omega | (simp (disch := first | decide | assumption | omega) only [up_k, up_s, up_a, up_i, flA_k, flA_a, flA_n, cpA_k, cpA_a, newO_o, newA_o, newO_t, newA_t, newA_n] <;> first | assumption | omega)) (fun hi_20 => ?_)
  try simp (disch := first | decide | assumption | omega) only [up_k, up_s, up_a, up_i, flA_k, flA_a, flA_n, cpA_k, cpA_a, newO_o, newA_o, newO_t, newA_t, newA_n] at hi_20 ⊢
  exact X_iret hO hF rfl (by first | exact Or.inl rfl | exact Or.inr ⟨rfl, bi_01 _⟩ | exact Or.inr ⟨rfl, by omega⟩) dX12_markByReplay_21 ⟨_, rfl, (by omega), ⟨⟨e0_2, e1_12⟩, rfl, rfl⟩⟩
theorem dX12_entries_0 : decode cX12_entries 0 = .ok (.iload_n 1, 1) := by decide +kernel
theorem dX12_entries_1 : decode cX12_entries 1 = .ok (.iconst 5, 1) := by decide +kernel
theorem dX12_entries_2 : decode cX12_entries 2 = .ok (.invokestatic 132, 3) := by decide +kernel
theorem dX12_entries_5 : decode cX12_entries 5 = .ok (.aload_n 0, 1) := by decide +kernel
theorem dX12_entries_6 : decode cX12_entries 6 = .ok (.getfield 10, 3) := by decide +kernel
theorem dX12_entries_9 : decode cX12_entries 9 = .ok (.getfield 223, 3) := by decide +kernel
theorem dX12_entries_12 : decode cX12_entries 12 = .ok (.iload_n 1, 1) := by decide +kernel
theorem dX12_entries_13 : decode cX12_entries 13 = .ok (.invokevirtual 309, 3) := by decide +kernel
theorem dX12_entries_16 : decode cX12_entries 16 = .ok (.ireturn, 1) := by decide +kernel
set_option maxRecDepth 4000 in
theorem kX12_entries (γ : LC) (w : Mm) (f q : Int) (hF0 : FBt w f) (hs : ST w (w 11 (w 41 f 0) 0)) (hq : IR q) : KI γ 7 mX12_entries [rv f, .int (I q)] w (1) (6) (fun r w' => (0 ≤ q ∧ q < 5) ∧ r = m_ecn w (w 11 (w 41 f 0) 0) q ∧ w' = w) (fun E w' => E = "java/lang/IndexOutOfBoundsException" ∧ (¬ (0 ≤ q ∧ q < 5)) ∧ w' = w) := by
  refine MX_of rfl rfl (by simp [rv_cat, int_cat]) rfl ?_
  rintro κ hO hF rfl
  have hD := hF.dp
  show X κ (1) (6) w 0 [some (rv f), some (.int (I q))] []
  obtain ⟨t0, t1, t2, t3⟩ := id hF0
  refine X_iload_n 1 hO dX12_entries_0 rfl rfl ?_
  refine X_iconst 2 hO dX12_entries_1 rfl ?_
  refine X_kSv 5 hO hD lX12_132 [_, _] rfl dX12_entries_2 rfl (kX12_requireIndex _ _ _ _ (by omega) (by omega)) (by decide) (by simp [rv_cat, int_cat]) (by first | decide | exact Nat.zero_le _ | omega) (by first | decide | exact Nat.zero_le _ | omega) (fun w_2 hp_2 => ?_) (fun E w_ hx_ => (XE_out hO hF hx_))
  obtain ⟨e1_2, e2_2⟩ := hp_2
  subst w_2
  refine X_aload_n 6 hO dX12_entries_5 rfl rfl ?_
  refine gX12_10 9 hO dX12_entries_6 rfl (by first | assumption | omega | (simp (disch := first | decide | assumption | omega) only [up_k, up_s, up_a, up_i, flA_k, flA_a, flA_n, cpA_k, cpA_a, newO_o, newA_o, newO_t, newA_t, newA_n] <;> first | assumption | omega)) ?_
  try simp (disch := first | decide | assumption | omega) only [up_k, up_s, up_a, up_i, flA_k, flA_a, flA_n, cpA_k, cpA_a, newO_o, newA_o, newO_t, newA_t, newA_n]
  refine gX12_223 12 hO dX12_entries_9 rfl (by first | assumption | omega | (simp (disch := first | decide | assumption | omega) only [up_k, up_s, up_a, up_i, flA_k, flA_a, flA_n, cpA_k, cpA_a, newO_o, newA_o, newO_t, newA_t, newA_n] <;> first | assumption | omega)) ?_
  try simp (disch := first | decide | assumption | omega) only [up_k, up_s, up_a, up_i, flA_k, flA_a, flA_n, cpA_k, cpA_a, newO_o, newA_o, newO_t, newA_t, newA_n]
  refine X_iload_n 13 hO dX12_entries_12 rfl rfl ?_
  refine X_kVi (t := 6) 16 hO hD lX12_309 rfl (by decide) [_] rfl dX12_entries_13 rfl (by first | assumption | omega | (simp (disch := first | decide | assumption | omega) only [up_k, up_s, up_a, up_i, flA_k, flA_a, flA_n, cpA_k, cpA_a, newO_o, newA_o, newO_t, newA_t, newA_n] <;> first | assumption | omega)) (kX5_entryCount _ _ _ _ hs (by omega)) (by decide) (by simp [rv_cat, int_cat]) (by first | decide | exact Nat.zero_le _ | omega) (by first | decide | exact Nat.zero_le _ | omega) (fun r_13 w_13 hr_13 hp_13 => ?_) (fun E w_ hx_ => hx_.elim)
  obtain ⟨e1_13, e2_13⟩ := hp_13
  subst r_13
  subst w_13
  exact X_iret hO hF rfl (by first | exact Or.inl rfl | exact Or.inr ⟨rfl, bi_01 _⟩ | exact Or.inr ⟨rfl, by omega⟩) dX12_entries_16 ⟨_, rfl, (by omega), ⟨e1_2, rfl, rfl⟩⟩
theorem dX12_requireEntry_0 : decode cX12_requireEntry 0 = .ok (.iload_n 1, 1) := by decide +kernel
theorem dX12_requireEntry_1 : decode cX12_requireEntry 1 = .ok (.iconst 5, 1) := by decide +kernel
theorem dX12_requireEntry_2 : decode cX12_requireEntry 2 = .ok (.invokestatic 132, 3) := by decide +kernel
theorem dX12_requireEntry_5 : decode cX12_requireEntry 5 = .ok (.iload_n 2, 1) := by decide +kernel
theorem dX12_requireEntry_6 : decode cX12_requireEntry 6 = .ok (.aload_n 0, 1) := by decide +kernel
theorem dX12_requireEntry_7 : decode cX12_requireEntry 7 = .ok (.getfield 10, 3) := by decide +kernel
theorem dX12_requireEntry_10 : decode cX12_requireEntry 10 = .ok (.getfield 223, 3) := by decide +kernel
theorem dX12_requireEntry_13 : decode cX12_requireEntry 13 = .ok (.iload_n 1, 1) := by decide +kernel
theorem dX12_requireEntry_14 : decode cX12_requireEntry 14 = .ok (.invokevirtual 309, 3) := by decide +kernel
theorem dX12_requireEntry_17 : decode cX12_requireEntry 17 = .ok (.invokestatic 132, 3) := by decide +kernel
theorem dX12_requireEntry_20 : decode cX12_requireEntry 20 = .ok (.aload_n 0, 1) := by decide +kernel
theorem dX12_requireEntry_21 : decode cX12_requireEntry 21 = .ok (.getfield 10, 3) := by decide +kernel
theorem dX12_requireEntry_24 : decode cX12_requireEntry 24 = .ok (.getfield 223, 3) := by decide +kernel
theorem dX12_requireEntry_27 : decode cX12_requireEntry 27 = .ok (.iload_n 1, 1) := by decide +kernel
theorem dX12_requireEntry_28 : decode cX12_requireEntry 28 = .ok (.iload_n 2, 1) := by decide +kernel
theorem dX12_requireEntry_29 : decode cX12_requireEntry 29 = .ok (.invokevirtual 312, 3) := by decide +kernel
theorem dX12_requireEntry_32 : decode cX12_requireEntry 32 = .ok (.areturn, 1) := by decide +kernel
set_option maxRecDepth 4000 in
theorem kX12_requireEntry (γ : LC) (w : Mm) (f q e : Int) (hF0 : FBt w f) (hs : ST w (w 11 (w 41 f 0) 0)) (hE : SE w (w 11 (w 41 f 0) 0)) (hC : CHt w) (hq : IR q) (he : IR e) : KR γ 7 mX12_requireEntry [rv f, .int (I q), .int (I e)] w (2) (12) (fun r w' => (0 ≤ q ∧ q < 5 ∧ 0 ≤ e ∧ e < m_ecn w (w 11 (w 41 f 0) 0) q) ∧ r = w 3 (w 31 (w 11 (w 41 f 0) 0) 0) (q + e) ∧ w' = w) (fun E w' => E = "java/lang/IndexOutOfBoundsException" ∧ (¬ (0 ≤ q ∧ q < 5 ∧ 0 ≤ e ∧ e < m_ecn w (w 11 (w 41 f 0) 0) q)) ∧ w' = w) := by
  refine MX_of rfl rfl (by simp [rv_cat, int_cat]) rfl ?_
  rintro κ hO hF rfl
  have hD := hF.dp
  show X κ (2) (12) w 0 [some (rv f), some (.int (I q)), some (.int (I e))] []
  obtain ⟨t0, t1, t2, t3⟩ := id hF0
  refine X_iload_n 1 hO dX12_requireEntry_0 rfl rfl ?_
  refine X_iconst 2 hO dX12_requireEntry_1 rfl ?_
  refine X_kSv 5 hO hD lX12_132 [_, _] rfl dX12_requireEntry_2 rfl (kX12_requireIndex _ _ (q) (5) (by omega) (by omega)) (by decide) (by simp [rv_cat, int_cat]) (by first | decide | exact Nat.zero_le _ | omega) (by first | decide | exact Nat.zero_le _ | omega) (fun w_2 hp_2 => ?_) (fun E w_ hx_ => (XE_out hO hF (by obtain ⟨g1, g2, g3⟩ := hx_; exact ⟨g1, fun h => g2 ⟨h.1, h.2.1⟩, g3⟩)))
  obtain ⟨e1_2, e2_2⟩ := hp_2
  subst w_2
  refine X_iload_n 6 hO dX12_requireEntry_5 rfl rfl ?_
  refine X_aload_n 7 hO dX12_requireEntry_6 rfl rfl ?_
  refine gX12_10 10 hO dX12_requireEntry_7 rfl (by first | assumption | omega | (simp (disch := first | decide | assumption | omega) only [up_k, up_s, up_a, up_i, flA_k, flA_a, flA_n, cpA_k, cpA_a, newO_o, newA_o, newO_t, newA_t, newA_n] <;> first | assumption | omega)) ?_
  try simp (disch := first | decide | assumption | omega) only [up_k, up_s, up_a, up_i, flA_k, flA_a, flA_n, cpA_k, cpA_a, newO_o, newA_o, newO_t, newA_t, newA_n]
  refine gX12_223 13 hO dX12_requireEntry_10 rfl (by first | assumption | omega | (simp (disch := first | decide | assumption | omega) only [up_k, up_s, up_a, up_i, flA_k, flA_a, flA_n, cpA_k, cpA_a, newO_o, newA_o, newO_t, newA_t, newA_n] <;> first | assumption | omega)) ?_
  try simp (disch := first | decide | assumption | omega) only [up_k, up_s, up_a, up_i, flA_k, flA_a, flA_n, cpA_k, cpA_a, newO_o, newA_o, newO_t, newA_t, newA_n]
  refine X_iload_n 14 hO dX12_requireEntry_13 rfl rfl ?_
  refine X_kVi (t := 6) 17 hO hD lX12_309 rfl (by decide) [_] rfl dX12_requireEntry_14 rfl (by first | assumption | omega | (simp (disch := first | decide | assumption | omega) only [up_k, up_s, up_a, up_i, flA_k, flA_a, flA_n, cpA_k, cpA_a, newO_o, newA_o, newO_t, newA_t, newA_n] <;> first | assumption | omega)) (kX5_entryCount _ _ _ _ hs (by omega)) (by decide) (by simp [rv_cat, int_cat]) (by first | decide | exact Nat.zero_le _ | omega) (by first | decide | exact Nat.zero_le _ | omega) (fun r_14 w_14 hr_14 hp_14 => ?_) (fun E w_ hx_ => hx_.elim)
  obtain ⟨e1_14, e2_14⟩ := hp_14
  subst r_14
  subst w_14
  refine X_kSv 20 hO hD lX12_132 [_, _] rfl dX12_requireEntry_17 rfl (kX12_requireIndex _ _ (e) (m_ecn w (w 11 (w 41 f 0) 0) q) (by omega) (by omega)) (by decide) (by simp [rv_cat, int_cat]) (by first | decide | exact Nat.zero_le _ | omega) (by first | decide | exact Nat.zero_le _ | omega) (fun w_17 hp_17 => ?_) (fun E w_ hx_ => (XE_out hO hF (by obtain ⟨g1, g2, g3⟩ := hx_; exact ⟨g1, fun h => g2 h.2.2, g3⟩)))
  obtain ⟨e1_17, e2_17⟩ := hp_17
  subst w_17
  have hmt := m_ecn_t hE hC (show 0 ≤ q ∧ q ≤ 4 by omega) e1_17
  obtain ⟨m1, m2, m3, m4⟩ := hmt
  refine X_aload_n 21 hO dX12_requireEntry_20 rfl rfl ?_
  refine gX12_10 24 hO dX12_requireEntry_21 rfl (by first | assumption | omega | (simp (disch := first | decide | assumption | omega) only [up_k, up_s, up_a, up_i, flA_k, flA_a, flA_n, cpA_k, cpA_a, newO_o, newA_o, newO_t, newA_t, newA_n] <;> first | assumption | omega)) ?_
  try simp (disch := first | decide | assumption | omega) only [up_k, up_s, up_a, up_i, flA_k, flA_a, flA_n, cpA_k, cpA_a, newO_o, newA_o, newO_t, newA_t, newA_n]
  refine gX12_223 27 hO dX12_requireEntry_24 rfl (by first | assumption | omega | (simp (disch := first | decide | assumption | omega) only [up_k, up_s, up_a, up_i, flA_k, flA_a, flA_n, cpA_k, cpA_a, newO_o, newA_o, newO_t, newA_t, newA_n] <;> first | assumption | omega)) ?_
  try simp (disch := first | decide | assumption | omega) only [up_k, up_s, up_a, up_i, flA_k, flA_a, flA_n, cpA_k, cpA_a, newO_o, newA_o, newO_t, newA_t, newA_n]
  refine X_iload_n 28 hO dX12_requireEntry_27 rfl rfl ?_
  refine X_iload_n 29 hO dX12_requireEntry_28 rfl rfl ?_
  refine X_kVr (t := 6) 32 hO hD lX12_312 rfl (by decide) [_, _] rfl dX12_requireEntry_29 rfl (by first | assumption | omega | (simp (disch := first | decide | assumption | omega) only [up_k, up_s, up_a, up_i, flA_k, flA_a, flA_n, cpA_k, cpA_a, newO_o, newA_o, newO_t, newA_t, newA_n] <;> first | assumption | omega)) (kX5_entry _ _ _ _ _ hs (by omega)) (by decide) (by simp [rv_cat, int_cat]) (by first | decide | exact Nat.zero_le _ | omega) (by first | decide | exact Nat.zero_le _ | omega) (fun r_29 w_29 hp_29 => ?_) (fun E w_ hx_ => hx_.elim)
  obtain ⟨e1_29, e2_29⟩ := hp_29
  subst w_29
  subst r_29
  exact X_aret hO hF rfl (by first | exact Or.inl ⟨_, rfl⟩ | exact Or.inr ⟨_, rfl⟩) dX12_requireEntry_32 ⟨_, rfl, ⟨⟨e1_2.1, e1_2.2, e1_17⟩, rfl, rfl⟩⟩
theorem dX12_entryLength_0 : decode cX12_entryLength 0 = .ok (.aload_n 0, 1) := by decide +kernel
theorem dX12_entryLength_1 : decode cX12_entryLength 1 = .ok (.iload_n 1, 1) := by decide +kernel
theorem dX12_entryLength_2 : decode cX12_entryLength 2 = .ok (.iload_n 2, 1) := by decide +kernel
theorem dX12_entryLength_3 : decode cX12_entryLength 3 = .ok (.invokevirtual 321, 3) := by decide +kernel
theorem dX12_entryLength_6 : decode cX12_entryLength 6 = .ok (.getfield 316, 3) := by decide +kernel
theorem dX12_entryLength_9 : decode cX12_entryLength 9 = .ok (.arraylength, 1) := by decide +kernel
theorem dX12_entryLength_10 : decode cX12_entryLength 10 = .ok (.ireturn, 1) := by decide +kernel
set_option maxRecDepth 4000 in
theorem kX12_entryLength (γ : LC) (w : Mm) (f q e : Int) (hF0 : FBt w f) (hs : ST w (w 11 (w 41 f 0) 0)) (hE : SE w (w 11 (w 41 f 0) 0)) (hC : CHt w) (hq : IR q) (he : IR e) : KI γ 8 mX12_entryLength [rv f, .int (I q), .int (I e)] w (2) (12) (fun r w' => (0 ≤ q ∧ q < 5 ∧ 0 ≤ e ∧ e < m_ecn w (w 11 (w 41 f 0) 0) q) ∧ r = w 2 (w 10 (w 3 (w 31 (w 11 (w 41 f 0) 0) 0) (q + e)) 0) 0 ∧ w' = w) (fun E w' => E = "java/lang/IndexOutOfBoundsException" ∧ (¬ (0 ≤ q ∧ q < 5 ∧ 0 ≤ e ∧ e < m_ecn w (w 11 (w 41 f 0) 0) q)) ∧ w' = w) := by
  refine MX_of rfl rfl (by simp [rv_cat, int_cat]) rfl ?_
  rintro κ hO hF rfl
  have hD := hF.dp
  show X κ (2) (12) w 0 [some (rv f), some (.int (I q)), some (.int (I e))] []
  obtain ⟨t0, t1, t2, t3⟩ := id hF0
  refine X_aload_n 1 hO dX12_entryLength_0 rfl rfl ?_
  refine X_iload_n 2 hO dX12_entryLength_1 rfl rfl ?_
  refine X_iload_n 3 hO dX12_entryLength_2 rfl rfl ?_
  refine X_kVr (t := 13) 6 hO hD lX12_321 rfl (by decide) [_, _] rfl dX12_entryLength_3 rfl (by first | assumption | omega | (simp (disch := first | decide | assumption | omega) only [up_k, up_s, up_a, up_i, flA_k, flA_a, flA_n, cpA_k, cpA_a, newO_o, newA_o, newO_t, newA_t, newA_n] <;> first | assumption | omega)) (kX12_requireEntry _ _ _ _ _ hF0 hs hE hC hq he) (by decide) (by simp [rv_cat, int_cat]) (by first | decide | exact Nat.zero_le _ | omega) (by first | decide | exact Nat.zero_le _ | omega) (fun r_3 w_3 hp_3 => ?_) (fun E w_ hx_ => (XE_out hO hF hx_))
  obtain ⟨e0_3, e1_3, e2_3⟩ := hp_3
  subst w_3
  subst r_3
  obtain ⟨m1, m2, m3, m4, m5⟩ := m_ecn_t hE hC (show 0 ≤ q ∧ q ≤ 4 by omega) e0_3.2.2
  refine gX12_316 9 hO dX12_entryLength_6 rfl (by first | assumption | omega | (simp (disch := first | decide | assumption | omega) only [up_k, up_s, up_a, up_i, flA_k, flA_a, flA_n, cpA_k, cpA_a, newO_o, newA_o, newO_t, newA_t, newA_n] <;> first | assumption | omega)) ?_
  try simp (disch := first | decide | assumption | omega) only [up_k, up_s, up_a, up_i, flA_k, flA_a, flA_n, cpA_k, cpA_a, newO_o, newA_o, newO_t, newA_t, newA_n]
  refine X_alen (t := 20) 10 hO (by first | assumption | omega | (simp (disch := first | decide | assumption | omega) only [up_k, up_s, up_a, up_i, flA_k, flA_a, flA_n, cpA_k, cpA_a, newO_o, newA_o, newO_t, newA_t, newA_n] <;> first | assumption | omega)) (by decide) dX12_entryLength_9 rfl (by first | assumption | omega | (simp (disch := first | decide | assumption | omega) only [up_k, up_s, up_a, up_i, flA_k, flA_a, flA_n, cpA_k, cpA_a, newO_o, newA_o, newO_t, newA_t, newA_n] <;> first | assumption | omega)) (fun hi_9 => ?_)
  try simp (disch := first | decide | assumption | omega) only [up_k, up_s, up_a, up_i, flA_k, flA_a, flA_n, cpA_k, cpA_a, newO_o, newA_o, newO_t, newA_t, newA_n] at hi_9 ⊢
  exact X_iret hO hF rfl (by first | exact Or.inl rfl | exact Or.inr ⟨rfl, bi_01 _⟩ | exact Or.inr ⟨rfl, by omega⟩) dX12_entryLength_10 ⟨_, rfl, (by omega), ⟨e0_3, rfl, rfl⟩⟩
theorem dX12_lineStart_0 : decode cX12_lineStart 0 = .ok (.iload_n 1, 1) := by decide +kernel
theorem dX12_lineStart_1 : decode cX12_lineStart 1 = .ok (.aload_n 0, 1) := by decide +kernel
theorem dX12_lineStart_2 : decode cX12_lineStart 2 = .ok (.invokevirtual 278, 3) := by decide +kernel
theorem dX12_lineStart_5 : decode cX12_lineStart 5 = .ok (.invokestatic 132, 3) := by decide +kernel
theorem dX12_lineStart_8 : decode cX12_lineStart 8 = .ok (.iconst 0, 1) := by decide +kernel
theorem dX12_lineStart_9 : decode cX12_lineStart 9 = .ok (.istore_n 2, 1) := by decide +kernel
theorem dX12_lineStart_10 : decode cX12_lineStart 10 = .ok (.iconst 0, 1) := by decide +kernel
theorem dX12_lineStart_11 : decode cX12_lineStart 11 = .ok (.istore_n 3, 1) := by decide +kernel
theorem dX12_lineStart_12 : decode cX12_lineStart 12 = .ok (.iload_n 3, 1) := by decide +kernel
theorem dX12_lineStart_13 : decode cX12_lineStart 13 = .ok (.iload_n 1, 1) := by decide +kernel
theorem dX12_lineStart_14 : decode cX12_lineStart 14 = .ok (.if_icmp .ge 35, 3) := by decide +kernel
theorem dX12_lineStart_17 : decode cX12_lineStart 17 = .ok (.aload_n 0, 1) := by decide +kernel
theorem dX12_lineStart_18 : decode cX12_lineStart 18 = .ok (.getfield 10, 3) := by decide +kernel
theorem dX12_lineStart_21 : decode cX12_lineStart 21 = .ok (.getfield 223, 3) := by decide +kernel
theorem dX12_lineStart_24 : decode cX12_lineStart 24 = .ok (.bipush 10, 2) := by decide +kernel
theorem dX12_lineStart_26 : decode cX12_lineStart 26 = .ok (.iload_n 2, 1) := by decide +kernel
theorem dX12_lineStart_27 : decode cX12_lineStart 27 = .ok (.aload_n 0, 1) := by decide +kernel
theorem dX12_lineStart_28 : decode cX12_lineStart 28 = .ok (.getfield 10, 3) := by decide +kernel
theorem dX12_lineStart_31 : decode cX12_lineStart 31 = .ok (.getfield 223, 3) := by decide +kernel
theorem dX12_lineStart_34 : decode cX12_lineStart 34 = .ok (.getfield 227, 3) := by decide +kernel
theorem dX12_lineStart_37 : decode cX12_lineStart 37 = .ok (.invokevirtual 281, 3) := by decide +kernel
theorem dX12_lineStart_40 : decode cX12_lineStart 40 = .ok (.iconst 1, 1) := by decide +kernel
theorem dX12_lineStart_41 : decode cX12_lineStart 41 = .ok (.iadd, 1) := by decide +kernel
theorem dX12_lineStart_42 : decode cX12_lineStart 42 = .ok (.istore_n 2, 1) := by decide +kernel
theorem dX12_lineStart_43 : decode cX12_lineStart 43 = .ok (.iinc 3 1, 3) := by decide +kernel
theorem dX12_lineStart_46 : decode cX12_lineStart 46 = .ok (.goto (-34), 3) := by decide +kernel
theorem dX12_lineStart_49 : decode cX12_lineStart 49 = .ok (.iload_n 2, 1) := by decide +kernel
theorem dX12_lineStart_50 : decode cX12_lineStart 50 = .ok (.ireturn, 1) := by decide +kernel
set_option maxRecDepth 4000 in
theorem kX12_lineStart (γ : LC) (w : Mm) (f i : Int) (hF0 : FBt w f) (hz : SZ w (w 11 (w 41 f 0) 0)) (hs : ST w (w 11 (w 41 f 0) 0)) (hi : IR i) : KI γ 7 mX12_lineStart [rv f, .int (I i)] w (1) (6) (fun r w' => (0 ≤ i ∧ i < sumN (fun i => bi (w 1 (w 28 (w 11 (w 41 f 0) 0) 0) i = 10)) (w 67 (w 11 (w 41 f 0) 0) 0).toNat + 1) ∧ r = l_st w (w 11 (w 41 f 0) 0) i.toNat ∧ w' = w) (fun E w' => E = "java/lang/IndexOutOfBoundsException" ∧ (¬ (0 ≤ i ∧ i < sumN (fun i => bi (w 1 (w 28 (w 11 (w 41 f 0) 0) 0) i = 10)) (w 67 (w 11 (w 41 f 0) 0) 0).toNat + 1)) ∧ w' = w) := by
  refine MX_of rfl rfl (by simp [rv_cat, int_cat]) rfl ?_
  rintro κ hO hF rfl
  have hD := hF.dp
  show X κ (1) (6) w 0 [some (rv f), some (.int (I i)), none, none] []
  obtain ⟨t0, t1, t2, t3⟩ := id hF0
  obtain ⟨z1, z2, z3⟩ := id hz
  refine X_iload_n 1 hO dX12_lineStart_0 rfl rfl ?_
  refine X_aload_n 2 hO dX12_lineStart_1 rfl rfl ?_
  refine X_kVi (t := 13) 5 hO hD lX12_278 rfl (by decide) [] rfl dX12_lineStart_2 rfl (by first | assumption | omega | (simp (disch := first | decide | assumption | omega) only [up_k, up_s, up_a, up_i, flA_k, flA_a, flA_n, cpA_k, cpA_a, newO_o, newA_o, newO_t, newA_t, newA_n] <;> first | assumption | omega)) (kX12_lines _ _ _ hF0 hz) (by decide) (by simp [rv_cat, int_cat]) (by first | decide | exact Nat.zero_le _ | omega) (by first | decide | exact Nat.zero_le _ | omega) (fun r_2 w_2 hr_2 hp_2 => ?_) (fun E w_ hx_ => hx_.elim)
  obtain ⟨e1_2, e2_2⟩ := hp_2
  subst r_2
  subst w_2
  refine X_kSv 8 hO hD lX12_132 [_, _] rfl dX12_lineStart_5 rfl (kX12_requireIndex _ _ _ _ (by omega) (by omega)) (by decide) (by simp [rv_cat, int_cat]) (by first | decide | exact Nat.zero_le _ | omega) (by first | decide | exact Nat.zero_le _ | omega) (fun w_5 hp_5 => ?_) (fun E w_ hx_ => (XE_out hO hF hx_))
  obtain ⟨e1_5, e2_5⟩ := hp_5
  subst w_5
  refine X_iconst 9 hO dX12_lineStart_8 rfl ?_
  refine X_istore_n 10 hO dX12_lineStart_9 rfl rfl ?_
  refine X_iconst 11 hO dX12_lineStart_10 rfl ?_
  refine X_istore_n 12 hO dX12_lineStart_11 rfl rfl ?_
  have LP12 : ∀ (nn : Nat) (j : Int), (i - j).toNat < nn → (0 ≤ j ∧ j ≤ i) → X κ 0 0 (w) 12 [some (rv f), some (.int (I i)), some (.int (I (l_st w (w 11 (w 41 f 0) 0) j.toNat))), some (.int (I j))] [] := by
    intro nn
    induction nn with
    | zero => intro j hm; exact absurd hm (Nat.not_lt_zero _)
    | succ nn ih =>
      intro j hm hj
      have hlb := l_st_b hz j.toNat
      have hlb2 := l_st_b hz (j + 1).toNat
      have els : fnd (fun i => w 1 (w 28 (w 11 (w 41 f 0) 0) 0) i) 10 (w 67 (w 11 (w 41 f 0) 0) 0 - l_st w (w 11 (w 41 f 0) 0) j.toNat).toNat (l_st w (w 11 (w 41 f 0) 0) j.toNat) + 1 = l_st w (w 11 (w 41 f 0) 0) (j + 1).toNat := by rw [show (j + 1).toNat = j.toNat + 1 by omega]; rfl
      refine X_iload_n 13 hO dX12_lineStart_12 rfl rfl ?_
      refine X_iload_n 14 hO dX12_lineStart_13 rfl rfl ?_
      refine X_icmp_ge 17 49 hO dX12_lineStart_14 rfl rfl (by omega) (by omega) (fun hc_14 => ?_) (fun hc_14 => ?_)
      ·
        refine X_iload_n 50 hO dX12_lineStart_49 rfl rfl ?_
        exact X_iret hO hF rfl (by first | exact Or.inl rfl | exact Or.inr ⟨rfl, bi_01 _⟩ | exact Or.inr ⟨rfl, by omega⟩) dX12_lineStart_50 ⟨_, rfl, (by omega), ⟨e1_5, by rw [show j = i by omega], rfl⟩⟩
      ·
        refine X_aload_n 18 hO dX12_lineStart_17 rfl rfl ?_
        refine gX12_10 21 hO dX12_lineStart_18 rfl (by first | assumption | omega | (simp (disch := first | decide | assumption | omega) only [up_k, up_s, up_a, up_i, flA_k, flA_a, flA_n, cpA_k, cpA_a, newO_o, newA_o, newO_t, newA_t, newA_n] <;> first | assumption | omega)) ?_
        try simp (disch := first | decide | assumption | omega) only [up_k, up_s, up_a, up_i, flA_k, flA_a, flA_n, cpA_k, cpA_a, newO_o, newA_o, newO_t, newA_t, newA_n]
        refine gX12_223 24 hO dX12_lineStart_21 rfl (by first | assumption | omega | (simp (disch := first | decide | assumption | omega) only [up_k, up_s, up_a, up_i, flA_k, flA_a, flA_n, cpA_k, cpA_a, newO_o, newA_o, newO_t, newA_t, newA_n] <;> first | assumption | omega)) ?_
        try simp (disch := first | decide | assumption | omega) only [up_k, up_s, up_a, up_i, flA_k, flA_a, flA_n, cpA_k, cpA_a, newO_o, newA_o, newO_t, newA_t, newA_n]
        refine X_bipush 26 hO dX12_lineStart_24 rfl (by decide) ?_
        refine X_iload_n 27 hO dX12_lineStart_26 rfl rfl ?_
        refine X_aload_n 28 hO dX12_lineStart_27 rfl rfl ?_
        refine gX12_10 31 hO dX12_lineStart_28 rfl (by first | assumption | omega | (simp (disch := first | decide | assumption | omega) only [up_k, up_s, up_a, up_i, flA_k, flA_a, flA_n, cpA_k, cpA_a, newO_o, newA_o, newO_t, newA_t, newA_n] <;> first | assumption | omega)) ?_
        try simp (disch := first | decide | assumption | omega) only [up_k, up_s, up_a, up_i, flA_k, flA_a, flA_n, cpA_k, cpA_a, newO_o, newA_o, newO_t, newA_t, newA_n]
        refine gX12_223 34 hO dX12_lineStart_31 rfl (by first | assumption | omega | (simp (disch := first | decide | assumption | omega) only [up_k, up_s, up_a, up_i, flA_k, flA_a, flA_n, cpA_k, cpA_a, newO_o, newA_o, newO_t, newA_t, newA_n] <;> first | assumption | omega)) ?_
        try simp (disch := first | decide | assumption | omega) only [up_k, up_s, up_a, up_i, flA_k, flA_a, flA_n, cpA_k, cpA_a, newO_o, newA_o, newO_t, newA_t, newA_n]
        refine gX12_227 37 hO dX12_lineStart_34 rfl (by first | assumption | omega | (simp (disch := first | decide | assumption | omega) only [up_k, up_s, up_a, up_i, flA_k, flA_a, flA_n, cpA_k, cpA_a, newO_o, newA_o, newO_t, newA_t, newA_n] <;> first | assumption | omega)) (fun hi_34 => ?_)
        try simp (disch := first | decide | assumption | omega) only [up_k, up_s, up_a, up_i, flA_k, flA_a, flA_n, cpA_k, cpA_a, newO_o, newA_o, newO_t, newA_t, newA_n] at hi_34 ⊢
        refine X_kVi (t := 6) 40 hO hD lX12_281 rfl (by decide) [_, _, _] rfl dX12_lineStart_37 rfl (by first | assumption | omega | (simp (disch := first | decide | assumption | omega) only [up_k, up_s, up_a, up_i, flA_k, flA_a, flA_n, cpA_k, cpA_a, newO_o, newA_o, newO_t, newA_t, newA_n] <;> first | assumption | omega)) (kX5_indexOfSign _ _ _ _ _ _ hs hz (by omega) (by omega) (by omega)) (by decide) (by simp [rv_cat, int_cat]) (by first | decide | exact Nat.zero_le _ | omega) (by first | decide | exact Nat.zero_le _ | omega) (fun r_37 w_37 hr_37 hp_37 => ?_) (fun E w_ hx_ => hx_.elim)
        obtain ⟨e1_37, e2_37⟩ := hp_37
        rw [if_neg (by omega), show (if 0 < l_st w (w 11 (w 41 f 0) 0) j.toNat then l_st w (w 11 (w 41 f 0) 0) j.toNat else 0) = l_st w (w 11 (w 41 f 0) 0) j.toNat by split <;> omega] at e1_37
        subst r_37
        subst w_37
        refine X_iconst 41 hO dX12_lineStart_40 rfl ?_
        refine X_iadd 42 hO dX12_lineStart_41 rfl ?_
        refine X_istore_n 43 hO dX12_lineStart_42 rfl rfl ?_
        refine X_iinc 46 hO dX12_lineStart_43 rfl rfl ?_
        refine X_goto hO dX12_lineStart_46 (tgt := 12) rfl ?_
        rw [els]
        exact ih (j + 1) (by omega) (by omega)
  exact X_mono (Nat.zero_le _) (Nat.zero_le _) (LP12 _ 0 (Nat.lt_succ_self _) (by omega))
