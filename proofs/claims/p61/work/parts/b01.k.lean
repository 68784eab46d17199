/-! open, pass, record, listen, unlisten, bookmarks: as between calls -/
theorem th9 {μ : MU} {k : Int} {A : Mm} {c : Nat} {a i : Int} (h : c ≠ 139) : m_th μ k A c a i = A c a i := by unfold m_th; exact up_k _ h _ _ _ _ _
set_option maxRecDepth 4000 in
theorem kX12_open9 (γ : LC) (w : Mm) (f : Int) (p : RP) (μ : MU) (A : Mm) (S P M : Int) (h : CHB p μ f (lvL p μ A) w A) (hRB : RB μ S P M A) (hS : S ≤ 28900) (hP : P ≤ 500000) (hM : M ≤ 598) (hb28 : ∀ j, 0 ≤ j → j < 3 → A 228 0 j = 0 ∨ A 228 0 j = 1) : KV γ 9 mX12_open [rv f] w (1) (6) (fun w' => (o_open μ A) 139 μ.1 0 = 0 ∧ RES μ f w w' (o_open μ A)) (fun E w' => ((E = "java/lang/IllegalStateException" ∧ (o_open μ A) 139 μ.1 0 = 1)) ∧ RES μ f w w' (o_open μ A)) := by
  refine MX_of rfl rfl (by simp [rv_cat, int_cat]) rfl ?_
  rintro κ hO hF rfl
  have hD := hF.dp
  show X κ (1) (6) w 0 [some (rv f)] []
  obtain ⟨s1, ⟨s2, s3, s4⟩, s5, s6, s7, s8, s9, s10⟩ := id h.1.1.2.1
  have t0 := s1.1
  have ht : w 0 f 0 = 13 ∧ w 0 (w 50 f 0) 0 = 12 := ⟨s1.1, h.1.1.2.2.2.2.2.1.1⟩
  have hT := hRB.2.1.2.2.2.1
  have hs1 := hRB.2.1.2.2.1
  have hl := h.2.2.b0.1
  have hz := hRB.2.2.1
  have hz1 := hz.1
  refine X_aload_n 1 hO dX12_open_0 rfl rfl ?_
  refine gX12_87 4 hO dX12_open_1 rfl (by first | assumption | omega | (simp (disch := first | decide | assumption | omega) only [up_k, up_s, up_a, up_i, flA_k, flA_a, flA_n, cpA_k, cpA_a, newO_o, newA_o, newO_t, newA_t, newA_n, cpQ_k, cpQ_a] <;> first | assumption | omega)) (fun hi_1 => ?_)
  try simp (disch := first | decide | assumption | omega) only [up_k, up_s, up_a, up_i, flA_k, flA_a, flA_n, cpA_k, cpA_a, newO_o, newA_o, newO_t, newA_t, newA_n, cpQ_k, cpQ_a] at hi_1 ⊢
  refine X_if_eq 7 17 hO dX12_open_4 rfl rfl (by omega) (fun hc_4 => ?_) (fun hc_4 => ?_)
  ·
    try simp only [bi_0, bi_ne, ne_eq, Classical.not_not] at hc_4
    refine X_aload_n 18 hO dX12_open_17 rfl rfl ?_
    refine X_iconst 19 hO dX12_open_18 rfl ?_
    refine pX12_87 22 hO dX12_open_19 rfl (by first | assumption | omega | (simp (disch := first | decide | assumption | omega) only [up_k, up_s, up_a, up_i, flA_k, flA_a, flA_n, cpA_k, cpA_a, newO_o, newA_o, newO_t, newA_t, newA_n, cpQ_k, cpQ_a] <;> first | assumption | omega)) (by omega) ?_
    refine X_aload_n 23 hO dX12_open_22 rfl rfl ?_
    refine X_iconst 24 hO dX12_open_23 rfl ?_
    refine pX12_113 27 hO dX12_open_24 rfl (by first | assumption | omega | (simp (disch := first | decide | assumption | omega) only [up_k, up_s, up_a, up_i, flA_k, flA_a, flA_n, cpA_k, cpA_a, newO_o, newA_o, newO_t, newA_t, newA_n, cpQ_k, cpQ_a] <;> first | assumption | omega)) (by omega) ?_
    exact X_vret hO hF rfl dX12_open_27 ⟨rfl, (by
  have e0 : A 132 μ.1 0 = 0 := by omega
  refine ⟨?_, p, h.sc hT (by omega) hs1 (fun k a i z => by rw [up_k _ (by omega), up_k _ (by omega)]) (fun c a i z => by unfold o_open; rw [up_k _ (by omega), up_k _ (by omega), th9 (by omega)]) ?_, (UPG.refl.u2 ht (by decide) (Or.inr ⟨rfl, by decide⟩)).u2 ht (by decide) (Or.inr ⟨rfl, by decide⟩)⟩
  · unfold o_open; rw [up_k _ (by decide), up_k _ (by decide)]; show up A 139 μ.1 0 (A 132 μ.1 0) 139 μ.1 0 = 0; rw [up_s]; exact e0
  · unfold vSc o_open
    simp (disch := decide) only [up_k, up_s, th9]
    exact ⟨s1, ⟨s2, s3, s4⟩, s5, s6, trivial, by rw [e0]; rfl, s9, s10⟩)⟩
  ·
    try simp only [bi_0, bi_ne, ne_eq, Classical.not_not] at hc_4
    exact X_throwISE hO hF (by decide) (text := "a group is open") (by decide) dX12_open_7 dX12_open_10 dX12_open_11 dX12_open_13 dX12_open_16 (by first | exact (by
  have e1 : A 132 μ.1 0 = 1 := by omega
  refine ⟨⟨rfl, ?_⟩, p, h.sc hT (by omega) hs1 (fun k a i z => rfl) (fun c a i z => by unfold o_open; rw [up_k _ (by omega), up_k _ (by omega), th9 (by omega)]) ?_, UPG.refl⟩
  · unfold o_open; rw [up_k _ (by decide), up_k _ (by decide)]; show up A 139 μ.1 0 (A 132 μ.1 0) 139 μ.1 0 = 1; rw [up_s]; exact e1
  · unfold vSc o_open
    simp (disch := decide) only [up_k, up_s, th9]
    exact ⟨s1, ⟨s2, s3, s4⟩, s5, s6, by rw [s7, e1], by rw [if_neg (by omega)]; exact s8, s9, s10⟩)) (by first | decide | omega) (by first | decide | omega) (by simp [rv_cat, int_cat])
set_option maxRecDepth 4000 in
theorem kX12_pass9 (γ : LC) (w : Mm) (f k : Int) (p : RP) (μ : MU) (A : Mm) (S P M : Int) (h : CHB p μ f (lvL p μ A) w A) (hRB : RB μ S P M A) (hS : S ≤ 28900) (hP : P ≤ 500000) (hM : M ≤ 598) (hb28 : ∀ j, 0 ≤ j → j < 3 → A 228 0 j = 0 ∨ A 228 0 j = 1) (hk : IR k) : KV γ 9 mX12_pass [rv f, .int (I k)] w (1) (6) (fun w' => (o_pass μ k A) 139 μ.1 0 = 0 ∧ RES μ f w w' (o_pass μ k A)) (fun E w' => ((E = "java/lang/IllegalArgumentException" ∧ (o_pass μ k A) 139 μ.1 0 = 1)) ∧ RES μ f w w' (o_pass μ k A)) := by
  refine MX_of rfl rfl (by simp [rv_cat, int_cat]) rfl ?_
  rintro κ hO hF rfl
  have hD := hF.dp
  show X κ (1) (6) w 0 [some (rv f), some (.int (I k))] []
  obtain ⟨s1, ⟨s2, s3, s4⟩, s5, s6, s7, s8, s9, s10⟩ := id h.1.1.2.1
  have t0 := s1.1
  have ht : w 0 f 0 = 13 ∧ w 0 (w 50 f 0) 0 = 12 := ⟨s1.1, h.1.1.2.2.2.2.2.1.1⟩
  have hT := hRB.2.1.2.2.2.1
  have hs1 := hRB.2.1.2.2.1
  have hl := h.2.2.b0.1
  have hz := hRB.2.2.1
  have hz1 := hz.1
  have r90 : 0 ≤ w 90 f 0 ∧ w 90 f 0 ≤ 4 := by rw [s10]; have := hz.2.2.2.1; split <;> omega
  refine X_iload_n 1 hO dX12_pass_0 rfl rfl ?_
  refine X_iconst 2 hO dX12_pass_1 rfl ?_
  refine X_bipush 4 hO dX12_pass_2 rfl (by decide) ?_
  refine X_kSv 7 hO hD lX12_129 [_, _, _] rfl dX12_pass_4 rfl (kX12_requireRange _ _ _ _ _ (by omega) (by omega) (by omega)) (by decide) (by simp [rv_cat, int_cat]) (by first | decide | exact Nat.zero_le _ | omega) (by first | decide | exact Nat.zero_le _ | omega) (fun w_4 hp_4 => ?_) (fun E w_ hx_ => (XE_out hO hF (by
  obtain ⟨x1, x2, x3⟩ := hx_
  have eo : o_pass μ k A = m_th μ 1 A := by unfold o_pass; rw [if_neg x2]; exact up_sv (th9 (by decide))
  rw [eo, x3]
  exact ⟨⟨x1, up_s _ _ _ _ _⟩, h.r9 hRB hM⟩)))
  obtain ⟨e1_4, e2_4⟩ := hp_4
  subst w_4
  refine X_aload_n 8 hO dX12_pass_7 rfl rfl ?_
  refine X_iconst 9 hO dX12_pass_8 rfl ?_
  refine X_aload_n 10 hO dX12_pass_9 rfl rfl ?_
  refine gX12_119 13 hO dX12_pass_10 rfl (by first | assumption | omega | (simp (disch := first | decide | assumption | omega) only [up_k, up_s, up_a, up_i, flA_k, flA_a, flA_n, cpA_k, cpA_a, newO_o, newA_o, newO_t, newA_t, newA_n, cpQ_k, cpQ_a] <;> first | assumption | omega)) (fun hi_10 => ?_)
  try simp (disch := first | decide | assumption | omega) only [up_k, up_s, up_a, up_i, flA_k, flA_a, flA_n, cpA_k, cpA_a, newO_o, newA_o, newO_t, newA_t, newA_n, cpQ_k, cpQ_a] at hi_10 ⊢
  refine X_iload_n 14 hO dX12_pass_13 rfl rfl ?_
  refine X_iadd 15 hO dX12_pass_14 rfl ?_
  refine X_mmin 18 hO w_957 dX12_pass_15 rfl (by omega) (by omega) hD (by decide) (by simp [rv_cat, int_cat]) ?_
  refine pX12_119 21 hO dX12_pass_18 rfl (by first | assumption | omega | (simp (disch := first | decide | assumption | omega) only [up_k, up_s, up_a, up_i, flA_k, flA_a, flA_n, cpA_k, cpA_a, newO_o, newA_o, newO_t, newA_t, newA_n, cpQ_k, cpQ_a] <;> first | assumption | omega)) (by omega) ?_
  exact X_vret hO hF rfl dX12_pass_21 ⟨rfl, (by
  refine ⟨?_, p, h.sc hT (by omega) hs1 (fun k a i z => by rw [up_k _ (by omega)]) (fun c a i z => by unfold o_pass; rw [if_pos e1_4, up_k _ (by omega), th9 (by omega)]) ?_, UPG.refl.u2 ht (by decide) (Or.inr ⟨rfl, by decide⟩)⟩
  · unfold o_pass; rw [if_pos e1_4, up_k _ (by decide)]; exact up_s _ _ _ _ _
  · unfold vSc o_pass
    rw [if_pos e1_4]
    simp (disch := decide) only [up_k, up_s, th9]
    refine ⟨s1, ⟨s2, s3, s4⟩, s5, s6, s7, s8, s9, ?_⟩
    rw [s10]
    repeat' split
    all_goals omega)⟩
set_option maxRecDepth 4000 in
theorem kX12_record9 (γ : LC) (w : Mm) (f m : Int) (p : RP) (μ : MU) (A : Mm) (S P M : Int) (h : CHB p μ f (lvL p μ A) w A) (hRB : RB μ S P M A) (hS : S ≤ 28900) (hP : P ≤ 500000) (hM : M ≤ 598) (hb28 : ∀ j, 0 ≤ j → j < 3 → A 228 0 j = 0 ∨ A 228 0 j = 1) (hm : IR m) : KV γ 9 mX12_record [rv f, .int (I m)] w (2) (12) (fun w' => (o_record μ m A) 139 μ.1 0 = 0 ∧ RES μ f w w' (o_record μ m A)) (fun E w' => ((E = "java/lang/IndexOutOfBoundsException" ∧ (o_record μ m A) 139 μ.1 0 = 1) ∨ (E = "java/lang/IllegalStateException" ∧ (o_record μ m A) 139 μ.1 0 = 2)) ∧ RES μ f w w' (o_record μ m A)) := by
  refine MX_of rfl rfl (by simp [rv_cat, int_cat]) rfl ?_
  rintro κ hO hF rfl
  have hD := hF.dp
  show X κ (2) (12) w 0 [some (rv f), some (.int (I m))] []
  obtain ⟨s1, ⟨s2, s3, s4⟩, s5, s6, s7, s8, s9, s10⟩ := id h.1.1.2.1
  have t0 := s1.1
  have ht : w 0 f 0 = 13 ∧ w 0 (w 50 f 0) 0 = 12 := ⟨s1.1, h.1.1.2.2.2.2.2.1.1⟩
  have hT := hRB.2.1.2.2.2.1
  have hs1 := hRB.2.1.2.2.1
  have hl := h.2.2.b0.1
  have hz := hRB.2.2.1
  have hz1 := hz.1
  have t49 := h.1.1.2.2.2.2.1.2.2.1.1.1
  refine X_iload_n 1 hO dX12_record_0 rfl rfl ?_
  refine X_iconst 2 hO dX12_record_1 rfl ?_
  refine X_kSv 5 hO hD lX12_132 [_, _] rfl dX12_record_2 rfl (kX12_requireIndex _ _ _ _ (by omega) (by omega)) (by decide) (by simp [rv_cat, int_cat]) (by first | decide | exact Nat.zero_le _ | omega) (by first | decide | exact Nat.zero_le _ | omega) (fun w_2 hp_2 => ?_) (fun E w_ hx_ => (XE_out hO hF (by
  obtain ⟨x1, x2, x3⟩ := hx_
  have hn : ¬ (0 ≤ m ∧ m ≤ 3) := by omega
  have eo : o_record μ m A = m_th μ 1 A := by unfold o_record; rw [if_neg hn]
  rw [eo, x3]
  exact ⟨Or.inl ⟨x1, up_s _ _ _ _ _⟩, h.r9 hRB hM⟩)))
  obtain ⟨e1_2, e2_2⟩ := hp_2
  subst w_2
  have hc0 : 0 ≤ m ∧ m ≤ 3 := by omega
  refine X_aload_n 6 hO dX12_record_5 rfl rfl ?_
  refine gX12_65 9 hO dX12_record_6 rfl (by first | assumption | omega | (simp (disch := first | decide | assumption | omega) only [up_k, up_s, up_a, up_i, flA_k, flA_a, flA_n, cpA_k, cpA_a, newO_o, newA_o, newO_t, newA_t, newA_n, cpQ_k, cpQ_a] <;> first | assumption | omega)) (fun hi_6 => ?_)
  try simp (disch := first | decide | assumption | omega) only [up_k, up_s, up_a, up_i, flA_k, flA_a, flA_n, cpA_k, cpA_a, newO_o, newA_o, newO_t, newA_t, newA_n, cpQ_k, cpQ_a] at hi_6 ⊢
  refine X_iconst 10 hO dX12_record_9 rfl ?_
  refine X_icmp_eq 13 23 hO dX12_record_10 rfl rfl (by omega) (by omega) (fun hc_10 => ?_) (fun hc_10 => ?_)
  ·
    refine X_aload_n 24 hO dX12_record_23 rfl rfl ?_
    refine X_iload_n 25 hO dX12_record_24 rfl rfl ?_
    refine pX12_65 28 hO dX12_record_25 rfl (by first | assumption | omega | (simp (disch := first | decide | assumption | omega) only [up_k, up_s, up_a, up_i, flA_k, flA_a, flA_n, cpA_k, cpA_a, newO_o, newA_o, newO_t, newA_t, newA_n, cpQ_k, cpQ_a] <;> first | assumption | omega)) (by omega) ?_
    refine X_aload_n 29 hO dX12_record_28 rfl rfl ?_
    refine gX12_54 32 hO dX12_record_29 rfl (by first | assumption | omega | (simp (disch := first | decide | assumption | omega) only [up_k, up_s, up_a, up_i, flA_k, flA_a, flA_n, cpA_k, cpA_a, newO_o, newA_o, newO_t, newA_t, newA_n, cpQ_k, cpQ_a] <;> first | assumption | omega)) ?_
    try simp (disch := first | decide | assumption | omega) only [up_k, up_s, up_a, up_i, flA_k, flA_a, flA_n, cpA_k, cpA_a, newO_o, newA_o, newO_t, newA_t, newA_n, cpQ_k, cpQ_a]
    refine X_iconst 33 hO dX12_record_32 rfl ?_
    refine pX12_170 36 hO dX12_record_33 rfl (by first | assumption | omega | (simp (disch := first | decide | assumption | omega) only [up_k, up_s, up_a, up_i, flA_k, flA_a, flA_n, cpA_k, cpA_a, newO_o, newA_o, newO_t, newA_t, newA_n, cpQ_k, cpQ_a] <;> first | assumption | omega)) (by omega) ?_
    refine X_aload_n 37 hO dX12_record_36 rfl rfl ?_
    refine X_iconst 38 hO dX12_record_37 rfl ?_
    refine pX12_113 41 hO dX12_record_38 rfl (by first | assumption | omega | (simp (disch := first | decide | assumption | omega) only [up_k, up_s, up_a, up_i, flA_k, flA_a, flA_n, cpA_k, cpA_a, newO_o, newA_o, newO_t, newA_t, newA_n, cpQ_k, cpQ_a] <;> first | assumption | omega)) (by omega) ?_
    exact X_vret hO hF rfl dX12_record_41 ⟨rfl, (by
  have e133 : A 133 μ.1 0 = -1 := by omega
  have eo : o_record μ m A = up (up (up (m_th μ 0 A) 133 μ.1 0 m) 236 0 4 0) 129 μ.1 0 (-1) := by
    unfold o_record; rw [if_pos hc0, if_neg (fun z => z e133)]
  rw [eo]
  obtain ⟨⟨m1, m2, m3⟩, m4, ⟨m5, m6, m7, m8, m9⟩, m10, m11⟩ := id h.1.1.2.2.2.2.1
  refine ⟨?_, p, h.cgA (h.1.sc2 (fun k a i z => by rw [up_k _ (by omega), up_k _ (by omega), up_k _ (by omega)]) (fun c a i z => by rw [up_k _ (by omega), up_k _ (by omega), up_k _ (by omega), th9 (by omega)]) ?_ ?_) hT (by omega) hs1 (fun c a i z => by rw [up_k _ (by omega), up_k _ (by omega), up_k _ (by omega), th9 (by omega)]), ((UPG.refl.u2 ht (by decide) (Or.inr ⟨rfl, by decide⟩)).u2 ht (by decide) (Or.inl (by omega))).u2 ht (by decide) (Or.inr ⟨rfl, by decide⟩)⟩
  · rw [up_k _ (by decide), up_k _ (by decide), up_k _ (by decide)]; exact up_s _ _ _ _ _
  · unfold vSc
    simp (disch := decide) only [up_k, up_s, th9]
    exact ⟨s1, ⟨s2, s3, s4⟩, s5, trivial, s7, rfl, s9, s10⟩
  · refine ⟨?_, fun q q0 q1 => ?_, ?_⟩
    · simp (disch := decide) only [up_k]; exact ⟨m1, m2, m3⟩
    · obtain ⟨⟨v1, v2, v3, v4, v5⟩, v6, v7⟩ := m4 q q0 q1
      have hne : w 3 (w 48 f 0) q ≠ w 49 f 0 := ne_c v2 m6 (by omega)
      unfold vMc MT at *
      simp (disch := first | decide | assumption) only [up_k, up_a, th9]
      rw [up_i _ _ _ _ _ _ (by omega)]
      exact ⟨⟨v1, v2, v3, v4, v5⟩, by rw [up_k _ (by decide), th9 (by decide)]; exact v6, v7⟩
    · unfold vMc MT at *
      simp (disch := decide) only [up_k, up_s]
      exact ⟨⟨⟨m5.1, m5.2.1, m5.2.2.1, m5.2.2.2.1, by omega, by omega⟩, m6, m7, m8, m9⟩, trivial, fun k z1 z2 => by omega⟩)⟩
  ·
    exact X_throwISE hO hF (by decide) (text := "a macro is being recorded") (by decide) dX12_record_13 dX12_record_16 dX12_record_17 dX12_record_19 dX12_record_22 (by first | exact (by
  have eo : o_record μ m A = m_th μ 2 A := by unfold o_record; rw [if_pos hc0, if_pos (by omega)]
  rw [eo]
  exact ⟨Or.inr ⟨rfl, up_s _ _ _ _ _⟩, h.r9 hRB hM⟩)) (by first | decide | omega) (by first | decide | omega) (by simp [rv_cat, int_cat])
set_option maxRecDepth 4000 in
theorem kX12_listen9 (γ : LC) (w : Mm) (f q a b d : Int) (p : RP) (μ : MU) (A : Mm) (S P M : Int) (h : CHB p μ f (lvL p μ A) w A) (hRB : RB μ S P M A) (hS : S ≤ 28900) (hP : P ≤ 500000) (hM : M ≤ 598) (hb28 : ∀ j, 0 ≤ j → j < 3 → A 228 0 j = 0 ∨ A 228 0 j = 1) (hq : IR q) (ha : IR a) (hb : IR b) (hd : IR d) : KV γ 9 mX12_listen [rv f, .int (I q), .int (I a), .int (I b), .int (I d)] w (5) (30) (fun w' => (o_listen μ q a b d A) 139 μ.1 0 = 0 ∧ RES μ f w w' (o_listen μ q a b d A)) (fun E w' => ((E = "java/lang/IndexOutOfBoundsException" ∧ (o_listen μ q a b d A) 139 μ.1 0 = 1) ∨ (E = "java/lang/IllegalArgumentException" ∧ (o_listen μ q a b d A) 139 μ.1 0 = 2)) ∧ RES μ f w w' (o_listen μ q a b d A)) := by
  refine MX_of rfl rfl (by simp [rv_cat, int_cat]) rfl ?_
  rintro κ hO hF rfl
  have hD := hF.dp
  show X κ (5) (30) w 0 [some (rv f), some (.int (I q)), some (.int (I a)), some (.int (I b)), some (.int (I d))] []
  obtain ⟨s1, ⟨s2, s3, s4⟩, s5, s6, s7, s8, s9, s10⟩ := id h.1.1.2.1
  have t0 := s1.1
  have ht : w 0 f 0 = 13 ∧ w 0 (w 50 f 0) 0 = 12 := ⟨s1.1, h.1.1.2.2.2.2.2.1.1⟩
  have hT := hRB.2.1.2.2.2.1
  have hs1 := hRB.2.1.2.2.1
  have hl := h.2.2.b0.1
  have hz := hRB.2.2.1
  have hz1 := hz.1
  have hLT := h.1.2.1.1.1
  obtain ⟨z0, ⟨z1, z2, z3, z4, z5, z6⟩, z7, z8, z9, z10, z11, z12⟩ := id hLT
  have hv := h.1.2.1.2.1
  refine X_iload_n 1 hO dX12_listen_0 rfl rfl ?_
  refine X_iconst 2 hO dX12_listen_1 rfl ?_
  refine X_kSv 5 hO hD lX12_132 [_, _] rfl dX12_listen_2 rfl (kX12_requireIndex _ _ _ _ (by omega) (by omega)) (by decide) (by simp [rv_cat, int_cat]) (by first | decide | exact Nat.zero_le _ | omega) (by first | decide | exact Nat.zero_le _ | omega) (fun w_2 hp_2 => ?_) (fun E w_ hx_ => (XE_out hO hF (by
  obtain ⟨x1, x2, x3⟩ := hx_
  have eo : o_listen μ q a b d A = m_th μ 1 A := by unfold o_listen; rw [if_neg (by omega)]
  rw [eo, x3]
  exact ⟨Or.inl ⟨x1, up_s _ _ _ _ _⟩, h.r9 hRB hM⟩)))
  obtain ⟨e1_2, e2_2⟩ := hp_2
  subst w_2
  have hc0 : 0 ≤ q ∧ q ≤ 2 := by omega
  refine X_iload_n 6 hO dX12_listen_5 rfl rfl ?_
  refine X_kSv 9 hO hD lX12_69 [_] rfl dX12_listen_6 rfl (kX12_requireCharacter _ _ _ (by omega)) (by decide) (by simp [rv_cat, int_cat]) (by first | decide | exact Nat.zero_le _ | omega) (by first | decide | exact Nat.zero_le _ | omega) (fun w_6 hp_6 => ?_) (fun E w_ hx_ => (XE_out hO hF (by
  obtain ⟨x1, x2, x3⟩ := hx_
  have eo : o_listen μ q a b d A = m_th μ 2 A := by unfold o_listen; rw [if_pos hc0, if_neg (fun z => x2 z.1)]
  rw [eo, x3]
  exact ⟨Or.inr ⟨x1, up_s _ _ _ _ _⟩, h.r9 hRB hM⟩)))
  obtain ⟨e1_6, e2_6⟩ := hp_6
  subst w_6
  refine X_iload_n 10 hO dX12_listen_9 rfl rfl ?_
  refine X_kSv 13 hO hD lX12_69 [_] rfl dX12_listen_10 rfl (kX12_requireCharacter _ _ _ (by omega)) (by decide) (by simp [rv_cat, int_cat]) (by first | decide | exact Nat.zero_le _ | omega) (by first | decide | exact Nat.zero_le _ | omega) (fun w_10 hp_10 => ?_) (fun E w_ hx_ => (XE_out hO hF (by
  obtain ⟨x1, x2, x3⟩ := hx_
  have eo : o_listen μ q a b d A = m_th μ 2 A := by unfold o_listen; rw [if_pos hc0, if_neg (fun z => x2 z.2.1)]
  rw [eo, x3]
  exact ⟨Or.inr ⟨x1, up_s _ _ _ _ _⟩, h.r9 hRB hM⟩)))
  obtain ⟨e1_10, e2_10⟩ := hp_10
  subst w_10
  refine X_iload 15 hO dX12_listen_13 rfl rfl ?_
  refine X_iconst 16 hO dX12_listen_15 rfl ?_
  refine X_bipush 18 hO dX12_listen_16 rfl (by decide) ?_
  refine X_kSv 21 hO hD lX12_129 [_, _, _] rfl dX12_listen_18 rfl (kX12_requireRange _ _ _ _ _ (by omega) (by omega) (by omega)) (by decide) (by simp [rv_cat, int_cat]) (by first | decide | exact Nat.zero_le _ | omega) (by first | decide | exact Nat.zero_le _ | omega) (fun w_18 hp_18 => ?_) (fun E w_ hx_ => (XE_out hO hF (by
  obtain ⟨x1, x2, x3⟩ := hx_
  have eo : o_listen μ q a b d A = m_th μ 2 A := by unfold o_listen; rw [if_pos hc0, if_neg (fun z => x2 z.2.2.1)]
  rw [eo, x3]
  exact ⟨Or.inr ⟨x1, up_s _ _ _ _ _⟩, h.r9 hRB hM⟩)))
  obtain ⟨e1_18, e2_18⟩ := hp_18
  subst w_18
  refine X_iload_n 22 hO dX12_listen_21 rfl rfl ?_
  refine X_iload_n 23 hO dX12_listen_22 rfl rfl ?_
  refine X_icmp_ne 26 37 hO dX12_listen_23 rfl rfl (by omega) (by omega) (fun hc_23 => ?_) (fun hc_23 => ?_)
  ·
    refine X_aload_n 38 hO dX12_listen_37 rfl rfl ?_
    refine gX12_36 41 hO dX12_listen_38 rfl (by first | assumption | omega | (simp (disch := first | decide | assumption | omega) only [up_k, up_s, up_a, up_i, flA_k, flA_a, flA_n, cpA_k, cpA_a, newO_o, newA_o, newO_t, newA_t, newA_n, cpQ_k, cpQ_a] <;> first | assumption | omega)) ?_
    try simp (disch := first | decide | assumption | omega) only [up_k, up_s, up_a, up_i, flA_k, flA_a, flA_n, cpA_k, cpA_a, newO_o, newA_o, newO_t, newA_t, newA_n, cpQ_k, cpQ_a]
    refine X_iload_n 42 hO dX12_listen_41 rfl rfl ?_
    refine X_iload_n 43 hO dX12_listen_42 rfl rfl ?_
    refine X_iload_n 44 hO dX12_listen_43 rfl rfl ?_
    refine X_iload 46 hO dX12_listen_44 rfl rfl ?_
    refine X_kVv (t := 3) 49 hO hD lX12_260 rfl (by decide) [_, _, _, _] rfl dX12_listen_46 rfl (by first | assumption | omega | (simp (disch := first | decide | assumption | omega) only [up_k, up_s, up_a, up_i, flA_k, flA_a, flA_n, cpA_k, cpA_a, newO_o, newA_o, newO_t, newA_t, newA_n, cpQ_k, cpQ_a] <;> first | assumption | omega)) (kX2_activate _ _ _ _ _ _ _ hLT e1_2 ha hb hd) (by decide) (by simp [rv_cat, int_cat]) (by first | decide | exact Nat.zero_le _ | omega) (by first | decide | exact Nat.zero_le _ | omega) (fun w_46 hp_46 => ?_) (fun E w_ hx_ => hx_.elim)
    subst w_46
    refine X_aload_n 50 hO dX12_listen_49 rfl rfl ?_
    refine X_iconst 51 hO dX12_listen_50 rfl ?_
    refine pX12_113 54 hO dX12_listen_51 rfl (by first | assumption | omega | (simp (disch := first | decide | assumption | omega) only [up_k, up_s, up_a, up_i, flA_k, flA_a, flA_n, cpA_k, cpA_a, newO_o, newA_o, newO_t, newA_t, newA_n, cpQ_k, cpQ_a] <;> first | assumption | omega)) (by omega) ?_
    exact X_vret hO hF rfl dX12_listen_54 ⟨rfl, (by
  have hC : isC a ∧ isC b ∧ (0 ≤ d ∧ d ≤ 9) ∧ a ≠ b := ⟨e1_6, e1_10, e1_18, by omega⟩
  have eo : o_listen μ q a b d A = up (up (up (up (up (m_th μ 0 A) 228 0 q 1) 229 0 q a) 230 0 q b) 231 0 q d) 129 μ.1 0 (-1) := by unfold o_listen; rw [if_pos hc0, if_pos hC]
  rw [eo]
  obtain ⟨z0, ⟨z1, z2, z3, z4, z5, z6⟩, z7, z8, z9, z10, z11, z12⟩ := id hLT
  have e9 : ∀ {c : Nat} {x i : Int}, c ≠ 139 → c ≠ 129 → (c < 228 ∨ 231 < c) → up (up (up (up (up (m_th μ 0 A) 228 0 q 1) 229 0 q a) 230 0 q b) 231 0 q d) 129 μ.1 0 (-1) c x i = A c x i := fun y1 y2 y3 => by rw [up_k _ y2, up_k _ (by omega), up_k _ (by omega), up_k _ (by omega), up_k _ (by omega), th9 y1]
  refine ⟨?_, p, h.cgA (h.1.lsn hl e1_2 rfl) hT (by omega) hs1 (fun c x i z => e9 (by omega) (by omega) (by omega)), ((((UPG.refl.u2 ht (by decide) (Or.inl (by omega))).u2 ht (by decide) (Or.inl (by omega))).u2 ht (by decide) (Or.inl (by omega))).u2 ht (by decide) (Or.inl (by omega))).u2 ht (by decide) (Or.inr ⟨rfl, by decide⟩)⟩
  rw [up_k _ (by decide), up_k _ (by decide), up_k _ (by decide), up_k _ (by decide), up_k _ (by decide)]; exact up_s _ _ _ _ _)⟩
  ·
    exact X_throwIAEW hO hF (by decide) (text := "a character is not replaced by itself") (by decide) dX12_listen_26 dX12_listen_29 dX12_listen_30 dX12_listen_33 dX12_listen_36 (by first | exact (by
  have eo : o_listen μ q a b d A = m_th μ 2 A := by unfold o_listen; rw [if_pos hc0, if_neg (fun z => z.2.2.2 (by omega))]
  rw [eo]
  exact ⟨Or.inr ⟨rfl, up_s _ _ _ _ _⟩, h.r9 hRB hM⟩)) (by first | decide | omega) (by first | decide | omega) (by simp [rv_cat, int_cat])
