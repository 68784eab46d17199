/-! the ring turned, characters taken behind the point -/
theorem t_ring_k {s : Int} {w : Mm} {k : Nat} {a i : Int} (h : k ≠ 3) : t_ring s w k a i = w k a i := by unfold t_ring; rw [up_k _ h, flA_k h]
def g_ring (f : Int) (w : Mm) : Mm := up (t_ring (w 11 (w 41 f 0) 0) w) 91 f 0 (m_ecn (t_ring (w 11 (w 41 f 0) 0) w) (w 11 (w 41 f 0) 0) 4)
theorem dX12_turnRing_0 : decode cX12_turnRing 0 = .ok (.aload_n 0, 1) := by decide +kernel
theorem dX12_turnRing_1 : decode cX12_turnRing 1 = .ok (.getfield 10, 3) := by decide +kernel
theorem dX12_turnRing_4 : decode cX12_turnRing 4 = .ok (.getfield 223, 3) := by decide +kernel
theorem dX12_turnRing_7 : decode cX12_turnRing 7 = .ok (.iconst 4, 1) := by decide +kernel
theorem dX12_turnRing_8 : decode cX12_turnRing 8 = .ok (.invokevirtual 309, 3) := by decide +kernel
theorem dX12_turnRing_11 : decode cX12_turnRing 11 = .ok (.iconst 2, 1) := by decide +kernel
theorem dX12_turnRing_12 : decode cX12_turnRing 12 = .ok (.if_icmp .ge 5, 3) := by decide +kernel
theorem dX12_turnRing_15 : decode cX12_turnRing 15 = .ok (.iconst 4, 1) := by decide +kernel
theorem dX12_turnRing_16 : decode cX12_turnRing 16 = .ok (.ireturn, 1) := by decide +kernel
theorem dX12_turnRing_17 : decode cX12_turnRing 17 = .ok (.aload_n 0, 1) := by decide +kernel
theorem dX12_turnRing_18 : decode cX12_turnRing 18 = .ok (.getfield 10, 3) := by decide +kernel
theorem dX12_turnRing_21 : decode cX12_turnRing 21 = .ok (.getfield 223, 3) := by decide +kernel
theorem dX12_turnRing_24 : decode cX12_turnRing 24 = .ok (.invokevirtual 488, 3) := by decide +kernel
theorem dX12_turnRing_27 : decode cX12_turnRing 27 = .ok (.aload_n 0, 1) := by decide +kernel
theorem dX12_turnRing_28 : decode cX12_turnRing 28 = .ok (.aload_n 0, 1) := by decide +kernel
theorem dX12_turnRing_29 : decode cX12_turnRing 29 = .ok (.getfield 10, 3) := by decide +kernel
theorem dX12_turnRing_32 : decode cX12_turnRing 32 = .ok (.getfield 223, 3) := by decide +kernel
theorem dX12_turnRing_35 : decode cX12_turnRing 35 = .ok (.iconst 4, 1) := by decide +kernel
theorem dX12_turnRing_36 : decode cX12_turnRing 36 = .ok (.invokevirtual 309, 3) := by decide +kernel
theorem dX12_turnRing_39 : decode cX12_turnRing 39 = .ok (.putfield 122, 3) := by decide +kernel
theorem dX12_turnRing_42 : decode cX12_turnRing 42 = .ok (.aload_n 0, 1) := by decide +kernel
theorem dX12_turnRing_43 : decode cX12_turnRing 43 = .ok (.iconst 4, 1) := by decide +kernel
theorem dX12_turnRing_44 : decode cX12_turnRing 44 = .ok (.invokevirtual 485, 3) := by decide +kernel
theorem dX12_turnRing_47 : decode cX12_turnRing 47 = .ok (.ireturn, 1) := by decide +kernel
set_option maxRecDepth 4000 in
theorem kX12_turnRing (γ : LC) (w : Mm) (f : Int) (t0 : w 0 f 0 = 13) (hd : DTl w (w 41 f 0)) (hQ : QT w (w 12 (w 41 f 0) 0)) (hs : ST w (w 11 (w 41 f 0) 0)) (hE : SE w (w 11 (w 41 f 0) 0)) (ht : w 0 (w 44 f 0) 0 = 21 ∧ w 2 (w 44 f 0) 0 = 5) : KI γ 5 mX12_turnRing [rv f] w (1) (5) (fun r w' => (m_ecn w (w 11 (w 41 f 0) 0) 4 < 2 ∧ r = 4 ∧ w' = w) ∨ (2 ≤ m_ecn w (w 11 (w 41 f 0) 0) 4 ∧ r = 0 ∧ ((w 1 (w 44 f 0) 4 = 0 ∧ w' = g_ring f w) ∨ (w 1 (w 44 f 0) 4 ≠ 0 ∧ ∃ x, 0 < x ∧ w 0 x 0 = 0 ∧ w' = k_step (w 12 (w 41 f 0) 0) x 5 0 0 0 (g_ring f w))))) NX := by
  refine MX_of rfl rfl (by simp [rv_cat, int_cat]) rfl ?_
  rintro κ hO hF rfl
  have hD := hF.dp
  show X κ (1) (5) w 0 [some (rv f)] []
  obtain ⟨y0, y1, ⟨y2, y3⟩, ⟨y4, y5⟩, y6, y7, y8⟩ := id hd
  obtain ⟨s0, ⟨s1, s2, s3, s4⟩, ⟨s5, s6, s7⟩, s8⟩ := id hs
  refine X_aload_n 1 hO dX12_turnRing_0 rfl rfl ?_
  refine gX12_10 4 hO dX12_turnRing_1 rfl (by first | assumption | omega | (simp (disch := first | decide | assumption | omega) only [up_k, up_s, up_a, up_i, flA_k, flA_a, flA_n, cpA_k, cpA_a, newO_o, newA_o, newO_t, newA_t, newA_n, cpQ_k, cpQ_a, t_ring_k] <;> first | assumption | omega)) ?_
  try simp (disch := first | decide | assumption | omega) only [up_k, up_s, up_a, up_i, flA_k, flA_a, flA_n, cpA_k, cpA_a, newO_o, newA_o, newO_t, newA_t, newA_n, cpQ_k, cpQ_a, t_ring_k]
  refine gX12_223 7 hO dX12_turnRing_4 rfl (by first | assumption | omega | (simp (disch := first | decide | assumption | omega) only [up_k, up_s, up_a, up_i, flA_k, flA_a, flA_n, cpA_k, cpA_a, newO_o, newA_o, newO_t, newA_t, newA_n, cpQ_k, cpQ_a, t_ring_k] <;> first | assumption | omega)) ?_
  try simp (disch := first | decide | assumption | omega) only [up_k, up_s, up_a, up_i, flA_k, flA_a, flA_n, cpA_k, cpA_a, newO_o, newA_o, newO_t, newA_t, newA_n, cpQ_k, cpQ_a, t_ring_k]
  refine X_iconst 8 hO dX12_turnRing_7 rfl ?_
  refine X_kVi (t := 6) 11 hO hD lX12_309 rfl (by decide) [_] rfl dX12_turnRing_8 rfl (by first | assumption | omega | (simp (disch := first | decide | assumption | omega) only [up_k, up_s, up_a, up_i, flA_k, flA_a, flA_n, cpA_k, cpA_a, newO_o, newA_o, newO_t, newA_t, newA_n, cpQ_k, cpQ_a, t_ring_k] <;> first | assumption | omega)) (kX5_entryCount _ _ _ _ hs (by omega)) (by decide) (by simp [rv_cat, int_cat]) (by first | decide | exact Nat.zero_le _ | omega) (by first | decide | exact Nat.zero_le _ | omega) (fun r_8 w_8 hr_8 hp_8 => ?_) (fun E w_ hx_ => hx_.elim)
  obtain ⟨e1_8, e2_8⟩ := hp_8
  subst r_8
  subst w_8
  refine X_iconst 12 hO dX12_turnRing_11 rfl ?_
  refine X_icmp_ge 15 17 hO dX12_turnRing_12 rfl rfl (by omega) (by omega) (fun hc_12 => ?_) (fun hc_12 => ?_)
  ·
    refine X_aload_n 18 hO dX12_turnRing_17 rfl rfl ?_
    refine gX12_10 21 hO dX12_turnRing_18 rfl (by first | assumption | omega | (simp (disch := first | decide | assumption | omega) only [up_k, up_s, up_a, up_i, flA_k, flA_a, flA_n, cpA_k, cpA_a, newO_o, newA_o, newO_t, newA_t, newA_n, cpQ_k, cpQ_a, t_ring_k] <;> first | assumption | omega)) ?_
    try simp (disch := first | decide | assumption | omega) only [up_k, up_s, up_a, up_i, flA_k, flA_a, flA_n, cpA_k, cpA_a, newO_o, newA_o, newO_t, newA_t, newA_n, cpQ_k, cpQ_a, t_ring_k]
    refine gX12_223 24 hO dX12_turnRing_21 rfl (by first | assumption | omega | (simp (disch := first | decide | assumption | omega) only [up_k, up_s, up_a, up_i, flA_k, flA_a, flA_n, cpA_k, cpA_a, newO_o, newA_o, newO_t, newA_t, newA_n, cpQ_k, cpQ_a, t_ring_k] <;> first | assumption | omega)) ?_
    try simp (disch := first | decide | assumption | omega) only [up_k, up_s, up_a, up_i, flA_k, flA_a, flA_n, cpA_k, cpA_a, newO_o, newA_o, newO_t, newA_t, newA_n, cpQ_k, cpQ_a, t_ring_k]
    refine X_kVv (t := 6) 27 hO hD lX12_488 rfl (by decide) [] rfl dX12_turnRing_24 rfl (by first | assumption | omega | (simp (disch := first | decide | assumption | omega) only [up_k, up_s, up_a, up_i, flA_k, flA_a, flA_n, cpA_k, cpA_a, newO_o, newA_o, newO_t, newA_t, newA_n, cpQ_k, cpQ_a, t_ring_k] <;> first | assumption | omega)) (kX5_turnRing _ _ _ hs hE) (by decide) (by simp [rv_cat, int_cat]) (by first | decide | exact Nat.zero_le _ | omega) (by first | decide | exact Nat.zero_le _ | omega) (fun w_24 hp_24 => ?_) (fun E w_ hx_ => hx_.elim)
    subst w_24
    refine X_aload_n 28 hO dX12_turnRing_27 rfl rfl ?_
    refine X_aload_n 29 hO dX12_turnRing_28 rfl rfl ?_
    refine gX12_10 32 hO dX12_turnRing_29 rfl (by first | assumption | omega | (simp (disch := first | decide | assumption | omega) only [up_k, up_s, up_a, up_i, flA_k, flA_a, flA_n, cpA_k, cpA_a, newO_o, newA_o, newO_t, newA_t, newA_n, cpQ_k, cpQ_a, t_ring_k] <;> first | assumption | omega)) ?_
    try simp (disch := first | decide | assumption | omega) only [up_k, up_s, up_a, up_i, flA_k, flA_a, flA_n, cpA_k, cpA_a, newO_o, newA_o, newO_t, newA_t, newA_n, cpQ_k, cpQ_a, t_ring_k]
    refine gX12_223 35 hO dX12_turnRing_32 rfl (by first | assumption | omega | (simp (disch := first | decide | assumption | omega) only [up_k, up_s, up_a, up_i, flA_k, flA_a, flA_n, cpA_k, cpA_a, newO_o, newA_o, newO_t, newA_t, newA_n, cpQ_k, cpQ_a, t_ring_k] <;> first | assumption | omega)) ?_
    try simp (disch := first | decide | assumption | omega) only [up_k, up_s, up_a, up_i, flA_k, flA_a, flA_n, cpA_k, cpA_a, newO_o, newA_o, newO_t, newA_t, newA_n, cpQ_k, cpQ_a, t_ring_k]
    refine X_iconst 36 hO dX12_turnRing_35 rfl ?_
    refine X_kVi (t := 6) 39 hO hD lX12_309 rfl (by decide) [_] rfl dX12_turnRing_36 rfl (by first | assumption | omega | (simp (disch := first | decide | assumption | omega) only [up_k, up_s, up_a, up_i, flA_k, flA_a, flA_n, cpA_k, cpA_a, newO_o, newA_o, newO_t, newA_t, newA_n, cpQ_k, cpQ_a, t_ring_k] <;> first | assumption | omega)) (kX5_entryCount _ _ _ _ (ST_c (fun k a h => t_ring_k (by omega)) hs) (by omega)) (by decide) (by simp [rv_cat, int_cat]) (by first | decide | exact Nat.zero_le _ | omega) (by first | decide | exact Nat.zero_le _ | omega) (fun r_36 w_36 hr_36 hp_36 => ?_) (fun E w_ hx_ => hx_.elim)
    obtain ⟨e1_36, e2_36⟩ := hp_36
    subst r_36
    subst w_36
    refine pX12_122 42 hO dX12_turnRing_39 rfl (by first | assumption | omega | (simp (disch := first | decide | assumption | omega) only [up_k, up_s, up_a, up_i, flA_k, flA_a, flA_n, cpA_k, cpA_a, newO_o, newA_o, newO_t, newA_t, newA_n, cpQ_k, cpQ_a, t_ring_k] <;> first | assumption | omega)) (by omega) ?_
    refine X_aload_n 43 hO dX12_turnRing_42 rfl rfl ?_
    refine X_iconst 44 hO dX12_turnRing_43 rfl ?_
    refine X_kVi (t := 13) 47 hO hD lX12_485 rfl (by decide) [_] rfl dX12_turnRing_44 rfl (by first | assumption | omega | (simp (disch := first | decide | assumption | omega) only [up_k, up_s, up_a, up_i, flA_k, flA_a, flA_n, cpA_k, cpA_a, newO_o, newA_o, newO_t, newA_t, newA_n, cpQ_k, cpQ_a, t_ring_k] <;> first | assumption | omega)) (kX12_storeWasSet _ _ _ _ (by simp (disch := first | decide | omega) only [up_k, t_ring_k]; exact t0) (by simp (disch := first | decide | omega) only [up_k, t_ring_k]; exact DTl_c (fun k a h => by simp (disch := first | decide | omega) only [up_k, t_ring_k]) hd) (by simp (disch := first | decide | omega) only [up_k, t_ring_k]; exact QT_c (fun k a h => by simp (disch := first | decide | omega) only [up_k, t_ring_k]) hQ) (by simp (disch := first | decide | omega) only [up_k, t_ring_k]; exact ht) (by omega)) (by decide) (by simp [rv_cat, int_cat]) (by first | decide | exact Nat.zero_le _ | omega) (by first | decide | exact Nat.zero_le _ | omega) (fun r_44 w_44 hr_44 hp_44 => ?_) (fun E w_ hx_ => hx_.elim)
    simp (disch := first | decide | omega) only [up_k, t_ring_k] at hp_44
    exact X_iret hO hF rfl (by first | exact Or.inl rfl | exact Or.inr ⟨rfl, bi_01 _⟩ | exact Or.inr ⟨rfl, by omega⟩) dX12_turnRing_47 ⟨_, rfl, (by omega), Or.inr ⟨by omega, hp_44⟩⟩
  ·
    refine X_iconst 16 hO dX12_turnRing_15 rfl ?_
    exact X_iret hO hF rfl (by first | exact Or.inl rfl | exact Or.inr ⟨rfl, bi_01 _⟩ | exact Or.inr ⟨rfl, by omega⟩) dX12_turnRing_16 ⟨_, rfl, (by omega), Or.inl ⟨by omega, rfl, rfl⟩⟩
