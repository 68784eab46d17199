/-! THE CLASS: the state's own methods, each with its exact function on the world -/
theorem int_cat (v : Int32) : (Value.int v).category = 1 := rfl
theorem X_mono {κ : KC} {P S P1 S1 : Nat} {w : Mm} {pc : Nat} {ls : List (Option Value)} {st : List Value} (h1 : P1 ≤ P) (h2 : S1 ≤ S) (k : X κ P1 S1 w pc ls st) : X κ P S w pc ls st := fun H locs la a b q1 q2 q3 q4 q5 q6 => k H locs la a b q1 q2 q3 q4 (by omega) (by omega)
theorem flA_d {w : Mm} {c : Nat} {b lo n v : Int} {f : Int → Int} (hn : 0 ≤ n) (hv : v = f lo) : up (flA w c b (lo + 1) n f) c b lo v = flA w c b lo (n + 1) f := by
  funext c' a i
  simp only [up, flA]
  by_cases h : c' = c ∧ a = b
  · by_cases h2 : i = lo
    · rw [if_pos ⟨h.1, h.2, h2⟩, if_pos ⟨h.1, h.2, by omega, by omega⟩, hv, h2]
    · rw [if_neg (fun x => h2 x.2.2)]
      by_cases h3 : lo + 1 ≤ i ∧ i < lo + 1 + n
      · rw [if_pos ⟨h.1, h.2, h3⟩, if_pos ⟨h.1, h.2, by omega, by omega⟩]
      · rw [if_neg (fun x => h3 x.2.2), if_neg (fun x => by omega)]
  · rw [if_neg (fun x => h ⟨x.1, x.2.1⟩), if_neg (fun x => h ⟨x.1, x.2.1⟩), if_neg (fun x => h ⟨x.1, x.2.1⟩)]
theorem up_comm {w : Mm} {c c' : Nat} {a a' i i' v v' : Int} (h : c ≠ c' ∨ a ≠ a' ∨ i ≠ i') : up (up w c a i v) c' a' i' v' = up (up w c' a' i' v') c a i v := by
  funext k b j
  simp only [up]
  by_cases h1 : k = c' ∧ b = a' ∧ j = i'
  · by_cases h2 : k = c ∧ b = a ∧ j = i
    · exfalso
      rcases h with h | h | h
      · exact h (h2.1.symm.trans h1.1)
      · exact h (h2.2.1.symm.trans h1.2.1)
      · exact h (h2.2.2.symm.trans h1.2.2)
    · rw [if_pos h1, if_neg h2, if_pos h1]
  · rw [if_neg h1, if_neg h1]
theorem flA_up {w : Mm} {c c' : Nat} {b a lo n i v : Int} {f : Int → Int} (h : c ≠ c' ∨ a ≠ b) : up (flA w c b lo n f) c' a i v = flA (up w c' a i v) c b lo n f := by
  funext k x j
  simp only [up, flA]
  by_cases h1 : k = c' ∧ x = a ∧ j = i
  · have : ¬ (k = c ∧ x = b ∧ lo ≤ j ∧ j < lo + n) := by
      intro h2
      rcases h with h | h
      · exact h (h2.1.symm.trans h1.1)
      · exact h (h1.2.1.symm.trans h2.2.1)
    rw [if_pos h1, if_neg this, if_pos h1]
  · rw [if_neg h1, if_neg h1]
/-- a state's shape -/
def ST (w : Mm) (s : Int) : Prop := w 0 s 0 = 6 ∧ (w 0 (w 28 s 0) 0 = 20 ∧ w 0 (w 29 s 0) 0 = 20 ∧ w 0 (w 30 s 0) 0 = 21 ∧ w 0 (w 31 s 0) 0 = 23) ∧ (w 2 (w 29 s 0) 0 = 6 ∧ w 2 (w 30 s 0) 0 = 6 ∧ w 2 (w 31 s 0) 0 = 8) ∧ w 28 s 0 ≠ w 29 s 0
def m_slt (r : Int) : Int := if r = 4 then 4 else 1
def m_ecn (w : Mm) (s r : Int) : Int := if fnd (fun i => w 3 (w 31 s 0) i) 0 (m_slt r).toNat r = -1 then m_slt r else fnd (fun i => w 3 (w 31 s 0) i) 0 (m_slt r).toNat r - r
def s_push (s c : Int) (w : Mm) : Mm := up (flA w 3 (w 31 s 0) 5 3 (fun i => w 3 (w 31 s 0) (i - 1))) 3 (w 31 s 0) 4 c
theorem dX5_placeAfterInsertion_0 : decode cX5_placeAfterInsertion 0 = .ok (.iload_n 0, 1) := by decide +kernel
theorem dX5_placeAfterInsertion_1 : decode cX5_placeAfterInsertion 1 = .ok (.iload_n 2, 1) := by decide +kernel
theorem dX5_placeAfterInsertion_2 : decode cX5_placeAfterInsertion 2 = .ok (.if_icmp .gt 12, 3) := by decide +kernel
theorem dX5_placeAfterInsertion_5 : decode cX5_placeAfterInsertion 5 = .ok (.iload_n 1, 1) := by decide +kernel
theorem dX5_placeAfterInsertion_6 : decode cX5_placeAfterInsertion 6 = .ok (.ifCond .eq 14, 3) := by decide +kernel
theorem dX5_placeAfterInsertion_9 : decode cX5_placeAfterInsertion 9 = .ok (.iload_n 0, 1) := by decide +kernel
theorem dX5_placeAfterInsertion_10 : decode cX5_placeAfterInsertion 10 = .ok (.iload_n 2, 1) := by decide +kernel
theorem dX5_placeAfterInsertion_11 : decode cX5_placeAfterInsertion 11 = .ok (.if_icmp .ne 9, 3) := by decide +kernel
theorem dX5_placeAfterInsertion_14 : decode cX5_placeAfterInsertion 14 = .ok (.iload_n 0, 1) := by decide +kernel
theorem dX5_placeAfterInsertion_15 : decode cX5_placeAfterInsertion 15 = .ok (.iload_n 3, 1) := by decide +kernel
theorem dX5_placeAfterInsertion_16 : decode cX5_placeAfterInsertion 16 = .ok (.iadd, 1) := by decide +kernel
theorem dX5_placeAfterInsertion_17 : decode cX5_placeAfterInsertion 17 = .ok (.goto 4, 3) := by decide +kernel
theorem dX5_placeAfterInsertion_20 : decode cX5_placeAfterInsertion 20 = .ok (.iload_n 0, 1) := by decide +kernel
theorem dX5_placeAfterInsertion_21 : decode cX5_placeAfterInsertion 21 = .ok (.ireturn, 1) := by decide +kernel
set_option maxRecDepth 4000 in
theorem kX5_placeAfterInsertion (γ : LC) (w : Mm) (p b q k : Int) (hp : IR p) (hb : b = 0 ∨ b = 1) (hq : IR q) (hk : IR (p + k)) : KI γ 1 mX5_placeAfterInsertion [.int (I p), .int (I b), .int (I q), .int (I k)] w (0) (0) (fun r w' => r = mvF p q k b ∧ w' = w) NX := by
  refine MX_of rfl rfl (by simp [rv_cat, int_cat]) rfl ?_
  rintro κ hO hF rfl
  have hD := hF.dp
  show X κ (0) (0) w 0 [some (.int (I p)), some (.int (I b)), some (.int (I q)), some (.int (I k))] []
  have JP21 : ∀ (z : Int), (z = mvF p q k b) → (IR z) → X κ (0) (0) (w) 21 [some (.int (I p)), some (.int (I b)), some (.int (I q)), some (.int (I k))] [.int (I z)] := by
    intro z hz hzi
    exact X_iret hO hF rfl (by first | exact Or.inl rfl | exact Or.inr ⟨rfl, bi_01 _⟩ | exact Or.inr ⟨rfl, by omega⟩) dX5_placeAfterInsertion_21 ⟨_, rfl, (by omega), ⟨hz, rfl⟩⟩
  refine X_iload_n 1 hO dX5_placeAfterInsertion_0 rfl rfl ?_
  refine X_iload_n 2 hO dX5_placeAfterInsertion_1 rfl rfl ?_
  refine X_icmp_gt 5 14 hO dX5_placeAfterInsertion_2 rfl rfl (by omega) (by omega) (fun hc_2 => ?_) (fun hc_2 => ?_)
  ·
    refine X_iload_n 15 hO dX5_placeAfterInsertion_14 rfl rfl ?_
    refine X_iload_n 16 hO dX5_placeAfterInsertion_15 rfl rfl ?_
    refine X_iadd 17 hO dX5_placeAfterInsertion_16 rfl ?_
    refine X_goto hO dX5_placeAfterInsertion_17 (tgt := 21) rfl ?_
    exact JP21 _ (by unfold mvF; first | rw [if_pos (by omega)] | rw [if_neg (by omega)]) (by omega)
  ·
    refine X_iload_n 6 hO dX5_placeAfterInsertion_5 rfl rfl ?_
    refine X_if_eq 9 20 hO dX5_placeAfterInsertion_6 rfl rfl (by omega) (fun hc_6 => ?_) (fun hc_6 => ?_)
    ·
      try simp only [bi_0, bi_ne, ne_eq, Classical.not_not] at hc_6
      refine X_iload_n 21 hO dX5_placeAfterInsertion_20 rfl rfl ?_
      exact JP21 _ (by unfold mvF; first | rw [if_pos (by omega)] | rw [if_neg (by omega)]) (by omega)
    ·
      try simp only [bi_0, bi_ne, ne_eq, Classical.not_not] at hc_6
      refine X_iload_n 10 hO dX5_placeAfterInsertion_9 rfl rfl ?_
      refine X_iload_n 11 hO dX5_placeAfterInsertion_10 rfl rfl ?_
      refine X_icmp_ne 14 20 hO dX5_placeAfterInsertion_11 rfl rfl (by omega) (by omega) (fun hc_11 => ?_) (fun hc_11 => ?_)
      ·
        refine X_iload_n 21 hO dX5_placeAfterInsertion_20 rfl rfl ?_
        exact JP21 _ (by unfold mvF; first | rw [if_pos (by omega)] | rw [if_neg (by omega)]) (by omega)
      ·
        refine X_iload_n 15 hO dX5_placeAfterInsertion_14 rfl rfl ?_
        refine X_iload_n 16 hO dX5_placeAfterInsertion_15 rfl rfl ?_
        refine X_iadd 17 hO dX5_placeAfterInsertion_16 rfl ?_
        refine X_goto hO dX5_placeAfterInsertion_17 (tgt := 21) rfl ?_
        exact JP21 _ (by unfold mvF; first | rw [if_pos (by omega)] | rw [if_neg (by omega)]) (by omega)
theorem dX5_placeAfterDeletion_0 : decode cX5_placeAfterDeletion 0 = .ok (.iload_n 0, 1) := by decide +kernel
theorem dX5_placeAfterDeletion_1 : decode cX5_placeAfterDeletion 1 = .ok (.iload_n 1, 1) := by decide +kernel
theorem dX5_placeAfterDeletion_2 : decode cX5_placeAfterDeletion 2 = .ok (.iload_n 2, 1) := by decide +kernel
theorem dX5_placeAfterDeletion_3 : decode cX5_placeAfterDeletion 3 = .ok (.iadd, 1) := by decide +kernel
theorem dX5_placeAfterDeletion_4 : decode cX5_placeAfterDeletion 4 = .ok (.if_icmp .le 9, 3) := by decide +kernel
theorem dX5_placeAfterDeletion_7 : decode cX5_placeAfterDeletion 7 = .ok (.iload_n 0, 1) := by decide +kernel
theorem dX5_placeAfterDeletion_8 : decode cX5_placeAfterDeletion 8 = .ok (.iload_n 2, 1) := by decide +kernel
theorem dX5_placeAfterDeletion_9 : decode cX5_placeAfterDeletion 9 = .ok (.isub, 1) := by decide +kernel
theorem dX5_placeAfterDeletion_10 : decode cX5_placeAfterDeletion 10 = .ok (.goto 8, 3) := by decide +kernel
theorem dX5_placeAfterDeletion_13 : decode cX5_placeAfterDeletion 13 = .ok (.iload_n 0, 1) := by decide +kernel
theorem dX5_placeAfterDeletion_14 : decode cX5_placeAfterDeletion 14 = .ok (.iload_n 1, 1) := by decide +kernel
theorem dX5_placeAfterDeletion_15 : decode cX5_placeAfterDeletion 15 = .ok (.invokestatic 34, 3) := by decide +kernel
theorem dX5_placeAfterDeletion_18 : decode cX5_placeAfterDeletion 18 = .ok (.ireturn, 1) := by decide +kernel
set_option maxRecDepth 4000 in
theorem kX5_placeAfterDeletion (γ : LC) (w : Mm) (p q k : Int) (hp : IR p) (hq : IR q) (hk : IR (q + k)) (hk2 : IR (p - k)) : KI γ 2 mX5_placeAfterDeletion [.int (I p), .int (I q), .int (I k)] w (0) (0) (fun r w' => r = dbF p q k ∧ w' = w) NX := by
  refine MX_of rfl rfl (by simp [rv_cat, int_cat]) rfl ?_
  rintro κ hO hF rfl
  have hD := hF.dp
  show X κ (0) (0) w 0 [some (.int (I p)), some (.int (I q)), some (.int (I k))] []
  have JP18 : ∀ (z : Int), (z = dbF p q k) → (IR z) → X κ (0) (0) (w) 18 [some (.int (I p)), some (.int (I q)), some (.int (I k))] [.int (I z)] := by
    intro z hz hzi
    exact X_iret hO hF rfl (by first | exact Or.inl rfl | exact Or.inr ⟨rfl, bi_01 _⟩ | exact Or.inr ⟨rfl, by omega⟩) dX5_placeAfterDeletion_18 ⟨_, rfl, (by omega), ⟨hz, rfl⟩⟩
  refine X_iload_n 1 hO dX5_placeAfterDeletion_0 rfl rfl ?_
  refine X_iload_n 2 hO dX5_placeAfterDeletion_1 rfl rfl ?_
  refine X_iload_n 3 hO dX5_placeAfterDeletion_2 rfl rfl ?_
  refine X_iadd 4 hO dX5_placeAfterDeletion_3 rfl ?_
  refine X_icmp_le 7 13 hO dX5_placeAfterDeletion_4 rfl rfl (by omega) (by omega) (fun hc_4 => ?_) (fun hc_4 => ?_)
  ·
    refine X_iload_n 14 hO dX5_placeAfterDeletion_13 rfl rfl ?_
    refine X_iload_n 15 hO dX5_placeAfterDeletion_14 rfl rfl ?_
    refine X_mmin 18 hO w_880 dX5_placeAfterDeletion_15 rfl (by omega) (by omega) hD (by decide) (by simp [rv_cat, int_cat]) ?_
    exact JP18 _ (by unfold dbF; (repeat (first | rw [if_pos (by omega)] | rw [if_neg (by omega)])); (try first | rfl | omega)) (by first | omega | (split <;> omega))
  ·
    refine X_iload_n 8 hO dX5_placeAfterDeletion_7 rfl rfl ?_
    refine X_iload_n 9 hO dX5_placeAfterDeletion_8 rfl rfl ?_
    refine X_isub 10 hO dX5_placeAfterDeletion_9 rfl ?_
    refine X_goto hO dX5_placeAfterDeletion_10 (tgt := 18) rfl ?_
    exact JP18 _ (by unfold dbF; (repeat (first | rw [if_pos (by omega)] | rw [if_neg (by omega)])); (try first | rfl | omega)) (by first | omega | (split <;> omega))
theorem dX5_slots_0 : decode cX5_slots 0 = .ok (.iload_n 0, 1) := by decide +kernel
theorem dX5_slots_1 : decode cX5_slots 1 = .ok (.iconst 4, 1) := by decide +kernel
theorem dX5_slots_2 : decode cX5_slots 2 = .ok (.if_icmp .ne 7, 3) := by decide +kernel
theorem dX5_slots_5 : decode cX5_slots 5 = .ok (.iconst 4, 1) := by decide +kernel
theorem dX5_slots_6 : decode cX5_slots 6 = .ok (.goto 4, 3) := by decide +kernel
theorem dX5_slots_9 : decode cX5_slots 9 = .ok (.iconst 1, 1) := by decide +kernel
theorem dX5_slots_10 : decode cX5_slots 10 = .ok (.ireturn, 1) := by decide +kernel
set_option maxRecDepth 4000 in
theorem kX5_slots (γ : LC) (w : Mm) (r0 : Int) (hr : IR r0) : KI γ 1 mX5_slots [.int (I r0)] w (0) (0) (fun r w' => r = m_slt r0 ∧ w' = w) NX := by
  refine MX_of rfl rfl (by simp [rv_cat, int_cat]) rfl ?_
  rintro κ hO hF rfl
  have hD := hF.dp
  show X κ (0) (0) w 0 [some (.int (I r0))] []
  have JP10 : ∀ (z : Int), (z = m_slt r0) → (IR z) → X κ (0) (0) (w) 10 [some (.int (I r0))] [.int (I z)] := by
    intro z hz hzi
    exact X_iret hO hF rfl (by first | exact Or.inl rfl | exact Or.inr ⟨rfl, bi_01 _⟩ | exact Or.inr ⟨rfl, by omega⟩) dX5_slots_10 ⟨_, rfl, (by omega), ⟨hz, rfl⟩⟩
  refine X_iload_n 1 hO dX5_slots_0 rfl rfl ?_
  refine X_iconst 2 hO dX5_slots_1 rfl ?_
  refine X_icmp_ne 5 9 hO dX5_slots_2 rfl rfl (by omega) (by omega) (fun hc_2 => ?_) (fun hc_2 => ?_)
  ·
    refine X_iconst 10 hO dX5_slots_9 rfl ?_
    exact JP10 _ (by unfold m_slt; first | rw [if_pos (by omega)] | rw [if_neg (by omega)]) (by omega)
  ·
    refine X_iconst 6 hO dX5_slots_5 rfl ?_
    refine X_goto hO dX5_slots_6 (tgt := 10) rfl ?_
    exact JP10 _ (by unfold m_slt; first | rw [if_pos (by omega)] | rw [if_neg (by omega)]) (by omega)
theorem dX5_entry_0 : decode cX5_entry 0 = .ok (.aload_n 0, 1) := by decide +kernel
theorem dX5_entry_1 : decode cX5_entry 1 = .ok (.getfield 21, 3) := by decide +kernel
theorem dX5_entry_4 : decode cX5_entry 4 = .ok (.iload_n 1, 1) := by decide +kernel
theorem dX5_entry_5 : decode cX5_entry 5 = .ok (.iload_n 2, 1) := by decide +kernel
theorem dX5_entry_6 : decode cX5_entry 6 = .ok (.iadd, 1) := by decide +kernel
theorem dX5_entry_7 : decode cX5_entry 7 = .ok (.aaload, 1) := by decide +kernel
theorem dX5_entry_8 : decode cX5_entry 8 = .ok (.areturn, 1) := by decide +kernel
set_option maxRecDepth 4000 in
theorem kX5_entry (γ : LC) (w : Mm) (s r0 e : Int) (hs : ST w s) (hr : 0 ≤ r0 + e ∧ r0 + e < 8) : KR γ 1 mX5_entry [rv s, .int (I r0), .int (I e)] w (0) (0) (fun r w' => r = w 3 (w 31 s 0) (r0 + e) ∧ w' = w) NX := by
  refine MX_of rfl rfl (by simp [rv_cat, int_cat]) rfl ?_
  rintro κ hO hF rfl
  have hD := hF.dp
  show X κ (0) (0) w 0 [some (rv s), some (.int (I r0)), some (.int (I e))] []
  obtain ⟨t0, ⟨t1, t2, t3, t4⟩, ⟨t5, t6, t7⟩, t8⟩ := hs
  refine X_aload_n 1 hO dX5_entry_0 rfl rfl ?_
  refine gX5_21 4 hO dX5_entry_1 rfl (by first | assumption | omega | (simp (disch := first | decide | assumption | omega) only [up_k, up_s, up_a, up_i, flA_k, flA_a, newO_o, newA_o]; first | assumption | omega)) ?_
  try simp (disch := first | decide | assumption | omega) only [up_k, up_s, up_a, up_i, flA_k, flA_a, newO_o, newA_o]
  refine X_iload_n 5 hO dX5_entry_4 rfl rfl ?_
  refine X_iload_n 6 hO dX5_entry_5 rfl rfl ?_
  refine X_iadd 7 hO dX5_entry_6 rfl ?_
  refine X_aald (t := 23) (C := "Foldback$Chars") 8 hO rfl (by decide) dX5_entry_7 rfl (by first | assumption | omega | (simp (disch := first | decide | assumption | omega) only [up_k, up_s, up_a, up_i, flA_k, flA_a, newO_o, newA_o]; first | assumption | omega)) (by first | assumption | omega | (simp (disch := first | decide | assumption | omega) only [up_k, up_s, up_a, up_i, flA_k, flA_a, newO_o, newA_o]; first | assumption | omega)) ?_
  try simp (disch := first | decide | assumption | omega) only [up_k, up_s, up_a, up_i, flA_k, flA_a, newO_o, newA_o]
  exact X_aret hO hF rfl (by first | exact Or.inl ⟨_, rfl⟩ | exact Or.inr ⟨_, rfl⟩) dX5_entry_8 ⟨_, rfl, ⟨rfl, rfl⟩⟩
theorem dX5_entryCount_0 : decode cX5_entryCount 0 = .ok (.iconst 0, 1) := by decide +kernel
theorem dX5_entryCount_1 : decode cX5_entryCount 1 = .ok (.istore_n 2, 1) := by decide +kernel
theorem dX5_entryCount_2 : decode cX5_entryCount 2 = .ok (.iload_n 2, 1) := by decide +kernel
theorem dX5_entryCount_3 : decode cX5_entryCount 3 = .ok (.iload_n 1, 1) := by decide +kernel
theorem dX5_entryCount_4 : decode cX5_entryCount 4 = .ok (.invokestatic 61, 3) := by decide +kernel
theorem dX5_entryCount_7 : decode cX5_entryCount 7 = .ok (.if_icmp .ge 20, 3) := by decide +kernel
theorem dX5_entryCount_10 : decode cX5_entryCount 10 = .ok (.aload_n 0, 1) := by decide +kernel
theorem dX5_entryCount_11 : decode cX5_entryCount 11 = .ok (.getfield 21, 3) := by decide +kernel
theorem dX5_entryCount_14 : decode cX5_entryCount 14 = .ok (.iload_n 1, 1) := by decide +kernel
theorem dX5_entryCount_15 : decode cX5_entryCount 15 = .ok (.iload_n 2, 1) := by decide +kernel
theorem dX5_entryCount_16 : decode cX5_entryCount 16 = .ok (.iadd, 1) := by decide +kernel
theorem dX5_entryCount_17 : decode cX5_entryCount 17 = .ok (.aaload, 1) := by decide +kernel
theorem dX5_entryCount_18 : decode cX5_entryCount 18 = .ok (.ifnull 9, 3) := by decide +kernel
theorem dX5_entryCount_21 : decode cX5_entryCount 21 = .ok (.iinc 2 1, 3) := by decide +kernel
theorem dX5_entryCount_24 : decode cX5_entryCount 24 = .ok (.goto (-22), 3) := by decide +kernel
theorem dX5_entryCount_27 : decode cX5_entryCount 27 = .ok (.iload_n 2, 1) := by decide +kernel
theorem dX5_entryCount_28 : decode cX5_entryCount 28 = .ok (.ireturn, 1) := by decide +kernel
set_option maxRecDepth 4000 in
theorem kX5_entryCount (γ : LC) (w : Mm) (s r0 : Int) (hs : ST w s) (hr : 0 ≤ r0 ∧ r0 ≤ 4) : KI γ 2 mX5_entryCount [rv s, .int (I r0)] w (0) (0) (fun r w' => r = m_ecn w s r0 ∧ w' = w) NX := by
  refine MX_of rfl rfl (by simp [rv_cat, int_cat]) rfl ?_
  rintro κ hO hF rfl
  have hD := hF.dp
  show X κ (0) (0) w 0 [some (rv s), some (.int (I r0)), none] []
  obtain ⟨t0, ⟨t1, t2, t3, t4⟩, ⟨t5, t6, t7⟩, t8⟩ := hs
  have hsl : 1 ≤ m_slt r0 ∧ m_slt r0 + r0 ≤ 8 ∧ m_slt r0 ≤ 4 := by unfold m_slt; split <;> omega
  refine X_iconst 1 hO dX5_entryCount_0 rfl ?_
  refine X_istore_n 2 hO dX5_entryCount_1 rfl rfl ?_
  have LP2 : ∀ (nn : Nat) (j : Int), (m_slt r0 - j).toNat < nn → (0 ≤ j ∧ j ≤ m_slt r0) → (fnd (fun i => w 3 (w 31 s 0) i) 0 (m_slt r0).toNat r0 = fnd (fun i => w 3 (w 31 s 0) i) 0 (m_slt r0 - j).toNat (r0 + j)) → X κ (0) (0) (w) 2 [some (rv s), some (.int (I r0)), some (.int (I j))] [] := by
    intro nn
    induction nn with
    | zero => intro j hm; exact absurd hm (Nat.not_lt_zero _)
    | succ nn ih =>
      intro j hm hj hE
      refine X_iload_n 3 hO dX5_entryCount_2 rfl rfl ?_
      refine X_iload_n 4 hO dX5_entryCount_3 rfl rfl ?_
      refine X_kSi 7 hO hD lX5_61 [_] rfl dX5_entryCount_4 rfl (kX5_slots _ _ _ (by omega)) (by decide) (by simp [rv_cat, int_cat]) (by first | decide | exact Nat.zero_le _ | omega) (by first | decide | exact Nat.zero_le _ | omega) (fun r_4 w_4 hr_4 hp_4 => ?_) (fun E w_ hx_ => hx_.elim)
      obtain ⟨e1_4, e2_4⟩ := hp_4
      subst r_4
      subst w_4
      refine X_icmp_ge 10 27 hO dX5_entryCount_7 rfl rfl (by omega) (by omega) (fun hc_7 => ?_) (fun hc_7 => ?_)
      ·
        refine X_iload_n 28 hO dX5_entryCount_27 rfl rfl ?_
        exact X_iret hO hF rfl (by first | exact Or.inl rfl | exact Or.inr ⟨rfl, bi_01 _⟩ | exact Or.inr ⟨rfl, by omega⟩) dX5_entryCount_28 ⟨_, rfl, (by omega), ⟨by unfold m_ecn; first | (rw [hE.trans (fnd_no (by omega)), if_pos rfl]; omega) | (rw [hE.trans (fnd_hit (by omega) (by omega)), if_neg (by omega)]; omega), rfl⟩⟩
      ·
        refine X_aload_n 11 hO dX5_entryCount_10 rfl rfl ?_
        refine gX5_21 14 hO dX5_entryCount_11 rfl (by first | assumption | omega | (simp (disch := first | decide | assumption | omega) only [up_k, up_s, up_a, up_i, flA_k, flA_a, newO_o, newA_o]; first | assumption | omega)) ?_
        try simp (disch := first | decide | assumption | omega) only [up_k, up_s, up_a, up_i, flA_k, flA_a, newO_o, newA_o]
        refine X_iload_n 15 hO dX5_entryCount_14 rfl rfl ?_
        refine X_iload_n 16 hO dX5_entryCount_15 rfl rfl ?_
        refine X_iadd 17 hO dX5_entryCount_16 rfl ?_
        refine X_aald (t := 23) (C := "Foldback$Chars") 18 hO rfl (by decide) dX5_entryCount_17 rfl (by first | assumption | omega | (simp (disch := first | decide | assumption | omega) only [up_k, up_s, up_a, up_i, flA_k, flA_a, newO_o, newA_o]; first | assumption | omega)) (by first | assumption | omega | (simp (disch := first | decide | assumption | omega) only [up_k, up_s, up_a, up_i, flA_k, flA_a, newO_o, newA_o]; first | assumption | omega)) ?_
        try simp (disch := first | decide | assumption | omega) only [up_k, up_s, up_a, up_i, flA_k, flA_a, newO_o, newA_o]
        refine X_ifnull 21 27 hO dX5_entryCount_18 rfl rfl (fun hc_18 => ?_) (fun hc_18 => ?_)
        ·
          refine X_iload_n 28 hO dX5_entryCount_27 rfl rfl ?_
          exact X_iret hO hF rfl (by first | exact Or.inl rfl | exact Or.inr ⟨rfl, bi_01 _⟩ | exact Or.inr ⟨rfl, by omega⟩) dX5_entryCount_28 ⟨_, rfl, (by omega), ⟨by unfold m_ecn; first | (rw [hE.trans (fnd_no (by omega)), if_pos rfl]; omega) | (rw [hE.trans (fnd_hit (by omega) (by omega)), if_neg (by omega)]; omega), rfl⟩⟩
        ·
          refine X_iinc 24 hO dX5_entryCount_21 rfl rfl ?_
          refine X_goto hO dX5_entryCount_24 (tgt := 2) rfl ?_
          exact ih (j + 1) (by omega) (by omega) (hE.trans (by rw [show (m_slt r0 - j).toNat = (m_slt r0 - (j + 1)).toNat + 1 by omega]; simp only [fnd]; rw [if_neg (by omega), show r0 + j + 1 = r0 + (j + 1) by omega]))
  exact LP2 _ 0 (Nat.lt_succ_self _) (by omega) (by rw [show m_slt r0 - 0 = m_slt r0 by omega, show r0 + 0 = r0 by omega])
theorem dX5_pushOnRing_0 : decode cX5_pushOnRing 0 = .ok (.iconst 3, 1) := by decide +kernel
theorem dX5_pushOnRing_1 : decode cX5_pushOnRing 1 = .ok (.istore_n 2, 1) := by decide +kernel
theorem dX5_pushOnRing_2 : decode cX5_pushOnRing 2 = .ok (.iload_n 2, 1) := by decide +kernel
theorem dX5_pushOnRing_3 : decode cX5_pushOnRing 3 = .ok (.ifCond .le 27, 3) := by decide +kernel
theorem dX5_pushOnRing_6 : decode cX5_pushOnRing 6 = .ok (.aload_n 0, 1) := by decide +kernel
theorem dX5_pushOnRing_7 : decode cX5_pushOnRing 7 = .ok (.getfield 21, 3) := by decide +kernel
theorem dX5_pushOnRing_10 : decode cX5_pushOnRing 10 = .ok (.iconst 4, 1) := by decide +kernel
theorem dX5_pushOnRing_11 : decode cX5_pushOnRing 11 = .ok (.iload_n 2, 1) := by decide +kernel
theorem dX5_pushOnRing_12 : decode cX5_pushOnRing 12 = .ok (.iadd, 1) := by decide +kernel
theorem dX5_pushOnRing_13 : decode cX5_pushOnRing 13 = .ok (.aload_n 0, 1) := by decide +kernel
theorem dX5_pushOnRing_14 : decode cX5_pushOnRing 14 = .ok (.getfield 21, 3) := by decide +kernel
theorem dX5_pushOnRing_17 : decode cX5_pushOnRing 17 = .ok (.iconst 4, 1) := by decide +kernel
theorem dX5_pushOnRing_18 : decode cX5_pushOnRing 18 = .ok (.iload_n 2, 1) := by decide +kernel
theorem dX5_pushOnRing_19 : decode cX5_pushOnRing 19 = .ok (.iadd, 1) := by decide +kernel
theorem dX5_pushOnRing_20 : decode cX5_pushOnRing 20 = .ok (.iconst 1, 1) := by decide +kernel
theorem dX5_pushOnRing_21 : decode cX5_pushOnRing 21 = .ok (.isub, 1) := by decide +kernel
theorem dX5_pushOnRing_22 : decode cX5_pushOnRing 22 = .ok (.aaload, 1) := by decide +kernel
theorem dX5_pushOnRing_23 : decode cX5_pushOnRing 23 = .ok (.aastore, 1) := by decide +kernel
theorem dX5_pushOnRing_24 : decode cX5_pushOnRing 24 = .ok (.iinc 2 (-1), 3) := by decide +kernel
theorem dX5_pushOnRing_27 : decode cX5_pushOnRing 27 = .ok (.goto (-25), 3) := by decide +kernel
theorem dX5_pushOnRing_30 : decode cX5_pushOnRing 30 = .ok (.aload_n 0, 1) := by decide +kernel
theorem dX5_pushOnRing_31 : decode cX5_pushOnRing 31 = .ok (.getfield 21, 3) := by decide +kernel
theorem dX5_pushOnRing_34 : decode cX5_pushOnRing 34 = .ok (.iconst 4, 1) := by decide +kernel
theorem dX5_pushOnRing_35 : decode cX5_pushOnRing 35 = .ok (.aload_n 1, 1) := by decide +kernel
theorem dX5_pushOnRing_36 : decode cX5_pushOnRing 36 = .ok (.aastore, 1) := by decide +kernel
theorem dX5_pushOnRing_37 : decode cX5_pushOnRing 37 = .ok (.return_, 1) := by decide +kernel
set_option maxRecDepth 4000 in
theorem kX5_pushOnRing (γ : LC) (w : Mm) (s c : Int) (hs : ST w s) (hc : c = 0 ∨ w 0 c 0 = 1) (hE : ∀ i, 4 ≤ i → i < 8 → w 3 (w 31 s 0) i = 0 ∨ w 0 (w 3 (w 31 s 0) i) 0 = 1) : KV γ 1 mX5_pushOnRing [rv s, rv c] w (0) (0) (fun w' => w' = s_push s c w) NX := by
  refine MX_of rfl rfl (by simp [rv_cat, int_cat]) rfl ?_
  rintro κ hO hF rfl
  have hD := hF.dp
  show X κ (0) (0) w 0 [some (rv s), some (rv c), none] []
  obtain ⟨t0, ⟨t1, t2, t3, t4⟩, ⟨t5, t6, t7⟩, t8⟩ := hs
  refine X_iconst 1 hO dX5_pushOnRing_0 rfl ?_
  refine X_istore_n 2 hO dX5_pushOnRing_1 rfl rfl ?_
  have LP2 : ∀ (nn : Nat) (j : Int), j.toNat < nn → (0 ≤ j ∧ j ≤ 3) → X κ (0) (0) (flA w 3 (w 31 s 0) (4 + j + 1) (3 - j) (fun i => w 3 (w 31 s 0) (i - 1))) 2 [some (rv s), some (rv c), some (.int (I j))] [] := by
    intro nn
    induction nn with
    | zero => intro j hm; exact absurd hm (Nat.not_lt_zero _)
    | succ nn ih =>
      intro j hm hj
      refine X_iload_n 3 hO dX5_pushOnRing_2 rfl rfl ?_
      refine X_if_le 6 30 hO dX5_pushOnRing_3 rfl rfl (by omega) (fun hc_3 => ?_) (fun hc_3 => ?_)
      ·
        refine X_aload_n 31 hO dX5_pushOnRing_30 rfl rfl ?_
        refine gX5_21 34 hO dX5_pushOnRing_31 rfl (by first | assumption | omega | (simp (disch := first | decide | assumption | omega) only [up_k, up_s, up_a, up_i, flA_k, flA_a, newO_o, newA_o]; first | assumption | omega)) ?_
        try simp (disch := first | decide | assumption | omega) only [up_k, up_s, up_a, up_i, flA_k, flA_a, newO_o, newA_o]
        refine X_iconst 35 hO dX5_pushOnRing_34 rfl ?_
        refine X_aload_n 36 hO dX5_pushOnRing_35 rfl rfl ?_
        refine X_aast (t := 23) (tv := 1) (C := "Foldback$Chars") 37 hO rfl (by decide) (by decide) rfl (Or.inr rfl) dX5_pushOnRing_36 rfl (by first | assumption | omega | (simp (disch := first | decide | assumption | omega) only [up_k, up_s, up_a, up_i, flA_k, flA_a, newO_o, newA_o]; first | assumption | omega)) (by first | assumption | omega | (simp (disch := first | decide | assumption | omega) only [up_k, up_s, up_a, up_i, flA_k, flA_a, newO_o, newA_o]; first | assumption | omega)) (by first | assumption | omega | (simp (disch := first | decide | assumption | omega) only [up_k, up_s, up_a, up_i, flA_k, flA_a, newO_o, newA_o]; first | assumption | omega)) ?_
        exact X_vret hO hF rfl dX5_pushOnRing_37 ⟨rfl, (by have ej : j = 0 := (by omega); subst ej; rfl)⟩
      ·
        refine X_aload_n 7 hO dX5_pushOnRing_6 rfl rfl ?_
        refine gX5_21 10 hO dX5_pushOnRing_7 rfl (by first | assumption | omega | (simp (disch := first | decide | assumption | omega) only [up_k, up_s, up_a, up_i, flA_k, flA_a, newO_o, newA_o]; first | assumption | omega)) ?_
        try simp (disch := first | decide | assumption | omega) only [up_k, up_s, up_a, up_i, flA_k, flA_a, newO_o, newA_o]
        refine X_iconst 11 hO dX5_pushOnRing_10 rfl ?_
        refine X_iload_n 12 hO dX5_pushOnRing_11 rfl rfl ?_
        refine X_iadd 13 hO dX5_pushOnRing_12 rfl ?_
        refine X_aload_n 14 hO dX5_pushOnRing_13 rfl rfl ?_
        refine gX5_21 17 hO dX5_pushOnRing_14 rfl (by first | assumption | omega | (simp (disch := first | decide | assumption | omega) only [up_k, up_s, up_a, up_i, flA_k, flA_a, newO_o, newA_o]; first | assumption | omega)) ?_
        try simp (disch := first | decide | assumption | omega) only [up_k, up_s, up_a, up_i, flA_k, flA_a, newO_o, newA_o]
        refine X_iconst 18 hO dX5_pushOnRing_17 rfl ?_
        refine X_iload_n 19 hO dX5_pushOnRing_18 rfl rfl ?_
        refine X_iadd 20 hO dX5_pushOnRing_19 rfl ?_
        refine X_iconst 21 hO dX5_pushOnRing_20 rfl ?_
        refine X_isub 22 hO dX5_pushOnRing_21 rfl ?_
        refine X_aald (t := 23) (C := "Foldback$Chars") 23 hO rfl (by decide) dX5_pushOnRing_22 rfl (by first | assumption | omega | (simp (disch := first | decide | assumption | omega) only [up_k, up_s, up_a, up_i, flA_k, flA_a, newO_o, newA_o]; first | assumption | omega)) (by first | assumption | omega | (simp (disch := first | decide | assumption | omega) only [up_k, up_s, up_a, up_i, flA_k, flA_a, newO_o, newA_o]; first | assumption | omega)) ?_
        try simp (disch := first | decide | assumption | omega) only [up_k, up_s, up_a, up_i, flA_k, flA_a, newO_o, newA_o]
        rw [flA_v, if_neg (by omega)]
        refine X_aast (t := 23) (tv := 1) (C := "Foldback$Chars") 24 hO rfl (by decide) (by decide) rfl (Or.inr rfl) dX5_pushOnRing_23 rfl (by first | assumption | omega | (simp (disch := first | decide | assumption | omega) only [up_k, up_s, up_a, up_i, flA_k, flA_a, newO_o, newA_o]; first | assumption | omega)) (by first | assumption | omega | (simp (disch := first | decide | assumption | omega) only [up_k, up_s, up_a, up_i, flA_k, flA_a, newO_o, newA_o]; first | assumption | omega)) (by have := hE (4 + j - 1) (by omega) (by omega); simp (disch := decide) only [flA_k]; exact this) ?_
        refine X_iinc 27 hO dX5_pushOnRing_24 rfl rfl ?_
        refine X_goto hO dX5_pushOnRing_27 (tgt := 2) rfl ?_
        refine X_eqW (w2 := flA w 3 (w 31 s 0) (4 + (j + -1) + 1) (3 - (j + -1)) (fun i => w 3 (w 31 s 0) (i - 1))) ?_ (ih (j + -1) (by omega) (by omega))
        rw [show 4 + (j + -1) + 1 = 4 + j by omega, show 3 - (j + -1) = 3 - j + 1 by omega]
        exact flA_d (by omega) rfl
  exact X_eqW (w2 := flA w 3 (w 31 s 0) (4 + 3 + 1) (3 - 3) (fun i => w 3 (w 31 s 0) (i - 1))) flA_0.symm (LP2 _ 3 (Nat.lt_succ_self _) (by omega))
