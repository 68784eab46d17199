/-! the list grows: a node is added -/
theorem dJ8_newLength_cabcc_0 : decode cJ8_newLength_cabcc 0 = .ok (.iload_n 0, 1) := by decide +kernel
theorem dJ8_newLength_cabcc_1 : decode cJ8_newLength_cabcc 1 = .ok (.iload_n 1, 1) := by decide +kernel
theorem dJ8_newLength_cabcc_2 : decode cJ8_newLength_cabcc 2 = .ok (.iload_n 2, 1) := by decide +kernel
theorem dJ8_newLength_cabcc_3 : decode cJ8_newLength_cabcc 3 = .ok (.invokestatic 194, 3) := by decide +kernel
theorem dJ8_newLength_cabcc_6 : decode cJ8_newLength_cabcc 6 = .ok (.iadd, 1) := by decide +kernel
theorem dJ8_newLength_cabcc_7 : decode cJ8_newLength_cabcc 7 = .ok (.istore_n 3, 1) := by decide +kernel
theorem dJ8_newLength_cabcc_8 : decode cJ8_newLength_cabcc 8 = .ok (.iconst 0, 1) := by decide +kernel
theorem dJ8_newLength_cabcc_9 : decode cJ8_newLength_cabcc 9 = .ok (.iload_n 3, 1) := by decide +kernel
theorem dJ8_newLength_cabcc_10 : decode cJ8_newLength_cabcc 10 = .ok (.if_icmp .ge 11, 3) := by decide +kernel
theorem dJ8_newLength_cabcc_13 : decode cJ8_newLength_cabcc 13 = .ok (.iload_n 3, 1) := by decide +kernel
theorem dJ8_newLength_cabcc_14 : decode cJ8_newLength_cabcc 14 = .ok (.ldc 200, 2) := by decide +kernel
theorem dJ8_newLength_cabcc_16 : decode cJ8_newLength_cabcc 16 = .ok (.if_icmp .gt 5, 3) := by decide +kernel
theorem dJ8_newLength_cabcc_19 : decode cJ8_newLength_cabcc 19 = .ok (.iload_n 3, 1) := by decide +kernel
theorem dJ8_newLength_cabcc_20 : decode cJ8_newLength_cabcc 20 = .ok (.ireturn, 1) := by decide +kernel
theorem dJ8_newLength_cabcc_21 : decode cJ8_newLength_cabcc 21 = .ok (.iload_n 0, 1) := by decide +kernel
theorem dJ8_newLength_cabcc_22 : decode cJ8_newLength_cabcc 22 = .ok (.iload_n 1, 1) := by decide +kernel
theorem dJ8_newLength_cabcc_23 : decode cJ8_newLength_cabcc 23 = .ok (.invokestatic 201, 3) := by decide +kernel
theorem dJ8_newLength_cabcc_26 : decode cJ8_newLength_cabcc 26 = .ok (.ireturn, 1) := by decide +kernel
set_option maxRecDepth 4000 in
theorem kJ8_newLength_cabcc (γ : LC) (w : Mm) (a b c : Int) (ha : 1 ≤ a ∧ a ≤ 100000) (hb : b = 1) (hc : 0 ≤ c ∧ c ≤ 100000) : KI γ 2 mJ8_newLength_cabcc [.int (I a), .int (I b), .int (I c)] w (0) (0) (fun r w' => (a < r ∧ r ≤ a + c + 1) ∧ w' = w) NX := by
  refine MX_of rfl rfl (by simp [rv_cat, int_cat]) rfl ?_
  rintro κ hO hF rfl
  have hD := hF.dp
  show X κ (0) (0) w 0 [some (.int (I a)), some (.int (I b)), some (.int (I c)), none] []
  obtain ⟨z, hz⟩ : ∃ z, z = (if b < c then c else b) := ⟨_, rfl⟩
  have hz1 : 1 ≤ z ∧ z ≤ c + 1 := by rw [hz]; split <;> omega
  have hw : Jvm.Cond.constant RJ8 200 (I 2147483639) ∈ lwG := by rw [show I 2147483639 = (2147483639 : Int32) from by decide]; exact w_357
  refine X_iload_n 1 hO dJ8_newLength_cabcc_0 rfl rfl ?_
  refine X_iload_n 2 hO dJ8_newLength_cabcc_1 rfl rfl ?_
  refine X_iload_n 3 hO dJ8_newLength_cabcc_2 rfl rfl ?_
  refine X_mmax 6 hO w_356 dJ8_newLength_cabcc_3 rfl (by omega) (by omega) hD (by decide) (by simp [rv_cat, int_cat]) ?_
  rw [← hz]
  refine X_iadd 7 hO dJ8_newLength_cabcc_6 rfl ?_
  refine X_istore_n 8 hO dJ8_newLength_cabcc_7 rfl rfl ?_
  refine X_iconst 9 hO dJ8_newLength_cabcc_8 rfl ?_
  refine X_iload_n 10 hO dJ8_newLength_cabcc_9 rfl rfl ?_
  refine X_icmp_ge 13 21 hO dJ8_newLength_cabcc_10 rfl rfl (by omega) (by omega) (fun hc_10 => ?_) (fun hc_10 => ?_)
  ·
    exfalso; omega
  ·
    refine X_iload_n 14 hO dJ8_newLength_cabcc_13 rfl rfl ?_
    refine X_ldc 16 hO hw dJ8_newLength_cabcc_14 rfl ?_
    refine X_icmp_gt 19 21 hO dJ8_newLength_cabcc_16 rfl rfl (by omega) (by omega) (fun hc_16 => ?_) (fun hc_16 => ?_)
    ·
      exfalso; omega
    ·
      refine X_iload_n 20 hO dJ8_newLength_cabcc_19 rfl rfl ?_
      exact X_iret hO hF rfl (by first | exact Or.inl rfl | exact Or.inr ⟨rfl, bi_01 _⟩ | exact Or.inr ⟨rfl, by omega⟩) dJ8_newLength_cabcc_20 ⟨_, rfl, (by omega), ⟨by omega, rfl⟩⟩
theorem dJ7_copyOf_6403c_0 : decode cJ7_copyOf_6403c 0 = .ok (.aload_n 2, 1) := by decide +kernel
theorem dJ7_copyOf_6403c_1 : decode cJ7_copyOf_6403c 1 = .ok (.ldc 110, 2) := by decide +kernel
theorem dJ7_copyOf_6403c_3 : decode cJ7_copyOf_6403c 3 = .ok (.if_acmp .ne 10, 3) := by decide +kernel
theorem dJ7_copyOf_6403c_6 : decode cJ7_copyOf_6403c 6 = .ok (.iload_n 1, 1) := by decide +kernel
theorem dJ7_copyOf_6403c_7 : decode cJ7_copyOf_6403c 7 = .ok (.anewarray 2, 3) := by decide +kernel
theorem dJ7_copyOf_6403c_10 : decode cJ7_copyOf_6403c 10 = .ok (.goto 14, 3) := by decide +kernel
theorem dJ7_copyOf_6403c_13 : decode cJ7_copyOf_6403c 13 = .ok (.aload_n 2, 1) := by decide +kernel
theorem dJ7_copyOf_6403c_14 : decode cJ7_copyOf_6403c 14 = .ok (.invokevirtual 90, 3) := by decide +kernel
theorem dJ7_copyOf_6403c_17 : decode cJ7_copyOf_6403c 17 = .ok (.iload_n 1, 1) := by decide +kernel
theorem dJ7_copyOf_6403c_18 : decode cJ7_copyOf_6403c 18 = .ok (.invokestatic 95, 3) := by decide +kernel
theorem dJ7_copyOf_6403c_21 : decode cJ7_copyOf_6403c 21 = .ok (.checkcast 110, 3) := by decide +kernel
theorem dJ7_copyOf_6403c_24 : decode cJ7_copyOf_6403c 24 = .ok (.astore_n 3, 1) := by decide +kernel
theorem dJ7_copyOf_6403c_25 : decode cJ7_copyOf_6403c 25 = .ok (.aload_n 0, 1) := by decide +kernel
theorem dJ7_copyOf_6403c_26 : decode cJ7_copyOf_6403c 26 = .ok (.iconst 0, 1) := by decide +kernel
theorem dJ7_copyOf_6403c_27 : decode cJ7_copyOf_6403c 27 = .ok (.aload_n 3, 1) := by decide +kernel
theorem dJ7_copyOf_6403c_28 : decode cJ7_copyOf_6403c 28 = .ok (.iconst 0, 1) := by decide +kernel
theorem dJ7_copyOf_6403c_29 : decode cJ7_copyOf_6403c 29 = .ok (.aload_n 0, 1) := by decide +kernel
theorem dJ7_copyOf_6403c_30 : decode cJ7_copyOf_6403c 30 = .ok (.arraylength, 1) := by decide +kernel
theorem dJ7_copyOf_6403c_31 : decode cJ7_copyOf_6403c 31 = .ok (.iload_n 1, 1) := by decide +kernel
theorem dJ7_copyOf_6403c_32 : decode cJ7_copyOf_6403c 32 = .ok (.invokestatic 304, 3) := by decide +kernel
theorem dJ7_copyOf_6403c_35 : decode cJ7_copyOf_6403c 35 = .ok (.invokestatic 150, 3) := by decide +kernel
theorem dJ7_copyOf_6403c_38 : decode cJ7_copyOf_6403c 38 = .ok (.aload_n 3, 1) := by decide +kernel
theorem dJ7_copyOf_6403c_39 : decode cJ7_copyOf_6403c 39 = .ok (.areturn, 1) := by decide +kernel
set_option maxRecDepth 4000 in
theorem kJ7_copyOf_6403c (γ : LC) (w : Mm) (a n : Int) (sS : Nat) (ta : w 0 a 0 = 27) (hl : 0 ≤ w 2 a 0 ∧ w 2 a 0 ≤ n) (hn2 : n ≤ 60000000) (hS : n ≤ sS) (hE : ∀ i, 0 ≤ i → i < w 2 a 0 → w 3 a i = 0 ∨ w 0 (w 3 a i) 0 = 5) : KR γ 2 mJ7_copyOf_6403c [rv a, .int (I n), .ref (γ.2.1.2 8)] w (1) (sS) (fun r w' => 0 < r ∧ w 0 r 0 = 0 ∧ w' = cpQ (newA w r 27 n) a r 0 0 (w 2 a 0)) NX := by
  refine MX_of rfl rfl (by simp [rv_cat, int_cat]; rfl) rfl ?_
  rintro κ hO hF rfl
  have hD := hF.dp
  show X κ (1) (sS) w 0 [some (rv a), some (.int (I n)), some (.ref ((kg κ).2 8)), none] []
  refine X_aload_nR 1 hO dJ7_copyOf_6403c_0 rfl rfl ?_
  refine X_ldcM 3 hO w_389 dJ7_copyOf_6403c_1 rfl ?_
  refine X_acmp_neR 6 13 hO dJ7_copyOf_6403c_3 rfl rfl ?_
  refine X_iload_n 7 hO dJ7_copyOf_6403c_6 rfl rfl ?_
  refine X_newq (t := 27) 10 hO rfl (by decide) w_391 (by decide) (by omega) (by omega) (by omega) dJ7_copyOf_6403c_7 rfl (fun q_7 hq_7 hf_7 => ?_)
  have hqa : a ≠ q_7 := fun e => by rw [e] at ta; omega
  refine X_goto hO dJ7_copyOf_6403c_10 (tgt := 24) rfl ?_
  refine X_astore_n 25 hO dJ7_copyOf_6403c_24 rfl rfl ?_
  refine X_aload_n 26 hO dJ7_copyOf_6403c_25 rfl rfl ?_
  refine X_iconst 27 hO dJ7_copyOf_6403c_26 rfl ?_
  refine X_aload_n 28 hO dJ7_copyOf_6403c_27 rfl rfl ?_
  refine X_iconst 29 hO dJ7_copyOf_6403c_28 rfl ?_
  refine X_aload_n 30 hO dJ7_copyOf_6403c_29 rfl rfl ?_
  refine X_alen (t := 27) 31 hO (by rw [newA_o hqa]; exact ta) (by decide) dJ7_copyOf_6403c_30 rfl (by rw [newA_o hqa]; omega) (fun hi_30 => ?_)
  try simp (disch := first | decide | assumption | omega) only [up_k, up_s, up_a, up_i, flA_k, flA_a, flA_n, cpA_k, cpA_a, newO_o, newA_o, newO_t, newA_t, newA_n, cpQ_k, cpQ_a] at hi_30 ⊢
  refine X_iload_n 32 hO dJ7_copyOf_6403c_31 rfl rfl ?_
  refine X_mmin 35 hO w_392 dJ7_copyOf_6403c_32 rfl (by omega) (by omega) hD (by decide) (by simp [rv_cat, int_cat]) ?_
  rw [show (if n < w 2 a 0 then n else w 2 a 0) = w 2 a 0 from by split <;> omega]
  refine X_copyq 38 hO w_395 dJ7_copyOf_6403c_35 rfl  (by rw [newA_o hqa]; exact ta) newA_t (by rw [newA_o hqa]; omega) (by rw [newA_n]; omega) (by omega) (fun j g1 g2 => by rw [newA_o hqa]; rcases hE j (by omega) (by omega) with z | z; exact Or.inl z; exact Or.inr (by rw [newA_o (fun e => by rw [e] at z; omega)]; exact z)) hD (by decide) (by simp [rv_cat, int_cat]) ?_
  refine X_aload_n 39 hO dJ7_copyOf_6403c_38 rfl rfl ?_
  exact X_aret hO hF rfl (by first | exact Or.inl ⟨_, rfl⟩ | exact Or.inr ⟨_, rfl⟩) dJ7_copyOf_6403c_39 ⟨_, rfl, ⟨hq_7, hf_7, rfl⟩⟩
theorem dJ7_copyOf_1904c_0 : decode cJ7_copyOf_1904c 0 = .ok (.aload_n 0, 1) := by decide +kernel
theorem dJ7_copyOf_1904c_1 : decode cJ7_copyOf_1904c 1 = .ok (.iload_n 1, 1) := by decide +kernel
theorem dJ7_copyOf_1904c_2 : decode cJ7_copyOf_1904c 2 = .ok (.aload_n 0, 1) := by decide +kernel
theorem dJ7_copyOf_1904c_3 : decode cJ7_copyOf_1904c 3 = .ok (.invokevirtual 86, 3) := by decide +kernel
theorem dJ7_copyOf_1904c_6 : decode cJ7_copyOf_1904c 6 = .ok (.invokestatic 300, 3) := by decide +kernel
theorem dJ7_copyOf_1904c_9 : decode cJ7_copyOf_1904c 9 = .ok (.areturn, 1) := by decide +kernel
set_option maxRecDepth 4000 in
theorem kJ7_copyOf_1904c (γ : LC) (w : Mm) (a n : Int) (sS : Nat) (ta : w 0 a 0 = 27) (hl : 0 ≤ w 2 a 0 ∧ w 2 a 0 ≤ n) (hn2 : n ≤ 60000000) (hS : n ≤ sS) (hE : ∀ i, 0 ≤ i → i < w 2 a 0 → w 3 a i = 0 ∨ w 0 (w 3 a i) 0 = 5) : KR γ 3 mJ7_copyOf_1904c [rv a, .int (I n)] w (1) (sS) (fun r w' => 0 < r ∧ w 0 r 0 = 0 ∧ w' = cpQ (newA w r 27 n) a r 0 0 (w 2 a 0)) NX := by
  refine MX_of rfl rfl (by simp [rv_cat, int_cat]) rfl ?_
  rintro κ hO hF rfl
  have hD := hF.dp
  show X κ (1) (sS) w 0 [some (rv a), some (.int (I n))] []
  refine X_aload_n 1 hO dJ7_copyOf_1904c_0 rfl rfl ?_
  refine X_iload_n 2 hO dJ7_copyOf_1904c_1 rfl rfl ?_
  refine X_aload_n 3 hO dJ7_copyOf_1904c_2 rfl rfl ?_
  refine X_getC 6 hO w_364 ta hD (by decide) (by simp [rv_cat, int_cat]) dJ7_copyOf_1904c_3 rfl ?_
  refine X_kSr 9 hO hD lJ7_300 [_, _, _] rfl dJ7_copyOf_1904c_6 rfl (kJ7_copyOf_6403c _ _ _ _ sS ta hl hn2 hS hE) (by decide) (by simp [rv_cat, int_cat]) (by first | decide | exact Nat.zero_le _ | omega) (by first | decide | exact Nat.zero_le _ | omega) (fun r_6 w_6 hp_6 => ?_) (fun E w_ hx_ => hx_.elim)
  exact X_aret hO hF rfl (by first | exact Or.inl ⟨_, rfl⟩ | exact Or.inr ⟨_, rfl⟩) dJ7_copyOf_1904c_9 ⟨_, rfl, hp_6⟩
/-- a list that has an array -/
def LSn (w : Mm) (l : Int) : Prop := LSt w l ∧ 1 ≤ w 2 (w 51 l 0) 0 ∧ EL5 w l
def a_grw (l q n : Int) (w : Mm) : Mm := up (cpQ (newA w q 27 n) (w 51 l 0) q 0 0 (w 2 (w 51 l 0) 0)) 51 l 0 q
theorem dJx4a65c_grow_92f84_0 : decode cJx4a65c_grow_92f84 0 = .ok (.aload_n 0, 1) := by decide +kernel
theorem dJx4a65c_grow_92f84_1 : decode cJx4a65c_grow_92f84 1 = .ok (.getfield 9, 3) := by decide +kernel
theorem dJx4a65c_grow_92f84_4 : decode cJx4a65c_grow_92f84 4 = .ok (.arraylength, 1) := by decide +kernel
theorem dJx4a65c_grow_92f84_5 : decode cJx4a65c_grow_92f84 5 = .ok (.istore_n 2, 1) := by decide +kernel
theorem dJx4a65c_grow_92f84_6 : decode cJx4a65c_grow_92f84 6 = .ok (.iload_n 2, 1) := by decide +kernel
theorem dJx4a65c_grow_92f84_7 : decode cJx4a65c_grow_92f84 7 = .ok (.ifCond .gt 13, 3) := by decide +kernel
theorem dJx4a65c_grow_92f84_10 : decode cJx4a65c_grow_92f84 10 = .ok (.aload_n 0, 1) := by decide +kernel
theorem dJx4a65c_grow_92f84_11 : decode cJx4a65c_grow_92f84 11 = .ok (.getfield 9, 3) := by decide +kernel
theorem dJx4a65c_grow_92f84_14 : decode cJx4a65c_grow_92f84 14 = .ok (.getstatic 39, 3) := by decide +kernel
theorem dJx4a65c_grow_92f84_17 : decode cJx4a65c_grow_92f84 17 = .ok (.if_acmp .eq 28, 3) := by decide +kernel
theorem dJx4a65c_grow_92f84_20 : decode cJx4a65c_grow_92f84 20 = .ok (.iload_n 2, 1) := by decide +kernel
theorem dJx4a65c_grow_92f84_21 : decode cJx4a65c_grow_92f84 21 = .ok (.iload_n 1, 1) := by decide +kernel
theorem dJx4a65c_grow_92f84_22 : decode cJx4a65c_grow_92f84 22 = .ok (.iload_n 2, 1) := by decide +kernel
theorem dJx4a65c_grow_92f84_23 : decode cJx4a65c_grow_92f84 23 = .ok (.isub, 1) := by decide +kernel
theorem dJx4a65c_grow_92f84_24 : decode cJx4a65c_grow_92f84 24 = .ok (.iload_n 2, 1) := by decide +kernel
theorem dJx4a65c_grow_92f84_25 : decode cJx4a65c_grow_92f84 25 = .ok (.iconst 1, 1) := by decide +kernel
theorem dJx4a65c_grow_92f84_26 : decode cJx4a65c_grow_92f84 26 = .ok (.ishr, 1) := by decide +kernel
theorem dJx4a65c_grow_92f84_27 : decode cJx4a65c_grow_92f84 27 = .ok (.invokestatic 73, 3) := by decide +kernel
theorem dJx4a65c_grow_92f84_30 : decode cJx4a65c_grow_92f84 30 = .ok (.istore_n 3, 1) := by decide +kernel
theorem dJx4a65c_grow_92f84_31 : decode cJx4a65c_grow_92f84 31 = .ok (.aload_n 0, 1) := by decide +kernel
theorem dJx4a65c_grow_92f84_32 : decode cJx4a65c_grow_92f84 32 = .ok (.aload_n 0, 1) := by decide +kernel
theorem dJx4a65c_grow_92f84_33 : decode cJx4a65c_grow_92f84 33 = .ok (.getfield 9, 3) := by decide +kernel
theorem dJx4a65c_grow_92f84_36 : decode cJx4a65c_grow_92f84 36 = .ok (.iload_n 3, 1) := by decide +kernel
theorem dJx4a65c_grow_92f84_37 : decode cJx4a65c_grow_92f84 37 = .ok (.invokestatic 66, 3) := by decide +kernel
theorem dJx4a65c_grow_92f84_40 : decode cJx4a65c_grow_92f84 40 = .ok (.dup_x1, 1) := by decide +kernel
theorem dJx4a65c_grow_92f84_41 : decode cJx4a65c_grow_92f84 41 = .ok (.putfield 9, 3) := by decide +kernel
theorem dJx4a65c_grow_92f84_44 : decode cJx4a65c_grow_92f84 44 = .ok (.areturn, 1) := by decide +kernel
theorem dJx4a65c_grow_92f84_45 : decode cJx4a65c_grow_92f84 45 = .ok (.aload_n 0, 1) := by decide +kernel
theorem dJx4a65c_grow_92f84_46 : decode cJx4a65c_grow_92f84 46 = .ok (.bipush 10, 2) := by decide +kernel
theorem dJx4a65c_grow_92f84_48 : decode cJx4a65c_grow_92f84 48 = .ok (.iload_n 1, 1) := by decide +kernel
theorem dJx4a65c_grow_92f84_49 : decode cJx4a65c_grow_92f84 49 = .ok (.invokestatic 79, 3) := by decide +kernel
theorem dJx4a65c_grow_92f84_52 : decode cJx4a65c_grow_92f84 52 = .ok (.anewarray 7, 3) := by decide +kernel
theorem dJx4a65c_grow_92f84_55 : decode cJx4a65c_grow_92f84 55 = .ok (.dup_x1, 1) := by decide +kernel
theorem dJx4a65c_grow_92f84_56 : decode cJx4a65c_grow_92f84 56 = .ok (.putfield 9, 3) := by decide +kernel
theorem dJx4a65c_grow_92f84_59 : decode cJx4a65c_grow_92f84 59 = .ok (.areturn, 1) := by decide +kernel
set_option maxRecDepth 4000 in
theorem kJx4a65c_grow_92f84 (γ : LC) (w : Mm) (l m : Int) (sS : Nat) (hl : LSn w l) (h93 : w 93 l 0 = w 2 (w 51 l 0) 0) (hm : m = w 2 (w 51 l 0) 0 + 1) (hS : w 93 l 0 + w 93 l 0 / 2 + 1 ≤ sS) (hS2 : sS ≤ 50000) : KR γ 5 mJx4a65c_grow_92f84 [rv l, .int (I m)] w (1) (sS) (fun r w' => (0 < r ∧ w 0 r 0 = 0) ∧ ∃ n, (w 2 (w 51 l 0) 0 < n ∧ n ≤ w 2 (w 51 l 0) 0 + w 2 (w 51 l 0) 0 / 2 + 1) ∧ w' = a_grw l r n w) NX := by
  refine MX_of rfl rfl (by simp [rv_cat, int_cat]) rfl ?_
  rintro κ hO hF rfl
  have hD := hF.dp
  show X κ (1) (sS) w 0 [some (rv l), some (.int (I m)), none, none] []
  obtain ⟨⟨l0, l1, l2, l3, l4⟩, l5, l7⟩ := id hl
  refine X_aload_n 1 hO dJx4a65c_grow_92f84_0 rfl rfl ?_
  refine gJx4a65c_9 4 hO dJx4a65c_grow_92f84_1 rfl (by first | assumption | omega | (simp (disch := first | decide | assumption | omega) only [up_k, up_s, up_a, up_i, flA_k, flA_a, flA_n, cpA_k, cpA_a, newO_o, newA_o, newO_t, newA_t, newA_n, cpQ_k, cpQ_a] <;> first | assumption | omega)) ?_
  try simp (disch := first | decide | assumption | omega) only [up_k, up_s, up_a, up_i, flA_k, flA_a, flA_n, cpA_k, cpA_a, newO_o, newA_o, newO_t, newA_t, newA_n, cpQ_k, cpQ_a]
  refine X_alen (t := 27) 5 hO (by first | assumption | omega | (simp (disch := first | decide | assumption | omega) only [up_k, up_s, up_a, up_i, flA_k, flA_a, flA_n, cpA_k, cpA_a, newO_o, newA_o, newO_t, newA_t, newA_n, cpQ_k, cpQ_a] <;> first | assumption | omega)) (by decide) dJx4a65c_grow_92f84_4 rfl (by first | assumption | omega | (simp (disch := first | decide | assumption | omega) only [up_k, up_s, up_a, up_i, flA_k, flA_a, flA_n, cpA_k, cpA_a, newO_o, newA_o, newO_t, newA_t, newA_n, cpQ_k, cpQ_a] <;> first | assumption | omega)) (fun hi_4 => ?_)
  try simp (disch := first | decide | assumption | omega) only [up_k, up_s, up_a, up_i, flA_k, flA_a, flA_n, cpA_k, cpA_a, newO_o, newA_o, newO_t, newA_t, newA_n, cpQ_k, cpQ_a] at hi_4 ⊢
  refine X_istore_n 6 hO dJx4a65c_grow_92f84_5 rfl rfl ?_
  refine X_iload_n 7 hO dJx4a65c_grow_92f84_6 rfl rfl ?_
  refine X_if_gt 10 20 hO dJx4a65c_grow_92f84_7 rfl rfl (by omega) (fun hc_7 => ?_) (fun hc_7 => ?_)
  ·
    refine X_iload_n 21 hO dJx4a65c_grow_92f84_20 rfl rfl ?_
    refine X_iload_n 22 hO dJx4a65c_grow_92f84_21 rfl rfl ?_
    refine X_iload_n 23 hO dJx4a65c_grow_92f84_22 rfl rfl ?_
    refine X_isub 24 hO dJx4a65c_grow_92f84_23 rfl ?_
    refine X_iload_n 25 hO dJx4a65c_grow_92f84_24 rfl rfl ?_
    refine X_iconst 26 hO dJx4a65c_grow_92f84_25 rfl ?_
    refine X_ishr 27 hO dJx4a65c_grow_92f84_26 rfl (I_shr _ 1 2 rfl (by decide) (by omega) (by omega)) ?_
    refine X_kSi 30 hO hD lJx4a65c_73 [_, _, _] rfl dJx4a65c_grow_92f84_27 rfl (kJ8_newLength_cabcc _ _ _ _ _ (by omega) (by omega) (by omega)) (by decide) (by simp [rv_cat, int_cat]) (by first | decide | exact Nat.zero_le _ | omega) (by first | decide | exact Nat.zero_le _ | omega) (fun r_27 w_27 hr_27 hp_27 => ?_) (fun E w_ hx_ => hx_.elim)
    obtain ⟨e1_27, e2_27⟩ := hp_27
    subst w_27
    refine X_istore_n 31 hO dJx4a65c_grow_92f84_30 rfl rfl ?_
    refine X_aload_n 32 hO dJx4a65c_grow_92f84_31 rfl rfl ?_
    refine X_aload_n 33 hO dJx4a65c_grow_92f84_32 rfl rfl ?_
    refine gJx4a65c_9 36 hO dJx4a65c_grow_92f84_33 rfl (by first | assumption | omega | (simp (disch := first | decide | assumption | omega) only [up_k, up_s, up_a, up_i, flA_k, flA_a, flA_n, cpA_k, cpA_a, newO_o, newA_o, newO_t, newA_t, newA_n, cpQ_k, cpQ_a] <;> first | assumption | omega)) ?_
    try simp (disch := first | decide | assumption | omega) only [up_k, up_s, up_a, up_i, flA_k, flA_a, flA_n, cpA_k, cpA_a, newO_o, newA_o, newO_t, newA_t, newA_n, cpQ_k, cpQ_a]
    refine X_iload_n 37 hO dJx4a65c_grow_92f84_36 rfl rfl ?_
    refine X_kSr 40 hO hD lJx4a65c_66 [_, _] rfl dJx4a65c_grow_92f84_37 rfl (kJ7_copyOf_1904c _ _ _ _ sS l1 (by omega) (by omega) (by omega) (fun i i0 i1 => l7 i i0 (by omega))) (by decide) (by simp [rv_cat, int_cat]) (by first | decide | exact Nat.zero_le _ | omega) (by first | decide | exact Nat.zero_le _ | omega) (fun r_37 w_37 hp_37 => ?_) (fun E w_ hx_ => hx_.elim)
    obtain ⟨c1, c2, c3⟩ := hp_37
    have hlr : l ≠ r_37 := fun e => by rw [e] at l0; omega
    have c4 : w_37 0 l 0 = 15 := by rw [c3, cpQ_k (by decide), newA_o hlr]; exact l0
    refine X_dup_x1 41 hO dJx4a65c_grow_92f84_40 rfl (by first | rfl | exact rv_cat _) (by first | rfl | exact rv_cat _) ?_
    refine pJx4a65c_9 44 hO dJx4a65c_grow_92f84_41 rfl (by first | assumption | omega | (simp (disch := first | decide | assumption | omega) only [up_k, up_s, up_a, up_i, flA_k, flA_a, flA_n, cpA_k, cpA_a, newO_o, newA_o, newO_t, newA_t, newA_n, cpQ_k, cpQ_a] <;> first | assumption | omega)) ?_
    exact X_aret hO hF rfl (by first | exact Or.inl ⟨_, rfl⟩ | exact Or.inr ⟨_, rfl⟩) dJx4a65c_grow_92f84_44 ⟨_, rfl, ⟨⟨c1, c2⟩, r_27, by omega, by rw [c3]; rfl⟩⟩
  ·
    exfalso; omega
theorem dJx4a65c_grow_d5877_0 : decode cJx4a65c_grow_d5877 0 = .ok (.aload_n 0, 1) := by decide +kernel
theorem dJx4a65c_grow_d5877_1 : decode cJx4a65c_grow_d5877 1 = .ok (.aload_n 0, 1) := by decide +kernel
theorem dJx4a65c_grow_d5877_2 : decode cJx4a65c_grow_d5877 2 = .ok (.getfield 48, 3) := by decide +kernel
theorem dJx4a65c_grow_d5877_5 : decode cJx4a65c_grow_d5877 5 = .ok (.iconst 1, 1) := by decide +kernel
theorem dJx4a65c_grow_d5877_6 : decode cJx4a65c_grow_d5877 6 = .ok (.iadd, 1) := by decide +kernel
theorem dJx4a65c_grow_d5877_7 : decode cJx4a65c_grow_d5877 7 = .ok (.invokevirtual 69, 3) := by decide +kernel
theorem dJx4a65c_grow_d5877_10 : decode cJx4a65c_grow_d5877 10 = .ok (.areturn, 1) := by decide +kernel
set_option maxRecDepth 4000 in
theorem kJx4a65c_grow_d5877 (γ : LC) (w : Mm) (l : Int) (sS : Nat) (hl : LSn w l) (hm : w 93 l 0 = w 2 (w 51 l 0) 0) (hS : w 93 l 0 + w 93 l 0 / 2 + 1 ≤ sS) (hS2 : sS ≤ 50000) : KR γ 6 mJx4a65c_grow_d5877 [rv l] w (1) (sS) (fun r w' => (0 < r ∧ w 0 r 0 = 0) ∧ ∃ n, (w 2 (w 51 l 0) 0 < n ∧ n ≤ w 2 (w 51 l 0) 0 + w 2 (w 51 l 0) 0 / 2 + 1) ∧ w' = a_grw l r n w) NX := by
  refine MX_of rfl rfl (by simp [rv_cat, int_cat]) rfl ?_
  rintro κ hO hF rfl
  have hD := hF.dp
  show X κ (1) (sS) w 0 [some (rv l)] []
  obtain ⟨⟨l0, l1, l2, l3, l4⟩, l5, l7⟩ := id hl
  refine X_aload_n 1 hO dJx4a65c_grow_d5877_0 rfl rfl ?_
  refine X_aload_n 2 hO dJx4a65c_grow_d5877_1 rfl rfl ?_
  refine gJx4a65c_48 5 hO dJx4a65c_grow_d5877_2 rfl (by first | assumption | omega | (simp (disch := first | decide | assumption | omega) only [up_k, up_s, up_a, up_i, flA_k, flA_a, flA_n, cpA_k, cpA_a, newO_o, newA_o, newO_t, newA_t, newA_n, cpQ_k, cpQ_a] <;> first | assumption | omega)) (fun hi_2 => ?_)
  try simp (disch := first | decide | assumption | omega) only [up_k, up_s, up_a, up_i, flA_k, flA_a, flA_n, cpA_k, cpA_a, newO_o, newA_o, newO_t, newA_t, newA_n, cpQ_k, cpQ_a] at hi_2 ⊢
  refine X_iconst 6 hO dJx4a65c_grow_d5877_5 rfl ?_
  refine X_iadd 7 hO dJx4a65c_grow_d5877_6 rfl ?_
  refine X_kVr (t := 15) 10 hO hD lJx4a65c_69 rfl (by decide) [_] rfl dJx4a65c_grow_d5877_7 rfl (by first | assumption | omega | (simp (disch := first | decide | assumption | omega) only [up_k, up_s, up_a, up_i, flA_k, flA_a, flA_n, cpA_k, cpA_a, newO_o, newA_o, newO_t, newA_t, newA_n, cpQ_k, cpQ_a] <;> first | assumption | omega)) (kJx4a65c_grow_92f84 _ _ _ _ sS hl hm (by omega) hS hS2) (by decide) (by simp [rv_cat, int_cat]) (by first | decide | exact Nat.zero_le _ | omega) (by first | decide | exact Nat.zero_le _ | omega) (fun r_7 w_7 hp_7 => ?_) (fun E w_ hx_ => hx_.elim)
  exact X_aret hO hF rfl (by first | exact Or.inl ⟨_, rfl⟩ | exact Or.inr ⟨_, rfl⟩) dJx4a65c_grow_d5877_10 ⟨_, rfl, hp_7⟩
/-- a node x comes behind the others -/
def a_put (l x : Int) (w : Mm) : Mm := up (up w 3 (w 51 l 0) (w 93 l 0) x) 93 l 0 (w 93 l 0 + 1)
def LAd (l x : Int) (w w' : Mm) : Prop := (w 93 l 0 ≠ w 2 (w 51 l 0) 0 ∧ w' = a_put l x w) ∨ (w 93 l 0 = w 2 (w 51 l 0) 0 ∧ ∃ q n, (0 < q ∧ w 0 q 0 = 0) ∧ (w 2 (w 51 l 0) 0 < n ∧ n ≤ w 2 (w 51 l 0) 0 + w 2 (w 51 l 0) 0 / 2 + 1) ∧ w' = a_put l x (a_grw l q n w))
theorem dJx4a65c_add_72be8_0 : decode cJx4a65c_add_72be8 0 = .ok (.iload_n 3, 1) := by decide +kernel
theorem dJx4a65c_add_72be8_1 : decode cJx4a65c_add_72be8 1 = .ok (.aload_n 2, 1) := by decide +kernel
theorem dJx4a65c_add_72be8_2 : decode cJx4a65c_add_72be8 2 = .ok (.arraylength, 1) := by decide +kernel
theorem dJx4a65c_add_72be8_3 : decode cJx4a65c_add_72be8 3 = .ok (.if_icmp .ne 8, 3) := by decide +kernel
theorem dJx4a65c_add_72be8_6 : decode cJx4a65c_add_72be8 6 = .ok (.aload_n 0, 1) := by decide +kernel
theorem dJx4a65c_add_72be8_7 : decode cJx4a65c_add_72be8 7 = .ok (.invokevirtual 129, 3) := by decide +kernel
theorem dJx4a65c_add_72be8_10 : decode cJx4a65c_add_72be8 10 = .ok (.astore_n 2, 1) := by decide +kernel
theorem dJx4a65c_add_72be8_11 : decode cJx4a65c_add_72be8 11 = .ok (.aload_n 2, 1) := by decide +kernel
theorem dJx4a65c_add_72be8_12 : decode cJx4a65c_add_72be8 12 = .ok (.iload_n 3, 1) := by decide +kernel
theorem dJx4a65c_add_72be8_13 : decode cJx4a65c_add_72be8 13 = .ok (.aload_n 1, 1) := by decide +kernel
theorem dJx4a65c_add_72be8_14 : decode cJx4a65c_add_72be8 14 = .ok (.aastore, 1) := by decide +kernel
theorem dJx4a65c_add_72be8_15 : decode cJx4a65c_add_72be8 15 = .ok (.aload_n 0, 1) := by decide +kernel
theorem dJx4a65c_add_72be8_16 : decode cJx4a65c_add_72be8 16 = .ok (.iload_n 3, 1) := by decide +kernel
theorem dJx4a65c_add_72be8_17 : decode cJx4a65c_add_72be8 17 = .ok (.iconst 1, 1) := by decide +kernel
theorem dJx4a65c_add_72be8_18 : decode cJx4a65c_add_72be8 18 = .ok (.iadd, 1) := by decide +kernel
theorem dJx4a65c_add_72be8_19 : decode cJx4a65c_add_72be8 19 = .ok (.putfield 48, 3) := by decide +kernel
theorem dJx4a65c_add_72be8_22 : decode cJx4a65c_add_72be8 22 = .ok (.return_, 1) := by decide +kernel
set_option maxRecDepth 4000 in
theorem kJx4a65c_add_72be8 (γ : LC) (w : Mm) (l x : Int) (sS : Nat) (hl : LSn w l) (hx : w 0 x 0 = 5) (hS : w 93 l 0 = w 2 (w 51 l 0) 0 → w 93 l 0 + w 93 l 0 / 2 + 1 ≤ sS) (hS2 : sS ≤ 50000) : KV γ 7 mJx4a65c_add_72be8 [rv l, rv x, rv (w 51 l 0), .int (I (w 93 l 0))] w (1) (sS) (fun w' => LAd l x w w') NX := by
  refine MX_of rfl rfl (by simp [rv_cat, int_cat]) rfl ?_
  rintro κ hO hF rfl
  have hD := hF.dp
  show X κ (1) (sS) w 0 [some (rv l), some (rv x), some (rv (w 51 l 0)), some (.int (I (w 93 l 0)))] []
  obtain ⟨⟨l0, l1, l2, l3, l4⟩, l5, l7⟩ := id hl
  refine X_iload_n 1 hO dJx4a65c_add_72be8_0 rfl rfl ?_
  refine X_aload_n 2 hO dJx4a65c_add_72be8_1 rfl rfl ?_
  refine X_alen (t := 27) 3 hO (by first | assumption | omega | (simp (disch := first | decide | assumption | omega) only [up_k, up_s, up_a, up_i, flA_k, flA_a, flA_n, cpA_k, cpA_a, newO_o, newA_o, newO_t, newA_t, newA_n, cpQ_k, cpQ_a] <;> first | assumption | omega)) (by decide) dJx4a65c_add_72be8_2 rfl (by first | assumption | omega | (simp (disch := first | decide | assumption | omega) only [up_k, up_s, up_a, up_i, flA_k, flA_a, flA_n, cpA_k, cpA_a, newO_o, newA_o, newO_t, newA_t, newA_n, cpQ_k, cpQ_a] <;> first | assumption | omega)) (fun hi_2 => ?_)
  try simp (disch := first | decide | assumption | omega) only [up_k, up_s, up_a, up_i, flA_k, flA_a, flA_n, cpA_k, cpA_a, newO_o, newA_o, newO_t, newA_t, newA_n, cpQ_k, cpQ_a] at hi_2 ⊢
  refine X_icmp_ne 6 11 hO dJx4a65c_add_72be8_3 rfl rfl (by omega) (by omega) (fun hc_3 => ?_) (fun hc_3 => ?_)
  ·
    refine X_aload_n 12 hO dJx4a65c_add_72be8_11 rfl rfl ?_
    refine X_iload_n 13 hO dJx4a65c_add_72be8_12 rfl rfl ?_
    refine X_aload_n 14 hO dJx4a65c_add_72be8_13 rfl rfl ?_
    refine X_aast (t := 27) (tv := 5) (C := "java/lang/Object") 15 hO rfl (by decide) (by decide) rfl (Or.inl (by decide)) dJx4a65c_add_72be8_14 rfl (by first | assumption | omega | (simp (disch := first | decide | assumption | omega) only [up_k, up_s, up_a, up_i, flA_k, flA_a, flA_n, cpA_k, cpA_a, newO_o, newA_o, newO_t, newA_t, newA_n, cpQ_k, cpQ_a] <;> first | assumption | omega)) (by first | assumption | omega | (simp (disch := first | decide | assumption | omega) only [up_k, up_s, up_a, up_i, flA_k, flA_a, flA_n, cpA_k, cpA_a, newO_o, newA_o, newO_t, newA_t, newA_n, cpQ_k, cpQ_a] <;> first | assumption | omega)) (by first | assumption | omega | (simp (disch := first | decide | assumption | omega) only [up_k, up_s, up_a, up_i, flA_k, flA_a, flA_n, cpA_k, cpA_a, newO_o, newA_o, newO_t, newA_t, newA_n, cpQ_k, cpQ_a] <;> first | assumption | omega)) ?_
    refine X_aload_n 16 hO dJx4a65c_add_72be8_15 rfl rfl ?_
    refine X_iload_n 17 hO dJx4a65c_add_72be8_16 rfl rfl ?_
    refine X_iconst 18 hO dJx4a65c_add_72be8_17 rfl ?_
    refine X_iadd 19 hO dJx4a65c_add_72be8_18 rfl ?_
    refine pJx4a65c_48 22 hO dJx4a65c_add_72be8_19 rfl (by first | assumption | omega | (simp (disch := first | decide | assumption | omega) only [up_k, up_s, up_a, up_i, flA_k, flA_a, flA_n, cpA_k, cpA_a, newO_o, newA_o, newO_t, newA_t, newA_n, cpQ_k, cpQ_a] <;> first | assumption | omega)) (by omega) ?_
    exact X_vret hO hF rfl dJx4a65c_add_72be8_22 ⟨rfl, (by first | exact Or.inl ⟨by omega, rfl⟩ | (refine Or.inr ⟨by omega, r_7, n, ⟨c1, c2⟩, c3, ?_⟩; rw [← c4]; unfold a_put; rw [c9, c10]))⟩
  ·
    refine X_aload_n 7 hO dJx4a65c_add_72be8_6 rfl rfl ?_
    refine X_kVr (t := 15) 10 hO hD lJx4a65c_129 rfl (by decide) [] rfl dJx4a65c_add_72be8_7 rfl (by first | assumption | omega | (simp (disch := first | decide | assumption | omega) only [up_k, up_s, up_a, up_i, flA_k, flA_a, flA_n, cpA_k, cpA_a, newO_o, newA_o, newO_t, newA_t, newA_n, cpQ_k, cpQ_a] <;> first | assumption | omega)) (kJx4a65c_grow_d5877 _ _ _ sS hl (by omega) (hS (by omega)) hS2) (by decide) (by simp [rv_cat, int_cat]) (by first | decide | exact Nat.zero_le _ | omega) (by first | decide | exact Nat.zero_le _ | omega) (fun r_7 w_7 hp_7 => ?_) (fun E w_ hx_ => hx_.elim)
    obtain ⟨⟨c1, c2⟩, n, c3, c4⟩ := hp_7
    have hlr : l ≠ r_7 := fun e => by rw [e] at l0; omega
    have hxr : x ≠ r_7 := fun e => by rw [e] at hx; omega
    have c5 : w_7 0 l 0 = 15 := by rw [c4]; unfold a_grw; rw [up_k _ (by decide), cpQ_k (by decide), newA_o hlr]; exact l0
    have c6 : w_7 0 x 0 = 5 := by rw [c4]; unfold a_grw; rw [up_k _ (by decide), cpQ_k (by decide), newA_o hxr]; exact hx
    have c7 : w_7 0 r_7 0 = 27 := by rw [c4]; unfold a_grw; rw [up_k _ (by decide), cpQ_k (by decide), newA_t]
    have c8 : w_7 2 r_7 0 = n := by rw [c4]; unfold a_grw; rw [up_k _ (by decide), cpQ_k (by decide), newA_n]
    have c9 : w_7 51 l 0 = r_7 := by rw [c4]; unfold a_grw; rw [up_s]
    have c10 : w_7 93 l 0 = w 93 l 0 := by rw [c4]; unfold a_grw; rw [up_k _ (by decide), cpQ_k (by decide), newA_o hlr]
    refine X_astore_n 11 hO dJx4a65c_add_72be8_10 rfl rfl ?_
    refine X_aload_n 12 hO dJx4a65c_add_72be8_11 rfl rfl ?_
    refine X_iload_n 13 hO dJx4a65c_add_72be8_12 rfl rfl ?_
    refine X_aload_n 14 hO dJx4a65c_add_72be8_13 rfl rfl ?_
    refine X_aast (t := 27) (tv := 5) (C := "java/lang/Object") 15 hO rfl (by decide) (by decide) rfl (Or.inl (by decide)) dJx4a65c_add_72be8_14 rfl (by first | assumption | omega | (simp (disch := first | decide | assumption | omega) only [up_k, up_s, up_a, up_i, flA_k, flA_a, flA_n, cpA_k, cpA_a, newO_o, newA_o, newO_t, newA_t, newA_n, cpQ_k, cpQ_a] <;> first | assumption | omega)) (by first | assumption | omega | (simp (disch := first | decide | assumption | omega) only [up_k, up_s, up_a, up_i, flA_k, flA_a, flA_n, cpA_k, cpA_a, newO_o, newA_o, newO_t, newA_t, newA_n, cpQ_k, cpQ_a] <;> first | assumption | omega)) (by first | assumption | omega | (simp (disch := first | decide | assumption | omega) only [up_k, up_s, up_a, up_i, flA_k, flA_a, flA_n, cpA_k, cpA_a, newO_o, newA_o, newO_t, newA_t, newA_n, cpQ_k, cpQ_a] <;> first | assumption | omega)) ?_
    refine X_aload_n 16 hO dJx4a65c_add_72be8_15 rfl rfl ?_
    refine X_iload_n 17 hO dJx4a65c_add_72be8_16 rfl rfl ?_
    refine X_iconst 18 hO dJx4a65c_add_72be8_17 rfl ?_
    refine X_iadd 19 hO dJx4a65c_add_72be8_18 rfl ?_
    refine pJx4a65c_48 22 hO dJx4a65c_add_72be8_19 rfl (by first | assumption | omega | (simp (disch := first | decide | assumption | omega) only [up_k, up_s, up_a, up_i, flA_k, flA_a, flA_n, cpA_k, cpA_a, newO_o, newA_o, newO_t, newA_t, newA_n, cpQ_k, cpQ_a] <;> first | assumption | omega)) (by omega) ?_
    exact X_vret hO hF rfl dJx4a65c_add_72be8_22 ⟨rfl, (by first | exact Or.inl ⟨by omega, rfl⟩ | (refine Or.inr ⟨by omega, r_7, n, ⟨c1, c2⟩, c3, ?_⟩; rw [← c4]; unfold a_put; rw [c9, c10]))⟩
theorem dJx4a65c_add_9ea2d_0 : decode cJx4a65c_add_9ea2d 0 = .ok (.aload_n 0, 1) := by decide +kernel
theorem dJx4a65c_add_9ea2d_1 : decode cJx4a65c_add_9ea2d 1 = .ok (.dup, 1) := by decide +kernel
theorem dJx4a65c_add_9ea2d_2 : decode cJx4a65c_add_9ea2d 2 = .ok (.getfield 63, 3) := by decide +kernel
theorem dJx4a65c_add_9ea2d_5 : decode cJx4a65c_add_9ea2d 5 = .ok (.iconst 1, 1) := by decide +kernel
theorem dJx4a65c_add_9ea2d_6 : decode cJx4a65c_add_9ea2d 6 = .ok (.iadd, 1) := by decide +kernel
theorem dJx4a65c_add_9ea2d_7 : decode cJx4a65c_add_9ea2d 7 = .ok (.putfield 63, 3) := by decide +kernel
theorem dJx4a65c_add_9ea2d_10 : decode cJx4a65c_add_9ea2d 10 = .ok (.aload_n 0, 1) := by decide +kernel
theorem dJx4a65c_add_9ea2d_11 : decode cJx4a65c_add_9ea2d 11 = .ok (.aload_n 1, 1) := by decide +kernel
theorem dJx4a65c_add_9ea2d_12 : decode cJx4a65c_add_9ea2d 12 = .ok (.aload_n 0, 1) := by decide +kernel
theorem dJx4a65c_add_9ea2d_13 : decode cJx4a65c_add_9ea2d 13 = .ok (.getfield 9, 3) := by decide +kernel
theorem dJx4a65c_add_9ea2d_16 : decode cJx4a65c_add_9ea2d 16 = .ok (.aload_n 0, 1) := by decide +kernel
theorem dJx4a65c_add_9ea2d_17 : decode cJx4a65c_add_9ea2d 17 = .ok (.getfield 48, 3) := by decide +kernel
theorem dJx4a65c_add_9ea2d_20 : decode cJx4a65c_add_9ea2d 20 = .ok (.invokevirtual 131, 3) := by decide +kernel
theorem dJx4a65c_add_9ea2d_23 : decode cJx4a65c_add_9ea2d 23 = .ok (.iconst 1, 1) := by decide +kernel
theorem dJx4a65c_add_9ea2d_24 : decode cJx4a65c_add_9ea2d 24 = .ok (.ireturn, 1) := by decide +kernel
set_option maxRecDepth 4000 in
theorem kJx4a65c_add_9ea2d (γ : LC) (w : Mm) (l x : Int) (sS : Nat) (hl : LSn w l) (hx : w 0 x 0 = 5) (hS : w 93 l 0 = w 2 (w 51 l 0) 0 → w 93 l 0 + w 93 l 0 / 2 + 1 ≤ sS) (hS2 : sS ≤ 50000) (h92 : IR (w 92 l 0 + 1)) : KI γ 8 mJx4a65c_add_9ea2d [rv l, rv x] w (1) (sS) (fun r w' => r = 1 ∧ LAd l x (up w 92 l 0 (w 92 l 0 + 1)) w') NX := by
  refine MX_of rfl rfl (by simp [rv_cat, int_cat]) rfl ?_
  rintro κ hO hF rfl
  have hD := hF.dp
  show X κ (1) (sS) w 0 [some (rv l), some (rv x)] []
  obtain ⟨⟨l0, l1, l2, l3, l4⟩, l5, l7⟩ := id hl
  have hl2 : LSn (up w 92 l 0 (w 92 l 0 + 1)) l := by unfold LSn LSt EL5; simp (disch := decide) only [up_k]; exact hl
  refine X_aload_n 1 hO dJx4a65c_add_9ea2d_0 rfl rfl ?_
  refine X_dup 2 hO dJx4a65c_add_9ea2d_1 rfl (by first | rfl | exact rv_cat _) ?_
  refine gJx4a65c_63 5 hO dJx4a65c_add_9ea2d_2 rfl (by first | assumption | omega | (simp (disch := first | decide | assumption | omega) only [up_k, up_s, up_a, up_i, flA_k, flA_a, flA_n, cpA_k, cpA_a, newO_o, newA_o, newO_t, newA_t, newA_n, cpQ_k, cpQ_a] <;> first | assumption | omega)) (fun hi_2 => ?_)
  try simp (disch := first | decide | assumption | omega) only [up_k, up_s, up_a, up_i, flA_k, flA_a, flA_n, cpA_k, cpA_a, newO_o, newA_o, newO_t, newA_t, newA_n, cpQ_k, cpQ_a] at hi_2 ⊢
  refine X_iconst 6 hO dJx4a65c_add_9ea2d_5 rfl ?_
  refine X_iadd 7 hO dJx4a65c_add_9ea2d_6 rfl ?_
  refine pJx4a65c_63 10 hO dJx4a65c_add_9ea2d_7 rfl (by first | assumption | omega | (simp (disch := first | decide | assumption | omega) only [up_k, up_s, up_a, up_i, flA_k, flA_a, flA_n, cpA_k, cpA_a, newO_o, newA_o, newO_t, newA_t, newA_n, cpQ_k, cpQ_a] <;> first | assumption | omega)) (by omega) ?_
  refine X_aload_n 11 hO dJx4a65c_add_9ea2d_10 rfl rfl ?_
  refine X_aload_n 12 hO dJx4a65c_add_9ea2d_11 rfl rfl ?_
  refine X_aload_n 13 hO dJx4a65c_add_9ea2d_12 rfl rfl ?_
  refine gJx4a65c_9 16 hO dJx4a65c_add_9ea2d_13 rfl (by first | assumption | omega | (simp (disch := first | decide | assumption | omega) only [up_k, up_s, up_a, up_i, flA_k, flA_a, flA_n, cpA_k, cpA_a, newO_o, newA_o, newO_t, newA_t, newA_n, cpQ_k, cpQ_a] <;> first | assumption | omega)) ?_
  try simp (disch := first | decide | assumption | omega) only [up_k, up_s, up_a, up_i, flA_k, flA_a, flA_n, cpA_k, cpA_a, newO_o, newA_o, newO_t, newA_t, newA_n, cpQ_k, cpQ_a]
  refine X_aload_n 17 hO dJx4a65c_add_9ea2d_16 rfl rfl ?_
  refine gJx4a65c_48 20 hO dJx4a65c_add_9ea2d_17 rfl (by first | assumption | omega | (simp (disch := first | decide | assumption | omega) only [up_k, up_s, up_a, up_i, flA_k, flA_a, flA_n, cpA_k, cpA_a, newO_o, newA_o, newO_t, newA_t, newA_n, cpQ_k, cpQ_a] <;> first | assumption | omega)) (fun hi_17 => ?_)
  try simp (disch := first | decide | assumption | omega) only [up_k, up_s, up_a, up_i, flA_k, flA_a, flA_n, cpA_k, cpA_a, newO_o, newA_o, newO_t, newA_t, newA_n, cpQ_k, cpQ_a] at hi_17 ⊢
  rw [show w 51 l 0 = up w 92 l 0 (w 92 l 0 + 1) 51 l 0 from (up_k _ (by decide) _ _ _ _ _).symm, show w 93 l 0 = up w 92 l 0 (w 92 l 0 + 1) 93 l 0 from (up_k _ (by decide) _ _ _ _ _).symm]
  refine X_kVv (t := 15) 23 hO hD lJx4a65c_131 rfl (by decide) [_, _, _] rfl dJx4a65c_add_9ea2d_20 rfl (by first | assumption | omega | (simp (disch := first | decide | assumption | omega) only [up_k, up_s, up_a, up_i, flA_k, flA_a, flA_n, cpA_k, cpA_a, newO_o, newA_o, newO_t, newA_t, newA_n, cpQ_k, cpQ_a] <;> first | assumption | omega)) (kJx4a65c_add_72be8 _ _ _ _ sS hl2 (by rw [up_k _ (by decide)]; exact hx) (by rw [up_k _ (by decide), up_k _ (by decide), up_k _ (by decide)]; exact hS) hS2) (by decide) (by simp [rv_cat, int_cat]) (by first | decide | exact Nat.zero_le _ | omega) (by first | decide | exact Nat.zero_le _ | omega) (fun w_20 hp_20 => ?_) (fun E w_ hx_ => hx_.elim)
  refine X_iconst 24 hO dJx4a65c_add_9ea2d_23 rfl ?_
  exact X_iret hO hF rfl (by first | exact Or.inl rfl | exact Or.inr ⟨rfl, bi_01 _⟩ | exact Or.inr ⟨rfl, by omega⟩) dJx4a65c_add_9ea2d_24 ⟨_, rfl, (by omega), ⟨rfl, hp_20⟩⟩
