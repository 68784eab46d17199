/-! listeners, traces and the tree are made -/
theorem flA_s0 {w : Mm} {c : Nat} {b i v : Int} {f : Int → Int} (hi : 0 ≤ i) (hv : v = f i) : up (flA w c b 0 i f) c b i v = flA w c b 0 (i + 1) f := by
  have h := flA_s (w := w) (c := c) (b := b) (lo := 0) (n := i) (v := v) (f := f) hi (by rw [Int.zero_add]; exact hv)
  rw [Int.zero_add] at h
  exact h
theorem dX2_init_0 : decode cX2_init 0 = .ok (.aload_n 0, 1) := by decide +kernel
theorem dX2_init_1 : decode cX2_init 1 = .ok (.invokespecial 3, 3) := by decide +kernel
theorem dX2_init_4 : decode cX2_init 4 = .ok (.aload_n 0, 1) := by decide +kernel
theorem dX2_init_5 : decode cX2_init 5 = .ok (.iconst 3, 1) := by decide +kernel
theorem dX2_init_6 : decode cX2_init 6 = .ok (.newarray .boolean, 2) := by decide +kernel
theorem dX2_init_8 : decode cX2_init 8 = .ok (.putfield 9, 3) := by decide +kernel
theorem dX2_init_11 : decode cX2_init 11 = .ok (.aload_n 0, 1) := by decide +kernel
theorem dX2_init_12 : decode cX2_init 12 = .ok (.iconst 3, 1) := by decide +kernel
theorem dX2_init_13 : decode cX2_init 13 = .ok (.newarray .int, 2) := by decide +kernel
theorem dX2_init_15 : decode cX2_init 15 = .ok (.putfield 15, 3) := by decide +kernel
theorem dX2_init_18 : decode cX2_init 18 = .ok (.aload_n 0, 1) := by decide +kernel
theorem dX2_init_19 : decode cX2_init 19 = .ok (.iconst 3, 1) := by decide +kernel
theorem dX2_init_20 : decode cX2_init 20 = .ok (.newarray .int, 2) := by decide +kernel
theorem dX2_init_22 : decode cX2_init 22 = .ok (.putfield 19, 3) := by decide +kernel
theorem dX2_init_25 : decode cX2_init 25 = .ok (.aload_n 0, 1) := by decide +kernel
theorem dX2_init_26 : decode cX2_init 26 = .ok (.iconst 3, 1) := by decide +kernel
theorem dX2_init_27 : decode cX2_init 27 = .ok (.newarray .int, 2) := by decide +kernel
theorem dX2_init_29 : decode cX2_init 29 = .ok (.putfield 22, 3) := by decide +kernel
theorem dX2_init_32 : decode cX2_init 32 = .ok (.aload_n 0, 1) := by decide +kernel
theorem dX2_init_33 : decode cX2_init 33 = .ok (.bipush 8, 2) := by decide +kernel
theorem dX2_init_35 : decode cX2_init 35 = .ok (.newarray .int, 2) := by decide +kernel
theorem dX2_init_37 : decode cX2_init 37 = .ok (.putfield 25, 3) := by decide +kernel
theorem dX2_init_40 : decode cX2_init 40 = .ok (.aload_n 0, 1) := by decide +kernel
theorem dX2_init_41 : decode cX2_init 41 = .ok (.bipush 8, 2) := by decide +kernel
theorem dX2_init_43 : decode cX2_init 43 = .ok (.newarray .int, 2) := by decide +kernel
theorem dX2_init_45 : decode cX2_init 45 = .ok (.putfield 28, 3) := by decide +kernel
theorem dX2_init_48 : decode cX2_init 48 = .ok (.iconst 0, 1) := by decide +kernel
theorem dX2_init_49 : decode cX2_init 49 = .ok (.istore_n 1, 1) := by decide +kernel
theorem dX2_init_50 : decode cX2_init 50 = .ok (.iload_n 1, 1) := by decide +kernel
theorem dX2_init_51 : decode cX2_init 51 = .ok (.bipush 8, 2) := by decide +kernel
theorem dX2_init_53 : decode cX2_init 53 = .ok (.if_icmp .ge 16, 3) := by decide +kernel
theorem dX2_init_56 : decode cX2_init 56 = .ok (.aload_n 0, 1) := by decide +kernel
theorem dX2_init_57 : decode cX2_init 57 = .ok (.getfield 25, 3) := by decide +kernel
theorem dX2_init_60 : decode cX2_init 60 = .ok (.iload_n 1, 1) := by decide +kernel
theorem dX2_init_61 : decode cX2_init 61 = .ok (.iconst (-1), 1) := by decide +kernel
theorem dX2_init_62 : decode cX2_init 62 = .ok (.iastore, 1) := by decide +kernel
theorem dX2_init_63 : decode cX2_init 63 = .ok (.iinc 1 1, 3) := by decide +kernel
theorem dX2_init_66 : decode cX2_init 66 = .ok (.goto (-16), 3) := by decide +kernel
theorem dX2_init_69 : decode cX2_init 69 = .ok (.return_, 1) := by decide +kernel
set_option maxRecDepth 4000 in
theorem kX2_init (γ : LC) (w : Mm) (q : Int) (c : Int → Int) (hq : 0 < q) (ht : w 0 q 0 = 3) (hc : c q = 45) (hk : KPc c w) : KV γ 2 mX2_init [rv q] w (6) (28) (fun w' => ∃ c', NW q c c' w w' ∧ FLs c' w' q) NX := by
  refine MX_of rfl rfl (by simp [rv_cat, int_cat]) rfl ?_
  rintro κ hO hF rfl
  have hD := hF.dp
  show X κ (6) (28) w 0 [some (rv q), none] []
  refine X_aload_n 1 hO dX2_init_0 rfl rfl ?_
  refine X_objInit 4 hO w_426 dX2_init_1 rfl hD (by decide) (by assumption) (by simp [rv_cat, int_cat]) ?_
  refine X_aload_n 5 hO dX2_init_4 rfl rfl ?_
  refine X_iconst 6 hO dX2_init_5 rfl ?_
  refine X_newz 8 hO w_acz (by omega) (by omega) (by omega) dX2_init_6 rfl (fun q_6 hq_6 hf_6 => ?_)
  have u_1 : w 0 q_6 0 = 0 := hf_6
  have ne_1 : q ≠ q_6 := fun e => by rw [e] at ht; omega
  obtain ⟨k1, e_k1⟩ : ∃ k : Int → Int, k = (fun a => if a = q_6 then 46 else c a) := ⟨_, rfl⟩
  obtain ⟨W1, e_W1⟩ : ∃ W, W = newA w q_6 21 3 := ⟨_, rfl⟩
  have M_ : NW q_6 c k1 w W1 := by rw [e_k1, e_W1]; exact (NW.refl hk).A hq_6 hf_6 (by decide)
  rw [← e_W1]
  have o_1 : OBt k1 W1 q_6 21 (46) := ⟨by rw [e_W1]; exact newA_t, by rw [e_k1]; exact if_pos rfl⟩
  have a_1 : ARt k1 W1 q_6 21 (3) (46) := ⟨⟨o_1.1, by rw [e_W1]; exact newA_n, o_1.2⟩, fun j => by rw [e_W1]; exact ⟨newA_1 (Or.inl rfl), newA_1 (Or.inr rfl)⟩⟩
  have U_ := M_.u1 (b := 45) hf_6
  have X_ := M_.1
  have ht_ : W1 0 q 0 = 3 := M_.tt ht (by decide)
  have hc_ : k1 q = 45 := (X_ q (by omega)).trans hc
  have N_ : NW q c k1 w W1 := (NW.refl hk).trans M_ (Or.inr (hf_6))
  have N0 := N_
  clear N_ U_ X_
  have ht0 := ht_
  have hc0 := hc_
  clear ht_ hc_
  clear M_ e_k1 e_W1
  refine pX2_9 11 hO hF.2.2.2.2 dX2_init_8 rfl (by first | assumption | omega | (simp (disch := first | decide | assumption | omega) only [up_k, up_s, up_a, up_i, flA_k, flA_a, newO_o, newA_o]; first | assumption | omega)) ?_
  obtain ⟨W2, e_W2⟩ : ∃ W, W = up W1 15 q 0 q_6 := ⟨_, rfl⟩
  have M_ : NW q k1 k1 W1 W2 := by rw [e_W2]; exact (NW.refl N0.2.1).p (Or.inl rfl) (by omega) (by decide)
  rw [← e_W2]
  have U_ := M_.u hc0
  have X_ := M_.1
  have a_1' := a_1.fr (by decide) U_ X_ (fun k => SX_n (by omega))
  clear a_1
  have a_1 := a_1'
  clear a_1'
  have ht_ : W2 0 q 0 = 3 := M_.tt ht0 (by decide)
  have hc_ : k1 q = 45 := (X_ q (by omega)).trans hc0
  have N_ : NW q c k1 w W2 := (N0).trans M_ (Or.inl rfl)
  clear N0 ht0 hc0
  have N0 := N_
  clear N_ U_ X_
  have ht0 := ht_
  have hc0 := hc_
  clear ht_ hc_
  have f15 : W2 15 q 0 = q_6 := by rw [e_W2]; exact up_s _ _ _ _ _
  clear M_ e_W2
  refine X_aload_n 12 hO dX2_init_11 rfl rfl ?_
  refine X_iconst 13 hO dX2_init_12 rfl ?_
  refine X_newi 15 hO w_aci (by omega) (by omega) (by omega) dX2_init_13 rfl (fun q_13 hq_13 hf_13 => ?_)
  have u_3 : w 0 q_13 0 = 0 := N0.un hf_13
  have ne_3 : q ≠ q_13 := fun e => by rw [e] at ht; omega
  obtain ⟨k3, e_k3⟩ : ∃ k : Int → Int, k = (fun a => if a = q_13 then 47 else k1 a) := ⟨_, rfl⟩
  obtain ⟨W3, e_W3⟩ : ∃ W, W = newA W2 q_13 20 3 := ⟨_, rfl⟩
  have M_ : NW q_13 k1 k3 W2 W3 := by rw [e_k3, e_W3]; exact (NW.refl N0.2.1).A hq_13 hf_13 (by decide)
  rw [← e_W3]
  have o_3 : OBt k3 W3 q_13 20 (47) := ⟨by rw [e_W3]; exact newA_t, by rw [e_k3]; exact if_pos rfl⟩
  have a_3 : ARt k3 W3 q_13 20 (3) (47) := ⟨⟨o_3.1, by rw [e_W3]; exact newA_n, o_3.2⟩, fun j => by rw [e_W3]; exact ⟨newA_1 (Or.inl rfl), newA_1 (Or.inr rfl)⟩⟩
  have U_ := M_.u1 (b := 45) hf_13
  have X_ := M_.1
  have a_1' := a_1.fr (by decide) U_ X_ (fun k => SX_n (by omega))
  clear a_1
  have a_1 := a_1'
  clear a_1'
  have ht_ : W3 0 q 0 = 3 := M_.tt ht0 (by decide)
  have hc_ : k3 q = 45 := (X_ q (by omega)).trans hc0
  have f15' : W3 15 q 0 = q_6 := (M_.f hf_13 (by omega)).trans f15
  have N_ : NW q c k3 w W3 := (N0).trans M_ (Or.inr (N0.un hf_13))
  clear N0 ht0 hc0
  have N0 := N_
  clear N_ U_ X_
  have ht0 := ht_
  have hc0 := hc_
  clear ht_ hc_
  clear f15
  have f15 := f15'
  clear f15'
  clear M_ e_k3 e_W3
  refine pX2_15 18 hO hF.2.2.2.2 dX2_init_15 rfl (by first | assumption | omega | (simp (disch := first | decide | assumption | omega) only [up_k, up_s, up_a, up_i, flA_k, flA_a, newO_o, newA_o]; first | assumption | omega)) ?_
  obtain ⟨W4, e_W4⟩ : ∃ W, W = up W3 16 q 0 q_13 := ⟨_, rfl⟩
  have M_ : NW q k3 k3 W3 W4 := by rw [e_W4]; exact (NW.refl N0.2.1).p (Or.inl rfl) (by omega) (by decide)
  rw [← e_W4]
  have U_ := M_.u hc0
  have X_ := M_.1
  have a_1' := a_1.fr (by decide) U_ X_ (fun k => SX_n (by omega))
  have a_3' := a_3.fr (by decide) U_ X_ (fun k => SX_n (by omega))
  clear a_3 a_1
  have a_1 := a_1'
  clear a_1'
  have a_3 := a_3'
  clear a_3'
  have ht_ : W4 0 q 0 = 3 := M_.tt ht0 (by decide)
  have hc_ : k3 q = 45 := (X_ q (by omega)).trans hc0
  have f15' : W4 15 q 0 = q_6 := by rw [e_W4, up_k _ (by decide)]; exact f15
  have N_ : NW q c k3 w W4 := (N0).trans M_ (Or.inl rfl)
  clear N0 ht0 hc0
  have N0 := N_
  clear N_ U_ X_
  have ht0 := ht_
  have hc0 := hc_
  clear ht_ hc_
  clear f15
  have f15 := f15'
  clear f15'
  have f16 : W4 16 q 0 = q_13 := by rw [e_W4]; exact up_s _ _ _ _ _
  clear M_ e_W4
  refine X_aload_n 19 hO dX2_init_18 rfl rfl ?_
  refine X_iconst 20 hO dX2_init_19 rfl ?_
  refine X_newi 22 hO w_aci (by omega) (by omega) (by omega) dX2_init_20 rfl (fun q_20 hq_20 hf_20 => ?_)
  have u_5 : w 0 q_20 0 = 0 := N0.un hf_20
  have ne_5 : q ≠ q_20 := fun e => by rw [e] at ht; omega
  obtain ⟨k5, e_k5⟩ : ∃ k : Int → Int, k = (fun a => if a = q_20 then 48 else k3 a) := ⟨_, rfl⟩
  obtain ⟨W5, e_W5⟩ : ∃ W, W = newA W4 q_20 20 3 := ⟨_, rfl⟩
  have M_ : NW q_20 k3 k5 W4 W5 := by rw [e_k5, e_W5]; exact (NW.refl N0.2.1).A hq_20 hf_20 (by decide)
  rw [← e_W5]
  have o_5 : OBt k5 W5 q_20 20 (48) := ⟨by rw [e_W5]; exact newA_t, by rw [e_k5]; exact if_pos rfl⟩
  have a_5 : ARt k5 W5 q_20 20 (3) (48) := ⟨⟨o_5.1, by rw [e_W5]; exact newA_n, o_5.2⟩, fun j => by rw [e_W5]; exact ⟨newA_1 (Or.inl rfl), newA_1 (Or.inr rfl)⟩⟩
  have U_ := M_.u1 (b := 45) hf_20
  have X_ := M_.1
  have a_1' := a_1.fr (by decide) U_ X_ (fun k => SX_n (by omega))
  have a_3' := a_3.fr (by decide) U_ X_ (fun k => SX_n (by omega))
  clear a_3 a_1
  have a_1 := a_1'
  clear a_1'
  have a_3 := a_3'
  clear a_3'
  have ht_ : W5 0 q 0 = 3 := M_.tt ht0 (by decide)
  have hc_ : k5 q = 45 := (X_ q (by omega)).trans hc0
  have f15' : W5 15 q 0 = q_6 := (M_.f hf_20 (by omega)).trans f15
  have f16' : W5 16 q 0 = q_13 := (M_.f hf_20 (by omega)).trans f16
  have N_ : NW q c k5 w W5 := (N0).trans M_ (Or.inr (N0.un hf_20))
  clear N0 ht0 hc0
  have N0 := N_
  clear N_ U_ X_
  have ht0 := ht_
  have hc0 := hc_
  clear ht_ hc_
  clear f15
  have f15 := f15'
  clear f15'
  clear f16
  have f16 := f16'
  clear f16'
  clear M_ e_k5 e_W5
  refine pX2_19 25 hO hF.2.2.2.2 dX2_init_22 rfl (by first | assumption | omega | (simp (disch := first | decide | assumption | omega) only [up_k, up_s, up_a, up_i, flA_k, flA_a, newO_o, newA_o]; first | assumption | omega)) ?_
  obtain ⟨W6, e_W6⟩ : ∃ W, W = up W5 17 q 0 q_20 := ⟨_, rfl⟩
  have M_ : NW q k5 k5 W5 W6 := by rw [e_W6]; exact (NW.refl N0.2.1).p (Or.inl rfl) (by omega) (by decide)
  rw [← e_W6]
  have U_ := M_.u hc0
  have X_ := M_.1
  have a_1' := a_1.fr (by decide) U_ X_ (fun k => SX_n (by omega))
  have a_3' := a_3.fr (by decide) U_ X_ (fun k => SX_n (by omega))
  have a_5' := a_5.fr (by decide) U_ X_ (fun k => SX_n (by omega))
  clear a_5 a_3 a_1
  have a_1 := a_1'
  clear a_1'
  have a_3 := a_3'
  clear a_3'
  have a_5 := a_5'
  clear a_5'
  have ht_ : W6 0 q 0 = 3 := M_.tt ht0 (by decide)
  have hc_ : k5 q = 45 := (X_ q (by omega)).trans hc0
  have f15' : W6 15 q 0 = q_6 := by rw [e_W6, up_k _ (by decide)]; exact f15
  have f16' : W6 16 q 0 = q_13 := by rw [e_W6, up_k _ (by decide)]; exact f16
  have N_ : NW q c k5 w W6 := (N0).trans M_ (Or.inl rfl)
  clear N0 ht0 hc0
  have N0 := N_
  clear N_ U_ X_
  have ht0 := ht_
  have hc0 := hc_
  clear ht_ hc_
  clear f15
  have f15 := f15'
  clear f15'
  clear f16
  have f16 := f16'
  clear f16'
  have f17 : W6 17 q 0 = q_20 := by rw [e_W6]; exact up_s _ _ _ _ _
  clear M_ e_W6
  refine X_aload_n 26 hO dX2_init_25 rfl rfl ?_
  refine X_iconst 27 hO dX2_init_26 rfl ?_
  refine X_newi 29 hO w_aci (by omega) (by omega) (by omega) dX2_init_27 rfl (fun q_27 hq_27 hf_27 => ?_)
  have u_7 : w 0 q_27 0 = 0 := N0.un hf_27
  have ne_7 : q ≠ q_27 := fun e => by rw [e] at ht; omega
  obtain ⟨k7, e_k7⟩ : ∃ k : Int → Int, k = (fun a => if a = q_27 then 49 else k5 a) := ⟨_, rfl⟩
  obtain ⟨W7, e_W7⟩ : ∃ W, W = newA W6 q_27 20 3 := ⟨_, rfl⟩
  have M_ : NW q_27 k5 k7 W6 W7 := by rw [e_k7, e_W7]; exact (NW.refl N0.2.1).A hq_27 hf_27 (by decide)
  rw [← e_W7]
  have o_7 : OBt k7 W7 q_27 20 (49) := ⟨by rw [e_W7]; exact newA_t, by rw [e_k7]; exact if_pos rfl⟩
  have a_7 : ARt k7 W7 q_27 20 (3) (49) := ⟨⟨o_7.1, by rw [e_W7]; exact newA_n, o_7.2⟩, fun j => by rw [e_W7]; exact ⟨newA_1 (Or.inl rfl), newA_1 (Or.inr rfl)⟩⟩
  have U_ := M_.u1 (b := 45) hf_27
  have X_ := M_.1
  have a_1' := a_1.fr (by decide) U_ X_ (fun k => SX_n (by omega))
  have a_3' := a_3.fr (by decide) U_ X_ (fun k => SX_n (by omega))
  have a_5' := a_5.fr (by decide) U_ X_ (fun k => SX_n (by omega))
  clear a_5 a_3 a_1
  have a_1 := a_1'
  clear a_1'
  have a_3 := a_3'
  clear a_3'
  have a_5 := a_5'
  clear a_5'
  have ht_ : W7 0 q 0 = 3 := M_.tt ht0 (by decide)
  have hc_ : k7 q = 45 := (X_ q (by omega)).trans hc0
  have f15' : W7 15 q 0 = q_6 := (M_.f hf_27 (by omega)).trans f15
  have f16' : W7 16 q 0 = q_13 := (M_.f hf_27 (by omega)).trans f16
  have f17' : W7 17 q 0 = q_20 := (M_.f hf_27 (by omega)).trans f17
  have N_ : NW q c k7 w W7 := (N0).trans M_ (Or.inr (N0.un hf_27))
  clear N0 ht0 hc0
  have N0 := N_
  clear N_ U_ X_
  have ht0 := ht_
  have hc0 := hc_
  clear ht_ hc_
  clear f15
  have f15 := f15'
  clear f15'
  clear f16
  have f16 := f16'
  clear f16'
  clear f17
  have f17 := f17'
  clear f17'
  clear M_ e_k7 e_W7
  refine pX2_22 32 hO hF.2.2.2.2 dX2_init_29 rfl (by first | assumption | omega | (simp (disch := first | decide | assumption | omega) only [up_k, up_s, up_a, up_i, flA_k, flA_a, newO_o, newA_o]; first | assumption | omega)) ?_
  obtain ⟨W8, e_W8⟩ : ∃ W, W = up W7 18 q 0 q_27 := ⟨_, rfl⟩
  have M_ : NW q k7 k7 W7 W8 := by rw [e_W8]; exact (NW.refl N0.2.1).p (Or.inl rfl) (by omega) (by decide)
  rw [← e_W8]
  have U_ := M_.u hc0
  have X_ := M_.1
  have a_1' := a_1.fr (by decide) U_ X_ (fun k => SX_n (by omega))
  have a_3' := a_3.fr (by decide) U_ X_ (fun k => SX_n (by omega))
  have a_5' := a_5.fr (by decide) U_ X_ (fun k => SX_n (by omega))
  have a_7' := a_7.fr (by decide) U_ X_ (fun k => SX_n (by omega))
  clear a_7 a_5 a_3 a_1
  have a_1 := a_1'
  clear a_1'
  have a_3 := a_3'
  clear a_3'
  have a_5 := a_5'
  clear a_5'
  have a_7 := a_7'
  clear a_7'
  have ht_ : W8 0 q 0 = 3 := M_.tt ht0 (by decide)
  have hc_ : k7 q = 45 := (X_ q (by omega)).trans hc0
  have f15' : W8 15 q 0 = q_6 := by rw [e_W8, up_k _ (by decide)]; exact f15
  have f16' : W8 16 q 0 = q_13 := by rw [e_W8, up_k _ (by decide)]; exact f16
  have f17' : W8 17 q 0 = q_20 := by rw [e_W8, up_k _ (by decide)]; exact f17
  have N_ : NW q c k7 w W8 := (N0).trans M_ (Or.inl rfl)
  clear N0 ht0 hc0
  have N0 := N_
  clear N_ U_ X_
  have ht0 := ht_
  have hc0 := hc_
  clear ht_ hc_
  clear f15
  have f15 := f15'
  clear f15'
  clear f16
  have f16 := f16'
  clear f16'
  clear f17
  have f17 := f17'
  clear f17'
  have f18 : W8 18 q 0 = q_27 := by rw [e_W8]; exact up_s _ _ _ _ _
  clear M_ e_W8
  refine X_aload_n 33 hO dX2_init_32 rfl rfl ?_
  refine X_bipush 35 hO dX2_init_33 rfl (by decide) ?_
  refine X_newi 37 hO w_aci (by omega) (by omega) (by omega) dX2_init_35 rfl (fun q_35 hq_35 hf_35 => ?_)
  have u_9 : w 0 q_35 0 = 0 := N0.un hf_35
  have ne_9 : q ≠ q_35 := fun e => by rw [e] at ht; omega
  obtain ⟨k9, e_k9⟩ : ∃ k : Int → Int, k = (fun a => if a = q_35 then 50 else k7 a) := ⟨_, rfl⟩
  obtain ⟨W9, e_W9⟩ : ∃ W, W = newA W8 q_35 20 8 := ⟨_, rfl⟩
  have M_ : NW q_35 k7 k9 W8 W9 := by rw [e_k9, e_W9]; exact (NW.refl N0.2.1).A hq_35 hf_35 (by decide)
  rw [← e_W9]
  have o_9 : OBt k9 W9 q_35 20 (50) := ⟨by rw [e_W9]; exact newA_t, by rw [e_k9]; exact if_pos rfl⟩
  have a_9 : ARt k9 W9 q_35 20 (8) (50) := ⟨⟨o_9.1, by rw [e_W9]; exact newA_n, o_9.2⟩, fun j => by rw [e_W9]; exact ⟨newA_1 (Or.inl rfl), newA_1 (Or.inr rfl)⟩⟩
  have U_ := M_.u1 (b := 45) hf_35
  have X_ := M_.1
  have a_1' := a_1.fr (by decide) U_ X_ (fun k => SX_n (by omega))
  have a_3' := a_3.fr (by decide) U_ X_ (fun k => SX_n (by omega))
  have a_5' := a_5.fr (by decide) U_ X_ (fun k => SX_n (by omega))
  have a_7' := a_7.fr (by decide) U_ X_ (fun k => SX_n (by omega))
  clear a_7 a_5 a_3 a_1
  have a_1 := a_1'
  clear a_1'
  have a_3 := a_3'
  clear a_3'
  have a_5 := a_5'
  clear a_5'
  have a_7 := a_7'
  clear a_7'
  have ht_ : W9 0 q 0 = 3 := M_.tt ht0 (by decide)
  have hc_ : k9 q = 45 := (X_ q (by omega)).trans hc0
  have f15' : W9 15 q 0 = q_6 := (M_.f hf_35 (by omega)).trans f15
  have f16' : W9 16 q 0 = q_13 := (M_.f hf_35 (by omega)).trans f16
  have f17' : W9 17 q 0 = q_20 := (M_.f hf_35 (by omega)).trans f17
  have f18' : W9 18 q 0 = q_27 := (M_.f hf_35 (by omega)).trans f18
  have N_ : NW q c k9 w W9 := (N0).trans M_ (Or.inr (N0.un hf_35))
  clear N0 ht0 hc0
  have N0 := N_
  clear N_ U_ X_
  have ht0 := ht_
  have hc0 := hc_
  clear ht_ hc_
  clear f15
  have f15 := f15'
  clear f15'
  clear f16
  have f16 := f16'
  clear f16'
  clear f17
  have f17 := f17'
  clear f17'
  clear f18
  have f18 := f18'
  clear f18'
  clear M_ e_k9 e_W9
  refine pX2_25 40 hO hF.2.2.2.2 dX2_init_37 rfl (by first | assumption | omega | (simp (disch := first | decide | assumption | omega) only [up_k, up_s, up_a, up_i, flA_k, flA_a, newO_o, newA_o]; first | assumption | omega)) ?_
  obtain ⟨W10, e_W10⟩ : ∃ W, W = up W9 19 q 0 q_35 := ⟨_, rfl⟩
  have M_ : NW q k9 k9 W9 W10 := by rw [e_W10]; exact (NW.refl N0.2.1).p (Or.inl rfl) (by omega) (by decide)
  rw [← e_W10]
  have U_ := M_.u hc0
  have X_ := M_.1
  have a_1' := a_1.fr (by decide) U_ X_ (fun k => SX_n (by omega))
  have a_3' := a_3.fr (by decide) U_ X_ (fun k => SX_n (by omega))
  have a_5' := a_5.fr (by decide) U_ X_ (fun k => SX_n (by omega))
  have a_7' := a_7.fr (by decide) U_ X_ (fun k => SX_n (by omega))
  have a_9' := a_9.fr (by decide) U_ X_ (fun k => SX_n (by omega))
  clear a_9 a_7 a_5 a_3 a_1
  have a_1 := a_1'
  clear a_1'
  have a_3 := a_3'
  clear a_3'
  have a_5 := a_5'
  clear a_5'
  have a_7 := a_7'
  clear a_7'
  have a_9 := a_9'
  clear a_9'
  have ht_ : W10 0 q 0 = 3 := M_.tt ht0 (by decide)
  have hc_ : k9 q = 45 := (X_ q (by omega)).trans hc0
  have f15' : W10 15 q 0 = q_6 := by rw [e_W10, up_k _ (by decide)]; exact f15
  have f16' : W10 16 q 0 = q_13 := by rw [e_W10, up_k _ (by decide)]; exact f16
  have f17' : W10 17 q 0 = q_20 := by rw [e_W10, up_k _ (by decide)]; exact f17
  have f18' : W10 18 q 0 = q_27 := by rw [e_W10, up_k _ (by decide)]; exact f18
  have N_ : NW q c k9 w W10 := (N0).trans M_ (Or.inl rfl)
  clear N0 ht0 hc0
  have N0 := N_
  clear N_ U_ X_
  have ht0 := ht_
  have hc0 := hc_
  clear ht_ hc_
  clear f15
  have f15 := f15'
  clear f15'
  clear f16
  have f16 := f16'
  clear f16'
  clear f17
  have f17 := f17'
  clear f17'
  clear f18
  have f18 := f18'
  clear f18'
  have f19 : W10 19 q 0 = q_35 := by rw [e_W10]; exact up_s _ _ _ _ _
  clear M_ e_W10
  refine X_aload_n 41 hO dX2_init_40 rfl rfl ?_
  refine X_bipush 43 hO dX2_init_41 rfl (by decide) ?_
  refine X_newi 45 hO w_aci (by omega) (by omega) (by omega) dX2_init_43 rfl (fun q_43 hq_43 hf_43 => ?_)
  have u_11 : w 0 q_43 0 = 0 := N0.un hf_43
  have ne_11 : q ≠ q_43 := fun e => by rw [e] at ht; omega
  obtain ⟨k11, e_k11⟩ : ∃ k : Int → Int, k = (fun a => if a = q_43 then 51 else k9 a) := ⟨_, rfl⟩
  obtain ⟨W11, e_W11⟩ : ∃ W, W = newA W10 q_43 20 8 := ⟨_, rfl⟩
  have M_ : NW q_43 k9 k11 W10 W11 := by rw [e_k11, e_W11]; exact (NW.refl N0.2.1).A hq_43 hf_43 (by decide)
  rw [← e_W11]
  have o_11 : OBt k11 W11 q_43 20 (51) := ⟨by rw [e_W11]; exact newA_t, by rw [e_k11]; exact if_pos rfl⟩
  have a_11 : ARt k11 W11 q_43 20 (8) (51) := ⟨⟨o_11.1, by rw [e_W11]; exact newA_n, o_11.2⟩, fun j => by rw [e_W11]; exact ⟨newA_1 (Or.inl rfl), newA_1 (Or.inr rfl)⟩⟩
  have U_ := M_.u1 (b := 45) hf_43
  have X_ := M_.1
  have a_1' := a_1.fr (by decide) U_ X_ (fun k => SX_n (by omega))
  have a_3' := a_3.fr (by decide) U_ X_ (fun k => SX_n (by omega))
  have a_5' := a_5.fr (by decide) U_ X_ (fun k => SX_n (by omega))
  have a_7' := a_7.fr (by decide) U_ X_ (fun k => SX_n (by omega))
  have a_9' := a_9.fr (by decide) U_ X_ (fun k => SX_n (by omega))
  clear a_9 a_7 a_5 a_3 a_1
  have a_1 := a_1'
  clear a_1'
  have a_3 := a_3'
  clear a_3'
  have a_5 := a_5'
  clear a_5'
  have a_7 := a_7'
  clear a_7'
  have a_9 := a_9'
  clear a_9'
  have ht_ : W11 0 q 0 = 3 := M_.tt ht0 (by decide)
  have hc_ : k11 q = 45 := (X_ q (by omega)).trans hc0
  have f15' : W11 15 q 0 = q_6 := (M_.f hf_43 (by omega)).trans f15
  have f16' : W11 16 q 0 = q_13 := (M_.f hf_43 (by omega)).trans f16
  have f17' : W11 17 q 0 = q_20 := (M_.f hf_43 (by omega)).trans f17
  have f18' : W11 18 q 0 = q_27 := (M_.f hf_43 (by omega)).trans f18
  have f19' : W11 19 q 0 = q_35 := (M_.f hf_43 (by omega)).trans f19
  have N_ : NW q c k11 w W11 := (N0).trans M_ (Or.inr (N0.un hf_43))
  clear N0 ht0 hc0
  have N0 := N_
  clear N_ U_ X_
  have ht0 := ht_
  have hc0 := hc_
  clear ht_ hc_
  clear f15
  have f15 := f15'
  clear f15'
  clear f16
  have f16 := f16'
  clear f16'
  clear f17
  have f17 := f17'
  clear f17'
  clear f18
  have f18 := f18'
  clear f18'
  clear f19
  have f19 := f19'
  clear f19'
  clear M_ e_k11 e_W11
  refine pX2_28 48 hO hF.2.2.2.2 dX2_init_45 rfl (by first | assumption | omega | (simp (disch := first | decide | assumption | omega) only [up_k, up_s, up_a, up_i, flA_k, flA_a, newO_o, newA_o]; first | assumption | omega)) ?_
  obtain ⟨W12, e_W12⟩ : ∃ W, W = up W11 20 q 0 q_43 := ⟨_, rfl⟩
  have M_ : NW q k11 k11 W11 W12 := by rw [e_W12]; exact (NW.refl N0.2.1).p (Or.inl rfl) (by omega) (by decide)
  rw [← e_W12]
  have U_ := M_.u hc0
  have X_ := M_.1
  have a_1' := a_1.fr (by decide) U_ X_ (fun k => SX_n (by omega))
  have a_3' := a_3.fr (by decide) U_ X_ (fun k => SX_n (by omega))
  have a_5' := a_5.fr (by decide) U_ X_ (fun k => SX_n (by omega))
  have a_7' := a_7.fr (by decide) U_ X_ (fun k => SX_n (by omega))
  have a_9' := a_9.fr (by decide) U_ X_ (fun k => SX_n (by omega))
  have a_11' := a_11.fr (by decide) U_ X_ (fun k => SX_n (by omega))
  clear a_11 a_9 a_7 a_5 a_3 a_1
  have a_1 := a_1'
  clear a_1'
  have a_3 := a_3'
  clear a_3'
  have a_5 := a_5'
  clear a_5'
  have a_7 := a_7'
  clear a_7'
  have a_9 := a_9'
  clear a_9'
  have a_11 := a_11'
  clear a_11'
  have ht_ : W12 0 q 0 = 3 := M_.tt ht0 (by decide)
  have hc_ : k11 q = 45 := (X_ q (by omega)).trans hc0
  have f15' : W12 15 q 0 = q_6 := by rw [e_W12, up_k _ (by decide)]; exact f15
  have f16' : W12 16 q 0 = q_13 := by rw [e_W12, up_k _ (by decide)]; exact f16
  have f17' : W12 17 q 0 = q_20 := by rw [e_W12, up_k _ (by decide)]; exact f17
  have f18' : W12 18 q 0 = q_27 := by rw [e_W12, up_k _ (by decide)]; exact f18
  have f19' : W12 19 q 0 = q_35 := by rw [e_W12, up_k _ (by decide)]; exact f19
  have N_ : NW q c k11 w W12 := (N0).trans M_ (Or.inl rfl)
  clear N0 ht0 hc0
  have N0 := N_
  clear N_ U_ X_
  have ht0 := ht_
  have hc0 := hc_
  clear ht_ hc_
  clear f15
  have f15 := f15'
  clear f15'
  clear f16
  have f16 := f16'
  clear f16'
  clear f17
  have f17 := f17'
  clear f17'
  clear f18
  have f18 := f18'
  clear f18'
  clear f19
  have f19 := f19'
  clear f19'
  have f20 : W12 20 q 0 = q_43 := by rw [e_W12]; exact up_s _ _ _ _ _
  clear M_ e_W12
  refine X_iconst 49 hO dX2_init_48 rfl ?_
  refine X_istore_n 50 hO dX2_init_49 rfl rfl ?_
  have LP50 : ∀ (nn : Nat) (i : Int), (8 - i).toNat < nn → (0 ≤ i ∧ i ≤ 8) → X κ 0 0 (flA W12 1 q_35 0 i (fun _ => -1)) 50 [some (rv q), some (.int (I i))] [] := by
    intro nn
    induction nn with
    | zero => intro i hm; exact absurd hm (Nat.not_lt_zero _)
    | succ nn ih =>
      intro i hm hi
      refine X_iload_n 51 hO dX2_init_50 rfl rfl ?_
      refine X_bipush 53 hO dX2_init_51 rfl (by decide) ?_
      refine X_icmp_ge 56 69 hO dX2_init_53 rfl rfl (by omega) (by omega) (fun hc_53 => ?_) (fun hc_53 => ?_)
      ·
        have e8 : i = 8 := by omega
        subst e8
        obtain ⟨WF, e_WF⟩ : ∃ W, W = flA W12 1 q_35 0 8 (fun _ => -1) := ⟨_, rfl⟩
        rw [← e_WF]
        have uF : UPd k11 (SX 50) W12 WF := by rw [e_WF]; exact UPd.refl.sF (by decide) (Or.inr ⟨a_9.1.2.2, by decide, by decide, by decide⟩)
        have NF : NW q c k11 w WF := by rw [e_WF]; exact N0.F u_9 (by omega) (by decide)
        have g15 : WF 15 q 0 = q_6 := by rw [e_WF, flA_k (by decide)]; exact f15
        have g16 : WF 16 q 0 = q_13 := by rw [e_WF, flA_k (by decide)]; exact f16
        have g17 : WF 17 q 0 = q_20 := by rw [e_WF, flA_k (by decide)]; exact f17
        have g18 : WF 18 q 0 = q_27 := by rw [e_WF, flA_k (by decide)]; exact f18
        have g19 : WF 19 q 0 = q_35 := by rw [e_WF, flA_k (by decide)]; exact f19
        have g20 : WF 20 q 0 = q_43 := by rw [e_WF, flA_k (by decide)]; exact f20
        exact X_vret hO hF rfl dX2_init_69 ⟨rfl, ⟨k11, NF, ⟨uF.tag ht0 (by decide), hc0⟩, by rw [g15]; exact a_1.fr (by decide) uF CXt.refl (fun k => SX_n (by omega)), by rw [g16]; exact a_3.fr (by decide) uF CXt.refl (fun k => SX_n (by omega)), by rw [g17]; exact a_5.fr (by decide) uF CXt.refl (fun k => SX_n (by omega)), by rw [g18]; exact a_7.fr (by decide) uF CXt.refl (fun k => SX_n (by omega)), ⟨by rw [g19]; exact ⟨uF.tag a_9.1.1 (by decide), (uF.t (by have := a_9.1.1; omega) (by decide)).trans a_9.1.2.1, a_9.1.2.2⟩, fun j j0 j1 => by rw [g19, e_WF, flA_v, if_pos (by omega)]⟩, by rw [g20]; exact a_11.fr (by decide) uF CXt.refl (fun k => SX_n (by omega))⟩⟩
      ·
        refine X_aload_n 57 hO dX2_init_56 rfl rfl ?_
        refine gX2_25 60 hO dX2_init_57 rfl (by rw [flA_k (by decide)]; exact ht0) ?_
        try simp (disch := first | decide | assumption | omega) only [up_k, up_s, up_a, up_i, flA_k, flA_a, newO_o, newA_o]
        rw [f19]
        refine X_iload_n 61 hO dX2_init_60 rfl rfl ?_
        refine X_iconst 62 hO dX2_init_61 rfl ?_
        refine X_iast 63 hO dX2_init_62 rfl (by rw [flA_k (by decide)]; exact a_9.1.1) (by rw [flA_k (by decide), a_9.1.2.1]; omega) (by omega) ?_
        refine X_iinc 66 hO dX2_init_63 rfl rfl ?_
        refine X_goto hO dX2_init_66 (tgt := 50) rfl ?_
        exact X_eqW (flA_s0 (by omega) rfl) (ih (i + 1) (by omega) (by omega))
  refine X_mono (Nat.zero_le _) (Nat.zero_le _) ?_
  exact X_eqW flA_0.symm (LP50 _ 0 (Nat.lt_succ_self _) (by omega))
theorem dX9_init_0 : decode cX9_init 0 = .ok (.aload_n 0, 1) := by decide +kernel
theorem dX9_init_1 : decode cX9_init 1 = .ok (.invokespecial 3, 3) := by decide +kernel
theorem dX9_init_4 : decode cX9_init 4 = .ok (.aload_n 0, 1) := by decide +kernel
theorem dX9_init_5 : decode cX9_init 5 = .ok (.bipush 8, 2) := by decide +kernel
theorem dX9_init_7 : decode cX9_init 7 = .ok (.anewarray 9, 3) := by decide +kernel
theorem dX9_init_10 : decode cX9_init 10 = .ok (.putfield 11, 3) := by decide +kernel
theorem dX9_init_13 : decode cX9_init 13 = .ok (.iconst 0, 1) := by decide +kernel
theorem dX9_init_14 : decode cX9_init 14 = .ok (.istore_n 1, 1) := by decide +kernel
theorem dX9_init_15 : decode cX9_init 15 = .ok (.iload_n 1, 1) := by decide +kernel
theorem dX9_init_16 : decode cX9_init 16 = .ok (.bipush 8, 2) := by decide +kernel
theorem dX9_init_18 : decode cX9_init 18 = .ok (.if_icmp .ge 22, 3) := by decide +kernel
theorem dX9_init_21 : decode cX9_init 21 = .ok (.aload_n 0, 1) := by decide +kernel
theorem dX9_init_22 : decode cX9_init 22 = .ok (.getfield 11, 3) := by decide +kernel
theorem dX9_init_25 : decode cX9_init 25 = .ok (.iload_n 1, 1) := by decide +kernel
theorem dX9_init_26 : decode cX9_init 26 = .ok (.new 9, 3) := by decide +kernel
theorem dX9_init_29 : decode cX9_init 29 = .ok (.dup, 1) := by decide +kernel
theorem dX9_init_30 : decode cX9_init 30 = .ok (.invokespecial 17, 3) := by decide +kernel
theorem dX9_init_33 : decode cX9_init 33 = .ok (.aastore, 1) := by decide +kernel
theorem dX9_init_34 : decode cX9_init 34 = .ok (.iinc 1 1, 3) := by decide +kernel
theorem dX9_init_37 : decode cX9_init 37 = .ok (.goto (-22), 3) := by decide +kernel
theorem dX9_init_40 : decode cX9_init 40 = .ok (.return_, 1) := by decide +kernel
set_option maxRecDepth 4000 in
theorem kX9_init (γ : LC) (w : Mm) (q : Int) (c : Int → Int) (hq : 0 < q) (ht : w 0 q 0 = 10) (h77 : w 77 q 0 = 0) (hc : c q = 52) (hk : KPc c w) : KV γ 3 mX9_init [rv q] w (9) (48) (fun w' => ∃ c', NW q c c' w w' ∧ vTs c' w' q) NX := by
  refine MX_of rfl rfl (by simp [rv_cat, int_cat]) rfl ?_
  rintro κ hO hF rfl
  have hD := hF.dp
  show X κ (9) (48) w 0 [some (rv q), none] []
  refine X_aload_n 1 hO dX9_init_0 rfl rfl ?_
  refine X_objInit 4 hO w_453 dX9_init_1 rfl hD (by decide) (by assumption) (by simp [rv_cat, int_cat]) ?_
  have f77 : w 77 q 0 = 0 := h77
  refine X_aload_n 5 hO dX9_init_4 rfl rfl ?_
  refine X_bipush 7 hO dX9_init_5 rfl (by decide) ?_
  refine X_newq (t := 26) 10 hO rfl (by decide) w_454 (by decide) (by omega) (by omega) (by omega) dX9_init_7 rfl (fun q_7 hq_7 hf_7 => ?_)
  have u_1 : w 0 q_7 0 = 0 := hf_7
  have ne_1 : q ≠ q_7 := fun e => by rw [e] at ht; omega
  obtain ⟨k1, e_k1⟩ : ∃ k : Int → Int, k = (fun a => if a = q_7 then 53 else c a) := ⟨_, rfl⟩
  obtain ⟨W1, e_W1⟩ : ∃ W, W = newA w q_7 ((26 : Nat) : Int) 8 := ⟨_, rfl⟩
  have M_ : NW q_7 c k1 w W1 := by rw [e_k1, e_W1]; exact (NW.refl hk).A hq_7 hf_7 (by decide)
  rw [← e_W1]
  have o_1 : OBt k1 W1 q_7 26 (53) := ⟨by rw [e_W1]; exact newA_t, by rw [e_k1]; exact if_pos rfl⟩
  have a_1 : ARt k1 W1 q_7 26 (8) (53) := ⟨⟨o_1.1, by rw [e_W1]; exact newA_n, o_1.2⟩, fun j => by rw [e_W1]; exact ⟨newA_1 (Or.inl rfl), newA_1 (Or.inr rfl)⟩⟩
  have U_ := M_.u1 (b := 52) hf_7
  have X_ := M_.1
  have ht_ : W1 0 q 0 = 10 := M_.tt ht (by decide)
  have hc_ : k1 q = 52 := (X_ q (by omega)).trans hc
  have f77' : W1 77 q 0 = 0 := (M_.f hf_7 (by omega)).trans f77
  have N_ : NW q c k1 w W1 := (NW.refl hk).trans M_ (Or.inr (hf_7))
  have N0 := N_
  clear N_ U_ X_
  have ht0 := ht_
  have hc0 := hc_
  clear ht_ hc_
  clear f77
  have f77 := f77'
  clear f77'
  clear M_ e_k1 e_W1
  refine pX9_11 13 hO hF.2.2.2.2 dX9_init_10 rfl (by first | assumption | omega | (simp (disch := first | decide | assumption | omega) only [up_k, up_s, up_a, up_i, flA_k, flA_a, newO_o, newA_o]; first | assumption | omega)) ?_
  obtain ⟨W2, e_W2⟩ : ∃ W, W = up W1 37 q 0 q_7 := ⟨_, rfl⟩
  have M_ : NW q k1 k1 W1 W2 := by rw [e_W2]; exact (NW.refl N0.2.1).p (Or.inl rfl) (by omega) (by decide)
  rw [← e_W2]
  have U_ := M_.u hc0
  have X_ := M_.1
  have a_1' := a_1.fr (by decide) U_ X_ (fun k => SX_n (by omega))
  clear a_1
  have a_1 := a_1'
  clear a_1'
  have ht_ : W2 0 q 0 = 10 := M_.tt ht0 (by decide)
  have hc_ : k1 q = 52 := (X_ q (by omega)).trans hc0
  have f77' : W2 77 q 0 = 0 := by rw [e_W2, up_k _ (by decide)]; exact f77
  have N_ : NW q c k1 w W2 := (N0).trans M_ (Or.inl rfl)
  clear N0 ht0 hc0
  have N0 := N_
  clear N_ U_ X_
  have ht0 := ht_
  have hc0 := hc_
  clear ht_ hc_
  clear f77
  have f77 := f77'
  clear f77'
  have f37 : W2 37 q 0 = q_7 := by rw [e_W2]; exact up_s _ _ _ _ _
  clear M_ e_W2
  refine X_iconst 14 hO dX9_init_13 rfl ?_
  refine X_istore_n 15 hO dX9_init_14 rfl rfl ?_
  have LP15 : ∀ (nn : Nat) (i : Int) (W : Mm), (8 - i).toNat < nn → (0 ≤ i ∧ i ≤ 8) → (TRi q c w i W) → X κ ((8 - i).toNat) (5 * (8 - i).toNat) (W) 15 [some (rv q), some (.int (I i))] [] := by
    intro nn
    induction nn with
    | zero => intro i W hm; exact absurd hm (Nat.not_lt_zero _)
    | succ nn ih =>
      intro i W hm hi hT
      obtain ⟨c9, N9, o9, ar9, hu9, tr9, z9⟩ := id hT
      have t10 : W 0 q 0 = 10 := o9.1
      have ar1 : W 0 (W 37 q 0) 0 = 26 := ar9.1
      have ar2 : W 2 (W 37 q 0) 0 = 8 := ar9.2.1
      refine X_iload_n 16 hO dX9_init_15 rfl rfl ?_
      refine X_bipush 18 hO dX9_init_16 rfl (by decide) ?_
      refine X_icmp_ge 21 40 hO dX9_init_18 rfl rfl (by omega) (by omega) (fun hc_18 => ?_) (fun hc_18 => ?_)
      ·
        have e8 : i = 8 := by omega
        subst e8
        exact X_vret hO hF rfl dX9_init_40 ⟨rfl, ⟨c9, N9, o9, ⟨ar1, ar2, ar9.2.2⟩, tr9, by rw [z9]; decide⟩⟩
      ·
        refine X_aload_n 22 hO dX9_init_21 rfl rfl ?_
        refine gX9_11 25 hO dX9_init_22 rfl (by first | assumption | omega | (simp (disch := first | decide | assumption | omega) only [up_k, up_s, up_a, up_i, flA_k, flA_a, newO_o, newA_o]; first | assumption | omega)) ?_
        try simp (disch := first | decide | assumption | omega) only [up_k, up_s, up_a, up_i, flA_k, flA_a, newO_o, newA_o]
        refine X_iload_n 26 hO dX9_init_25 rfl rfl ?_
        refine n_9 29 hO w_454 (by omega) (by omega) dX9_init_26 rfl (fun q_26 hq_26 hf_26 => ?_)
        have ne9 : W 37 q 0 ≠ q_26 := fun e => by rw [e] at ar1; omega
        have ar3 : newO W q_26 9 0 (W 37 q 0) 0 = 26 := by rw [newO_o ne9]; exact ar1
        have ar4 : newO W q_26 9 0 q_26 0 = 9 := newO_t
        refine X_dup 30 hO dX9_init_29 rfl (by first | rfl | exact rv_cat _) ?_
        refine X_kNv 33 hO hD nX9_17 [] rfl dX9_init_30 rfl (by assumption) (kX8_init _ _ _ (by assumption)) (by decide) (by simp [rv_cat, int_cat]) (by first | decide | exact Nat.zero_le _ | omega) (by first | decide | exact Nat.zero_le _ | omega) (fun w_30 hp_30 => ?_) (fun E w_ hx_ => hx_.elim)
        subst w_30
        refine X_aast (t := 26) (tv := 9) (C := "Foldback$Trace") 34 hO rfl (by decide) (by decide) rfl (Or.inr rfl) dX9_init_33 rfl (by first | assumption | omega | (simp (disch := first | decide | assumption | omega) only [up_k, up_s, up_a, up_i, flA_k, flA_a, newO_o, newA_o]; first | assumption | omega)) (by rw [newO_o ne9, ar2]; omega) (by first | assumption | omega | (simp (disch := first | decide | assumption | omega) only [up_k, up_s, up_a, up_i, flA_k, flA_a, newO_o, newA_o]; first | assumption | omega)) ?_
        refine X_iinc 37 hO dX9_init_34 rfl rfl ?_
        refine X_goto hO dX9_init_37 (tgt := 15) rfl ?_
        refine X_mono (by omega) (by omega) (ih (i + 1) _ (by omega) (by omega) (hT.nx (by omega) hq_26 hf_26))
  have hT0 : TRi q c w 0 W2 := ⟨k1, N0, ⟨ht0, hc0⟩, by rw [f37]; exact a_1.1, by rw [f37]; exact u_1, fun j j0 j1 => by omega, f77⟩
  exact X_mono (by decide) (by decide) (LP15 _ 0 _ (Nat.lt_succ_self _) (by omega) hT0)
theorem dX10_init_0 : decode cX10_init 0 = .ok (.aload_n 0, 1) := by decide +kernel
theorem dX10_init_1 : decode cX10_init 1 = .ok (.invokespecial 3, 3) := by decide +kernel
theorem dX10_init_4 : decode cX10_init 4 = .ok (.aload_n 0, 1) := by decide +kernel
theorem dX10_init_5 : decode cX10_init 5 = .ok (.new 9, 3) := by decide +kernel
theorem dX10_init_8 : decode cX10_init 8 = .ok (.dup, 1) := by decide +kernel
theorem dX10_init_9 : decode cX10_init 9 = .ok (.invokespecial 11, 3) := by decide +kernel
theorem dX10_init_12 : decode cX10_init 12 = .ok (.putfield 12, 3) := by decide +kernel
theorem dX10_init_15 : decode cX10_init 15 = .ok (.aload_n 0, 1) := by decide +kernel
theorem dX10_init_16 : decode cX10_init 16 = .ok (.iconst 5, 1) := by decide +kernel
theorem dX10_init_17 : decode cX10_init 17 = .ok (.anewarray 18, 3) := by decide +kernel
theorem dX10_init_20 : decode cX10_init 20 = .ok (.putfield 20, 3) := by decide +kernel
theorem dX10_init_23 : decode cX10_init 23 = .ok (.aload_n 0, 1) := by decide +kernel
theorem dX10_init_24 : decode cX10_init 24 = .ok (.new 18, 3) := by decide +kernel
theorem dX10_init_27 : decode cX10_init 27 = .ok (.dup, 1) := by decide +kernel
theorem dX10_init_28 : decode cX10_init 28 = .ok (.iconst 0, 1) := by decide +kernel
theorem dX10_init_29 : decode cX10_init 29 = .ok (.aconst_null, 1) := by decide +kernel
theorem dX10_init_30 : decode cX10_init 30 = .ok (.iconst 0, 1) := by decide +kernel
theorem dX10_init_31 : decode cX10_init 31 = .ok (.invokespecial 24, 3) := by decide +kernel
theorem dX10_init_34 : decode cX10_init 34 = .ok (.putfield 27, 3) := by decide +kernel
theorem dX10_init_37 : decode cX10_init 37 = .ok (.aload_n 0, 1) := by decide +kernel
theorem dX10_init_38 : decode cX10_init 38 = .ok (.iconst 1, 1) := by decide +kernel
theorem dX10_init_39 : decode cX10_init 39 = .ok (.putfield 31, 3) := by decide +kernel
theorem dX10_init_42 : decode cX10_init 42 = .ok (.aload_n 0, 1) := by decide +kernel
theorem dX10_init_43 : decode cX10_init 43 = .ok (.sipush 600, 3) := by decide +kernel
theorem dX10_init_46 : decode cX10_init 46 = .ok (.putfield 35, 3) := by decide +kernel
theorem dX10_init_49 : decode cX10_init 49 = .ok (.aload_n 0, 1) := by decide +kernel
theorem dX10_init_50 : decode cX10_init 50 = .ok (.getfield 12, 3) := by decide +kernel
theorem dX10_init_53 : decode cX10_init 53 = .ok (.aload_n 0, 1) := by decide +kernel
theorem dX10_init_54 : decode cX10_init 54 = .ok (.getfield 27, 3) := by decide +kernel
theorem dX10_init_57 : decode cX10_init 57 = .ok (.invokeinterface 38 2, 5) := by decide +kernel
theorem dX10_init_62 : decode cX10_init 62 = .ok (.pop, 1) := by decide +kernel
theorem dX10_init_63 : decode cX10_init 63 = .ok (.return_, 1) := by decide +kernel
set_option maxRecDepth 4000 in
theorem kX10_init (γ : LC) (w : Mm) (T : Int) (c : Int → Int) (hq : 0 < T) (ht : w 0 T 0 = 11) (hc : c T = 41) (hk : KPc c w) : KV γ 9 mX10_init [rv T] w (10) (55) (fun w' => ∃ c' N, NW T c c' w w' ∧ FTr c' w' T N ∧ FNd c' w' N) NX := by
  refine MX_of rfl rfl (by simp [rv_cat, int_cat]) rfl ?_
  rintro κ hO hF rfl
  have hD := hF.dp
  show X κ (10) (55) w 0 [some (rv T)] []
  refine X_aload_n 1 hO dX10_init_0 rfl rfl ?_
  refine X_objInit 4 hO w_257 dX10_init_1 rfl hD (by decide) (by assumption) (by simp [rv_cat, int_cat]) ?_
  refine X_aload_n 5 hO dX10_init_4 rfl rfl ?_
  refine n_15 8 hO w_258 (by omega) (by omega) dX10_init_5 rfl (fun q_5 hq_5 hf_5 => ?_)
  have u_1 : w 0 q_5 0 = 0 := hf_5
  have ne_1 : T ≠ q_5 := fun e => by rw [e] at ht; omega
  obtain ⟨k1, e_k1⟩ : ∃ k : Int → Int, k = (fun a => if a = q_5 then 42 else c a) := ⟨_, rfl⟩
  obtain ⟨W1, e_W1⟩ : ∃ W, W = newO w q_5 15 := ⟨_, rfl⟩
  have M_ : NW q_5 c k1 w W1 := by rw [e_k1, e_W1]; exact (NW.refl hk).O hq_5 hf_5 (by decide)
  rw [← e_W1]
  have o_1 : OBt k1 W1 q_5 15 (42) := ⟨by rw [e_W1]; exact newO_t, by rw [e_k1]; exact if_pos rfl⟩
  have z_1 : ∀ k : Nat, 10 ≤ k → W1 k q_5 0 = 0 := fun k hk => by rw [e_W1]; exact newO_f hk
  have U_ := M_.u1 (b := 41) hf_5
  have X_ := M_.1
  have ht_ : W1 0 T 0 = 11 := M_.tt ht (by decide)
  have hc_ : k1 T = 41 := (X_ T (by omega)).trans hc
  have N_ : NW T c k1 w W1 := (NW.refl hk).trans M_ (Or.inr (hf_5))
  have N0 := N_
  clear N_ U_ X_
  have ht0 := ht_
  have hc0 := hc_
  clear ht_ hc_
  clear M_ e_k1 e_W1
  refine X_dup 9 hO dX10_init_8 rfl (by first | rfl | exact rv_cat _) ?_
  refine X_kIv 12 hO hD lX10_11 [] rfl dX10_init_9 rfl (by assumption) (kJx4a65c_init_da8c8 _ _ _ hq_5 o_1.1) (by decide) (by simp [rv_cat, int_cat]) (by first | decide | exact Nat.zero_le _ | omega) (by first | decide | exact Nat.zero_le _ | omega) (fun w_9 hp_9 => ?_) (fun E w_ hx_ => hx_.elim)
  have M9 : NW q_5 k1 k1 W1 w_9 := by rw [hp_9]; exact ((NW.refl N0.2.1).p (Or.inl rfl) (by omega) (by decide)).p (Or.inl rfl) (by omega) (by decide)
  have U_ := M9.u o_1.2
  have X_ := M9.1
  have o_1' := o_1.fr (by decide) U_ X_
  clear o_1
  have o_1 := o_1'
  clear o_1'
  have ht_ : w_9 0 T 0 = 11 := M9.tt ht0 (by decide)
  have hc_ : k1 T = 41 := (X_ T (by omega)).trans hc0
  have N_ : NW T c k1 w w_9 := (N0).trans M9 (Or.inr u_1)
  clear N0 ht0 hc0
  have N0 := N_
  clear N_ U_ X_
  have ht0 := ht_
  have hc0 := hc_
  clear ht_ hc_
  have l_1 : FLe w_9 q_5 (eN ((kg κ).2 9)) := ⟨by rw [hp_9, up_s], by rw [hp_9, up_k _ (by decide), up_k _ (by decide)]; exact z_1 93 (by decide), by rw [hp_9, up_k _ (by decide), up_s]⟩
  clear M9 hp_9 z_1
  refine pX10_12 15 hO hF.2.2.2.2 dX10_init_12 rfl (by first | assumption | omega | (simp (disch := first | decide | assumption | omega) only [up_k, up_s, up_a, up_i, flA_k, flA_a, newO_o, newA_o]; first | assumption | omega)) ?_
  obtain ⟨W2, e_W2⟩ : ∃ W, W = up w_9 38 T 0 q_5 := ⟨_, rfl⟩
  have M_ : NW T k1 k1 w_9 W2 := by rw [e_W2]; exact (NW.refl N0.2.1).p (Or.inl rfl) (by omega) (by decide)
  rw [← e_W2]
  have U_ := M_.u hc0
  have X_ := M_.1
  have o_1' := o_1.fr (by decide) U_ X_
  have l_1' := l_1.fr o_1 U_ (fun k => SX_n (by omega))
  clear l_1 o_1
  have o_1 := o_1'
  clear o_1'
  have l_1 := l_1'
  clear l_1'
  have ht_ : W2 0 T 0 = 11 := M_.tt ht0 (by decide)
  have hc_ : k1 T = 41 := (X_ T (by omega)).trans hc0
  have N_ : NW T c k1 w W2 := (N0).trans M_ (Or.inl rfl)
  clear N0 ht0 hc0
  have N0 := N_
  clear N_ U_ X_
  have ht0 := ht_
  have hc0 := hc_
  clear ht_ hc_
  have f38 : W2 38 T 0 = q_5 := by rw [e_W2]; exact up_s _ _ _ _ _
  clear M_ e_W2
  refine X_aload_n 16 hO dX10_init_15 rfl rfl ?_
  refine X_iconst 17 hO dX10_init_16 rfl ?_
  refine X_newq (t := 25) 20 hO rfl (by decide) w_284 (by decide) (by omega) (by omega) (by omega) dX10_init_17 rfl (fun q_17 hq_17 hf_17 => ?_)
  have u_3 : w 0 q_17 0 = 0 := N0.un hf_17
  have ne_3 : T ≠ q_17 := fun e => by rw [e] at ht; omega
  obtain ⟨k3, e_k3⟩ : ∃ k : Int → Int, k = (fun a => if a = q_17 then 44 else k1 a) := ⟨_, rfl⟩
  obtain ⟨W3, e_W3⟩ : ∃ W, W = newA W2 q_17 ((25 : Nat) : Int) 5 := ⟨_, rfl⟩
  have M_ : NW q_17 k1 k3 W2 W3 := by rw [e_k3, e_W3]; exact (NW.refl N0.2.1).A hq_17 hf_17 (by decide)
  rw [← e_W3]
  have o_3 : OBt k3 W3 q_17 25 (44) := ⟨by rw [e_W3]; exact newA_t, by rw [e_k3]; exact if_pos rfl⟩
  have a_3 : ARt k3 W3 q_17 25 (5) (44) := ⟨⟨o_3.1, by rw [e_W3]; exact newA_n, o_3.2⟩, fun j => by rw [e_W3]; exact ⟨newA_1 (Or.inl rfl), newA_1 (Or.inr rfl)⟩⟩
  have U_ := M_.u1 (b := 41) hf_17
  have X_ := M_.1
  have o_1' := o_1.fr (by decide) U_ X_
  have l_1' := l_1.fr o_1 U_ (fun k => SX_n (by omega))
  clear l_1 o_1
  have o_1 := o_1'
  clear o_1'
  have l_1 := l_1'
  clear l_1'
  have ht_ : W3 0 T 0 = 11 := M_.tt ht0 (by decide)
  have hc_ : k3 T = 41 := (X_ T (by omega)).trans hc0
  have f38' : W3 38 T 0 = q_5 := (M_.f hf_17 (by omega)).trans f38
  have N_ : NW T c k3 w W3 := (N0).trans M_ (Or.inr (N0.un hf_17))
  clear N0 ht0 hc0
  have N0 := N_
  clear N_ U_ X_
  have ht0 := ht_
  have hc0 := hc_
  clear ht_ hc_
  clear f38
  have f38 := f38'
  clear f38'
  clear M_ e_k3 e_W3
  refine pX10_20 23 hO hF.2.2.2.2 dX10_init_20 rfl (by first | assumption | omega | (simp (disch := first | decide | assumption | omega) only [up_k, up_s, up_a, up_i, flA_k, flA_a, newO_o, newA_o]; first | assumption | omega)) ?_
  obtain ⟨W4, e_W4⟩ : ∃ W, W = up W3 39 T 0 q_17 := ⟨_, rfl⟩
  have M_ : NW T k3 k3 W3 W4 := by rw [e_W4]; exact (NW.refl N0.2.1).p (Or.inl rfl) (by omega) (by decide)
  rw [← e_W4]
  have U_ := M_.u hc0
  have X_ := M_.1
  have o_1' := o_1.fr (by decide) U_ X_
  have l_1' := l_1.fr o_1 U_ (fun k => SX_n (by omega))
  have a_3' := a_3.fr (by decide) U_ X_ (fun k => SX_n (by omega))
  clear a_3 l_1 o_1
  have o_1 := o_1'
  clear o_1'
  have l_1 := l_1'
  clear l_1'
  have a_3 := a_3'
  clear a_3'
  have ht_ : W4 0 T 0 = 11 := M_.tt ht0 (by decide)
  have hc_ : k3 T = 41 := (X_ T (by omega)).trans hc0
  have f38' : W4 38 T 0 = q_5 := by rw [e_W4, up_k _ (by decide)]; exact f38
  have N_ : NW T c k3 w W4 := (N0).trans M_ (Or.inl rfl)
  clear N0 ht0 hc0
  have N0 := N_
  clear N_ U_ X_
  have ht0 := ht_
  have hc0 := hc_
  clear ht_ hc_
  clear f38
  have f38 := f38'
  clear f38'
  have f39 : W4 39 T 0 = q_17 := by rw [e_W4]; exact up_s _ _ _ _ _
  clear M_ e_W4
  refine X_aload_n 24 hO dX10_init_23 rfl rfl ?_
  refine n_5 27 hO w_284 (by omega) (by omega) dX10_init_24 rfl (fun q_24 hq_24 hf_24 => ?_)
  refine X_dup 28 hO dX10_init_27 rfl (by first | rfl | exact rv_cat _) ?_
  refine X_iconst 29 hO dX10_init_28 rfl ?_
  refine X_null 30 hO dX10_init_29 rfl ?_
  refine X_iconst 31 hO dX10_init_30 rfl ?_
  refine X_kIv 34 hO hD lX10_24 [_, _, _] rfl dX10_init_31 rfl (by assumption) (kX4_init _ _ _ _ _ _ 0 hq_24 newO_t (by omega) (by omega) (by omega) (by omega)) (by decide) (by simp [rv_cat, int_cat]) (by first | decide | exact Nat.zero_le _ | omega) (by first | decide | exact Nat.zero_le _ | omega) (fun w_31 hp_31 => ?_) (fun E w_ hx_ => hx_.elim)
  obtain ⟨q1_, q2_, a1_, a2_, a3_, a4_, y1, y2, y3, y4, y5⟩ := hp_31
  obtain ⟨c31, M31, nd⟩ := NW.nd N0.2.1 (NWN.of (w := W4) ⟨hq_24, hf_24⟩ rfl y1 y2 y3 y4 y5)
  clear y1 y2 y3 y4 y5
  have U_ := M31.u1 (b := 41) hf_24
  have X_ := M31.1
  have o_1' := o_1.fr (by decide) U_ X_
  have l_1' := l_1.fr o_1 U_ (fun k => SX_n (by omega))
  have a_3' := a_3.fr (by decide) U_ X_ (fun k => SX_n (by omega))
  clear a_3 l_1 o_1
  have o_1 := o_1'
  clear o_1'
  have l_1 := l_1'
  clear l_1'
  have a_3 := a_3'
  clear a_3'
  have ht_ : w_31 0 T 0 = 11 := M31.tt ht0 (by decide)
  have hc_ : c31 T = 41 := (X_ T (by omega)).trans hc0
  have f38' : w_31 38 T 0 = q_5 := (M31.f hf_24 (by omega)).trans f38
  have f39' : w_31 39 T 0 = q_17 := (M31.f hf_24 (by omega)).trans f39
  have N_ : NW T c c31 w w_31 := (N0).trans M31 (Or.inr (N0.un hf_24))
  clear N0 ht0 hc0
  have N0 := N_
  clear N_ U_ X_
  have ht0 := ht_
  have hc0 := hc_
  clear ht_ hc_
  clear f38
  have f38 := f38'
  clear f38'
  clear f39
  have f39 := f39'
  clear f39'
  clear M31
  refine pX10_27 37 hO dX10_init_34 rfl (by first | assumption | omega | (simp (disch := first | decide | assumption | omega) only [up_k, up_s, up_a, up_i, flA_k, flA_a, newO_o, newA_o]; first | assumption | omega)) ?_
  obtain ⟨W5, e_W5⟩ : ∃ W, W = up w_31 40 T 0 q_24 := ⟨_, rfl⟩
  have M_ : NW T c31 c31 w_31 W5 := by rw [e_W5]; exact (NW.refl N0.2.1).p (Or.inl rfl) (by omega) (by decide)
  rw [← e_W5]
  have U_ := M_.u hc0
  have X_ := M_.1
  have o_1' := o_1.fr (by decide) U_ X_
  have l_1' := l_1.fr o_1 U_ (fun k => SX_n (by omega))
  have a_3' := a_3.fr (by decide) U_ X_ (fun k => SX_n (by omega))
  have nd' := nd.fr U_ X_ (fun b' k _ _ => SX_n (by omega))
  clear nd a_3 l_1 o_1
  have o_1 := o_1'
  clear o_1'
  have l_1 := l_1'
  clear l_1'
  have a_3 := a_3'
  clear a_3'
  have nd := nd'
  clear nd'
  have ht_ : W5 0 T 0 = 11 := M_.tt ht0 (by decide)
  have hc_ : c31 T = 41 := (X_ T (by omega)).trans hc0
  have f38' : W5 38 T 0 = q_5 := by rw [e_W5, up_k _ (by decide)]; exact f38
  have f39' : W5 39 T 0 = q_17 := by rw [e_W5, up_k _ (by decide)]; exact f39
  have N_ : NW T c c31 w W5 := (N0).trans M_ (Or.inl rfl)
  clear N0 ht0 hc0
  have N0 := N_
  clear N_ U_ X_
  have ht0 := ht_
  have hc0 := hc_
  clear ht_ hc_
  clear f38
  have f38 := f38'
  clear f38'
  clear f39
  have f39 := f39'
  clear f39'
  have f40 : W5 40 T 0 = q_24 := by rw [e_W5]; exact up_s _ _ _ _ _
  clear M_ e_W5
  refine X_aload_n 38 hO dX10_init_37 rfl rfl ?_
  refine X_iconst 39 hO dX10_init_38 rfl ?_
  refine pX10_31 42 hO dX10_init_39 rfl (by first | assumption | omega | (simp (disch := first | decide | assumption | omega) only [up_k, up_s, up_a, up_i, flA_k, flA_a, newO_o, newA_o]; first | assumption | omega)) (by omega) ?_
  obtain ⟨W6, e_W6⟩ : ∃ W, W = up W5 78 T 0 1 := ⟨_, rfl⟩
  have M_ : NW T c31 c31 W5 W6 := by rw [e_W6]; exact (NW.refl N0.2.1).p (Or.inl rfl) (by omega) (by decide)
  rw [← e_W6]
  have U_ := M_.u hc0
  have X_ := M_.1
  have o_1' := o_1.fr (by decide) U_ X_
  have l_1' := l_1.fr o_1 U_ (fun k => SX_n (by omega))
  have a_3' := a_3.fr (by decide) U_ X_ (fun k => SX_n (by omega))
  have nd' := nd.fr U_ X_ (fun b' k _ _ => SX_n (by omega))
  clear nd a_3 l_1 o_1
  have o_1 := o_1'
  clear o_1'
  have l_1 := l_1'
  clear l_1'
  have a_3 := a_3'
  clear a_3'
  have nd := nd'
  clear nd'
  have ht_ : W6 0 T 0 = 11 := M_.tt ht0 (by decide)
  have hc_ : c31 T = 41 := (X_ T (by omega)).trans hc0
  have f38' : W6 38 T 0 = q_5 := by rw [e_W6, up_k _ (by decide)]; exact f38
  have f39' : W6 39 T 0 = q_17 := by rw [e_W6, up_k _ (by decide)]; exact f39
  have f40' : W6 40 T 0 = q_24 := by rw [e_W6, up_k _ (by decide)]; exact f40
  have N_ : NW T c c31 w W6 := (N0).trans M_ (Or.inl rfl)
  clear N0 ht0 hc0
  have N0 := N_
  clear N_ U_ X_
  have ht0 := ht_
  have hc0 := hc_
  clear ht_ hc_
  clear f38
  have f38 := f38'
  clear f38'
  clear f39
  have f39 := f39'
  clear f39'
  clear f40
  have f40 := f40'
  clear f40'
  have f78 : W6 78 T 0 = 1 := by rw [e_W6]; exact up_s _ _ _ _ _
  clear M_ e_W6
  refine X_aload_n 43 hO dX10_init_42 rfl rfl ?_
  refine X_sipush 46 hO dX10_init_43 rfl (by decide) ?_
  refine pX10_35 49 hO dX10_init_46 rfl (by first | assumption | omega | (simp (disch := first | decide | assumption | omega) only [up_k, up_s, up_a, up_i, flA_k, flA_a, newO_o, newA_o]; first | assumption | omega)) (by omega) ?_
  obtain ⟨W7, e_W7⟩ : ∃ W, W = up W6 79 T 0 600 := ⟨_, rfl⟩
  have M_ : NW T c31 c31 W6 W7 := by rw [e_W7]; exact (NW.refl N0.2.1).p (Or.inl rfl) (by omega) (by decide)
  rw [← e_W7]
  have U_ := M_.u hc0
  have X_ := M_.1
  have o_1' := o_1.fr (by decide) U_ X_
  have l_1' := l_1.fr o_1 U_ (fun k => SX_n (by omega))
  have a_3' := a_3.fr (by decide) U_ X_ (fun k => SX_n (by omega))
  have nd' := nd.fr U_ X_ (fun b' k _ _ => SX_n (by omega))
  clear nd a_3 l_1 o_1
  have o_1 := o_1'
  clear o_1'
  have l_1 := l_1'
  clear l_1'
  have a_3 := a_3'
  clear a_3'
  have nd := nd'
  clear nd'
  have ht_ : W7 0 T 0 = 11 := M_.tt ht0 (by decide)
  have hc_ : c31 T = 41 := (X_ T (by omega)).trans hc0
  have f38' : W7 38 T 0 = q_5 := by rw [e_W7, up_k _ (by decide)]; exact f38
  have f39' : W7 39 T 0 = q_17 := by rw [e_W7, up_k _ (by decide)]; exact f39
  have f40' : W7 40 T 0 = q_24 := by rw [e_W7, up_k _ (by decide)]; exact f40
  have f78' : W7 78 T 0 = 1 := by rw [e_W7, up_k _ (by decide)]; exact f78
  have N_ : NW T c c31 w W7 := (N0).trans M_ (Or.inl rfl)
  clear N0 ht0 hc0
  have N0 := N_
  clear N_ U_ X_
  have ht0 := ht_
  have hc0 := hc_
  clear ht_ hc_
  clear f38
  have f38 := f38'
  clear f38'
  clear f39
  have f39 := f39'
  clear f39'
  clear f40
  have f40 := f40'
  clear f40'
  clear f78
  have f78 := f78'
  clear f78'
  have f79 : W7 79 T 0 = 600 := by rw [e_W7]; exact up_s _ _ _ _ _
  clear M_ e_W7
  refine X_aload_n 50 hO dX10_init_49 rfl rfl ?_
  refine gX10_12 53 hO dX10_init_50 rfl (by first | assumption | omega | (simp (disch := first | decide | assumption | omega) only [up_k, up_s, up_a, up_i, flA_k, flA_a, newO_o, newA_o]; first | assumption | omega)) ?_
  try simp (disch := first | decide | assumption | omega) only [up_k, up_s, up_a, up_i, flA_k, flA_a, newO_o, newA_o]
  rw [f38]
  refine X_aload_n 54 hO dX10_init_53 rfl rfl ?_
  refine gX10_27 57 hO dX10_init_54 rfl (by first | assumption | omega | (simp (disch := first | decide | assumption | omega) only [up_k, up_s, up_a, up_i, flA_k, flA_a, newO_o, newA_o]; first | assumption | omega)) ?_
  try simp (disch := first | decide | assumption | omega) only [up_k, up_s, up_a, up_i, flA_k, flA_a, newO_o, newA_o]
  rw [f40]
  have t15 : W7 0 q_5 0 = 15 := o_1.1
  refine X_kFi 62 hO hD fX10_38 [_] rfl dX10_init_57 rfl (by first | assumption | omega | (simp (disch := first | decide | assumption | omega) only [up_k, up_s, up_a, up_i, flA_k, flA_a, newO_o, newA_o]; first | assumption | omega)) (kJx4a65c_add_9ea2d_E _ _ _ _ o_1.1 l_1.1 l_1.2.1 l_1.2.2 nd.1.1.1) (by decide) (by simp [rv_cat, int_cat]) (by first | decide | exact Nat.zero_le _ | omega) (by first | decide | exact Nat.zero_le _ | omega) (fun r_57 w_57 hr_57 hp_57 => ?_) (fun E w_ hx_ => hx_.elim)
  obtain ⟨e1_57, ad⟩ := hp_57
  obtain ⟨c57, M57, o1, ar, ff⟩ := NW.ad N0.2.1 o_1 (by have := nd.1.1.1; omega) hq_5 l_1.2.2 ad
  have U_ := M57.u o_1.2
  have X_ := M57.1
  have a_3' := a_3.fr (by decide) U_ X_ (fun k => SX_n (by omega))
  have nd' := nd.fr U_ X_ (fun b' k _ _ => SX_n (by omega))
  clear nd a_3
  have a_3 := a_3'
  clear a_3'
  have nd := nd'
  clear nd'
  have ht_ : w_57 0 T 0 = 11 := M57.tt ht0 (by decide)
  have hc_ : c57 T = 41 := (X_ T (by omega)).trans hc0
  have f38' : w_57 38 T 0 = q_5 := (M57.o (by omega) ne_1).trans f38
  have f39' : w_57 39 T 0 = q_17 := (M57.o (by omega) ne_1).trans f39
  have f40' : w_57 40 T 0 = q_24 := (M57.o (by omega) ne_1).trans f40
  have f78' : w_57 78 T 0 = 1 := (M57.o (by omega) ne_1).trans f78
  have f79' : w_57 79 T 0 = 600 := (M57.o (by omega) ne_1).trans f79
  have N_ : NW T c c57 w w_57 := (N0).trans M57 (Or.inr u_1)
  clear N0 ht0 hc0
  have N0 := N_
  clear N_ U_ X_
  have ht0 := ht_
  have hc0 := hc_
  clear ht_ hc_
  clear f38
  have f38 := f38'
  clear f38'
  clear f39
  have f39 := f39'
  clear f39'
  clear f40
  have f40 := f40'
  clear f40'
  clear f78
  have f78 := f78'
  clear f78'
  clear f79
  have f79 := f79'
  clear f79'
  refine X_pop 63 hO dX10_init_62 rfl (by first | rfl | exact rv_cat _) ?_
  exact X_vret hO hF rfl dX10_init_63 ⟨rfl, ⟨c57, q_24, N0, ⟨⟨⟨ht0, hc0⟩, by rw [f38]; exact o1, by rw [f38]; exact ar, by rw [f39]; exact a_3.1⟩, by rw [f38]; exact ff, fun j _ _ => by rw [f39]; exact (a_3.2 j).2, f40, f78, f79⟩, nd⟩⟩
