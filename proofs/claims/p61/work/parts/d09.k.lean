/-! THE LAW'S METHODS: small ones -/
abbrev hL_edits : List (Nat × Nat × Nat × Nat) := [(0, 134, 135, 43)]
theorem sL_edits : LkW RL 152 mL_edits hL_edits 3 := ⟨w_6182, w_6180, w_6181, w_122, ⟨by decide, by decide, by decide +kernel⟩, by decide⟩
abbrev hL_places : List (Nat × Nat × Nat × Nat) := [(0, 133, 134, 43)]
theorem sL_places : LkW RL 156 mL_places hL_places 3 := ⟨w_6219, w_6217, w_6218, w_122, ⟨by decide, by decide, by decide +kernel⟩, by decide⟩
abbrev hL_walks : List (Nat × Nat × Nat × Nat) := [(0, 53, 54, 43)]
theorem sL_walks : LkW RL 168 mL_walks hL_walks 3 := ⟨w_6229, w_6227, w_6228, w_122, ⟨by decide, by decide, by decide +kernel⟩, by decide⟩
abbrev hL_undoIn : List (Nat × Nat × Nat × Nat) := [(0, 6, 7, 43)]
theorem sL_undoIn : LkW RL 159 mL_undoIn hL_undoIn 3 := ⟨w_6239, w_6237, w_6238, w_122, ⟨by decide, by decide, by decide +kernel⟩, by decide⟩
abbrev hL_parent : List (Nat × Nat × Nat × Nat) := [(0, 5, 6, 85)]
theorem sL_parent : LkW RL 161 mL_parent hL_parent 2 := ⟨w_6254, w_6252, w_6253, w_122, ⟨by decide, by decide, by decide +kernel⟩, by decide⟩
theorem dL_low_0 : decode cL_low 0 = .ok (.iload_n 0, 1) := by decide +kernel
theorem dL_low_1 : decode cL_low 1 = .ok (.ldc 7, 2) := by decide +kernel
theorem dL_low_3 : decode cL_low 3 = .ok (.iand, 1) := by decide +kernel
theorem dL_low_4 : decode cL_low 4 = .ok (.iload_n 1, 1) := by decide +kernel
theorem dL_low_5 : decode cL_low 5 = .ok (.irem, 1) := by decide +kernel
theorem dL_low_6 : decode cL_low 6 = .ok (.ireturn, 1) := by decide +kernel
set_option maxRecDepth 4000 in
theorem L_low (γ : LC) (w : Mm) (v n : Int) (hv : IR v) (hn : 1 ≤ n ∧ n ≤ 2147483647) : KI γ 1 mL_low [.int (I v), .int (I n)] w (0) (0) (fun r w' => (0 ≤ r ∧ r < n) ∧ w' = w) NX := by
  refine MX_of rfl rfl (by simp [rv_cat, int_cat]) rfl ?_
  rintro κ hO hF rfl
  have hD := hF.dp
  show X κ (0) (0) w 0 [some (.int (I v)), some (.int (I n))] []
  obtain ⟨z, hz1, hz2⟩ := bits31 v
  refine X_iload_n 1 hO dL_low_0 rfl rfl ?_
  refine X_ldc (z := 2147483647) 3 hO w_6175 dL_low_1 rfl ?_
  refine X_iand 4 hO dL_low_3 rfl (hz1) ?_
  refine X_iload_n 5 hO dL_low_4 rfl rfl ?_
  refine X_irem 6 hO dL_low_5 rfl (I_nz hn.1 (by omega)) (I_remn hz2.1 (by omega) hn.1 (by omega)) ?_
  have q0 := Int.emod_nonneg z (show n ≠ 0 by omega)
  have q1 := Int.emod_lt_of_pos z (show 0 < n by omega)
  generalize z % n = m at q0 q1 ⊢
  exact X_iret hO hF rfl (by first | exact Or.inl rfl | exact Or.inr ⟨rfl, bi_01 _⟩ | exact Or.inr ⟨rfl, by omega⟩) dL_low_6 ⟨_, rfl, (by omega), ⟨⟨by omega, by omega⟩, rfl⟩⟩
theorem dL_cell_0 : decode cL_cell 0 = .ok (.iload_n 1, 1) := by decide +kernel
theorem dL_cell_1 : decode cL_cell 1 = .ok (.aload_n 0, 1) := by decide +kernel
theorem dL_cell_2 : decode cL_cell 2 = .ok (.arraylength, 1) := by decide +kernel
theorem dL_cell_3 : decode cL_cell 3 = .ok (.if_icmp .ge 9, 3) := by decide +kernel
theorem dL_cell_6 : decode cL_cell 6 = .ok (.aload_n 0, 1) := by decide +kernel
theorem dL_cell_7 : decode cL_cell 7 = .ok (.iload_n 1, 1) := by decide +kernel
theorem dL_cell_8 : decode cL_cell 8 = .ok (.iaload, 1) := by decide +kernel
theorem dL_cell_9 : decode cL_cell 9 = .ok (.goto 11, 3) := by decide +kernel
theorem dL_cell_12 : decode cL_cell 12 = .ok (.ldc 8, 2) := by decide +kernel
theorem dL_cell_14 : decode cL_cell 14 = .ok (.iload_n 1, 1) := by decide +kernel
theorem dL_cell_15 : decode cL_cell 15 = .ok (.imul, 1) := by decide +kernel
theorem dL_cell_16 : decode cL_cell 16 = .ok (.sipush 977, 3) := by decide +kernel
theorem dL_cell_19 : decode cL_cell 19 = .ok (.iadd, 1) := by decide +kernel
theorem dL_cell_20 : decode cL_cell 20 = .ok (.ireturn, 1) := by decide +kernel
theorem L_cell {γ : LC} {b L : Nat} {xs : Nat → Int32} (hL : L ≤ 2560) (w : Mm) (k : Int) (hk : 0 ≤ k ∧ k ≤ 1000) : MS γ b L xs 1 mL_cell [.ref b, .int (I k)] w 0 0 (fun v w' => ∃ r, v = some (.int (I r)) ∧ IR r ∧ w' = w) := by
  refine MS_of hL rfl rfl (by simp [Value.category]) rfl ?_
  rintro κ hO hF rfl hs
  show X κ 0 0 w 0 [some (.ref b), some (.int (I k))] []
  obtain ⟨hX, hbl, hbA, -⟩ := id hs
  refine X_iload_n 1 hO dL_cell_0 rfl rfl ?_
  refine X_aload_nR 2 hO dL_cell_1 rfl rfl ?_
  refine X_slen 3 hO hX hbl hbA dL_cell_2 rfl ?_
  refine X_icmp_ge 6 12 hO dL_cell_3 rfl rfl (by omega) (by omega) (fun hc => ?_) (fun hc => ?_)
  · refine X_ldc (z := 40503) 14 hO w_6179 dL_cell_12 rfl ?_
    refine X_iload_n 15 hO dL_cell_14 rfl rfl ?_
    refine X_imul 16 hO dL_cell_15 rfl ?_
    refine X_sipush 19 hO dL_cell_16 rfl (by decide) ?_
    refine X_iadd 20 hO dL_cell_19 rfl ?_
    exact X_iret hO hF rfl (Or.inl rfl) dL_cell_20 ⟨_, rfl, by omega, rfl⟩
  · refine X_aload_nR 7 hO dL_cell_6 rfl rfl ?_
    refine X_iload_n 8 hO dL_cell_7 rfl rfl ?_
    refine X_sld (i := k) 9 hO hX hbl hbA (by omega) hL dL_cell_8 rfl (fun v hv hrv => ?_)
    refine X_goto (tgt := 20) hO dL_cell_9 rfl ?_
    exact X_iret hO hF rfl (Or.inl rfl) dL_cell_20 ⟨_, rfl, hrv, rfl⟩
theorem LG.t0 {w A : Mm} {μ : MU} {f n g rc : Int} (h : LG μ f n g rc w A) : w 0 f 0 = 13 := by
  obtain ⟨⟨⟨p, hC⟩, -⟩, -⟩ := h
  exact hC.1.toF.1
theorem dL_parent_0 : decode cL_parent 0 = .ok (.aload_n 0, 1) := by decide +kernel
theorem dL_parent_1 : decode cL_parent 1 = .ok (.iload_n 1, 1) := by decide +kernel
theorem dL_parent_2 : decode cL_parent 2 = .ok (.invokevirtual 82, 3) := by decide +kernel
theorem dL_parent_5 : decode cL_parent 5 = .ok (.ireturn, 1) := by decide +kernel
theorem dL_parent_6 : decode cL_parent 6 = .ok (.astore_n 2, 1) := by decide +kernel
theorem dL_parent_7 : decode cL_parent 7 = .ok (.bipush (-4), 2) := by decide +kernel
theorem dL_parent_9 : decode cL_parent 9 = .ok (.ireturn, 1) := by decide +kernel
set_option maxRecDepth 4000 in
theorem L_parent {γ : LC} {w A : Mm} {μ : MU} {f n g rc : Int} (k : Int) (h : LG μ f n g rc w A) (hn : 0 ≤ n ∧ n ≤ 500) (hk : IR k) : KW γ 9 mL_parent hL_parent [rv f, .int (I k)] w 1 6 (fun r w' => w' = w ∧ ((isN μ k A ∧ r = A 217 0 k) ∨ (¬ isN μ k A ∧ r = -4))) := by
  refine MXW_of (own := RL) rfl rfl (by simp [rv_cat, int_cat]) rfl ?_
  rintro κ hO hF rfl
  have hD := hF.dp
  show X κ 1 6 w 0 [some (rv f), some (.int (I k)), none] []
  have t0 : w 0 f 0 = 13 := h.t0
  refine X_wi (fun hW => ?_)
  obtain ⟨⟨⟨p, hC⟩, hV, hB, hP, hS⟩, -⟩ := id h
  refine X_aload_n 1 hO dL_parent_0 rfl rfl ?_
  refine X_iload_n 2 hO dL_parent_1 rfl rfl ?_
  refine X_kVi (t := 13) 5 hO hD lL_82 rfl (by decide) [_] rfl dL_parent_2 rfl (by first | assumption | omega | (simp (disch := first | decide | assumption | omega) only [up_k, up_s, up_a, up_i, flA_k, flA_a, newO_o, newA_o]; first | assumption | omega)) (y_parentOf hC hW hB (by omega) hk) (by decide) (by simp [rv_cat, int_cat]) (by first | decide | exact Nat.zero_le _ | omega) (by first | decide | exact Nat.zero_le _ | omega) (fun r_2 w_2 hr_2 hp_2 => ?_) (fun E w_ hx_ => by obtain ⟨rfl, hq⟩ := hx_; refine X_catch hO hF [] _ _ rfl (fun z hz => by cases hz) (by decide) (by decide) w_6255 (by decide +kernel) (fun q0 => ?_); refine X_astore_nR 7 hO dL_parent_6 rfl rfl ?_; refine X_bipush 9 hO dL_parent_7 rfl (by decide) ?_; exact X_iretW hO hF rfl (Or.inl rfl) dL_parent_9 ⟨-4, rfl, by decide, ⟨hq.2, Or.inr ⟨hq.1, rfl⟩⟩⟩)
  obtain ⟨hi_2, he_2, e_2⟩ := hp_2
  subst e_2
  exact X_iretW hO hF rfl (by first | exact Or.inl rfl | exact Or.inr ⟨rfl, bi_01 _⟩ | exact Or.inr ⟨rfl, by omega⟩) dL_parent_5 ⟨_, rfl, (by omega), ⟨rfl, Or.inl ⟨hi_2, he_2⟩⟩⟩
theorem dL_undoIn_0 : decode cL_undoIn 0 = .ok (.aload_n 0, 1) := by decide +kernel
theorem dL_undoIn_1 : decode cL_undoIn 1 = .ok (.iload_n 1, 1) := by decide +kernel
theorem dL_undoIn_2 : decode cL_undoIn 2 = .ok (.iload_n 2, 1) := by decide +kernel
theorem dL_undoIn_3 : decode cL_undoIn 3 = .ok (.invokevirtual 79, 3) := by decide +kernel
theorem dL_undoIn_6 : decode cL_undoIn 6 = .ok (.ireturn, 1) := by decide +kernel
theorem dL_undoIn_7 : decode cL_undoIn 7 = .ok (.astore_n 3, 1) := by decide +kernel
theorem dL_undoIn_8 : decode cL_undoIn 8 = .ok (.bipush (-3), 2) := by decide +kernel
theorem dL_undoIn_10 : decode cL_undoIn 10 = .ok (.ireturn, 1) := by decide +kernel
set_option maxRecDepth 4000 in
theorem L_undoIn {γ : LC} {w A : Mm} {μ : MU} {f n g rc : Int} (lo hi : Int) (h : LG μ f n g rc w A) (hn : 0 ≤ n ∧ n ≤ 500) (hlo : IR lo) (hhi : IR hi) (hr : isR lo hi A) : KW γ 13 mL_undoIn hL_undoIn [rv f, .int (I lo), .int (I hi)] w 80 6600 (fun r w' => ∃ B, LG μ f (n + 1) g rc w' B ∧ (r = -3 ∨ (1 ≤ r ∧ r = B 126 μ.1 0))) := by
  refine MXW_of (own := RL) rfl rfl (by simp [rv_cat, int_cat]) rfl ?_
  rintro κ hO hF rfl
  have hD := hF.dp
  show X κ 80 6600 w 0 [some (rv f), some (.int (I lo)), some (.int (I hi)), none] []
  have t0 : w 0 f 0 = 13 := h.t0
  refine X_aload_n 1 hO dL_undoIn_0 rfl rfl ?_
  refine X_iload_n 2 hO dL_undoIn_1 rfl rfl ?_
  refine X_iload_n 3 hO dL_undoIn_2 rfl rfl ?_
  refine X_kVi (t := 13) 6 hO hD lL_79 rfl (by decide) [_, _] rfl dL_undoIn_3 rfl (by first | assumption | omega | (simp (disch := first | decide | assumption | omega) only [up_k, up_s, up_a, up_i, flA_k, flA_a, newO_o, newA_o]; first | assumption | omega)) (lg_undoIn h hn hlo hhi hr) (by decide) (by simp [rv_cat, int_cat]) (by first | decide | exact Nat.zero_le _ | omega) (by first | decide | exact Nat.zero_le _ | omega) (fun r_3 w_3 hr_3 hp_3 => ?_) (fun E w_ hx_ => by obtain ⟨rfl, hq⟩ := hx_; refine X_catch hO hF [] _ _ rfl (fun z hz => by cases hz) (by decide) (by decide) w_6183 (by decide +kernel) (fun q0 => ?_); refine X_astore_nR 8 hO dL_undoIn_7 rfl rfl ?_; refine X_bipush 10 hO dL_undoIn_8 rfl (by decide) ?_; exact X_iretW hO hF rfl (Or.inl rfl) dL_undoIn_10 ⟨-3, rfl, by decide, (by obtain ⟨B, hq⟩ := hq; exact ⟨B, hq, Or.inl rfl⟩)⟩)
  obtain ⟨h1_3, B_3, h2_3, h3_3⟩ := hp_3
  exact X_iretW hO hF rfl (by first | exact Or.inl rfl | exact Or.inr ⟨rfl, bi_01 _⟩ | exact Or.inr ⟨rfl, by omega⟩) dL_undoIn_6 ⟨_, rfl, (by omega), ⟨B_3, h2_3, Or.inr ⟨h1_3, h3_3⟩⟩⟩
theorem dL_edits_0 : decode cL_edits 0 = .ok (.iload_n 1, 1) := by decide +kernel
theorem dL_edits_1 : decode cL_edits 1 = .ok (.ifCond .ne 18, 3) := by decide +kernel
theorem dL_edits_4 : decode cL_edits 4 = .ok (.aload_n 0, 1) := by decide +kernel
theorem dL_edits_5 : decode cL_edits 5 = .ok (.bipush 97, 2) := by decide +kernel
theorem dL_edits_7 : decode cL_edits 7 = .ok (.iload_n 2, 1) := by decide +kernel
theorem dL_edits_8 : decode cL_edits 8 = .ok (.iconst 3, 1) := by decide +kernel
theorem dL_edits_9 : decode cL_edits 9 = .ok (.invokestatic 9, 3) := by decide +kernel
theorem dL_edits_12 : decode cL_edits 12 = .ok (.iadd, 1) := by decide +kernel
theorem dL_edits_13 : decode cL_edits 13 = .ok (.invokevirtual 15, 3) := by decide +kernel
theorem dL_edits_16 : decode cL_edits 16 = .ok (.goto 118, 3) := by decide +kernel
theorem dL_edits_19 : decode cL_edits 19 = .ok (.iload_n 1, 1) := by decide +kernel
theorem dL_edits_20 : decode cL_edits 20 = .ok (.iconst 1, 1) := by decide +kernel
theorem dL_edits_21 : decode cL_edits 21 = .ok (.if_icmp .ne 18, 3) := by decide +kernel
theorem dL_edits_24 : decode cL_edits 24 = .ok (.aload_n 0, 1) := by decide +kernel
theorem dL_edits_25 : decode cL_edits 25 = .ok (.bipush 97, 2) := by decide +kernel
theorem dL_edits_27 : decode cL_edits 27 = .ok (.iload_n 2, 1) := by decide +kernel
theorem dL_edits_28 : decode cL_edits 28 = .ok (.iconst 3, 1) := by decide +kernel
theorem dL_edits_29 : decode cL_edits 29 = .ok (.invokestatic 9, 3) := by decide +kernel
theorem dL_edits_32 : decode cL_edits 32 = .ok (.iadd, 1) := by decide +kernel
theorem dL_edits_33 : decode cL_edits 33 = .ok (.invokevirtual 21, 3) := by decide +kernel
theorem dL_edits_36 : decode cL_edits 36 = .ok (.goto 98, 3) := by decide +kernel
theorem dL_edits_39 : decode cL_edits 39 = .ok (.iload_n 1, 1) := by decide +kernel
theorem dL_edits_40 : decode cL_edits 40 = .ok (.iconst 2, 1) := by decide +kernel
theorem dL_edits_41 : decode cL_edits 41 = .ok (.if_icmp .ne 17, 3) := by decide +kernel
theorem dL_edits_44 : decode cL_edits 44 = .ok (.aload_n 0, 1) := by decide +kernel
theorem dL_edits_45 : decode cL_edits 45 = .ok (.iconst 1, 1) := by decide +kernel
theorem dL_edits_46 : decode cL_edits 46 = .ok (.iload_n 2, 1) := by decide +kernel
theorem dL_edits_47 : decode cL_edits 47 = .ok (.iconst 3, 1) := by decide +kernel
theorem dL_edits_48 : decode cL_edits 48 = .ok (.invokestatic 9, 3) := by decide +kernel
theorem dL_edits_51 : decode cL_edits 51 = .ok (.iadd, 1) := by decide +kernel
theorem dL_edits_52 : decode cL_edits 52 = .ok (.invokevirtual 24, 3) := by decide +kernel
theorem dL_edits_55 : decode cL_edits 55 = .ok (.goto 79, 3) := by decide +kernel
theorem dL_edits_58 : decode cL_edits 58 = .ok (.iload_n 1, 1) := by decide +kernel
theorem dL_edits_59 : decode cL_edits 59 = .ok (.iconst 3, 1) := by decide +kernel
theorem dL_edits_60 : decode cL_edits 60 = .ok (.if_icmp .ne 18, 3) := by decide +kernel
theorem dL_edits_63 : decode cL_edits 63 = .ok (.aload_n 0, 1) := by decide +kernel
theorem dL_edits_64 : decode cL_edits 64 = .ok (.iload_n 2, 1) := by decide +kernel
theorem dL_edits_65 : decode cL_edits 65 = .ok (.bipush 11, 2) := by decide +kernel
theorem dL_edits_67 : decode cL_edits 67 = .ok (.invokestatic 9, 3) := by decide +kernel
theorem dL_edits_70 : decode cL_edits 70 = .ok (.iconst 5, 1) := by decide +kernel
theorem dL_edits_71 : decode cL_edits 71 = .ok (.isub, 1) := by decide +kernel
theorem dL_edits_72 : decode cL_edits 72 = .ok (.invokevirtual 27, 3) := by decide +kernel
theorem dL_edits_75 : decode cL_edits 75 = .ok (.goto 59, 3) := by decide +kernel
theorem dL_edits_78 : decode cL_edits 78 = .ok (.iload_n 1, 1) := by decide +kernel
theorem dL_edits_79 : decode cL_edits 79 = .ok (.iconst 4, 1) := by decide +kernel
theorem dL_edits_80 : decode cL_edits 80 = .ok (.if_icmp .ne 17, 3) := by decide +kernel
theorem dL_edits_83 : decode cL_edits 83 = .ok (.aload_n 0, 1) := by decide +kernel
theorem dL_edits_84 : decode cL_edits 84 = .ok (.iconst 1, 1) := by decide +kernel
theorem dL_edits_85 : decode cL_edits 85 = .ok (.iload_n 2, 1) := by decide +kernel
theorem dL_edits_86 : decode cL_edits 86 = .ok (.iconst 3, 1) := by decide +kernel
theorem dL_edits_87 : decode cL_edits 87 = .ok (.invokestatic 9, 3) := by decide +kernel
theorem dL_edits_90 : decode cL_edits 90 = .ok (.iadd, 1) := by decide +kernel
theorem dL_edits_91 : decode cL_edits 91 = .ok (.invokevirtual 30, 3) := by decide +kernel
theorem dL_edits_94 : decode cL_edits 94 = .ok (.goto 40, 3) := by decide +kernel
theorem dL_edits_97 : decode cL_edits 97 = .ok (.iload_n 1, 1) := by decide +kernel
theorem dL_edits_98 : decode cL_edits 98 = .ok (.iconst 5, 1) := by decide +kernel
theorem dL_edits_99 : decode cL_edits 99 = .ok (.if_icmp .ne 10, 3) := by decide +kernel
theorem dL_edits_102 : decode cL_edits 102 = .ok (.aload_n 0, 1) := by decide +kernel
theorem dL_edits_103 : decode cL_edits 103 = .ok (.invokevirtual 33, 3) := by decide +kernel
theorem dL_edits_106 : decode cL_edits 106 = .ok (.goto 28, 3) := by decide +kernel
theorem dL_edits_109 : decode cL_edits 109 = .ok (.iload_n 1, 1) := by decide +kernel
theorem dL_edits_110 : decode cL_edits 110 = .ok (.bipush 6, 2) := by decide +kernel
theorem dL_edits_112 : decode cL_edits 112 = .ok (.if_icmp .ne 10, 3) := by decide +kernel
theorem dL_edits_115 : decode cL_edits 115 = .ok (.aload_n 0, 1) := by decide +kernel
theorem dL_edits_116 : decode cL_edits 116 = .ok (.invokevirtual 37, 3) := by decide +kernel
theorem dL_edits_119 : decode cL_edits 119 = .ok (.goto 15, 3) := by decide +kernel
theorem dL_edits_122 : decode cL_edits 122 = .ok (.aload_n 0, 1) := by decide +kernel
theorem dL_edits_123 : decode cL_edits 123 = .ok (.bipush 97, 2) := by decide +kernel
theorem dL_edits_125 : decode cL_edits 125 = .ok (.iload_n 2, 1) := by decide +kernel
theorem dL_edits_126 : decode cL_edits 126 = .ok (.iconst 3, 1) := by decide +kernel
theorem dL_edits_127 : decode cL_edits 127 = .ok (.invokestatic 9, 3) := by decide +kernel
theorem dL_edits_130 : decode cL_edits 130 = .ok (.iadd, 1) := by decide +kernel
theorem dL_edits_131 : decode cL_edits 131 = .ok (.invokevirtual 40, 3) := by decide +kernel
theorem dL_edits_134 : decode cL_edits 134 = .ok (.ireturn, 1) := by decide +kernel
theorem dL_edits_135 : decode cL_edits 135 = .ok (.astore_n 3, 1) := by decide +kernel
theorem dL_edits_136 : decode cL_edits 136 = .ok (.bipush (-3), 2) := by decide +kernel
theorem dL_edits_138 : decode cL_edits 138 = .ok (.ireturn, 1) := by decide +kernel
set_option maxRecDepth 4000 in
theorem L_edits {γ : LC} {w A : Mm} {μ : MU} {f n g rc : Int} (q a : Int) (h : LG μ f n g rc w A) (hn : 0 ≤ n ∧ n ≤ 500) (hq : 0 ≤ q ∧ q ≤ 7) (ha : IR a) : KW γ 15 mL_edits hL_edits [rv f, .int (I q), .int (I a)] w 48 3300 (fun r w' => (-3 ≤ r ∧ (q = 0 → r = -3 ∨ 1 ≤ r)) ∧ ∃ B, LG μ f (n + 1) g rc w' B) := by
  refine MXW_of (own := RL) rfl rfl (by simp [rv_cat, int_cat]) rfl ?_
  rintro κ hO hF rfl
  have hD := hF.dp
  show X κ 48 3300 w 0 [some (rv f), some (.int (I q)), some (.int (I a)), none] []
  have t0 : w 0 f 0 = 13 := h.t0
  refine X_iload_n 1 hO dL_edits_0 rfl rfl ?_
  refine X_if_ne 4 19 hO dL_edits_1 rfl rfl (by omega) (fun hc_1 => ?_) (fun hc_1 => ?_)
  ·
    refine X_iload_n 20 hO dL_edits_19 rfl rfl ?_
    refine X_iconst 21 hO dL_edits_20 rfl ?_
    refine X_icmp_ne 24 39 hO dL_edits_21 rfl rfl (by omega) (by omega) (fun hc_21 => ?_) (fun hc_21 => ?_)
    ·
      refine X_iload_n 40 hO dL_edits_39 rfl rfl ?_
      refine X_iconst 41 hO dL_edits_40 rfl ?_
      refine X_icmp_ne 44 58 hO dL_edits_41 rfl rfl (by omega) (by omega) (fun hc_41 => ?_) (fun hc_41 => ?_)
      ·
        refine X_iload_n 59 hO dL_edits_58 rfl rfl ?_
        refine X_iconst 60 hO dL_edits_59 rfl ?_
        refine X_icmp_ne 63 78 hO dL_edits_60 rfl rfl (by omega) (by omega) (fun hc_60 => ?_) (fun hc_60 => ?_)
        ·
          refine X_iload_n 79 hO dL_edits_78 rfl rfl ?_
          refine X_iconst 80 hO dL_edits_79 rfl ?_
          refine X_icmp_ne 83 97 hO dL_edits_80 rfl rfl (by omega) (by omega) (fun hc_80 => ?_) (fun hc_80 => ?_)
          ·
            refine X_iload_n 98 hO dL_edits_97 rfl rfl ?_
            refine X_iconst 99 hO dL_edits_98 rfl ?_
            refine X_icmp_ne 102 109 hO dL_edits_99 rfl rfl (by omega) (by omega) (fun hc_99 => ?_) (fun hc_99 => ?_)
            ·
              refine X_iload_n 110 hO dL_edits_109 rfl rfl ?_
              refine X_bipush 112 hO dL_edits_110 rfl (by decide) ?_
              refine X_icmp_ne 115 122 hO dL_edits_112 rfl rfl (by omega) (by omega) (fun hc_112 => ?_) (fun hc_112 => ?_)
              ·
                refine X_aload_n 123 hO dL_edits_122 rfl rfl ?_
                refine X_bipush 125 hO dL_edits_123 rfl (by decide) ?_
                refine X_iload_n 126 hO dL_edits_125 rfl rfl ?_
                refine X_iconst 127 hO dL_edits_126 rfl ?_
                refine X_kSi 130 hO hD lL_9 [_, _] rfl dL_edits_127 rfl (L_low _ _ _ _ (by omega) (by omega)) (by decide) (by simp [rv_cat, int_cat]) (by first | decide | exact Nat.zero_le _ | omega) (by first | decide | exact Nat.zero_le _ | omega) (fun r_127 w_127 hr_127 hp_127 => ?_) (fun E w_ hx_ => hx_.elim)
                obtain ⟨hl_127, e_127⟩ := hp_127
                subst e_127
                refine X_iadd 131 hO dL_edits_130 rfl ?_
                refine X_kVi (t := 13) 134 hO hD lL_40 rfl (by decide) [_] rfl dL_edits_131 rfl (by first | assumption | omega | (simp (disch := first | decide | assumption | omega) only [up_k, up_s, up_a, up_i, flA_k, flA_a, newO_o, newA_o]; first | assumption | omega)) (lg_search h hn (by omega) (by first | omega | (refine Or.inr ?_; omega))) (by decide) (by simp [rv_cat, int_cat]) (by first | decide | exact Nat.zero_le _ | omega) (by first | decide | exact Nat.zero_le _ | omega) (fun r_131 w_131 hr_131 hp_131 => ?_) (fun E w_ hx_ => by obtain ⟨rfl, hq⟩ := hx_; refine X_catch hO hF [] _ _ rfl (fun z hz => by cases hz) (by decide) (by decide) w_6183 (by decide +kernel) (fun q0 => ?_); refine X_astore_nR 136 hO dL_edits_135 rfl rfl ?_; refine X_bipush 138 hO dL_edits_136 rfl (by decide) ?_; exact X_iretW hO hF rfl (Or.inl rfl) dL_edits_138 ⟨-3, rfl, by decide, ⟨⟨by decide, fun _ => Or.inl rfl⟩, hq⟩⟩)
                have hres : (-3 ≤ r_131 ∧ (q = 0 → r_131 = -3 ∨ 1 ≤ r_131)) ∧ ∃ B, LG μ f (n + 1) g rc w_131 B := ⟨⟨by have := hp_131.1; omega, fun z => absurd z hc_1⟩, hp_131.2⟩
                exact X_iretW hO hF rfl (by first | exact Or.inl rfl | exact Or.inr ⟨rfl, bi_01 _⟩ | exact Or.inr ⟨rfl, by omega⟩) dL_edits_134 ⟨_, rfl, (by omega), hres⟩
              ·
                refine X_aload_n 116 hO dL_edits_115 rfl rfl ?_
                refine X_kVi (t := 13) 119 hO hD lL_37 rfl (by decide) [] rfl dL_edits_116 rfl (by first | assumption | omega | (simp (disch := first | decide | assumption | omega) only [up_k, up_s, up_a, up_i, flA_k, flA_a, newO_o, newA_o]; first | assumption | omega)) (lg_rotate h hn) (by decide) (by simp [rv_cat, int_cat]) (by first | decide | exact Nat.zero_le _ | omega) (by first | decide | exact Nat.zero_le _ | omega) (fun r_116 w_116 hr_116 hp_116 => ?_) (fun E w_ hx_ => by obtain ⟨rfl, hq⟩ := hx_; refine X_catch hO hF [] _ _ rfl (fun z hz => by cases hz) (by decide) (by decide) w_6183 (by decide +kernel) (fun q0 => ?_); refine X_astore_nR 136 hO dL_edits_135 rfl rfl ?_; refine X_bipush 138 hO dL_edits_136 rfl (by decide) ?_; exact X_iretW hO hF rfl (Or.inl rfl) dL_edits_138 ⟨-3, rfl, by decide, ⟨⟨by decide, fun _ => Or.inl rfl⟩, hq⟩⟩)
                have hres : (-3 ≤ r_116 ∧ (q = 0 → r_116 = -3 ∨ 1 ≤ r_116)) ∧ ∃ B, LG μ f (n + 1) g rc w_116 B := ⟨⟨by have := hp_116.1; omega, fun z => absurd z hc_1⟩, hp_116.2⟩
                refine X_goto hO dL_edits_119 (tgt := 134) rfl ?_
                exact X_iretW hO hF rfl (by first | exact Or.inl rfl | exact Or.inr ⟨rfl, bi_01 _⟩ | exact Or.inr ⟨rfl, by omega⟩) dL_edits_134 ⟨_, rfl, (by omega), hres⟩
            ·
              refine X_aload_n 103 hO dL_edits_102 rfl rfl ?_
              refine X_kVi (t := 13) 106 hO hD lL_33 rfl (by decide) [] rfl dL_edits_103 rfl (by first | assumption | omega | (simp (disch := first | decide | assumption | omega) only [up_k, up_s, up_a, up_i, flA_k, flA_a, newO_o, newA_o]; first | assumption | omega)) (lg_yank h hn) (by decide) (by simp [rv_cat, int_cat]) (by first | decide | exact Nat.zero_le _ | omega) (by first | decide | exact Nat.zero_le _ | omega) (fun r_103 w_103 hr_103 hp_103 => ?_) (fun E w_ hx_ => by obtain ⟨rfl, hq⟩ := hx_; refine X_catch hO hF [] _ _ rfl (fun z hz => by cases hz) (by decide) (by decide) w_6183 (by decide +kernel) (fun q0 => ?_); refine X_astore_nR 136 hO dL_edits_135 rfl rfl ?_; refine X_bipush 138 hO dL_edits_136 rfl (by decide) ?_; exact X_iretW hO hF rfl (Or.inl rfl) dL_edits_138 ⟨-3, rfl, by decide, ⟨⟨by decide, fun _ => Or.inl rfl⟩, hq⟩⟩)
              have hres : (-3 ≤ r_103 ∧ (q = 0 → r_103 = -3 ∨ 1 ≤ r_103)) ∧ ∃ B, LG μ f (n + 1) g rc w_103 B := ⟨⟨by have := hp_103.1; omega, fun z => absurd z hc_1⟩, hp_103.2⟩
              refine X_goto hO dL_edits_106 (tgt := 134) rfl ?_
              exact X_iretW hO hF rfl (by first | exact Or.inl rfl | exact Or.inr ⟨rfl, bi_01 _⟩ | exact Or.inr ⟨rfl, by omega⟩) dL_edits_134 ⟨_, rfl, (by omega), hres⟩
          ·
            refine X_aload_n 84 hO dL_edits_83 rfl rfl ?_
            refine X_iconst 85 hO dL_edits_84 rfl ?_
            refine X_iload_n 86 hO dL_edits_85 rfl rfl ?_
            refine X_iconst 87 hO dL_edits_86 rfl ?_
            refine X_kSi 90 hO hD lL_9 [_, _] rfl dL_edits_87 rfl (L_low _ _ _ _ (by omega) (by omega)) (by decide) (by simp [rv_cat, int_cat]) (by first | decide | exact Nat.zero_le _ | omega) (by first | decide | exact Nat.zero_le _ | omega) (fun r_87 w_87 hr_87 hp_87 => ?_) (fun E w_ hx_ => hx_.elim)
            obtain ⟨hl_87, e_87⟩ := hp_87
            subst e_87
            refine X_iadd 91 hO dL_edits_90 rfl ?_
            refine X_kVi (t := 13) 94 hO hD lL_30 rfl (by decide) [_] rfl dL_edits_91 rfl (by first | assumption | omega | (simp (disch := first | decide | assumption | omega) only [up_k, up_s, up_a, up_i, flA_k, flA_a, newO_o, newA_o]; first | assumption | omega)) (lg_kill h hn (by omega) (by first | omega | (refine Or.inr ?_; omega))) (by decide) (by simp [rv_cat, int_cat]) (by first | decide | exact Nat.zero_le _ | omega) (by first | decide | exact Nat.zero_le _ | omega) (fun r_91 w_91 hr_91 hp_91 => ?_) (fun E w_ hx_ => by obtain ⟨rfl, hq⟩ := hx_; refine X_catch hO hF [] _ _ rfl (fun z hz => by cases hz) (by decide) (by decide) w_6183 (by decide +kernel) (fun q0 => ?_); refine X_astore_nR 136 hO dL_edits_135 rfl rfl ?_; refine X_bipush 138 hO dL_edits_136 rfl (by decide) ?_; exact X_iretW hO hF rfl (Or.inl rfl) dL_edits_138 ⟨-3, rfl, by decide, ⟨⟨by decide, fun _ => Or.inl rfl⟩, hq⟩⟩)
            have hres : (-3 ≤ r_91 ∧ (q = 0 → r_91 = -3 ∨ 1 ≤ r_91)) ∧ ∃ B, LG μ f (n + 1) g rc w_91 B := ⟨⟨by have := hp_91.1; omega, fun z => absurd z hc_1⟩, hp_91.2⟩
            refine X_goto hO dL_edits_94 (tgt := 134) rfl ?_
            exact X_iretW hO hF rfl (by first | exact Or.inl rfl | exact Or.inr ⟨rfl, bi_01 _⟩ | exact Or.inr ⟨rfl, by omega⟩) dL_edits_134 ⟨_, rfl, (by omega), hres⟩
        ·
          refine X_aload_n 64 hO dL_edits_63 rfl rfl ?_
          refine X_iload_n 65 hO dL_edits_64 rfl rfl ?_
          refine X_bipush 67 hO dL_edits_65 rfl (by decide) ?_
          refine X_kSi 70 hO hD lL_9 [_, _] rfl dL_edits_67 rfl (L_low _ _ _ _ (by omega) (by omega)) (by decide) (by simp [rv_cat, int_cat]) (by first | decide | exact Nat.zero_le _ | omega) (by first | decide | exact Nat.zero_le _ | omega) (fun r_67 w_67 hr_67 hp_67 => ?_) (fun E w_ hx_ => hx_.elim)
          obtain ⟨hl_67, e_67⟩ := hp_67
          subst e_67
          refine X_iconst 71 hO dL_edits_70 rfl ?_
          refine X_isub 72 hO dL_edits_71 rfl ?_
          refine X_kVi (t := 13) 75 hO hD lL_27 rfl (by decide) [_] rfl dL_edits_72 rfl (by first | assumption | omega | (simp (disch := first | decide | assumption | omega) only [up_k, up_s, up_a, up_i, flA_k, flA_a, newO_o, newA_o]; first | assumption | omega)) (lg_move h hn (by omega) (by first | omega | (refine Or.inr ?_; omega))) (by decide) (by simp [rv_cat, int_cat]) (by first | decide | exact Nat.zero_le _ | omega) (by first | decide | exact Nat.zero_le _ | omega) (fun r_72 w_72 hr_72 hp_72 => ?_) (fun E w_ hx_ => by obtain ⟨rfl, hq⟩ := hx_; refine X_catch hO hF [] _ _ rfl (fun z hz => by cases hz) (by decide) (by decide) w_6183 (by decide +kernel) (fun q0 => ?_); refine X_astore_nR 136 hO dL_edits_135 rfl rfl ?_; refine X_bipush 138 hO dL_edits_136 rfl (by decide) ?_; exact X_iretW hO hF rfl (Or.inl rfl) dL_edits_138 ⟨-3, rfl, by decide, ⟨⟨by decide, fun _ => Or.inl rfl⟩, hq⟩⟩)
          have hres : (-3 ≤ r_72 ∧ (q = 0 → r_72 = -3 ∨ 1 ≤ r_72)) ∧ ∃ B, LG μ f (n + 1) g rc w_72 B := ⟨⟨by have := hp_72.1; omega, fun z => absurd z hc_1⟩, hp_72.2⟩
          refine X_goto hO dL_edits_75 (tgt := 134) rfl ?_
          exact X_iretW hO hF rfl (by first | exact Or.inl rfl | exact Or.inr ⟨rfl, bi_01 _⟩ | exact Or.inr ⟨rfl, by omega⟩) dL_edits_134 ⟨_, rfl, (by omega), hres⟩
      ·
        refine X_aload_n 45 hO dL_edits_44 rfl rfl ?_
        refine X_iconst 46 hO dL_edits_45 rfl ?_
        refine X_iload_n 47 hO dL_edits_46 rfl rfl ?_
        refine X_iconst 48 hO dL_edits_47 rfl ?_
        refine X_kSi 51 hO hD lL_9 [_, _] rfl dL_edits_48 rfl (L_low _ _ _ _ (by omega) (by omega)) (by decide) (by simp [rv_cat, int_cat]) (by first | decide | exact Nat.zero_le _ | omega) (by first | decide | exact Nat.zero_le _ | omega) (fun r_48 w_48 hr_48 hp_48 => ?_) (fun E w_ hx_ => hx_.elim)
        obtain ⟨hl_48, e_48⟩ := hp_48
        subst e_48
        refine X_iadd 52 hO dL_edits_51 rfl ?_
        refine X_kVi (t := 13) 55 hO hD lL_24 rfl (by decide) [_] rfl dL_edits_52 rfl (by first | assumption | omega | (simp (disch := first | decide | assumption | omega) only [up_k, up_s, up_a, up_i, flA_k, flA_a, newO_o, newA_o]; first | assumption | omega)) (lg_delete h hn (by omega) (by first | omega | (refine Or.inr ?_; omega))) (by decide) (by simp [rv_cat, int_cat]) (by first | decide | exact Nat.zero_le _ | omega) (by first | decide | exact Nat.zero_le _ | omega) (fun r_52 w_52 hr_52 hp_52 => ?_) (fun E w_ hx_ => by obtain ⟨rfl, hq⟩ := hx_; refine X_catch hO hF [] _ _ rfl (fun z hz => by cases hz) (by decide) (by decide) w_6183 (by decide +kernel) (fun q0 => ?_); refine X_astore_nR 136 hO dL_edits_135 rfl rfl ?_; refine X_bipush 138 hO dL_edits_136 rfl (by decide) ?_; exact X_iretW hO hF rfl (Or.inl rfl) dL_edits_138 ⟨-3, rfl, by decide, ⟨⟨by decide, fun _ => Or.inl rfl⟩, hq⟩⟩)
        have hres : (-3 ≤ r_52 ∧ (q = 0 → r_52 = -3 ∨ 1 ≤ r_52)) ∧ ∃ B, LG μ f (n + 1) g rc w_52 B := ⟨⟨by have := hp_52.1; omega, fun z => absurd z hc_1⟩, hp_52.2⟩
        refine X_goto hO dL_edits_55 (tgt := 134) rfl ?_
        exact X_iretW hO hF rfl (by first | exact Or.inl rfl | exact Or.inr ⟨rfl, bi_01 _⟩ | exact Or.inr ⟨rfl, by omega⟩) dL_edits_134 ⟨_, rfl, (by omega), hres⟩
    ·
      refine X_aload_n 25 hO dL_edits_24 rfl rfl ?_
      refine X_bipush 27 hO dL_edits_25 rfl (by decide) ?_
      refine X_iload_n 28 hO dL_edits_27 rfl rfl ?_
      refine X_iconst 29 hO dL_edits_28 rfl ?_
      refine X_kSi 32 hO hD lL_9 [_, _] rfl dL_edits_29 rfl (L_low _ _ _ _ (by omega) (by omega)) (by decide) (by simp [rv_cat, int_cat]) (by first | decide | exact Nat.zero_le _ | omega) (by first | decide | exact Nat.zero_le _ | omega) (fun r_29 w_29 hr_29 hp_29 => ?_) (fun E w_ hx_ => hx_.elim)
      obtain ⟨hl_29, e_29⟩ := hp_29
      subst e_29
      refine X_iadd 33 hO dL_edits_32 rfl ?_
      refine X_kVi (t := 13) 36 hO hD lL_21 rfl (by decide) [_] rfl dL_edits_33 rfl (by first | assumption | omega | (simp (disch := first | decide | assumption | omega) only [up_k, up_s, up_a, up_i, flA_k, flA_a, newO_o, newA_o]; first | assumption | omega)) (lg_overwrite h hn (by omega) (by first | omega | (refine Or.inr ?_; omega))) (by decide) (by simp [rv_cat, int_cat]) (by first | decide | exact Nat.zero_le _ | omega) (by first | decide | exact Nat.zero_le _ | omega) (fun r_33 w_33 hr_33 hp_33 => ?_) (fun E w_ hx_ => by obtain ⟨rfl, hq⟩ := hx_; refine X_catch hO hF [] _ _ rfl (fun z hz => by cases hz) (by decide) (by decide) w_6183 (by decide +kernel) (fun q0 => ?_); refine X_astore_nR 136 hO dL_edits_135 rfl rfl ?_; refine X_bipush 138 hO dL_edits_136 rfl (by decide) ?_; exact X_iretW hO hF rfl (Or.inl rfl) dL_edits_138 ⟨-3, rfl, by decide, ⟨⟨by decide, fun _ => Or.inl rfl⟩, hq⟩⟩)
      have hres : (-3 ≤ r_33 ∧ (q = 0 → r_33 = -3 ∨ 1 ≤ r_33)) ∧ ∃ B, LG μ f (n + 1) g rc w_33 B := ⟨⟨by have := hp_33.1; omega, fun z => absurd z hc_1⟩, hp_33.2⟩
      refine X_goto hO dL_edits_36 (tgt := 134) rfl ?_
      exact X_iretW hO hF rfl (by first | exact Or.inl rfl | exact Or.inr ⟨rfl, bi_01 _⟩ | exact Or.inr ⟨rfl, by omega⟩) dL_edits_134 ⟨_, rfl, (by omega), hres⟩
  ·
    refine X_aload_n 5 hO dL_edits_4 rfl rfl ?_
    refine X_bipush 7 hO dL_edits_5 rfl (by decide) ?_
    refine X_iload_n 8 hO dL_edits_7 rfl rfl ?_
    refine X_iconst 9 hO dL_edits_8 rfl ?_
    refine X_kSi 12 hO hD lL_9 [_, _] rfl dL_edits_9 rfl (L_low _ _ _ _ (by omega) (by omega)) (by decide) (by simp [rv_cat, int_cat]) (by first | decide | exact Nat.zero_le _ | omega) (by first | decide | exact Nat.zero_le _ | omega) (fun r_9 w_9 hr_9 hp_9 => ?_) (fun E w_ hx_ => hx_.elim)
    obtain ⟨hl_9, e_9⟩ := hp_9
    subst e_9
    refine X_iadd 13 hO dL_edits_12 rfl ?_
    refine X_kVi (t := 13) 16 hO hD lL_15 rfl (by decide) [_] rfl dL_edits_13 rfl (by first | assumption | omega | (simp (disch := first | decide | assumption | omega) only [up_k, up_s, up_a, up_i, flA_k, flA_a, newO_o, newA_o]; first | assumption | omega)) (lg_insert h hn (by omega) (by first | omega | (refine Or.inr ?_; omega))) (by decide) (by simp [rv_cat, int_cat]) (by first | decide | exact Nat.zero_le _ | omega) (by first | decide | exact Nat.zero_le _ | omega) (fun r_13 w_13 hr_13 hp_13 => ?_) (fun E w_ hx_ => by obtain ⟨rfl, hq⟩ := hx_; refine X_catch hO hF [] _ _ rfl (fun z hz => by cases hz) (by decide) (by decide) w_6183 (by decide +kernel) (fun q0 => ?_); refine X_astore_nR 136 hO dL_edits_135 rfl rfl ?_; refine X_bipush 138 hO dL_edits_136 rfl (by decide) ?_; exact X_iretW hO hF rfl (Or.inl rfl) dL_edits_138 ⟨-3, rfl, by decide, ⟨⟨by decide, fun _ => Or.inl rfl⟩, hq⟩⟩)
    have hres : (-3 ≤ r_13 ∧ (q = 0 → r_13 = -3 ∨ 1 ≤ r_13)) ∧ ∃ B, LG μ f (n + 1) g rc w_13 B := ⟨⟨by have := hp_13.1; omega, fun _ => Or.inr hp_13.1⟩, hp_13.2⟩
    refine X_goto hO dL_edits_16 (tgt := 134) rfl ?_
    exact X_iretW hO hF rfl (by first | exact Or.inl rfl | exact Or.inr ⟨rfl, bi_01 _⟩ | exact Or.inr ⟨rfl, by omega⟩) dL_edits_134 ⟨_, rfl, (by omega), hres⟩
