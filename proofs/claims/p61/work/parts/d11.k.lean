/-! THE LAW'S METHODS: text -/
theorem dL_text_0 : decode cL_text 0 = .ok (.aload_n 0, 1) := by decide +kernel
theorem dL_text_1 : decode cL_text 1 = .ok (.invokevirtual 87, 3) := by decide +kernel
theorem dL_text_4 : decode cL_text 4 = .ok (.istore_n 1, 1) := by decide +kernel
theorem dL_text_5 : decode cL_text 5 = .ok (.aload_n 0, 1) := by decide +kernel
theorem dL_text_6 : decode cL_text 6 = .ok (.invokevirtual 90, 3) := by decide +kernel
theorem dL_text_9 : decode cL_text 9 = .ok (.aload_n 0, 1) := by decide +kernel
theorem dL_text_10 : decode cL_text 10 = .ok (.invokevirtual 93, 3) := by decide +kernel
theorem dL_text_13 : decode cL_text 13 = .ok (.if_icmp .gt 48, 3) := by decide +kernel
theorem dL_text_16 : decode cL_text 16 = .ok (.aload_n 0, 1) := by decide +kernel
theorem dL_text_17 : decode cL_text 17 = .ok (.invokevirtual 93, 3) := by decide +kernel
theorem dL_text_20 : decode cL_text 20 = .ok (.aload_n 0, 1) := by decide +kernel
theorem dL_text_21 : decode cL_text 21 = .ok (.invokevirtual 96, 3) := by decide +kernel
theorem dL_text_24 : decode cL_text 24 = .ok (.if_icmp .gt 37, 3) := by decide +kernel
theorem dL_text_27 : decode cL_text 27 = .ok (.aload_n 0, 1) := by decide +kernel
theorem dL_text_28 : decode cL_text 28 = .ok (.invokevirtual 96, 3) := by decide +kernel
theorem dL_text_31 : decode cL_text 31 = .ok (.aload_n 0, 1) := by decide +kernel
theorem dL_text_32 : decode cL_text 32 = .ok (.invokevirtual 99, 3) := by decide +kernel
theorem dL_text_35 : decode cL_text 35 = .ok (.if_icmp .gt 26, 3) := by decide +kernel
theorem dL_text_38 : decode cL_text 38 = .ok (.iload_n 1, 1) := by decide +kernel
theorem dL_text_39 : decode cL_text 39 = .ok (.iconst 1, 1) := by decide +kernel
theorem dL_text_40 : decode cL_text 40 = .ok (.if_icmp .lt 21, 3) := by decide +kernel
theorem dL_text_43 : decode cL_text 43 = .ok (.aload_n 0, 1) := by decide +kernel
theorem dL_text_44 : decode cL_text 44 = .ok (.aload_n 0, 1) := by decide +kernel
theorem dL_text_45 : decode cL_text 45 = .ok (.invokevirtual 99, 3) := by decide +kernel
theorem dL_text_48 : decode cL_text 48 = .ok (.invokevirtual 102, 3) := by decide +kernel
theorem dL_text_51 : decode cL_text 51 = .ok (.iload_n 1, 1) := by decide +kernel
theorem dL_text_52 : decode cL_text 52 = .ok (.iconst 1, 1) := by decide +kernel
theorem dL_text_53 : decode cL_text 53 = .ok (.isub, 1) := by decide +kernel
theorem dL_text_54 : decode cL_text 54 = .ok (.if_icmp .ne 7, 3) := by decide +kernel
theorem dL_text_57 : decode cL_text 57 = .ok (.iconst 1, 1) := by decide +kernel
theorem dL_text_58 : decode cL_text 58 = .ok (.goto 4, 3) := by decide +kernel
theorem dL_text_61 : decode cL_text 61 = .ok (.iconst 0, 1) := by decide +kernel
theorem dL_text_62 : decode cL_text 62 = .ok (.istore_n 2, 1) := by decide +kernel
theorem dL_text_63 : decode cL_text 63 = .ok (.iload_n 2, 1) := by decide +kernel
theorem dL_text_64 : decode cL_text 64 = .ok (.ifCond .eq 24, 3) := by decide +kernel
theorem dL_text_67 : decode cL_text 67 = .ok (.aload_n 0, 1) := by decide +kernel
theorem dL_text_68 : decode cL_text 68 = .ok (.aload_n 0, 1) := by decide +kernel
theorem dL_text_69 : decode cL_text 69 = .ok (.iload_n 1, 1) := by decide +kernel
theorem dL_text_70 : decode cL_text 70 = .ok (.iconst 1, 1) := by decide +kernel
theorem dL_text_71 : decode cL_text 71 = .ok (.isub, 1) := by decide +kernel
theorem dL_text_72 : decode cL_text 72 = .ok (.invokevirtual 105, 3) := by decide +kernel
theorem dL_text_75 : decode cL_text 75 = .ok (.invokevirtual 102, 3) := by decide +kernel
theorem dL_text_78 : decode cL_text 78 = .ok (.iload_n 1, 1) := by decide +kernel
theorem dL_text_79 : decode cL_text 79 = .ok (.iconst 1, 1) := by decide +kernel
theorem dL_text_80 : decode cL_text 80 = .ok (.isub, 1) := by decide +kernel
theorem dL_text_81 : decode cL_text 81 = .ok (.if_icmp .ne 7, 3) := by decide +kernel
theorem dL_text_84 : decode cL_text 84 = .ok (.iconst 1, 1) := by decide +kernel
theorem dL_text_85 : decode cL_text 85 = .ok (.goto 4, 3) := by decide +kernel
theorem dL_text_88 : decode cL_text 88 = .ok (.iconst 0, 1) := by decide +kernel
theorem dL_text_89 : decode cL_text 89 = .ok (.istore_n 2, 1) := by decide +kernel
theorem dL_text_90 : decode cL_text 90 = .ok (.iconst 0, 1) := by decide +kernel
theorem dL_text_91 : decode cL_text 91 = .ok (.istore_n 3, 1) := by decide +kernel
theorem dL_text_92 : decode cL_text 92 = .ok (.iload_n 3, 1) := by decide +kernel
theorem dL_text_93 : decode cL_text 93 = .ok (.bipush 6, 2) := by decide +kernel
theorem dL_text_95 : decode cL_text 95 = .ok (.if_icmp .ge 40, 3) := by decide +kernel
theorem dL_text_98 : decode cL_text 98 = .ok (.iload_n 2, 1) := by decide +kernel
theorem dL_text_99 : decode cL_text 99 = .ok (.ifCond .eq 36, 3) := by decide +kernel
theorem dL_text_102 : decode cL_text 102 = .ok (.aload_n 0, 1) := by decide +kernel
theorem dL_text_103 : decode cL_text 103 = .ok (.iload_n 3, 1) := by decide +kernel
theorem dL_text_104 : decode cL_text 104 = .ok (.invokevirtual 108, 3) := by decide +kernel
theorem dL_text_107 : decode cL_text 107 = .ok (.iconst (-1), 1) := by decide +kernel
theorem dL_text_108 : decode cL_text 108 = .ok (.if_icmp .lt 19, 3) := by decide +kernel
theorem dL_text_111 : decode cL_text 111 = .ok (.aload_n 0, 1) := by decide +kernel
theorem dL_text_112 : decode cL_text 112 = .ok (.iload_n 3, 1) := by decide +kernel
theorem dL_text_113 : decode cL_text 113 = .ok (.invokevirtual 108, 3) := by decide +kernel
theorem dL_text_116 : decode cL_text 116 = .ok (.aload_n 0, 1) := by decide +kernel
theorem dL_text_117 : decode cL_text 117 = .ok (.invokevirtual 99, 3) := by decide +kernel
theorem dL_text_120 : decode cL_text 120 = .ok (.if_icmp .gt 7, 3) := by decide +kernel
theorem dL_text_123 : decode cL_text 123 = .ok (.iconst 1, 1) := by decide +kernel
theorem dL_text_124 : decode cL_text 124 = .ok (.goto 4, 3) := by decide +kernel
theorem dL_text_127 : decode cL_text 127 = .ok (.iconst 0, 1) := by decide +kernel
theorem dL_text_128 : decode cL_text 128 = .ok (.istore_n 2, 1) := by decide +kernel
theorem dL_text_129 : decode cL_text 129 = .ok (.iinc 3 1, 3) := by decide +kernel
theorem dL_text_132 : decode cL_text 132 = .ok (.goto (-40), 3) := by decide +kernel
theorem dL_text_135 : decode cL_text 135 = .ok (.iload_n 2, 1) := by decide +kernel
theorem dL_text_136 : decode cL_text 136 = .ok (.ireturn, 1) := by decide +kernel
set_option maxRecDepth 4000 in
theorem L_text {γ : LC} {w A : Mm} {μ : MU} {f n g rc : Int} (h : LG μ f n g rc w A) (hn : 0 ≤ n ∧ n ≤ 500) : KI γ 8 mL_text [rv f] w 20 120 (fun r w' => r = 1 ∧ w' = w) NX := by
  refine MX_of rfl rfl (by simp [rv_cat, int_cat]) rfl ?_
  rintro κ hO hF rfl
  have hD := hF.dp
  show X κ 20 120 w 0 [some (rv f), none, none, none] []
  have t0 : w 0 f 0 = 13 := h.t0
  refine X_wi (fun hW => ?_)
  obtain ⟨⟨⟨p, hC⟩, hV, hB, hP, hS⟩, hg, -⟩ := id h
  have F1 := hB.1.f
  have F2 := hB.1.1.2.2.1
  have F3 := fee_rng (p := A 201 0 0) (w := A) (by omega)
  refine X_aload_n 1 hO dL_text_0 rfl rfl ?_
  refine X_kVi (t := 13) 4 hO hD lL_87 rfl (by decide) [] rfl dL_text_1 rfl (by first | assumption | omega | (simp (disch := first | decide | assumption | omega) only [up_k, up_s, up_a, up_i, flA_k, flA_a, newO_o, newA_o]; first | assumption | omega)) (y_lines hC) (by decide) (by simp [rv_cat, int_cat]) (by first | decide | exact Nat.zero_le _ | omega) (by first | decide | exact Nat.zero_le _ | omega) (fun r_1 w_1 hr_1 hp_1 => ?_) (fun E w_ hx_ => hx_.elim)
  obtain ⟨he_1, e_1⟩ := hp_1
  subst w_1
  refine X_istore_n 5 hO dL_text_4 rfl rfl ?_
  refine X_aload_n 6 hO dL_text_5 rfl rfl ?_
  refine X_kVi (t := 13) 9 hO hD lL_90 rfl (by decide) [] rfl dL_text_6 rfl (by first | assumption | omega | (simp (disch := first | decide | assumption | omega) only [up_k, up_s, up_a, up_i, flA_k, flA_a, newO_o, newA_o]; first | assumption | omega)) (y_viewStart hC) (by decide) (by simp [rv_cat, int_cat]) (by first | decide | exact Nat.zero_le _ | omega) (by first | decide | exact Nat.zero_le _ | omega) (fun r_6 w_6 hr_6 hp_6 => ?_) (fun E w_ hx_ => hx_.elim)
  obtain ⟨he_6, e_6⟩ := hp_6
  subst w_6
  refine X_aload_n 10 hO dL_text_9 rfl rfl ?_
  refine X_kVi (t := 13) 13 hO hD lL_93 rfl (by decide) [] rfl dL_text_10 rfl (by first | assumption | omega | (simp (disch := first | decide | assumption | omega) only [up_k, up_s, up_a, up_i, flA_k, flA_a, newO_o, newA_o]; first | assumption | omega)) (y_point hC) (by decide) (by simp [rv_cat, int_cat]) (by first | decide | exact Nat.zero_le _ | omega) (by first | decide | exact Nat.zero_le _ | omega) (fun r_10 w_10 hr_10 hp_10 => ?_) (fun E w_ hx_ => hx_.elim)
  obtain ⟨he_10, e_10⟩ := hp_10
  subst w_10
  refine X_icmp_gt 16 61 hO dL_text_13 rfl rfl (by omega) (by omega) (fun hc_13 => ?_) (fun hc_13 => ?_)
  ·
    exact absurd hc_13 (by omega)
  ·
    refine X_aload_n 17 hO dL_text_16 rfl rfl ?_
    refine X_kVi (t := 13) 20 hO hD lL_93 rfl (by decide) [] rfl dL_text_17 rfl (by first | assumption | omega | (simp (disch := first | decide | assumption | omega) only [up_k, up_s, up_a, up_i, flA_k, flA_a, newO_o, newA_o]; first | assumption | omega)) (y_point hC) (by decide) (by simp [rv_cat, int_cat]) (by first | decide | exact Nat.zero_le _ | omega) (by first | decide | exact Nat.zero_le _ | omega) (fun r_17 w_17 hr_17 hp_17 => ?_) (fun E w_ hx_ => hx_.elim)
    obtain ⟨he_17, e_17⟩ := hp_17
    subst w_17
    refine X_aload_n 21 hO dL_text_20 rfl rfl ?_
    refine X_kVi (t := 13) 24 hO hD lL_96 rfl (by decide) [] rfl dL_text_21 rfl (by first | assumption | omega | (simp (disch := first | decide | assumption | omega) only [up_k, up_s, up_a, up_i, flA_k, flA_a, newO_o, newA_o]; first | assumption | omega)) (y_viewEnd hC) (by decide) (by simp [rv_cat, int_cat]) (by first | decide | exact Nat.zero_le _ | omega) (by first | decide | exact Nat.zero_le _ | omega) (fun r_21 w_21 hr_21 hp_21 => ?_) (fun E w_ hx_ => hx_.elim)
    obtain ⟨he_21, e_21⟩ := hp_21
    subst w_21
    refine X_icmp_gt 27 61 hO dL_text_24 rfl rfl (by omega) (by omega) (fun hc_24 => ?_) (fun hc_24 => ?_)
    ·
      exact absurd hc_24 (by omega)
    ·
      refine X_aload_n 28 hO dL_text_27 rfl rfl ?_
      refine X_kVi (t := 13) 31 hO hD lL_96 rfl (by decide) [] rfl dL_text_28 rfl (by first | assumption | omega | (simp (disch := first | decide | assumption | omega) only [up_k, up_s, up_a, up_i, flA_k, flA_a, newO_o, newA_o]; first | assumption | omega)) (y_viewEnd hC) (by decide) (by simp [rv_cat, int_cat]) (by first | decide | exact Nat.zero_le _ | omega) (by first | decide | exact Nat.zero_le _ | omega) (fun r_28 w_28 hr_28 hp_28 => ?_) (fun E w_ hx_ => hx_.elim)
      obtain ⟨he_28, e_28⟩ := hp_28
      subst w_28
      refine X_aload_n 32 hO dL_text_31 rfl rfl ?_
      refine X_kVi (t := 13) 35 hO hD lL_99 rfl (by decide) [] rfl dL_text_32 rfl (by first | assumption | omega | (simp (disch := first | decide | assumption | omega) only [up_k, up_s, up_a, up_i, flA_k, flA_a, newO_o, newA_o]; first | assumption | omega)) (y_length hC) (by decide) (by simp [rv_cat, int_cat]) (by first | decide | exact Nat.zero_le _ | omega) (by first | decide | exact Nat.zero_le _ | omega) (fun r_32 w_32 hr_32 hp_32 => ?_) (fun E w_ hx_ => hx_.elim)
      obtain ⟨he_32, e_32⟩ := hp_32
      subst w_32
      refine X_icmp_gt 38 61 hO dL_text_35 rfl rfl (by omega) (by omega) (fun hc_35 => ?_) (fun hc_35 => ?_)
      ·
        exact absurd hc_35 (by omega)
      ·
        refine X_iload_n 39 hO dL_text_38 rfl rfl ?_
        refine X_iconst 40 hO dL_text_39 rfl ?_
        refine X_icmp_lt 43 61 hO dL_text_40 rfl rfl (by omega) (by omega) (fun hc_40 => ?_) (fun hc_40 => ?_)
        ·
          exact absurd hc_40 (by omega)
        ·
          refine X_aload_n 44 hO dL_text_43 rfl rfl ?_
          refine X_aload_n 45 hO dL_text_44 rfl rfl ?_
          refine X_kVi (t := 13) 48 hO hD lL_99 rfl (by decide) [] rfl dL_text_45 rfl (by first | assumption | omega | (simp (disch := first | decide | assumption | omega) only [up_k, up_s, up_a, up_i, flA_k, flA_a, newO_o, newA_o]; first | assumption | omega)) (y_length hC) (by decide) (by simp [rv_cat, int_cat]) (by first | decide | exact Nat.zero_le _ | omega) (by first | decide | exact Nat.zero_le _ | omega) (fun r_45 w_45 hr_45 hp_45 => ?_) (fun E w_ hx_ => hx_.elim)
          obtain ⟨he_45, e_45⟩ := hp_45
          subst w_45
          refine X_kVi (t := 13) 51 hO hD lL_102 rfl (by decide) [_] rfl dL_text_48 rfl (by first | assumption | omega | (simp (disch := first | decide | assumption | omega) only [up_k, up_s, up_a, up_i, flA_k, flA_a, newO_o, newA_o]; first | assumption | omega)) (y_lineOf hC (by omega) (by omega)) (by decide) (by simp [rv_cat, int_cat]) (by first | decide | exact Nat.zero_le _ | omega) (by first | decide | exact Nat.zero_le _ | omega) (fun r_48 w_48 hr_48 hp_48 => ?_) (fun E w_ hx_ => hx_.elim)
          obtain ⟨he_48, e_48⟩ := hp_48
          subst w_48
          rw [he_45] at he_48
          refine X_iload_n 52 hO dL_text_51 rfl rfl ?_
          refine X_iconst 53 hO dL_text_52 rfl ?_
          refine X_isub 54 hO dL_text_53 rfl ?_
          refine X_icmp_ne 57 61 hO dL_text_54 rfl rfl (by omega) (by omega) (fun hc_54 => ?_) (fun hc_54 => ?_)
          ·
            exact absurd hc_54 (by omega)
          ·
            refine X_iconst 58 hO dL_text_57 rfl ?_
            refine X_goto hO dL_text_58 (tgt := 62) rfl ?_
            refine X_istore_n 63 hO dL_text_62 rfl rfl ?_
            refine X_iload_n 64 hO dL_text_63 rfl rfl ?_
            refine X_if_eq 67 88 hO dL_text_64 rfl rfl (by omega) (fun hc_64 => ?_) (fun hc_64 => ?_)
            ·
              exact absurd hc_64 (by omega)
            ·
              refine X_aload_n 68 hO dL_text_67 rfl rfl ?_
              refine X_aload_n 69 hO dL_text_68 rfl rfl ?_
              refine X_iload_n 70 hO dL_text_69 rfl rfl ?_
              refine X_iconst 71 hO dL_text_70 rfl ?_
              refine X_isub 72 hO dL_text_71 rfl ?_
              refine X_kVi (t := 13) 75 hO hD lL_105 rfl (by decide) [_] rfl dL_text_72 rfl (by first | assumption | omega | (simp (disch := first | decide | assumption | omega) only [up_k, up_s, up_a, up_i, flA_k, flA_a, newO_o, newA_o]; first | assumption | omega)) (y_lineStart hC hB (by omega) (by omega) (by omega)) (by decide) (by simp [rv_cat, int_cat]) (by first | decide | exact Nat.zero_le _ | omega) (by first | decide | exact Nat.zero_le _ | omega) (fun r_72 w_72 hr_72 hp_72 => ?_) (fun E w_ hx_ => hx_.elim)
              obtain ⟨⟨hb_72, he_72⟩, e_72⟩ := hp_72
              subst w_72
              refine X_kVi (t := 13) 78 hO hD lL_102 rfl (by decide) [_] rfl dL_text_75 rfl (by first | assumption | omega | (simp (disch := first | decide | assumption | omega) only [up_k, up_s, up_a, up_i, flA_k, flA_a, newO_o, newA_o]; first | assumption | omega)) (y_lineOf hC (by omega) (by omega)) (by decide) (by simp [rv_cat, int_cat]) (by first | decide | exact Nat.zero_le _ | omega) (by first | decide | exact Nat.zero_le _ | omega) (fun r_75 w_75 hr_75 hp_75 => ?_) (fun E w_ hx_ => hx_.elim)
              obtain ⟨he_75, e_75⟩ := hp_75
              subst w_75
              refine X_iload_n 79 hO dL_text_78 rfl rfl ?_
              refine X_iconst 80 hO dL_text_79 rfl ?_
              refine X_isub 81 hO dL_text_80 rfl ?_
              refine X_icmp_ne 84 88 hO dL_text_81 rfl rfl (by omega) (by omega) (fun hc_81 => ?_) (fun hc_81 => ?_)
              ·
                exact absurd hc_81 (by omega)
              ·
                refine X_iconst 85 hO dL_text_84 rfl ?_
                refine X_goto hO dL_text_85 (tgt := 89) rfl ?_
                refine X_istore_n 90 hO dL_text_89 rfl rfl ?_
                refine X_iconst 91 hO dL_text_90 rfl ?_
                refine X_istore_n 92 hO dL_text_91 rfl rfl ?_
                have LP92 : ∀ (nn : Nat) (i : Int), (6 - i).toNat < nn → (0 ≤ i ∧ i ≤ 6) → X κ (2 * (6 - i).toNat) (12 * (6 - i).toNat) (w) 92 [some (rv f), some (.int (I r_1)), some (.int (I 1)), some (.int (I i))] [] := by
                  intro nn
                  induction nn with
                  | zero => intro i hm; exact absurd hm (Nat.not_lt_zero _)
                  | succ nn ih =>
                    intro i hm hi
                    refine X_iload_n 93 hO dL_text_92 rfl rfl ?_
                    refine X_bipush 95 hO dL_text_93 rfl (by decide) ?_
                    refine X_icmp_ge 98 135 hO dL_text_95 rfl rfl (by omega) (by omega) (fun hc_95 => ?_) (fun hc_95 => ?_)
                    ·
                      refine X_iload_n 136 hO dL_text_135 rfl rfl ?_
                      exact X_iret hO hF rfl (by first | exact Or.inl rfl | exact Or.inr ⟨rfl, bi_01 _⟩ | exact Or.inr ⟨rfl, by omega⟩) dL_text_136 ⟨_, rfl, (by omega), ⟨rfl, rfl⟩⟩
                    ·
                      have hm := F2 i (by omega) (by omega)
                      refine X_iload_n 99 hO dL_text_98 rfl rfl ?_
                      refine X_if_eq 102 135 hO dL_text_99 rfl rfl (by omega) (fun hc_99 => ?_) (fun hc_99 => ?_)
                      ·
                        exact absurd hc_99 (by omega)
                      ·
                        refine X_aload_n 103 hO dL_text_102 rfl rfl ?_
                        refine X_iload_n 104 hO dL_text_103 rfl rfl ?_
                        refine X_kVi (t := 13) 107 hO hD lL_108 rfl (by decide) [_] rfl dL_text_104 rfl (by first | assumption | omega | (simp (disch := first | decide | assumption | omega) only [up_k, up_s, up_a, up_i, flA_k, flA_a, newO_o, newA_o]; first | assumption | omega)) (y_markAt hC (by omega)) (by decide) (by simp [rv_cat, int_cat]) (by first | decide | exact Nat.zero_le _ | omega) (by first | decide | exact Nat.zero_le _ | omega) (fun r_104 w_104 hr_104 hp_104 => ?_) (fun E w_ hx_ => hx_.elim)
                        obtain ⟨he_104, e_104⟩ := hp_104
                        subst w_104
                        refine X_iconst 108 hO dL_text_107 rfl ?_
                        refine X_icmp_lt 111 127 hO dL_text_108 rfl rfl (by omega) (by omega) (fun hc_108 => ?_) (fun hc_108 => ?_)
                        ·
                          exact absurd hc_108 (by omega)
                        ·
                          refine X_aload_n 112 hO dL_text_111 rfl rfl ?_
                          refine X_iload_n 113 hO dL_text_112 rfl rfl ?_
                          refine X_kVi (t := 13) 116 hO hD lL_108 rfl (by decide) [_] rfl dL_text_113 rfl (by first | assumption | omega | (simp (disch := first | decide | assumption | omega) only [up_k, up_s, up_a, up_i, flA_k, flA_a, newO_o, newA_o]; first | assumption | omega)) (y_markAt hC (by omega)) (by decide) (by simp [rv_cat, int_cat]) (by first | decide | exact Nat.zero_le _ | omega) (by first | decide | exact Nat.zero_le _ | omega) (fun r_113 w_113 hr_113 hp_113 => ?_) (fun E w_ hx_ => hx_.elim)
                          obtain ⟨he_113, e_113⟩ := hp_113
                          subst w_113
                          refine X_aload_n 117 hO dL_text_116 rfl rfl ?_
                          refine X_kVi (t := 13) 120 hO hD lL_99 rfl (by decide) [] rfl dL_text_117 rfl (by first | assumption | omega | (simp (disch := first | decide | assumption | omega) only [up_k, up_s, up_a, up_i, flA_k, flA_a, newO_o, newA_o]; first | assumption | omega)) (y_length hC) (by decide) (by simp [rv_cat, int_cat]) (by first | decide | exact Nat.zero_le _ | omega) (by first | decide | exact Nat.zero_le _ | omega) (fun r_117 w_117 hr_117 hp_117 => ?_) (fun E w_ hx_ => hx_.elim)
                          obtain ⟨he_117, e_117⟩ := hp_117
                          subst w_117
                          refine X_icmp_gt 123 127 hO dL_text_120 rfl rfl (by omega) (by omega) (fun hc_120 => ?_) (fun hc_120 => ?_)
                          ·
                            exact absurd hc_120 (by omega)
                          ·
                            refine X_iconst 124 hO dL_text_123 rfl ?_
                            refine X_goto hO dL_text_124 (tgt := 128) rfl ?_
                            refine X_istore_n 129 hO dL_text_128 rfl rfl ?_
                            refine X_iinc 132 hO dL_text_129 rfl rfl ?_
                            refine X_goto hO dL_text_132 (tgt := 92) rfl ?_
                            exact X_mono (by omega) (by omega) (ih (i + 1) (by omega) (by omega))
                exact X_mono (by omega) (by omega) (LP92 7 0 (by omega) (by omega))
