/-! THE LAW'S METHODS: places and walks -/
theorem dL_places_0 : decode cL_places 0 = .ok (.iload_n 1, 1) := by decide +kernel
theorem dL_places_1 : decode cL_places 1 = .ok (.ifCond .ne 31, 3) := by decide +kernel
theorem dL_places_4 : decode cL_places 4 = .ok (.aload_n 0, 1) := by decide +kernel
theorem dL_places_5 : decode cL_places 5 = .ok (.iload_n 2, 1) := by decide +kernel
theorem dL_places_6 : decode cL_places 6 = .ok (.bipush 6, 2) := by decide +kernel
theorem dL_places_8 : decode cL_places 8 = .ok (.invokestatic 9, 3) := by decide +kernel
theorem dL_places_11 : decode cL_places 11 = .ok (.iload_n 2, 1) := by decide +kernel
theorem dL_places_12 : decode cL_places 12 = .ok (.iconst 3, 1) := by decide +kernel
theorem dL_places_13 : decode cL_places 13 = .ok (.ishr, 1) := by decide +kernel
theorem dL_places_14 : decode cL_places 14 = .ok (.iconst 2, 1) := by decide +kernel
theorem dL_places_15 : decode cL_places 15 = .ok (.invokestatic 9, 3) := by decide +kernel
theorem dL_places_18 : decode cL_places 18 = .ok (.ifCond .ne 7, 3) := by decide +kernel
theorem dL_places_21 : decode cL_places 21 = .ok (.iconst 1, 1) := by decide +kernel
theorem dL_places_22 : decode cL_places 22 = .ok (.goto 4, 3) := by decide +kernel
theorem dL_places_25 : decode cL_places 25 = .ok (.iconst 0, 1) := by decide +kernel
theorem dL_places_26 : decode cL_places 26 = .ok (.invokevirtual 45, 3) := by decide +kernel
theorem dL_places_29 : decode cL_places 29 = .ok (.goto 104, 3) := by decide +kernel
theorem dL_places_32 : decode cL_places 32 = .ok (.iload_n 1, 1) := by decide +kernel
theorem dL_places_33 : decode cL_places 33 = .ok (.iconst 1, 1) := by decide +kernel
theorem dL_places_34 : decode cL_places 34 = .ok (.if_icmp .ne 16, 3) := by decide +kernel
theorem dL_places_37 : decode cL_places 37 = .ok (.aload_n 0, 1) := by decide +kernel
theorem dL_places_38 : decode cL_places 38 = .ok (.iload_n 2, 1) := by decide +kernel
theorem dL_places_39 : decode cL_places 39 = .ok (.bipush 6, 2) := by decide +kernel
theorem dL_places_41 : decode cL_places 41 = .ok (.invokestatic 9, 3) := by decide +kernel
theorem dL_places_44 : decode cL_places 44 = .ok (.invokevirtual 49, 3) := by decide +kernel
theorem dL_places_47 : decode cL_places 47 = .ok (.goto 86, 3) := by decide +kernel
theorem dL_places_50 : decode cL_places 50 = .ok (.iload_n 1, 1) := by decide +kernel
theorem dL_places_51 : decode cL_places 51 = .ok (.iconst 2, 1) := by decide +kernel
theorem dL_places_52 : decode cL_places 52 = .ok (.if_icmp .ne 16, 3) := by decide +kernel
theorem dL_places_55 : decode cL_places 55 = .ok (.aload_n 0, 1) := by decide +kernel
theorem dL_places_56 : decode cL_places 56 = .ok (.iload_n 2, 1) := by decide +kernel
theorem dL_places_57 : decode cL_places 57 = .ok (.bipush 6, 2) := by decide +kernel
theorem dL_places_59 : decode cL_places 59 = .ok (.invokestatic 9, 3) := by decide +kernel
theorem dL_places_62 : decode cL_places 62 = .ok (.invokevirtual 52, 3) := by decide +kernel
theorem dL_places_65 : decode cL_places 65 = .ok (.goto 68, 3) := by decide +kernel
theorem dL_places_68 : decode cL_places 68 = .ok (.iload_n 1, 1) := by decide +kernel
theorem dL_places_69 : decode cL_places 69 = .ok (.iconst 3, 1) := by decide +kernel
theorem dL_places_70 : decode cL_places 70 = .ok (.if_icmp .ne 16, 3) := by decide +kernel
theorem dL_places_73 : decode cL_places 73 = .ok (.aload_n 0, 1) := by decide +kernel
theorem dL_places_74 : decode cL_places 74 = .ok (.iload_n 2, 1) := by decide +kernel
theorem dL_places_75 : decode cL_places 75 = .ok (.bipush 6, 2) := by decide +kernel
theorem dL_places_77 : decode cL_places 77 = .ok (.invokestatic 9, 3) := by decide +kernel
theorem dL_places_80 : decode cL_places 80 = .ok (.invokevirtual 55, 3) := by decide +kernel
theorem dL_places_83 : decode cL_places 83 = .ok (.goto 50, 3) := by decide +kernel
theorem dL_places_86 : decode cL_places 86 = .ok (.iload_n 1, 1) := by decide +kernel
theorem dL_places_87 : decode cL_places 87 = .ok (.iconst 4, 1) := by decide +kernel
theorem dL_places_88 : decode cL_places 88 = .ok (.if_icmp .ne 10, 3) := by decide +kernel
theorem dL_places_91 : decode cL_places 91 = .ok (.aload_n 0, 1) := by decide +kernel
theorem dL_places_92 : decode cL_places 92 = .ok (.invokevirtual 58, 3) := by decide +kernel
theorem dL_places_95 : decode cL_places 95 = .ok (.goto 38, 3) := by decide +kernel
theorem dL_places_98 : decode cL_places 98 = .ok (.iload_n 1, 1) := by decide +kernel
theorem dL_places_99 : decode cL_places 99 = .ok (.iconst 5, 1) := by decide +kernel
theorem dL_places_100 : decode cL_places 100 = .ok (.if_icmp .ne 24, 3) := by decide +kernel
theorem dL_places_103 : decode cL_places 103 = .ok (.aload_n 0, 1) := by decide +kernel
theorem dL_places_104 : decode cL_places 104 = .ok (.iload_n 2, 1) := by decide +kernel
theorem dL_places_105 : decode cL_places 105 = .ok (.iconst 4, 1) := by decide +kernel
theorem dL_places_106 : decode cL_places 106 = .ok (.invokestatic 9, 3) := by decide +kernel
theorem dL_places_109 : decode cL_places 109 = .ok (.iconst 1, 1) := by decide +kernel
theorem dL_places_110 : decode cL_places 110 = .ok (.iload_n 2, 1) := by decide +kernel
theorem dL_places_111 : decode cL_places 111 = .ok (.iconst 3, 1) := by decide +kernel
theorem dL_places_112 : decode cL_places 112 = .ok (.ishr, 1) := by decide +kernel
theorem dL_places_113 : decode cL_places 113 = .ok (.iconst 3, 1) := by decide +kernel
theorem dL_places_114 : decode cL_places 114 = .ok (.invokestatic 9, 3) := by decide +kernel
theorem dL_places_117 : decode cL_places 117 = .ok (.iadd, 1) := by decide +kernel
theorem dL_places_118 : decode cL_places 118 = .ok (.invokevirtual 61, 3) := by decide +kernel
theorem dL_places_121 : decode cL_places 121 = .ok (.goto 12, 3) := by decide +kernel
theorem dL_places_124 : decode cL_places 124 = .ok (.aload_n 0, 1) := by decide +kernel
theorem dL_places_125 : decode cL_places 125 = .ok (.iload_n 2, 1) := by decide +kernel
theorem dL_places_126 : decode cL_places 126 = .ok (.iconst 4, 1) := by decide +kernel
theorem dL_places_127 : decode cL_places 127 = .ok (.invokestatic 9, 3) := by decide +kernel
theorem dL_places_130 : decode cL_places 130 = .ok (.invokevirtual 64, 3) := by decide +kernel
theorem dL_places_133 : decode cL_places 133 = .ok (.ireturn, 1) := by decide +kernel
theorem dL_places_134 : decode cL_places 134 = .ok (.astore_n 3, 1) := by decide +kernel
theorem dL_places_135 : decode cL_places 135 = .ok (.bipush (-3), 2) := by decide +kernel
theorem dL_places_137 : decode cL_places 137 = .ok (.ireturn, 1) := by decide +kernel
set_option maxRecDepth 4000 in
theorem L_places {γ : LC} {w A : Mm} {μ : MU} {f n g rc : Int} (q a : Int) (h : LG μ f n g rc w A) (hn : 0 ≤ n ∧ n ≤ 500) (hq : 0 ≤ q ∧ q ≤ 6) (ha : IR a) : KW γ 15 mL_places hL_places [rv f, .int (I q), .int (I a)] w 47 3112 (fun r w' => -3 ≤ r ∧ ∃ B, LG μ f (n + 1) g rc w' B) := by
  refine MXW_of (own := RL) rfl rfl (by simp [rv_cat, int_cat]) rfl ?_
  rintro κ hO hF rfl
  have hD := hF.dp
  show X κ 47 3112 w 0 [some (rv f), some (.int (I q)), some (.int (I a)), none] []
  have t0 : w 0 f 0 = 13 := h.t0
  obtain ⟨a3, ha3, ha4⟩ := I_any (I a >>> (I 3 &&& 31))
  refine X_iload_n 1 hO dL_places_0 rfl rfl ?_
  refine X_if_ne 4 32 hO dL_places_1 rfl rfl (by omega) (fun hc_1 => ?_) (fun hc_1 => ?_)
  ·
    refine X_iload_n 33 hO dL_places_32 rfl rfl ?_
    refine X_iconst 34 hO dL_places_33 rfl ?_
    refine X_icmp_ne 37 50 hO dL_places_34 rfl rfl (by omega) (by omega) (fun hc_34 => ?_) (fun hc_34 => ?_)
    ·
      refine X_iload_n 51 hO dL_places_50 rfl rfl ?_
      refine X_iconst 52 hO dL_places_51 rfl ?_
      refine X_icmp_ne 55 68 hO dL_places_52 rfl rfl (by omega) (by omega) (fun hc_52 => ?_) (fun hc_52 => ?_)
      ·
        refine X_iload_n 69 hO dL_places_68 rfl rfl ?_
        refine X_iconst 70 hO dL_places_69 rfl ?_
        refine X_icmp_ne 73 86 hO dL_places_70 rfl rfl (by omega) (by omega) (fun hc_70 => ?_) (fun hc_70 => ?_)
        ·
          refine X_iload_n 87 hO dL_places_86 rfl rfl ?_
          refine X_iconst 88 hO dL_places_87 rfl ?_
          refine X_icmp_ne 91 98 hO dL_places_88 rfl rfl (by omega) (by omega) (fun hc_88 => ?_) (fun hc_88 => ?_)
          ·
            refine X_iload_n 99 hO dL_places_98 rfl rfl ?_
            refine X_iconst 100 hO dL_places_99 rfl ?_
            refine X_icmp_ne 103 124 hO dL_places_100 rfl rfl (by omega) (by omega) (fun hc_100 => ?_) (fun hc_100 => ?_)
            ·
              refine X_aload_n 125 hO dL_places_124 rfl rfl ?_
              refine X_iload_n 126 hO dL_places_125 rfl rfl ?_
              refine X_iconst 127 hO dL_places_126 rfl ?_
              refine X_kSi 130 hO hD lL_9 [_, _] rfl dL_places_127 rfl (L_low _ _ _ _ (by omega) (by omega)) (by decide) (by simp [rv_cat, int_cat]) (by first | decide | exact Nat.zero_le _ | omega) (by first | decide | exact Nat.zero_le _ | omega) (fun r_127 w_127 hr_127 hp_127 => ?_) (fun E w_ hx_ => hx_.elim)
              obtain ⟨hl_127, e_127⟩ := hp_127
              subst e_127
              refine X_kVi (t := 13) 133 hO hD lL_64 rfl (by decide) [_] rfl dL_places_130 rfl (by first | assumption | omega | (simp (disch := first | decide | assumption | omega) only [up_k, up_s, up_a, up_i, flA_k, flA_a, newO_o, newA_o]; first | assumption | omega)) (lg_paste h hn (by omega) (by omega)) (by decide) (by simp [rv_cat, int_cat]) (by first | decide | exact Nat.zero_le _ | omega) (by first | decide | exact Nat.zero_le _ | omega) (fun r_130 w_130 hr_130 hp_130 => ?_) (fun E w_ hx_ => by obtain ⟨rfl, hq⟩ := hx_; refine X_catch hO hF [] _ _ rfl (fun z hz => by cases hz) (by decide) (by decide) w_6183 (by decide +kernel) (fun q0 => ?_); refine X_astore_nR 135 hO dL_places_134 rfl rfl ?_; refine X_bipush 137 hO dL_places_135 rfl (by decide) ?_; exact X_iretW hO hF rfl (Or.inl rfl) dL_places_137 ⟨-3, rfl, by decide, ⟨by decide, hq⟩⟩)
              have hres : -3 ≤ r_130 ∧ ∃ B, LG μ f (n + 1) g rc w_130 B := ⟨by have := hp_130.1; omega, hp_130.2⟩
              exact X_iretW hO hF rfl (by first | exact Or.inl rfl | exact Or.inr ⟨rfl, bi_01 _⟩ | exact Or.inr ⟨rfl, by omega⟩) dL_places_133 ⟨_, rfl, (by omega), hres⟩
            ·
              refine X_aload_n 104 hO dL_places_103 rfl rfl ?_
              refine X_iload_n 105 hO dL_places_104 rfl rfl ?_
              refine X_iconst 106 hO dL_places_105 rfl ?_
              refine X_kSi 109 hO hD lL_9 [_, _] rfl dL_places_106 rfl (L_low _ _ _ _ (by omega) (by omega)) (by decide) (by simp [rv_cat, int_cat]) (by first | decide | exact Nat.zero_le _ | omega) (by first | decide | exact Nat.zero_le _ | omega) (fun r_106 w_106 hr_106 hp_106 => ?_) (fun E w_ hx_ => hx_.elim)
              obtain ⟨hl_106, e_106⟩ := hp_106
              subst e_106
              refine X_iconst 110 hO dL_places_109 rfl ?_
              refine X_iload_n 111 hO dL_places_110 rfl rfl ?_
              refine X_iconst 112 hO dL_places_111 rfl ?_
              refine X_ishr 113 hO dL_places_112 rfl (ha3) ?_
              refine X_iconst 114 hO dL_places_113 rfl ?_
              refine X_kSi 117 hO hD lL_9 [_, _] rfl dL_places_114 rfl (L_low _ _ _ _ (by omega) (by omega)) (by decide) (by simp [rv_cat, int_cat]) (by first | decide | exact Nat.zero_le _ | omega) (by first | decide | exact Nat.zero_le _ | omega) (fun r_114 w_114 hr_114 hp_114 => ?_) (fun E w_ hx_ => hx_.elim)
              obtain ⟨hl_114, e_114⟩ := hp_114
              subst e_114
              refine X_iadd 118 hO dL_places_117 rfl ?_
              refine X_kVi (t := 13) 121 hO hD lL_61 rfl (by decide) [_, _] rfl dL_places_118 rfl (by first | assumption | omega | (simp (disch := first | decide | assumption | omega) only [up_k, up_s, up_a, up_i, flA_k, flA_a, newO_o, newA_o]; first | assumption | omega)) (lg_copy h hn (by omega) (by omega) ⟨by omega, by omega⟩) (by decide) (by simp [rv_cat, int_cat]) (by first | decide | exact Nat.zero_le _ | omega) (by first | decide | exact Nat.zero_le _ | omega) (fun r_118 w_118 hr_118 hp_118 => ?_) (fun E w_ hx_ => by obtain ⟨rfl, hq⟩ := hx_; refine X_catch hO hF [] _ _ rfl (fun z hz => by cases hz) (by decide) (by decide) w_6183 (by decide +kernel) (fun q0 => ?_); refine X_astore_nR 135 hO dL_places_134 rfl rfl ?_; refine X_bipush 137 hO dL_places_135 rfl (by decide) ?_; exact X_iretW hO hF rfl (Or.inl rfl) dL_places_137 ⟨-3, rfl, by decide, ⟨by decide, hq⟩⟩)
              have hres : -3 ≤ r_118 ∧ ∃ B, LG μ f (n + 1) g rc w_118 B := ⟨by have := hp_118.1; omega, hp_118.2⟩
              refine X_goto hO dL_places_121 (tgt := 133) rfl ?_
              exact X_iretW hO hF rfl (by first | exact Or.inl rfl | exact Or.inr ⟨rfl, bi_01 _⟩ | exact Or.inr ⟨rfl, by omega⟩) dL_places_133 ⟨_, rfl, (by omega), hres⟩
          ·
            refine X_aload_n 92 hO dL_places_91 rfl rfl ?_
            refine X_kVi (t := 13) 95 hO hD lL_58 rfl (by decide) [] rfl dL_places_92 rfl (by first | assumption | omega | (simp (disch := first | decide | assumption | omega) only [up_k, up_s, up_a, up_i, flA_k, flA_a, newO_o, newA_o]; first | assumption | omega)) (lg_widen h hn) (by decide) (by simp [rv_cat, int_cat]) (by first | decide | exact Nat.zero_le _ | omega) (by first | decide | exact Nat.zero_le _ | omega) (fun r_92 w_92 hr_92 hp_92 => ?_) (fun E w_ hx_ => by obtain ⟨rfl, hq⟩ := hx_; refine X_catch hO hF [] _ _ rfl (fun z hz => by cases hz) (by decide) (by decide) w_6183 (by decide +kernel) (fun q0 => ?_); refine X_astore_nR 135 hO dL_places_134 rfl rfl ?_; refine X_bipush 137 hO dL_places_135 rfl (by decide) ?_; exact X_iretW hO hF rfl (Or.inl rfl) dL_places_137 ⟨-3, rfl, by decide, ⟨by decide, hq⟩⟩)
            have hres : -3 ≤ r_92 ∧ ∃ B, LG μ f (n + 1) g rc w_92 B := ⟨by have := hp_92.1; omega, hp_92.2⟩
            refine X_goto hO dL_places_95 (tgt := 133) rfl ?_
            exact X_iretW hO hF rfl (by first | exact Or.inl rfl | exact Or.inr ⟨rfl, bi_01 _⟩ | exact Or.inr ⟨rfl, by omega⟩) dL_places_133 ⟨_, rfl, (by omega), hres⟩
        ·
          refine X_aload_n 74 hO dL_places_73 rfl rfl ?_
          refine X_iload_n 75 hO dL_places_74 rfl rfl ?_
          refine X_bipush 77 hO dL_places_75 rfl (by decide) ?_
          refine X_kSi 80 hO hD lL_9 [_, _] rfl dL_places_77 rfl (L_low _ _ _ _ (by omega) (by omega)) (by decide) (by simp [rv_cat, int_cat]) (by first | decide | exact Nat.zero_le _ | omega) (by first | decide | exact Nat.zero_le _ | omega) (fun r_77 w_77 hr_77 hp_77 => ?_) (fun E w_ hx_ => hx_.elim)
          obtain ⟨hl_77, e_77⟩ := hp_77
          subst e_77
          refine X_kVi (t := 13) 83 hO hD lL_55 rfl (by decide) [_] rfl dL_places_80 rfl (by first | assumption | omega | (simp (disch := first | decide | assumption | omega) only [up_k, up_s, up_a, up_i, flA_k, flA_a, newO_o, newA_o]; first | assumption | omega)) (lg_narrow h hn (by omega) (by omega)) (by decide) (by simp [rv_cat, int_cat]) (by first | decide | exact Nat.zero_le _ | omega) (by first | decide | exact Nat.zero_le _ | omega) (fun r_80 w_80 hr_80 hp_80 => ?_) (fun E w_ hx_ => by obtain ⟨rfl, hq⟩ := hx_; refine X_catch hO hF [] _ _ rfl (fun z hz => by cases hz) (by decide) (by decide) w_6183 (by decide +kernel) (fun q0 => ?_); refine X_astore_nR 135 hO dL_places_134 rfl rfl ?_; refine X_bipush 137 hO dL_places_135 rfl (by decide) ?_; exact X_iretW hO hF rfl (Or.inl rfl) dL_places_137 ⟨-3, rfl, by decide, ⟨by decide, hq⟩⟩)
          have hres : -3 ≤ r_80 ∧ ∃ B, LG μ f (n + 1) g rc w_80 B := ⟨by have := hp_80.1; omega, hp_80.2⟩
          refine X_goto hO dL_places_83 (tgt := 133) rfl ?_
          exact X_iretW hO hF rfl (by first | exact Or.inl rfl | exact Or.inr ⟨rfl, bi_01 _⟩ | exact Or.inr ⟨rfl, by omega⟩) dL_places_133 ⟨_, rfl, (by omega), hres⟩
      ·
        refine X_aload_n 56 hO dL_places_55 rfl rfl ?_
        refine X_iload_n 57 hO dL_places_56 rfl rfl ?_
        refine X_bipush 59 hO dL_places_57 rfl (by decide) ?_
        refine X_kSi 62 hO hD lL_9 [_, _] rfl dL_places_59 rfl (L_low _ _ _ _ (by omega) (by omega)) (by decide) (by simp [rv_cat, int_cat]) (by first | decide | exact Nat.zero_le _ | omega) (by first | decide | exact Nat.zero_le _ | omega) (fun r_59 w_59 hr_59 hp_59 => ?_) (fun E w_ hx_ => hx_.elim)
        obtain ⟨hl_59, e_59⟩ := hp_59
        subst e_59
        refine X_kVi (t := 13) 65 hO hD lL_52 rfl (by decide) [_] rfl dL_places_62 rfl (by first | assumption | omega | (simp (disch := first | decide | assumption | omega) only [up_k, up_s, up_a, up_i, flA_k, flA_a, newO_o, newA_o]; first | assumption | omega)) (lg_jump h hn (by omega) (by omega)) (by decide) (by simp [rv_cat, int_cat]) (by first | decide | exact Nat.zero_le _ | omega) (by first | decide | exact Nat.zero_le _ | omega) (fun r_62 w_62 hr_62 hp_62 => ?_) (fun E w_ hx_ => by obtain ⟨rfl, hq⟩ := hx_; refine X_catch hO hF [] _ _ rfl (fun z hz => by cases hz) (by decide) (by decide) w_6183 (by decide +kernel) (fun q0 => ?_); refine X_astore_nR 135 hO dL_places_134 rfl rfl ?_; refine X_bipush 137 hO dL_places_135 rfl (by decide) ?_; exact X_iretW hO hF rfl (Or.inl rfl) dL_places_137 ⟨-3, rfl, by decide, ⟨by decide, hq⟩⟩)
        have hres : -3 ≤ r_62 ∧ ∃ B, LG μ f (n + 1) g rc w_62 B := ⟨by have := hp_62.1; omega, hp_62.2⟩
        refine X_goto hO dL_places_65 (tgt := 133) rfl ?_
        exact X_iretW hO hF rfl (by first | exact Or.inl rfl | exact Or.inr ⟨rfl, bi_01 _⟩ | exact Or.inr ⟨rfl, by omega⟩) dL_places_133 ⟨_, rfl, (by omega), hres⟩
    ·
      refine X_aload_n 38 hO dL_places_37 rfl rfl ?_
      refine X_iload_n 39 hO dL_places_38 rfl rfl ?_
      refine X_bipush 41 hO dL_places_39 rfl (by decide) ?_
      refine X_kSi 44 hO hD lL_9 [_, _] rfl dL_places_41 rfl (L_low _ _ _ _ (by omega) (by omega)) (by decide) (by simp [rv_cat, int_cat]) (by first | decide | exact Nat.zero_le _ | omega) (by first | decide | exact Nat.zero_le _ | omega) (fun r_41 w_41 hr_41 hp_41 => ?_) (fun E w_ hx_ => hx_.elim)
      obtain ⟨hl_41, e_41⟩ := hp_41
      subst e_41
      refine X_kVi (t := 13) 47 hO hD lL_49 rfl (by decide) [_] rfl dL_places_44 rfl (by first | assumption | omega | (simp (disch := first | decide | assumption | omega) only [up_k, up_s, up_a, up_i, flA_k, flA_a, newO_o, newA_o]; first | assumption | omega)) (lg_clearMark h hn (by omega) (by omega)) (by decide) (by simp [rv_cat, int_cat]) (by first | decide | exact Nat.zero_le _ | omega) (by first | decide | exact Nat.zero_le _ | omega) (fun r_44 w_44 hr_44 hp_44 => ?_) (fun E w_ hx_ => by obtain ⟨rfl, hq⟩ := hx_; refine X_catch hO hF [] _ _ rfl (fun z hz => by cases hz) (by decide) (by decide) w_6183 (by decide +kernel) (fun q0 => ?_); refine X_astore_nR 135 hO dL_places_134 rfl rfl ?_; refine X_bipush 137 hO dL_places_135 rfl (by decide) ?_; exact X_iretW hO hF rfl (Or.inl rfl) dL_places_137 ⟨-3, rfl, by decide, ⟨by decide, hq⟩⟩)
      have hres : -3 ≤ r_44 ∧ ∃ B, LG μ f (n + 1) g rc w_44 B := ⟨by have := hp_44.1; omega, hp_44.2⟩
      refine X_goto hO dL_places_47 (tgt := 133) rfl ?_
      exact X_iretW hO hF rfl (by first | exact Or.inl rfl | exact Or.inr ⟨rfl, bi_01 _⟩ | exact Or.inr ⟨rfl, by omega⟩) dL_places_133 ⟨_, rfl, (by omega), hres⟩
  ·
    refine X_aload_n 5 hO dL_places_4 rfl rfl ?_
    refine X_iload_n 6 hO dL_places_5 rfl rfl ?_
    refine X_bipush 8 hO dL_places_6 rfl (by decide) ?_
    refine X_kSi 11 hO hD lL_9 [_, _] rfl dL_places_8 rfl (L_low _ _ _ _ (by omega) (by omega)) (by decide) (by simp [rv_cat, int_cat]) (by first | decide | exact Nat.zero_le _ | omega) (by first | decide | exact Nat.zero_le _ | omega) (fun r_8 w_8 hr_8 hp_8 => ?_) (fun E w_ hx_ => hx_.elim)
    obtain ⟨hl_8, e_8⟩ := hp_8
    subst e_8
    refine X_iload_n 12 hO dL_places_11 rfl rfl ?_
    refine X_iconst 13 hO dL_places_12 rfl ?_
    refine X_ishr 14 hO dL_places_13 rfl (ha3) ?_
    refine X_iconst 15 hO dL_places_14 rfl ?_
    refine X_kSi 18 hO hD lL_9 [_, _] rfl dL_places_15 rfl (L_low _ _ _ _ (by omega) (by omega)) (by decide) (by simp [rv_cat, int_cat]) (by first | decide | exact Nat.zero_le _ | omega) (by first | decide | exact Nat.zero_le _ | omega) (fun r_15 w_15 hr_15 hp_15 => ?_) (fun E w_ hx_ => hx_.elim)
    obtain ⟨hl_15, e_15⟩ := hp_15
    subst e_15
    refine X_if_ne 21 25 hO dL_places_18 rfl rfl (by omega) (fun hc_18 => ?_) (fun hc_18 => ?_)
    ·
      refine X_iconst 26 hO dL_places_25 rfl ?_
      refine X_kVi (t := 13) 29 hO hD lL_45 rfl (by decide) [_, _] rfl dL_places_26 rfl (by first | assumption | omega | (simp (disch := first | decide | assumption | omega) only [up_k, up_s, up_a, up_i, flA_k, flA_a, newO_o, newA_o]; first | assumption | omega)) (lg_setMark h hn (by omega) (by decide) (by omega) (by decide)) (by decide) (by simp [rv_cat, int_cat]) (by first | decide | exact Nat.zero_le _ | omega) (by first | decide | exact Nat.zero_le _ | omega) (fun r_26 w_26 hr_26 hp_26 => ?_) (fun E w_ hx_ => by obtain ⟨rfl, hq⟩ := hx_; refine X_catch hO hF [] _ _ rfl (fun z hz => by cases hz) (by decide) (by decide) w_6183 (by decide +kernel) (fun q0 => ?_); refine X_astore_nR 135 hO dL_places_134 rfl rfl ?_; refine X_bipush 137 hO dL_places_135 rfl (by decide) ?_; exact X_iretW hO hF rfl (Or.inl rfl) dL_places_137 ⟨-3, rfl, by decide, ⟨by decide, hq⟩⟩)
      have hres : -3 ≤ r_26 ∧ ∃ B, LG μ f (n + 1) g rc w_26 B := ⟨by have := hp_26.1; omega, hp_26.2⟩
      refine X_goto hO dL_places_29 (tgt := 133) rfl ?_
      exact X_iretW hO hF rfl (by first | exact Or.inl rfl | exact Or.inr ⟨rfl, bi_01 _⟩ | exact Or.inr ⟨rfl, by omega⟩) dL_places_133 ⟨_, rfl, (by omega), hres⟩
    ·
      refine X_iconst 22 hO dL_places_21 rfl ?_
      refine X_goto hO dL_places_22 (tgt := 26) rfl ?_
      refine X_kVi (t := 13) 29 hO hD lL_45 rfl (by decide) [_, _] rfl dL_places_26 rfl (by first | assumption | omega | (simp (disch := first | decide | assumption | omega) only [up_k, up_s, up_a, up_i, flA_k, flA_a, newO_o, newA_o]; first | assumption | omega)) (lg_setMark h hn (by omega) (by decide) (by omega) (by decide)) (by decide) (by simp [rv_cat, int_cat]) (by first | decide | exact Nat.zero_le _ | omega) (by first | decide | exact Nat.zero_le _ | omega) (fun r_26 w_26 hr_26 hp_26 => ?_) (fun E w_ hx_ => by obtain ⟨rfl, hq⟩ := hx_; refine X_catch hO hF [] _ _ rfl (fun z hz => by cases hz) (by decide) (by decide) w_6183 (by decide +kernel) (fun q0 => ?_); refine X_astore_nR 135 hO dL_places_134 rfl rfl ?_; refine X_bipush 137 hO dL_places_135 rfl (by decide) ?_; exact X_iretW hO hF rfl (Or.inl rfl) dL_places_137 ⟨-3, rfl, by decide, ⟨by decide, hq⟩⟩)
      have hres : -3 ≤ r_26 ∧ ∃ B, LG μ f (n + 1) g rc w_26 B := ⟨by have := hp_26.1; omega, hp_26.2⟩
      refine X_goto hO dL_places_29 (tgt := 133) rfl ?_
      exact X_iretW hO hF rfl (by first | exact Or.inl rfl | exact Or.inr ⟨rfl, bi_01 _⟩ | exact Or.inr ⟨rfl, by omega⟩) dL_places_133 ⟨_, rfl, (by omega), hres⟩
theorem dL_walks_0 : decode cL_walks 0 = .ok (.iload_n 1, 1) := by decide +kernel
theorem dL_walks_1 : decode cL_walks 1 = .ok (.ifCond .ne 10, 3) := by decide +kernel
theorem dL_walks_4 : decode cL_walks 4 = .ok (.aload_n 0, 1) := by decide +kernel
theorem dL_walks_5 : decode cL_walks 5 = .ok (.invokevirtual 67, 3) := by decide +kernel
theorem dL_walks_8 : decode cL_walks 8 = .ok (.goto 45, 3) := by decide +kernel
theorem dL_walks_11 : decode cL_walks 11 = .ok (.iload_n 1, 1) := by decide +kernel
theorem dL_walks_12 : decode cL_walks 12 = .ok (.iconst 1, 1) := by decide +kernel
theorem dL_walks_13 : decode cL_walks 13 = .ok (.if_icmp .ne 10, 3) := by decide +kernel
theorem dL_walks_16 : decode cL_walks 16 = .ok (.aload_n 0, 1) := by decide +kernel
theorem dL_walks_17 : decode cL_walks 17 = .ok (.invokevirtual 70, 3) := by decide +kernel
theorem dL_walks_20 : decode cL_walks 20 = .ok (.goto 33, 3) := by decide +kernel
theorem dL_walks_23 : decode cL_walks 23 = .ok (.iload_n 1, 1) := by decide +kernel
theorem dL_walks_24 : decode cL_walks 24 = .ok (.iconst 2, 1) := by decide +kernel
theorem dL_walks_25 : decode cL_walks 25 = .ok (.if_icmp .ne 10, 3) := by decide +kernel
theorem dL_walks_28 : decode cL_walks 28 = .ok (.aload_n 0, 1) := by decide +kernel
theorem dL_walks_29 : decode cL_walks 29 = .ok (.invokevirtual 73, 3) := by decide +kernel
theorem dL_walks_32 : decode cL_walks 32 = .ok (.goto 21, 3) := by decide +kernel
theorem dL_walks_35 : decode cL_walks 35 = .ok (.aload_n 0, 1) := by decide +kernel
theorem dL_walks_36 : decode cL_walks 36 = .ok (.iload_n 2, 1) := by decide +kernel
theorem dL_walks_37 : decode cL_walks 37 = .ok (.iconst 4, 1) := by decide +kernel
theorem dL_walks_38 : decode cL_walks 38 = .ok (.invokestatic 9, 3) := by decide +kernel
theorem dL_walks_41 : decode cL_walks 41 = .ok (.iconst 1, 1) := by decide +kernel
theorem dL_walks_42 : decode cL_walks 42 = .ok (.iload_n 2, 1) := by decide +kernel
theorem dL_walks_43 : decode cL_walks 43 = .ok (.iconst 3, 1) := by decide +kernel
theorem dL_walks_44 : decode cL_walks 44 = .ok (.ishr, 1) := by decide +kernel
theorem dL_walks_45 : decode cL_walks 45 = .ok (.iconst 3, 1) := by decide +kernel
theorem dL_walks_46 : decode cL_walks 46 = .ok (.invokestatic 9, 3) := by decide +kernel
theorem dL_walks_49 : decode cL_walks 49 = .ok (.iadd, 1) := by decide +kernel
theorem dL_walks_50 : decode cL_walks 50 = .ok (.invokevirtual 76, 3) := by decide +kernel
theorem dL_walks_53 : decode cL_walks 53 = .ok (.ireturn, 1) := by decide +kernel
theorem dL_walks_54 : decode cL_walks 54 = .ok (.astore_n 3, 1) := by decide +kernel
theorem dL_walks_55 : decode cL_walks 55 = .ok (.bipush (-3), 2) := by decide +kernel
theorem dL_walks_57 : decode cL_walks 57 = .ok (.ireturn, 1) := by decide +kernel
set_option maxRecDepth 4000 in
theorem L_walksU {γ : LC} {w A : Mm} {μ : MU} {f n g rc : Int} (q a : Int) (h : LG μ f n g rc w A) (hn : 0 ≤ n ∧ n ≤ 500) (hq : q = 0 ∨ q = 1) (ha : IR a) : KW γ 11 mL_walks hL_walks [rv f, .int (I q), .int (I a)] w 3 412 (fun r w' => ∃ B, LG μ f (n + 1) g rc w' B ∧ (r = -3 ∨ (r = B 126 μ.1 0 ∧ ((isN μ (A 126 μ.1 0) B ∧ B 217 0 (A 126 μ.1 0) = r) ∨ (isN μ r B ∧ isN μ (A 126 μ.1 0) B ∧ B 217 0 r = A 126 μ.1 0))))) := by
  refine MXW_of (own := RL) rfl rfl (by simp [rv_cat, int_cat]) rfl ?_
  rintro κ hO hF rfl
  have hD := hF.dp
  show X κ 3 412 w 0 [some (rv f), some (.int (I q)), some (.int (I a)), none] []
  have t0 : w 0 f 0 = 13 := h.t0
  refine X_iload_n 1 hO dL_walks_0 rfl rfl ?_
  refine X_if_ne 4 11 hO dL_walks_1 rfl rfl (by omega) (fun hc_1 => ?_) (fun hc_1 => ?_)
  ·
    refine X_iload_n 12 hO dL_walks_11 rfl rfl ?_
    refine X_iconst 13 hO dL_walks_12 rfl ?_
    refine X_icmp_ne 16 23 hO dL_walks_13 rfl rfl (by omega) (by omega) (fun hc_13 => ?_) (fun hc_13 => ?_)
    ·
      exact absurd hc_13 (by omega)
    ·
      refine X_aload_n 17 hO dL_walks_16 rfl rfl ?_
      refine X_kVi (t := 13) 20 hO hD lL_70 rfl (by decide) [] rfl dL_walks_17 rfl (by first | assumption | omega | (simp (disch := first | decide | assumption | omega) only [up_k, up_s, up_a, up_i, flA_k, flA_a, newO_o, newA_o]; first | assumption | omega)) (lg_redo h hn) (by decide) (by simp [rv_cat, int_cat]) (by first | decide | exact Nat.zero_le _ | omega) (by first | decide | exact Nat.zero_le _ | omega) (fun r_17 w_17 hr_17 hp_17 => ?_) (fun E w_ hx_ => by obtain ⟨rfl, hq⟩ := hx_; refine X_catch hO hF [] _ _ rfl (fun z hz => by cases hz) (by decide) (by decide) w_6183 (by decide +kernel) (fun q0 => ?_); refine X_astore_nR 55 hO dL_walks_54 rfl rfl ?_; refine X_bipush 57 hO dL_walks_55 rfl (by decide) ?_; exact X_iretW hO hF rfl (Or.inl rfl) dL_walks_57 ⟨-3, rfl, by decide, (by obtain ⟨B, hq⟩ := hq; exact ⟨B, hq, Or.inl rfl⟩)⟩)
      have hres : ∃ B, LG μ f (n + 1) g rc w_17 B ∧ (r_17 = -3 ∨ (r_17 = B 126 μ.1 0 ∧ ((isN μ (A 126 μ.1 0) B ∧ B 217 0 (A 126 μ.1 0) = r_17) ∨ (isN μ r_17 B ∧ isN μ (A 126 μ.1 0) B ∧ B 217 0 r_17 = A 126 μ.1 0)))) := by
        obtain ⟨B, b1, b2, b3, b4, b5⟩ := hp_17
        exact ⟨B, b1, Or.inr ⟨b2, Or.inr ⟨b3, b4, b5⟩⟩⟩
      refine X_goto hO dL_walks_20 (tgt := 53) rfl ?_
      exact X_iretW hO hF rfl (by first | exact Or.inl rfl | exact Or.inr ⟨rfl, bi_01 _⟩ | exact Or.inr ⟨rfl, by omega⟩) dL_walks_53 ⟨_, rfl, (by omega), hres⟩
  ·
    refine X_aload_n 5 hO dL_walks_4 rfl rfl ?_
    refine X_kVi (t := 13) 8 hO hD lL_67 rfl (by decide) [] rfl dL_walks_5 rfl (by first | assumption | omega | (simp (disch := first | decide | assumption | omega) only [up_k, up_s, up_a, up_i, flA_k, flA_a, newO_o, newA_o]; first | assumption | omega)) (lg_undo h hn) (by decide) (by simp [rv_cat, int_cat]) (by first | decide | exact Nat.zero_le _ | omega) (by first | decide | exact Nat.zero_le _ | omega) (fun r_5 w_5 hr_5 hp_5 => ?_) (fun E w_ hx_ => by obtain ⟨rfl, hq⟩ := hx_; refine X_catch hO hF [] _ _ rfl (fun z hz => by cases hz) (by decide) (by decide) w_6183 (by decide +kernel) (fun q0 => ?_); refine X_astore_nR 55 hO dL_walks_54 rfl rfl ?_; refine X_bipush 57 hO dL_walks_55 rfl (by decide) ?_; exact X_iretW hO hF rfl (Or.inl rfl) dL_walks_57 ⟨-3, rfl, by decide, (by obtain ⟨B, hq⟩ := hq; exact ⟨B, hq, Or.inl rfl⟩)⟩)
    have hres : ∃ B, LG μ f (n + 1) g rc w_5 B ∧ (r_5 = -3 ∨ (r_5 = B 126 μ.1 0 ∧ ((isN μ (A 126 μ.1 0) B ∧ B 217 0 (A 126 μ.1 0) = r_5) ∨ (isN μ r_5 B ∧ isN μ (A 126 μ.1 0) B ∧ B 217 0 r_5 = A 126 μ.1 0)))) := by
      obtain ⟨B, b1, b2, b3, b4⟩ := hp_5
      exact ⟨B, b1, Or.inr ⟨b2, Or.inl ⟨b3, b4⟩⟩⟩
    refine X_goto hO dL_walks_8 (tgt := 53) rfl ?_
    exact X_iretW hO hF rfl (by first | exact Or.inl rfl | exact Or.inr ⟨rfl, bi_01 _⟩ | exact Or.inr ⟨rfl, by omega⟩) dL_walks_53 ⟨_, rfl, (by omega), hres⟩
set_option maxRecDepth 4000 in
theorem L_walksC {γ : LC} {w A : Mm} {μ : MU} {f n g rc : Int} (a : Int) (h : LG μ f n g rc w A) (hn : 0 ≤ n ∧ n ≤ 500) (hg : g = 0 ∨ g = 1) (ha : IR a) : KW γ 14 mL_walks hL_walks [rv f, .int (I 2), .int (I a)] w 40 2700 (fun r w' => (r = -3 ∧ ∃ B, LG μ f (n + 1) g rc w' B) ∨ (g = 1 ∧ ∃ B, r = B 126 μ.1 0 ∧ LG μ f (n + 1) 0 rc w' B)) := by
  refine MXW_of (own := RL) rfl rfl (by simp [rv_cat, int_cat]) rfl ?_
  rintro κ hO hF rfl
  have hD := hF.dp
  show X κ 40 2700 w 0 [some (rv f), some (.int (I 2)), some (.int (I a)), none] []
  have t0 : w 0 f 0 = 13 := h.t0
  refine X_iload_n 1 hO dL_walks_0 rfl rfl ?_
  refine X_if_ne 4 11 hO dL_walks_1 rfl rfl (by omega) (fun hc_1 => ?_) (fun hc_1 => ?_)
  ·
    refine X_iload_n 12 hO dL_walks_11 rfl rfl ?_
    refine X_iconst 13 hO dL_walks_12 rfl ?_
    refine X_icmp_ne 16 23 hO dL_walks_13 rfl rfl (by omega) (by omega) (fun hc_13 => ?_) (fun hc_13 => ?_)
    ·
      refine X_iload_n 24 hO dL_walks_23 rfl rfl ?_
      refine X_iconst 25 hO dL_walks_24 rfl ?_
      refine X_icmp_ne 28 35 hO dL_walks_25 rfl rfl (by omega) (by omega) (fun hc_25 => ?_) (fun hc_25 => ?_)
      ·
        exact absurd hc_25 (by decide)
      ·
        refine X_aload_n 29 hO dL_walks_28 rfl rfl ?_
        refine X_kVi (t := 13) 32 hO hD lL_73 rfl (by decide) [] rfl dL_walks_29 rfl (by first | assumption | omega | (simp (disch := first | decide | assumption | omega) only [up_k, up_s, up_a, up_i, flA_k, flA_a, newO_o, newA_o]; first | assumption | omega)) (lg_close h hg hn) (by decide) (by simp [rv_cat, int_cat]) (by first | decide | exact Nat.zero_le _ | omega) (by first | decide | exact Nat.zero_le _ | omega) (fun r_29 w_29 hr_29 hp_29 => ?_) (fun E w_ hx_ => by obtain ⟨rfl, hq⟩ := hx_; refine X_catch hO hF [] _ _ rfl (fun z hz => by cases hz) (by decide) (by decide) w_6183 (by decide +kernel) (fun q0 => ?_); refine X_astore_nR 55 hO dL_walks_54 rfl rfl ?_; refine X_bipush 57 hO dL_walks_55 rfl (by decide) ?_; exact X_iretW hO hF rfl (Or.inl rfl) dL_walks_57 ⟨-3, rfl, by decide, Or.inl ⟨rfl, hq⟩⟩)
        have hres : (r_29 = -3 ∧ ∃ B, LG μ f (n + 1) g rc w_29 B) ∨ (g = 1 ∧ ∃ B, r_29 = B 126 μ.1 0 ∧ LG μ f (n + 1) 0 rc w_29 B) := Or.inr hp_29
        refine X_goto hO dL_walks_32 (tgt := 53) rfl ?_
        exact X_iretW hO hF rfl (by first | exact Or.inl rfl | exact Or.inr ⟨rfl, bi_01 _⟩ | exact Or.inr ⟨rfl, by omega⟩) dL_walks_53 ⟨_, rfl, (by omega), hres⟩
    ·
      exact absurd hc_13 (by decide)
  ·
    exact absurd hc_1 (by decide)
set_option maxRecDepth 4000 in
theorem L_walksR {γ : LC} {w A : Mm} {μ : MU} {f n g rc : Int} (a : Int) (h : LG μ f n g rc w A) (hn : 0 ≤ n ∧ n ≤ 500) (ha : IR a) : KW γ 21 mL_walks hL_walks [rv f, .int (I 3), .int (I a)] w 175 13300 (fun r w' => (-3 ≤ r ∧ r ≤ 24) ∧ ∃ B, LG μ f (n + 1) g rc w' B) := by
  refine MXW_of (own := RL) rfl rfl (by simp [rv_cat, int_cat]) rfl ?_
  rintro κ hO hF rfl
  have hD := hF.dp
  show X κ 175 13300 w 0 [some (rv f), some (.int (I 3)), some (.int (I a)), none] []
  have t0 : w 0 f 0 = 13 := h.t0
  obtain ⟨a3, ha3, ha4⟩ := I_any (I a >>> (I 3 &&& 31))
  refine X_iload_n 1 hO dL_walks_0 rfl rfl ?_
  refine X_if_ne 4 11 hO dL_walks_1 rfl rfl (by omega) (fun hc_1 => ?_) (fun hc_1 => ?_)
  ·
    refine X_iload_n 12 hO dL_walks_11 rfl rfl ?_
    refine X_iconst 13 hO dL_walks_12 rfl ?_
    refine X_icmp_ne 16 23 hO dL_walks_13 rfl rfl (by omega) (by omega) (fun hc_13 => ?_) (fun hc_13 => ?_)
    ·
      refine X_iload_n 24 hO dL_walks_23 rfl rfl ?_
      refine X_iconst 25 hO dL_walks_24 rfl ?_
      refine X_icmp_ne 28 35 hO dL_walks_25 rfl rfl (by omega) (by omega) (fun hc_25 => ?_) (fun hc_25 => ?_)
      ·
        refine X_aload_n 36 hO dL_walks_35 rfl rfl ?_
        refine X_iload_n 37 hO dL_walks_36 rfl rfl ?_
        refine X_iconst 38 hO dL_walks_37 rfl ?_
        refine X_kSi 41 hO hD lL_9 [_, _] rfl dL_walks_38 rfl (L_low _ _ _ _ (by omega) (by omega)) (by decide) (by simp [rv_cat, int_cat]) (by first | decide | exact Nat.zero_le _ | omega) (by first | decide | exact Nat.zero_le _ | omega) (fun r_38 w_38 hr_38 hp_38 => ?_) (fun E w_ hx_ => hx_.elim)
        obtain ⟨hl_38, e_38⟩ := hp_38
        subst e_38
        refine X_iconst 42 hO dL_walks_41 rfl ?_
        refine X_iload_n 43 hO dL_walks_42 rfl rfl ?_
        refine X_iconst 44 hO dL_walks_43 rfl ?_
        refine X_ishr 45 hO dL_walks_44 rfl (ha3) ?_
        refine X_iconst 46 hO dL_walks_45 rfl ?_
        refine X_kSi 49 hO hD lL_9 [_, _] rfl dL_walks_46 rfl (L_low _ _ _ _ (by omega) (by omega)) (by decide) (by simp [rv_cat, int_cat]) (by first | decide | exact Nat.zero_le _ | omega) (by first | decide | exact Nat.zero_le _ | omega) (fun r_46 w_46 hr_46 hp_46 => ?_) (fun E w_ hx_ => hx_.elim)
        obtain ⟨hl_46, e_46⟩ := hp_46
        subst e_46
        refine X_iadd 50 hO dL_walks_49 rfl ?_
        refine X_kVi (t := 13) 53 hO hD lL_76 rfl (by decide) [_, _] rfl dL_walks_50 rfl (by first | assumption | omega | (simp (disch := first | decide | assumption | omega) only [up_k, up_s, up_a, up_i, flA_k, flA_a, newO_o, newA_o]; first | assumption | omega)) (lg_run h hn (by omega) (by omega)) (by decide) (by simp [rv_cat, int_cat]) (by first | decide | exact Nat.zero_le _ | omega) (by first | decide | exact Nat.zero_le _ | omega) (fun r_50 w_50 hr_50 hp_50 => ?_) (fun E w_ hx_ => by obtain ⟨rfl, hq⟩ := hx_; refine X_catch hO hF [] _ _ rfl (fun z hz => by cases hz) (by decide) (by decide) w_6183 (by decide +kernel) (fun q0 => ?_); refine X_astore_nR 55 hO dL_walks_54 rfl rfl ?_; refine X_bipush 57 hO dL_walks_55 rfl (by decide) ?_; exact X_iretW hO hF rfl (Or.inl rfl) dL_walks_57 ⟨-3, rfl, by decide, ⟨by decide, hq⟩⟩)
        have hres : (-3 ≤ r_50 ∧ r_50 ≤ 24) ∧ ∃ B, LG μ f (n + 1) g rc w_50 B := ⟨by have := hp_50.1; omega, hp_50.2⟩
        exact X_iretW hO hF rfl (by first | exact Or.inl rfl | exact Or.inr ⟨rfl, bi_01 _⟩ | exact Or.inr ⟨rfl, by omega⟩) dL_walks_53 ⟨_, rfl, (by omega), hres⟩
      ·
        exact absurd hc_25 (by decide)
    ·
      exact absurd hc_13 (by decide)
  ·
    exact absurd hc_1 (by decide)
