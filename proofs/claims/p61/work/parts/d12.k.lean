/-! THE LAW'S METHODS: replayed -/
theorem dL_replayed_0 : decode cL_replayed 0 = .ok (.aload_n 0, 1) := by decide +kernel
theorem dL_replayed_1 : decode cL_replayed 1 = .ok (.invokevirtual 111, 3) := by decide +kernel
theorem dL_replayed_4 : decode cL_replayed 4 = .ok (.istore_n 2, 1) := by decide +kernel
theorem dL_replayed_5 : decode cL_replayed 5 = .ok (.aload_n 0, 1) := by decide +kernel
theorem dL_replayed_6 : decode cL_replayed 6 = .ok (.iload_n 2, 1) := by decide +kernel
theorem dL_replayed_7 : decode cL_replayed 7 = .ok (.invokevirtual 114, 3) := by decide +kernel
theorem dL_replayed_10 : decode cL_replayed 10 = .ok (.aload_n 0, 1) := by decide +kernel
theorem dL_replayed_11 : decode cL_replayed 11 = .ok (.invokevirtual 99, 3) := by decide +kernel
theorem dL_replayed_14 : decode cL_replayed 14 = .ok (.if_icmp .ne 7, 3) := by decide +kernel
theorem dL_replayed_17 : decode cL_replayed 17 = .ok (.iconst 1, 1) := by decide +kernel
theorem dL_replayed_18 : decode cL_replayed 18 = .ok (.goto 4, 3) := by decide +kernel
theorem dL_replayed_21 : decode cL_replayed 21 = .ok (.iconst 0, 1) := by decide +kernel
theorem dL_replayed_22 : decode cL_replayed 22 = .ok (.istore_n 3, 1) := by decide +kernel
theorem dL_replayed_23 : decode cL_replayed 23 = .ok (.iconst 0, 1) := by decide +kernel
theorem dL_replayed_24 : decode cL_replayed 24 = .ok (.istore 4, 2) := by decide +kernel
theorem dL_replayed_26 : decode cL_replayed 26 = .ok (.iload 4, 2) := by decide +kernel
theorem dL_replayed_28 : decode cL_replayed 28 = .ok (.iconst 3, 1) := by decide +kernel
theorem dL_replayed_29 : decode cL_replayed 29 = .ok (.if_icmp .ge 57, 3) := by decide +kernel
theorem dL_replayed_32 : decode cL_replayed 32 = .ok (.iload_n 3, 1) := by decide +kernel
theorem dL_replayed_33 : decode cL_replayed 33 = .ok (.ifCond .eq 53, 3) := by decide +kernel
theorem dL_replayed_36 : decode cL_replayed 36 = .ok (.aload_n 0, 1) := by decide +kernel
theorem dL_replayed_37 : decode cL_replayed 37 = .ok (.invokevirtual 99, 3) := by decide +kernel
theorem dL_replayed_40 : decode cL_replayed 40 = .ok (.ifCond .le 46, 3) := by decide +kernel
theorem dL_replayed_43 : decode cL_replayed 43 = .ok (.iload_n 1, 1) := by decide +kernel
theorem dL_replayed_44 : decode cL_replayed 44 = .ok (.iconst 3, 1) := by decide +kernel
theorem dL_replayed_45 : decode cL_replayed 45 = .ok (.iload 4, 2) := by decide +kernel
theorem dL_replayed_47 : decode cL_replayed 47 = .ok (.imul, 1) := by decide +kernel
theorem dL_replayed_48 : decode cL_replayed 48 = .ok (.ishr, 1) := by decide +kernel
theorem dL_replayed_49 : decode cL_replayed 49 = .ok (.aload_n 0, 1) := by decide +kernel
theorem dL_replayed_50 : decode cL_replayed 50 = .ok (.invokevirtual 99, 3) := by decide +kernel
theorem dL_replayed_53 : decode cL_replayed 53 = .ok (.invokestatic 9, 3) := by decide +kernel
theorem dL_replayed_56 : decode cL_replayed 56 = .ok (.istore 5, 2) := by decide +kernel
theorem dL_replayed_58 : decode cL_replayed 58 = .ok (.aload_n 0, 1) := by decide +kernel
theorem dL_replayed_59 : decode cL_replayed 59 = .ok (.iload_n 2, 1) := by decide +kernel
theorem dL_replayed_60 : decode cL_replayed 60 = .ok (.iload 5, 2) := by decide +kernel
theorem dL_replayed_62 : decode cL_replayed 62 = .ok (.invokevirtual 117, 3) := by decide +kernel
theorem dL_replayed_65 : decode cL_replayed 65 = .ok (.aload_n 0, 1) := by decide +kernel
theorem dL_replayed_66 : decode cL_replayed 66 = .ok (.iload 5, 2) := by decide +kernel
theorem dL_replayed_68 : decode cL_replayed 68 = .ok (.invokevirtual 120, 3) := by decide +kernel
theorem dL_replayed_71 : decode cL_replayed 71 = .ok (.if_icmp .ne 7, 3) := by decide +kernel
theorem dL_replayed_74 : decode cL_replayed 74 = .ok (.iconst 1, 1) := by decide +kernel
theorem dL_replayed_75 : decode cL_replayed 75 = .ok (.goto 4, 3) := by decide +kernel
theorem dL_replayed_78 : decode cL_replayed 78 = .ok (.iconst 0, 1) := by decide +kernel
theorem dL_replayed_79 : decode cL_replayed 79 = .ok (.istore_n 3, 1) := by decide +kernel
theorem dL_replayed_80 : decode cL_replayed 80 = .ok (.iinc 4 1, 3) := by decide +kernel
theorem dL_replayed_83 : decode cL_replayed 83 = .ok (.goto (-57), 3) := by decide +kernel
theorem dL_replayed_86 : decode cL_replayed 86 = .ok (.iconst 0, 1) := by decide +kernel
theorem dL_replayed_87 : decode cL_replayed 87 = .ok (.istore 4, 2) := by decide +kernel
theorem dL_replayed_89 : decode cL_replayed 89 = .ok (.iload 4, 2) := by decide +kernel
theorem dL_replayed_91 : decode cL_replayed 91 = .ok (.bipush 6, 2) := by decide +kernel
theorem dL_replayed_93 : decode cL_replayed 93 = .ok (.if_icmp .ge 35, 3) := by decide +kernel
theorem dL_replayed_96 : decode cL_replayed 96 = .ok (.iload_n 3, 1) := by decide +kernel
theorem dL_replayed_97 : decode cL_replayed 97 = .ok (.ifCond .eq 31, 3) := by decide +kernel
theorem dL_replayed_100 : decode cL_replayed 100 = .ok (.aload_n 0, 1) := by decide +kernel
theorem dL_replayed_101 : decode cL_replayed 101 = .ok (.iload_n 2, 1) := by decide +kernel
theorem dL_replayed_102 : decode cL_replayed 102 = .ok (.iload 4, 2) := by decide +kernel
theorem dL_replayed_104 : decode cL_replayed 104 = .ok (.invokevirtual 123, 3) := by decide +kernel
theorem dL_replayed_107 : decode cL_replayed 107 = .ok (.aload_n 0, 1) := by decide +kernel
theorem dL_replayed_108 : decode cL_replayed 108 = .ok (.iload 4, 2) := by decide +kernel
theorem dL_replayed_110 : decode cL_replayed 110 = .ok (.invokevirtual 108, 3) := by decide +kernel
theorem dL_replayed_113 : decode cL_replayed 113 = .ok (.if_icmp .ne 7, 3) := by decide +kernel
theorem dL_replayed_116 : decode cL_replayed 116 = .ok (.iconst 1, 1) := by decide +kernel
theorem dL_replayed_117 : decode cL_replayed 117 = .ok (.goto 4, 3) := by decide +kernel
theorem dL_replayed_120 : decode cL_replayed 120 = .ok (.iconst 0, 1) := by decide +kernel
theorem dL_replayed_121 : decode cL_replayed 121 = .ok (.istore_n 3, 1) := by decide +kernel
theorem dL_replayed_122 : decode cL_replayed 122 = .ok (.iinc 4 1, 3) := by decide +kernel
theorem dL_replayed_125 : decode cL_replayed 125 = .ok (.goto (-36), 3) := by decide +kernel
theorem dL_replayed_128 : decode cL_replayed 128 = .ok (.iconst 0, 1) := by decide +kernel
theorem dL_replayed_129 : decode cL_replayed 129 = .ok (.istore 4, 2) := by decide +kernel
theorem dL_replayed_131 : decode cL_replayed 131 = .ok (.iconst 0, 1) := by decide +kernel
theorem dL_replayed_132 : decode cL_replayed 132 = .ok (.istore 5, 2) := by decide +kernel
theorem dL_replayed_134 : decode cL_replayed 134 = .ok (.iload 5, 2) := by decide +kernel
theorem dL_replayed_136 : decode cL_replayed 136 = .ok (.aload_n 0, 1) := by decide +kernel
theorem dL_replayed_137 : decode cL_replayed 137 = .ok (.iconst 4, 1) := by decide +kernel
theorem dL_replayed_138 : decode cL_replayed 138 = .ok (.invokevirtual 126, 3) := by decide +kernel
theorem dL_replayed_141 : decode cL_replayed 141 = .ok (.if_icmp .ge 21, 3) := by decide +kernel
theorem dL_replayed_144 : decode cL_replayed 144 = .ok (.iload 4, 2) := by decide +kernel
theorem dL_replayed_146 : decode cL_replayed 146 = .ok (.aload_n 0, 1) := by decide +kernel
theorem dL_replayed_147 : decode cL_replayed 147 = .ok (.iconst 4, 1) := by decide +kernel
theorem dL_replayed_148 : decode cL_replayed 148 = .ok (.iload 5, 2) := by decide +kernel
theorem dL_replayed_150 : decode cL_replayed 150 = .ok (.invokevirtual 129, 3) := by decide +kernel
theorem dL_replayed_153 : decode cL_replayed 153 = .ok (.iadd, 1) := by decide +kernel
theorem dL_replayed_154 : decode cL_replayed 154 = .ok (.istore 4, 2) := by decide +kernel
theorem dL_replayed_156 : decode cL_replayed 156 = .ok (.iinc 5 1, 3) := by decide +kernel
theorem dL_replayed_159 : decode cL_replayed 159 = .ok (.goto (-25), 3) := by decide +kernel
theorem dL_replayed_162 : decode cL_replayed 162 = .ok (.iload_n 3, 1) := by decide +kernel
theorem dL_replayed_163 : decode cL_replayed 163 = .ok (.ifCond .eq 27, 3) := by decide +kernel
theorem dL_replayed_166 : decode cL_replayed 166 = .ok (.aload_n 0, 1) := by decide +kernel
theorem dL_replayed_167 : decode cL_replayed 167 = .ok (.iload_n 2, 1) := by decide +kernel
theorem dL_replayed_168 : decode cL_replayed 168 = .ok (.iconst 4, 1) := by decide +kernel
theorem dL_replayed_169 : decode cL_replayed 169 = .ok (.invokevirtual 132, 3) := by decide +kernel
theorem dL_replayed_172 : decode cL_replayed 172 = .ok (.iload 4, 2) := by decide +kernel
theorem dL_replayed_174 : decode cL_replayed 174 = .ok (.if_icmp .eq 12, 3) := by decide +kernel
theorem dL_replayed_177 : decode cL_replayed 177 = .ok (.aload_n 0, 1) := by decide +kernel
theorem dL_replayed_178 : decode cL_replayed 178 = .ok (.iload_n 2, 1) := by decide +kernel
theorem dL_replayed_179 : decode cL_replayed 179 = .ok (.iconst 4, 1) := by decide +kernel
theorem dL_replayed_180 : decode cL_replayed 180 = .ok (.invokevirtual 132, 3) := by decide +kernel
theorem dL_replayed_183 : decode cL_replayed 183 = .ok (.ifCond .ne 7, 3) := by decide +kernel
theorem dL_replayed_186 : decode cL_replayed 186 = .ok (.iconst 1, 1) := by decide +kernel
theorem dL_replayed_187 : decode cL_replayed 187 = .ok (.goto 4, 3) := by decide +kernel
theorem dL_replayed_190 : decode cL_replayed 190 = .ok (.iconst 0, 1) := by decide +kernel
theorem dL_replayed_191 : decode cL_replayed 191 = .ok (.ireturn, 1) := by decide +kernel
set_option maxRecDepth 4000 in
theorem L_replayed {γ : LC} {w A : Mm} {μ : MU} {f n g rc : Int} {v : Int} (h : LG μ f n 0 rc w A) (hn : 0 ≤ n ∧ n ≤ 500) (hv : IR v) : KI γ 9 mL_replayed [rv f, .int (I v)] w 60 400 (fun r w' => r = 1 ∧ w' = w) NX := by
  refine MX_of rfl rfl (by simp [rv_cat, int_cat]) rfl ?_
  rintro κ hO hF rfl
  have hD := hF.dp
  show X κ 60 400 w 0 [some (rv f), some (.int (I v)), none, none, none, none] []
  have t0 : w 0 f 0 = 13 := h.t0
  refine X_wi (fun hW => ?_)
  obtain ⟨⟨⟨p, hC⟩, hV, hB, hP, hS⟩, hg, -⟩ := id h
  have F1 := hB.1.f
  have F2 := hB.1.1.2.2.1
  have F4 := (hB.1.cn (s := 4) (by decide))
  have F5 : ∀ e, 0 ≤ e → e < 4 → 0 ≤ A 205 0 (4 * 4 + e) ∧ A 205 0 (4 * 4 + e) ≤ 20 := fun e e0 e1 => hB.1.el (by omega)
  obtain ⟨T, hT⟩ : ∃ T, T = sumN (fun e => A 205 0 (4 * 4 + e)) (A 204 0 4).toNat := ⟨_, rfl⟩
  obtain ⟨Z, hZ, hZ2⟩ : ∃ Z, Z = (if A 211 0 4 = 1 then sumN (fun e => A 205 0 (4 * 4 + e)) (A 204 0 4).toNat else 0) ∧ (Z = 0 ∨ Z = T) := ⟨_, rfl, by split; exact Or.inr hT.symm; exact Or.inl rfl⟩
  refine X_aload_n 1 hO dL_replayed_0 rfl rfl ?_
  refine X_kVi (t := 13) 4 hO hD lL_111 rfl (by decide) [] rfl dL_replayed_1 rfl (by first | assumption | omega | (simp (disch := first | decide | assumption | omega) only [up_k, up_s, up_a, up_i, flA_k, flA_a, newO_o, newA_o]; first | assumption | omega)) (y_now hC hB) (by decide) (by simp [rv_cat, int_cat]) (by first | decide | exact Nat.zero_le _ | omega) (by first | decide | exact Nat.zero_le _ | omega) (fun r_1 w_1 hr_1 hp_1 => ?_) (fun E w_ hx_ => hx_.elim)
  obtain ⟨he_1, e_1⟩ := hp_1
  subst w_1
  subst r_1
  refine X_istore_n 5 hO dL_replayed_4 rfl rfl ?_
  refine X_aload_n 6 hO dL_replayed_5 rfl rfl ?_
  refine X_iload_n 7 hO dL_replayed_6 rfl rfl ?_
  refine X_kVi (t := 13) 10 hO hD lL_114 rfl (by decide) [_] rfl dL_replayed_7 rfl (by first | assumption | omega | (simp (disch := first | decide | assumption | omega) only [up_k, up_s, up_a, up_i, flA_k, flA_a, newO_o, newA_o]; first | assumption | omega)) (y_lengthByReplay hC hW hB (by omega) hg) (by decide) (by simp [rv_cat, int_cat]) (by first | decide | exact Nat.zero_le _ | omega) (by first | decide | exact Nat.zero_le _ | omega) (fun r_7 w_7 hr_7 hp_7 => ?_) (fun E w_ hx_ => hx_.elim)
  obtain ⟨he_7, e_7⟩ := hp_7
  subst w_7
  refine X_aload_n 11 hO dL_replayed_10 rfl rfl ?_
  refine X_kVi (t := 13) 14 hO hD lL_99 rfl (by decide) [] rfl dL_replayed_11 rfl (by first | assumption | omega | (simp (disch := first | decide | assumption | omega) only [up_k, up_s, up_a, up_i, flA_k, flA_a, newO_o, newA_o]; first | assumption | omega)) (y_length hC) (by decide) (by simp [rv_cat, int_cat]) (by first | decide | exact Nat.zero_le _ | omega) (by first | decide | exact Nat.zero_le _ | omega) (fun r_11 w_11 hr_11 hp_11 => ?_) (fun E w_ hx_ => hx_.elim)
  obtain ⟨he_11, e_11⟩ := hp_11
  subst w_11
  refine X_icmp_ne 17 21 hO dL_replayed_14 rfl rfl (by omega) (by omega) (fun hc_14 => ?_) (fun hc_14 => ?_)
  ·
    exact absurd hc_14 (by omega)
  ·
    refine X_iconst 18 hO dL_replayed_17 rfl ?_
    refine X_goto hO dL_replayed_18 (tgt := 22) rfl ?_
    refine X_istore_n 23 hO dL_replayed_22 rfl rfl ?_
    have JP86 :  X κ 40 280 (w) 86 [some (rv f), some (.int (I v)), some (.int (I (A 126 μ.1 0))), some (.int (I 1)), none, none] [] := by
      refine X_iconst 87 hO dL_replayed_86 rfl ?_
      refine X_istore 89 hO dL_replayed_87 rfl rfl ?_
      have LP89 : ∀ (nn : Nat) (i : Int), (6 - i).toNat < nn → (0 ≤ i ∧ i ≤ 6) → X κ (20 + 3 * (6 - i).toNat) (130 + 18 * (6 - i).toNat) (w) 89 [some (rv f), some (.int (I v)), some (.int (I (A 126 μ.1 0))), some (.int (I 1)), some (.int (I i)), none] [] := by
        intro nn
        induction nn with
        | zero => intro i hm; exact absurd hm (Nat.not_lt_zero _)
        | succ nn ih =>
          intro i hm hi
          refine X_iload 91 hO dL_replayed_89 rfl rfl ?_
          refine X_bipush 93 hO dL_replayed_91 rfl (by decide) ?_
          refine X_icmp_ge 96 128 hO dL_replayed_93 rfl rfl (by omega) (by omega) (fun hc_93 => ?_) (fun hc_93 => ?_)
          ·
            refine X_iconst 129 hO dL_replayed_128 rfl ?_
            refine X_istore 131 hO dL_replayed_129 rfl rfl ?_
            refine X_iconst 132 hO dL_replayed_131 rfl ?_
            refine X_istore 134 hO dL_replayed_132 rfl rfl ?_
            have LP134 : ∀ (nn : Nat) (e s : Int), (4 - e).toNat < nn → (0 ≤ e ∧ e ≤ A 204 0 4) → (s = sumN (fun e => A 205 0 (4 * 4 + e)) e.toNat) → (0 ≤ s ∧ s ≤ 20 * e) → X κ (5 + 3 * (4 - e).toNat) (30 + 18 * (4 - e).toNat) (w) 134 [some (rv f), some (.int (I v)), some (.int (I (A 126 μ.1 0))), some (.int (I 1)), some (.int (I s)), some (.int (I e))] [] := by
              intro nn
              induction nn with
              | zero => intro e s hm; exact absurd hm (Nat.not_lt_zero _)
              | succ nn ih =>
                intro e s hm he hs0 hs1
                refine X_iload 136 hO dL_replayed_134 rfl rfl ?_
                refine X_aload_n 137 hO dL_replayed_136 rfl rfl ?_
                refine X_iconst 138 hO dL_replayed_137 rfl ?_
                refine X_kVi (t := 13) 141 hO hD lL_126 rfl (by decide) [_] rfl dL_replayed_138 rfl (by first | assumption | omega | (simp (disch := first | decide | assumption | omega) only [up_k, up_s, up_a, up_i, flA_k, flA_a, newO_o, newA_o]; first | assumption | omega)) (y_entries hC hW (by decide)) (by decide) (by simp [rv_cat, int_cat]) (by first | decide | exact Nat.zero_le _ | omega) (by first | decide | exact Nat.zero_le _ | omega) (fun r_138 w_138 hr_138 hp_138 => ?_) (fun E w_ hx_ => hx_.elim)
                obtain ⟨he_138, e_138⟩ := hp_138
                subst w_138
                refine X_icmp_ge 144 162 hO dL_replayed_141 rfl rfl (by omega) (by omega) (fun hc_141 => ?_) (fun hc_141 => ?_)
                ·
                  have hsT : s = T := by rw [hs0, hT, show e = A 204 0 4 by omega]
                  refine X_iload_n 163 hO dL_replayed_162 rfl rfl ?_
                  refine X_if_eq 166 190 hO dL_replayed_163 rfl rfl (by omega) (fun hc_163 => ?_) (fun hc_163 => ?_)
                  ·
                    exact absurd hc_163 (by omega)
                  ·
                    refine X_aload_n 167 hO dL_replayed_166 rfl rfl ?_
                    refine X_iload_n 168 hO dL_replayed_167 rfl rfl ?_
                    refine X_iconst 169 hO dL_replayed_168 rfl ?_
                    refine X_kVi (t := 13) 172 hO hD lL_132 rfl (by decide) [_, _] rfl dL_replayed_169 rfl (by first | assumption | omega | (simp (disch := first | decide | assumption | omega) only [up_k, up_s, up_a, up_i, flA_k, flA_a, newO_o, newA_o]; first | assumption | omega)) (y_storedByReplay hC hW hB (by omega) hg (by decide)) (by decide) (by simp [rv_cat, int_cat]) (by first | decide | exact Nat.zero_le _ | omega) (by first | decide | exact Nat.zero_le _ | omega) (fun r_169 w_169 hr_169 hp_169 => ?_) (fun E w_ hx_ => hx_.elim)
                    obtain ⟨he_169, e_169⟩ := hp_169
                    subst w_169
                    refine X_iload 174 hO dL_replayed_172 rfl rfl ?_
                    refine X_icmp_eq 177 186 hO dL_replayed_174 rfl rfl (by omega) (by omega) (fun hc_174 => ?_) (fun hc_174 => ?_)
                    ·
                      refine X_iconst 187 hO dL_replayed_186 rfl ?_
                      refine X_goto hO dL_replayed_187 (tgt := 191) rfl ?_
                      exact X_iret hO hF rfl (by first | exact Or.inl rfl | exact Or.inr ⟨rfl, bi_01 _⟩ | exact Or.inr ⟨rfl, by omega⟩) dL_replayed_191 ⟨_, rfl, (by omega), ⟨rfl, rfl⟩⟩
                    ·
                      refine X_aload_n 178 hO dL_replayed_177 rfl rfl ?_
                      refine X_iload_n 179 hO dL_replayed_178 rfl rfl ?_
                      refine X_iconst 180 hO dL_replayed_179 rfl ?_
                      refine X_kVi (t := 13) 183 hO hD lL_132 rfl (by decide) [_, _] rfl dL_replayed_180 rfl (by first | assumption | omega | (simp (disch := first | decide | assumption | omega) only [up_k, up_s, up_a, up_i, flA_k, flA_a, newO_o, newA_o]; first | assumption | omega)) (y_storedByReplay hC hW hB (by omega) hg (by decide)) (by decide) (by simp [rv_cat, int_cat]) (by first | decide | exact Nat.zero_le _ | omega) (by first | decide | exact Nat.zero_le _ | omega) (fun r_180 w_180 hr_180 hp_180 => ?_) (fun E w_ hx_ => hx_.elim)
                      obtain ⟨he_180, e_180⟩ := hp_180
                      subst w_180
                      refine X_if_ne 186 190 hO dL_replayed_183 rfl rfl (by omega) (fun hc_183 => ?_) (fun hc_183 => ?_)
                      ·
                        exact absurd hc_183 (by omega)
                      ·
                        refine X_iconst 187 hO dL_replayed_186 rfl ?_
                        refine X_goto hO dL_replayed_187 (tgt := 191) rfl ?_
                        exact X_iret hO hF rfl (by first | exact Or.inl rfl | exact Or.inr ⟨rfl, bi_01 _⟩ | exact Or.inr ⟨rfl, by omega⟩) dL_replayed_191 ⟨_, rfl, (by omega), ⟨rfl, rfl⟩⟩
                ·
                  have h5 := F5 e (by omega) (by omega)
                  refine X_iload 146 hO dL_replayed_144 rfl rfl ?_
                  refine X_aload_n 147 hO dL_replayed_146 rfl rfl ?_
                  refine X_iconst 148 hO dL_replayed_147 rfl ?_
                  refine X_iload 150 hO dL_replayed_148 rfl rfl ?_
                  refine X_kVi (t := 13) 153 hO hD lL_129 rfl (by decide) [_, _] rfl dL_replayed_150 rfl (by first | assumption | omega | (simp (disch := first | decide | assumption | omega) only [up_k, up_s, up_a, up_i, flA_k, flA_a, newO_o, newA_o]; first | assumption | omega)) (y_entryLength hC hW hB (by decide) (by omega) ⟨by decide, by omega⟩) (by decide) (by simp [rv_cat, int_cat]) (by first | decide | exact Nat.zero_le _ | omega) (by first | decide | exact Nat.zero_le _ | omega) (fun r_150 w_150 hr_150 hp_150 => ?_) (fun E w_ hx_ => hx_.elim)
                  obtain ⟨he_150, e_150⟩ := hp_150
                  subst w_150
                  refine X_iadd 154 hO dL_replayed_153 rfl ?_
                  refine X_istore 156 hO dL_replayed_154 rfl rfl ?_
                  refine X_iinc 159 hO dL_replayed_156 rfl rfl ?_
                  refine X_goto hO dL_replayed_159 (tgt := 134) rfl ?_
                  exact X_mono (by omega) (by omega) (ih (e + 1) _ (by omega) (by omega) (by rw [sumN_su he.1, ← hs0, he_150]) (by omega))
            exact X_mono (by omega) (by omega) (LP134 5 0 0 (by omega) (by omega) rfl (by decide))
          ·
            refine X_iload_n 97 hO dL_replayed_96 rfl rfl ?_
            refine X_if_eq 100 128 hO dL_replayed_97 rfl rfl (by omega) (fun hc_97 => ?_) (fun hc_97 => ?_)
            ·
              exact absurd hc_97 (by omega)
            ·
              refine X_aload_n 101 hO dL_replayed_100 rfl rfl ?_
              refine X_iload_n 102 hO dL_replayed_101 rfl rfl ?_
              refine X_iload 104 hO dL_replayed_102 rfl rfl ?_
              refine X_kVi (t := 13) 107 hO hD lL_123 rfl (by decide) [_, _] rfl dL_replayed_104 rfl (by first | assumption | omega | (simp (disch := first | decide | assumption | omega) only [up_k, up_s, up_a, up_i, flA_k, flA_a, newO_o, newA_o]; first | assumption | omega)) (y_markByReplay hC hW hB (by omega) hg (by omega)) (by decide) (by simp [rv_cat, int_cat]) (by first | decide | exact Nat.zero_le _ | omega) (by first | decide | exact Nat.zero_le _ | omega) (fun r_104 w_104 hr_104 hp_104 => ?_) (fun E w_ hx_ => hx_.elim)
              obtain ⟨he_104, e_104⟩ := hp_104
              subst w_104
              refine X_aload_n 108 hO dL_replayed_107 rfl rfl ?_
              refine X_iload 110 hO dL_replayed_108 rfl rfl ?_
              refine X_kVi (t := 13) 113 hO hD lL_108 rfl (by decide) [_] rfl dL_replayed_110 rfl (by first | assumption | omega | (simp (disch := first | decide | assumption | omega) only [up_k, up_s, up_a, up_i, flA_k, flA_a, newO_o, newA_o]; first | assumption | omega)) (y_markAt hC (by omega)) (by decide) (by simp [rv_cat, int_cat]) (by first | decide | exact Nat.zero_le _ | omega) (by first | decide | exact Nat.zero_le _ | omega) (fun r_110 w_110 hr_110 hp_110 => ?_) (fun E w_ hx_ => hx_.elim)
              obtain ⟨he_110, e_110⟩ := hp_110
              subst w_110
              refine X_icmp_ne 116 120 hO dL_replayed_113 rfl rfl (by omega) (by omega) (fun hc_113 => ?_) (fun hc_113 => ?_)
              ·
                exact absurd hc_113 (by omega)
              ·
                refine X_iconst 117 hO dL_replayed_116 rfl ?_
                refine X_goto hO dL_replayed_117 (tgt := 121) rfl ?_
                refine X_istore_n 122 hO dL_replayed_121 rfl rfl ?_
                refine X_iinc 125 hO dL_replayed_122 rfl rfl ?_
                refine X_goto hO dL_replayed_125 (tgt := 89) rfl ?_
                exact X_mono (by omega) (by omega) (ih (i + 1) (by omega) (by omega))
      exact X_mono (by omega) (by omega) (LP89 7 0 (by omega) (by omega))
    refine X_iconst 24 hO dL_replayed_23 rfl ?_
    refine X_istore 26 hO dL_replayed_24 rfl rfl ?_
    have LP26 : ∀ (nn : Nat) (k : Int), (3 - k).toNat < nn → (0 ≤ k ∧ k ≤ 3) → X κ (40 + 3 * (3 - k).toNat) (280 + 18 * (3 - k).toNat) (w) 26 [some (rv f), some (.int (I v)), some (.int (I (A 126 μ.1 0))), some (.int (I 1)), some (.int (I k)), none] [] := by
      intro nn
      induction nn with
      | zero => intro k hm; exact absurd hm (Nat.not_lt_zero _)
      | succ nn ih =>
        intro k hm hk
        refine X_iload 28 hO dL_replayed_26 rfl rfl ?_
        refine X_iconst 29 hO dL_replayed_28 rfl ?_
        refine X_icmp_ge 32 86 hO dL_replayed_29 rfl rfl (by omega) (by omega) (fun hc_29 => ?_) (fun hc_29 => ?_)
        ·
          exact X_wk (by simp only [lwk, lset, true_or, or_true, and_self]) (X_mono (by omega) (by omega) JP86)
        ·
          refine X_iload_n 33 hO dL_replayed_32 rfl rfl ?_
          refine X_if_eq 36 86 hO dL_replayed_33 rfl rfl (by omega) (fun hc_33 => ?_) (fun hc_33 => ?_)
          ·
            exact absurd hc_33 (by omega)
          ·
            refine X_aload_n 37 hO dL_replayed_36 rfl rfl ?_
            refine X_kVi (t := 13) 40 hO hD lL_99 rfl (by decide) [] rfl dL_replayed_37 rfl (by first | assumption | omega | (simp (disch := first | decide | assumption | omega) only [up_k, up_s, up_a, up_i, flA_k, flA_a, newO_o, newA_o]; first | assumption | omega)) (y_length hC) (by decide) (by simp [rv_cat, int_cat]) (by first | decide | exact Nat.zero_le _ | omega) (by first | decide | exact Nat.zero_le _ | omega) (fun r_37 w_37 hr_37 hp_37 => ?_) (fun E w_ hx_ => hx_.elim)
            obtain ⟨he_37, e_37⟩ := hp_37
            subst w_37
            refine X_if_le 43 86 hO dL_replayed_40 rfl rfl (by omega) (fun hc_40 => ?_) (fun hc_40 => ?_)
            ·
              exact X_wk (by simp only [lwk, lset, true_or, or_true, and_self]) (X_mono (by omega) (by omega) JP86)
            ·
              refine X_iload_n 44 hO dL_replayed_43 rfl rfl ?_
              refine X_iconst 45 hO dL_replayed_44 rfl ?_
              refine X_iload 47 hO dL_replayed_45 rfl rfl ?_
              refine X_imul 48 hO dL_replayed_47 rfl ?_
              obtain ⟨z48, hz48, hz48r⟩ := I_any (I v >>> (I (3 * k) &&& 31))
              refine X_ishr 49 hO dL_replayed_48 rfl (hz48) ?_
              refine X_aload_n 50 hO dL_replayed_49 rfl rfl ?_
              refine X_kVi (t := 13) 53 hO hD lL_99 rfl (by decide) [] rfl dL_replayed_50 rfl (by first | assumption | omega | (simp (disch := first | decide | assumption | omega) only [up_k, up_s, up_a, up_i, flA_k, flA_a, newO_o, newA_o]; first | assumption | omega)) (y_length hC) (by decide) (by simp [rv_cat, int_cat]) (by first | decide | exact Nat.zero_le _ | omega) (by first | decide | exact Nat.zero_le _ | omega) (fun r_50 w_50 hr_50 hp_50 => ?_) (fun E w_ hx_ => hx_.elim)
              obtain ⟨he_50, e_50⟩ := hp_50
              subst w_50
              refine X_kSi 56 hO hD lL_9 [_, _] rfl dL_replayed_53 rfl (L_low _ _ _ _ (by omega) (by omega)) (by decide) (by simp [rv_cat, int_cat]) (by first | decide | exact Nat.zero_le _ | omega) (by first | decide | exact Nat.zero_le _ | omega) (fun r_53 w_53 hr_53 hp_53 => ?_) (fun E w_ hx_ => hx_.elim)
              obtain ⟨hl_53, e_53⟩ := hp_53
              subst w_53
              refine X_istore 58 hO dL_replayed_56 rfl rfl ?_
              refine X_aload_n 59 hO dL_replayed_58 rfl rfl ?_
              refine X_iload_n 60 hO dL_replayed_59 rfl rfl ?_
              refine X_iload 62 hO dL_replayed_60 rfl rfl ?_
              refine X_kVi (t := 13) 65 hO hD lL_117 rfl (by decide) [_, _] rfl dL_replayed_62 rfl (by first | assumption | omega | (simp (disch := first | decide | assumption | omega) only [up_k, up_s, up_a, up_i, flA_k, flA_a, newO_o, newA_o]; first | assumption | omega)) (y_charByReplay hC hW hB (by omega) hg (by omega)) (by decide) (by simp [rv_cat, int_cat]) (by first | decide | exact Nat.zero_le _ | omega) (by first | decide | exact Nat.zero_le _ | omega) (fun r_62 w_62 hr_62 hp_62 => ?_) (fun E w_ hx_ => hx_.elim)
              obtain ⟨he_62, e_62⟩ := hp_62
              subst w_62
              refine X_aload_n 66 hO dL_replayed_65 rfl rfl ?_
              refine X_iload 68 hO dL_replayed_66 rfl rfl ?_
              refine X_kVi (t := 13) 71 hO hD lL_120 rfl (by decide) [_] rfl dL_replayed_68 rfl (by first | assumption | omega | (simp (disch := first | decide | assumption | omega) only [up_k, up_s, up_a, up_i, flA_k, flA_a, newO_o, newA_o]; first | assumption | omega)) (y_charAt hC (by omega) (by omega)) (by decide) (by simp [rv_cat, int_cat]) (by first | decide | exact Nat.zero_le _ | omega) (by first | decide | exact Nat.zero_le _ | omega) (fun r_68 w_68 hr_68 hp_68 => ?_) (fun E w_ hx_ => hx_.elim)
              obtain ⟨he_68, e_68⟩ := hp_68
              subst w_68
              refine X_icmp_ne 74 78 hO dL_replayed_71 rfl rfl (by omega) (by omega) (fun hc_71 => ?_) (fun hc_71 => ?_)
              ·
                exact absurd hc_71 (by omega)
              ·
                refine X_iconst 75 hO dL_replayed_74 rfl ?_
                refine X_goto hO dL_replayed_75 (tgt := 79) rfl ?_
                refine X_istore_n 80 hO dL_replayed_79 rfl rfl ?_
                refine X_iinc 83 hO dL_replayed_80 rfl rfl ?_
                refine X_goto hO dL_replayed_83 (tgt := 26) rfl ?_
                exact X_wk (by simp only [lwk, lset, true_or, or_true, and_self]) (X_mono (by omega) (by omega) (ih (k + 1) (by omega) (by omega)))
    exact X_mono (by omega) (by omega) (LP26 4 0 (by omega) (by omega))
