theorem bTc.trB {μ : MU} {N x n : Int} {w : Mm} (h : bTc N w) (hx : 0 ≤ x ∧ x < 16777216) (hN : 10000 ≤ N) : bTc N (m_trB μ x n w) := by
  intro t a b
  have ht := h t a b
  have hz : 0 ≤ wsz x ∧ wsz x ≤ 5000 := by unfold wsz; split <;> omega
  unfold m_trB
  simp (disch := decide) only [up_k, up_ii]
  by_cases c : t = n
  · rw [if_pos c, if_pos c]
    refine ⟨by omega, by split <;> omega, by split <;> omega⟩
  · rw [if_neg c, if_neg c]; exact ht
theorem FRt.trB {μ : MU} {x n : Int} {b w : Mm} (h : FRt b w) : FRt b (m_trB μ x n w) := fun c a i h1 h2 h3 => by
  unfold m_trB
  rw [up_k _ h1, up_k _ (by omega), up_k _ (by omega), up_k _ (by omega), up_k _ (by omega), up_k _ (by omega)]
  exact h c a i h1 h2 h3
theorem trB_137 {μ : MU} {x n : Int} {w : Mm} : m_trB μ x n w 137 μ.1 0 = n + 1 := by unfold m_trB; rw [up_s]
theorem dX13_traced_0 : decode cX13_traced 0 = .ok (.aload_n 0, 1) := by decide +kernel
theorem dX13_traced_1 : decode cX13_traced 1 = .ok (.iconst 0, 1) := by decide +kernel
theorem dX13_traced_2 : decode cX13_traced 2 = .ok (.putfield 410, 3) := by decide +kernel
theorem dX13_traced_5 : decode cX13_traced 5 = .ok (.aload_n 0, 1) := by decide +kernel
theorem dX13_traced_6 : decode cX13_traced 6 = .ok (.getfield 81, 3) := by decide +kernel
theorem dX13_traced_9 : decode cX13_traced 9 = .ok (.iload_n 1, 1) := by decide +kernel
theorem dX13_traced_10 : decode cX13_traced 10 = .ok (.iaload, 1) := by decide +kernel
theorem dX13_traced_11 : decode cX13_traced 11 = .ok (.istore_n 2, 1) := by decide +kernel
theorem dX13_traced_12 : decode cX13_traced 12 = .ok (.iload_n 2, 1) := by decide +kernel
theorem dX13_traced_13 : decode cX13_traced 13 = .ok (.iconst (-1), 1) := by decide +kernel
theorem dX13_traced_14 : decode cX13_traced 14 = .ok (.if_icmp .eq 219, 3) := by decide +kernel
theorem dX13_traced_17 : decode cX13_traced 17 = .ok (.aload_n 0, 1) := by decide +kernel
theorem dX13_traced_18 : decode cX13_traced 18 = .ok (.getfield 72, 3) := by decide +kernel
theorem dX13_traced_21 : decode cX13_traced 21 = .ok (.iload_n 2, 1) := by decide +kernel
theorem dX13_traced_22 : decode cX13_traced 22 = .ok (.iaload, 1) := by decide +kernel
theorem dX13_traced_23 : decode cX13_traced 23 = .ok (.istore_n 3, 1) := by decide +kernel
theorem dX13_traced_24 : decode cX13_traced 24 = .ok (.iload_n 3, 1) := by decide +kernel
theorem dX13_traced_25 : decode cX13_traced 25 = .ok (.aload_n 0, 1) := by decide +kernel
theorem dX13_traced_26 : decode cX13_traced 26 = .ok (.getfield 72, 3) := by decide +kernel
theorem dX13_traced_29 : decode cX13_traced 29 = .ok (.iload_n 2, 1) := by decide +kernel
theorem dX13_traced_30 : decode cX13_traced 30 = .ok (.iaload, 1) := by decide +kernel
theorem dX13_traced_31 : decode cX13_traced 31 = .ok (.aload_n 0, 1) := by decide +kernel
theorem dX13_traced_32 : decode cX13_traced 32 = .ok (.getfield 78, 3) := by decide +kernel
theorem dX13_traced_35 : decode cX13_traced 35 = .ok (.iload_n 2, 1) := by decide +kernel
theorem dX13_traced_36 : decode cX13_traced 36 = .ok (.iaload, 1) := by decide +kernel
theorem dX13_traced_37 : decode cX13_traced 37 = .ok (.iadd, 1) := by decide +kernel
theorem dX13_traced_38 : decode cX13_traced 38 = .ok (.if_icmp .ge 185, 3) := by decide +kernel
theorem dX13_traced_41 : decode cX13_traced 41 = .ok (.aload_n 0, 1) := by decide +kernel
theorem dX13_traced_42 : decode cX13_traced 42 = .ok (.getfield 46, 3) := by decide +kernel
theorem dX13_traced_45 : decode cX13_traced 45 = .ok (.iload_n 3, 1) := by decide +kernel
theorem dX13_traced_46 : decode cX13_traced 46 = .ok (.iaload, 1) := by decide +kernel
theorem dX13_traced_47 : decode cX13_traced 47 = .ok (.bipush 7, 2) := by decide +kernel
theorem dX13_traced_49 : decode cX13_traced 49 = .ok (.iand, 1) := by decide +kernel
theorem dX13_traced_50 : decode cX13_traced 50 = .ok (.istore 4, 2) := by decide +kernel
theorem dX13_traced_52 : decode cX13_traced 52 = .ok (.aload_n 0, 1) := by decide +kernel
theorem dX13_traced_53 : decode cX13_traced 53 = .ok (.getfield 46, 3) := by decide +kernel
theorem dX13_traced_56 : decode cX13_traced 56 = .ok (.iload_n 3, 1) := by decide +kernel
theorem dX13_traced_57 : decode cX13_traced 57 = .ok (.iaload, 1) := by decide +kernel
theorem dX13_traced_58 : decode cX13_traced 58 = .ok (.iconst 3, 1) := by decide +kernel
theorem dX13_traced_59 : decode cX13_traced 59 = .ok (.ishr, 1) := by decide +kernel
theorem dX13_traced_60 : decode cX13_traced 60 = .ok (.sipush 511, 3) := by decide +kernel
theorem dX13_traced_63 : decode cX13_traced 63 = .ok (.iand, 1) := by decide +kernel
theorem dX13_traced_64 : decode cX13_traced 64 = .ok (.istore 5, 2) := by decide +kernel
theorem dX13_traced_66 : decode cX13_traced 66 = .ok (.iload 4, 2) := by decide +kernel
theorem dX13_traced_68 : decode cX13_traced 68 = .ok (.iconst 2, 1) := by decide +kernel
theorem dX13_traced_69 : decode cX13_traced 69 = .ok (.if_icmp .ne 7, 3) := by decide +kernel
theorem dX13_traced_72 : decode cX13_traced 72 = .ok (.iconst 1, 1) := by decide +kernel
theorem dX13_traced_73 : decode cX13_traced 73 = .ok (.goto 12, 3) := by decide +kernel
theorem dX13_traced_76 : decode cX13_traced 76 = .ok (.aload_n 0, 1) := by decide +kernel
theorem dX13_traced_77 : decode cX13_traced 77 = .ok (.getfield 46, 3) := by decide +kernel
theorem dX13_traced_80 : decode cX13_traced 80 = .ok (.iload_n 3, 1) := by decide +kernel
theorem dX13_traced_81 : decode cX13_traced 81 = .ok (.iaload, 1) := by decide +kernel
theorem dX13_traced_82 : decode cX13_traced 82 = .ok (.bipush 12, 2) := by decide +kernel
theorem dX13_traced_84 : decode cX13_traced 84 = .ok (.ishr, 1) := by decide +kernel
theorem dX13_traced_85 : decode cX13_traced 85 = .ok (.istore 6, 2) := by decide +kernel
theorem dX13_traced_87 : decode cX13_traced 87 = .ok (.iload 4, 2) := by decide +kernel
theorem dX13_traced_89 : decode cX13_traced 89 = .ok (.iconst 2, 1) := by decide +kernel
theorem dX13_traced_90 : decode cX13_traced 90 = .ok (.if_icmp .gt 127, 3) := by decide +kernel
theorem dX13_traced_93 : decode cX13_traced 93 = .ok (.aload_n 0, 1) := by decide +kernel
theorem dX13_traced_94 : decode cX13_traced 94 = .ok (.getfield 410, 3) := by decide +kernel
theorem dX13_traced_97 : decode cX13_traced 97 = .ok (.bipush 8, 2) := by decide +kernel
theorem dX13_traced_99 : decode cX13_traced 99 = .ok (.if_icmp .ne 5, 3) := by decide +kernel
theorem dX13_traced_102 : decode cX13_traced 102 = .ok (.iconst 0, 1) := by decide +kernel
theorem dX13_traced_103 : decode cX13_traced 103 = .ok (.ireturn, 1) := by decide +kernel
theorem dX13_traced_104 : decode cX13_traced 104 = .ok (.iconst 0, 1) := by decide +kernel
theorem dX13_traced_105 : decode cX13_traced 105 = .ok (.istore 7, 2) := by decide +kernel
theorem dX13_traced_107 : decode cX13_traced 107 = .ok (.iload 7, 2) := by decide +kernel
theorem dX13_traced_109 : decode cX13_traced 109 = .ok (.aload_n 0, 1) := by decide +kernel
theorem dX13_traced_110 : decode cX13_traced 110 = .ok (.getfield 410, 3) := by decide +kernel
theorem dX13_traced_113 : decode cX13_traced 113 = .ok (.if_icmp .ge 25, 3) := by decide +kernel
theorem dX13_traced_116 : decode cX13_traced 116 = .ok (.aload_n 0, 1) := by decide +kernel
theorem dX13_traced_117 : decode cX13_traced 117 = .ok (.iload 7, 2) := by decide +kernel
theorem dX13_traced_119 : decode cX13_traced 119 = .ok (.iload 4, 2) := by decide +kernel
theorem dX13_traced_121 : decode cX13_traced 121 = .ok (.iload 5, 2) := by decide +kernel
theorem dX13_traced_123 : decode cX13_traced 123 = .ok (.iload 6, 2) := by decide +kernel
theorem dX13_traced_125 : decode cX13_traced 125 = .ok (.aload_n 0, 1) := by decide +kernel
theorem dX13_traced_126 : decode cX13_traced 126 = .ok (.getfield 410, 3) := by decide +kernel
theorem dX13_traced_129 : decode cX13_traced 129 = .ok (.invokevirtual 413, 3) := by decide +kernel
theorem dX13_traced_132 : decode cX13_traced 132 = .ok (.iinc 7 1, 3) := by decide +kernel
theorem dX13_traced_135 : decode cX13_traced 135 = .ok (.goto (-28), 3) := by decide +kernel
theorem dX13_traced_138 : decode cX13_traced 138 = .ok (.aload_n 0, 1) := by decide +kernel
theorem dX13_traced_139 : decode cX13_traced 139 = .ok (.getfield 153, 3) := by decide +kernel
theorem dX13_traced_142 : decode cX13_traced 142 = .ok (.aload_n 0, 1) := by decide +kernel
theorem dX13_traced_143 : decode cX13_traced 143 = .ok (.getfield 410, 3) := by decide +kernel
theorem dX13_traced_146 : decode cX13_traced 146 = .ok (.iload 4, 2) := by decide +kernel
theorem dX13_traced_148 : decode cX13_traced 148 = .ok (.iastore, 1) := by decide +kernel
theorem dX13_traced_149 : decode cX13_traced 149 = .ok (.aload_n 0, 1) := by decide +kernel
theorem dX13_traced_150 : decode cX13_traced 150 = .ok (.getfield 156, 3) := by decide +kernel
theorem dX13_traced_153 : decode cX13_traced 153 = .ok (.aload_n 0, 1) := by decide +kernel
theorem dX13_traced_154 : decode cX13_traced 154 = .ok (.getfield 410, 3) := by decide +kernel
theorem dX13_traced_157 : decode cX13_traced 157 = .ok (.iload 5, 2) := by decide +kernel
theorem dX13_traced_159 : decode cX13_traced 159 = .ok (.iastore, 1) := by decide +kernel
theorem dX13_traced_160 : decode cX13_traced 160 = .ok (.aload_n 0, 1) := by decide +kernel
theorem dX13_traced_161 : decode cX13_traced 161 = .ok (.getfield 159, 3) := by decide +kernel
theorem dX13_traced_164 : decode cX13_traced 164 = .ok (.aload_n 0, 1) := by decide +kernel
theorem dX13_traced_165 : decode cX13_traced 165 = .ok (.getfield 410, 3) := by decide +kernel
theorem dX13_traced_168 : decode cX13_traced 168 = .ok (.iload 6, 2) := by decide +kernel
theorem dX13_traced_170 : decode cX13_traced 170 = .ok (.iastore, 1) := by decide +kernel
theorem dX13_traced_171 : decode cX13_traced 171 = .ok (.aload_n 0, 1) := by decide +kernel
theorem dX13_traced_172 : decode cX13_traced 172 = .ok (.getfield 162, 3) := by decide +kernel
theorem dX13_traced_175 : decode cX13_traced 175 = .ok (.aload_n 0, 1) := by decide +kernel
theorem dX13_traced_176 : decode cX13_traced 176 = .ok (.getfield 410, 3) := by decide +kernel
theorem dX13_traced_179 : decode cX13_traced 179 = .ok (.iload 5, 2) := by decide +kernel
theorem dX13_traced_181 : decode cX13_traced 181 = .ok (.iastore, 1) := by decide +kernel
theorem dX13_traced_182 : decode cX13_traced 182 = .ok (.aload_n 0, 1) := by decide +kernel
theorem dX13_traced_183 : decode cX13_traced 183 = .ok (.getfield 165, 3) := by decide +kernel
theorem dX13_traced_186 : decode cX13_traced 186 = .ok (.aload_n 0, 1) := by decide +kernel
theorem dX13_traced_187 : decode cX13_traced 187 = .ok (.getfield 410, 3) := by decide +kernel
theorem dX13_traced_190 : decode cX13_traced 190 = .ok (.iload 4, 2) := by decide +kernel
theorem dX13_traced_192 : decode cX13_traced 192 = .ok (.iconst 1, 1) := by decide +kernel
theorem dX13_traced_193 : decode cX13_traced 193 = .ok (.if_icmp .ne 8, 3) := by decide +kernel
theorem dX13_traced_196 : decode cX13_traced 196 = .ok (.iload 5, 2) := by decide +kernel
theorem dX13_traced_198 : decode cX13_traced 198 = .ok (.goto 8, 3) := by decide +kernel
theorem dX13_traced_201 : decode cX13_traced 201 = .ok (.iload 5, 2) := by decide +kernel
theorem dX13_traced_203 : decode cX13_traced 203 = .ok (.iload 6, 2) := by decide +kernel
theorem dX13_traced_205 : decode cX13_traced 205 = .ok (.iadd, 1) := by decide +kernel
theorem dX13_traced_206 : decode cX13_traced 206 = .ok (.iastore, 1) := by decide +kernel
theorem dX13_traced_207 : decode cX13_traced 207 = .ok (.aload_n 0, 1) := by decide +kernel
theorem dX13_traced_208 : decode cX13_traced 208 = .ok (.dup, 1) := by decide +kernel
theorem dX13_traced_209 : decode cX13_traced 209 = .ok (.getfield 410, 3) := by decide +kernel
theorem dX13_traced_212 : decode cX13_traced 212 = .ok (.iconst 1, 1) := by decide +kernel
theorem dX13_traced_213 : decode cX13_traced 213 = .ok (.iadd, 1) := by decide +kernel
theorem dX13_traced_214 : decode cX13_traced 214 = .ok (.putfield 410, 3) := by decide +kernel
theorem dX13_traced_217 : decode cX13_traced 217 = .ok (.iinc 3 1, 3) := by decide +kernel
theorem dX13_traced_220 : decode cX13_traced 220 = .ok (.goto (-196), 3) := by decide +kernel
theorem dX13_traced_223 : decode cX13_traced 223 = .ok (.aload_n 0, 1) := by decide +kernel
theorem dX13_traced_224 : decode cX13_traced 224 = .ok (.getfield 87, 3) := by decide +kernel
theorem dX13_traced_227 : decode cX13_traced 227 = .ok (.iload_n 2, 1) := by decide +kernel
theorem dX13_traced_228 : decode cX13_traced 228 = .ok (.iaload, 1) := by decide +kernel
theorem dX13_traced_229 : decode cX13_traced 229 = .ok (.istore_n 2, 1) := by decide +kernel
theorem dX13_traced_230 : decode cX13_traced 230 = .ok (.goto (-218), 3) := by decide +kernel
theorem dX13_traced_233 : decode cX13_traced 233 = .ok (.aload_n 0, 1) := by decide +kernel
theorem dX13_traced_234 : decode cX13_traced 234 = .ok (.getfield 410, 3) := by decide +kernel
theorem dX13_traced_237 : decode cX13_traced 237 = .ok (.ifCond .le 7, 3) := by decide +kernel
theorem dX13_traced_240 : decode cX13_traced 240 = .ok (.iconst 1, 1) := by decide +kernel
theorem dX13_traced_241 : decode cX13_traced 241 = .ok (.goto 4, 3) := by decide +kernel
theorem dX13_traced_244 : decode cX13_traced 244 = .ok (.iconst 0, 1) := by decide +kernel
theorem dX13_traced_245 : decode cX13_traced 245 = .ok (.ireturn, 1) := by decide +kernel
set_option maxRecDepth 4000 in
theorem c_traced (γ : LC) (μ : MU) (w : Mm) (k : Int) (PL : List Int) (N : Int) (hk : 0 ≤ k ∧ k < 640) (hC : CHL 640 w (w 221 0 k) PL) (hT : bTc N w) (hN : 10000 ≤ N ∧ N + 5000 * (nodeW w PL).length ≤ 900000000) : CMi γ μ 1 mX13_traced [.int (I k)] w (fun r w' => r = (m_trL μ (nodeW w PL) (up w 137 μ.1 0 0)).1 ∧ w' = (m_trL μ (nodeW w PL) (up w 137 μ.1 0 0)).2) := by
  refine CMi_of rfl (by simp [rv_cat, Value.category]) rfl ?_
  rintro κ hO hF rfl hR
  have hD := hF.dp
  show X κ 0 0 w 0 [some (rv μ.1), some (.int (I k)), none, none, none, none, none, none] []
  refine X_aload_n 1 hO dX13_traced_0 rfl rfl ?_
  refine X_iconst 2 hO dX13_traced_1 rfl ?_
  refine pa_410 5 hO hR dX13_traced_2 rfl (by omega) (fun hR => ?_)
  refine X_aload_n 6 hO dX13_traced_5 rfl rfl ?_
  refine ga_81 9 hO hR dX13_traced_6 rfl ?_
  refine X_iload_n 10 hO dX13_traced_9 rfl rfl ?_
  refine ma_ld (L := 640) (c := 221) 11 hO hR rfl rfl rfl dX13_traced_10 rfl (by omega) (by omega) (fun hi_10 => ?_)
  try simp (disch := decide) only [up_k, up_s, mvN_at] at hi_10 ⊢
  refine X_istore_n 12 hO dX13_traced_11 rfl rfl ?_
  have LP12 : ∀ (n : Nat) (ps : List Int) (p N0 : Int) (W : Mm), ps.length < n → (CHL 640 w p ps) → (FRt w W) → (0 ≤ W 137 μ.1 0 ∧ W 137 μ.1 0 ≤ 8) → (bTc N0 W) → (10000 ≤ N0 ∧ N0 + 5000 * (nodeW w ps).length ≤ 900000000) → (m_trL μ (nodeW w PL) (up w 137 μ.1 0 0) = m_trL μ (nodeW w ps) W) → RM (W) μ → X κ 0 0 (W) 12 [some (rv μ.1), some (.int (I k)), some (.int (I p)), none, none, none, none, none] [] := by
    intro n
    induction n with
    | zero => intro ps p N0 W hm; exact absurd hm (Nat.not_lt_zero _)
    | succ n iho =>
      intro ps p N0 W hm hCp hS h137 hTW hN0 hEq hR
      have hpr : -1 ≤ p ∧ p < 640 := by
        cases ps with
        | nil => have h1 : p = -1 := hCp; omega
        | cons q qs => have h1 := hCp.1; have h2 := hCp.2.1; omega
      refine X_iload_n 13 hO dX13_traced_12 rfl rfl ?_
      refine X_iconst 14 hO dX13_traced_13 rfl ?_
      refine X_icmp_eq 17 233 hO dX13_traced_14 rfl rfl (by omega) (by omega) (fun hc_14 => ?_) (fun hc_14 => ?_)
      ·
        have hps : ps = [] := by
          cases ps with
          | nil => rfl
          | cons q qs => exfalso; have := hCp.1; have := hCp.2.1; omega
        subst hps
        refine X_aload_n 234 hO dX13_traced_233 rfl rfl ?_
        refine ga_410 237 hO hR dX13_traced_234 rfl (fun hi_234 => ?_)
        try simp (disch := decide) only [up_k, up_s, mvN_at] at hi_234 ⊢
        refine X_if_le 240 244 hO dX13_traced_237 rfl rfl (by omega) (fun hc_237 => ?_) (fun hc_237 => ?_)
        ·
          refine X_iconst 245 hO dX13_traced_244 rfl ?_
          exact XM_iret hO hF hR rfl (by first | exact Or.inl rfl | exact Or.inr ⟨rfl, bi_01 _⟩ | exact Or.inr ⟨rfl, by omega⟩) dX13_traced_245 (by omega) ⟨by rw [hEq]; show _ = bi (W 137 μ.1 0 > 0); unfold bi; first | rw [if_pos (by omega)] | rw [if_neg (by omega)], by rw [hEq]; rfl⟩
        ·
          refine X_iconst 241 hO dX13_traced_240 rfl ?_
          refine X_goto hO dX13_traced_241 (tgt := 245) rfl ?_
          exact XM_iret hO hF hR rfl (by first | exact Or.inl rfl | exact Or.inr ⟨rfl, bi_01 _⟩ | exact Or.inr ⟨rfl, by omega⟩) dX13_traced_245 (by omega) ⟨by rw [hEq]; show _ = bi (W 137 μ.1 0 > 0); unfold bi; first | rw [if_pos (by omega)] | rw [if_neg (by omega)], by rw [hEq]; rfl⟩
      ·
        cases ps with
        | nil => exact absurd hCp (by assumption)
        | cons q qs =>
        obtain ⟨hC1, hC2, hC3, hC4, hC5, hC6⟩ := hCp
        subst hC1
        have hmo2 : qs.length < n := by simp only [List.length_cons] at hm; omega
        refine X_aload_n 18 hO dX13_traced_17 rfl rfl ?_
        refine ga_72 21 hO hR dX13_traced_18 rfl ?_
        refine X_iload_n 22 hO dX13_traced_21 rfl rfl ?_
        refine ma_ld (L := 640) (c := 218) 23 hO hR rfl rfl rfl dX13_traced_22 rfl (by omega) (by omega) (fun hi_22 => ?_)
        try simp (disch := decide) only [up_k, up_s, mvN_at] at hi_22 ⊢
        rw [hS 218 0 p (by decide) (by decide) (by decide)]
        refine X_istore_n 24 hO dX13_traced_23 rfl rfl ?_
        have LP24 : ∀ (n : Nat) (f : Nat) (i N1 : Int) (W : Mm), f < n → (w 218 0 p ≤ i ∧ i + f = w 218 0 p + w 220 0 p) → (FRt w W) → (0 ≤ W 137 μ.1 0 ∧ W 137 μ.1 0 ≤ 8) → (bTc N1 W) → (10000 ≤ N1 ∧ N1 + 5000 * (wlist w f i ++ nodeW w qs).length ≤ 900000000) → (m_trL μ (nodeW w PL) (up w 137 μ.1 0 0) = m_trL μ (wlist w f i ++ nodeW w qs) W) → RM (W) μ → X κ 0 0 (W) 24 [some (rv μ.1), some (.int (I k)), some (.int (I p)), some (.int (I i)), none, none, none, none] [] := by
          intro n
          induction n with
          | zero => intro f i N1 W hm; exact absurd hm (Nat.not_lt_zero _)
          | succ n ihm =>
            intro f i N1 W hm hi hS h137 hTW hN1 hEi hR
            refine X_iload_n 25 hO dX13_traced_24 rfl rfl ?_
            refine X_aload_n 26 hO dX13_traced_25 rfl rfl ?_
            refine ga_72 29 hO hR dX13_traced_26 rfl ?_
            refine X_iload_n 30 hO dX13_traced_29 rfl rfl ?_
            refine ma_ld (L := 640) (c := 218) 31 hO hR rfl rfl rfl dX13_traced_30 rfl (by omega) (by omega) (fun hi_30 => ?_)
            try simp (disch := decide) only [up_k, up_s, mvN_at] at hi_30 ⊢
            rw [hS 218 0 p (by decide) (by decide) (by decide)]
            refine X_aload_n 32 hO dX13_traced_31 rfl rfl ?_
            refine ga_78 35 hO hR dX13_traced_32 rfl ?_
            refine X_iload_n 36 hO dX13_traced_35 rfl rfl ?_
            refine ma_ld (L := 640) (c := 220) 37 hO hR rfl rfl rfl dX13_traced_36 rfl (by omega) (by omega) (fun hi_36 => ?_)
            try simp (disch := decide) only [up_k, up_s, mvN_at] at hi_36 ⊢
            rw [hS 220 0 p (by decide) (by decide) (by decide)]
            refine X_iadd 38 hO dX13_traced_37 rfl ?_
            refine X_icmp_ge 41 223 hO dX13_traced_38 rfl rfl (by omega) (by omega) (fun hc_38 => ?_) (fun hc_38 => ?_)
            ·
              have ef : f = 0 := by omega
              subst ef
              refine X_aload_n 224 hO dX13_traced_223 rfl rfl ?_
              refine ga_87 227 hO hR dX13_traced_224 rfl ?_
              refine X_iload_n 228 hO dX13_traced_227 rfl rfl ?_
              refine ma_ld (L := 640) (c := 223) 229 hO hR rfl rfl rfl dX13_traced_228 rfl (by omega) (by omega) (fun hi_228 => ?_)
              try simp (disch := decide) only [up_k, up_s, mvN_at] at hi_228 ⊢
              rw [hS 223 0 p (by decide) (by decide) (by decide)]
              refine X_istore_n 230 hO dX13_traced_229 rfl rfl ?_
              refine X_goto hO dX13_traced_230 (tgt := 12) rfl ?_
              exact X_wk (by simp only [lwk, lset, true_or, or_true, and_self]) (iho qs _ N1 W hmo2 hC6 hS h137 hTW hN1 hEi hR)
            ·
              cases f with
              | zero => exfalso; omega
              | succ f =>
              have hx := hC5 i hi.1 (by omega)
              have hwz : 0 ≤ wsz (w 212 0 i) ∧ wsz (w 212 0 i) ≤ 5000 := by unfold wsz; split <;> omega
              rw [show wlist w (f + 1) i ++ nodeW w qs = w 212 0 i :: (wlist w f (i + 1) ++ nodeW w qs) by simp only [wlist, List.cons_append]] at hN1 hEi
              simp only [List.length_cons] at hN1
              simp only [m_trL] at hEi
              refine X_aload_n 42 hO dX13_traced_41 rfl rfl ?_
              refine ga_46 45 hO hR dX13_traced_42 rfl ?_
              refine X_iload_n 46 hO dX13_traced_45 rfl rfl ?_
              refine ma_ld (L := 30000) (c := 212) 47 hO hR rfl rfl rfl dX13_traced_46 rfl (by omega) (by omega) (fun hi_46 => ?_)
              try simp (disch := decide) only [up_k, up_s, mvN_at] at hi_46 ⊢
              rw [hS 212 0 i (by decide) (by decide) (by decide)]
              refine X_bipush 49 hO dX13_traced_47 rfl (by decide) ?_
              refine X_iand 50 hO dX13_traced_49 rfl (I_and 7 3 8 rfl (by decide) (by omega) (by omega)) ?_
              refine X_istore 52 hO dX13_traced_50 rfl rfl ?_
              refine X_aload_n 53 hO dX13_traced_52 rfl rfl ?_
              refine ga_46 56 hO hR dX13_traced_53 rfl ?_
              refine X_iload_n 57 hO dX13_traced_56 rfl rfl ?_
              refine ma_ld (L := 30000) (c := 212) 58 hO hR rfl rfl rfl dX13_traced_57 rfl (by omega) (by omega) (fun hi_57 => ?_)
              try simp (disch := decide) only [up_k, up_s, mvN_at] at hi_57 ⊢
              rw [hS 212 0 i (by decide) (by decide) (by decide)]
              refine X_iconst 59 hO dX13_traced_58 rfl ?_
              refine X_ishr 60 hO dX13_traced_59 rfl (I_shr _ 3 8 rfl (by decide) (by omega) (by omega)) ?_
              refine X_sipush 63 hO dX13_traced_60 rfl (by decide) ?_
              refine X_iand 64 hO dX13_traced_63 rfl (I_and 511 9 512 rfl (by decide) (by omega) (by omega)) ?_
              refine X_istore 66 hO dX13_traced_64 rfl rfl ?_
              have JP85 : ∀ (z : Int), (z = wsz (w 212 0 i)) → X κ 0 0 (W) 85 [some (rv μ.1), some (.int (I k)), some (.int (I p)), some (.int (I i)), some (.int (I (w 212 0 i % 8))), some (.int (I (w 212 0 i / 8 % 512))), none, none] [.int (I z)] := by
                intro z hz
                refine X_istore 87 hO dX13_traced_85 rfl rfl ?_
                subst hz
                refine X_iload 89 hO dX13_traced_87 rfl rfl ?_
                refine X_iconst 90 hO dX13_traced_89 rfl ?_
                refine X_icmp_gt 93 217 hO dX13_traced_90 rfl rfl (by omega) (by omega) (fun hc_90 => ?_) (fun hc_90 => ?_)
                ·
                  rw [if_neg (by omega)] at hEi
                  have hS2 := hS
                  have h1372 := h137
                  have hTW2 := hTW.mono (show _ ≤ N1 + 5000 by omega)
                  have hEi2 := hEi
                  refine X_iinc 220 hO dX13_traced_217 rfl rfl ?_
                  refine X_goto hO dX13_traced_220 (tgt := 24) rfl ?_
                  exact X_wk (by simp only [lwk, lset, true_or, or_true, and_self]) (ihm f (i + 1) (N1 + 5000) _ (by omega) (by omega) hS2 h1372 hTW2 (by omega) hEi2 hR)
                ·
                  rw [if_pos (by omega)] at hEi
                  refine X_aload_n 94 hO dX13_traced_93 rfl rfl ?_
                  refine ga_410 97 hO hR dX13_traced_94 rfl (fun hi_94 => ?_)
                  try simp (disch := decide) only [up_k, up_s, mvN_at] at hi_94 ⊢
                  refine X_bipush 99 hO dX13_traced_97 rfl (by decide) ?_
                  refine X_icmp_ne 102 104 hO dX13_traced_99 rfl rfl (by omega) (by omega) (fun hc_99 => ?_) (fun hc_99 => ?_)
                  ·
                    rw [if_neg (by omega)] at hEi
                    refine X_iconst 105 hO dX13_traced_104 rfl ?_
                    refine X_istore 107 hO dX13_traced_105 rfl rfl ?_
                    have LP107 : ∀ (n : Nat) (j : Int), (W 137 μ.1 0 - j).toNat < n → (0 ≤ j ∧ j ≤ W 137 μ.1 0) → RM ((m_mvN μ (w 212 0 i % 8) (w 212 0 i / 8 % 512) (wsz (w 212 0 i)) (W 137 μ.1 0) j.toNat W)) μ → X κ 0 0 ((m_mvN μ (w 212 0 i % 8) (w 212 0 i / 8 % 512) (wsz (w 212 0 i)) (W 137 μ.1 0) j.toNat W)) 107 [some (rv μ.1), some (.int (I k)), some (.int (I p)), some (.int (I i)), some (.int (I (w 212 0 i % 8))), some (.int (I (w 212 0 i / 8 % 512))), some (.int (I (wsz (w 212 0 i)))), some (.int (I j))] [] := by
                      intro n
                      induction n with
                      | zero => intro j hm; exact absurd hm (Nat.not_lt_zero _)
                      | succ n ih =>
                        intro j hm hj0 hR
                        have hTj := hTW.mvN (μ := μ) (d := w 212 0 i % 8) (q := w 212 0 i / 8 % 512) (k := wsz (w 212 0 i)) (y := W 137 μ.1 0) (by omega) hwz j.toNat (by omega)
                        refine X_iload 109 hO dX13_traced_107 rfl rfl ?_
                        refine X_aload_n 110 hO dX13_traced_109 rfl rfl ?_
                        refine ga_410 113 hO hR dX13_traced_110 rfl (fun hi_110 => ?_)
                        try simp (disch := decide) only [up_k, up_s, mvN_at] at hi_110 ⊢
                        refine X_icmp_ge 116 138 hO dX13_traced_113 rfl rfl (by omega) (by omega) (fun hc_113 => ?_) (fun hc_113 => ?_)
                        ·
                          have ej : j = W 137 μ.1 0 := by omega
                          subst ej
                          have hA : FRt w (m_trA μ (w 212 0 i) W) := hS.mvN
                          have hTA : bTc (N1 + 5000) (m_trA μ (w 212 0 i) W) := hTj.mono (by omega)
                          have hS2 := hA.trB (μ := μ) (x := w 212 0 i) (n := W 137 μ.1 0)
                          have h1372 : 0 ≤ (m_trB μ (w 212 0 i) (W 137 μ.1 0) (m_trA μ (w 212 0 i) W)) 137 μ.1 0 ∧ (m_trB μ (w 212 0 i) (W 137 μ.1 0) (m_trA μ (w 212 0 i) W)) 137 μ.1 0 ≤ 8 := by rw [trB_137]; omega
                          have hTW2 := hTA.trB (μ := μ) (x := w 212 0 i) (n := W 137 μ.1 0) hx (by omega)
                          have hEi2 := hEi
                          refine X_aload_n 139 hO dX13_traced_138 rfl rfl ?_
                          refine ga_153 142 hO hR dX13_traced_139 rfl ?_
                          refine X_aload_n 143 hO dX13_traced_142 rfl rfl ?_
                          refine ga_410 146 hO hR dX13_traced_143 rfl (fun hi_143 => ?_)
                          try simp (disch := decide) only [up_k, up_s, mvN_at] at hi_143 ⊢
                          refine X_iload 148 hO dX13_traced_146 rfl rfl ?_
                          refine ma_st (L := 8) (c := 241) 149 hO hR rfl rfl rfl dX13_traced_148 rfl (by omega) (by omega) (by omega) (fun hR => ?_)
                          refine X_aload_n 150 hO dX13_traced_149 rfl rfl ?_
                          refine ga_156 153 hO hR dX13_traced_150 rfl ?_
                          refine X_aload_n 154 hO dX13_traced_153 rfl rfl ?_
                          refine ga_410 157 hO hR dX13_traced_154 rfl (fun hi_154 => ?_)
                          try simp (disch := decide) only [up_k, up_s, mvN_at] at hi_154 ⊢
                          refine X_iload 159 hO dX13_traced_157 rfl rfl ?_
                          refine ma_st (L := 8) (c := 242) 160 hO hR rfl rfl rfl dX13_traced_159 rfl (by omega) (by omega) (by omega) (fun hR => ?_)
                          refine X_aload_n 161 hO dX13_traced_160 rfl rfl ?_
                          refine ga_159 164 hO hR dX13_traced_161 rfl ?_
                          refine X_aload_n 165 hO dX13_traced_164 rfl rfl ?_
                          refine ga_410 168 hO hR dX13_traced_165 rfl (fun hi_165 => ?_)
                          try simp (disch := decide) only [up_k, up_s, mvN_at] at hi_165 ⊢
                          refine X_iload 170 hO dX13_traced_168 rfl rfl ?_
                          refine ma_st (L := 8) (c := 243) 171 hO hR rfl rfl rfl dX13_traced_170 rfl (by omega) (by omega) (by omega) (fun hR => ?_)
                          refine X_aload_n 172 hO dX13_traced_171 rfl rfl ?_
                          refine ga_162 175 hO hR dX13_traced_172 rfl ?_
                          refine X_aload_n 176 hO dX13_traced_175 rfl rfl ?_
                          refine ga_410 179 hO hR dX13_traced_176 rfl (fun hi_176 => ?_)
                          try simp (disch := decide) only [up_k, up_s, mvN_at] at hi_176 ⊢
                          refine X_iload 181 hO dX13_traced_179 rfl rfl ?_
                          refine ma_st (L := 8) (c := 244) 182 hO hR rfl rfl rfl dX13_traced_181 rfl (by omega) (by omega) (by omega) (fun hR => ?_)
                          refine X_aload_n 183 hO dX13_traced_182 rfl rfl ?_
                          refine ga_165 186 hO hR dX13_traced_183 rfl ?_
                          refine X_aload_n 187 hO dX13_traced_186 rfl rfl ?_
                          refine ga_410 190 hO hR dX13_traced_187 rfl (fun hi_187 => ?_)
                          try simp (disch := decide) only [up_k, up_s, mvN_at] at hi_187 ⊢
                          refine X_iload 192 hO dX13_traced_190 rfl rfl ?_
                          refine X_iconst 193 hO dX13_traced_192 rfl ?_
                          refine X_icmp_ne 196 201 hO dX13_traced_193 rfl rfl (by omega) (by omega) (fun hc_193 => ?_) (fun hc_193 => ?_)
                          ·
                            refine X_iload 203 hO dX13_traced_201 rfl rfl ?_
                            refine X_iload 205 hO dX13_traced_203 rfl rfl ?_
                            refine X_iadd 206 hO dX13_traced_205 rfl ?_
                            refine ma_st (L := 8) (c := 245) 207 hO hR rfl rfl rfl dX13_traced_206 rfl (by omega) (by omega) (by omega) (fun hR => ?_)
                            refine X_aload_n 208 hO dX13_traced_207 rfl rfl ?_
                            refine X_dup 209 hO dX13_traced_208 rfl (by first | rfl | exact rv_cat _) ?_
                            refine ga_410 212 hO hR dX13_traced_209 rfl (fun hi_209 => ?_)
                            try simp (disch := decide) only [up_k, up_s, mvN_at] at hi_209 ⊢
                            refine X_iconst 213 hO dX13_traced_212 rfl ?_
                            refine X_iadd 214 hO dX13_traced_213 rfl ?_
                            refine pa_410 217 hO hR dX13_traced_214 rfl (by omega) (fun hR => ?_)
                            refine X_eqR hR (w2 := (m_trB μ (w 212 0 i) (W 137 μ.1 0) (m_trA μ (w 212 0 i) W))) (by unfold m_trB m_trA; first | rw [if_pos (by omega)] | rw [if_neg (by omega)]) (fun hR => ?_)
                            refine X_iinc 220 hO dX13_traced_217 rfl rfl ?_
                            refine X_goto hO dX13_traced_220 (tgt := 24) rfl ?_
                            exact X_wk (by simp only [lwk, lset, true_or, or_true, and_self]) (ihm f (i + 1) (N1 + 5000) _ (by omega) (by omega) hS2 h1372 hTW2 (by omega) hEi2 hR)
                          ·
                            refine X_iload 198 hO dX13_traced_196 rfl rfl ?_
                            refine X_goto hO dX13_traced_198 (tgt := 206) rfl ?_
                            refine ma_st (L := 8) (c := 245) 207 hO hR rfl rfl rfl dX13_traced_206 rfl (by omega) (by omega) (by omega) (fun hR => ?_)
                            refine X_aload_n 208 hO dX13_traced_207 rfl rfl ?_
                            refine X_dup 209 hO dX13_traced_208 rfl (by first | rfl | exact rv_cat _) ?_
                            refine ga_410 212 hO hR dX13_traced_209 rfl (fun hi_209 => ?_)
                            try simp (disch := decide) only [up_k, up_s, mvN_at] at hi_209 ⊢
                            refine X_iconst 213 hO dX13_traced_212 rfl ?_
                            refine X_iadd 214 hO dX13_traced_213 rfl ?_
                            refine pa_410 217 hO hR dX13_traced_214 rfl (by omega) (fun hR => ?_)
                            refine X_eqR hR (w2 := (m_trB μ (w 212 0 i) (W 137 μ.1 0) (m_trA μ (w 212 0 i) W))) (by unfold m_trB m_trA; first | rw [if_pos (by omega)] | rw [if_neg (by omega)]) (fun hR => ?_)
                            refine X_iinc 220 hO dX13_traced_217 rfl rfl ?_
                            refine X_goto hO dX13_traced_220 (tgt := 24) rfl ?_
                            exact X_wk (by simp only [lwk, lset, true_or, or_true, and_self]) (ihm f (i + 1) (N1 + 5000) _ (by omega) (by omega) hS2 h1372 hTW2 (by omega) hEi2 hR)
                        ·
                          refine X_aload_n 117 hO dX13_traced_116 rfl rfl ?_
                          refine X_iload 119 hO dX13_traced_117 rfl rfl ?_
                          refine X_iload 121 hO dX13_traced_119 rfl rfl ?_
                          refine X_iload 123 hO dX13_traced_121 rfl rfl ?_
                          refine X_iload 125 hO dX13_traced_123 rfl rfl ?_
                          refine X_aload_n 126 hO dX13_traced_125 rfl rfl ?_
                          refine ga_410 129 hO hR dX13_traced_126 rfl (fun hi_126 => ?_)
                          try simp (disch := decide) only [up_k, up_s, mvN_at] at hi_126 ⊢
                          refine XM_callVv 132 hO hD hR lX13_413 [_, _, _, _, _] rfl dX13_traced_129 rfl (c_moves _ _ _ _ _ _ _ _ (by omega) (by omega) (by omega) (by omega) (by omega) (by have := hTj j (by omega) (by omega); omega) (by have := hTj j (by omega) (by omega); omega)) (by decide) (by simp only [List.map_cons, List.map_nil, rv_cat]; exact Nat.le_of_ble_eq_true rfl) (fun w_129 hp_129 hR => ?_)
                          subst hp_129
                          refine X_iinc 135 hO dX13_traced_132 rfl rfl ?_
                          refine X_goto hO dX13_traced_135 (tgt := 107) rfl ?_
                          exact X_eqR hR (mvN_s (by omega) rfl) (fun hR => ih (j + 1) (by omega) (by omega) hR)
                    exact X_eqR hR (w2 := (m_mvN μ (w 212 0 i % 8) (w 212 0 i / 8 % 512) (wsz (w 212 0 i)) (W 137 μ.1 0) (0 : Int).toNat W)) rfl (fun hR => LP107 _ 0 (Nat.lt_succ_self _) (by omega) hR)
                  ·
                    rw [if_pos (by omega)] at hEi
                    refine X_iconst 103 hO dX13_traced_102 rfl ?_
                    exact XM_iret hO hF hR rfl (by first | exact Or.inl rfl | exact Or.inr ⟨rfl, bi_01 _⟩ | exact Or.inr ⟨rfl, by omega⟩) dX13_traced_103 (by omega) ⟨by rw [hEi], by rw [hEi]⟩
              refine X_iload 68 hO dX13_traced_66 rfl rfl ?_
              refine X_iconst 69 hO dX13_traced_68 rfl ?_
              refine X_icmp_ne 72 76 hO dX13_traced_69 rfl rfl (by omega) (by omega) (fun hc_69 => ?_) (fun hc_69 => ?_)
              ·
                refine X_aload_n 77 hO dX13_traced_76 rfl rfl ?_
                refine ga_46 80 hO hR dX13_traced_77 rfl ?_
                refine X_iload_n 81 hO dX13_traced_80 rfl rfl ?_
                refine ma_ld (L := 30000) (c := 212) 82 hO hR rfl rfl rfl dX13_traced_81 rfl (by omega) (by omega) (fun hi_81 => ?_)
                try simp (disch := decide) only [up_k, up_s, mvN_at] at hi_81 ⊢
                rw [hS 212 0 i (by decide) (by decide) (by decide)]
                refine X_bipush 84 hO dX13_traced_82 rfl (by decide) ?_
                refine X_ishr 85 hO dX13_traced_84 rfl (I_shr _ 12 4096 rfl (by decide) (by omega) (by omega)) ?_
                exact JP85 _ (by unfold wsz; first | rw [if_pos (by omega)] | rw [if_neg (by omega)])
              ·
                refine X_iconst 73 hO dX13_traced_72 rfl ?_
                refine X_goto hO dX13_traced_73 (tgt := 85) rfl ?_
                exact JP85 _ (by unfold wsz; first | rw [if_pos (by omega)] | rw [if_neg (by omega)])
        exact LP24 _ (w 220 0 p).toNat _ N0 W (Nat.lt_succ_self _) (by omega) hS h137 hTW hN0 hEq hR
  exact X_wk (by simp only [lwk, lset, true_or, or_true, and_self]) (LP12 _ PL _ N (up w 137 μ.1 0 0) (Nat.lt_succ_self _) hC (fun c a i h1 h2 h3 => up_k _ h1 _ _ _ _ _) (by rw [up_s]; decide) (fun t a b => by rw [up_k _ (by decide), up_k _ (by decide)]; exact hT t a b) hN rfl hR)
