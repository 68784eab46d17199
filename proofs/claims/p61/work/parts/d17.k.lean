abbrev lsT (b : Nat) (f g l rc T nn v q hd : Int) : List (Option Value) := [some (.ref b), some (rv f), some (.int (I g)), some (.int (I l)), some (.int (I rc)), some (.int (I 1)), some (.int (I T)), some (.int (I nn)), some (.int (I v)), some (.int (I q)), some (.int (I hd)), none, none, none]
theorem ur_ok {μ : MU} {B : Mm} {k r r1 r2 : Int} (h4 : (isN μ k B ∧ B 217 0 k = r) ∨ (isN μ r B ∧ isN μ k B ∧ B 217 0 r = k)) (p1 : (isN μ k B ∧ r1 = B 217 0 k) ∨ (¬ isN μ k B ∧ r1 = -4)) (h1 : ¬ r = r1) (p2 : (isN μ r B ∧ r2 = B 217 0 r) ∨ (¬ isN μ r B ∧ r2 = -4)) : r2 = k := by
  rcases h4 with ⟨y1, y2⟩ | ⟨y1, y2, y3⟩
  · rcases p1 with z | z
    · exact absurd (y2.symm.trans z.2.symm) h1
    · exact absurd y1 z.1
  · rcases p2 with z | z
    · exact z.2.trans y3
    · exact absurd y1 z.1
/-! THE LAW'S LOOP: its cases -/
section LSA
variable {κ : KC} {P S : Nat} {w A : Mm} {b L : Nat} {xs : Nat → Int32} {μ : MU} {f n g rc l T nn v q hd : Int}
set_option maxRecDepth 4000 in
theorem la_A (hO : Ok κ RL cL_law) (hD : Dp κ 60) (h : LG μ f n g rc w A) (hn : 0 ≤ n ∧ n ≤ 490) (hg : g = 0 ∨ g = 1) (hrc : rc = 0 ∨ rc = 1) (hv : IR v) (hq : 0 ≤ q ∧ q < 12) (kk : ∀ w' B g' rc', LG μ f (n + 2) g' rc' w' B → (g' = 0 ∨ g' = 1) → (rc' = 0 ∨ rc' = 1) → X κ P S w' 731 (lsT b f g' l rc' T nn v q hd) []) : X κ (P + 200) (S + 15000) w 137 (lsT b f g l rc T nn v q hd) [] := by
  show X κ (P + 200) (S + 15000) w 137 [some (.ref b), some (rv f), some (.int (I g)), some (.int (I l)), some (.int (I rc)), some (.int (I 1)), some (.int (I T)), some (.int (I nn)), some (.int (I v)), some (.int (I q)), some (.int (I hd)), none, none, none] []
  refine X_wi (fun hW => ?_)
  have hE := h
  have t0 : w 0 f 0 = 13 := h.t0
  have hlen := h.len
  refine X_iload 139 hO dL_law_137 rfl rfl ?_
  refine X_bipush 141 hO dL_law_139 rfl (by decide) ?_
  refine X_icmp_ge 144 148 hO dL_law_141 rfl rfl (by omega) (by omega) (fun hc_141 => ?_) (fun hc_141 => ?_)
  ·
    refine X_iload 150 hO dL_law_148 rfl rfl ?_
    refine X_iconst 151 hO dL_law_150 rfl ?_
    refine X_isub 152 hO dL_law_151 rfl ?_
    refine X_istore 154 hO dL_law_152 rfl rfl ?_
    refine X_aload_n 155 hO dL_law_154 rfl rfl ?_
    refine X_iload 157 hO dL_law_155 rfl rfl ?_
    refine X_iload 159 hO dL_law_157 rfl rfl ?_
    refine X_iconst 160 hO dL_law_159 rfl ?_
    obtain ⟨z_160, hz_160, hzr_160⟩ := I_any (I v >>> (I 3 &&& 31))
    refine X_ishr 161 hO dL_law_160 rfl (hz_160) ?_
    refine X_kWi 164 hO hD sL_edits [_, _, _] (rest := []) rfl dL_law_161 rfl (L_edits _ _ hE (by omega) (by omega) (by omega)) (by decide) (by simp [rv_cat, int_cat]) (by omega) (by omega) (fun r_161 w_161 hr_161 hp_161 => ?_)
    obtain ⟨hA_161, B_161, hE⟩ := hp_161
    obtain ⟨hA1_161, hA2_161⟩ := hA_161
    have t0_161 : w_161 0 f 0 = 13 := hE.t0
    refine X_wi (fun hW_161 => ?_)
    refine X_istore 166 hO dL_law_164 rfl rfl ?_
    refine X_iload 168 hO dL_law_166 rfl rfl ?_
    refine X_bipush 170 hO dL_law_168 rfl (by decide) ?_
    refine X_icmp_lt 173 194 hO dL_law_170 rfl rfl (by omega) (by omega) (fun hc_170 => ?_) (fun hc_170 => ?_)
    ·
      exact absurd hc_170 (by omega)
    ·
      refine X_iload 175 hO dL_law_173 rfl rfl ?_
      refine X_if_gt 178 190 hO dL_law_175 rfl rfl (by omega) (fun hc_175 => ?_) (fun hc_175 => ?_)
      ·
        refine X_iconst 191 hO dL_law_190 rfl ?_
        refine X_goto hO dL_law_191 (tgt := 195) rfl ?_
        refine X_istore 197 hO dL_law_195 rfl rfl ?_
        refine X_goto hO dL_law_197 (tgt := 731) rfl ?_
        exact X_wk (by simp only [lwk, lset, true_or, or_true, and_self]) (X_mono (by omega) (by omega) (kk _ _ _ _ (hE.mono (by omega)) (by omega) (by omega)))
      ·
        refine X_iload 180 hO dL_law_178 rfl rfl ?_
        refine X_bipush 182 hO dL_law_180 rfl (by decide) ?_
        refine X_icmp_eq 185 190 hO dL_law_182 rfl rfl (by omega) (by omega) (fun hc_182 => ?_) (fun hc_182 => ?_)
        ·
          refine X_iconst 191 hO dL_law_190 rfl ?_
          refine X_goto hO dL_law_191 (tgt := 195) rfl ?_
          refine X_istore 197 hO dL_law_195 rfl rfl ?_
          refine X_goto hO dL_law_197 (tgt := 731) rfl ?_
          exact X_wk (by simp only [lwk, lset, true_or, or_true, and_self]) (X_mono (by omega) (by omega) (kk _ _ _ _ (hE.mono (by omega)) (by omega) (by omega)))
        ·
          refine X_iload 187 hO dL_law_185 rfl rfl ?_
          refine X_if_le 190 194 hO dL_law_187 rfl rfl (by omega) (fun hc_187 => ?_) (fun hc_187 => ?_)
          ·
            exact absurd hc_187 (by omega)
          ·
            refine X_iconst 191 hO dL_law_190 rfl ?_
            refine X_goto hO dL_law_191 (tgt := 195) rfl ?_
            refine X_istore 197 hO dL_law_195 rfl rfl ?_
            refine X_goto hO dL_law_197 (tgt := 731) rfl ?_
            exact X_wk (by simp only [lwk, lset, true_or, or_true, and_self]) (X_mono (by omega) (by omega) (kk _ _ _ _ (hE.mono (by omega)) (by omega) (by omega)))
  ·
    refine X_iconst 145 hO dL_law_144 rfl ?_
    refine X_goto hO dL_law_145 (tgt := 152) rfl ?_
    refine X_istore 154 hO dL_law_152 rfl rfl ?_
    refine X_aload_n 155 hO dL_law_154 rfl rfl ?_
    refine X_iload 157 hO dL_law_155 rfl rfl ?_
    refine X_iload 159 hO dL_law_157 rfl rfl ?_
    refine X_iconst 160 hO dL_law_159 rfl ?_
    obtain ⟨z_160, hz_160, hzr_160⟩ := I_any (I v >>> (I 3 &&& 31))
    refine X_ishr 161 hO dL_law_160 rfl (hz_160) ?_
    refine X_kWi 164 hO hD sL_edits [_, _, _] (rest := []) rfl dL_law_161 rfl (L_edits _ _ hE (by omega) (by omega) (by omega)) (by decide) (by simp [rv_cat, int_cat]) (by omega) (by omega) (fun r_161 w_161 hr_161 hp_161 => ?_)
    obtain ⟨hA_161, B_161, hE⟩ := hp_161
    obtain ⟨hA1_161, hA2_161⟩ := hA_161
    have t0_161 : w_161 0 f 0 = 13 := hE.t0
    refine X_wi (fun hW_161 => ?_)
    refine X_istore 166 hO dL_law_164 rfl rfl ?_
    refine X_iload 168 hO dL_law_166 rfl rfl ?_
    refine X_bipush 170 hO dL_law_168 rfl (by decide) ?_
    refine X_icmp_lt 173 194 hO dL_law_170 rfl rfl (by omega) (by omega) (fun hc_170 => ?_) (fun hc_170 => ?_)
    ·
      exact absurd hc_170 (by omega)
    ·
      refine X_iload 175 hO dL_law_173 rfl rfl ?_
      refine X_if_gt 178 190 hO dL_law_175 rfl rfl (by omega) (fun hc_175 => ?_) (fun hc_175 => ?_)
      ·
        refine X_iconst 191 hO dL_law_190 rfl ?_
        refine X_goto hO dL_law_191 (tgt := 195) rfl ?_
        refine X_istore 197 hO dL_law_195 rfl rfl ?_
        refine X_goto hO dL_law_197 (tgt := 731) rfl ?_
        exact X_wk (by simp only [lwk, lset, true_or, or_true, and_self]) (X_mono (by omega) (by omega) (kk _ _ _ _ (hE.mono (by omega)) (by omega) (by omega)))
      ·
        refine X_iload 180 hO dL_law_178 rfl rfl ?_
        refine X_bipush 182 hO dL_law_180 rfl (by decide) ?_
        refine X_icmp_eq 185 190 hO dL_law_182 rfl rfl (by omega) (by omega) (fun hc_182 => ?_) (fun hc_182 => ?_)
        ·
          refine X_iconst 191 hO dL_law_190 rfl ?_
          refine X_goto hO dL_law_191 (tgt := 195) rfl ?_
          refine X_istore 197 hO dL_law_195 rfl rfl ?_
          refine X_goto hO dL_law_197 (tgt := 731) rfl ?_
          exact X_wk (by simp only [lwk, lset, true_or, or_true, and_self]) (X_mono (by omega) (by omega) (kk _ _ _ _ (hE.mono (by omega)) (by omega) (by omega)))
        ·
          refine X_iload 187 hO dL_law_185 rfl rfl ?_
          refine X_if_le 190 194 hO dL_law_187 rfl rfl (by omega) (fun hc_187 => ?_) (fun hc_187 => ?_)
          ·
            exact absurd hc_187 (by omega)
          ·
            refine X_iconst 191 hO dL_law_190 rfl ?_
            refine X_goto hO dL_law_191 (tgt := 195) rfl ?_
            refine X_istore 197 hO dL_law_195 rfl rfl ?_
            refine X_goto hO dL_law_197 (tgt := 731) rfl ?_
            exact X_wk (by simp only [lwk, lset, true_or, or_true, and_self]) (X_mono (by omega) (by omega) (kk _ _ _ _ (hE.mono (by omega)) (by omega) (by omega)))
set_option maxRecDepth 4000 in
theorem la_B (hO : Ok κ RL cL_law) (hD : Dp κ 60) (h : LG μ f n g rc w A) (hn : 0 ≤ n ∧ n ≤ 490) (hg : g = 0 ∨ g = 1) (hrc : rc = 0 ∨ rc = 1) (hv : IR v) (hq : 12 ≤ q ∧ q < 19) (kk : ∀ w' B g' rc', LG μ f (n + 2) g' rc' w' B → (g' = 0 ∨ g' = 1) → (rc' = 0 ∨ rc' = 1) → X κ P S w' 731 (lsT b f g' l rc' T nn v q hd) []) : X κ (P + 200) (S + 15000) w 207 (lsT b f g l rc T nn v q hd) [] := by
  show X κ (P + 200) (S + 15000) w 207 [some (.ref b), some (rv f), some (.int (I g)), some (.int (I l)), some (.int (I rc)), some (.int (I 1)), some (.int (I T)), some (.int (I nn)), some (.int (I v)), some (.int (I q)), some (.int (I hd)), none, none, none] []
  refine X_wi (fun hW => ?_)
  have hE := h
  have t0 : w 0 f 0 = 13 := h.t0
  have hlen := h.len
  refine X_aload_n 208 hO dL_law_207 rfl rfl ?_
  refine X_iload 210 hO dL_law_208 rfl rfl ?_
  refine X_bipush 212 hO dL_law_210 rfl (by decide) ?_
  refine X_isub 213 hO dL_law_212 rfl ?_
  refine X_iload 215 hO dL_law_213 rfl rfl ?_
  refine X_iconst 216 hO dL_law_215 rfl ?_
  obtain ⟨z_216, hz_216, hzr_216⟩ := I_any (I v >>> (I 3 &&& 31))
  refine X_ishr 217 hO dL_law_216 rfl (hz_216) ?_
  refine X_kWi 220 hO hD sL_places [_, _, _] (rest := []) rfl dL_law_217 rfl (L_places _ _ hE (by omega) (by omega) (by omega)) (by decide) (by simp [rv_cat, int_cat]) (by omega) (by omega) (fun r_217 w_217 hr_217 hp_217 => ?_)
  obtain ⟨hA_217, B_217, hE⟩ := hp_217
  have t0_217 : w_217 0 f 0 = 13 := hE.t0
  refine X_wi (fun hW_217 => ?_)
  refine X_istore 222 hO dL_law_220 rfl rfl ?_
  refine X_iload 224 hO dL_law_222 rfl rfl ?_
  refine X_bipush 226 hO dL_law_224 rfl (by decide) ?_
  refine X_icmp_lt 229 233 hO dL_law_226 rfl rfl (by omega) (by omega) (fun hc_226 => ?_) (fun hc_226 => ?_)
  ·
    exact absurd hc_226 (by omega)
  ·
    refine X_iconst 230 hO dL_law_229 rfl ?_
    refine X_goto hO dL_law_230 (tgt := 234) rfl ?_
    refine X_istore 236 hO dL_law_234 rfl rfl ?_
    refine X_goto hO dL_law_236 (tgt := 731) rfl ?_
    exact X_wk (by simp only [lwk, lset, true_or, or_true, and_self]) (X_mono (by omega) (by omega) (kk _ _ _ _ (hE.mono (by omega)) (by omega) (by omega)))
set_option maxRecDepth 4000 in
theorem la_C (hO : Ok κ RL cL_law) (hD : Dp κ 60) (h : LG μ f n g rc w A) (hn : 0 ≤ n ∧ n ≤ 490) (hg : g = 0 ∨ g = 1) (hrc : rc = 0 ∨ rc = 1) (hv : IR v) (hh : hd = A 201 0 0) (kk : ∀ w' B g' rc', LG μ f (n + 2) g' rc' w' B → (g' = 0 ∨ g' = 1) → (rc' = 0 ∨ rc' = 1) → X κ P S w' 731 (lsT b f g' l rc' T nn v q hd) []) : X κ (P + 200) (S + 15000) w 246 (lsT b f g l rc T nn v q hd) [] := by
  show X κ (P + 200) (S + 15000) w 246 [some (.ref b), some (rv f), some (.int (I g)), some (.int (I l)), some (.int (I rc)), some (.int (I 1)), some (.int (I T)), some (.int (I nn)), some (.int (I v)), some (.int (I q)), some (.int (I hd)), none, none, none] []
  refine X_wi (fun hW => ?_)
  have hE := h
  have t0 : w 0 f 0 = 13 := h.t0
  have hlen := h.len
  refine X_iload_n 247 hO dL_law_246 rfl rfl ?_
  refine X_if_eq 250 255 hO dL_law_247 rfl rfl (by omega) (fun hc_247 => ?_) (fun hc_247 => ?_)
  ·
    refine X_aload_n 256 hO dL_law_255 rfl rfl ?_
    refine X_iload 258 hO dL_law_256 rfl rfl ?_
    refine X_iconst 259 hO dL_law_258 rfl ?_
    obtain ⟨z_259, hz_259, hzr_259⟩ := I_any (I v >>> (I 3 &&& 31))
    refine X_ishr 260 hO dL_law_259 rfl (hz_259) ?_
    refine X_iload 262 hO dL_law_260 rfl rfl ?_
    refine X_iconst 263 hO dL_law_262 rfl ?_
    refine X_iadd 264 hO dL_law_263 rfl ?_
    refine X_kSi 267 hO hD lL_9 [_, _] rfl dL_law_264 rfl (L_low _ _ _ _ (by omega) (by omega)) (by decide) (by simp [rv_cat, int_cat]) (by first | decide | exact Nat.zero_le _ | omega) (by first | decide | exact Nat.zero_le _ | omega) (fun r_264 w_264 hr_264 hp_264 => ?_) (fun E w_ hx_ => hx_.elim)
    obtain ⟨hl_264, e_264⟩ := hp_264
    subst w_264
    refine X_iload 269 hO dL_law_267 rfl rfl ?_
    refine X_kWi 272 hO hD sL_undoIn [_, _, _] (rest := []) rfl dL_law_269 rfl (L_undoIn _ _ hE (by omega) (by omega) (by omega) (by unfold isR; omega)) (by decide) (by simp [rv_cat, int_cat]) (by omega) (by omega) (fun r_269 w_269 hr_269 hp_269 => ?_)
    obtain ⟨B_269, hE, hA_269⟩ := hp_269
    have t0_269 : w_269 0 f 0 = 13 := hE.t0
    refine X_wi (fun hW_269 => ?_)
    refine X_istore 274 hO dL_law_272 rfl rfl ?_
    refine X_iload 276 hO dL_law_274 rfl rfl ?_
    refine X_bipush 278 hO dL_law_276 rfl (by decide) ?_
    refine X_icmp_eq 281 308 hO dL_law_278 rfl rfl (by omega) (by omega) (fun hc_278 => ?_) (fun hc_278 => ?_)
    ·
      refine X_iconst 309 hO dL_law_308 rfl ?_
      refine X_goto hO dL_law_309 (tgt := 313) rfl ?_
      refine X_istore 315 hO dL_law_313 rfl rfl ?_
      refine X_goto hO dL_law_315 (tgt := 731) rfl ?_
      exact X_wk (by simp only [lwk, lset, true_or, or_true, and_self]) (X_mono (by omega) (by omega) (kk _ _ _ _ (hE.mono (by omega)) (by omega) (by omega)))
    ·
      obtain ⟨hA3, hA4⟩ := hA_269.resolve_left hc_278
      have hN : isN μ r_269 B_269 := by rw [hA4]; exact hE.isn
      have hP0 := z_par hE (by omega) hN (by omega)
      refine X_iload 283 hO dL_law_281 rfl rfl ?_
      refine X_aload_n 284 hO dL_law_283 rfl rfl ?_
      refine X_kVi (t := 13) 287 hO hD lL_111 rfl (by decide) [] rfl dL_law_284 rfl (by first | assumption | omega | (simp (disch := first | decide | assumption | omega) only [up_k, up_s, up_a, up_i, flA_k, flA_a, newO_o, newA_o]; first | assumption | omega)) (z_now hE) (by decide) (by simp [rv_cat, int_cat]) (by first | decide | exact Nat.zero_le _ | omega) (by first | decide | exact Nat.zero_le _ | omega) (fun r_284 w_284 hr_284 hp_284 => ?_) (fun E w_ hx_ => hx_.elim)
      obtain ⟨he_284, e_284⟩ := hp_284
      subst w_284
      refine X_icmp_ne 290 312 hO dL_law_287 rfl rfl (by omega) (by omega) (fun hc_287 => ?_) (fun hc_287 => ?_)
      ·
        exact absurd hc_287 (by omega)
      ·
        refine X_aload_n 291 hO dL_law_290 rfl rfl ?_
        refine X_iload 293 hO dL_law_291 rfl rfl ?_
        refine X_kWi 296 hO hD sL_parent [_, _] (rest := []) rfl dL_law_293 rfl (L_parent _ hE (by omega) (by omega)) (by decide) (by simp [rv_cat, int_cat]) (by omega) (by omega) (fun r_293 w_293 hr_293 hp_293 => ?_)
        obtain ⟨e_293, hi_293⟩ := hp_293
        subst w_293
        refine X_if_lt 299 312 hO dL_law_296 rfl rfl (by omega) (fun hc_296 => ?_) (fun hc_296 => ?_)
        ·
          exact absurd hc_296 (by rcases hi_293 with y | y; omega; exact absurd hN y.1)
        ·
          refine X_aload_n 300 hO dL_law_299 rfl rfl ?_
          refine X_iload 302 hO dL_law_300 rfl rfl ?_
          refine X_kVi (t := 13) 305 hO hD lL_165 rfl (by decide) [_] rfl dL_law_302 rfl (by first | assumption | omega | (simp (disch := first | decide | assumption | omega) only [up_k, up_s, up_a, up_i, flA_k, flA_a, newO_o, newA_o]; first | assumption | omega)) (z_stepsOf hE (by omega) hW_269 hN (by omega)) (by decide) (by simp [rv_cat, int_cat]) (by first | decide | exact Nat.zero_le _ | omega) (by first | decide | exact Nat.zero_le _ | omega) (fun r_302 w_302 hr_302 hp_302 => ?_) (fun E w_ hx_ => hx_.elim)
          obtain ⟨he_302, e_302⟩ := hp_302
          subst w_302
          refine X_if_le 308 312 hO dL_law_305 rfl rfl (by omega) (fun hc_305 => ?_) (fun hc_305 => ?_)
          ·
            exact absurd hc_305 (by omega)
          ·
            refine X_iconst 309 hO dL_law_308 rfl ?_
            refine X_goto hO dL_law_309 (tgt := 313) rfl ?_
            refine X_istore 315 hO dL_law_313 rfl rfl ?_
            refine X_goto hO dL_law_315 (tgt := 731) rfl ?_
            exact X_wk (by simp only [lwk, lset, true_or, or_true, and_self]) (X_mono (by omega) (by omega) (kk _ _ _ _ (hE.mono (by omega)) (by omega) (by omega)))
  ·
    refine X_bipush 252 hO dL_law_250 rfl (by decide) ?_
    refine X_goto hO dL_law_252 (tgt := 272) rfl ?_
    refine X_istore 274 hO dL_law_272 rfl rfl ?_
    refine X_iload 276 hO dL_law_274 rfl rfl ?_
    refine X_bipush 278 hO dL_law_276 rfl (by decide) ?_
    refine X_icmp_eq 281 308 hO dL_law_278 rfl rfl (by omega) (by omega) (fun hc_278 => ?_) (fun hc_278 => ?_)
    ·
      refine X_iconst 309 hO dL_law_308 rfl ?_
      refine X_goto hO dL_law_309 (tgt := 313) rfl ?_
      refine X_istore 315 hO dL_law_313 rfl rfl ?_
      refine X_goto hO dL_law_315 (tgt := 731) rfl ?_
      exact X_wk (by simp only [lwk, lset, true_or, or_true, and_self]) (X_mono (by omega) (by omega) (kk _ _ _ _ (hE.mono (by omega)) (by omega) (by omega)))
    ·
      exact absurd rfl hc_278
set_option maxRecDepth 4000 in
theorem la_D (hO : Ok κ RL cL_law) (hD : Dp κ 60) (h : LG μ f n g rc w A) (hn : 0 ≤ n ∧ n ≤ 490) (hg : g = 0 ∨ g = 1) (hrc : rc = 0 ∨ rc = 1) (hv : IR v)  (kk : ∀ w' B g' rc', LG μ f (n + 2) g' rc' w' B → (g' = 0 ∨ g' = 1) → (rc' = 0 ∨ rc' = 1) → X κ P S w' 731 (lsT b f g' l rc' T nn v q hd) []) : X κ (P + 200) (S + 15000) w 325 (lsT b f g l rc T nn v q hd) [] := by
  show X κ (P + 200) (S + 15000) w 325 [some (.ref b), some (rv f), some (.int (I g)), some (.int (I l)), some (.int (I rc)), some (.int (I 1)), some (.int (I T)), some (.int (I nn)), some (.int (I v)), some (.int (I q)), some (.int (I hd)), none, none, none] []
  refine X_wi (fun hW => ?_)
  have hE := h
  have t0 : w 0 f 0 = 13 := h.t0
  have hlen := h.len
  refine X_aload_n 326 hO dL_law_325 rfl rfl ?_
  refine X_kVi (t := 13) 329 hO hD lL_111 rfl (by decide) [] rfl dL_law_326 rfl (by first | assumption | omega | (simp (disch := first | decide | assumption | omega) only [up_k, up_s, up_a, up_i, flA_k, flA_a, newO_o, newA_o]; first | assumption | omega)) (z_now hE) (by decide) (by simp [rv_cat, int_cat]) (by first | decide | exact Nat.zero_le _ | omega) (by first | decide | exact Nat.zero_le _ | omega) (fun r_326 w_326 hr_326 hp_326 => ?_) (fun E w_ hx_ => hx_.elim)
  obtain ⟨he_326, e_326⟩ := hp_326
  subst w_326
  subst r_326
  refine X_istore 331 hO dL_law_329 rfl rfl ?_
  refine X_iload_n 332 hO dL_law_331 rfl rfl ?_
  refine X_if_eq 335 340 hO dL_law_332 rfl rfl (by omega) (fun hc_332 => ?_) (fun hc_332 => ?_)
  ·
    refine X_aload_n 341 hO dL_law_340 rfl rfl ?_
    refine X_iload 343 hO dL_law_341 rfl rfl ?_
    refine X_iconst 344 hO dL_law_343 rfl ?_
    refine X_kSi 347 hO hD lL_9 [_, _] rfl dL_law_344 rfl (L_low _ _ _ _ (by omega) (by omega)) (by decide) (by simp [rv_cat, int_cat]) (by first | decide | exact Nat.zero_le _ | omega) (by first | decide | exact Nat.zero_le _ | omega) (fun r_344 w_344 hr_344 hp_344 => ?_) (fun E w_ hx_ => hx_.elim)
    obtain ⟨hl_344, e_344⟩ := hp_344
    subst w_344
    refine X_iconst 348 hO dL_law_347 rfl ?_
    refine X_kWi 351 hO hD sL_walks [_, _, _] (rest := []) rfl dL_law_348 rfl (L_walksU _ _ hE (by omega) (by omega) (by decide)) (by decide) (by simp [rv_cat, int_cat]) (by omega) (by omega) (fun r_348 w_348 hr_348 hp_348 => ?_)
    obtain ⟨B_348, hE, hA_348⟩ := hp_348
    have t0_348 : w_348 0 f 0 = 13 := hE.t0
    refine X_wi (fun hW_348 => ?_)
    refine X_istore 353 hO dL_law_351 rfl rfl ?_
    refine X_iload 355 hO dL_law_353 rfl rfl ?_
    refine X_bipush 357 hO dL_law_355 rfl (by decide) ?_
    refine X_icmp_eq 360 391 hO dL_law_357 rfl rfl (by omega) (by omega) (fun hc_357 => ?_) (fun hc_357 => ?_)
    ·
      refine X_iconst 392 hO dL_law_391 rfl ?_
      refine X_goto hO dL_law_392 (tgt := 396) rfl ?_
      refine X_istore 398 hO dL_law_396 rfl rfl ?_
      refine X_goto hO dL_law_398 (tgt := 731) rfl ?_
      exact X_wk (by simp only [lwk, lset, true_or, or_true, and_self]) (X_mono (by omega) (by omega) (kk _ _ _ _ (hE.mono (by omega)) (by omega) (by omega)))
    ·
      obtain ⟨hA3, hA4⟩ := hA_348.resolve_left hc_357
      refine X_iload 362 hO dL_law_360 rfl rfl ?_
      refine X_aload_n 363 hO dL_law_362 rfl rfl ?_
      refine X_kVi (t := 13) 366 hO hD lL_111 rfl (by decide) [] rfl dL_law_363 rfl (by first | assumption | omega | (simp (disch := first | decide | assumption | omega) only [up_k, up_s, up_a, up_i, flA_k, flA_a, newO_o, newA_o]; first | assumption | omega)) (z_now hE) (by decide) (by simp [rv_cat, int_cat]) (by first | decide | exact Nat.zero_le _ | omega) (by first | decide | exact Nat.zero_le _ | omega) (fun r_363 w_363 hr_363 hp_363 => ?_) (fun E w_ hx_ => hx_.elim)
      obtain ⟨he_363, e_363⟩ := hp_363
      subst w_363
      refine X_icmp_ne 369 395 hO dL_law_366 rfl rfl (by omega) (by omega) (fun hc_366 => ?_) (fun hc_366 => ?_)
      ·
        exact absurd hc_366 (by omega)
      ·
        refine X_iload 371 hO dL_law_369 rfl rfl ?_
        refine X_aload_n 372 hO dL_law_371 rfl rfl ?_
        refine X_iload 374 hO dL_law_372 rfl rfl ?_
        refine X_kWi 377 hO hD sL_parent [_, _] (rest := [_]) rfl dL_law_374 rfl (L_parent _ hE (by omega) (by omega)) (by decide) (by simp [rv_cat, int_cat]) (by omega) (by omega) (fun r_374 w_374 hr_374 hp_374 => ?_)
        obtain ⟨e_374, hi_374⟩ := hp_374
        subst w_374
        refine X_icmp_eq 380 391 hO dL_law_377 rfl rfl (by omega) (by omega) (fun hc_377 => ?_) (fun hc_377 => ?_)
        ·
          refine X_iconst 392 hO dL_law_391 rfl ?_
          refine X_goto hO dL_law_392 (tgt := 396) rfl ?_
          refine X_istore 398 hO dL_law_396 rfl rfl ?_
          refine X_goto hO dL_law_398 (tgt := 731) rfl ?_
          exact X_wk (by simp only [lwk, lset, true_or, or_true, and_self]) (X_mono (by omega) (by omega) (kk _ _ _ _ (hE.mono (by omega)) (by omega) (by omega)))
        ·
          refine X_aload_n 381 hO dL_law_380 rfl rfl ?_
          refine X_iload 383 hO dL_law_381 rfl rfl ?_
          refine X_kWi 386 hO hD sL_parent [_, _] (rest := []) rfl dL_law_383 rfl (L_parent _ hE (by omega) (by omega)) (by decide) (by simp [rv_cat, int_cat]) (by omega) (by omega) (fun r_383 w_383 hr_383 hp_383 => ?_)
          obtain ⟨e_383, hi_383⟩ := hp_383
          subst w_383
          refine X_iload 388 hO dL_law_386 rfl rfl ?_
          refine X_icmp_ne 391 395 hO dL_law_388 rfl rfl (by omega) (by omega) (fun hc_388 => ?_) (fun hc_388 => ?_)
          ·
            exact absurd (ur_ok hA4 hi_374 hc_377 hi_383) hc_388
          ·
            refine X_iconst 392 hO dL_law_391 rfl ?_
            refine X_goto hO dL_law_392 (tgt := 396) rfl ?_
            refine X_istore 398 hO dL_law_396 rfl rfl ?_
            refine X_goto hO dL_law_398 (tgt := 731) rfl ?_
            exact X_wk (by simp only [lwk, lset, true_or, or_true, and_self]) (X_mono (by omega) (by omega) (kk _ _ _ _ (hE.mono (by omega)) (by omega) (by omega)))
  ·
    refine X_bipush 337 hO dL_law_335 rfl (by decide) ?_
    refine X_goto hO dL_law_337 (tgt := 351) rfl ?_
    refine X_istore 353 hO dL_law_351 rfl rfl ?_
    refine X_iload 355 hO dL_law_353 rfl rfl ?_
    refine X_bipush 357 hO dL_law_355 rfl (by decide) ?_
    refine X_icmp_eq 360 391 hO dL_law_357 rfl rfl (by omega) (by omega) (fun hc_357 => ?_) (fun hc_357 => ?_)
    ·
      refine X_iconst 392 hO dL_law_391 rfl ?_
      refine X_goto hO dL_law_392 (tgt := 396) rfl ?_
      refine X_istore 398 hO dL_law_396 rfl rfl ?_
      refine X_goto hO dL_law_398 (tgt := 731) rfl ?_
      exact X_wk (by simp only [lwk, lset, true_or, or_true, and_self]) (X_mono (by omega) (by omega) (kk _ _ _ _ (hE.mono (by omega)) (by omega) (by omega)))
    ·
      exact absurd rfl hc_357
end LSA
