/-! traces: where the characters of the text steps of a change come to lie -/
abbrev mvI (a b q : Int) : Prop := q < a ∨ (q = a ∧ a < b)
def m_mvR (μ : MU) (a b q : Int) (w : Mm) : Mm := up w 138 μ.1 0 (bi (w 138 μ.1 0 ≠ 0 ∨ (a ≤ q ∧ q < b)))
def m_mvI (μ : MU) (t a b q k : Int) (w : Mm) : Mm := up (up (up w 138 μ.1 0 (bi (w 138 μ.1 0 ≠ 0 ∨ (a < q ∧ q < b) ∨ (q = a ∧ a = b)))) 244 0 t (a + if mvI a b q then k else 0)) 245 0 t (b + if mvI a b q then k else 0)
def m_mvD (μ : MU) (t a b q k y : Int) (w : Mm) : Mm := up (up (up (up w 138 μ.1 0 (bi (w 138 μ.1 0 ≠ 0 ∨ (¬ q + k ≤ a ∧ q < b)))) 244 0 t (a - if q + k ≤ a then k else 0)) 245 0 t (b - if q + k ≤ a then k else 0)) 246 0 (8 * t + if y < 0 then 0 else y) (if y < 0 then w 246 0 (8 * t) else if q + k ≤ a then 1 else 0)
def m_mov (μ : MU) (t d q k y : Int) (w : Mm) : Mm := if d = 2 then m_mvR μ (w 244 0 t) (w 245 0 t) q w else if d = 0 then m_mvI μ t (w 244 0 t) (w 245 0 t) q k w else m_mvD μ t (w 244 0 t) (w 245 0 t) q k y w
theorem dX13_moves_0 : decode cX13_moves 0 = .ok (.aload_n 0, 1) := by decide +kernel
theorem dX13_moves_1 : decode cX13_moves 1 = .ok (.getfield 162, 3) := by decide +kernel
theorem dX13_moves_4 : decode cX13_moves 4 = .ok (.iload_n 1, 1) := by decide +kernel
theorem dX13_moves_5 : decode cX13_moves 5 = .ok (.iaload, 1) := by decide +kernel
theorem dX13_moves_6 : decode cX13_moves 6 = .ok (.istore 6, 2) := by decide +kernel
theorem dX13_moves_8 : decode cX13_moves 8 = .ok (.aload_n 0, 1) := by decide +kernel
theorem dX13_moves_9 : decode cX13_moves 9 = .ok (.getfield 165, 3) := by decide +kernel
theorem dX13_moves_12 : decode cX13_moves 12 = .ok (.iload_n 1, 1) := by decide +kernel
theorem dX13_moves_13 : decode cX13_moves 13 = .ok (.iaload, 1) := by decide +kernel
theorem dX13_moves_14 : decode cX13_moves 14 = .ok (.istore 7, 2) := by decide +kernel
theorem dX13_moves_16 : decode cX13_moves 16 = .ok (.iload_n 2, 1) := by decide +kernel
theorem dX13_moves_17 : decode cX13_moves 17 = .ok (.iconst 2, 1) := by decide +kernel
theorem dX13_moves_18 : decode cX13_moves 18 = .ok (.if_icmp .ne 34, 3) := by decide +kernel
theorem dX13_moves_21 : decode cX13_moves 21 = .ok (.aload_n 0, 1) := by decide +kernel
theorem dX13_moves_22 : decode cX13_moves 22 = .ok (.aload_n 0, 1) := by decide +kernel
theorem dX13_moves_23 : decode cX13_moves 23 = .ok (.getfield 406, 3) := by decide +kernel
theorem dX13_moves_26 : decode cX13_moves 26 = .ok (.ifCond .ne 15, 3) := by decide +kernel
theorem dX13_moves_29 : decode cX13_moves 29 = .ok (.iload_n 3, 1) := by decide +kernel
theorem dX13_moves_30 : decode cX13_moves 30 = .ok (.iload 6, 2) := by decide +kernel
theorem dX13_moves_32 : decode cX13_moves 32 = .ok (.if_icmp .lt 13, 3) := by decide +kernel
theorem dX13_moves_35 : decode cX13_moves 35 = .ok (.iload_n 3, 1) := by decide +kernel
theorem dX13_moves_36 : decode cX13_moves 36 = .ok (.iload 7, 2) := by decide +kernel
theorem dX13_moves_38 : decode cX13_moves 38 = .ok (.if_icmp .ge 7, 3) := by decide +kernel
theorem dX13_moves_41 : decode cX13_moves 41 = .ok (.iconst 1, 1) := by decide +kernel
theorem dX13_moves_42 : decode cX13_moves 42 = .ok (.goto 4, 3) := by decide +kernel
theorem dX13_moves_45 : decode cX13_moves 45 = .ok (.iconst 0, 1) := by decide +kernel
theorem dX13_moves_46 : decode cX13_moves 46 = .ok (.putfield 406, 3) := by decide +kernel
theorem dX13_moves_49 : decode cX13_moves 49 = .ok (.goto 248, 3) := by decide +kernel
theorem dX13_moves_52 : decode cX13_moves 52 = .ok (.iload_n 2, 1) := by decide +kernel
theorem dX13_moves_53 : decode cX13_moves 53 = .ok (.ifCond .ne 113, 3) := by decide +kernel
theorem dX13_moves_56 : decode cX13_moves 56 = .ok (.iload_n 3, 1) := by decide +kernel
theorem dX13_moves_57 : decode cX13_moves 57 = .ok (.iload 6, 2) := by decide +kernel
theorem dX13_moves_59 : decode cX13_moves 59 = .ok (.if_icmp .lt 16, 3) := by decide +kernel
theorem dX13_moves_62 : decode cX13_moves 62 = .ok (.iload_n 3, 1) := by decide +kernel
theorem dX13_moves_63 : decode cX13_moves 63 = .ok (.iload 6, 2) := by decide +kernel
theorem dX13_moves_65 : decode cX13_moves 65 = .ok (.if_icmp .ne 14, 3) := by decide +kernel
theorem dX13_moves_68 : decode cX13_moves 68 = .ok (.iload 6, 2) := by decide +kernel
theorem dX13_moves_70 : decode cX13_moves 70 = .ok (.iload 7, 2) := by decide +kernel
theorem dX13_moves_72 : decode cX13_moves 72 = .ok (.if_icmp .ge 7, 3) := by decide +kernel
theorem dX13_moves_75 : decode cX13_moves 75 = .ok (.iconst 1, 1) := by decide +kernel
theorem dX13_moves_76 : decode cX13_moves 76 = .ok (.goto 4, 3) := by decide +kernel
theorem dX13_moves_79 : decode cX13_moves 79 = .ok (.iconst 0, 1) := by decide +kernel
theorem dX13_moves_80 : decode cX13_moves 80 = .ok (.istore 8, 2) := by decide +kernel
theorem dX13_moves_82 : decode cX13_moves 82 = .ok (.aload_n 0, 1) := by decide +kernel
theorem dX13_moves_83 : decode cX13_moves 83 = .ok (.aload_n 0, 1) := by decide +kernel
theorem dX13_moves_84 : decode cX13_moves 84 = .ok (.getfield 406, 3) := by decide +kernel
theorem dX13_moves_87 : decode cX13_moves 87 = .ok (.ifCond .ne 28, 3) := by decide +kernel
theorem dX13_moves_90 : decode cX13_moves 90 = .ok (.iload_n 3, 1) := by decide +kernel
theorem dX13_moves_91 : decode cX13_moves 91 = .ok (.iload 6, 2) := by decide +kernel
theorem dX13_moves_93 : decode cX13_moves 93 = .ok (.if_icmp .le 9, 3) := by decide +kernel
theorem dX13_moves_96 : decode cX13_moves 96 = .ok (.iload_n 3, 1) := by decide +kernel
theorem dX13_moves_97 : decode cX13_moves 97 = .ok (.iload 7, 2) := by decide +kernel
theorem dX13_moves_99 : decode cX13_moves 99 = .ok (.if_icmp .lt 16, 3) := by decide +kernel
theorem dX13_moves_102 : decode cX13_moves 102 = .ok (.iload_n 3, 1) := by decide +kernel
theorem dX13_moves_103 : decode cX13_moves 103 = .ok (.iload 6, 2) := by decide +kernel
theorem dX13_moves_105 : decode cX13_moves 105 = .ok (.if_icmp .ne 14, 3) := by decide +kernel
theorem dX13_moves_108 : decode cX13_moves 108 = .ok (.iload 6, 2) := by decide +kernel
theorem dX13_moves_110 : decode cX13_moves 110 = .ok (.iload 7, 2) := by decide +kernel
theorem dX13_moves_112 : decode cX13_moves 112 = .ok (.if_icmp .ne 7, 3) := by decide +kernel
theorem dX13_moves_115 : decode cX13_moves 115 = .ok (.iconst 1, 1) := by decide +kernel
theorem dX13_moves_116 : decode cX13_moves 116 = .ok (.goto 4, 3) := by decide +kernel
theorem dX13_moves_119 : decode cX13_moves 119 = .ok (.iconst 0, 1) := by decide +kernel
theorem dX13_moves_120 : decode cX13_moves 120 = .ok (.putfield 406, 3) := by decide +kernel
theorem dX13_moves_123 : decode cX13_moves 123 = .ok (.aload_n 0, 1) := by decide +kernel
theorem dX13_moves_124 : decode cX13_moves 124 = .ok (.getfield 162, 3) := by decide +kernel
theorem dX13_moves_127 : decode cX13_moves 127 = .ok (.iload_n 1, 1) := by decide +kernel
theorem dX13_moves_128 : decode cX13_moves 128 = .ok (.dup2, 1) := by decide +kernel
theorem dX13_moves_129 : decode cX13_moves 129 = .ok (.iaload, 1) := by decide +kernel
theorem dX13_moves_130 : decode cX13_moves 130 = .ok (.iload 8, 2) := by decide +kernel
theorem dX13_moves_132 : decode cX13_moves 132 = .ok (.ifCond .eq 8, 3) := by decide +kernel
theorem dX13_moves_135 : decode cX13_moves 135 = .ok (.iload 4, 2) := by decide +kernel
theorem dX13_moves_137 : decode cX13_moves 137 = .ok (.goto 4, 3) := by decide +kernel
theorem dX13_moves_140 : decode cX13_moves 140 = .ok (.iconst 0, 1) := by decide +kernel
theorem dX13_moves_141 : decode cX13_moves 141 = .ok (.iadd, 1) := by decide +kernel
theorem dX13_moves_142 : decode cX13_moves 142 = .ok (.iastore, 1) := by decide +kernel
theorem dX13_moves_143 : decode cX13_moves 143 = .ok (.aload_n 0, 1) := by decide +kernel
theorem dX13_moves_144 : decode cX13_moves 144 = .ok (.getfield 165, 3) := by decide +kernel
theorem dX13_moves_147 : decode cX13_moves 147 = .ok (.iload_n 1, 1) := by decide +kernel
theorem dX13_moves_148 : decode cX13_moves 148 = .ok (.dup2, 1) := by decide +kernel
theorem dX13_moves_149 : decode cX13_moves 149 = .ok (.iaload, 1) := by decide +kernel
theorem dX13_moves_150 : decode cX13_moves 150 = .ok (.iload 8, 2) := by decide +kernel
theorem dX13_moves_152 : decode cX13_moves 152 = .ok (.ifCond .eq 8, 3) := by decide +kernel
theorem dX13_moves_155 : decode cX13_moves 155 = .ok (.iload 4, 2) := by decide +kernel
theorem dX13_moves_157 : decode cX13_moves 157 = .ok (.goto 4, 3) := by decide +kernel
theorem dX13_moves_160 : decode cX13_moves 160 = .ok (.iconst 0, 1) := by decide +kernel
theorem dX13_moves_161 : decode cX13_moves 161 = .ok (.iadd, 1) := by decide +kernel
theorem dX13_moves_162 : decode cX13_moves 162 = .ok (.iastore, 1) := by decide +kernel
theorem dX13_moves_163 : decode cX13_moves 163 = .ok (.goto 134, 3) := by decide +kernel
theorem dX13_moves_166 : decode cX13_moves 166 = .ok (.iload_n 3, 1) := by decide +kernel
theorem dX13_moves_167 : decode cX13_moves 167 = .ok (.iload 4, 2) := by decide +kernel
theorem dX13_moves_169 : decode cX13_moves 169 = .ok (.iadd, 1) := by decide +kernel
theorem dX13_moves_170 : decode cX13_moves 170 = .ok (.iload 6, 2) := by decide +kernel
theorem dX13_moves_172 : decode cX13_moves 172 = .ok (.if_icmp .gt 7, 3) := by decide +kernel
theorem dX13_moves_175 : decode cX13_moves 175 = .ok (.iconst 1, 1) := by decide +kernel
theorem dX13_moves_176 : decode cX13_moves 176 = .ok (.goto 4, 3) := by decide +kernel
theorem dX13_moves_179 : decode cX13_moves 179 = .ok (.iconst 0, 1) := by decide +kernel
theorem dX13_moves_180 : decode cX13_moves 180 = .ok (.istore 8, 2) := by decide +kernel
theorem dX13_moves_182 : decode cX13_moves 182 = .ok (.aload_n 0, 1) := by decide +kernel
theorem dX13_moves_183 : decode cX13_moves 183 = .ok (.aload_n 0, 1) := by decide +kernel
theorem dX13_moves_184 : decode cX13_moves 184 = .ok (.getfield 406, 3) := by decide +kernel
theorem dX13_moves_187 : decode cX13_moves 187 = .ok (.ifCond .ne 14, 3) := by decide +kernel
theorem dX13_moves_190 : decode cX13_moves 190 = .ok (.iload 8, 2) := by decide +kernel
theorem dX13_moves_192 : decode cX13_moves 192 = .ok (.ifCond .ne 13, 3) := by decide +kernel
theorem dX13_moves_195 : decode cX13_moves 195 = .ok (.iload_n 3, 1) := by decide +kernel
theorem dX13_moves_196 : decode cX13_moves 196 = .ok (.iload 7, 2) := by decide +kernel
theorem dX13_moves_198 : decode cX13_moves 198 = .ok (.if_icmp .ge 7, 3) := by decide +kernel
theorem dX13_moves_201 : decode cX13_moves 201 = .ok (.iconst 1, 1) := by decide +kernel
theorem dX13_moves_202 : decode cX13_moves 202 = .ok (.goto 4, 3) := by decide +kernel
theorem dX13_moves_205 : decode cX13_moves 205 = .ok (.iconst 0, 1) := by decide +kernel
theorem dX13_moves_206 : decode cX13_moves 206 = .ok (.putfield 406, 3) := by decide +kernel
theorem dX13_moves_209 : decode cX13_moves 209 = .ok (.aload_n 0, 1) := by decide +kernel
theorem dX13_moves_210 : decode cX13_moves 210 = .ok (.getfield 162, 3) := by decide +kernel
theorem dX13_moves_213 : decode cX13_moves 213 = .ok (.iload_n 1, 1) := by decide +kernel
theorem dX13_moves_214 : decode cX13_moves 214 = .ok (.dup2, 1) := by decide +kernel
theorem dX13_moves_215 : decode cX13_moves 215 = .ok (.iaload, 1) := by decide +kernel
theorem dX13_moves_216 : decode cX13_moves 216 = .ok (.iload 8, 2) := by decide +kernel
theorem dX13_moves_218 : decode cX13_moves 218 = .ok (.ifCond .eq 8, 3) := by decide +kernel
theorem dX13_moves_221 : decode cX13_moves 221 = .ok (.iload 4, 2) := by decide +kernel
theorem dX13_moves_223 : decode cX13_moves 223 = .ok (.goto 4, 3) := by decide +kernel
theorem dX13_moves_226 : decode cX13_moves 226 = .ok (.iconst 0, 1) := by decide +kernel
theorem dX13_moves_227 : decode cX13_moves 227 = .ok (.isub, 1) := by decide +kernel
theorem dX13_moves_228 : decode cX13_moves 228 = .ok (.iastore, 1) := by decide +kernel
theorem dX13_moves_229 : decode cX13_moves 229 = .ok (.aload_n 0, 1) := by decide +kernel
theorem dX13_moves_230 : decode cX13_moves 230 = .ok (.getfield 165, 3) := by decide +kernel
theorem dX13_moves_233 : decode cX13_moves 233 = .ok (.iload_n 1, 1) := by decide +kernel
theorem dX13_moves_234 : decode cX13_moves 234 = .ok (.dup2, 1) := by decide +kernel
theorem dX13_moves_235 : decode cX13_moves 235 = .ok (.iaload, 1) := by decide +kernel
theorem dX13_moves_236 : decode cX13_moves 236 = .ok (.iload 8, 2) := by decide +kernel
theorem dX13_moves_238 : decode cX13_moves 238 = .ok (.ifCond .eq 8, 3) := by decide +kernel
theorem dX13_moves_241 : decode cX13_moves 241 = .ok (.iload 4, 2) := by decide +kernel
theorem dX13_moves_243 : decode cX13_moves 243 = .ok (.goto 4, 3) := by decide +kernel
theorem dX13_moves_246 : decode cX13_moves 246 = .ok (.iconst 0, 1) := by decide +kernel
theorem dX13_moves_247 : decode cX13_moves 247 = .ok (.isub, 1) := by decide +kernel
theorem dX13_moves_248 : decode cX13_moves 248 = .ok (.iastore, 1) := by decide +kernel
theorem dX13_moves_249 : decode cX13_moves 249 = .ok (.aload_n 0, 1) := by decide +kernel
theorem dX13_moves_250 : decode cX13_moves 250 = .ok (.getfield 168, 3) := by decide +kernel
theorem dX13_moves_253 : decode cX13_moves 253 = .ok (.bipush 8, 2) := by decide +kernel
theorem dX13_moves_255 : decode cX13_moves 255 = .ok (.iload_n 1, 1) := by decide +kernel
theorem dX13_moves_256 : decode cX13_moves 256 = .ok (.imul, 1) := by decide +kernel
theorem dX13_moves_257 : decode cX13_moves 257 = .ok (.iload 5, 2) := by decide +kernel
theorem dX13_moves_259 : decode cX13_moves 259 = .ok (.ifCond .ge 7, 3) := by decide +kernel
theorem dX13_moves_262 : decode cX13_moves 262 = .ok (.iconst 0, 1) := by decide +kernel
theorem dX13_moves_263 : decode cX13_moves 263 = .ok (.goto 5, 3) := by decide +kernel
theorem dX13_moves_266 : decode cX13_moves 266 = .ok (.iload 5, 2) := by decide +kernel
theorem dX13_moves_268 : decode cX13_moves 268 = .ok (.iadd, 1) := by decide +kernel
theorem dX13_moves_269 : decode cX13_moves 269 = .ok (.iload 5, 2) := by decide +kernel
theorem dX13_moves_271 : decode cX13_moves 271 = .ok (.ifCond .ge 15, 3) := by decide +kernel
theorem dX13_moves_274 : decode cX13_moves 274 = .ok (.aload_n 0, 1) := by decide +kernel
theorem dX13_moves_275 : decode cX13_moves 275 = .ok (.getfield 168, 3) := by decide +kernel
theorem dX13_moves_278 : decode cX13_moves 278 = .ok (.bipush 8, 2) := by decide +kernel
theorem dX13_moves_280 : decode cX13_moves 280 = .ok (.iload_n 1, 1) := by decide +kernel
theorem dX13_moves_281 : decode cX13_moves 281 = .ok (.imul, 1) := by decide +kernel
theorem dX13_moves_282 : decode cX13_moves 282 = .ok (.iaload, 1) := by decide +kernel
theorem dX13_moves_283 : decode cX13_moves 283 = .ok (.goto 13, 3) := by decide +kernel
theorem dX13_moves_286 : decode cX13_moves 286 = .ok (.iload 8, 2) := by decide +kernel
theorem dX13_moves_288 : decode cX13_moves 288 = .ok (.ifCond .eq 7, 3) := by decide +kernel
theorem dX13_moves_291 : decode cX13_moves 291 = .ok (.iconst 1, 1) := by decide +kernel
theorem dX13_moves_292 : decode cX13_moves 292 = .ok (.goto 4, 3) := by decide +kernel
theorem dX13_moves_295 : decode cX13_moves 295 = .ok (.iconst 0, 1) := by decide +kernel
theorem dX13_moves_296 : decode cX13_moves 296 = .ok (.iastore, 1) := by decide +kernel
theorem dX13_moves_297 : decode cX13_moves 297 = .ok (.return_, 1) := by decide +kernel
set_option maxRecDepth 4000 in
theorem c_moves (γ : LC) (μ : MU) (w : Mm) (t d q k y : Int) (ht : 0 ≤ t ∧ t < 8) (hd : 0 ≤ d ∧ d ≤ 2) (hq : 0 ≤ q ∧ q ≤ 1000000000) (hk : 0 ≤ k ∧ k ≤ 5000) (hy : -1 ≤ y ∧ y ≤ 7) (ha : 0 ≤ w 244 0 t ∧ w 244 0 t ≤ 1000000000) (hb : 0 ≤ w 245 0 t ∧ w 245 0 t ≤ 1000000000) : CMv γ μ 0 mX13_moves [.int (I t), .int (I d), .int (I q), .int (I k), .int (I y)] w (fun w' => w' = m_mov μ t d q k y w) := by
  refine CMv_of rfl (by simp [rv_cat, Value.category]) rfl ?_
  rintro κ hO hF rfl hR
  have hD := hF.dp
  show X κ 0 0 w 0 [some (rv μ.1), some (.int (I t)), some (.int (I d)), some (.int (I q)), some (.int (I k)), some (.int (I y)), none, none, none] []
  refine X_aload_n 1 hO dX13_moves_0 rfl rfl ?_
  refine ga_162 4 hO hR dX13_moves_1 rfl ?_
  refine X_iload_n 5 hO dX13_moves_4 rfl rfl ?_
  refine ma_ld (L := 8) (c := 244) 6 hO hR rfl rfl rfl dX13_moves_5 rfl (by omega) (by omega) (fun hi_5 => ?_)
  try simp (disch := decide) only [up_k, up_s, step_at, pool_at, poolN_at, opens_at, closes_at, fl_at, del_at, ins_at, rep_at, psh_at, trn_at, tak_at, pEn_at, cpQ_at, cpP_at, cpT_at, ti_at, th_at, rec_at, saves_at] at hi_5 ⊢
  refine X_istore 8 hO dX13_moves_6 rfl rfl ?_
  refine X_aload_n 9 hO dX13_moves_8 rfl rfl ?_
  refine ga_165 12 hO hR dX13_moves_9 rfl ?_
  refine X_iload_n 13 hO dX13_moves_12 rfl rfl ?_
  refine ma_ld (L := 8) (c := 245) 14 hO hR rfl rfl rfl dX13_moves_13 rfl (by omega) (by omega) (fun hi_13 => ?_)
  try simp (disch := decide) only [up_k, up_s, step_at, pool_at, poolN_at, opens_at, closes_at, fl_at, del_at, ins_at, rep_at, psh_at, trn_at, tak_at, pEn_at, cpQ_at, cpP_at, cpT_at, ti_at, th_at, rec_at, saves_at] at hi_13 ⊢
  refine X_istore 16 hO dX13_moves_14 rfl rfl ?_
  refine X_iload_n 17 hO dX13_moves_16 rfl rfl ?_
  refine X_iconst 18 hO dX13_moves_17 rfl ?_
  refine X_icmp_ne 21 52 hO dX13_moves_18 rfl rfl (by omega) (by omega) (fun hc_18 => ?_) (fun hc_18 => ?_)
  ·
    refine X_iload_n 53 hO dX13_moves_52 rfl rfl ?_
    refine X_if_ne 56 166 hO dX13_moves_53 rfl rfl (by omega) (fun hc_53 => ?_) (fun hc_53 => ?_)
    ·
      have ed : d = 1 := by omega
      have JP180 : ∀ (z : Int), ((z = 1 ∧ (q + k ≤ w 244 0 t)) ∨ (z = 0 ∧ ¬ (q + k ≤ w 244 0 t))) → X κ 0 0 (w) 180 [some (rv μ.1), some (.int (I t)), some (.int (I d)), some (.int (I q)), some (.int (I k)), some (.int (I y)), some (.int (I (w 244 0 t))), some (.int (I (w 245 0 t))), none] [.int (I z)] := by
        intro z hz
        refine X_istore 182 hO dX13_moves_180 rfl rfl ?_
        have JP206 : ∀ (c : Int), ((c = 1 ∧ (w 138 μ.1 0 ≠ 0 ∨ (¬ (q + k ≤ w 244 0 t) ∧ q < w 245 0 t))) ∨ (c = 0 ∧ ¬ (w 138 μ.1 0 ≠ 0 ∨ (¬ (q + k ≤ w 244 0 t) ∧ q < w 245 0 t)))) → X κ 0 0 (w) 206 [some (rv μ.1), some (.int (I t)), some (.int (I d)), some (.int (I q)), some (.int (I k)), some (.int (I y)), some (.int (I (w 244 0 t))), some (.int (I (w 245 0 t))), some (.int (I z))] [.int (I c), rv μ.1] := by
          intro c hc
          refine pa_406 209 hO hR dX13_moves_206 rfl (by omega) (fun hR => ?_)
          refine X_aload_n 210 hO dX13_moves_209 rfl rfl ?_
          refine ga_162 213 hO hR dX13_moves_210 rfl ?_
          refine X_iload_n 214 hO dX13_moves_213 rfl rfl ?_
          refine X_dup2 215 hO dX13_moves_214 rfl (by first | rfl | exact rv_cat _) (by first | rfl | exact rv_cat _) ?_
          refine ma_ld (L := 8) (c := 244) 216 hO hR rfl rfl rfl dX13_moves_215 rfl (by omega) (by omega) (fun hi_215 => ?_)
          try simp (disch := decide) only [up_k, up_s, step_at, pool_at, poolN_at, opens_at, closes_at, fl_at, del_at, ins_at, rep_at, psh_at, trn_at, tak_at, pEn_at, cpQ_at, cpP_at, cpT_at, ti_at, th_at, rec_at, saves_at] at hi_215 ⊢
          refine X_iload 218 hO dX13_moves_216 rfl rfl ?_
          refine X_if_eq 221 226 hO dX13_moves_218 rfl rfl (by omega) (fun hc_218 => ?_) (fun hc_218 => ?_)
          ·
            refine X_iconst 227 hO dX13_moves_226 rfl ?_
            refine X_isub 228 hO dX13_moves_227 rfl ?_
            refine ma_st (L := 8) (c := 244) 229 hO hR rfl rfl rfl dX13_moves_228 rfl (by omega) (by omega) (by omega) (fun hR => ?_)
            refine X_aload_n 230 hO dX13_moves_229 rfl rfl ?_
            refine ga_165 233 hO hR dX13_moves_230 rfl ?_
            refine X_iload_n 234 hO dX13_moves_233 rfl rfl ?_
            refine X_dup2 235 hO dX13_moves_234 rfl (by first | rfl | exact rv_cat _) (by first | rfl | exact rv_cat _) ?_
            refine ma_ld (L := 8) (c := 245) 236 hO hR rfl rfl rfl dX13_moves_235 rfl (by omega) (by omega) (fun hi_235 => ?_)
            try simp (disch := decide) only [up_k, up_s, step_at, pool_at, poolN_at, opens_at, closes_at, fl_at, del_at, ins_at, rep_at, psh_at, trn_at, tak_at, pEn_at, cpQ_at, cpP_at, cpT_at, ti_at, th_at, rec_at, saves_at] at hi_235 ⊢
            refine X_iload 238 hO dX13_moves_236 rfl rfl ?_
            refine X_if_eq 241 246 hO dX13_moves_238 rfl rfl (by omega) (fun hc_238 => ?_) (fun hc_238 => ?_)
            ·
              refine X_iconst 247 hO dX13_moves_246 rfl ?_
              refine X_isub 248 hO dX13_moves_247 rfl ?_
              refine ma_st (L := 8) (c := 245) 249 hO hR rfl rfl rfl dX13_moves_248 rfl (by omega) (by omega) (by omega) (fun hR => ?_)
              refine X_aload_n 250 hO dX13_moves_249 rfl rfl ?_
              refine ga_168 253 hO hR dX13_moves_250 rfl ?_
              refine X_bipush 255 hO dX13_moves_253 rfl (by decide) ?_
              refine X_iload_n 256 hO dX13_moves_255 rfl rfl ?_
              refine X_imul 257 hO dX13_moves_256 rfl ?_
              refine X_iload 259 hO dX13_moves_257 rfl rfl ?_
              refine X_if_ge 262 266 hO dX13_moves_259 rfl rfl (by omega) (fun hc_259 => ?_) (fun hc_259 => ?_)
              ·
                refine X_iload 268 hO dX13_moves_266 rfl rfl ?_
                refine X_iadd 269 hO dX13_moves_268 rfl ?_
                refine X_iload 271 hO dX13_moves_269 rfl rfl ?_
                refine X_if_ge 274 286 hO dX13_moves_271 rfl rfl (by omega) (fun hc_271 => ?_) (fun hc_271 => ?_)
                ·
                  refine X_iload 288 hO dX13_moves_286 rfl rfl ?_
                  refine X_if_eq 291 295 hO dX13_moves_288 rfl rfl (by omega) (fun hc_288 => ?_) (fun hc_288 => ?_)
                  ·
                    refine X_iconst 296 hO dX13_moves_295 rfl ?_
                    refine ma_st (L := 64) (c := 246) 297 hO hR rfl rfl rfl dX13_moves_296 rfl (by omega) (by omega) (by omega) (fun hR => ?_)
                    exact XM_vret hO hF hR rfl dX13_moves_297 (by first | (exfalso; omega) | (unfold m_mov m_mvR m_mvI m_mvD bi; rcases hc with ⟨h0, h1⟩ | ⟨h0, h1⟩ <;> subst h0 <;> (repeat (first | rfl | rw [if_pos (by omega)] | rw [if_neg (by omega)]))))
                  ·
                    refine X_iconst 292 hO dX13_moves_291 rfl ?_
                    refine X_goto hO dX13_moves_292 (tgt := 296) rfl ?_
                    refine ma_st (L := 64) (c := 246) 297 hO hR rfl rfl rfl dX13_moves_296 rfl (by omega) (by omega) (by omega) (fun hR => ?_)
                    exact XM_vret hO hF hR rfl dX13_moves_297 (by first | (exfalso; omega) | (unfold m_mov m_mvR m_mvI m_mvD bi; rcases hc with ⟨h0, h1⟩ | ⟨h0, h1⟩ <;> subst h0 <;> (repeat (first | rfl | rw [if_pos (by omega)] | rw [if_neg (by omega)]))))
                ·
                  refine X_aload_n 275 hO dX13_moves_274 rfl rfl ?_
                  refine ga_168 278 hO hR dX13_moves_275 rfl ?_
                  refine X_bipush 280 hO dX13_moves_278 rfl (by decide) ?_
                  refine X_iload_n 281 hO dX13_moves_280 rfl rfl ?_
                  refine X_imul 282 hO dX13_moves_281 rfl ?_
                  refine ma_ld (L := 64) (c := 246) 283 hO hR rfl rfl rfl dX13_moves_282 rfl (by omega) (by omega) (fun hi_282 => ?_)
                  try simp (disch := decide) only [up_k, up_s, step_at, pool_at, poolN_at, opens_at, closes_at, fl_at, del_at, ins_at, rep_at, psh_at, trn_at, tak_at, pEn_at, cpQ_at, cpP_at, cpT_at, ti_at, th_at, rec_at, saves_at] at hi_282 ⊢
                  refine X_goto hO dX13_moves_283 (tgt := 296) rfl ?_
                  refine ma_st (L := 64) (c := 246) 297 hO hR rfl rfl rfl dX13_moves_296 rfl (by omega) (by omega) (by omega) (fun hR => ?_)
                  exact XM_vret hO hF hR rfl dX13_moves_297 (by first | (exfalso; omega) | (unfold m_mov m_mvR m_mvI m_mvD bi; rcases hc with ⟨h0, h1⟩ | ⟨h0, h1⟩ <;> subst h0 <;> (repeat (first | rfl | rw [if_pos (by omega)] | rw [if_neg (by omega)]))))
              ·
                refine X_iconst 263 hO dX13_moves_262 rfl ?_
                refine X_goto hO dX13_moves_263 (tgt := 268) rfl ?_
                refine X_iadd 269 hO dX13_moves_268 rfl ?_
                refine X_iload 271 hO dX13_moves_269 rfl rfl ?_
                refine X_if_ge 274 286 hO dX13_moves_271 rfl rfl (by omega) (fun hc_271 => ?_) (fun hc_271 => ?_)
                ·
                  refine X_iload 288 hO dX13_moves_286 rfl rfl ?_
                  refine X_if_eq 291 295 hO dX13_moves_288 rfl rfl (by omega) (fun hc_288 => ?_) (fun hc_288 => ?_)
                  ·
                    refine X_iconst 296 hO dX13_moves_295 rfl ?_
                    refine ma_st (L := 64) (c := 246) 297 hO hR rfl rfl rfl dX13_moves_296 rfl (by omega) (by omega) (by omega) (fun hR => ?_)
                    exact XM_vret hO hF hR rfl dX13_moves_297 (by first | (exfalso; omega) | (unfold m_mov m_mvR m_mvI m_mvD bi; rcases hc with ⟨h0, h1⟩ | ⟨h0, h1⟩ <;> subst h0 <;> (repeat (first | rfl | rw [if_pos (by omega)] | rw [if_neg (by omega)]))))
                  ·
                    refine X_iconst 292 hO dX13_moves_291 rfl ?_
                    refine X_goto hO dX13_moves_292 (tgt := 296) rfl ?_
                    refine ma_st (L := 64) (c := 246) 297 hO hR rfl rfl rfl dX13_moves_296 rfl (by omega) (by omega) (by omega) (fun hR => ?_)
                    exact XM_vret hO hF hR rfl dX13_moves_297 (by first | (exfalso; omega) | (unfold m_mov m_mvR m_mvI m_mvD bi; rcases hc with ⟨h0, h1⟩ | ⟨h0, h1⟩ <;> subst h0 <;> (repeat (first | rfl | rw [if_pos (by omega)] | rw [if_neg (by omega)]))))
                ·
                  refine X_aload_n 275 hO dX13_moves_274 rfl rfl ?_
                  refine ga_168 278 hO hR dX13_moves_275 rfl ?_
                  refine X_bipush 280 hO dX13_moves_278 rfl (by decide) ?_
                  refine X_iload_n 281 hO dX13_moves_280 rfl rfl ?_
                  refine X_imul 282 hO dX13_moves_281 rfl ?_
                  refine ma_ld (L := 64) (c := 246) 283 hO hR rfl rfl rfl dX13_moves_282 rfl (by omega) (by omega) (fun hi_282 => ?_)
                  try simp (disch := decide) only [up_k, up_s, step_at, pool_at, poolN_at, opens_at, closes_at, fl_at, del_at, ins_at, rep_at, psh_at, trn_at, tak_at, pEn_at, cpQ_at, cpP_at, cpT_at, ti_at, th_at, rec_at, saves_at] at hi_282 ⊢
                  refine X_goto hO dX13_moves_283 (tgt := 296) rfl ?_
                  refine ma_st (L := 64) (c := 246) 297 hO hR rfl rfl rfl dX13_moves_296 rfl (by omega) (by omega) (by omega) (fun hR => ?_)
                  exact XM_vret hO hF hR rfl dX13_moves_297 (by first | (exfalso; omega) | (unfold m_mov m_mvR m_mvI m_mvD bi; rcases hc with ⟨h0, h1⟩ | ⟨h0, h1⟩ <;> subst h0 <;> (repeat (first | rfl | rw [if_pos (by omega)] | rw [if_neg (by omega)]))))
            ·
              refine X_iload 243 hO dX13_moves_241 rfl rfl ?_
              refine X_goto hO dX13_moves_243 (tgt := 247) rfl ?_
              refine X_isub 248 hO dX13_moves_247 rfl ?_
              refine ma_st (L := 8) (c := 245) 249 hO hR rfl rfl rfl dX13_moves_248 rfl (by omega) (by omega) (by omega) (fun hR => ?_)
              refine X_aload_n 250 hO dX13_moves_249 rfl rfl ?_
              refine ga_168 253 hO hR dX13_moves_250 rfl ?_
              refine X_bipush 255 hO dX13_moves_253 rfl (by decide) ?_
              refine X_iload_n 256 hO dX13_moves_255 rfl rfl ?_
              refine X_imul 257 hO dX13_moves_256 rfl ?_
              refine X_iload 259 hO dX13_moves_257 rfl rfl ?_
              refine X_if_ge 262 266 hO dX13_moves_259 rfl rfl (by omega) (fun hc_259 => ?_) (fun hc_259 => ?_)
              ·
                refine X_iload 268 hO dX13_moves_266 rfl rfl ?_
                refine X_iadd 269 hO dX13_moves_268 rfl ?_
                refine X_iload 271 hO dX13_moves_269 rfl rfl ?_
                refine X_if_ge 274 286 hO dX13_moves_271 rfl rfl (by omega) (fun hc_271 => ?_) (fun hc_271 => ?_)
                ·
                  refine X_iload 288 hO dX13_moves_286 rfl rfl ?_
                  refine X_if_eq 291 295 hO dX13_moves_288 rfl rfl (by omega) (fun hc_288 => ?_) (fun hc_288 => ?_)
                  ·
                    refine X_iconst 296 hO dX13_moves_295 rfl ?_
                    refine ma_st (L := 64) (c := 246) 297 hO hR rfl rfl rfl dX13_moves_296 rfl (by omega) (by omega) (by omega) (fun hR => ?_)
                    exact XM_vret hO hF hR rfl dX13_moves_297 (by first | (exfalso; omega) | (unfold m_mov m_mvR m_mvI m_mvD bi; rcases hc with ⟨h0, h1⟩ | ⟨h0, h1⟩ <;> subst h0 <;> (repeat (first | rfl | rw [if_pos (by omega)] | rw [if_neg (by omega)]))))
                  ·
                    refine X_iconst 292 hO dX13_moves_291 rfl ?_
                    refine X_goto hO dX13_moves_292 (tgt := 296) rfl ?_
                    refine ma_st (L := 64) (c := 246) 297 hO hR rfl rfl rfl dX13_moves_296 rfl (by omega) (by omega) (by omega) (fun hR => ?_)
                    exact XM_vret hO hF hR rfl dX13_moves_297 (by first | (exfalso; omega) | (unfold m_mov m_mvR m_mvI m_mvD bi; rcases hc with ⟨h0, h1⟩ | ⟨h0, h1⟩ <;> subst h0 <;> (repeat (first | rfl | rw [if_pos (by omega)] | rw [if_neg (by omega)]))))
                ·
                  refine X_aload_n 275 hO dX13_moves_274 rfl rfl ?_
                  refine ga_168 278 hO hR dX13_moves_275 rfl ?_
                  refine X_bipush 280 hO dX13_moves_278 rfl (by decide) ?_
                  refine X_iload_n 281 hO dX13_moves_280 rfl rfl ?_
                  refine X_imul 282 hO dX13_moves_281 rfl ?_
                  refine ma_ld (L := 64) (c := 246) 283 hO hR rfl rfl rfl dX13_moves_282 rfl (by omega) (by omega) (fun hi_282 => ?_)
                  try simp (disch := decide) only [up_k, up_s, step_at, pool_at, poolN_at, opens_at, closes_at, fl_at, del_at, ins_at, rep_at, psh_at, trn_at, tak_at, pEn_at, cpQ_at, cpP_at, cpT_at, ti_at, th_at, rec_at, saves_at] at hi_282 ⊢
                  refine X_goto hO dX13_moves_283 (tgt := 296) rfl ?_
                  refine ma_st (L := 64) (c := 246) 297 hO hR rfl rfl rfl dX13_moves_296 rfl (by omega) (by omega) (by omega) (fun hR => ?_)
                  exact XM_vret hO hF hR rfl dX13_moves_297 (by first | (exfalso; omega) | (unfold m_mov m_mvR m_mvI m_mvD bi; rcases hc with ⟨h0, h1⟩ | ⟨h0, h1⟩ <;> subst h0 <;> (repeat (first | rfl | rw [if_pos (by omega)] | rw [if_neg (by omega)]))))
              ·
                refine X_iconst 263 hO dX13_moves_262 rfl ?_
                refine X_goto hO dX13_moves_263 (tgt := 268) rfl ?_
                refine X_iadd 269 hO dX13_moves_268 rfl ?_
                refine X_iload 271 hO dX13_moves_269 rfl rfl ?_
                refine X_if_ge 274 286 hO dX13_moves_271 rfl rfl (by omega) (fun hc_271 => ?_) (fun hc_271 => ?_)
                ·
                  refine X_iload 288 hO dX13_moves_286 rfl rfl ?_
                  refine X_if_eq 291 295 hO dX13_moves_288 rfl rfl (by omega) (fun hc_288 => ?_) (fun hc_288 => ?_)
                  ·
                    refine X_iconst 296 hO dX13_moves_295 rfl ?_
                    refine ma_st (L := 64) (c := 246) 297 hO hR rfl rfl rfl dX13_moves_296 rfl (by omega) (by omega) (by omega) (fun hR => ?_)
                    exact XM_vret hO hF hR rfl dX13_moves_297 (by first | (exfalso; omega) | (unfold m_mov m_mvR m_mvI m_mvD bi; rcases hc with ⟨h0, h1⟩ | ⟨h0, h1⟩ <;> subst h0 <;> (repeat (first | rfl | rw [if_pos (by omega)] | rw [if_neg (by omega)]))))
                  ·
                    refine X_iconst 292 hO dX13_moves_291 rfl ?_
                    refine X_goto hO dX13_moves_292 (tgt := 296) rfl ?_
                    refine ma_st (L := 64) (c := 246) 297 hO hR rfl rfl rfl dX13_moves_296 rfl (by omega) (by omega) (by omega) (fun hR => ?_)
                    exact XM_vret hO hF hR rfl dX13_moves_297 (by first | (exfalso; omega) | (unfold m_mov m_mvR m_mvI m_mvD bi; rcases hc with ⟨h0, h1⟩ | ⟨h0, h1⟩ <;> subst h0 <;> (repeat (first | rfl | rw [if_pos (by omega)] | rw [if_neg (by omega)]))))
                ·
                  refine X_aload_n 275 hO dX13_moves_274 rfl rfl ?_
                  refine ga_168 278 hO hR dX13_moves_275 rfl ?_
                  refine X_bipush 280 hO dX13_moves_278 rfl (by decide) ?_
                  refine X_iload_n 281 hO dX13_moves_280 rfl rfl ?_
                  refine X_imul 282 hO dX13_moves_281 rfl ?_
                  refine ma_ld (L := 64) (c := 246) 283 hO hR rfl rfl rfl dX13_moves_282 rfl (by omega) (by omega) (fun hi_282 => ?_)
                  try simp (disch := decide) only [up_k, up_s, step_at, pool_at, poolN_at, opens_at, closes_at, fl_at, del_at, ins_at, rep_at, psh_at, trn_at, tak_at, pEn_at, cpQ_at, cpP_at, cpT_at, ti_at, th_at, rec_at, saves_at] at hi_282 ⊢
                  refine X_goto hO dX13_moves_283 (tgt := 296) rfl ?_
                  refine ma_st (L := 64) (c := 246) 297 hO hR rfl rfl rfl dX13_moves_296 rfl (by omega) (by omega) (by omega) (fun hR => ?_)
                  exact XM_vret hO hF hR rfl dX13_moves_297 (by first | (exfalso; omega) | (unfold m_mov m_mvR m_mvI m_mvD bi; rcases hc with ⟨h0, h1⟩ | ⟨h0, h1⟩ <;> subst h0 <;> (repeat (first | rfl | rw [if_pos (by omega)] | rw [if_neg (by omega)]))))
          ·
            refine X_iload 223 hO dX13_moves_221 rfl rfl ?_
            refine X_goto hO dX13_moves_223 (tgt := 227) rfl ?_
            refine X_isub 228 hO dX13_moves_227 rfl ?_
            refine ma_st (L := 8) (c := 244) 229 hO hR rfl rfl rfl dX13_moves_228 rfl (by omega) (by omega) (by omega) (fun hR => ?_)
            refine X_aload_n 230 hO dX13_moves_229 rfl rfl ?_
            refine ga_165 233 hO hR dX13_moves_230 rfl ?_
            refine X_iload_n 234 hO dX13_moves_233 rfl rfl ?_
            refine X_dup2 235 hO dX13_moves_234 rfl (by first | rfl | exact rv_cat _) (by first | rfl | exact rv_cat _) ?_
            refine ma_ld (L := 8) (c := 245) 236 hO hR rfl rfl rfl dX13_moves_235 rfl (by omega) (by omega) (fun hi_235 => ?_)
            try simp (disch := decide) only [up_k, up_s, step_at, pool_at, poolN_at, opens_at, closes_at, fl_at, del_at, ins_at, rep_at, psh_at, trn_at, tak_at, pEn_at, cpQ_at, cpP_at, cpT_at, ti_at, th_at, rec_at, saves_at] at hi_235 ⊢
            refine X_iload 238 hO dX13_moves_236 rfl rfl ?_
            refine X_if_eq 241 246 hO dX13_moves_238 rfl rfl (by omega) (fun hc_238 => ?_) (fun hc_238 => ?_)
            ·
              refine X_iconst 247 hO dX13_moves_246 rfl ?_
              refine X_isub 248 hO dX13_moves_247 rfl ?_
              refine ma_st (L := 8) (c := 245) 249 hO hR rfl rfl rfl dX13_moves_248 rfl (by omega) (by omega) (by omega) (fun hR => ?_)
              refine X_aload_n 250 hO dX13_moves_249 rfl rfl ?_
              refine ga_168 253 hO hR dX13_moves_250 rfl ?_
              refine X_bipush 255 hO dX13_moves_253 rfl (by decide) ?_
              refine X_iload_n 256 hO dX13_moves_255 rfl rfl ?_
              refine X_imul 257 hO dX13_moves_256 rfl ?_
              refine X_iload 259 hO dX13_moves_257 rfl rfl ?_
              refine X_if_ge 262 266 hO dX13_moves_259 rfl rfl (by omega) (fun hc_259 => ?_) (fun hc_259 => ?_)
              ·
                refine X_iload 268 hO dX13_moves_266 rfl rfl ?_
                refine X_iadd 269 hO dX13_moves_268 rfl ?_
                refine X_iload 271 hO dX13_moves_269 rfl rfl ?_
                refine X_if_ge 274 286 hO dX13_moves_271 rfl rfl (by omega) (fun hc_271 => ?_) (fun hc_271 => ?_)
                ·
                  refine X_iload 288 hO dX13_moves_286 rfl rfl ?_
                  refine X_if_eq 291 295 hO dX13_moves_288 rfl rfl (by omega) (fun hc_288 => ?_) (fun hc_288 => ?_)
                  ·
                    refine X_iconst 296 hO dX13_moves_295 rfl ?_
                    refine ma_st (L := 64) (c := 246) 297 hO hR rfl rfl rfl dX13_moves_296 rfl (by omega) (by omega) (by omega) (fun hR => ?_)
                    exact XM_vret hO hF hR rfl dX13_moves_297 (by first | (exfalso; omega) | (unfold m_mov m_mvR m_mvI m_mvD bi; rcases hc with ⟨h0, h1⟩ | ⟨h0, h1⟩ <;> subst h0 <;> (repeat (first | rfl | rw [if_pos (by omega)] | rw [if_neg (by omega)]))))
                  ·
                    refine X_iconst 292 hO dX13_moves_291 rfl ?_
                    refine X_goto hO dX13_moves_292 (tgt := 296) rfl ?_
                    refine ma_st (L := 64) (c := 246) 297 hO hR rfl rfl rfl dX13_moves_296 rfl (by omega) (by omega) (by omega) (fun hR => ?_)
                    exact XM_vret hO hF hR rfl dX13_moves_297 (by first | (exfalso; omega) | (unfold m_mov m_mvR m_mvI m_mvD bi; rcases hc with ⟨h0, h1⟩ | ⟨h0, h1⟩ <;> subst h0 <;> (repeat (first | rfl | rw [if_pos (by omega)] | rw [if_neg (by omega)]))))
                ·
                  refine X_aload_n 275 hO dX13_moves_274 rfl rfl ?_
                  refine ga_168 278 hO hR dX13_moves_275 rfl ?_
                  refine X_bipush 280 hO dX13_moves_278 rfl (by decide) ?_
                  refine X_iload_n 281 hO dX13_moves_280 rfl rfl ?_
                  refine X_imul 282 hO dX13_moves_281 rfl ?_
                  refine ma_ld (L := 64) (c := 246) 283 hO hR rfl rfl rfl dX13_moves_282 rfl (by omega) (by omega) (fun hi_282 => ?_)
                  try simp (disch := decide) only [up_k, up_s, step_at, pool_at, poolN_at, opens_at, closes_at, fl_at, del_at, ins_at, rep_at, psh_at, trn_at, tak_at, pEn_at, cpQ_at, cpP_at, cpT_at, ti_at, th_at, rec_at, saves_at] at hi_282 ⊢
                  refine X_goto hO dX13_moves_283 (tgt := 296) rfl ?_
                  refine ma_st (L := 64) (c := 246) 297 hO hR rfl rfl rfl dX13_moves_296 rfl (by omega) (by omega) (by omega) (fun hR => ?_)
                  exact XM_vret hO hF hR rfl dX13_moves_297 (by first | (exfalso; omega) | (unfold m_mov m_mvR m_mvI m_mvD bi; rcases hc with ⟨h0, h1⟩ | ⟨h0, h1⟩ <;> subst h0 <;> (repeat (first | rfl | rw [if_pos (by omega)] | rw [if_neg (by omega)]))))
              ·
                refine X_iconst 263 hO dX13_moves_262 rfl ?_
                refine X_goto hO dX13_moves_263 (tgt := 268) rfl ?_
                refine X_iadd 269 hO dX13_moves_268 rfl ?_
                refine X_iload 271 hO dX13_moves_269 rfl rfl ?_
                refine X_if_ge 274 286 hO dX13_moves_271 rfl rfl (by omega) (fun hc_271 => ?_) (fun hc_271 => ?_)
                ·
                  refine X_iload 288 hO dX13_moves_286 rfl rfl ?_
                  refine X_if_eq 291 295 hO dX13_moves_288 rfl rfl (by omega) (fun hc_288 => ?_) (fun hc_288 => ?_)
                  ·
                    refine X_iconst 296 hO dX13_moves_295 rfl ?_
                    refine ma_st (L := 64) (c := 246) 297 hO hR rfl rfl rfl dX13_moves_296 rfl (by omega) (by omega) (by omega) (fun hR => ?_)
                    exact XM_vret hO hF hR rfl dX13_moves_297 (by first | (exfalso; omega) | (unfold m_mov m_mvR m_mvI m_mvD bi; rcases hc with ⟨h0, h1⟩ | ⟨h0, h1⟩ <;> subst h0 <;> (repeat (first | rfl | rw [if_pos (by omega)] | rw [if_neg (by omega)]))))
                  ·
                    refine X_iconst 292 hO dX13_moves_291 rfl ?_
                    refine X_goto hO dX13_moves_292 (tgt := 296) rfl ?_
                    refine ma_st (L := 64) (c := 246) 297 hO hR rfl rfl rfl dX13_moves_296 rfl (by omega) (by omega) (by omega) (fun hR => ?_)
                    exact XM_vret hO hF hR rfl dX13_moves_297 (by first | (exfalso; omega) | (unfold m_mov m_mvR m_mvI m_mvD bi; rcases hc with ⟨h0, h1⟩ | ⟨h0, h1⟩ <;> subst h0 <;> (repeat (first | rfl | rw [if_pos (by omega)] | rw [if_neg (by omega)]))))
                ·
                  refine X_aload_n 275 hO dX13_moves_274 rfl rfl ?_
                  refine ga_168 278 hO hR dX13_moves_275 rfl ?_
                  refine X_bipush 280 hO dX13_moves_278 rfl (by decide) ?_
                  refine X_iload_n 281 hO dX13_moves_280 rfl rfl ?_
                  refine X_imul 282 hO dX13_moves_281 rfl ?_
                  refine ma_ld (L := 64) (c := 246) 283 hO hR rfl rfl rfl dX13_moves_282 rfl (by omega) (by omega) (fun hi_282 => ?_)
                  try simp (disch := decide) only [up_k, up_s, step_at, pool_at, poolN_at, opens_at, closes_at, fl_at, del_at, ins_at, rep_at, psh_at, trn_at, tak_at, pEn_at, cpQ_at, cpP_at, cpT_at, ti_at, th_at, rec_at, saves_at] at hi_282 ⊢
                  refine X_goto hO dX13_moves_283 (tgt := 296) rfl ?_
                  refine ma_st (L := 64) (c := 246) 297 hO hR rfl rfl rfl dX13_moves_296 rfl (by omega) (by omega) (by omega) (fun hR => ?_)
                  exact XM_vret hO hF hR rfl dX13_moves_297 (by first | (exfalso; omega) | (unfold m_mov m_mvR m_mvI m_mvD bi; rcases hc with ⟨h0, h1⟩ | ⟨h0, h1⟩ <;> subst h0 <;> (repeat (first | rfl | rw [if_pos (by omega)] | rw [if_neg (by omega)]))))
            ·
              refine X_iload 243 hO dX13_moves_241 rfl rfl ?_
              refine X_goto hO dX13_moves_243 (tgt := 247) rfl ?_
              refine X_isub 248 hO dX13_moves_247 rfl ?_
              refine ma_st (L := 8) (c := 245) 249 hO hR rfl rfl rfl dX13_moves_248 rfl (by omega) (by omega) (by omega) (fun hR => ?_)
              refine X_aload_n 250 hO dX13_moves_249 rfl rfl ?_
              refine ga_168 253 hO hR dX13_moves_250 rfl ?_
              refine X_bipush 255 hO dX13_moves_253 rfl (by decide) ?_
              refine X_iload_n 256 hO dX13_moves_255 rfl rfl ?_
              refine X_imul 257 hO dX13_moves_256 rfl ?_
              refine X_iload 259 hO dX13_moves_257 rfl rfl ?_
              refine X_if_ge 262 266 hO dX13_moves_259 rfl rfl (by omega) (fun hc_259 => ?_) (fun hc_259 => ?_)
              ·
                refine X_iload 268 hO dX13_moves_266 rfl rfl ?_
                refine X_iadd 269 hO dX13_moves_268 rfl ?_
                refine X_iload 271 hO dX13_moves_269 rfl rfl ?_
                refine X_if_ge 274 286 hO dX13_moves_271 rfl rfl (by omega) (fun hc_271 => ?_) (fun hc_271 => ?_)
                ·
                  refine X_iload 288 hO dX13_moves_286 rfl rfl ?_
                  refine X_if_eq 291 295 hO dX13_moves_288 rfl rfl (by omega) (fun hc_288 => ?_) (fun hc_288 => ?_)
                  ·
                    refine X_iconst 296 hO dX13_moves_295 rfl ?_
                    refine ma_st (L := 64) (c := 246) 297 hO hR rfl rfl rfl dX13_moves_296 rfl (by omega) (by omega) (by omega) (fun hR => ?_)
                    exact XM_vret hO hF hR rfl dX13_moves_297 (by first | (exfalso; omega) | (unfold m_mov m_mvR m_mvI m_mvD bi; rcases hc with ⟨h0, h1⟩ | ⟨h0, h1⟩ <;> subst h0 <;> (repeat (first | rfl | rw [if_pos (by omega)] | rw [if_neg (by omega)]))))
                  ·
                    refine X_iconst 292 hO dX13_moves_291 rfl ?_
                    refine X_goto hO dX13_moves_292 (tgt := 296) rfl ?_
                    refine ma_st (L := 64) (c := 246) 297 hO hR rfl rfl rfl dX13_moves_296 rfl (by omega) (by omega) (by omega) (fun hR => ?_)
                    exact XM_vret hO hF hR rfl dX13_moves_297 (by first | (exfalso; omega) | (unfold m_mov m_mvR m_mvI m_mvD bi; rcases hc with ⟨h0, h1⟩ | ⟨h0, h1⟩ <;> subst h0 <;> (repeat (first | rfl | rw [if_pos (by omega)] | rw [if_neg (by omega)]))))
                ·
                  refine X_aload_n 275 hO dX13_moves_274 rfl rfl ?_
                  refine ga_168 278 hO hR dX13_moves_275 rfl ?_
                  refine X_bipush 280 hO dX13_moves_278 rfl (by decide) ?_
                  refine X_iload_n 281 hO dX13_moves_280 rfl rfl ?_
                  refine X_imul 282 hO dX13_moves_281 rfl ?_
                  refine ma_ld (L := 64) (c := 246) 283 hO hR rfl rfl rfl dX13_moves_282 rfl (by omega) (by omega) (fun hi_282 => ?_)
                  try simp (disch := decide) only [up_k, up_s, step_at, pool_at, poolN_at, opens_at, closes_at, fl_at, del_at, ins_at, rep_at, psh_at, trn_at, tak_at, pEn_at, cpQ_at, cpP_at, cpT_at, ti_at, th_at, rec_at, saves_at] at hi_282 ⊢
                  refine X_goto hO dX13_moves_283 (tgt := 296) rfl ?_
                  refine ma_st (L := 64) (c := 246) 297 hO hR rfl rfl rfl dX13_moves_296 rfl (by omega) (by omega) (by omega) (fun hR => ?_)
                  exact XM_vret hO hF hR rfl dX13_moves_297 (by first | (exfalso; omega) | (unfold m_mov m_mvR m_mvI m_mvD bi; rcases hc with ⟨h0, h1⟩ | ⟨h0, h1⟩ <;> subst h0 <;> (repeat (first | rfl | rw [if_pos (by omega)] | rw [if_neg (by omega)]))))
              ·
                refine X_iconst 263 hO dX13_moves_262 rfl ?_
                refine X_goto hO dX13_moves_263 (tgt := 268) rfl ?_
                refine X_iadd 269 hO dX13_moves_268 rfl ?_
                refine X_iload 271 hO dX13_moves_269 rfl rfl ?_
                refine X_if_ge 274 286 hO dX13_moves_271 rfl rfl (by omega) (fun hc_271 => ?_) (fun hc_271 => ?_)
                ·
                  refine X_iload 288 hO dX13_moves_286 rfl rfl ?_
                  refine X_if_eq 291 295 hO dX13_moves_288 rfl rfl (by omega) (fun hc_288 => ?_) (fun hc_288 => ?_)
                  ·
                    refine X_iconst 296 hO dX13_moves_295 rfl ?_
                    refine ma_st (L := 64) (c := 246) 297 hO hR rfl rfl rfl dX13_moves_296 rfl (by omega) (by omega) (by omega) (fun hR => ?_)
                    exact XM_vret hO hF hR rfl dX13_moves_297 (by first | (exfalso; omega) | (unfold m_mov m_mvR m_mvI m_mvD bi; rcases hc with ⟨h0, h1⟩ | ⟨h0, h1⟩ <;> subst h0 <;> (repeat (first | rfl | rw [if_pos (by omega)] | rw [if_neg (by omega)]))))
                  ·
                    refine X_iconst 292 hO dX13_moves_291 rfl ?_
                    refine X_goto hO dX13_moves_292 (tgt := 296) rfl ?_
                    refine ma_st (L := 64) (c := 246) 297 hO hR rfl rfl rfl dX13_moves_296 rfl (by omega) (by omega) (by omega) (fun hR => ?_)
                    exact XM_vret hO hF hR rfl dX13_moves_297 (by first | (exfalso; omega) | (unfold m_mov m_mvR m_mvI m_mvD bi; rcases hc with ⟨h0, h1⟩ | ⟨h0, h1⟩ <;> subst h0 <;> (repeat (first | rfl | rw [if_pos (by omega)] | rw [if_neg (by omega)]))))
                ·
                  refine X_aload_n 275 hO dX13_moves_274 rfl rfl ?_
                  refine ga_168 278 hO hR dX13_moves_275 rfl ?_
                  refine X_bipush 280 hO dX13_moves_278 rfl (by decide) ?_
                  refine X_iload_n 281 hO dX13_moves_280 rfl rfl ?_
                  refine X_imul 282 hO dX13_moves_281 rfl ?_
                  refine ma_ld (L := 64) (c := 246) 283 hO hR rfl rfl rfl dX13_moves_282 rfl (by omega) (by omega) (fun hi_282 => ?_)
                  try simp (disch := decide) only [up_k, up_s, step_at, pool_at, poolN_at, opens_at, closes_at, fl_at, del_at, ins_at, rep_at, psh_at, trn_at, tak_at, pEn_at, cpQ_at, cpP_at, cpT_at, ti_at, th_at, rec_at, saves_at] at hi_282 ⊢
                  refine X_goto hO dX13_moves_283 (tgt := 296) rfl ?_
                  refine ma_st (L := 64) (c := 246) 297 hO hR rfl rfl rfl dX13_moves_296 rfl (by omega) (by omega) (by omega) (fun hR => ?_)
                  exact XM_vret hO hF hR rfl dX13_moves_297 (by first | (exfalso; omega) | (unfold m_mov m_mvR m_mvI m_mvD bi; rcases hc with ⟨h0, h1⟩ | ⟨h0, h1⟩ <;> subst h0 <;> (repeat (first | rfl | rw [if_pos (by omega)] | rw [if_neg (by omega)]))))
        refine X_aload_n 183 hO dX13_moves_182 rfl rfl ?_
        refine X_aload_n 184 hO dX13_moves_183 rfl rfl ?_
        refine ga_406 187 hO hR dX13_moves_184 rfl (fun hi_184 => ?_)
        try simp (disch := decide) only [up_k, up_s, step_at, pool_at, poolN_at, opens_at, closes_at, fl_at, del_at, ins_at, rep_at, psh_at, trn_at, tak_at, pEn_at, cpQ_at, cpP_at, cpT_at, ti_at, th_at, rec_at, saves_at] at hi_184 ⊢
        refine X_if_ne 190 201 hO dX13_moves_187 rfl rfl (by omega) (fun hc_187 => ?_) (fun hc_187 => ?_)
        ·
          refine X_iconst 202 hO dX13_moves_201 rfl ?_
          refine X_goto hO dX13_moves_202 (tgt := 206) rfl ?_
          exact JP206 _ (by omega)
        ·
          refine X_iload 192 hO dX13_moves_190 rfl rfl ?_
          refine X_if_ne 195 205 hO dX13_moves_192 rfl rfl (by omega) (fun hc_192 => ?_) (fun hc_192 => ?_)
          ·
            refine X_iconst 206 hO dX13_moves_205 rfl ?_
            exact JP206 _ (by omega)
          ·
            refine X_iload_n 196 hO dX13_moves_195 rfl rfl ?_
            refine X_iload 198 hO dX13_moves_196 rfl rfl ?_
            refine X_icmp_ge 201 205 hO dX13_moves_198 rfl rfl (by omega) (by omega) (fun hc_198 => ?_) (fun hc_198 => ?_)
            ·
              refine X_iconst 206 hO dX13_moves_205 rfl ?_
              exact JP206 _ (by omega)
            ·
              refine X_iconst 202 hO dX13_moves_201 rfl ?_
              refine X_goto hO dX13_moves_202 (tgt := 206) rfl ?_
              exact JP206 _ (by omega)
      refine X_iload_n 167 hO dX13_moves_166 rfl rfl ?_
      refine X_iload 169 hO dX13_moves_167 rfl rfl ?_
      refine X_iadd 170 hO dX13_moves_169 rfl ?_
      refine X_iload 172 hO dX13_moves_170 rfl rfl ?_
      refine X_icmp_gt 175 179 hO dX13_moves_172 rfl rfl (by omega) (by omega) (fun hc_172 => ?_) (fun hc_172 => ?_)
      ·
        refine X_iconst 180 hO dX13_moves_179 rfl ?_
        exact JP180 _ (by omega)
      ·
        refine X_iconst 176 hO dX13_moves_175 rfl ?_
        refine X_goto hO dX13_moves_176 (tgt := 180) rfl ?_
        exact JP180 _ (by omega)
    ·
      have ed : d = 0 := by omega
      have JP80 : ∀ (z : Int), ((z = 1 ∧ (q < w 244 0 t ∨ (q = w 244 0 t ∧ w 244 0 t < w 245 0 t))) ∨ (z = 0 ∧ ¬ (q < w 244 0 t ∨ (q = w 244 0 t ∧ w 244 0 t < w 245 0 t)))) → X κ 0 0 (w) 80 [some (rv μ.1), some (.int (I t)), some (.int (I d)), some (.int (I q)), some (.int (I k)), some (.int (I y)), some (.int (I (w 244 0 t))), some (.int (I (w 245 0 t))), none] [.int (I z)] := by
        intro z hz
        refine X_istore 82 hO dX13_moves_80 rfl rfl ?_
        have JP120 : ∀ (c : Int), ((c = 1 ∧ (w 138 μ.1 0 ≠ 0 ∨ (w 244 0 t < q ∧ q < w 245 0 t) ∨ (q = w 244 0 t ∧ w 244 0 t = w 245 0 t))) ∨ (c = 0 ∧ ¬ (w 138 μ.1 0 ≠ 0 ∨ (w 244 0 t < q ∧ q < w 245 0 t) ∨ (q = w 244 0 t ∧ w 244 0 t = w 245 0 t)))) → X κ 0 0 (w) 120 [some (rv μ.1), some (.int (I t)), some (.int (I d)), some (.int (I q)), some (.int (I k)), some (.int (I y)), some (.int (I (w 244 0 t))), some (.int (I (w 245 0 t))), some (.int (I z))] [.int (I c), rv μ.1] := by
          intro c hc
          refine pa_406 123 hO hR dX13_moves_120 rfl (by omega) (fun hR => ?_)
          refine X_aload_n 124 hO dX13_moves_123 rfl rfl ?_
          refine ga_162 127 hO hR dX13_moves_124 rfl ?_
          refine X_iload_n 128 hO dX13_moves_127 rfl rfl ?_
          refine X_dup2 129 hO dX13_moves_128 rfl (by first | rfl | exact rv_cat _) (by first | rfl | exact rv_cat _) ?_
          refine ma_ld (L := 8) (c := 244) 130 hO hR rfl rfl rfl dX13_moves_129 rfl (by omega) (by omega) (fun hi_129 => ?_)
          try simp (disch := decide) only [up_k, up_s, step_at, pool_at, poolN_at, opens_at, closes_at, fl_at, del_at, ins_at, rep_at, psh_at, trn_at, tak_at, pEn_at, cpQ_at, cpP_at, cpT_at, ti_at, th_at, rec_at, saves_at] at hi_129 ⊢
          refine X_iload 132 hO dX13_moves_130 rfl rfl ?_
          refine X_if_eq 135 140 hO dX13_moves_132 rfl rfl (by omega) (fun hc_132 => ?_) (fun hc_132 => ?_)
          ·
            refine X_iconst 141 hO dX13_moves_140 rfl ?_
            refine X_iadd 142 hO dX13_moves_141 rfl ?_
            refine ma_st (L := 8) (c := 244) 143 hO hR rfl rfl rfl dX13_moves_142 rfl (by omega) (by omega) (by omega) (fun hR => ?_)
            refine X_aload_n 144 hO dX13_moves_143 rfl rfl ?_
            refine ga_165 147 hO hR dX13_moves_144 rfl ?_
            refine X_iload_n 148 hO dX13_moves_147 rfl rfl ?_
            refine X_dup2 149 hO dX13_moves_148 rfl (by first | rfl | exact rv_cat _) (by first | rfl | exact rv_cat _) ?_
            refine ma_ld (L := 8) (c := 245) 150 hO hR rfl rfl rfl dX13_moves_149 rfl (by omega) (by omega) (fun hi_149 => ?_)
            try simp (disch := decide) only [up_k, up_s, step_at, pool_at, poolN_at, opens_at, closes_at, fl_at, del_at, ins_at, rep_at, psh_at, trn_at, tak_at, pEn_at, cpQ_at, cpP_at, cpT_at, ti_at, th_at, rec_at, saves_at] at hi_149 ⊢
            refine X_iload 152 hO dX13_moves_150 rfl rfl ?_
            refine X_if_eq 155 160 hO dX13_moves_152 rfl rfl (by omega) (fun hc_152 => ?_) (fun hc_152 => ?_)
            ·
              refine X_iconst 161 hO dX13_moves_160 rfl ?_
              refine X_iadd 162 hO dX13_moves_161 rfl ?_
              refine ma_st (L := 8) (c := 245) 163 hO hR rfl rfl rfl dX13_moves_162 rfl (by omega) (by omega) (by omega) (fun hR => ?_)
              refine X_goto hO dX13_moves_163 (tgt := 297) rfl ?_
              exact XM_vret hO hF hR rfl dX13_moves_297 (by first | (exfalso; omega) | (unfold m_mov m_mvR m_mvI m_mvD bi; rcases hc with ⟨h0, h1⟩ | ⟨h0, h1⟩ <;> subst h0 <;> (repeat (first | rfl | rw [if_pos (by omega)] | rw [if_neg (by omega)]))))
            ·
              refine X_iload 157 hO dX13_moves_155 rfl rfl ?_
              refine X_goto hO dX13_moves_157 (tgt := 161) rfl ?_
              refine X_iadd 162 hO dX13_moves_161 rfl ?_
              refine ma_st (L := 8) (c := 245) 163 hO hR rfl rfl rfl dX13_moves_162 rfl (by omega) (by omega) (by omega) (fun hR => ?_)
              refine X_goto hO dX13_moves_163 (tgt := 297) rfl ?_
              exact XM_vret hO hF hR rfl dX13_moves_297 (by first | (exfalso; omega) | (unfold m_mov m_mvR m_mvI m_mvD bi; rcases hc with ⟨h0, h1⟩ | ⟨h0, h1⟩ <;> subst h0 <;> (repeat (first | rfl | rw [if_pos (by omega)] | rw [if_neg (by omega)]))))
          ·
            refine X_iload 137 hO dX13_moves_135 rfl rfl ?_
            refine X_goto hO dX13_moves_137 (tgt := 141) rfl ?_
            refine X_iadd 142 hO dX13_moves_141 rfl ?_
            refine ma_st (L := 8) (c := 244) 143 hO hR rfl rfl rfl dX13_moves_142 rfl (by omega) (by omega) (by omega) (fun hR => ?_)
            refine X_aload_n 144 hO dX13_moves_143 rfl rfl ?_
            refine ga_165 147 hO hR dX13_moves_144 rfl ?_
            refine X_iload_n 148 hO dX13_moves_147 rfl rfl ?_
            refine X_dup2 149 hO dX13_moves_148 rfl (by first | rfl | exact rv_cat _) (by first | rfl | exact rv_cat _) ?_
            refine ma_ld (L := 8) (c := 245) 150 hO hR rfl rfl rfl dX13_moves_149 rfl (by omega) (by omega) (fun hi_149 => ?_)
            try simp (disch := decide) only [up_k, up_s, step_at, pool_at, poolN_at, opens_at, closes_at, fl_at, del_at, ins_at, rep_at, psh_at, trn_at, tak_at, pEn_at, cpQ_at, cpP_at, cpT_at, ti_at, th_at, rec_at, saves_at] at hi_149 ⊢
            refine X_iload 152 hO dX13_moves_150 rfl rfl ?_
            refine X_if_eq 155 160 hO dX13_moves_152 rfl rfl (by omega) (fun hc_152 => ?_) (fun hc_152 => ?_)
            ·
              refine X_iconst 161 hO dX13_moves_160 rfl ?_
              refine X_iadd 162 hO dX13_moves_161 rfl ?_
              refine ma_st (L := 8) (c := 245) 163 hO hR rfl rfl rfl dX13_moves_162 rfl (by omega) (by omega) (by omega) (fun hR => ?_)
              refine X_goto hO dX13_moves_163 (tgt := 297) rfl ?_
              exact XM_vret hO hF hR rfl dX13_moves_297 (by first | (exfalso; omega) | (unfold m_mov m_mvR m_mvI m_mvD bi; rcases hc with ⟨h0, h1⟩ | ⟨h0, h1⟩ <;> subst h0 <;> (repeat (first | rfl | rw [if_pos (by omega)] | rw [if_neg (by omega)]))))
            ·
              refine X_iload 157 hO dX13_moves_155 rfl rfl ?_
              refine X_goto hO dX13_moves_157 (tgt := 161) rfl ?_
              refine X_iadd 162 hO dX13_moves_161 rfl ?_
              refine ma_st (L := 8) (c := 245) 163 hO hR rfl rfl rfl dX13_moves_162 rfl (by omega) (by omega) (by omega) (fun hR => ?_)
              refine X_goto hO dX13_moves_163 (tgt := 297) rfl ?_
              exact XM_vret hO hF hR rfl dX13_moves_297 (by first | (exfalso; omega) | (unfold m_mov m_mvR m_mvI m_mvD bi; rcases hc with ⟨h0, h1⟩ | ⟨h0, h1⟩ <;> subst h0 <;> (repeat (first | rfl | rw [if_pos (by omega)] | rw [if_neg (by omega)]))))
        refine X_aload_n 83 hO dX13_moves_82 rfl rfl ?_
        refine X_aload_n 84 hO dX13_moves_83 rfl rfl ?_
        refine ga_406 87 hO hR dX13_moves_84 rfl (fun hi_84 => ?_)
        try simp (disch := decide) only [up_k, up_s, step_at, pool_at, poolN_at, opens_at, closes_at, fl_at, del_at, ins_at, rep_at, psh_at, trn_at, tak_at, pEn_at, cpQ_at, cpP_at, cpT_at, ti_at, th_at, rec_at, saves_at] at hi_84 ⊢
        refine X_if_ne 90 115 hO dX13_moves_87 rfl rfl (by omega) (fun hc_87 => ?_) (fun hc_87 => ?_)
        ·
          refine X_iconst 116 hO dX13_moves_115 rfl ?_
          refine X_goto hO dX13_moves_116 (tgt := 120) rfl ?_
          exact JP120 _ (by omega)
        ·
          refine X_iload_n 91 hO dX13_moves_90 rfl rfl ?_
          refine X_iload 93 hO dX13_moves_91 rfl rfl ?_
          refine X_icmp_le 96 102 hO dX13_moves_93 rfl rfl (by omega) (by omega) (fun hc_93 => ?_) (fun hc_93 => ?_)
          ·
            refine X_iload_n 103 hO dX13_moves_102 rfl rfl ?_
            refine X_iload 105 hO dX13_moves_103 rfl rfl ?_
            refine X_icmp_ne 108 119 hO dX13_moves_105 rfl rfl (by omega) (by omega) (fun hc_105 => ?_) (fun hc_105 => ?_)
            ·
              refine X_iconst 120 hO dX13_moves_119 rfl ?_
              exact JP120 _ (by omega)
            ·
              refine X_iload 110 hO dX13_moves_108 rfl rfl ?_
              refine X_iload 112 hO dX13_moves_110 rfl rfl ?_
              refine X_icmp_ne 115 119 hO dX13_moves_112 rfl rfl (by omega) (by omega) (fun hc_112 => ?_) (fun hc_112 => ?_)
              ·
                refine X_iconst 120 hO dX13_moves_119 rfl ?_
                exact JP120 _ (by omega)
              ·
                refine X_iconst 116 hO dX13_moves_115 rfl ?_
                refine X_goto hO dX13_moves_116 (tgt := 120) rfl ?_
                exact JP120 _ (by omega)
          ·
            refine X_iload_n 97 hO dX13_moves_96 rfl rfl ?_
            refine X_iload 99 hO dX13_moves_97 rfl rfl ?_
            refine X_icmp_lt 102 115 hO dX13_moves_99 rfl rfl (by omega) (by omega) (fun hc_99 => ?_) (fun hc_99 => ?_)
            ·
              refine X_iconst 116 hO dX13_moves_115 rfl ?_
              refine X_goto hO dX13_moves_116 (tgt := 120) rfl ?_
              exact JP120 _ (by omega)
            ·
              refine X_iload_n 103 hO dX13_moves_102 rfl rfl ?_
              refine X_iload 105 hO dX13_moves_103 rfl rfl ?_
              refine X_icmp_ne 108 119 hO dX13_moves_105 rfl rfl (by omega) (by omega) (fun hc_105 => ?_) (fun hc_105 => ?_)
              ·
                refine X_iconst 120 hO dX13_moves_119 rfl ?_
                exact JP120 _ (by omega)
              ·
                refine X_iload 110 hO dX13_moves_108 rfl rfl ?_
                refine X_iload 112 hO dX13_moves_110 rfl rfl ?_
                refine X_icmp_ne 115 119 hO dX13_moves_112 rfl rfl (by omega) (by omega) (fun hc_112 => ?_) (fun hc_112 => ?_)
                ·
                  refine X_iconst 120 hO dX13_moves_119 rfl ?_
                  exact JP120 _ (by omega)
                ·
                  refine X_iconst 116 hO dX13_moves_115 rfl ?_
                  refine X_goto hO dX13_moves_116 (tgt := 120) rfl ?_
                  exact JP120 _ (by omega)
      refine X_iload_n 57 hO dX13_moves_56 rfl rfl ?_
      refine X_iload 59 hO dX13_moves_57 rfl rfl ?_
      refine X_icmp_lt 62 75 hO dX13_moves_59 rfl rfl (by omega) (by omega) (fun hc_59 => ?_) (fun hc_59 => ?_)
      ·
        refine X_iconst 76 hO dX13_moves_75 rfl ?_
        refine X_goto hO dX13_moves_76 (tgt := 80) rfl ?_
        exact JP80 _ (by omega)
      ·
        refine X_iload_n 63 hO dX13_moves_62 rfl rfl ?_
        refine X_iload 65 hO dX13_moves_63 rfl rfl ?_
        refine X_icmp_ne 68 79 hO dX13_moves_65 rfl rfl (by omega) (by omega) (fun hc_65 => ?_) (fun hc_65 => ?_)
        ·
          refine X_iconst 80 hO dX13_moves_79 rfl ?_
          exact JP80 _ (by omega)
        ·
          refine X_iload 70 hO dX13_moves_68 rfl rfl ?_
          refine X_iload 72 hO dX13_moves_70 rfl rfl ?_
          refine X_icmp_ge 75 79 hO dX13_moves_72 rfl rfl (by omega) (by omega) (fun hc_72 => ?_) (fun hc_72 => ?_)
          ·
            refine X_iconst 80 hO dX13_moves_79 rfl ?_
            exact JP80 _ (by omega)
          ·
            refine X_iconst 76 hO dX13_moves_75 rfl ?_
            refine X_goto hO dX13_moves_76 (tgt := 80) rfl ?_
            exact JP80 _ (by omega)
  ·
    have ed : d = 2 := by omega
    have JP46 : ∀ (c : Int), ((c = 1 ∧ (w 138 μ.1 0 ≠ 0 ∨ (w 244 0 t ≤ q ∧ q < w 245 0 t))) ∨ (c = 0 ∧ ¬ (w 138 μ.1 0 ≠ 0 ∨ (w 244 0 t ≤ q ∧ q < w 245 0 t)))) → X κ 0 0 (w) 46 [some (rv μ.1), some (.int (I t)), some (.int (I d)), some (.int (I q)), some (.int (I k)), some (.int (I y)), some (.int (I (w 244 0 t))), some (.int (I (w 245 0 t))), none] [.int (I c), rv μ.1] := by
      intro c hc
      refine pa_406 49 hO hR dX13_moves_46 rfl (by omega) (fun hR => ?_)
      refine X_goto hO dX13_moves_49 (tgt := 297) rfl ?_
      exact XM_vret hO hF hR rfl dX13_moves_297 (by first | (exfalso; omega) | (unfold m_mov m_mvR m_mvI m_mvD bi; rcases hc with ⟨h0, h1⟩ | ⟨h0, h1⟩ <;> subst h0 <;> (repeat (first | rfl | rw [if_pos (by omega)] | rw [if_neg (by omega)]))))
    refine X_aload_n 22 hO dX13_moves_21 rfl rfl ?_
    refine X_aload_n 23 hO dX13_moves_22 rfl rfl ?_
    refine ga_406 26 hO hR dX13_moves_23 rfl (fun hi_23 => ?_)
    try simp (disch := decide) only [up_k, up_s, step_at, pool_at, poolN_at, opens_at, closes_at, fl_at, del_at, ins_at, rep_at, psh_at, trn_at, tak_at, pEn_at, cpQ_at, cpP_at, cpT_at, ti_at, th_at, rec_at, saves_at] at hi_23 ⊢
    refine X_if_ne 29 41 hO dX13_moves_26 rfl rfl (by omega) (fun hc_26 => ?_) (fun hc_26 => ?_)
    ·
      refine X_iconst 42 hO dX13_moves_41 rfl ?_
      refine X_goto hO dX13_moves_42 (tgt := 46) rfl ?_
      exact JP46 _ (by omega)
    ·
      refine X_iload_n 30 hO dX13_moves_29 rfl rfl ?_
      refine X_iload 32 hO dX13_moves_30 rfl rfl ?_
      refine X_icmp_lt 35 45 hO dX13_moves_32 rfl rfl (by omega) (by omega) (fun hc_32 => ?_) (fun hc_32 => ?_)
      ·
        refine X_iconst 46 hO dX13_moves_45 rfl ?_
        exact JP46 _ (by omega)
      ·
        refine X_iload_n 36 hO dX13_moves_35 rfl rfl ?_
        refine X_iload 38 hO dX13_moves_36 rfl rfl ?_
        refine X_icmp_ge 41 45 hO dX13_moves_38 rfl rfl (by omega) (by omega) (fun hc_38 => ?_) (fun hc_38 => ?_)
        ·
          refine X_iconst 46 hO dX13_moves_45 rfl ?_
          exact JP46 _ (by omega)
        ·
          refine X_iconst 42 hO dX13_moves_41 rfl ?_
          refine X_goto hO dX13_moves_42 (tgt := 46) rfl ?_
          exact JP46 _ (by omega)
