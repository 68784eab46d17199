theorem up_self {w : Mm} {c : Nat} {a i : Int} : up w c a i (w c a i) = w := by
  funext c' a' i'
  simp only [up]
  split
  · rename_i h; rw [h.1, h.2.1, h.2.2]
  · rfl
/-- the opposite of a step moves a trace ahead of it -/
def m_opx (t k o : Int) (w : Mm) : Mm := up (up w 244 0 o (w 244 0 o + if w 246 0 (8 * o + t) = 1 then k else 0)) 245 0 o (w 244 0 o + if w 246 0 (8 * o + t) = 1 then k else 0)
def m_op1 (μ : MU) (t q k o : Int) (w : Mm) : Mm := if w 241 0 t = 1 ∧ w 244 0 o = q ∧ w 245 0 o = q then m_opx t k o w else if w 241 0 t = 2 then w else m_mov μ o (if w 241 0 t = 0 then 1 else 0) q k (-1) w
def m_opN (μ : MU) (t q k : Int) : Nat → Mm → Mm
  | 0, w => w
  | n + 1, w => m_op1 μ t q k n (m_opN μ t q k n w)
def m_opD (μ : MU) (q k : Int) (w : Mm) : Mm := up (m_del μ q k w) 207 0 0 (dbF (m_del μ q k w 207 0 0) q k)
def m_opI (μ : MU) (q k : Int) (w : Mm) : Mm := up (m_ins μ q k w) 207 0 0 (mvF (m_ins μ q k w 207 0 0) q k 0)
def m_opp (μ : MU) (PL : Int → List Int) (nd t : Int) (w : Mm) : Int × Mm :=
  if w 241 0 t = 0 then (1, m_opN μ t (w 244 0 t) (w 243 0 t) t.toNat (m_opD μ (w 244 0 t) (w 243 0 t) w))
  else if w 241 0 t = 2 then (1, m_opN μ t (w 244 0 t) (w 243 0 t) t.toNat (m_rep μ (w 244 0 t) (m_rem μ PL nd t w 240 0 0) (m_rem μ PL nd t w)))
  else if w 201 0 0 + w 243 0 t > 400 then (0, w) else (1, m_opN μ t (w 244 0 t) (w 243 0 t) t.toNat (m_opI μ (w 244 0 t) (w 243 0 t) (m_rem μ PL nd t w)))
theorem mov_246 {μ : MU} {t d q k a i : Int} {w : Mm} (hd : d = 0 ∨ d = 1) : m_mov μ t d q k (-1) w 246 a i = w 246 a i := by
  unfold m_mov
  rcases hd with rfl | rfl
  · rw [if_neg (show ¬ ((0 : Int) = 2) by decide), if_pos rfl]
    unfold m_mvI; simp (disch := decide) only [up_k]
  · rw [if_neg (show ¬ ((1 : Int) = 2) by decide), if_neg (show ¬ ((1 : Int) = 0) by decide)]
    unfold m_mvD
    rw [if_pos (show ((-1 : Int)) < 0 by decide), if_pos (show ((-1 : Int)) < 0 by decide), show 8 * t + 0 = 8 * t by omega]
    by_cases e2 : a = 0 ∧ i = 8 * t
    · rw [e2.1, e2.2, up_s]
    · have : ∀ (V : Mm) (v : Int), up V 246 0 (8 * t) v 246 a i = V 246 a i := fun V v => by
        simp only [up]; rw [if_neg (by omega)]
      rw [this]; simp (disch := decide) only [up_k]
theorem op1_at {μ : MU} {t q k o : Int} {w : Mm} {c : Nat} {a i : Int} (h : c ≠ 138 ∧ c ≠ 244 ∧ c ≠ 245) : m_op1 μ t q k o w c a i = w c a i := by
  unfold m_op1
  split
  · unfold m_opx; rw [up_k _ h.2.2, up_k _ h.2.1]
  · split
    · rfl
    · by_cases e : c = 246
      · subst e
        exact mov_246 (by split; exact Or.inr rfl; exact Or.inl rfl)
      · exact mov_at ⟨h.1, h.2.1, h.2.2, e⟩
theorem opN_at {μ : MU} {t q k : Int} {w : Mm} {c : Nat} {a i : Int} (h : c ≠ 138 ∧ c ≠ 244 ∧ c ≠ 245) : ∀ n, m_opN μ t q k n w c a i = w c a i
  | 0 => rfl
  | n + 1 => by simp only [m_opN]; rw [op1_at h, opN_at h n]
theorem op1_o {μ : MU} {t q k o i : Int} {w : Mm} {c : Nat} (hc : c = 244 ∨ c = 245) (h : i ≠ o) : m_op1 μ t q k o w c 0 i = w c 0 i := by
  unfold m_op1
  split
  · unfold m_opx
    rcases hc with rfl | rfl
    · rw [up_k _ (by decide), up_i _ _ _ _ _ _ h]
    · rw [up_i _ _ _ _ _ _ h, up_k _ (by decide)]
  · split
    · rfl
    · exact mov_o hc h
theorem opN_o {μ : MU} {t q k i : Int} {w : Mm} {c : Nat} (hc : c = 244 ∨ c = 245) : ∀ n : Nat, (n : Int) ≤ i → m_opN μ t q k n w c 0 i = w c 0 i
  | 0, _ => rfl
  | n + 1, h => by simp only [m_opN]; rw [op1_o hc (by omega), opN_o hc n (by omega)]
theorem opN_s {μ : MU} {t q k j : Int} {w W : Mm} (hj : 0 ≤ j) (h : W = m_op1 μ t q k j (m_opN μ t q k j.toNat w)) : W = m_opN μ t q k (j + 1).toNat w := by
  rw [h, show (j + 1).toNat = j.toNat + 1 by omega]
  simp only [m_opN]
  rw [show ((j.toNat : Nat) : Int) = j by omega]
theorem dX13_opposes_0 : decode cX13_opposes 0 = .ok (.aload_n 0, 1) := by decide +kernel
theorem dX13_opposes_1 : decode cX13_opposes 1 = .ok (.getfield 162, 3) := by decide +kernel
theorem dX13_opposes_4 : decode cX13_opposes 4 = .ok (.iload_n 2, 1) := by decide +kernel
theorem dX13_opposes_5 : decode cX13_opposes 5 = .ok (.iaload, 1) := by decide +kernel
theorem dX13_opposes_6 : decode cX13_opposes 6 = .ok (.istore_n 3, 1) := by decide +kernel
theorem dX13_opposes_7 : decode cX13_opposes 7 = .ok (.aload_n 0, 1) := by decide +kernel
theorem dX13_opposes_8 : decode cX13_opposes 8 = .ok (.getfield 159, 3) := by decide +kernel
theorem dX13_opposes_11 : decode cX13_opposes 11 = .ok (.iload_n 2, 1) := by decide +kernel
theorem dX13_opposes_12 : decode cX13_opposes 12 = .ok (.iaload, 1) := by decide +kernel
theorem dX13_opposes_13 : decode cX13_opposes 13 = .ok (.istore 4, 2) := by decide +kernel
theorem dX13_opposes_15 : decode cX13_opposes 15 = .ok (.aload_n 0, 1) := by decide +kernel
theorem dX13_opposes_16 : decode cX13_opposes 16 = .ok (.getfield 153, 3) := by decide +kernel
theorem dX13_opposes_19 : decode cX13_opposes 19 = .ok (.iload_n 2, 1) := by decide +kernel
theorem dX13_opposes_20 : decode cX13_opposes 20 = .ok (.iaload, 1) := by decide +kernel
theorem dX13_opposes_21 : decode cX13_opposes 21 = .ok (.ifCond .ne 31, 3) := by decide +kernel
theorem dX13_opposes_24 : decode cX13_opposes 24 = .ok (.aload_n 0, 1) := by decide +kernel
theorem dX13_opposes_25 : decode cX13_opposes 25 = .ok (.iload_n 3, 1) := by decide +kernel
theorem dX13_opposes_26 : decode cX13_opposes 26 = .ok (.iload 4, 2) := by decide +kernel
theorem dX13_opposes_28 : decode cX13_opposes 28 = .ok (.invokevirtual 309, 3) := by decide +kernel
theorem dX13_opposes_31 : decode cX13_opposes 31 = .ok (.aload_n 0, 1) := by decide +kernel
theorem dX13_opposes_32 : decode cX13_opposes 32 = .ok (.getfield 31, 3) := by decide +kernel
theorem dX13_opposes_35 : decode cX13_opposes 35 = .ok (.iconst 0, 1) := by decide +kernel
theorem dX13_opposes_36 : decode cX13_opposes 36 = .ok (.aload_n 0, 1) := by decide +kernel
theorem dX13_opposes_37 : decode cX13_opposes 37 = .ok (.getfield 31, 3) := by decide +kernel
theorem dX13_opposes_40 : decode cX13_opposes 40 = .ok (.iconst 0, 1) := by decide +kernel
theorem dX13_opposes_41 : decode cX13_opposes 41 = .ok (.iaload, 1) := by decide +kernel
theorem dX13_opposes_42 : decode cX13_opposes 42 = .ok (.iload_n 3, 1) := by decide +kernel
theorem dX13_opposes_43 : decode cX13_opposes 43 = .ok (.iload 4, 2) := by decide +kernel
theorem dX13_opposes_45 : decode cX13_opposes 45 = .ok (.invokestatic 199, 3) := by decide +kernel
theorem dX13_opposes_48 : decode cX13_opposes 48 = .ok (.iastore, 1) := by decide +kernel
theorem dX13_opposes_49 : decode cX13_opposes 49 = .ok (.goto 83, 3) := by decide +kernel
theorem dX13_opposes_52 : decode cX13_opposes 52 = .ok (.aload_n 0, 1) := by decide +kernel
theorem dX13_opposes_53 : decode cX13_opposes 53 = .ok (.getfield 153, 3) := by decide +kernel
theorem dX13_opposes_56 : decode cX13_opposes 56 = .ok (.iload_n 2, 1) := by decide +kernel
theorem dX13_opposes_57 : decode cX13_opposes 57 = .ok (.iaload, 1) := by decide +kernel
theorem dX13_opposes_58 : decode cX13_opposes 58 = .ok (.iconst 2, 1) := by decide +kernel
theorem dX13_opposes_59 : decode cX13_opposes 59 = .ok (.if_icmp .ne 23, 3) := by decide +kernel
theorem dX13_opposes_62 : decode cX13_opposes 62 = .ok (.aload_n 0, 1) := by decide +kernel
theorem dX13_opposes_63 : decode cX13_opposes 63 = .ok (.iload_n 1, 1) := by decide +kernel
theorem dX13_opposes_64 : decode cX13_opposes 64 = .ok (.iload_n 2, 1) := by decide +kernel
theorem dX13_opposes_65 : decode cX13_opposes 65 = .ok (.invokevirtual 423, 3) := by decide +kernel
theorem dX13_opposes_68 : decode cX13_opposes 68 = .ok (.aload_n 0, 1) := by decide +kernel
theorem dX13_opposes_69 : decode cX13_opposes 69 = .ok (.iload_n 3, 1) := by decide +kernel
theorem dX13_opposes_70 : decode cX13_opposes 70 = .ok (.aload_n 0, 1) := by decide +kernel
theorem dX13_opposes_71 : decode cX13_opposes 71 = .ok (.getfield 150, 3) := by decide +kernel
theorem dX13_opposes_74 : decode cX13_opposes 74 = .ok (.iconst 0, 1) := by decide +kernel
theorem dX13_opposes_75 : decode cX13_opposes 75 = .ok (.iaload, 1) := by decide +kernel
theorem dX13_opposes_76 : decode cX13_opposes 76 = .ok (.invokevirtual 255, 3) := by decide +kernel
theorem dX13_opposes_79 : decode cX13_opposes 79 = .ok (.goto 53, 3) := by decide +kernel
theorem dX13_opposes_82 : decode cX13_opposes 82 = .ok (.aload_n 0, 1) := by decide +kernel
theorem dX13_opposes_83 : decode cX13_opposes 83 = .ok (.getfield 13, 3) := by decide +kernel
theorem dX13_opposes_86 : decode cX13_opposes 86 = .ok (.iconst 0, 1) := by decide +kernel
theorem dX13_opposes_87 : decode cX13_opposes 87 = .ok (.iaload, 1) := by decide +kernel
theorem dX13_opposes_88 : decode cX13_opposes 88 = .ok (.iload 4, 2) := by decide +kernel
theorem dX13_opposes_90 : decode cX13_opposes 90 = .ok (.iadd, 1) := by decide +kernel
theorem dX13_opposes_91 : decode cX13_opposes 91 = .ok (.sipush 400, 3) := by decide +kernel
theorem dX13_opposes_94 : decode cX13_opposes 94 = .ok (.if_icmp .le 5, 3) := by decide +kernel
theorem dX13_opposes_97 : decode cX13_opposes 97 = .ok (.iconst 0, 1) := by decide +kernel
theorem dX13_opposes_98 : decode cX13_opposes 98 = .ok (.ireturn, 1) := by decide +kernel
theorem dX13_opposes_99 : decode cX13_opposes 99 = .ok (.aload_n 0, 1) := by decide +kernel
theorem dX13_opposes_100 : decode cX13_opposes 100 = .ok (.iload_n 1, 1) := by decide +kernel
theorem dX13_opposes_101 : decode cX13_opposes 101 = .ok (.iload_n 2, 1) := by decide +kernel
theorem dX13_opposes_102 : decode cX13_opposes 102 = .ok (.invokevirtual 423, 3) := by decide +kernel
theorem dX13_opposes_105 : decode cX13_opposes 105 = .ok (.aload_n 0, 1) := by decide +kernel
theorem dX13_opposes_106 : decode cX13_opposes 106 = .ok (.iload_n 3, 1) := by decide +kernel
theorem dX13_opposes_107 : decode cX13_opposes 107 = .ok (.iload 4, 2) := by decide +kernel
theorem dX13_opposes_109 : decode cX13_opposes 109 = .ok (.invokevirtual 300, 3) := by decide +kernel
theorem dX13_opposes_112 : decode cX13_opposes 112 = .ok (.aload_n 0, 1) := by decide +kernel
theorem dX13_opposes_113 : decode cX13_opposes 113 = .ok (.getfield 31, 3) := by decide +kernel
theorem dX13_opposes_116 : decode cX13_opposes 116 = .ok (.iconst 0, 1) := by decide +kernel
theorem dX13_opposes_117 : decode cX13_opposes 117 = .ok (.aload_n 0, 1) := by decide +kernel
theorem dX13_opposes_118 : decode cX13_opposes 118 = .ok (.aload_n 0, 1) := by decide +kernel
theorem dX13_opposes_119 : decode cX13_opposes 119 = .ok (.getfield 31, 3) := by decide +kernel
theorem dX13_opposes_122 : decode cX13_opposes 122 = .ok (.iconst 0, 1) := by decide +kernel
theorem dX13_opposes_123 : decode cX13_opposes 123 = .ok (.iaload, 1) := by decide +kernel
theorem dX13_opposes_124 : decode cX13_opposes 124 = .ok (.iload_n 3, 1) := by decide +kernel
theorem dX13_opposes_125 : decode cX13_opposes 125 = .ok (.iload 4, 2) := by decide +kernel
theorem dX13_opposes_127 : decode cX13_opposes 127 = .ok (.iconst 0, 1) := by decide +kernel
theorem dX13_opposes_128 : decode cX13_opposes 128 = .ok (.invokevirtual 195, 3) := by decide +kernel
theorem dX13_opposes_131 : decode cX13_opposes 131 = .ok (.iastore, 1) := by decide +kernel
theorem dX13_opposes_132 : decode cX13_opposes 132 = .ok (.iconst 0, 1) := by decide +kernel
theorem dX13_opposes_133 : decode cX13_opposes 133 = .ok (.istore 5, 2) := by decide +kernel
theorem dX13_opposes_135 : decode cX13_opposes 135 = .ok (.iload 5, 2) := by decide +kernel
theorem dX13_opposes_137 : decode cX13_opposes 137 = .ok (.iload_n 2, 1) := by decide +kernel
theorem dX13_opposes_138 : decode cX13_opposes 138 = .ok (.if_icmp .ge 136, 3) := by decide +kernel
theorem dX13_opposes_141 : decode cX13_opposes 141 = .ok (.aload_n 0, 1) := by decide +kernel
theorem dX13_opposes_142 : decode cX13_opposes 142 = .ok (.getfield 153, 3) := by decide +kernel
theorem dX13_opposes_145 : decode cX13_opposes 145 = .ok (.iload_n 2, 1) := by decide +kernel
theorem dX13_opposes_146 : decode cX13_opposes 146 = .ok (.iaload, 1) := by decide +kernel
theorem dX13_opposes_147 : decode cX13_opposes 147 = .ok (.iconst 1, 1) := by decide +kernel
theorem dX13_opposes_148 : decode cX13_opposes 148 = .ok (.if_icmp .ne 29, 3) := by decide +kernel
theorem dX13_opposes_151 : decode cX13_opposes 151 = .ok (.aload_n 0, 1) := by decide +kernel
theorem dX13_opposes_152 : decode cX13_opposes 152 = .ok (.getfield 162, 3) := by decide +kernel
theorem dX13_opposes_155 : decode cX13_opposes 155 = .ok (.iload 5, 2) := by decide +kernel
theorem dX13_opposes_157 : decode cX13_opposes 157 = .ok (.iaload, 1) := by decide +kernel
theorem dX13_opposes_158 : decode cX13_opposes 158 = .ok (.iload_n 3, 1) := by decide +kernel
theorem dX13_opposes_159 : decode cX13_opposes 159 = .ok (.if_icmp .ne 18, 3) := by decide +kernel
theorem dX13_opposes_162 : decode cX13_opposes 162 = .ok (.aload_n 0, 1) := by decide +kernel
theorem dX13_opposes_163 : decode cX13_opposes 163 = .ok (.getfield 165, 3) := by decide +kernel
theorem dX13_opposes_166 : decode cX13_opposes 166 = .ok (.iload 5, 2) := by decide +kernel
theorem dX13_opposes_168 : decode cX13_opposes 168 = .ok (.iaload, 1) := by decide +kernel
theorem dX13_opposes_169 : decode cX13_opposes 169 = .ok (.iload_n 3, 1) := by decide +kernel
theorem dX13_opposes_170 : decode cX13_opposes 170 = .ok (.if_icmp .ne 7, 3) := by decide +kernel
theorem dX13_opposes_173 : decode cX13_opposes 173 = .ok (.iconst 1, 1) := by decide +kernel
theorem dX13_opposes_174 : decode cX13_opposes 174 = .ok (.goto 4, 3) := by decide +kernel
theorem dX13_opposes_177 : decode cX13_opposes 177 = .ok (.iconst 0, 1) := by decide +kernel
theorem dX13_opposes_178 : decode cX13_opposes 178 = .ok (.istore 6, 2) := by decide +kernel
theorem dX13_opposes_180 : decode cX13_opposes 180 = .ok (.iload 6, 2) := by decide +kernel
theorem dX13_opposes_182 : decode cX13_opposes 182 = .ok (.ifCond .eq 52, 3) := by decide +kernel
theorem dX13_opposes_185 : decode cX13_opposes 185 = .ok (.aload_n 0, 1) := by decide +kernel
theorem dX13_opposes_186 : decode cX13_opposes 186 = .ok (.getfield 162, 3) := by decide +kernel
theorem dX13_opposes_189 : decode cX13_opposes 189 = .ok (.iload 5, 2) := by decide +kernel
theorem dX13_opposes_191 : decode cX13_opposes 191 = .ok (.dup2, 1) := by decide +kernel
theorem dX13_opposes_192 : decode cX13_opposes 192 = .ok (.iaload, 1) := by decide +kernel
theorem dX13_opposes_193 : decode cX13_opposes 193 = .ok (.aload_n 0, 1) := by decide +kernel
theorem dX13_opposes_194 : decode cX13_opposes 194 = .ok (.getfield 168, 3) := by decide +kernel
theorem dX13_opposes_197 : decode cX13_opposes 197 = .ok (.bipush 8, 2) := by decide +kernel
theorem dX13_opposes_199 : decode cX13_opposes 199 = .ok (.iload 5, 2) := by decide +kernel
theorem dX13_opposes_201 : decode cX13_opposes 201 = .ok (.imul, 1) := by decide +kernel
theorem dX13_opposes_202 : decode cX13_opposes 202 = .ok (.iload_n 2, 1) := by decide +kernel
theorem dX13_opposes_203 : decode cX13_opposes 203 = .ok (.iadd, 1) := by decide +kernel
theorem dX13_opposes_204 : decode cX13_opposes 204 = .ok (.iaload, 1) := by decide +kernel
theorem dX13_opposes_205 : decode cX13_opposes 205 = .ok (.iconst 1, 1) := by decide +kernel
theorem dX13_opposes_206 : decode cX13_opposes 206 = .ok (.if_icmp .ne 8, 3) := by decide +kernel
theorem dX13_opposes_209 : decode cX13_opposes 209 = .ok (.iload 4, 2) := by decide +kernel
theorem dX13_opposes_211 : decode cX13_opposes 211 = .ok (.goto 4, 3) := by decide +kernel
theorem dX13_opposes_214 : decode cX13_opposes 214 = .ok (.iconst 0, 1) := by decide +kernel
theorem dX13_opposes_215 : decode cX13_opposes 215 = .ok (.iadd, 1) := by decide +kernel
theorem dX13_opposes_216 : decode cX13_opposes 216 = .ok (.iastore, 1) := by decide +kernel
theorem dX13_opposes_217 : decode cX13_opposes 217 = .ok (.aload_n 0, 1) := by decide +kernel
theorem dX13_opposes_218 : decode cX13_opposes 218 = .ok (.getfield 165, 3) := by decide +kernel
theorem dX13_opposes_221 : decode cX13_opposes 221 = .ok (.iload 5, 2) := by decide +kernel
theorem dX13_opposes_223 : decode cX13_opposes 223 = .ok (.aload_n 0, 1) := by decide +kernel
theorem dX13_opposes_224 : decode cX13_opposes 224 = .ok (.getfield 162, 3) := by decide +kernel
theorem dX13_opposes_227 : decode cX13_opposes 227 = .ok (.iload 5, 2) := by decide +kernel
theorem dX13_opposes_229 : decode cX13_opposes 229 = .ok (.iaload, 1) := by decide +kernel
theorem dX13_opposes_230 : decode cX13_opposes 230 = .ok (.iastore, 1) := by decide +kernel
theorem dX13_opposes_231 : decode cX13_opposes 231 = .ok (.goto 37, 3) := by decide +kernel
theorem dX13_opposes_234 : decode cX13_opposes 234 = .ok (.aload_n 0, 1) := by decide +kernel
theorem dX13_opposes_235 : decode cX13_opposes 235 = .ok (.getfield 153, 3) := by decide +kernel
theorem dX13_opposes_238 : decode cX13_opposes 238 = .ok (.iload_n 2, 1) := by decide +kernel
theorem dX13_opposes_239 : decode cX13_opposes 239 = .ok (.iaload, 1) := by decide +kernel
theorem dX13_opposes_240 : decode cX13_opposes 240 = .ok (.iconst 2, 1) := by decide +kernel
theorem dX13_opposes_241 : decode cX13_opposes 241 = .ok (.if_icmp .eq 27, 3) := by decide +kernel
theorem dX13_opposes_244 : decode cX13_opposes 244 = .ok (.aload_n 0, 1) := by decide +kernel
theorem dX13_opposes_245 : decode cX13_opposes 245 = .ok (.iload 5, 2) := by decide +kernel
theorem dX13_opposes_247 : decode cX13_opposes 247 = .ok (.aload_n 0, 1) := by decide +kernel
theorem dX13_opposes_248 : decode cX13_opposes 248 = .ok (.getfield 153, 3) := by decide +kernel
theorem dX13_opposes_251 : decode cX13_opposes 251 = .ok (.iload_n 2, 1) := by decide +kernel
theorem dX13_opposes_252 : decode cX13_opposes 252 = .ok (.iaload, 1) := by decide +kernel
theorem dX13_opposes_253 : decode cX13_opposes 253 = .ok (.ifCond .ne 7, 3) := by decide +kernel
theorem dX13_opposes_256 : decode cX13_opposes 256 = .ok (.iconst 1, 1) := by decide +kernel
theorem dX13_opposes_257 : decode cX13_opposes 257 = .ok (.goto 4, 3) := by decide +kernel
theorem dX13_opposes_260 : decode cX13_opposes 260 = .ok (.iconst 0, 1) := by decide +kernel
theorem dX13_opposes_261 : decode cX13_opposes 261 = .ok (.iload_n 3, 1) := by decide +kernel
theorem dX13_opposes_262 : decode cX13_opposes 262 = .ok (.iload 4, 2) := by decide +kernel
theorem dX13_opposes_264 : decode cX13_opposes 264 = .ok (.iconst (-1), 1) := by decide +kernel
theorem dX13_opposes_265 : decode cX13_opposes 265 = .ok (.invokevirtual 413, 3) := by decide +kernel
theorem dX13_opposes_268 : decode cX13_opposes 268 = .ok (.iinc 5 1, 3) := by decide +kernel
theorem dX13_opposes_271 : decode cX13_opposes 271 = .ok (.goto (-136), 3) := by decide +kernel
theorem dX13_opposes_274 : decode cX13_opposes 274 = .ok (.iconst 1, 1) := by decide +kernel
theorem dX13_opposes_275 : decode cX13_opposes 275 = .ok (.ireturn, 1) := by decide +kernel
set_option maxRecDepth 4000 in
theorem c_opposes (γ : LC) (μ : MU) (w : Mm) (nd t M S P : Int) (PL : Int → List Int) (hB : LB μ S P w) (hS : S < 30000) (hP : P + 400 ≤ 524288) (hT : TB μ M w) (hM : M ≤ 600) (hnd : 1 ≤ nd ∧ nd < w 124 μ.1 0) (ht : 0 ≤ t ∧ t < 8) (hS1 : SB 1 w) (hRP : RPk μ PL (w 217 0 nd) w) (hC : CHL 640 w (w 221 0 nd) (PL nd)) (hPl : (PL nd).length ≤ 640) (hL : LGL (nodeL w (PL nd)) (m_rpl μ PL (w 217 0 nd) w)) (hk : (0 ≤ w 241 0 t ∧ w 241 0 t ≤ 2) ∧ ((0 ≤ w 242 0 t ∧ 0 ≤ w 243 0 t) ∧ w 242 0 t + w 243 0 t ≤ 400) ∧ (w 245 0 t - w 244 0 t = if w 241 0 t = 1 then 0 else w 243 0 t) ∧ (w 241 0 t = 2 → w 243 0 t = 1)) (htv : ∀ o, 0 ≤ o → o ≤ t → 0 ≤ w 244 0 o ∧ w 244 0 o ≤ w 245 0 o ∧ w 245 0 o ≤ w 201 0 0) : CMi γ μ 6 mX13_opposes [.int (I nd), .int (I t)] w (fun r w' => r = (m_opp μ PL nd t w).1 ∧ w' = (m_opp μ PL nd t w).2) := by
  refine CMi_of rfl (by simp [rv_cat, Value.category]) rfl ?_
  rintro κ hO hF rfl hR
  have hD := hF.dp
  show X κ 0 0 w 0 [some (rv μ.1), some (.int (I nd)), some (.int (I t)), none, none, none, none] []
  obtain ⟨f1, f2, f3, f4, f5⟩ := hB.f
  have hBb : bB w := hB.2.2.1
  have hmk : bM 0 w := fun i a b => by have := hB.1.2.2.1 i a b; omega
  have he : bE w := fun i a b => hB.2.1.2.1 i (by omega) (by omega)
  obtain ⟨k1, k2, k3, k4⟩ := hk
  have ht0 := htv t ht.1 (Int.le_refl _)
  have hkq : (w 241 0 t = 1 → w 245 0 t = w 244 0 t) ∧ (w 241 0 t ≠ 1 → w 245 0 t = w 244 0 t + w 243 0 t) := by
    constructor
    · intro e; rw [if_pos e] at k3; omega
    · intro e; rw [if_neg e] at k3; omega
  clear k3
  have hr1 := rem1_ok (t := t) hS1 hBb hRP hL
  have eR : ∀ c a i, (c < 200 ∨ 206 < c) → c ≠ 240 → c ≠ 127 → c ≠ 226 → (m_rem μ PL nd t w) c a i = w c a i := fun c a i y1 y2 y3 y4 => by unfold m_rem; rw [fl_at y2]; exact hr1.2.2.2 c a i y1 y2 y3 y4
  have eF : ∀ c a i, 200 ≤ c → c ≤ 206 → i < st0 c → (m_rem μ PL nd t w) c a i = w c a i := fun c a i y1 y2 y3 => by unfold m_rem; rw [fl_at (by omega)]; exact hr1.2.2.1 c a i y1 y2 (Or.inl y3)
  have e201 : (m_rem μ PL nd t w) 201 0 0 = w 201 0 0 := eF 201 _ _ (by decide) (by decide) (by decide)
  have hRmk : bM 0 (m_rem μ PL nd t w) := fun i a b => by rw [eF 202 _ _ (by decide) (by decide) (by show i < 6; omega)]; exact hmk i a b
  have hRhv : 0 ≤ (m_rem μ PL nd t w) 210 0 0 ∧ (m_rem μ PL nd t w) 210 0 0 ≤ 4 := by rw [eR 210 _ _ (by decide) (by decide) (by decide) (by decide)]; exact f2
  have hRhe : bE (m_rem μ PL nd t w) := fun i a b => by rw [eR 208 _ _ (by decide) (by decide) (by decide) (by decide), eR 209 _ _ (by decide) (by decide) (by decide) (by decide)]; exact he i a b
  have eR1 : (m_rem μ PL nd t w) 120 μ.1 0 = w 120 μ.1 0 := eR 120 _ _ (by decide) (by decide) (by decide) (by decide)
  have eR2 : (m_rem μ PL nd t w) 121 μ.1 0 = w 121 μ.1 0 := eR 121 _ _ (by decide) (by decide) (by decide) (by decide)
  have hbf : bB (m_rem μ PL nd t w) := by
    intro i a b
    unfold m_rem
    simp only [fl, true_and]
    split
    · exact hr1.1.2.1 _ (by omega) (by omega)
    · exact hr1.2.1 i a b
  have hbt := hbf 0 (by omega) (by omega)
  have hvF : m_vF w ≤ w 207 0 0 := f3.2.1
  have hz7 : 0 ≤ w 207 0 0 ∧ w 207 0 0 ≤ 400 := by omega
  refine X_aload_n 1 hO dX13_opposes_0 rfl rfl ?_
  refine ga_162 4 hO hR dX13_opposes_1 rfl ?_
  refine X_iload_n 5 hO dX13_opposes_4 rfl rfl ?_
  refine ma_ld (L := 8) (c := 244) 6 hO hR rfl rfl rfl dX13_opposes_5 rfl (by omega) (by omega) (fun hi_5 => ?_)
  refine X_istore_n 7 hO dX13_opposes_6 rfl rfl ?_
  refine X_aload_n 8 hO dX13_opposes_7 rfl rfl ?_
  refine ga_159 11 hO hR dX13_opposes_8 rfl ?_
  refine X_iload_n 12 hO dX13_opposes_11 rfl rfl ?_
  refine ma_ld (L := 8) (c := 243) 13 hO hR rfl rfl rfl dX13_opposes_12 rfl (by omega) (by omega) (fun hi_12 => ?_)
  refine X_istore 15 hO dX13_opposes_13 rfl rfl ?_
  have JP132 : ∀ (W3 : Mm), (∀ c a i, 241 ≤ c → c ≤ 246 → W3 c a i = w c a i) → (m_opp μ PL nd t w = (1, m_opN μ t (w 244 0 t) (w 243 0 t) t.toNat W3)) → (RM W3 μ) → X κ 0 0 (W3) 132 [some (rv μ.1), some (.int (I nd)), some (.int (I t)), some (.int (I (w 244 0 t))), some (.int (I (w 243 0 t))), none, none] [] := by
    intro W3 hW3 hop hR
    refine X_iconst 133 hO dX13_opposes_132 rfl ?_
    refine X_istore 135 hO dX13_opposes_133 rfl rfl ?_
    have LP135 : ∀ (n : Nat) (o : Int), (t - o).toNat < n → (0 ≤ o ∧ o ≤ t) → RM ((m_opN μ t (w 244 0 t) (w 243 0 t) o.toNat W3)) μ → X κ 0 0 ((m_opN μ t (w 244 0 t) (w 243 0 t) o.toNat W3)) 135 [some (rv μ.1), some (.int (I nd)), some (.int (I t)), some (.int (I (w 244 0 t))), some (.int (I (w 243 0 t))), some (.int (I o)), none] [] := by
      intro n
      induction n with
      | zero => intro o hm; exact absurd hm (Nat.not_lt_zero _)
      | succ n ih =>
        intro o hm ho hR
        have eW : ∀ c a i, c = 241 ∨ c = 242 ∨ c = 243 ∨ c = 246 → (m_opN μ t (w 244 0 t) (w 243 0 t) o.toNat W3) c a i = w c a i := fun c a i h => by rw [opN_at (by omega)]; exact hW3 c a i (by omega) (by omega)
        have e4 : (m_opN μ t (w 244 0 t) (w 243 0 t) o.toNat W3) 244 0 o = w 244 0 o := by rw [opN_o (Or.inl rfl) _ (by omega)]; exact hW3 _ _ _ (by decide) (by decide)
        have e5 : (m_opN μ t (w 244 0 t) (w 243 0 t) o.toNat W3) 245 0 o = w 245 0 o := by rw [opN_o (Or.inr rfl) _ (by omega)]; exact hW3 _ _ _ (by decide) (by decide)
        have hto := htv o ho.1 ho.2
        refine X_iload 137 hO dX13_opposes_135 rfl rfl ?_
        refine X_iload_n 138 hO dX13_opposes_137 rfl rfl ?_
        refine X_icmp_ge 141 274 hO dX13_opposes_138 rfl rfl (by omega) (by omega) (fun hc_138 => ?_) (fun hc_138 => ?_)
        ·
          have eo : o = t := by omega
          subst eo
          refine X_iconst 275 hO dX13_opposes_274 rfl ?_
          exact XM_iret hO hF hR rfl (by first | exact Or.inl rfl | exact Or.inr ⟨rfl, bi_01 _⟩ | exact Or.inr ⟨rfl, by omega⟩) dX13_opposes_275 (by omega) (by rw [hop]; exact ⟨rfl, rfl⟩)
        ·
          have JP178 : ∀ (z : Int), ((z = 1 ∧ (w 241 0 t = 1 ∧ w 244 0 o = w 244 0 t ∧ w 245 0 o = w 244 0 t)) ∨ (z = 0 ∧ ¬ (w 241 0 t = 1 ∧ w 244 0 o = w 244 0 t ∧ w 245 0 o = w 244 0 t))) → X κ 0 0 ((m_opN μ t (w 244 0 t) (w 243 0 t) o.toNat W3)) 178 [some (rv μ.1), some (.int (I nd)), some (.int (I t)), some (.int (I (w 244 0 t))), some (.int (I (w 243 0 t))), some (.int (I o)), none] [.int (I z)] := by
            intro z hz
            refine X_istore 180 hO dX13_opposes_178 rfl rfl ?_
            refine X_iload 182 hO dX13_opposes_180 rfl rfl ?_
            refine X_if_eq 185 234 hO dX13_opposes_182 rfl rfl (by omega) (fun hc_182 => ?_) (fun hc_182 => ?_)
            ·
              refine X_aload_n 235 hO dX13_opposes_234 rfl rfl ?_
              refine ga_153 238 hO hR dX13_opposes_235 rfl ?_
              refine X_iload_n 239 hO dX13_opposes_238 rfl rfl ?_
              refine ma_ld (L := 8) (c := 241) 240 hO hR rfl rfl rfl dX13_opposes_239 rfl (by omega) (by omega) (fun hi_239 => ?_)
              rw [eW 241 _ _ (Or.inl rfl)]
              refine X_iconst 241 hO dX13_opposes_240 rfl ?_
              refine X_icmp_eq 244 268 hO dX13_opposes_241 rfl rfl (by omega) (by omega) (fun hc_241 => ?_) (fun hc_241 => ?_)
              ·
                refine X_iinc 271 hO dX13_opposes_268 rfl rfl ?_
                refine X_goto hO dX13_opposes_271 (tgt := 135) rfl ?_
                refine X_eqR hR (w2 := m_opN μ t (w 244 0 t) (w 243 0 t) (o + 1).toNat W3) (opN_s ho.1 ?_) (fun hR => X_wk (by simp only [lwk, lset, true_or, or_true, and_self]) (ih (o + 1) (by omega) (by omega) hR))
                first
                  | (unfold m_op1; rw [eW 241 _ _ (Or.inl rfl), e4, e5, if_neg (show ¬ (w 241 0 t = 1 ∧ w 244 0 o = w 244 0 t ∧ w 245 0 o = w 244 0 t) by omega), if_pos (show w 241 0 t = 2 by omega)])
                  | (unfold m_op1; rw [eW 241 _ _ (Or.inl rfl), e4, e5, if_neg (show ¬ (w 241 0 t = 1 ∧ w 244 0 o = w 244 0 t ∧ w 245 0 o = w 244 0 t) by omega), if_neg (show ¬ w 241 0 t = 2 by omega)])
                  | (unfold m_op1 m_opx; rw [eW 241 _ _ (Or.inl rfl), e4, e5, eW 246 _ _ (by omega), if_pos (show (w 241 0 t = 1 ∧ w 244 0 o = w 244 0 t ∧ w 245 0 o = w 244 0 t) by omega)])
              ·
                have JP261 : ∀ (d : Int), (d = if w 241 0 t = 0 then 1 else 0) → (0 ≤ d ∧ d ≤ 1) → X κ 0 0 ((m_opN μ t (w 244 0 t) (w 243 0 t) o.toNat W3)) 261 [some (rv μ.1), some (.int (I nd)), some (.int (I t)), some (.int (I (w 244 0 t))), some (.int (I (w 243 0 t))), some (.int (I o)), none] [.int (I d), .int (I o), rv μ.1] := by
                  intro d hd hd2
                  refine X_iload_n 262 hO dX13_opposes_261 rfl rfl ?_
                  refine X_iload 264 hO dX13_opposes_262 rfl rfl ?_
                  refine X_iconst 265 hO dX13_opposes_264 rfl ?_
                  refine XM_callVv 268 hO hD hR lX13_413 [_, _, _, _, _] rfl dX13_opposes_265 rfl (c_moves _ _ _ _ _ _ _ _ (by omega) (by omega) (by omega) (by omega) (by omega) (by rw [e4]; omega) (by rw [e5]; omega)) (by decide) (by simp only [List.map_cons, List.map_nil, rv_cat]; exact Nat.le_of_ble_eq_true rfl) (fun w_265 hp_265 hR => ?_)
                  subst hp_265
                  subst hd
                  refine X_iinc 271 hO dX13_opposes_268 rfl rfl ?_
                  refine X_goto hO dX13_opposes_271 (tgt := 135) rfl ?_
                  refine X_eqR hR (w2 := m_opN μ t (w 244 0 t) (w 243 0 t) (o + 1).toNat W3) (opN_s ho.1 ?_) (fun hR => X_wk (by simp only [lwk, lset, true_or, or_true, and_self]) (ih (o + 1) (by omega) (by omega) hR))
                  first
                    | (unfold m_op1; rw [eW 241 _ _ (Or.inl rfl), e4, e5, if_neg (show ¬ (w 241 0 t = 1 ∧ w 244 0 o = w 244 0 t ∧ w 245 0 o = w 244 0 t) by omega), if_pos (show w 241 0 t = 2 by omega)])
                    | (unfold m_op1; rw [eW 241 _ _ (Or.inl rfl), e4, e5, if_neg (show ¬ (w 241 0 t = 1 ∧ w 244 0 o = w 244 0 t ∧ w 245 0 o = w 244 0 t) by omega), if_neg (show ¬ w 241 0 t = 2 by omega)])
                    | (unfold m_op1 m_opx; rw [eW 241 _ _ (Or.inl rfl), e4, e5, eW 246 _ _ (by omega), if_pos (show (w 241 0 t = 1 ∧ w 244 0 o = w 244 0 t ∧ w 245 0 o = w 244 0 t) by omega)])
                refine X_aload_n 245 hO dX13_opposes_244 rfl rfl ?_
                refine X_iload 247 hO dX13_opposes_245 rfl rfl ?_
                refine X_aload_n 248 hO dX13_opposes_247 rfl rfl ?_
                refine ga_153 251 hO hR dX13_opposes_248 rfl ?_
                refine X_iload_n 252 hO dX13_opposes_251 rfl rfl ?_
                refine ma_ld (L := 8) (c := 241) 253 hO hR rfl rfl rfl dX13_opposes_252 rfl (by omega) (by omega) (fun hi_252 => ?_)
                rw [eW 241 _ _ (Or.inl rfl)]
                refine X_if_ne 256 260 hO dX13_opposes_253 rfl rfl (by omega) (fun hc_253 => ?_) (fun hc_253 => ?_)
                ·
                  refine X_iconst 261 hO dX13_opposes_260 rfl ?_
                  exact X_wk (by simp only [lwk, lset, true_or, or_true, and_self]) (JP261 _ (by first | rw [if_pos (by omega)] | rw [if_neg (by omega)]) (by omega))
                ·
                  refine X_iconst 257 hO dX13_opposes_256 rfl ?_
                  refine X_goto hO dX13_opposes_257 (tgt := 261) rfl ?_
                  exact X_wk (by simp only [lwk, lset, true_or, or_true, and_self]) (JP261 _ (by first | rw [if_pos (by omega)] | rw [if_neg (by omega)]) (by omega))
            ·
              have JP215 : ∀ (v : Int), (v = if w 246 0 (8 * o + t) = 1 then w 243 0 t else 0) → X κ 0 0 ((m_opN μ t (w 244 0 t) (w 243 0 t) o.toNat W3)) 215 [some (rv μ.1), some (.int (I nd)), some (.int (I t)), some (.int (I (w 244 0 t))), some (.int (I (w 243 0 t))), some (.int (I o)), some (.int (I z))] [.int (I v), .int (I (w 244 0 o)), .int (I o), rv (μ.2 44)] := by
                intro v hv
                have hvr : IR v := by rw [hv]; split <;> omega
                refine X_iadd 216 hO dX13_opposes_215 rfl ?_
                subst hv
                refine ma_st (L := 8) (c := 244) 217 hO hR rfl rfl rfl dX13_opposes_216 rfl (by omega) (by omega) (by omega) (fun hR => ?_)
                refine X_aload_n 218 hO dX13_opposes_217 rfl rfl ?_
                refine ga_165 221 hO hR dX13_opposes_218 rfl ?_
                refine X_iload 223 hO dX13_opposes_221 rfl rfl ?_
                refine X_aload_n 224 hO dX13_opposes_223 rfl rfl ?_
                refine ga_162 227 hO hR dX13_opposes_224 rfl ?_
                refine X_iload 229 hO dX13_opposes_227 rfl rfl ?_
                refine ma_ld (L := 8) (c := 244) 230 hO hR rfl rfl rfl dX13_opposes_229 rfl (by omega) (by omega) (fun hi_229 => ?_)
                simp (disch := decide) only [up_s]
                refine ma_st (L := 8) (c := 245) 231 hO hR rfl rfl rfl dX13_opposes_230 rfl (by omega) (by omega) (by omega) (fun hR => ?_)
                refine X_goto hO dX13_opposes_231 (tgt := 268) rfl ?_
                refine X_iinc 271 hO dX13_opposes_268 rfl rfl ?_
                refine X_goto hO dX13_opposes_271 (tgt := 135) rfl ?_
                refine X_eqR hR (w2 := m_opN μ t (w 244 0 t) (w 243 0 t) (o + 1).toNat W3) (opN_s ho.1 ?_) (fun hR => X_wk (by simp only [lwk, lset, true_or, or_true, and_self]) (ih (o + 1) (by omega) (by omega) hR))
                first
                  | (unfold m_op1; rw [eW 241 _ _ (Or.inl rfl), e4, e5, if_neg (show ¬ (w 241 0 t = 1 ∧ w 244 0 o = w 244 0 t ∧ w 245 0 o = w 244 0 t) by omega), if_pos (show w 241 0 t = 2 by omega)])
                  | (unfold m_op1; rw [eW 241 _ _ (Or.inl rfl), e4, e5, if_neg (show ¬ (w 241 0 t = 1 ∧ w 244 0 o = w 244 0 t ∧ w 245 0 o = w 244 0 t) by omega), if_neg (show ¬ w 241 0 t = 2 by omega)])
                  | (unfold m_op1 m_opx; rw [eW 241 _ _ (Or.inl rfl), e4, e5, eW 246 _ _ (by omega), if_pos (show (w 241 0 t = 1 ∧ w 244 0 o = w 244 0 t ∧ w 245 0 o = w 244 0 t) by omega)])
              refine X_aload_n 186 hO dX13_opposes_185 rfl rfl ?_
              refine ga_162 189 hO hR dX13_opposes_186 rfl ?_
              refine X_iload 191 hO dX13_opposes_189 rfl rfl ?_
              refine X_dup2 192 hO dX13_opposes_191 rfl (by first | rfl | exact rv_cat _) (by first | rfl | exact rv_cat _) ?_
              refine ma_ld (L := 8) (c := 244) 193 hO hR rfl rfl rfl dX13_opposes_192 rfl (by omega) (by omega) (fun hi_192 => ?_)
              rw [e4]
              refine X_aload_n 194 hO dX13_opposes_193 rfl rfl ?_
              refine ga_168 197 hO hR dX13_opposes_194 rfl ?_
              refine X_bipush 199 hO dX13_opposes_197 rfl (by decide) ?_
              refine X_iload 201 hO dX13_opposes_199 rfl rfl ?_
              refine X_imul 202 hO dX13_opposes_201 rfl ?_
              refine X_iload_n 203 hO dX13_opposes_202 rfl rfl ?_
              refine X_iadd 204 hO dX13_opposes_203 rfl ?_
              refine ma_ld (L := 64) (c := 246) 205 hO hR rfl rfl rfl dX13_opposes_204 rfl (by omega) (by omega) (fun hi_204 => ?_)
              rw [eW 246 _ _ (by omega)] at hi_204 ⊢
              refine X_iconst 206 hO dX13_opposes_205 rfl ?_
              refine X_icmp_ne 209 214 hO dX13_opposes_206 rfl rfl (by omega) (by omega) (fun hc_206 => ?_) (fun hc_206 => ?_)
              ·
                refine X_iconst 215 hO dX13_opposes_214 rfl ?_
                exact JP215 _ (by first | rw [if_pos (by omega)] | rw [if_neg (by omega)])
              ·
                refine X_iload 211 hO dX13_opposes_209 rfl rfl ?_
                refine X_goto hO dX13_opposes_211 (tgt := 215) rfl ?_
                exact JP215 _ (by first | rw [if_pos (by omega)] | rw [if_neg (by omega)])
          refine X_aload_n 142 hO dX13_opposes_141 rfl rfl ?_
          refine ga_153 145 hO hR dX13_opposes_142 rfl ?_
          refine X_iload_n 146 hO dX13_opposes_145 rfl rfl ?_
          refine ma_ld (L := 8) (c := 241) 147 hO hR rfl rfl rfl dX13_opposes_146 rfl (by omega) (by omega) (fun hi_146 => ?_)
          rw [eW 241 _ _ (Or.inl rfl)]
          refine X_iconst 148 hO dX13_opposes_147 rfl ?_
          refine X_icmp_ne 151 177 hO dX13_opposes_148 rfl rfl (by omega) (by omega) (fun hc_148 => ?_) (fun hc_148 => ?_)
          ·
            refine X_iconst 178 hO dX13_opposes_177 rfl ?_
            exact JP178 _ (by omega)
          ·
            refine X_aload_n 152 hO dX13_opposes_151 rfl rfl ?_
            refine ga_162 155 hO hR dX13_opposes_152 rfl ?_
            refine X_iload 157 hO dX13_opposes_155 rfl rfl ?_
            refine ma_ld (L := 8) (c := 244) 158 hO hR rfl rfl rfl dX13_opposes_157 rfl (by omega) (by omega) (fun hi_157 => ?_)
            rw [e4]
            refine X_iload_n 159 hO dX13_opposes_158 rfl rfl ?_
            refine X_icmp_ne 162 177 hO dX13_opposes_159 rfl rfl (by omega) (by omega) (fun hc_159 => ?_) (fun hc_159 => ?_)
            ·
              refine X_iconst 178 hO dX13_opposes_177 rfl ?_
              exact JP178 _ (by omega)
            ·
              refine X_aload_n 163 hO dX13_opposes_162 rfl rfl ?_
              refine ga_165 166 hO hR dX13_opposes_163 rfl ?_
              refine X_iload 168 hO dX13_opposes_166 rfl rfl ?_
              refine ma_ld (L := 8) (c := 245) 169 hO hR rfl rfl rfl dX13_opposes_168 rfl (by omega) (by omega) (fun hi_168 => ?_)
              rw [e5]
              refine X_iload_n 170 hO dX13_opposes_169 rfl rfl ?_
              refine X_icmp_ne 173 177 hO dX13_opposes_170 rfl rfl (by omega) (by omega) (fun hc_170 => ?_) (fun hc_170 => ?_)
              ·
                refine X_iconst 178 hO dX13_opposes_177 rfl ?_
                exact JP178 _ (by omega)
              ·
                refine X_iconst 174 hO dX13_opposes_173 rfl ?_
                refine X_goto hO dX13_opposes_174 (tgt := 178) rfl ?_
                exact JP178 _ (by omega)
    exact LP135 _ 0 (Nat.lt_succ_self _) (by omega) hR
  refine X_aload_n 16 hO dX13_opposes_15 rfl rfl ?_
  refine ga_153 19 hO hR dX13_opposes_16 rfl ?_
  refine X_iload_n 20 hO dX13_opposes_19 rfl rfl ?_
  refine ma_ld (L := 8) (c := 241) 21 hO hR rfl rfl rfl dX13_opposes_20 rfl (by omega) (by omega) (fun hi_20 => ?_)
  refine X_if_ne 24 52 hO dX13_opposes_21 rfl rfl (by omega) (fun hc_21 => ?_) (fun hc_21 => ?_)
  ·
    refine X_aload_n 53 hO dX13_opposes_52 rfl rfl ?_
    refine ga_153 56 hO hR dX13_opposes_53 rfl ?_
    refine X_iload_n 57 hO dX13_opposes_56 rfl rfl ?_
    refine ma_ld (L := 8) (c := 241) 58 hO hR rfl rfl rfl dX13_opposes_57 rfl (by omega) (by omega) (fun hi_57 => ?_)
    refine X_iconst 59 hO dX13_opposes_58 rfl ?_
    refine X_icmp_ne 62 82 hO dX13_opposes_59 rfl rfl (by omega) (by omega) (fun hc_59 => ?_) (fun hc_59 => ?_)
    ·
      refine X_aload_n 83 hO dX13_opposes_82 rfl rfl ?_
      refine ga_13 86 hO hR dX13_opposes_83 rfl ?_
      refine X_iconst 87 hO dX13_opposes_86 rfl ?_
      refine ma_ld (L := 4) (c := 201) 88 hO hR rfl rfl rfl dX13_opposes_87 rfl (by omega) (by omega) (fun hi_87 => ?_)
      refine X_iload 90 hO dX13_opposes_88 rfl rfl ?_
      refine X_iadd 91 hO dX13_opposes_90 rfl ?_
      refine X_sipush 94 hO dX13_opposes_91 rfl (by decide) ?_
      refine X_icmp_le 97 99 hO dX13_opposes_94 rfl rfl (by omega) (by omega) (fun hc_94 => ?_) (fun hc_94 => ?_)
      ·
        refine X_aload_n 100 hO dX13_opposes_99 rfl rfl ?_
        refine X_iload_n 101 hO dX13_opposes_100 rfl rfl ?_
        refine X_iload_n 102 hO dX13_opposes_101 rfl rfl ?_
        refine XM_callVv 105 hO hD hR lX13_423 [_, _] rfl dX13_opposes_102 rfl (c_remembers _ _ _ _ _ M PL hT hM hnd ht hS1 hBb f2 he hRP hC hPl hL k2) (by decide) (by simp only [List.map_cons, List.map_nil, rv_cat]; exact Nat.le_of_ble_eq_true rfl) (fun w_102 hp_102 hR => ?_)
        subst hp_102
        refine X_aload_n 106 hO dX13_opposes_105 rfl rfl ?_
        refine X_iload_n 107 hO dX13_opposes_106 rfl rfl ?_
        refine X_iload 109 hO dX13_opposes_107 rfl rfl ?_
        refine XM_callVv 112 hO hD hR lX13_300 [_, _] rfl dX13_opposes_109 rfl (c_inserts _ _ _ _ _ (by omega) (by omega) hRmk hRhv hRhe (by omega) (by omega)) (by decide) (by simp only [List.map_cons, List.map_nil, rv_cat]; exact Nat.le_of_ble_eq_true rfl) (fun w_109 hp_109 hR => ?_)
        subst hp_109
        refine X_aload_n 113 hO dX13_opposes_112 rfl rfl ?_
        refine ga_31 116 hO hR dX13_opposes_113 rfl ?_
        refine X_iconst 117 hO dX13_opposes_116 rfl ?_
        refine X_aload_n 118 hO dX13_opposes_117 rfl rfl ?_
        refine X_aload_n 119 hO dX13_opposes_118 rfl rfl ?_
        refine ga_31 122 hO hR dX13_opposes_119 rfl ?_
        refine X_iconst 123 hO dX13_opposes_122 rfl ?_
        refine ma_ld (L := 4) (c := 207) 124 hO hR rfl rfl rfl dX13_opposes_123 rfl (by omega) (by omega) (fun hi_123 => ?_)
        have e123 : m_ins μ (w 244 0 t) (w 243 0 t) (m_rem μ PL nd t w) 207 0 0 = w 207 0 0 := by rw [ins_at (by decide)]; exact eR 207 _ _ (by decide) (by decide) (by decide) (by decide)
        have hq123 : IR (m_ins μ (w 244 0 t) (w 243 0 t) (m_rem μ PL nd t w) 207 0 0 + w 243 0 t) ∧ IR (mvF (m_ins μ (w 244 0 t) (w 243 0 t) (m_rem μ PL nd t w) 207 0 0) (w 244 0 t) (w 243 0 t) 0) := ⟨by omega, by rw [e123]; unfold mvF; split <;> omega⟩
        refine X_iload_n 125 hO dX13_opposes_124 rfl rfl ?_
        refine X_iload 127 hO dX13_opposes_125 rfl rfl ?_
        refine X_iconst 128 hO dX13_opposes_127 rfl ?_
        refine XM_callVi 131 hO hD hR lX13_195 [_, _, _, _] rfl dX13_opposes_128 rfl (c_movedBy _ _ _ _ _ _ _ (by omega) (by omega) hq123.1 (by omega)) (by decide) (by simp only [List.map_cons, List.map_nil, rv_cat]; exact Nat.le_of_ble_eq_true rfl) (fun r_128 w_128 hr_128 hp_128 hR => ?_)
        obtain ⟨e1_128, e2_128⟩ := hp_128
        subst e1_128
        subst e2_128
        refine ma_st (L := 4) (c := 207) 132 hO hR rfl rfl rfl dX13_opposes_131 rfl (by omega) (by omega) (by omega) (fun hR => ?_)
        first
          | exact JP132 (m_opD μ (w 244 0 t) (w 243 0 t) w) (fun c a i y1 y2 => by unfold m_opD m_del; rw [up_k _ (by omega), step_at (by omega), closes_at (by omega)]) (by unfold m_opp; rw [if_pos (by omega)]) hR
          | exact JP132 (m_rep μ (w 244 0 t) ((m_rem μ PL nd t w) 240 0 0) (m_rem μ PL nd t w)) (fun c a i y1 y2 => by unfold m_rep; rw [step_at (by omega), up_k _ (by omega), eR c a i (by omega) (by omega) (by omega) (by omega)]) (by unfold m_opp; rw [if_neg (by omega), if_pos (by omega)]) hR
          | exact JP132 (m_opI μ (w 244 0 t) (w 243 0 t) (m_rem μ PL nd t w)) (fun c a i y1 y2 => by unfold m_opI; rw [up_k _ (by omega), ins_at (by omega), eR c a i (by omega) (by omega) (by omega) (by omega)]) (by unfold m_opp; rw [if_neg (by omega), if_neg (by omega), if_neg (by omega)]) hR
      ·
        refine X_iconst 98 hO dX13_opposes_97 rfl ?_
        exact XM_iret hO hF hR rfl (by first | exact Or.inl rfl | exact Or.inr ⟨rfl, bi_01 _⟩ | exact Or.inr ⟨rfl, by omega⟩) dX13_opposes_98 (by omega) (by unfold m_opp; rw [if_neg (by omega), if_neg (by omega), if_pos (by omega)]; exact ⟨rfl, rfl⟩)
    ·
      refine X_aload_n 63 hO dX13_opposes_62 rfl rfl ?_
      refine X_iload_n 64 hO dX13_opposes_63 rfl rfl ?_
      refine X_iload_n 65 hO dX13_opposes_64 rfl rfl ?_
      refine XM_callVv 68 hO hD hR lX13_423 [_, _] rfl dX13_opposes_65 rfl (c_remembers _ _ _ _ _ M PL hT hM hnd ht hS1 hBb f2 he hRP hC hPl hL k2) (by decide) (by simp only [List.map_cons, List.map_nil, rv_cat]; exact Nat.le_of_ble_eq_true rfl) (fun w_65 hp_65 hR => ?_)
      subst hp_65
      refine X_aload_n 69 hO dX13_opposes_68 rfl rfl ?_
      refine X_iload_n 70 hO dX13_opposes_69 rfl rfl ?_
      refine X_aload_n 71 hO dX13_opposes_70 rfl rfl ?_
      refine ga_150 74 hO hR dX13_opposes_71 rfl ?_
      refine X_iconst 75 hO dX13_opposes_74 rfl ?_
      refine ma_ld (L := 400) (c := 240) 76 hO hR rfl rfl rfl dX13_opposes_75 rfl (by omega) (by omega) (fun hi_75 => ?_)
      refine XM_callVv 79 hO hD hR lX13_255 [_, _] rfl dX13_opposes_76 rfl (c_replaces _ _ _ _ _ (by omega) (by omega) (by omega)) (by decide) (by simp only [List.map_cons, List.map_nil, rv_cat]; exact Nat.le_of_ble_eq_true rfl) (fun w_76 hp_76 hR => ?_)
      subst hp_76
      refine X_goto hO dX13_opposes_79 (tgt := 132) rfl ?_
      first
        | exact JP132 (m_opD μ (w 244 0 t) (w 243 0 t) w) (fun c a i y1 y2 => by unfold m_opD m_del; rw [up_k _ (by omega), step_at (by omega), closes_at (by omega)]) (by unfold m_opp; rw [if_pos (by omega)]) hR
        | exact JP132 (m_rep μ (w 244 0 t) ((m_rem μ PL nd t w) 240 0 0) (m_rem μ PL nd t w)) (fun c a i y1 y2 => by unfold m_rep; rw [step_at (by omega), up_k _ (by omega), eR c a i (by omega) (by omega) (by omega) (by omega)]) (by unfold m_opp; rw [if_neg (by omega), if_pos (by omega)]) hR
        | exact JP132 (m_opI μ (w 244 0 t) (w 243 0 t) (m_rem μ PL nd t w)) (fun c a i y1 y2 => by unfold m_opI; rw [up_k _ (by omega), ins_at (by omega), eR c a i (by omega) (by omega) (by omega) (by omega)]) (by unfold m_opp; rw [if_neg (by omega), if_neg (by omega), if_neg (by omega)]) hR
  ·
    refine X_aload_n 25 hO dX13_opposes_24 rfl rfl ?_
    refine X_iload_n 26 hO dX13_opposes_25 rfl rfl ?_
    refine X_iload 28 hO dX13_opposes_26 rfl rfl ?_
    refine XM_callVv 31 hO hD hR lX13_309 [_, _] rfl dX13_opposes_28 rfl (c_deletes _ _ _ _ _ (by omega) (by omega) hmk f2 he (by omega)) (by decide) (by simp only [List.map_cons, List.map_nil, rv_cat]; exact Nat.le_of_ble_eq_true rfl) (fun w_28 hp_28 hR => ?_)
    subst hp_28
    refine X_aload_n 32 hO dX13_opposes_31 rfl rfl ?_
    refine ga_31 35 hO hR dX13_opposes_32 rfl ?_
    refine X_iconst 36 hO dX13_opposes_35 rfl ?_
    refine X_aload_n 37 hO dX13_opposes_36 rfl rfl ?_
    refine ga_31 40 hO hR dX13_opposes_37 rfl ?_
    refine X_iconst 41 hO dX13_opposes_40 rfl ?_
    refine ma_ld (L := 4) (c := 207) 42 hO hR rfl rfl rfl dX13_opposes_41 rfl (by omega) (by omega) (fun hi_41 => ?_)
    have e41 : m_del μ (w 244 0 t) (w 243 0 t) w 207 0 0 = w 207 0 0 := by unfold m_del; rw [step_at (by decide), closes_at (by decide)]
    have hq41 : IR (m_del μ (w 244 0 t) (w 243 0 t) w 207 0 0 - w 243 0 t) ∧ IR (dbF (m_del μ (w 244 0 t) (w 243 0 t) w 207 0 0) (w 244 0 t) (w 243 0 t)) := ⟨by omega, by rw [e41]; unfold dbF; split <;> (try split) <;> omega⟩
    refine X_iload_n 43 hO dX13_opposes_42 rfl rfl ?_
    refine X_iload 45 hO dX13_opposes_43 rfl rfl ?_
    refine XM_callSi 48 hO hD lX13_199 [_, _, _] rfl dX13_opposes_45 rfl (c_drawnBack _ _ _ _ _ (by omega) (by omega) (by omega) hq41.1) (by decide) (by simp only [List.map_cons, List.map_nil, rv_cat]; exact Nat.le_of_ble_eq_true rfl) (fun r_45 hr_45 hp_45 => ?_)
    subst hp_45
    refine ma_st (L := 4) (c := 207) 49 hO hR rfl rfl rfl dX13_opposes_48 rfl (by omega) (by omega) (by omega) (fun hR => ?_)
    refine X_goto hO dX13_opposes_49 (tgt := 132) rfl ?_
    first
      | exact JP132 (m_opD μ (w 244 0 t) (w 243 0 t) w) (fun c a i y1 y2 => by unfold m_opD m_del; rw [up_k _ (by omega), step_at (by omega), closes_at (by omega)]) (by unfold m_opp; rw [if_pos (by omega)]) hR
      | exact JP132 (m_rep μ (w 244 0 t) ((m_rem μ PL nd t w) 240 0 0) (m_rem μ PL nd t w)) (fun c a i y1 y2 => by unfold m_rep; rw [step_at (by omega), up_k _ (by omega), eR c a i (by omega) (by omega) (by omega) (by omega)]) (by unfold m_opp; rw [if_neg (by omega), if_pos (by omega)]) hR
      | exact JP132 (m_opI μ (w 244 0 t) (w 243 0 t) (m_rem μ PL nd t w)) (fun c a i y1 y2 => by unfold m_opI; rw [up_k _ (by omega), ins_at (by omega), eR c a i (by omega) (by omega) (by omega) (by omega)]) (by unfold m_opp; rw [if_neg (by omega), if_neg (by omega), if_neg (by omega)]) hR
