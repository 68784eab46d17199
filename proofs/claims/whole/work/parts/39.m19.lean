/-! playing a step in state 1 -/
theorem pby_rng {w : Mm} {j : Int} : 0 ≤ pby w j ∧ pby w j ≤ 255 := by
  unfold pby
  have hr : 0 ≤ j % 4 ∧ j % 4 < 4 := by omega
  rw [wget_bv hr]
  have h : (((I (w 213 0 (j / 4))).toBitVec.sshiftRight (8 * (j % 4).toNat)) &&& 255#32).toNat ≤ 255 := by
    rw [BitVec.toNat_and]; exact Nat.and_le_right
  rw [BitVec.toInt_eq_toNat_cond]
  split <;> omega
def m_opn1 (q v t : Int) (w : Mm) : Mm := fl (m_opens 1 q v w) 200 (400 + q) v (fun i => pby w (t + (i - (400 + q))))
def m_buf (v t : Int) (w : Mm) : Mm := fl w 240 0 v (fun i => pby w (t + i))
def m_sto (v t : Int) (w : Mm) : Nat → Int × Mm
  | 0 => (t + 1, up w 204 0 (5 + v) (pby w t))
  | n + 1 => ((m_sto v t w n).1 + (pby w (m_sto v t w n).1 + 1), fl (up (m_sto v t w n).2 205 0 (20 + 4 * v + n) (pby w (m_sto v t w n).1)) 206 (400 + 80 * v + 20 * n) (pby w (m_sto v t w n).1) (fun i => pby w ((m_sto v t w n).1 + 1 + (i - (400 + 80 * v + 20 * n)))))
def m_ply (k p v t : Int) (w : Mm) : Int × Mm :=
  if k = 0 then (v, m_opn1 p v t w) else if k = 1 then (0, m_closes 1 p v w) else if k = 2 then (0, up w 200 0 (400 + p) v)
  else if k = 3 then (0, up (up w 202 0 (6 + v / 2) (if p = 511 then -1 else p)) 203 0 (6 + v / 2) (v % 2)) else if k = 6 then (0, m_trn 1 w)
  else if k ≠ 4 then (if k = 5 then (v, m_psh 1 v (m_buf v t w)) else (v, m_tak 1 p 0 v (up (m_buf v t w) 204 0 (5 + p) 1)))
  else ((m_sto v t w (pby w t).toNat).1 - t, (m_sto v t w (pby w t).toNat).2)
def m_play (x t : Int) (w : Mm) : Int × Mm := m_ply (x % 8) (x / 8 % 512) (x / 4096) t w
/-- the step may be played -/
def LGs (k p v t : Int) (w : Mm) : Prop := (0 ≤ t ∧ t ≤ 520000) ∧ (0 ≤ v ∧ v < 4096) ∧ (0 ≤ p ∧ p < 512) ∧ (k = 0 → p ≤ w 201 0 1 ∧ w 201 0 1 + v ≤ 400) ∧ (k = 1 → p + v ≤ w 201 0 1) ∧ (k = 2 → p < w 201 0 1 ∧ v ≤ 126) ∧ (k = 3 → v ≤ 11 ∧ (p = 511 ∨ p ≤ w 201 0 1)) ∧ (k = 4 → v ≤ 4) ∧ (k = 5 → v ≤ 20) ∧ (k = 6 → 1 ≤ w 204 0 9) ∧ (k = 7 → p ≤ 3 ∧ v ≤ 20)
def LGb (k v t : Int) (w : Mm) : Prop := (k ≠ 4 → ∀ i, 0 ≤ i → i < v → pby w (t + i) ≤ 126)
def LGc (k v t : Int) (w : Mm) : Prop := k = 4 → pby w t ≤ 4 ∧ ∀ n : Nat, (n : Int) < pby w t → pby w (m_sto v t w n).1 ≤ 20 ∧ ∀ i, 0 ≤ i → i < pby w (m_sto v t w n).1 → pby w ((m_sto v t w n).1 + 1 + i) ≤ 126
theorem pby_fl {w : Mm} {c : Nat} {lo n j : Int} {f : Int → Int} (h : c ≠ 213) : pby (fl w c lo n f) j = pby w j := pby_cong (fl_at (by omega))
theorem pby_up {w : Mm} {c : Nat} {a i v j : Int} (h : c ≠ 213) : pby (up w c a i v) j = pby w j := pby_cong (up_k _ (by omega) _ _ _ _ _)
theorem pby_op {w : Mm} {s q k j : Int} : pby (m_opens s q k w) j = pby w j := pby_cong (opens_at (by omega))
theorem sto_at {v t : Int} {w : Mm} {c : Nat} {a i : Int} (h : c ≠ 204 ∧ c ≠ 205 ∧ c ≠ 206) : ∀ n, (m_sto v t w n).2 c a i = w c a i
  | 0 => up_k _ h.1 _ _ _ _ _
  | n + 1 => by
    simp only [m_sto]
    rw [fl_at h.2.2, up_k _ h.2.1, sto_at h n]
theorem pby_sto {v t j : Int} {w : Mm} {n : Nat} : pby (m_sto v t w n).2 j = pby w j := pby_cong (sto_at (by omega) n)
theorem sto_204 {v t : Int} {w : Mm} : ∀ n, (m_sto v t w n).2 204 0 (5 + v) = pby w t
  | 0 => up_s _ _ _ _ _
  | n + 1 => by
    simp only [m_sto]
    rw [fl_at (by decide), up_k _ (by decide), sto_204 n]
theorem sto_rng {v t : Int} {w : Mm} (h : ∀ n : Nat, (n : Int) < pby w t → pby w (m_sto v t w n).1 ≤ 20) : ∀ n : Nat, (n : Int) ≤ pby w t → t + 1 ≤ (m_sto v t w n).1 ∧ (m_sto v t w n).1 ≤ t + 1 + 21 * n
  | 0, _ => by show t + 1 ≤ t + 1 ∧ t + 1 ≤ t + 1 + 21 * 0; omega
  | n + 1, hn => by
    have h1 := sto_rng h n (by omega)
    have h2 := h n (by omega)
    have h3 := pby_rng (w := w) (j := (m_sto v t w n).1)
    show t + 1 ≤ (m_sto v t w n).1 + (pby w (m_sto v t w n).1 + 1) ∧ _ ≤ _
    show t + 1 ≤ (m_sto v t w n).1 + (pby w (m_sto v t w n).1 + 1) ∧ (m_sto v t w n).1 + (pby w (m_sto v t w n).1 + 1) ≤ t + 1 + 21 * ((n + 1 : Nat) : Int)
    omega
theorem dX13_plays_0 : decode cX13_plays 0 = .ok (.iload_n 1, 1) := by decide +kernel
theorem dX13_plays_1 : decode cX13_plays 1 = .ok (.bipush 7, 2) := by decide +kernel
theorem dX13_plays_3 : decode cX13_plays 3 = .ok (.iand, 1) := by decide +kernel
theorem dX13_plays_4 : decode cX13_plays 4 = .ok (.istore_n 3, 1) := by decide +kernel
theorem dX13_plays_5 : decode cX13_plays 5 = .ok (.iload_n 1, 1) := by decide +kernel
theorem dX13_plays_6 : decode cX13_plays 6 = .ok (.iconst 3, 1) := by decide +kernel
theorem dX13_plays_7 : decode cX13_plays 7 = .ok (.ishr, 1) := by decide +kernel
theorem dX13_plays_8 : decode cX13_plays 8 = .ok (.sipush 511, 3) := by decide +kernel
theorem dX13_plays_11 : decode cX13_plays 11 = .ok (.iand, 1) := by decide +kernel
theorem dX13_plays_12 : decode cX13_plays 12 = .ok (.istore 4, 2) := by decide +kernel
theorem dX13_plays_14 : decode cX13_plays 14 = .ok (.iload_n 1, 1) := by decide +kernel
theorem dX13_plays_15 : decode cX13_plays 15 = .ok (.bipush 12, 2) := by decide +kernel
theorem dX13_plays_17 : decode cX13_plays 17 = .ok (.ishr, 1) := by decide +kernel
theorem dX13_plays_18 : decode cX13_plays 18 = .ok (.istore 5, 2) := by decide +kernel
theorem dX13_plays_20 : decode cX13_plays 20 = .ok (.iload_n 3, 1) := by decide +kernel
theorem dX13_plays_21 : decode cX13_plays 21 = .ok (.ifCond .ne 53, 3) := by decide +kernel
theorem dX13_plays_24 : decode cX13_plays 24 = .ok (.aload_n 0, 1) := by decide +kernel
theorem dX13_plays_25 : decode cX13_plays 25 = .ok (.iconst 1, 1) := by decide +kernel
theorem dX13_plays_26 : decode cX13_plays 26 = .ok (.iload 4, 2) := by decide +kernel
theorem dX13_plays_28 : decode cX13_plays 28 = .ok (.iload 5, 2) := by decide +kernel
theorem dX13_plays_30 : decode cX13_plays 30 = .ok (.invokevirtual 203, 3) := by decide +kernel
theorem dX13_plays_33 : decode cX13_plays 33 = .ok (.iconst 0, 1) := by decide +kernel
theorem dX13_plays_34 : decode cX13_plays 34 = .ok (.istore 6, 2) := by decide +kernel
theorem dX13_plays_36 : decode cX13_plays 36 = .ok (.iload 6, 2) := by decide +kernel
theorem dX13_plays_38 : decode cX13_plays 38 = .ok (.iload 5, 2) := by decide +kernel
theorem dX13_plays_40 : decode cX13_plays 40 = .ok (.if_icmp .ge 31, 3) := by decide +kernel
theorem dX13_plays_43 : decode cX13_plays 43 = .ok (.aload_n 0, 1) := by decide +kernel
theorem dX13_plays_44 : decode cX13_plays 44 = .ok (.getfield 7, 3) := by decide +kernel
theorem dX13_plays_47 : decode cX13_plays 47 = .ok (.sipush 400, 3) := by decide +kernel
theorem dX13_plays_50 : decode cX13_plays 50 = .ok (.iload 4, 2) := by decide +kernel
theorem dX13_plays_52 : decode cX13_plays 52 = .ok (.iadd, 1) := by decide +kernel
theorem dX13_plays_53 : decode cX13_plays 53 = .ok (.iload 6, 2) := by decide +kernel
theorem dX13_plays_55 : decode cX13_plays 55 = .ok (.iadd, 1) := by decide +kernel
theorem dX13_plays_56 : decode cX13_plays 56 = .ok (.aload_n 0, 1) := by decide +kernel
theorem dX13_plays_57 : decode cX13_plays 57 = .ok (.iload_n 2, 1) := by decide +kernel
theorem dX13_plays_58 : decode cX13_plays 58 = .ok (.iload 6, 2) := by decide +kernel
theorem dX13_plays_60 : decode cX13_plays 60 = .ok (.iadd, 1) := by decide +kernel
theorem dX13_plays_61 : decode cX13_plays 61 = .ok (.invokevirtual 225, 3) := by decide +kernel
theorem dX13_plays_64 : decode cX13_plays 64 = .ok (.iastore, 1) := by decide +kernel
theorem dX13_plays_65 : decode cX13_plays 65 = .ok (.iinc 6 1, 3) := by decide +kernel
theorem dX13_plays_68 : decode cX13_plays 68 = .ok (.goto (-32), 3) := by decide +kernel
theorem dX13_plays_71 : decode cX13_plays 71 = .ok (.iload 5, 2) := by decide +kernel
theorem dX13_plays_73 : decode cX13_plays 73 = .ok (.ireturn, 1) := by decide +kernel
theorem dX13_plays_74 : decode cX13_plays 74 = .ok (.iload_n 3, 1) := by decide +kernel
theorem dX13_plays_75 : decode cX13_plays 75 = .ok (.iconst 1, 1) := by decide +kernel
theorem dX13_plays_76 : decode cX13_plays 76 = .ok (.if_icmp .ne 15, 3) := by decide +kernel
theorem dX13_plays_79 : decode cX13_plays 79 = .ok (.aload_n 0, 1) := by decide +kernel
theorem dX13_plays_80 : decode cX13_plays 80 = .ok (.iconst 1, 1) := by decide +kernel
theorem dX13_plays_81 : decode cX13_plays 81 = .ok (.iload 4, 2) := by decide +kernel
theorem dX13_plays_83 : decode cX13_plays 83 = .ok (.iload 5, 2) := by decide +kernel
theorem dX13_plays_85 : decode cX13_plays 85 = .ok (.invokevirtual 212, 3) := by decide +kernel
theorem dX13_plays_88 : decode cX13_plays 88 = .ok (.goto 293, 3) := by decide +kernel
theorem dX13_plays_91 : decode cX13_plays 91 = .ok (.iload_n 3, 1) := by decide +kernel
theorem dX13_plays_92 : decode cX13_plays 92 = .ok (.iconst 2, 1) := by decide +kernel
theorem dX13_plays_93 : decode cX13_plays 93 = .ok (.if_icmp .ne 19, 3) := by decide +kernel
theorem dX13_plays_96 : decode cX13_plays 96 = .ok (.aload_n 0, 1) := by decide +kernel
theorem dX13_plays_97 : decode cX13_plays 97 = .ok (.getfield 7, 3) := by decide +kernel
theorem dX13_plays_100 : decode cX13_plays 100 = .ok (.sipush 400, 3) := by decide +kernel
theorem dX13_plays_103 : decode cX13_plays 103 = .ok (.iload 4, 2) := by decide +kernel
theorem dX13_plays_105 : decode cX13_plays 105 = .ok (.iadd, 1) := by decide +kernel
theorem dX13_plays_106 : decode cX13_plays 106 = .ok (.iload 5, 2) := by decide +kernel
theorem dX13_plays_108 : decode cX13_plays 108 = .ok (.iastore, 1) := by decide +kernel
theorem dX13_plays_109 : decode cX13_plays 109 = .ok (.goto 272, 3) := by decide +kernel
theorem dX13_plays_112 : decode cX13_plays 112 = .ok (.iload_n 3, 1) := by decide +kernel
theorem dX13_plays_113 : decode cX13_plays 113 = .ok (.iconst 3, 1) := by decide +kernel
theorem dX13_plays_114 : decode cX13_plays 114 = .ok (.if_icmp .ne 48, 3) := by decide +kernel
theorem dX13_plays_117 : decode cX13_plays 117 = .ok (.aload_n 0, 1) := by decide +kernel
theorem dX13_plays_118 : decode cX13_plays 118 = .ok (.getfield 16, 3) := by decide +kernel
theorem dX13_plays_121 : decode cX13_plays 121 = .ok (.bipush 6, 2) := by decide +kernel
theorem dX13_plays_123 : decode cX13_plays 123 = .ok (.iload 5, 2) := by decide +kernel
theorem dX13_plays_125 : decode cX13_plays 125 = .ok (.iconst 2, 1) := by decide +kernel
theorem dX13_plays_126 : decode cX13_plays 126 = .ok (.idiv, 1) := by decide +kernel
theorem dX13_plays_127 : decode cX13_plays 127 = .ok (.iadd, 1) := by decide +kernel
theorem dX13_plays_128 : decode cX13_plays 128 = .ok (.iload 4, 2) := by decide +kernel
theorem dX13_plays_130 : decode cX13_plays 130 = .ok (.sipush 511, 3) := by decide +kernel
theorem dX13_plays_133 : decode cX13_plays 133 = .ok (.if_icmp .ne 7, 3) := by decide +kernel
theorem dX13_plays_136 : decode cX13_plays 136 = .ok (.iconst (-1), 1) := by decide +kernel
theorem dX13_plays_137 : decode cX13_plays 137 = .ok (.goto 5, 3) := by decide +kernel
theorem dX13_plays_140 : decode cX13_plays 140 = .ok (.iload 4, 2) := by decide +kernel
theorem dX13_plays_142 : decode cX13_plays 142 = .ok (.iastore, 1) := by decide +kernel
theorem dX13_plays_143 : decode cX13_plays 143 = .ok (.aload_n 0, 1) := by decide +kernel
theorem dX13_plays_144 : decode cX13_plays 144 = .ok (.getfield 19, 3) := by decide +kernel
theorem dX13_plays_147 : decode cX13_plays 147 = .ok (.bipush 6, 2) := by decide +kernel
theorem dX13_plays_149 : decode cX13_plays 149 = .ok (.iload 5, 2) := by decide +kernel
theorem dX13_plays_151 : decode cX13_plays 151 = .ok (.iconst 2, 1) := by decide +kernel
theorem dX13_plays_152 : decode cX13_plays 152 = .ok (.idiv, 1) := by decide +kernel
theorem dX13_plays_153 : decode cX13_plays 153 = .ok (.iadd, 1) := by decide +kernel
theorem dX13_plays_154 : decode cX13_plays 154 = .ok (.iload 5, 2) := by decide +kernel
theorem dX13_plays_156 : decode cX13_plays 156 = .ok (.iconst 2, 1) := by decide +kernel
theorem dX13_plays_157 : decode cX13_plays 157 = .ok (.irem, 1) := by decide +kernel
theorem dX13_plays_158 : decode cX13_plays 158 = .ok (.iastore, 1) := by decide +kernel
theorem dX13_plays_159 : decode cX13_plays 159 = .ok (.goto 222, 3) := by decide +kernel
theorem dX13_plays_162 : decode cX13_plays 162 = .ok (.iload_n 3, 1) := by decide +kernel
theorem dX13_plays_163 : decode cX13_plays 163 = .ok (.bipush 6, 2) := by decide +kernel
theorem dX13_plays_165 : decode cX13_plays 165 = .ok (.if_icmp .ne 11, 3) := by decide +kernel
theorem dX13_plays_168 : decode cX13_plays 168 = .ok (.aload_n 0, 1) := by decide +kernel
theorem dX13_plays_169 : decode cX13_plays 169 = .ok (.iconst 1, 1) := by decide +kernel
theorem dX13_plays_170 : decode cX13_plays 170 = .ok (.invokevirtual 229, 3) := by decide +kernel
theorem dX13_plays_173 : decode cX13_plays 173 = .ok (.goto 208, 3) := by decide +kernel
theorem dX13_plays_176 : decode cX13_plays 176 = .ok (.iload_n 3, 1) := by decide +kernel
theorem dX13_plays_177 : decode cX13_plays 177 = .ok (.iconst 4, 1) := by decide +kernel
theorem dX13_plays_178 : decode cX13_plays 178 = .ok (.if_icmp .eq 72, 3) := by decide +kernel
theorem dX13_plays_181 : decode cX13_plays 181 = .ok (.iconst 0, 1) := by decide +kernel
theorem dX13_plays_182 : decode cX13_plays 182 = .ok (.istore 6, 2) := by decide +kernel
theorem dX13_plays_184 : decode cX13_plays 184 = .ok (.iload 6, 2) := by decide +kernel
theorem dX13_plays_186 : decode cX13_plays 186 = .ok (.iload 5, 2) := by decide +kernel
theorem dX13_plays_188 : decode cX13_plays 188 = .ok (.if_icmp .ge 24, 3) := by decide +kernel
theorem dX13_plays_191 : decode cX13_plays 191 = .ok (.aload_n 0, 1) := by decide +kernel
theorem dX13_plays_192 : decode cX13_plays 192 = .ok (.getfield 150, 3) := by decide +kernel
theorem dX13_plays_195 : decode cX13_plays 195 = .ok (.iload 6, 2) := by decide +kernel
theorem dX13_plays_197 : decode cX13_plays 197 = .ok (.aload_n 0, 1) := by decide +kernel
theorem dX13_plays_198 : decode cX13_plays 198 = .ok (.iload_n 2, 1) := by decide +kernel
theorem dX13_plays_199 : decode cX13_plays 199 = .ok (.iload 6, 2) := by decide +kernel
theorem dX13_plays_201 : decode cX13_plays 201 = .ok (.iadd, 1) := by decide +kernel
theorem dX13_plays_202 : decode cX13_plays 202 = .ok (.invokevirtual 225, 3) := by decide +kernel
theorem dX13_plays_205 : decode cX13_plays 205 = .ok (.iastore, 1) := by decide +kernel
theorem dX13_plays_206 : decode cX13_plays 206 = .ok (.iinc 6 1, 3) := by decide +kernel
theorem dX13_plays_209 : decode cX13_plays 209 = .ok (.goto (-25), 3) := by decide +kernel
theorem dX13_plays_212 : decode cX13_plays 212 = .ok (.iload_n 3, 1) := by decide +kernel
theorem dX13_plays_213 : decode cX13_plays 213 = .ok (.iconst 5, 1) := by decide +kernel
theorem dX13_plays_214 : decode cX13_plays 214 = .ok (.if_icmp .ne 13, 3) := by decide +kernel
theorem dX13_plays_217 : decode cX13_plays 217 = .ok (.aload_n 0, 1) := by decide +kernel
theorem dX13_plays_218 : decode cX13_plays 218 = .ok (.iconst 1, 1) := by decide +kernel
theorem dX13_plays_219 : decode cX13_plays 219 = .ok (.iload 5, 2) := by decide +kernel
theorem dX13_plays_221 : decode cX13_plays 221 = .ok (.invokevirtual 232, 3) := by decide +kernel
theorem dX13_plays_224 : decode cX13_plays 224 = .ok (.goto 23, 3) := by decide +kernel
theorem dX13_plays_227 : decode cX13_plays 227 = .ok (.aload_n 0, 1) := by decide +kernel
theorem dX13_plays_228 : decode cX13_plays 228 = .ok (.getfield 22, 3) := by decide +kernel
theorem dX13_plays_231 : decode cX13_plays 231 = .ok (.iconst 5, 1) := by decide +kernel
theorem dX13_plays_232 : decode cX13_plays 232 = .ok (.iload 4, 2) := by decide +kernel
theorem dX13_plays_234 : decode cX13_plays 234 = .ok (.iadd, 1) := by decide +kernel
theorem dX13_plays_235 : decode cX13_plays 235 = .ok (.iconst 1, 1) := by decide +kernel
theorem dX13_plays_236 : decode cX13_plays 236 = .ok (.iastore, 1) := by decide +kernel
theorem dX13_plays_237 : decode cX13_plays 237 = .ok (.aload_n 0, 1) := by decide +kernel
theorem dX13_plays_238 : decode cX13_plays 238 = .ok (.iconst 1, 1) := by decide +kernel
theorem dX13_plays_239 : decode cX13_plays 239 = .ok (.iload 4, 2) := by decide +kernel
theorem dX13_plays_241 : decode cX13_plays 241 = .ok (.iconst 0, 1) := by decide +kernel
theorem dX13_plays_242 : decode cX13_plays 242 = .ok (.iload 5, 2) := by decide +kernel
theorem dX13_plays_244 : decode cX13_plays 244 = .ok (.invokevirtual 221, 3) := by decide +kernel
theorem dX13_plays_247 : decode cX13_plays 247 = .ok (.iload 5, 2) := by decide +kernel
theorem dX13_plays_249 : decode cX13_plays 249 = .ok (.ireturn, 1) := by decide +kernel
theorem dX13_plays_250 : decode cX13_plays 250 = .ok (.iload_n 2, 1) := by decide +kernel
theorem dX13_plays_251 : decode cX13_plays 251 = .ok (.iconst 1, 1) := by decide +kernel
theorem dX13_plays_252 : decode cX13_plays 252 = .ok (.iadd, 1) := by decide +kernel
theorem dX13_plays_253 : decode cX13_plays 253 = .ok (.istore 6, 2) := by decide +kernel
theorem dX13_plays_255 : decode cX13_plays 255 = .ok (.aload_n 0, 1) := by decide +kernel
theorem dX13_plays_256 : decode cX13_plays 256 = .ok (.getfield 22, 3) := by decide +kernel
theorem dX13_plays_259 : decode cX13_plays 259 = .ok (.iconst 5, 1) := by decide +kernel
theorem dX13_plays_260 : decode cX13_plays 260 = .ok (.iload 5, 2) := by decide +kernel
theorem dX13_plays_262 : decode cX13_plays 262 = .ok (.iadd, 1) := by decide +kernel
theorem dX13_plays_263 : decode cX13_plays 263 = .ok (.aload_n 0, 1) := by decide +kernel
theorem dX13_plays_264 : decode cX13_plays 264 = .ok (.iload_n 2, 1) := by decide +kernel
theorem dX13_plays_265 : decode cX13_plays 265 = .ok (.invokevirtual 225, 3) := by decide +kernel
theorem dX13_plays_268 : decode cX13_plays 268 = .ok (.iastore, 1) := by decide +kernel
theorem dX13_plays_269 : decode cX13_plays 269 = .ok (.iconst 0, 1) := by decide +kernel
theorem dX13_plays_270 : decode cX13_plays 270 = .ok (.istore 7, 2) := by decide +kernel
theorem dX13_plays_272 : decode cX13_plays 272 = .ok (.iload 7, 2) := by decide +kernel
theorem dX13_plays_274 : decode cX13_plays 274 = .ok (.aload_n 0, 1) := by decide +kernel
theorem dX13_plays_275 : decode cX13_plays 275 = .ok (.getfield 22, 3) := by decide +kernel
theorem dX13_plays_278 : decode cX13_plays 278 = .ok (.iconst 5, 1) := by decide +kernel
theorem dX13_plays_279 : decode cX13_plays 279 = .ok (.iload 5, 2) := by decide +kernel
theorem dX13_plays_281 : decode cX13_plays 281 = .ok (.iadd, 1) := by decide +kernel
theorem dX13_plays_282 : decode cX13_plays 282 = .ok (.iaload, 1) := by decide +kernel
theorem dX13_plays_283 : decode cX13_plays 283 = .ok (.if_icmp .ge 93, 3) := by decide +kernel
theorem dX13_plays_286 : decode cX13_plays 286 = .ok (.aload_n 0, 1) := by decide +kernel
theorem dX13_plays_287 : decode cX13_plays 287 = .ok (.iload 6, 2) := by decide +kernel
theorem dX13_plays_289 : decode cX13_plays 289 = .ok (.invokevirtual 225, 3) := by decide +kernel
theorem dX13_plays_292 : decode cX13_plays 292 = .ok (.istore 8, 2) := by decide +kernel
theorem dX13_plays_294 : decode cX13_plays 294 = .ok (.aload_n 0, 1) := by decide +kernel
theorem dX13_plays_295 : decode cX13_plays 295 = .ok (.getfield 25, 3) := by decide +kernel
theorem dX13_plays_298 : decode cX13_plays 298 = .ok (.bipush 20, 2) := by decide +kernel
theorem dX13_plays_300 : decode cX13_plays 300 = .ok (.iconst 4, 1) := by decide +kernel
theorem dX13_plays_301 : decode cX13_plays 301 = .ok (.iload 5, 2) := by decide +kernel
theorem dX13_plays_303 : decode cX13_plays 303 = .ok (.imul, 1) := by decide +kernel
theorem dX13_plays_304 : decode cX13_plays 304 = .ok (.iadd, 1) := by decide +kernel
theorem dX13_plays_305 : decode cX13_plays 305 = .ok (.iload 7, 2) := by decide +kernel
theorem dX13_plays_307 : decode cX13_plays 307 = .ok (.iadd, 1) := by decide +kernel
theorem dX13_plays_308 : decode cX13_plays 308 = .ok (.iload 8, 2) := by decide +kernel
theorem dX13_plays_310 : decode cX13_plays 310 = .ok (.iastore, 1) := by decide +kernel
theorem dX13_plays_311 : decode cX13_plays 311 = .ok (.iconst 0, 1) := by decide +kernel
theorem dX13_plays_312 : decode cX13_plays 312 = .ok (.istore 9, 2) := by decide +kernel
theorem dX13_plays_314 : decode cX13_plays 314 = .ok (.iload 9, 2) := by decide +kernel
theorem dX13_plays_316 : decode cX13_plays 316 = .ok (.iload 8, 2) := by decide +kernel
theorem dX13_plays_318 : decode cX13_plays 318 = .ok (.if_icmp .ge 43, 3) := by decide +kernel
theorem dX13_plays_321 : decode cX13_plays 321 = .ok (.aload_n 0, 1) := by decide +kernel
theorem dX13_plays_322 : decode cX13_plays 322 = .ok (.getfield 28, 3) := by decide +kernel
theorem dX13_plays_325 : decode cX13_plays 325 = .ok (.sipush 400, 3) := by decide +kernel
theorem dX13_plays_328 : decode cX13_plays 328 = .ok (.bipush 80, 2) := by decide +kernel
theorem dX13_plays_330 : decode cX13_plays 330 = .ok (.iload 5, 2) := by decide +kernel
theorem dX13_plays_332 : decode cX13_plays 332 = .ok (.imul, 1) := by decide +kernel
theorem dX13_plays_333 : decode cX13_plays 333 = .ok (.iadd, 1) := by decide +kernel
theorem dX13_plays_334 : decode cX13_plays 334 = .ok (.bipush 20, 2) := by decide +kernel
theorem dX13_plays_336 : decode cX13_plays 336 = .ok (.iload 7, 2) := by decide +kernel
theorem dX13_plays_338 : decode cX13_plays 338 = .ok (.imul, 1) := by decide +kernel
theorem dX13_plays_339 : decode cX13_plays 339 = .ok (.iadd, 1) := by decide +kernel
theorem dX13_plays_340 : decode cX13_plays 340 = .ok (.iload 9, 2) := by decide +kernel
theorem dX13_plays_342 : decode cX13_plays 342 = .ok (.iadd, 1) := by decide +kernel
theorem dX13_plays_343 : decode cX13_plays 343 = .ok (.aload_n 0, 1) := by decide +kernel
theorem dX13_plays_344 : decode cX13_plays 344 = .ok (.iload 6, 2) := by decide +kernel
theorem dX13_plays_346 : decode cX13_plays 346 = .ok (.iconst 1, 1) := by decide +kernel
theorem dX13_plays_347 : decode cX13_plays 347 = .ok (.iadd, 1) := by decide +kernel
theorem dX13_plays_348 : decode cX13_plays 348 = .ok (.iload 9, 2) := by decide +kernel
theorem dX13_plays_350 : decode cX13_plays 350 = .ok (.iadd, 1) := by decide +kernel
theorem dX13_plays_351 : decode cX13_plays 351 = .ok (.invokevirtual 225, 3) := by decide +kernel
theorem dX13_plays_354 : decode cX13_plays 354 = .ok (.iastore, 1) := by decide +kernel
theorem dX13_plays_355 : decode cX13_plays 355 = .ok (.iinc 9 1, 3) := by decide +kernel
theorem dX13_plays_358 : decode cX13_plays 358 = .ok (.goto (-44), 3) := by decide +kernel
theorem dX13_plays_361 : decode cX13_plays 361 = .ok (.iload 6, 2) := by decide +kernel
theorem dX13_plays_363 : decode cX13_plays 363 = .ok (.iload 8, 2) := by decide +kernel
theorem dX13_plays_365 : decode cX13_plays 365 = .ok (.iconst 1, 1) := by decide +kernel
theorem dX13_plays_366 : decode cX13_plays 366 = .ok (.iadd, 1) := by decide +kernel
theorem dX13_plays_367 : decode cX13_plays 367 = .ok (.iadd, 1) := by decide +kernel
theorem dX13_plays_368 : decode cX13_plays 368 = .ok (.istore 6, 2) := by decide +kernel
theorem dX13_plays_370 : decode cX13_plays 370 = .ok (.iinc 7 1, 3) := by decide +kernel
theorem dX13_plays_373 : decode cX13_plays 373 = .ok (.goto (-101), 3) := by decide +kernel
theorem dX13_plays_376 : decode cX13_plays 376 = .ok (.iload 6, 2) := by decide +kernel
theorem dX13_plays_378 : decode cX13_plays 378 = .ok (.iload_n 2, 1) := by decide +kernel
theorem dX13_plays_379 : decode cX13_plays 379 = .ok (.isub, 1) := by decide +kernel
theorem dX13_plays_380 : decode cX13_plays 380 = .ok (.ireturn, 1) := by decide +kernel
theorem dX13_plays_381 : decode cX13_plays 381 = .ok (.iconst 0, 1) := by decide +kernel
theorem dX13_plays_382 : decode cX13_plays 382 = .ok (.ireturn, 1) := by decide +kernel
set_option maxRecDepth 4000 in
theorem c_plays (γ : LC) (μ : MU) (w : Mm) (x t : Int) (hx : 0 ≤ x ∧ x < 16777216) (hg : LGs (x % 8) (x / 8 % 512) (x / 4096) t w) (hc : LGc (x % 8) (x / 4096) t w) (hS1 : SB 1 w) (hV : 0 ≤ w 210 0 0 ∧ w 210 0 0 ≤ 4) (hE : bE w) : CMi γ μ 2 mX13_plays [.int (I x), .int (I t)] w (fun r w' => r = (m_play x t w).1 ∧ w' = (m_play x t w).2) := by
  refine CMi_of rfl (by simp [rv_cat, Value.category]) rfl ?_
  rintro κ hO hF rfl hR
  have hD := hF.dp
  show X κ 0 0 w 0 [some (rv μ.1), some (.int (I x)), some (.int (I t)), none, none, none, none, none, none, none] []
  have hL1 := hS1.1
  unfold bL1 at hL1
  unfold LGs at hg
  obtain ⟨g1, g2, g3, g4⟩ := hg
  have hM1 : bM 1 w := fun i a b => by have := (hS1.2.2.1 i (by omega) (by omega)).1; omega
  have hR9 := hS1.2.2.2.1 9 (by decide) (by decide)
  have hE36 := hS1.2.2.2.2.1 36 (by decide) (by decide)
  refine X_iload_n 1 hO dX13_plays_0 rfl rfl ?_
  refine X_bipush 3 hO dX13_plays_1 rfl (by decide) ?_
  refine X_iand 4 hO dX13_plays_3 rfl (I_and 7 3 8 rfl (by decide) (by omega) (by omega)) ?_
  refine X_istore_n 5 hO dX13_plays_4 rfl rfl ?_
  refine X_iload_n 6 hO dX13_plays_5 rfl rfl ?_
  refine X_iconst 7 hO dX13_plays_6 rfl ?_
  refine X_ishr 8 hO dX13_plays_7 rfl (I_shr _ 3 8 rfl (by decide) (by omega) (by omega)) ?_
  refine X_sipush 11 hO dX13_plays_8 rfl (by decide) ?_
  refine X_iand 12 hO dX13_plays_11 rfl (I_and 511 9 512 rfl (by decide) (by omega) (by omega)) ?_
  refine X_istore 14 hO dX13_plays_12 rfl rfl ?_
  refine X_iload_n 15 hO dX13_plays_14 rfl rfl ?_
  refine X_bipush 17 hO dX13_plays_15 rfl (by decide) ?_
  refine X_ishr 18 hO dX13_plays_17 rfl (I_shr _ 12 4096 rfl (by decide) (by omega) (by omega)) ?_
  refine X_istore 20 hO dX13_plays_18 rfl rfl ?_
  refine X_iload_n 21 hO dX13_plays_20 rfl rfl ?_
  refine X_if_ne 24 74 hO dX13_plays_21 rfl rfl (by omega) (fun hc_21 => ?_) (fun hc_21 => ?_)
  ·
    refine X_iload_n 75 hO dX13_plays_74 rfl rfl ?_
    refine X_iconst 76 hO dX13_plays_75 rfl ?_
    refine X_icmp_ne 79 91 hO dX13_plays_76 rfl rfl (by omega) (by omega) (fun hc_76 => ?_) (fun hc_76 => ?_)
    ·
      refine X_iload_n 92 hO dX13_plays_91 rfl rfl ?_
      refine X_iconst 93 hO dX13_plays_92 rfl ?_
      refine X_icmp_ne 96 112 hO dX13_plays_93 rfl rfl (by omega) (by omega) (fun hc_93 => ?_) (fun hc_93 => ?_)
      ·
        refine X_iload_n 113 hO dX13_plays_112 rfl rfl ?_
        refine X_iconst 114 hO dX13_plays_113 rfl ?_
        refine X_icmp_ne 117 162 hO dX13_plays_114 rfl rfl (by omega) (by omega) (fun hc_114 => ?_) (fun hc_114 => ?_)
        ·
          refine X_iload_n 163 hO dX13_plays_162 rfl rfl ?_
          refine X_bipush 165 hO dX13_plays_163 rfl (by decide) ?_
          refine X_icmp_ne 168 176 hO dX13_plays_165 rfl rfl (by omega) (by omega) (fun hc_165 => ?_) (fun hc_165 => ?_)
          ·
            refine X_iload_n 177 hO dX13_plays_176 rfl rfl ?_
            refine X_iconst 178 hO dX13_plays_177 rfl ?_
            refine X_icmp_eq 181 250 hO dX13_plays_178 rfl rfl (by omega) (by omega) (fun hc_178 => ?_) (fun hc_178 => ?_)
            ·
              have h4 := g4.2.2.2.2.1 (by omega)
              have hcc := hc (by omega)
              have hpt := pby_rng (w := w) (j := t)
              have hsr := sto_rng (v := x / 4096) (t := t) (w := w) (fun n hn => (hcc.2 n hn).1)
              refine X_iload_n 251 hO dX13_plays_250 rfl rfl ?_
              refine X_iconst 252 hO dX13_plays_251 rfl ?_
              refine X_iadd 253 hO dX13_plays_252 rfl ?_
              refine X_istore 255 hO dX13_plays_253 rfl rfl ?_
              refine X_aload_n 256 hO dX13_plays_255 rfl rfl ?_
              refine ga_22 259 hO hR dX13_plays_256 rfl ?_
              refine X_iconst 260 hO dX13_plays_259 rfl ?_
              refine X_iload 262 hO dX13_plays_260 rfl rfl ?_
              refine X_iadd 263 hO dX13_plays_262 rfl ?_
              refine X_aload_n 264 hO dX13_plays_263 rfl rfl ?_
              refine X_iload_n 265 hO dX13_plays_264 rfl rfl ?_
              refine XM_callVi 268 hO hD hR lX13_225 [_] rfl dX13_plays_265 rfl (c_pooled _ _ _ _ (by omega)) (by decide) (by simp only [List.map_cons, List.map_nil, rv_cat]; exact Nat.le_of_ble_eq_true rfl) (fun r_265 w_265 hr_265 hp_265 hR => ?_)
              obtain ⟨e1_265, e2_265⟩ := hp_265
              subst e1_265
              subst e2_265
              refine ma_st (L := 20) (c := 204) 269 hO hR rfl rfl rfl dX13_plays_268 rfl (by omega) (by omega) (by omega) (fun hR => ?_)
              refine X_iconst 270 hO dX13_plays_269 rfl ?_
              refine X_istore 272 hO dX13_plays_270 rfl rfl ?_
              have LP272 : ∀ (n : Nat) (n1 : Int), (pby w t - n1).toNat < n → (0 ≤ n1 ∧ n1 ≤ pby w t) → RM ((m_sto (x / 4096) t w n1.toNat).2) μ → X κ 0 0 ((m_sto (x / 4096) t w n1.toNat).2) 272 [some (rv μ.1), some (.int (I x)), some (.int (I t)), some (.int (I (x % 8))), some (.int (I (x / 8 % 512))), some (.int (I (x / 4096))), some (.int (I (m_sto (x / 4096) t w n1.toNat).1)), some (.int (I n1)), none, none] [] := by
                intro n
                induction n with
                | zero => intro n1 hm; exact absurd hm (Nat.not_lt_zero _)
                | succ n iho =>
                  intro n1 hm hn1 hR
                  have s204 := sto_204 (v := x / 4096) (t := t) (w := w) n1.toNat
                  refine X_iload 274 hO dX13_plays_272 rfl rfl ?_
                  refine X_aload_n 275 hO dX13_plays_274 rfl rfl ?_
                  refine ga_22 278 hO hR dX13_plays_275 rfl ?_
                  refine X_iconst 279 hO dX13_plays_278 rfl ?_
                  refine X_iload 281 hO dX13_plays_279 rfl rfl ?_
                  refine X_iadd 282 hO dX13_plays_281 rfl ?_
                  refine ma_ld (L := 20) (c := 204) 283 hO hR rfl rfl rfl dX13_plays_282 rfl (by omega) (by omega) (fun hi_282 => ?_)
                  rw [s204]
                  refine X_icmp_ge 286 376 hO dX13_plays_283 rfl rfl (by omega) (by omega) (fun hc_283 => ?_) (fun hc_283 => ?_)
                  ·
                    have en1 : n1 = pby w t := by omega
                    subst en1
                    have hs1 := hsr (pby w t).toNat (by omega)
                    refine X_iload 378 hO dX13_plays_376 rfl rfl ?_
                    refine X_iload_n 379 hO dX13_plays_378 rfl rfl ?_
                    refine X_isub 380 hO dX13_plays_379 rfl ?_
                    exact XM_iret hO hF hR rfl (by first | exact Or.inl rfl | exact Or.inr ⟨rfl, bi_01 _⟩ | exact Or.inr ⟨rfl, by omega⟩) dX13_plays_380 (by first | assumption | omega) (by unfold m_play m_ply m_opn1 m_buf; (repeat (first | rw [if_pos (by omega)] | rw [if_neg (by omega)])); exact ⟨rfl, rfl⟩)
                  ·
                    have hs1 := hsr n1.toNat (by omega)
                    have hq1 := (hcc.2 n1.toNat (by omega)).1
                    have hq2 := pby_rng (w := w) (j := (m_sto (x / 4096) t w n1.toNat).1)
                    refine X_aload_n 287 hO dX13_plays_286 rfl rfl ?_
                    refine X_iload 289 hO dX13_plays_287 rfl rfl ?_
                    refine XM_callVi 292 hO hD hR lX13_225 [_] rfl dX13_plays_289 rfl (c_pooled _ _ _ _ (by omega)) (by decide) (by simp only [List.map_cons, List.map_nil, rv_cat]; exact Nat.le_of_ble_eq_true rfl) (fun r_289 w_289 hr_289 hp_289 hR => ?_)
                    obtain ⟨e1_289, e2_289⟩ := hp_289
                    subst e1_289
                    subst e2_289
                    rw [pby_sto]
                    refine X_istore 294 hO dX13_plays_292 rfl rfl ?_
                    refine X_aload_n 295 hO dX13_plays_294 rfl rfl ?_
                    refine ga_25 298 hO hR dX13_plays_295 rfl ?_
                    refine X_bipush 300 hO dX13_plays_298 rfl (by decide) ?_
                    refine X_iconst 301 hO dX13_plays_300 rfl ?_
                    refine X_iload 303 hO dX13_plays_301 rfl rfl ?_
                    refine X_imul 304 hO dX13_plays_303 rfl ?_
                    refine X_iadd 305 hO dX13_plays_304 rfl ?_
                    refine X_iload 307 hO dX13_plays_305 rfl rfl ?_
                    refine X_iadd 308 hO dX13_plays_307 rfl ?_
                    refine X_iload 310 hO dX13_plays_308 rfl rfl ?_
                    refine ma_st (L := 80) (c := 205) 311 hO hR rfl rfl rfl dX13_plays_310 rfl (by omega) (by omega) (by omega) (fun hR => ?_)
                    refine X_iconst 312 hO dX13_plays_311 rfl ?_
                    refine X_istore 314 hO dX13_plays_312 rfl rfl ?_
                    have LP314 : ∀ (n : Nat) (i : Int), (pby w (m_sto (x / 4096) t w n1.toNat).1 - i).toNat < n → (0 ≤ i ∧ i ≤ pby w (m_sto (x / 4096) t w n1.toNat).1) → RM ((fl (up (m_sto (x / 4096) t w n1.toNat).2 205 0 (20 + 4 * (x / 4096) + n1) (pby w (m_sto (x / 4096) t w n1.toNat).1)) 206 (400 + 80 * (x / 4096) + 20 * n1) i (fun i => pby w ((m_sto (x / 4096) t w n1.toNat).1 + 1 + (i - (400 + 80 * (x / 4096) + 20 * n1)))))) μ → X κ 0 0 ((fl (up (m_sto (x / 4096) t w n1.toNat).2 205 0 (20 + 4 * (x / 4096) + n1) (pby w (m_sto (x / 4096) t w n1.toNat).1)) 206 (400 + 80 * (x / 4096) + 20 * n1) i (fun i => pby w ((m_sto (x / 4096) t w n1.toNat).1 + 1 + (i - (400 + 80 * (x / 4096) + 20 * n1)))))) 314 [some (rv μ.1), some (.int (I x)), some (.int (I t)), some (.int (I (x % 8))), some (.int (I (x / 8 % 512))), some (.int (I (x / 4096))), some (.int (I (m_sto (x / 4096) t w n1.toNat).1)), some (.int (I n1)), some (.int (I (pby w (m_sto (x / 4096) t w n1.toNat).1))), some (.int (I i))] [] := by
                      intro n
                      induction n with
                      | zero => intro i hm; exact absurd hm (Nat.not_lt_zero _)
                      | succ n ih =>
                        intro i hm hi hR
                        refine X_iload 316 hO dX13_plays_314 rfl rfl ?_
                        refine X_iload 318 hO dX13_plays_316 rfl rfl ?_
                        refine X_icmp_ge 321 361 hO dX13_plays_318 rfl rfl (by omega) (by omega) (fun hc_318 => ?_) (fun hc_318 => ?_)
                        ·
                          have e316 : i = pby w (m_sto (x / 4096) t w n1.toNat).1 := by omega
                          subst e316
                          refine X_iload 363 hO dX13_plays_361 rfl rfl ?_
                          refine X_iload 365 hO dX13_plays_363 rfl rfl ?_
                          refine X_iconst 366 hO dX13_plays_365 rfl ?_
                          refine X_iadd 367 hO dX13_plays_366 rfl ?_
                          refine X_iadd 368 hO dX13_plays_367 rfl ?_
                          refine X_istore 370 hO dX13_plays_368 rfl rfl ?_
                          refine X_iinc 373 hO dX13_plays_370 rfl rfl ?_
                          refine X_goto hO dX13_plays_373 (tgt := 272) rfl ?_
                          have e : (n1 + 1).toNat = n1.toNat + 1 := by omega
                          have hnx : (m_sto (x / 4096) t w (n1 + 1).toNat).1 = (m_sto (x / 4096) t w n1.toNat).1 + (pby w (m_sto (x / 4096) t w n1.toNat).1 + 1) := by rw [e]; rfl
                          refine X_wk (ls' := [some (rv μ.1), some (.int (I x)), some (.int (I t)), some (.int (I (x % 8))), some (.int (I (x / 8 % 512))), some (.int (I (x / 4096))), some (.int (I (m_sto (x / 4096) t w (n1 + 1).toNat).1)), some (.int (I (n1 + 1))), none, none]) (by simp only [lwk, lset, true_or, or_true, and_self, hnx]) (X_eqR hR (w2 := (m_sto (x / 4096) t w (n1 + 1).toNat).2) ?_ (fun hR => iho (n1 + 1) (by omega) (by omega) hR))
                          rw [e]
                          show _ = fl (up (m_sto (x / 4096) t w n1.toNat).2 205 0 (20 + 4 * (x / 4096) + (n1.toNat : Int)) (pby w (m_sto (x / 4096) t w n1.toNat).1)) 206 (400 + 80 * (x / 4096) + 20 * (n1.toNat : Int)) (pby w (m_sto (x / 4096) t w n1.toNat).1) (fun i => pby w ((m_sto (x / 4096) t w n1.toNat).1 + 1 + (i - (400 + 80 * (x / 4096) + 20 * (n1.toNat : Int)))))
                          rw [show (n1.toNat : Int) = n1 by omega]
                        ·
                          refine X_aload_n 322 hO dX13_plays_321 rfl rfl ?_
                          refine ga_28 325 hO hR dX13_plays_322 rfl ?_
                          refine X_sipush 328 hO dX13_plays_325 rfl (by decide) ?_
                          refine X_bipush 330 hO dX13_plays_328 rfl (by decide) ?_
                          refine X_iload 332 hO dX13_plays_330 rfl rfl ?_
                          refine X_imul 333 hO dX13_plays_332 rfl ?_
                          refine X_iadd 334 hO dX13_plays_333 rfl ?_
                          refine X_bipush 336 hO dX13_plays_334 rfl (by decide) ?_
                          refine X_iload 338 hO dX13_plays_336 rfl rfl ?_
                          refine X_imul 339 hO dX13_plays_338 rfl ?_
                          refine X_iadd 340 hO dX13_plays_339 rfl ?_
                          refine X_iload 342 hO dX13_plays_340 rfl rfl ?_
                          refine X_iadd 343 hO dX13_plays_342 rfl ?_
                          refine X_aload_n 344 hO dX13_plays_343 rfl rfl ?_
                          refine X_iload 346 hO dX13_plays_344 rfl rfl ?_
                          refine X_iconst 347 hO dX13_plays_346 rfl ?_
                          refine X_iadd 348 hO dX13_plays_347 rfl ?_
                          refine X_iload 350 hO dX13_plays_348 rfl rfl ?_
                          refine X_iadd 351 hO dX13_plays_350 rfl ?_
                          refine XM_callVi 354 hO hD hR lX13_225 [_] rfl dX13_plays_351 rfl (c_pooled _ _ _ _ (by omega)) (by decide) (by simp only [List.map_cons, List.map_nil, rv_cat]; exact Nat.le_of_ble_eq_true rfl) (fun r_351 w_351 hr_351 hp_351 hR => ?_)
                          obtain ⟨e1_351, e2_351⟩ := hp_351
                          subst e1_351
                          subst e2_351
                          refine ma_st (L := 1600) (c := 206) 355 hO hR rfl rfl rfl dX13_plays_354 rfl (by omega) (by omega) (by omega) (fun hR => ?_)
                          refine X_iinc 358 hO dX13_plays_355 rfl rfl ?_
                          refine X_goto hO dX13_plays_358 (tgt := 314) rfl ?_
                          exact X_eqR hR (fl_stp (by omega) rfl (by omega) (by rw [pby_fl (by decide), pby_up (by decide), pby_sto]; congr 1; omega)) (fun hR => ih (i + 1) (by omega) (by omega) hR)
                    exact X_eqR hR (fl_00 rfl) (fun hR => LP314 _ 0 (Nat.lt_succ_self _) (by omega) hR)
              exact X_eqR hR (w2 := (m_sto (x / 4096) t w (0 : Int).toNat).2) rfl (fun hR => LP272 _ 0 (Nat.lt_succ_self _) (by omega) hR)
            ·
              have h5 : x % 8 = 5 ∨ x % 8 = 7 := by omega
              have h20 : x / 4096 ≤ 20 := by rcases h5 with h5 | h5; exact g4.2.2.2.2.2.1 h5; exact (g4.2.2.2.2.2.2.2 h5).2
              refine X_iconst 182 hO dX13_plays_181 rfl ?_
              refine X_istore 184 hO dX13_plays_182 rfl rfl ?_
              have LP184 : ∀ (n : Nat) (i : Int), (x / 4096 - i).toNat < n → (0 ≤ i ∧ i ≤ x / 4096) → RM ((fl w 240 0 i (fun i => pby w (t + i)))) μ → X κ 0 0 ((fl w 240 0 i (fun i => pby w (t + i)))) 184 [some (rv μ.1), some (.int (I x)), some (.int (I t)), some (.int (I (x % 8))), some (.int (I (x / 8 % 512))), some (.int (I (x / 4096))), some (.int (I i)), none, none, none] [] := by
                intro n
                induction n with
                | zero => intro i hm; exact absurd hm (Nat.not_lt_zero _)
                | succ n ih =>
                  intro i hm hi hR
                  refine X_iload 186 hO dX13_plays_184 rfl rfl ?_
                  refine X_iload 188 hO dX13_plays_186 rfl rfl ?_
                  refine X_icmp_ge 191 212 hO dX13_plays_188 rfl rfl (by omega) (by omega) (fun hc_188 => ?_) (fun hc_188 => ?_)
                  ·
                    have e188 : i = x / 4096 := by omega
                    subst e188
                    refine X_iload_n 213 hO dX13_plays_212 rfl rfl ?_
                    refine X_iconst 214 hO dX13_plays_213 rfl ?_
                    refine X_icmp_ne 217 227 hO dX13_plays_214 rfl rfl (by omega) (by omega) (fun hc_214 => ?_) (fun hc_214 => ?_)
                    ·
                      have h7 := g4.2.2.2.2.2.2.2 (by omega)
                      refine X_aload_n 228 hO dX13_plays_227 rfl rfl ?_
                      refine ga_22 231 hO hR dX13_plays_228 rfl ?_
                      refine X_iconst 232 hO dX13_plays_231 rfl ?_
                      refine X_iload 234 hO dX13_plays_232 rfl rfl ?_
                      refine X_iadd 235 hO dX13_plays_234 rfl ?_
                      refine X_iconst 236 hO dX13_plays_235 rfl ?_
                      refine ma_st (L := 20) (c := 204) 237 hO hR rfl rfl rfl dX13_plays_236 rfl (by omega) (by omega) (by omega) (fun hR => ?_)
                      refine X_aload_n 238 hO dX13_plays_237 rfl rfl ?_
                      refine X_iconst 239 hO dX13_plays_238 rfl ?_
                      refine X_iload 241 hO dX13_plays_239 rfl rfl ?_
                      refine X_iconst 242 hO dX13_plays_241 rfl ?_
                      refine X_iload 244 hO dX13_plays_242 rfl rfl ?_
                      refine XM_callVv 247 hO hD hR lX13_221 [_, _, _, _] rfl dX13_plays_244 rfl (c_takes _ _ _ _ _ _ _ (by omega) (by omega) (by omega) (by omega)) (by decide) (by simp only [List.map_cons, List.map_nil, rv_cat]; exact Nat.le_of_ble_eq_true rfl) (fun w_244 hp_244 hR => ?_)
                      subst hp_244
                      refine X_iload 249 hO dX13_plays_247 rfl rfl ?_
                      exact XM_iret hO hF hR rfl (by first | exact Or.inl rfl | exact Or.inr ⟨rfl, bi_01 _⟩ | exact Or.inr ⟨rfl, by omega⟩) dX13_plays_249 (by first | assumption | omega) (by unfold m_play m_ply m_opn1 m_buf; (repeat (first | rw [if_pos (by omega)] | rw [if_neg (by omega)])); exact ⟨rfl, rfl⟩)
                    ·
                      refine X_aload_n 218 hO dX13_plays_217 rfl rfl ?_
                      refine X_iconst 219 hO dX13_plays_218 rfl ?_
                      refine X_iload 221 hO dX13_plays_219 rfl rfl ?_
                      refine XM_callVv 224 hO hD hR lX13_232 [_, _] rfl dX13_plays_221 rfl (c_pushes _ _ _ _ _ (by omega) (by omega) (by show 0 ≤ fl w 240 0 (x / 4096) _ 204 0 9 ∧ fl w 240 0 (x / 4096) _ 204 0 9 ≤ 4; rw [fl_at (by decide)]; omega)) (by decide) (by simp only [List.map_cons, List.map_nil, rv_cat]; exact Nat.le_of_ble_eq_true rfl) (fun w_221 hp_221 hR => ?_)
                      subst hp_221
                      refine X_goto hO dX13_plays_224 (tgt := 247) rfl ?_
                      refine X_iload 249 hO dX13_plays_247 rfl rfl ?_
                      exact XM_iret hO hF hR rfl (by first | exact Or.inl rfl | exact Or.inr ⟨rfl, bi_01 _⟩ | exact Or.inr ⟨rfl, by omega⟩) dX13_plays_249 (by first | assumption | omega) (by unfold m_play m_ply m_opn1 m_buf; (repeat (first | rw [if_pos (by omega)] | rw [if_neg (by omega)])); exact ⟨rfl, rfl⟩)
                  ·
                    refine X_aload_n 192 hO dX13_plays_191 rfl rfl ?_
                    refine ga_150 195 hO hR dX13_plays_192 rfl ?_
                    refine X_iload 197 hO dX13_plays_195 rfl rfl ?_
                    refine X_aload_n 198 hO dX13_plays_197 rfl rfl ?_
                    refine X_iload_n 199 hO dX13_plays_198 rfl rfl ?_
                    refine X_iload 201 hO dX13_plays_199 rfl rfl ?_
                    refine X_iadd 202 hO dX13_plays_201 rfl ?_
                    refine XM_callVi 205 hO hD hR lX13_225 [_] rfl dX13_plays_202 rfl (c_pooled _ _ _ _ (by omega)) (by decide) (by simp only [List.map_cons, List.map_nil, rv_cat]; exact Nat.le_of_ble_eq_true rfl) (fun r_202 w_202 hr_202 hp_202 hR => ?_)
                    obtain ⟨e1_202, e2_202⟩ := hp_202
                    subst e1_202
                    subst e2_202
                    refine ma_st (L := 400) (c := 240) 206 hO hR rfl rfl rfl dX13_plays_205 rfl (by omega) (by omega) (by omega) (fun hR => ?_)
                    refine X_iinc 209 hO dX13_plays_206 rfl rfl ?_
                    refine X_goto hO dX13_plays_209 (tgt := 184) rfl ?_
                    exact X_eqR hR (fl_stp (by omega) rfl (by omega) (by rw [pby_fl (by decide)])) (fun hR => ih (i + 1) (by omega) (by omega) hR)
              exact X_eqR hR (fl_00 rfl) (fun hR => LP184 _ 0 (Nat.lt_succ_self _) (by omega) hR)
          ·
            have h4 := g4.2.2.2.2.2.2.1 (by omega)
            refine X_aload_n 169 hO dX13_plays_168 rfl rfl ?_
            refine X_iconst 170 hO dX13_plays_169 rfl ?_
            refine XM_callVv 173 hO hD hR lX13_229 [_] rfl dX13_plays_170 rfl (c_turns _ _ _ _ (by omega) (by show 1 ≤ w 204 0 9 ∧ w 204 0 9 ≤ 4; omega) (by show 0 ≤ w 205 0 36 ∧ w 205 0 36 ≤ 20; omega)) (by decide) (by simp only [List.map_cons, List.map_nil, rv_cat]; exact Nat.le_of_ble_eq_true rfl) (fun w_170 hp_170 hR => ?_)
            subst hp_170
            refine X_goto hO dX13_plays_173 (tgt := 381) rfl ?_
            refine X_iconst 382 hO dX13_plays_381 rfl ?_
            exact XM_iret hO hF hR rfl (by first | exact Or.inl rfl | exact Or.inr ⟨rfl, bi_01 _⟩ | exact Or.inr ⟨rfl, by omega⟩) dX13_plays_382 (by first | assumption | omega) (by unfold m_play m_ply m_opn1 m_buf; (repeat (first | rw [if_pos (by omega)] | rw [if_neg (by omega)])); exact ⟨rfl, rfl⟩)
        ·
          have h4 := g4.2.2.2.1 (by omega)
          refine X_aload_n 118 hO dX13_plays_117 rfl rfl ?_
          refine ga_16 121 hO hR dX13_plays_118 rfl ?_
          refine X_bipush 123 hO dX13_plays_121 rfl (by decide) ?_
          refine X_iload 125 hO dX13_plays_123 rfl rfl ?_
          refine X_iconst 126 hO dX13_plays_125 rfl ?_
          refine X_idiv 127 hO dX13_plays_126 rfl (by decide) (I_div2 (by omega) (by omega)) ?_
          refine X_iadd 128 hO dX13_plays_127 rfl ?_
          refine X_iload 130 hO dX13_plays_128 rfl rfl ?_
          refine X_sipush 133 hO dX13_plays_130 rfl (by decide) ?_
          refine X_icmp_ne 136 140 hO dX13_plays_133 rfl rfl (by omega) (by omega) (fun hc_133 => ?_) (fun hc_133 => ?_)
          ·
            refine X_iload 142 hO dX13_plays_140 rfl rfl ?_
            refine ma_st (L := 24) (c := 202) 143 hO hR rfl rfl rfl dX13_plays_142 rfl (by omega) (by omega) (by omega) (fun hR => ?_)
            refine X_aload_n 144 hO dX13_plays_143 rfl rfl ?_
            refine ga_19 147 hO hR dX13_plays_144 rfl ?_
            refine X_bipush 149 hO dX13_plays_147 rfl (by decide) ?_
            refine X_iload 151 hO dX13_plays_149 rfl rfl ?_
            refine X_iconst 152 hO dX13_plays_151 rfl ?_
            refine X_idiv 153 hO dX13_plays_152 rfl (by decide) (I_div2 (by omega) (by omega)) ?_
            refine X_iadd 154 hO dX13_plays_153 rfl ?_
            refine X_iload 156 hO dX13_plays_154 rfl rfl ?_
            refine X_iconst 157 hO dX13_plays_156 rfl ?_
            refine X_irem 158 hO dX13_plays_157 rfl (by decide) (I_rem2 (by omega) (by omega)) ?_
            refine ma_st (L := 24) (c := 203) 159 hO hR rfl rfl rfl dX13_plays_158 rfl (by omega) (by omega) (by omega) (fun hR => ?_)
            refine X_goto hO dX13_plays_159 (tgt := 381) rfl ?_
            refine X_iconst 382 hO dX13_plays_381 rfl ?_
            exact XM_iret hO hF hR rfl (by first | exact Or.inl rfl | exact Or.inr ⟨rfl, bi_01 _⟩ | exact Or.inr ⟨rfl, by omega⟩) dX13_plays_382 (by first | assumption | omega) (by unfold m_play m_ply m_opn1 m_buf; (repeat (first | rw [if_pos (by omega)] | rw [if_neg (by omega)])); exact ⟨rfl, rfl⟩)
          ·
            refine X_iconst 137 hO dX13_plays_136 rfl ?_
            refine X_goto hO dX13_plays_137 (tgt := 142) rfl ?_
            refine ma_st (L := 24) (c := 202) 143 hO hR rfl rfl rfl dX13_plays_142 rfl (by omega) (by omega) (by omega) (fun hR => ?_)
            refine X_aload_n 144 hO dX13_plays_143 rfl rfl ?_
            refine ga_19 147 hO hR dX13_plays_144 rfl ?_
            refine X_bipush 149 hO dX13_plays_147 rfl (by decide) ?_
            refine X_iload 151 hO dX13_plays_149 rfl rfl ?_
            refine X_iconst 152 hO dX13_plays_151 rfl ?_
            refine X_idiv 153 hO dX13_plays_152 rfl (by decide) (I_div2 (by omega) (by omega)) ?_
            refine X_iadd 154 hO dX13_plays_153 rfl ?_
            refine X_iload 156 hO dX13_plays_154 rfl rfl ?_
            refine X_iconst 157 hO dX13_plays_156 rfl ?_
            refine X_irem 158 hO dX13_plays_157 rfl (by decide) (I_rem2 (by omega) (by omega)) ?_
            refine ma_st (L := 24) (c := 203) 159 hO hR rfl rfl rfl dX13_plays_158 rfl (by omega) (by omega) (by omega) (fun hR => ?_)
            refine X_goto hO dX13_plays_159 (tgt := 381) rfl ?_
            refine X_iconst 382 hO dX13_plays_381 rfl ?_
            exact XM_iret hO hF hR rfl (by first | exact Or.inl rfl | exact Or.inr ⟨rfl, bi_01 _⟩ | exact Or.inr ⟨rfl, by omega⟩) dX13_plays_382 (by first | assumption | omega) (by unfold m_play m_ply m_opn1 m_buf; (repeat (first | rw [if_pos (by omega)] | rw [if_neg (by omega)])); exact ⟨rfl, rfl⟩)
      ·
        have h4 := g4.2.2.1 (by omega)
        refine X_aload_n 97 hO dX13_plays_96 rfl rfl ?_
        refine ga_7 100 hO hR dX13_plays_97 rfl ?_
        refine X_sipush 103 hO dX13_plays_100 rfl (by decide) ?_
        refine X_iload 105 hO dX13_plays_103 rfl rfl ?_
        refine X_iadd 106 hO dX13_plays_105 rfl ?_
        refine X_iload 108 hO dX13_plays_106 rfl rfl ?_
        refine ma_st (L := 1600) (c := 200) 109 hO hR rfl rfl rfl dX13_plays_108 rfl (by omega) (by omega) (by omega) (fun hR => ?_)
        refine X_goto hO dX13_plays_109 (tgt := 381) rfl ?_
        refine X_iconst 382 hO dX13_plays_381 rfl ?_
        exact XM_iret hO hF hR rfl (by first | exact Or.inl rfl | exact Or.inr ⟨rfl, bi_01 _⟩ | exact Or.inr ⟨rfl, by omega⟩) dX13_plays_382 (by first | assumption | omega) (by unfold m_play m_ply m_opn1 m_buf; (repeat (first | rw [if_pos (by omega)] | rw [if_neg (by omega)])); exact ⟨rfl, rfl⟩)
    ·
      have h4 := g4.2.1 (by omega)
      refine X_aload_n 80 hO dX13_plays_79 rfl rfl ?_
      refine X_iconst 81 hO dX13_plays_80 rfl ?_
      refine X_iload 83 hO dX13_plays_81 rfl rfl ?_
      refine X_iload 85 hO dX13_plays_83 rfl rfl ?_
      refine XM_callVv 88 hO hD hR lX13_212 [_, _, _] rfl dX13_plays_85 rfl (c_closes _ _ _ _ _ _ (Or.inr rfl) (by omega) (by omega) hM1 hV hE) (by decide) (by simp only [List.map_cons, List.map_nil, rv_cat]; exact Nat.le_of_ble_eq_true rfl) (fun w_85 hp_85 hR => ?_)
      subst hp_85
      refine X_goto hO dX13_plays_88 (tgt := 381) rfl ?_
      refine X_iconst 382 hO dX13_plays_381 rfl ?_
      exact XM_iret hO hF hR rfl (by first | exact Or.inl rfl | exact Or.inr ⟨rfl, bi_01 _⟩ | exact Or.inr ⟨rfl, by omega⟩) dX13_plays_382 (by first | assumption | omega) (by unfold m_play m_ply m_opn1 m_buf; (repeat (first | rw [if_pos (by omega)] | rw [if_neg (by omega)])); exact ⟨rfl, rfl⟩)
  ·
    have h4 := g4.1 (by omega)
    refine X_aload_n 25 hO dX13_plays_24 rfl rfl ?_
    refine X_iconst 26 hO dX13_plays_25 rfl ?_
    refine X_iload 28 hO dX13_plays_26 rfl rfl ?_
    refine X_iload 30 hO dX13_plays_28 rfl rfl ?_
    refine XM_callVv 33 hO hD hR lX13_203 [_, _, _] rfl dX13_plays_30 rfl (c_opens _ _ _ _ _ _ (Or.inr rfl) (by omega) (by omega) hM1 hV hE) (by decide) (by simp only [List.map_cons, List.map_nil, rv_cat]; exact Nat.le_of_ble_eq_true rfl) (fun w_30 hp_30 hR => ?_)
    subst hp_30
    refine X_iconst 34 hO dX13_plays_33 rfl ?_
    refine X_istore 36 hO dX13_plays_34 rfl rfl ?_
    have LP36 : ∀ (n : Nat) (i : Int), (x / 4096 - i).toNat < n → (0 ≤ i ∧ i ≤ x / 4096) → RM ((fl (m_opens 1 (x / 8 % 512) (x / 4096) w) 200 (400 + x / 8 % 512) i (fun i => pby w (t + (i - (400 + x / 8 % 512)))))) μ → X κ 0 0 ((fl (m_opens 1 (x / 8 % 512) (x / 4096) w) 200 (400 + x / 8 % 512) i (fun i => pby w (t + (i - (400 + x / 8 % 512)))))) 36 [some (rv μ.1), some (.int (I x)), some (.int (I t)), some (.int (I (x % 8))), some (.int (I (x / 8 % 512))), some (.int (I (x / 4096))), some (.int (I i)), none, none, none] [] := by
      intro n
      induction n with
      | zero => intro i hm; exact absurd hm (Nat.not_lt_zero _)
      | succ n ih =>
        intro i hm hi hR
        refine X_iload 38 hO dX13_plays_36 rfl rfl ?_
        refine X_iload 40 hO dX13_plays_38 rfl rfl ?_
        refine X_icmp_ge 43 71 hO dX13_plays_40 rfl rfl (by omega) (by omega) (fun hc_40 => ?_) (fun hc_40 => ?_)
        ·
          have e40 : i = x / 4096 := by omega
          subst e40
          refine X_iload 73 hO dX13_plays_71 rfl rfl ?_
          exact XM_iret hO hF hR rfl (by first | exact Or.inl rfl | exact Or.inr ⟨rfl, bi_01 _⟩ | exact Or.inr ⟨rfl, by omega⟩) dX13_plays_73 (by first | assumption | omega) (by unfold m_play m_ply m_opn1 m_buf; (repeat (first | rw [if_pos (by omega)] | rw [if_neg (by omega)])); exact ⟨rfl, rfl⟩)
        ·
          refine X_aload_n 44 hO dX13_plays_43 rfl rfl ?_
          refine ga_7 47 hO hR dX13_plays_44 rfl ?_
          refine X_sipush 50 hO dX13_plays_47 rfl (by decide) ?_
          refine X_iload 52 hO dX13_plays_50 rfl rfl ?_
          refine X_iadd 53 hO dX13_plays_52 rfl ?_
          refine X_iload 55 hO dX13_plays_53 rfl rfl ?_
          refine X_iadd 56 hO dX13_plays_55 rfl ?_
          refine X_aload_n 57 hO dX13_plays_56 rfl rfl ?_
          refine X_iload_n 58 hO dX13_plays_57 rfl rfl ?_
          refine X_iload 60 hO dX13_plays_58 rfl rfl ?_
          refine X_iadd 61 hO dX13_plays_60 rfl ?_
          refine XM_callVi 64 hO hD hR lX13_225 [_] rfl dX13_plays_61 rfl (c_pooled _ _ _ _ (by omega)) (by decide) (by simp only [List.map_cons, List.map_nil, rv_cat]; exact Nat.le_of_ble_eq_true rfl) (fun r_61 w_61 hr_61 hp_61 hR => ?_)
          obtain ⟨e1_61, e2_61⟩ := hp_61
          subst e1_61
          subst e2_61
          refine ma_st (L := 1600) (c := 200) 65 hO hR rfl rfl rfl dX13_plays_64 rfl (by omega) (by omega) (by omega) (fun hR => ?_)
          refine X_iinc 68 hO dX13_plays_65 rfl rfl ?_
          refine X_goto hO dX13_plays_68 (tgt := 36) rfl ?_
          exact X_eqR hR (fl_stp (by omega) rfl (by omega) (by first | (rw [pby_fl (by decide), pby_op]; congr 1; omega) | (congr 1; omega))) (fun hR => ih (i + 1) (by omega) (by omega) hR)
    exact X_eqR hR (fl_00 rfl) (fun hR => LP36 _ 0 (Nat.lt_succ_self _) (by omega) hR)
