/-! the reference is made -/
/-- k arrays of the reference at m have come, its numbers are V -/
def PMk (m : Int) (w0 : Mm) (k : Nat) (V : Nat → Int) (w : Mm) : Prop :=
  (w 0 m 0 = 14 ∧ 0 < m) ∧ (∀ j : Nat, j < k → w 0 (w (500 + j) m 0) 0 = ((100 + j : Nat) : Int) ∧ w 2 (w (500 + j) m 0) 0 = mlen j) ∧
  (∀ a, w 0 a 0 < ((100 + k : Nat) : Int)) ∧ (∀ (c : Nat) (a i : Int), w0 0 a 0 ≠ 0 → a ≠ m → w c a i = w0 c a i) ∧ (∀ (c : Nat) (i : Int), w c 0 i = w0 c 0 i) ∧ ∀ c : Nat, 120 ≤ c → c < 140 → w c m 0 = V c
theorem PMk.nx {m q : Int} {w0 w : Mm} {k : Nat} {V : Nat → Int} (h : PMk m w0 k V w) (hf : ∀ a, w0 0 a 0 ≠ 0 → w 0 a 0 ≠ 0) (hq : 0 < q) (h0 : w 0 q 0 = 0) : PMk m w0 (k + 1) V (up (up (newA w q 20 (mlen k)) (500 + k) m 0 q) 0 q 0 ((100 + k : Nat) : Int)) := by
  obtain ⟨⟨h1, h2⟩, h3, h4, h5, h6, h7⟩ := h
  have hqm : m ≠ q := fun e => by rw [e] at h1; omega
  have o : ∀ (c : Nat) (a i : Int), a ≠ q → ¬ (c = 500 + k ∧ a = m ∧ i = 0) → up (up (newA w q 20 (mlen k)) (500 + k) m 0 q) 0 q 0 ((100 + k : Nat) : Int) c a i = w c a i := fun c a i x y => by
    rw [up_a _ _ _ x]
    simp only [up]
    rw [if_neg y, newA_o x]
  refine ⟨⟨(o _ _ _ hqm (by omega)).trans h1, h2⟩, fun j hj => ?_, fun a => ?_, fun c a i x y => ?_, fun c i => ?_, fun c x y => ?_⟩
  · by_cases e : j = k
    · subst e
      have e1 : up (up (newA w q 20 (mlen j)) (500 + j) m 0 q) 0 q 0 ((100 + j : Nat) : Int) (500 + j) m 0 = q := by rw [up_k _ (by omega), up_s]
      rw [e1, up_s, up_k _ (by decide), up_k _ (by omega), newA_n]
      exact ⟨rfl, rfl⟩
    · have hj' : j < k := by omega
      obtain ⟨g1, g2⟩ := h3 j hj'
      have e1 : up (up (newA w q 20 (mlen k)) (500 + k) m 0 q) 0 q 0 ((100 + k : Nat) : Int) (500 + j) m 0 = w (500 + j) m 0 := o _ _ _ hqm (by omega)
      have hx : w (500 + j) m 0 ≠ q := fun z => by rw [z] at g1; omega
      rw [e1, o _ _ _ hx (by omega), o _ _ _ hx (by omega)]
      exact ⟨g1, g2⟩
  · by_cases e : a = q
    · subst e; rw [up_s]; omega
    · rw [o _ _ _ e (by omega)]; have := h4 a; omega
  · have e : a ≠ q := fun z => hf a x (by rw [z]; exact h0)
    rw [o _ _ _ e (fun z => y z.2.1)]; exact h5 c a i x y
  · rw [o _ _ _ (by omega) (by omega)]; exact h6 c i
  · rw [o _ _ _ hqm (by omega)]; exact h7 c x y
theorem PMk.al {m : Int} {w0 w : Mm} {k : Nat} {V : Nat → Int} (h : PMk m w0 k V w) (a : Int) (x : w0 0 a 0 ≠ 0) : w 0 a 0 ≠ 0 := by
  by_cases e : a = m
  · rw [e, h.1.1]; decide
  · rw [h.2.2.2.1 0 a 0 x e]; exact x
theorem PMk.v {m v : Int} {w0 w : Mm} {k c0 : Nat} {V : Nat → Int} (h : PMk m w0 k V w) (hc : 120 ≤ c0 ∧ c0 < 140) : PMk m w0 k (fun c => if c = c0 then v else V c) (up w c0 m 0 v) := by
  obtain ⟨⟨h1, h2⟩, h3, h4, h5, h6, h7⟩ := h
  refine ⟨⟨(up_k _ (by omega) _ _ _ _ _).trans h1, h2⟩, fun j hj => ?_, fun a => ?_, fun c a i x y => ?_, fun c i => ?_, fun c x y => ?_⟩
  · rw [up_k _ (by omega), up_k _ (by omega), up_k _ (by omega)]; exact h3 j hj
  · rw [up_k _ (by omega)]; exact h4 a
  · rw [up_a _ _ _ y]; exact h5 c a i x y
  · rw [up_a _ _ _ (by omega)]; exact h6 c i
  · by_cases e : c = c0
    · subst e; dsimp only; rw [up_s, if_pos rfl]
    · dsimp only; rw [up_k _ e, if_neg e]; exact h7 c x y
theorem PMk.rm {m : Int} {w0 w : Mm} {V : Nat → Int} (h : PMk m w0 47 V w) : RM w (m, fun j => w (500 + j) m 0) := ⟨h.1.1, fun j hj => ⟨rfl, (h.2.1 j hj).1, (h.2.1 j hj).2⟩⟩
section XMN
variable {κ : KC} {P S P' S' : Nat} {w w0 : Mm} {pc : Nat} {ls : List (Option Value)} {st : List Value} {cc : ByteArray} {m : Int} {k : Nat} {V : Nat → Int}
theorem X_mnew {n : Int} (np : Nat) (hO : Ok κ RX13 cc) (h : PMk m w0 k V w) (hz : ∀ (c : Nat) (i : Int), 200 ≤ c → w0 c 0 i = 0) (hn : n = mlen k) (hb : 0 ≤ n ∧ n ≤ 60000000) (hP : P' + 1 ≤ P) (hS : S' + n.toNat ≤ S) (d : decode cc pc = .ok (.newarray .int, 2))
    (hput : ∀ (w1 : Mm) (v : Int), w1 0 m 0 = 14 → X κ P' S' (up w1 (500 + k) m 0 v) np ls st → X κ P' S' w1 (pc + 2) ls (rv v :: rv m :: st)) (kk : ∀ w', PMk m w0 (k + 1) V w' → X κ P' S' w' np ls st) : X κ P S w pc ls (.int (I n) :: rv m :: st) := by
  subst hn
  refine X_newi (pc + 2) hO w_aci hb (by omega) (by omega) d rfl (fun q hq h0 => ?_)
  refine X_mono (P1 := P') (S1 := S') (by omega) (by omega) ?_
  have hqm : m ≠ q := fun e => by have := h.1.1; rw [e] at this; omega
  refine hput _ q (by rw [newA_o hqm]; exact h.1.1) ?_
  refine X_retag (j := k) (q := q) (by rw [up_k _ (by omega), newA_t]) (fun i => ?_) (fun b => ?_) (kk _ (h.nx (fun a x => h.al a x) hq h0))
  · rw [up_k _ (by omega), newA_o (by omega), h.2.2.2.2.1, hz _ _ (by omega), up_k _ (by omega)]
    unfold newA
    rw [if_pos ⟨rfl, Or.inl rfl⟩]
  · rw [up_k _ (by omega)]
    by_cases e : b = q
    · rw [e, newA_t]; omega
    · rw [newA_o e]; have := h.2.2.1 b; omega
end XMN
/-- what the reference's arrays hold first -/
def m_ini (w : Mm) : Mm := fl (fl (fl (up (up (up w 216 0 0 1) 217 0 0 (-1)) 221 0 0 (-1)) 202 0 24 (fun _ => -1)) 232 0 8 (fun _ => -1)) 227 0 5 (fun _ => -1)
theorem dX13_init_0 : decode cX13_init 0 = .ok (.aload_n 0, 1) := by decide +kernel
theorem dX13_init_1 : decode cX13_init 1 = .ok (.invokespecial 1, 3) := by decide +kernel
theorem dX13_init_4 : decode cX13_init 4 = .ok (.aload_n 0, 1) := by decide +kernel
theorem dX13_init_5 : decode cX13_init 5 = .ok (.sipush 1600, 3) := by decide +kernel
theorem dX13_init_8 : decode cX13_init 8 = .ok (.newarray .int, 2) := by decide +kernel
theorem dX13_init_10 : decode cX13_init 10 = .ok (.putfield 7, 3) := by decide +kernel
theorem dX13_init_13 : decode cX13_init 13 = .ok (.aload_n 0, 1) := by decide +kernel
theorem dX13_init_14 : decode cX13_init 14 = .ok (.iconst 4, 1) := by decide +kernel
theorem dX13_init_15 : decode cX13_init 15 = .ok (.newarray .int, 2) := by decide +kernel
theorem dX13_init_17 : decode cX13_init 17 = .ok (.putfield 13, 3) := by decide +kernel
theorem dX13_init_20 : decode cX13_init 20 = .ok (.aload_n 0, 1) := by decide +kernel
theorem dX13_init_21 : decode cX13_init 21 = .ok (.bipush 24, 2) := by decide +kernel
theorem dX13_init_23 : decode cX13_init 23 = .ok (.newarray .int, 2) := by decide +kernel
theorem dX13_init_25 : decode cX13_init 25 = .ok (.putfield 16, 3) := by decide +kernel
theorem dX13_init_28 : decode cX13_init 28 = .ok (.aload_n 0, 1) := by decide +kernel
theorem dX13_init_29 : decode cX13_init 29 = .ok (.bipush 24, 2) := by decide +kernel
theorem dX13_init_31 : decode cX13_init 31 = .ok (.newarray .int, 2) := by decide +kernel
theorem dX13_init_33 : decode cX13_init 33 = .ok (.putfield 19, 3) := by decide +kernel
theorem dX13_init_36 : decode cX13_init 36 = .ok (.aload_n 0, 1) := by decide +kernel
theorem dX13_init_37 : decode cX13_init 37 = .ok (.bipush 20, 2) := by decide +kernel
theorem dX13_init_39 : decode cX13_init 39 = .ok (.newarray .int, 2) := by decide +kernel
theorem dX13_init_41 : decode cX13_init 41 = .ok (.putfield 22, 3) := by decide +kernel
theorem dX13_init_44 : decode cX13_init 44 = .ok (.aload_n 0, 1) := by decide +kernel
theorem dX13_init_45 : decode cX13_init 45 = .ok (.bipush 80, 2) := by decide +kernel
theorem dX13_init_47 : decode cX13_init 47 = .ok (.newarray .int, 2) := by decide +kernel
theorem dX13_init_49 : decode cX13_init 49 = .ok (.putfield 25, 3) := by decide +kernel
theorem dX13_init_52 : decode cX13_init 52 = .ok (.aload_n 0, 1) := by decide +kernel
theorem dX13_init_53 : decode cX13_init 53 = .ok (.sipush 1600, 3) := by decide +kernel
theorem dX13_init_56 : decode cX13_init 56 = .ok (.newarray .int, 2) := by decide +kernel
theorem dX13_init_58 : decode cX13_init 58 = .ok (.putfield 28, 3) := by decide +kernel
theorem dX13_init_61 : decode cX13_init 61 = .ok (.aload_n 0, 1) := by decide +kernel
theorem dX13_init_62 : decode cX13_init 62 = .ok (.iconst 4, 1) := by decide +kernel
theorem dX13_init_63 : decode cX13_init 63 = .ok (.newarray .int, 2) := by decide +kernel
theorem dX13_init_65 : decode cX13_init 65 = .ok (.putfield 31, 3) := by decide +kernel
theorem dX13_init_68 : decode cX13_init 68 = .ok (.aload_n 0, 1) := by decide +kernel
theorem dX13_init_69 : decode cX13_init 69 = .ok (.bipush 16, 2) := by decide +kernel
theorem dX13_init_71 : decode cX13_init 71 = .ok (.newarray .int, 2) := by decide +kernel
theorem dX13_init_73 : decode cX13_init 73 = .ok (.putfield 34, 3) := by decide +kernel
theorem dX13_init_76 : decode cX13_init 76 = .ok (.aload_n 0, 1) := by decide +kernel
theorem dX13_init_77 : decode cX13_init 77 = .ok (.bipush 16, 2) := by decide +kernel
theorem dX13_init_79 : decode cX13_init 79 = .ok (.newarray .int, 2) := by decide +kernel
theorem dX13_init_81 : decode cX13_init 81 = .ok (.putfield 37, 3) := by decide +kernel
theorem dX13_init_84 : decode cX13_init 84 = .ok (.aload_n 0, 1) := by decide +kernel
theorem dX13_init_85 : decode cX13_init 85 = .ok (.iconst 4, 1) := by decide +kernel
theorem dX13_init_86 : decode cX13_init 86 = .ok (.newarray .int, 2) := by decide +kernel
theorem dX13_init_88 : decode cX13_init 88 = .ok (.putfield 40, 3) := by decide +kernel
theorem dX13_init_91 : decode cX13_init 91 = .ok (.aload_n 0, 1) := by decide +kernel
theorem dX13_init_92 : decode cX13_init 92 = .ok (.iconst 5, 1) := by decide +kernel
theorem dX13_init_93 : decode cX13_init 93 = .ok (.newarray .int, 2) := by decide +kernel
theorem dX13_init_95 : decode cX13_init 95 = .ok (.putfield 43, 3) := by decide +kernel
theorem dX13_init_98 : decode cX13_init 98 = .ok (.aload_n 0, 1) := by decide +kernel
theorem dX13_init_99 : decode cX13_init 99 = .ok (.sipush 30000, 3) := by decide +kernel
theorem dX13_init_102 : decode cX13_init 102 = .ok (.newarray .int, 2) := by decide +kernel
theorem dX13_init_104 : decode cX13_init 104 = .ok (.putfield 46, 3) := by decide +kernel
theorem dX13_init_107 : decode cX13_init 107 = .ok (.aload_n 0, 1) := by decide +kernel
theorem dX13_init_108 : decode cX13_init 108 = .ok (.ldc 49, 2) := by decide +kernel
theorem dX13_init_110 : decode cX13_init 110 = .ok (.newarray .int, 2) := by decide +kernel
theorem dX13_init_112 : decode cX13_init 112 = .ok (.putfield 50, 3) := by decide +kernel
theorem dX13_init_115 : decode cX13_init 115 = .ok (.aload_n 0, 1) := by decide +kernel
theorem dX13_init_116 : decode cX13_init 116 = .ok (.iconst 4, 1) := by decide +kernel
theorem dX13_init_117 : decode cX13_init 117 = .ok (.newarray .int, 2) := by decide +kernel
theorem dX13_init_119 : decode cX13_init 119 = .ok (.putfield 53, 3) := by decide +kernel
theorem dX13_init_122 : decode cX13_init 122 = .ok (.aload_n 0, 1) := by decide +kernel
theorem dX13_init_123 : decode cX13_init 123 = .ok (.iconst 4, 1) := by decide +kernel
theorem dX13_init_124 : decode cX13_init 124 = .ok (.newarray .int, 2) := by decide +kernel
theorem dX13_init_126 : decode cX13_init 126 = .ok (.putfield 56, 3) := by decide +kernel
theorem dX13_init_129 : decode cX13_init 129 = .ok (.aload_n 0, 1) := by decide +kernel
theorem dX13_init_130 : decode cX13_init 130 = .ok (.iconst 1, 1) := by decide +kernel
theorem dX13_init_131 : decode cX13_init 131 = .ok (.putfield 59, 3) := by decide +kernel
theorem dX13_init_134 : decode cX13_init 134 = .ok (.aload_n 0, 1) := by decide +kernel
theorem dX13_init_135 : decode cX13_init 135 = .ok (.iconst 1, 1) := by decide +kernel
theorem dX13_init_136 : decode cX13_init 136 = .ok (.putfield 63, 3) := by decide +kernel
theorem dX13_init_139 : decode cX13_init 139 = .ok (.aload_n 0, 1) := by decide +kernel
theorem dX13_init_140 : decode cX13_init 140 = .ok (.sipush 640, 3) := by decide +kernel
theorem dX13_init_143 : decode cX13_init 143 = .ok (.newarray .int, 2) := by decide +kernel
theorem dX13_init_145 : decode cX13_init 145 = .ok (.putfield 66, 3) := by decide +kernel
theorem dX13_init_148 : decode cX13_init 148 = .ok (.aload_n 0, 1) := by decide +kernel
theorem dX13_init_149 : decode cX13_init 149 = .ok (.sipush 640, 3) := by decide +kernel
theorem dX13_init_152 : decode cX13_init 152 = .ok (.newarray .int, 2) := by decide +kernel
theorem dX13_init_154 : decode cX13_init 154 = .ok (.putfield 69, 3) := by decide +kernel
theorem dX13_init_157 : decode cX13_init 157 = .ok (.aload_n 0, 1) := by decide +kernel
theorem dX13_init_158 : decode cX13_init 158 = .ok (.sipush 640, 3) := by decide +kernel
theorem dX13_init_161 : decode cX13_init 161 = .ok (.newarray .int, 2) := by decide +kernel
theorem dX13_init_163 : decode cX13_init 163 = .ok (.putfield 72, 3) := by decide +kernel
theorem dX13_init_166 : decode cX13_init 166 = .ok (.aload_n 0, 1) := by decide +kernel
theorem dX13_init_167 : decode cX13_init 167 = .ok (.sipush 640, 3) := by decide +kernel
theorem dX13_init_170 : decode cX13_init 170 = .ok (.newarray .int, 2) := by decide +kernel
theorem dX13_init_172 : decode cX13_init 172 = .ok (.putfield 75, 3) := by decide +kernel
theorem dX13_init_175 : decode cX13_init 175 = .ok (.aload_n 0, 1) := by decide +kernel
theorem dX13_init_176 : decode cX13_init 176 = .ok (.sipush 640, 3) := by decide +kernel
theorem dX13_init_179 : decode cX13_init 179 = .ok (.newarray .int, 2) := by decide +kernel
theorem dX13_init_181 : decode cX13_init 181 = .ok (.putfield 78, 3) := by decide +kernel
theorem dX13_init_184 : decode cX13_init 184 = .ok (.aload_n 0, 1) := by decide +kernel
theorem dX13_init_185 : decode cX13_init 185 = .ok (.sipush 640, 3) := by decide +kernel
theorem dX13_init_188 : decode cX13_init 188 = .ok (.newarray .int, 2) := by decide +kernel
theorem dX13_init_190 : decode cX13_init 190 = .ok (.putfield 81, 3) := by decide +kernel
theorem dX13_init_193 : decode cX13_init 193 = .ok (.aload_n 0, 1) := by decide +kernel
theorem dX13_init_194 : decode cX13_init 194 = .ok (.sipush 640, 3) := by decide +kernel
theorem dX13_init_197 : decode cX13_init 197 = .ok (.newarray .int, 2) := by decide +kernel
theorem dX13_init_199 : decode cX13_init 199 = .ok (.putfield 84, 3) := by decide +kernel
theorem dX13_init_202 : decode cX13_init 202 = .ok (.aload_n 0, 1) := by decide +kernel
theorem dX13_init_203 : decode cX13_init 203 = .ok (.sipush 640, 3) := by decide +kernel
theorem dX13_init_206 : decode cX13_init 206 = .ok (.newarray .int, 2) := by decide +kernel
theorem dX13_init_208 : decode cX13_init 208 = .ok (.putfield 87, 3) := by decide +kernel
theorem dX13_init_211 : decode cX13_init 211 = .ok (.aload_n 0, 1) := by decide +kernel
theorem dX13_init_212 : decode cX13_init 212 = .ok (.sipush 640, 3) := by decide +kernel
theorem dX13_init_215 : decode cX13_init 215 = .ok (.newarray .int, 2) := by decide +kernel
theorem dX13_init_217 : decode cX13_init 217 = .ok (.putfield 90, 3) := by decide +kernel
theorem dX13_init_220 : decode cX13_init 220 = .ok (.aload_n 0, 1) := by decide +kernel
theorem dX13_init_221 : decode cX13_init 221 = .ok (.sipush 640, 3) := by decide +kernel
theorem dX13_init_224 : decode cX13_init 224 = .ok (.newarray .int, 2) := by decide +kernel
theorem dX13_init_226 : decode cX13_init 226 = .ok (.putfield 93, 3) := by decide +kernel
theorem dX13_init_229 : decode cX13_init 229 = .ok (.aload_n 0, 1) := by decide +kernel
theorem dX13_init_230 : decode cX13_init 230 = .ok (.sipush 640, 3) := by decide +kernel
theorem dX13_init_233 : decode cX13_init 233 = .ok (.newarray .int, 2) := by decide +kernel
theorem dX13_init_235 : decode cX13_init 235 = .ok (.putfield 96, 3) := by decide +kernel
theorem dX13_init_238 : decode cX13_init 238 = .ok (.aload_n 0, 1) := by decide +kernel
theorem dX13_init_239 : decode cX13_init 239 = .ok (.iconst 5, 1) := by decide +kernel
theorem dX13_init_240 : decode cX13_init 240 = .ok (.newarray .int, 2) := by decide +kernel
theorem dX13_init_242 : decode cX13_init 242 = .ok (.putfield 99, 3) := by decide +kernel
theorem dX13_init_245 : decode cX13_init 245 = .ok (.aload_n 0, 1) := by decide +kernel
theorem dX13_init_246 : decode cX13_init 246 = .ok (.sipush 600, 3) := by decide +kernel
theorem dX13_init_249 : decode cX13_init 249 = .ok (.putfield 102, 3) := by decide +kernel
theorem dX13_init_252 : decode cX13_init 252 = .ok (.aload_n 0, 1) := by decide +kernel
theorem dX13_init_253 : decode cX13_init 253 = .ok (.iconst (-1), 1) := by decide +kernel
theorem dX13_init_254 : decode cX13_init 254 = .ok (.putfield 105, 3) := by decide +kernel
theorem dX13_init_257 : decode cX13_init 257 = .ok (.aload_n 0, 1) := by decide +kernel
theorem dX13_init_258 : decode cX13_init 258 = .ok (.iconst 3, 1) := by decide +kernel
theorem dX13_init_259 : decode cX13_init 259 = .ok (.newarray .int, 2) := by decide +kernel
theorem dX13_init_261 : decode cX13_init 261 = .ok (.putfield 108, 3) := by decide +kernel
theorem dX13_init_264 : decode cX13_init 264 = .ok (.aload_n 0, 1) := by decide +kernel
theorem dX13_init_265 : decode cX13_init 265 = .ok (.iconst 3, 1) := by decide +kernel
theorem dX13_init_266 : decode cX13_init 266 = .ok (.newarray .int, 2) := by decide +kernel
theorem dX13_init_268 : decode cX13_init 268 = .ok (.putfield 111, 3) := by decide +kernel
theorem dX13_init_271 : decode cX13_init 271 = .ok (.aload_n 0, 1) := by decide +kernel
theorem dX13_init_272 : decode cX13_init 272 = .ok (.iconst 3, 1) := by decide +kernel
theorem dX13_init_273 : decode cX13_init 273 = .ok (.newarray .int, 2) := by decide +kernel
theorem dX13_init_275 : decode cX13_init 275 = .ok (.putfield 114, 3) := by decide +kernel
theorem dX13_init_278 : decode cX13_init 278 = .ok (.aload_n 0, 1) := by decide +kernel
theorem dX13_init_279 : decode cX13_init 279 = .ok (.iconst 3, 1) := by decide +kernel
theorem dX13_init_280 : decode cX13_init 280 = .ok (.newarray .int, 2) := by decide +kernel
theorem dX13_init_282 : decode cX13_init 282 = .ok (.putfield 117, 3) := by decide +kernel
theorem dX13_init_285 : decode cX13_init 285 = .ok (.aload_n 0, 1) := by decide +kernel
theorem dX13_init_286 : decode cX13_init 286 = .ok (.bipush 8, 2) := by decide +kernel
theorem dX13_init_288 : decode cX13_init 288 = .ok (.newarray .int, 2) := by decide +kernel
theorem dX13_init_290 : decode cX13_init 290 = .ok (.putfield 120, 3) := by decide +kernel
theorem dX13_init_293 : decode cX13_init 293 = .ok (.aload_n 0, 1) := by decide +kernel
theorem dX13_init_294 : decode cX13_init 294 = .ok (.bipush 9, 2) := by decide +kernel
theorem dX13_init_296 : decode cX13_init 296 = .ok (.newarray .int, 2) := by decide +kernel
theorem dX13_init_298 : decode cX13_init 298 = .ok (.putfield 123, 3) := by decide +kernel
theorem dX13_init_301 : decode cX13_init 301 = .ok (.aload_n 0, 1) := by decide +kernel
theorem dX13_init_302 : decode cX13_init 302 = .ok (.bipush 9, 2) := by decide +kernel
theorem dX13_init_304 : decode cX13_init 304 = .ok (.newarray .int, 2) := by decide +kernel
theorem dX13_init_306 : decode cX13_init 306 = .ok (.putfield 126, 3) := by decide +kernel
theorem dX13_init_309 : decode cX13_init 309 = .ok (.aload_n 0, 1) := by decide +kernel
theorem dX13_init_310 : decode cX13_init 310 = .ok (.sipush 240, 3) := by decide +kernel
theorem dX13_init_313 : decode cX13_init 313 = .ok (.newarray .int, 2) := by decide +kernel
theorem dX13_init_315 : decode cX13_init 315 = .ok (.putfield 129, 3) := by decide +kernel
theorem dX13_init_318 : decode cX13_init 318 = .ok (.aload_n 0, 1) := by decide +kernel
theorem dX13_init_319 : decode cX13_init 319 = .ok (.iconst 5, 1) := by decide +kernel
theorem dX13_init_320 : decode cX13_init 320 = .ok (.newarray .int, 2) := by decide +kernel
theorem dX13_init_322 : decode cX13_init 322 = .ok (.putfield 132, 3) := by decide +kernel
theorem dX13_init_325 : decode cX13_init 325 = .ok (.aload_n 0, 1) := by decide +kernel
theorem dX13_init_326 : decode cX13_init 326 = .ok (.iconst (-1), 1) := by decide +kernel
theorem dX13_init_327 : decode cX13_init 327 = .ok (.putfield 135, 3) := by decide +kernel
theorem dX13_init_330 : decode cX13_init 330 = .ok (.aload_n 0, 1) := by decide +kernel
theorem dX13_init_331 : decode cX13_init 331 = .ok (.bipush 6, 2) := by decide +kernel
theorem dX13_init_333 : decode cX13_init 333 = .ok (.newarray .int, 2) := by decide +kernel
theorem dX13_init_335 : decode cX13_init 335 = .ok (.putfield 138, 3) := by decide +kernel
theorem dX13_init_338 : decode cX13_init 338 = .ok (.aload_n 0, 1) := by decide +kernel
theorem dX13_init_339 : decode cX13_init 339 = .ok (.bipush 6, 2) := by decide +kernel
theorem dX13_init_341 : decode cX13_init 341 = .ok (.newarray .int, 2) := by decide +kernel
theorem dX13_init_343 : decode cX13_init 343 = .ok (.putfield 141, 3) := by decide +kernel
theorem dX13_init_346 : decode cX13_init 346 = .ok (.aload_n 0, 1) := by decide +kernel
theorem dX13_init_347 : decode cX13_init 347 = .ok (.bipush 6, 2) := by decide +kernel
theorem dX13_init_349 : decode cX13_init 349 = .ok (.newarray .int, 2) := by decide +kernel
theorem dX13_init_351 : decode cX13_init 351 = .ok (.putfield 144, 3) := by decide +kernel
theorem dX13_init_354 : decode cX13_init 354 = .ok (.aload_n 0, 1) := by decide +kernel
theorem dX13_init_355 : decode cX13_init 355 = .ok (.iconst (-1), 1) := by decide +kernel
theorem dX13_init_356 : decode cX13_init 356 = .ok (.putfield 147, 3) := by decide +kernel
theorem dX13_init_359 : decode cX13_init 359 = .ok (.aload_n 0, 1) := by decide +kernel
theorem dX13_init_360 : decode cX13_init 360 = .ok (.sipush 400, 3) := by decide +kernel
theorem dX13_init_363 : decode cX13_init 363 = .ok (.newarray .int, 2) := by decide +kernel
theorem dX13_init_365 : decode cX13_init 365 = .ok (.putfield 150, 3) := by decide +kernel
theorem dX13_init_368 : decode cX13_init 368 = .ok (.aload_n 0, 1) := by decide +kernel
theorem dX13_init_369 : decode cX13_init 369 = .ok (.bipush 8, 2) := by decide +kernel
theorem dX13_init_371 : decode cX13_init 371 = .ok (.newarray .int, 2) := by decide +kernel
theorem dX13_init_373 : decode cX13_init 373 = .ok (.putfield 153, 3) := by decide +kernel
theorem dX13_init_376 : decode cX13_init 376 = .ok (.aload_n 0, 1) := by decide +kernel
theorem dX13_init_377 : decode cX13_init 377 = .ok (.bipush 8, 2) := by decide +kernel
theorem dX13_init_379 : decode cX13_init 379 = .ok (.newarray .int, 2) := by decide +kernel
theorem dX13_init_381 : decode cX13_init 381 = .ok (.putfield 156, 3) := by decide +kernel
theorem dX13_init_384 : decode cX13_init 384 = .ok (.aload_n 0, 1) := by decide +kernel
theorem dX13_init_385 : decode cX13_init 385 = .ok (.bipush 8, 2) := by decide +kernel
theorem dX13_init_387 : decode cX13_init 387 = .ok (.newarray .int, 2) := by decide +kernel
theorem dX13_init_389 : decode cX13_init 389 = .ok (.putfield 159, 3) := by decide +kernel
theorem dX13_init_392 : decode cX13_init 392 = .ok (.aload_n 0, 1) := by decide +kernel
theorem dX13_init_393 : decode cX13_init 393 = .ok (.bipush 8, 2) := by decide +kernel
theorem dX13_init_395 : decode cX13_init 395 = .ok (.newarray .int, 2) := by decide +kernel
theorem dX13_init_397 : decode cX13_init 397 = .ok (.putfield 162, 3) := by decide +kernel
theorem dX13_init_400 : decode cX13_init 400 = .ok (.aload_n 0, 1) := by decide +kernel
theorem dX13_init_401 : decode cX13_init 401 = .ok (.bipush 8, 2) := by decide +kernel
theorem dX13_init_403 : decode cX13_init 403 = .ok (.newarray .int, 2) := by decide +kernel
theorem dX13_init_405 : decode cX13_init 405 = .ok (.putfield 165, 3) := by decide +kernel
theorem dX13_init_408 : decode cX13_init 408 = .ok (.aload_n 0, 1) := by decide +kernel
theorem dX13_init_409 : decode cX13_init 409 = .ok (.bipush 64, 2) := by decide +kernel
theorem dX13_init_411 : decode cX13_init 411 = .ok (.newarray .int, 2) := by decide +kernel
theorem dX13_init_413 : decode cX13_init 413 = .ok (.putfield 168, 3) := by decide +kernel
theorem dX13_init_416 : decode cX13_init 416 = .ok (.aload_n 0, 1) := by decide +kernel
theorem dX13_init_417 : decode cX13_init 417 = .ok (.getfield 66, 3) := by decide +kernel
theorem dX13_init_420 : decode cX13_init 420 = .ok (.iconst 0, 1) := by decide +kernel
theorem dX13_init_421 : decode cX13_init 421 = .ok (.iconst 1, 1) := by decide +kernel
theorem dX13_init_422 : decode cX13_init 422 = .ok (.iastore, 1) := by decide +kernel
theorem dX13_init_423 : decode cX13_init 423 = .ok (.aload_n 0, 1) := by decide +kernel
theorem dX13_init_424 : decode cX13_init 424 = .ok (.getfield 69, 3) := by decide +kernel
theorem dX13_init_427 : decode cX13_init 427 = .ok (.iconst 0, 1) := by decide +kernel
theorem dX13_init_428 : decode cX13_init 428 = .ok (.iconst (-1), 1) := by decide +kernel
theorem dX13_init_429 : decode cX13_init 429 = .ok (.iastore, 1) := by decide +kernel
theorem dX13_init_430 : decode cX13_init 430 = .ok (.aload_n 0, 1) := by decide +kernel
theorem dX13_init_431 : decode cX13_init 431 = .ok (.getfield 81, 3) := by decide +kernel
theorem dX13_init_434 : decode cX13_init 434 = .ok (.iconst 0, 1) := by decide +kernel
theorem dX13_init_435 : decode cX13_init 435 = .ok (.iconst (-1), 1) := by decide +kernel
theorem dX13_init_436 : decode cX13_init 436 = .ok (.iastore, 1) := by decide +kernel
theorem dX13_init_437 : decode cX13_init 437 = .ok (.iconst 0, 1) := by decide +kernel
theorem dX13_init_438 : decode cX13_init 438 = .ok (.istore_n 1, 1) := by decide +kernel
theorem dX13_init_439 : decode cX13_init 439 = .ok (.iload_n 1, 1) := by decide +kernel
theorem dX13_init_440 : decode cX13_init 440 = .ok (.bipush 24, 2) := by decide +kernel
theorem dX13_init_442 : decode cX13_init 442 = .ok (.if_icmp .ge 16, 3) := by decide +kernel
theorem dX13_init_445 : decode cX13_init 445 = .ok (.aload_n 0, 1) := by decide +kernel
theorem dX13_init_446 : decode cX13_init 446 = .ok (.getfield 16, 3) := by decide +kernel
theorem dX13_init_449 : decode cX13_init 449 = .ok (.iload_n 1, 1) := by decide +kernel
theorem dX13_init_450 : decode cX13_init 450 = .ok (.iconst (-1), 1) := by decide +kernel
theorem dX13_init_451 : decode cX13_init 451 = .ok (.iastore, 1) := by decide +kernel
theorem dX13_init_452 : decode cX13_init 452 = .ok (.iinc 1 1, 3) := by decide +kernel
theorem dX13_init_455 : decode cX13_init 455 = .ok (.goto (-16), 3) := by decide +kernel
theorem dX13_init_458 : decode cX13_init 458 = .ok (.iconst 0, 1) := by decide +kernel
theorem dX13_init_459 : decode cX13_init 459 = .ok (.istore_n 1, 1) := by decide +kernel
theorem dX13_init_460 : decode cX13_init 460 = .ok (.iload_n 1, 1) := by decide +kernel
theorem dX13_init_461 : decode cX13_init 461 = .ok (.bipush 8, 2) := by decide +kernel
theorem dX13_init_463 : decode cX13_init 463 = .ok (.if_icmp .ge 16, 3) := by decide +kernel
theorem dX13_init_466 : decode cX13_init 466 = .ok (.aload_n 0, 1) := by decide +kernel
theorem dX13_init_467 : decode cX13_init 467 = .ok (.getfield 120, 3) := by decide +kernel
theorem dX13_init_470 : decode cX13_init 470 = .ok (.iload_n 1, 1) := by decide +kernel
theorem dX13_init_471 : decode cX13_init 471 = .ok (.iconst (-1), 1) := by decide +kernel
theorem dX13_init_472 : decode cX13_init 472 = .ok (.iastore, 1) := by decide +kernel
theorem dX13_init_473 : decode cX13_init 473 = .ok (.iinc 1 1, 3) := by decide +kernel
theorem dX13_init_476 : decode cX13_init 476 = .ok (.goto (-16), 3) := by decide +kernel
theorem dX13_init_479 : decode cX13_init 479 = .ok (.iconst 0, 1) := by decide +kernel
theorem dX13_init_480 : decode cX13_init 480 = .ok (.istore_n 1, 1) := by decide +kernel
theorem dX13_init_481 : decode cX13_init 481 = .ok (.iload_n 1, 1) := by decide +kernel
theorem dX13_init_482 : decode cX13_init 482 = .ok (.iconst 5, 1) := by decide +kernel
theorem dX13_init_483 : decode cX13_init 483 = .ok (.if_icmp .ge 16, 3) := by decide +kernel
theorem dX13_init_486 : decode cX13_init 486 = .ok (.aload_n 0, 1) := by decide +kernel
theorem dX13_init_487 : decode cX13_init 487 = .ok (.getfield 99, 3) := by decide +kernel
theorem dX13_init_490 : decode cX13_init 490 = .ok (.iload_n 1, 1) := by decide +kernel
theorem dX13_init_491 : decode cX13_init 491 = .ok (.iconst (-1), 1) := by decide +kernel
theorem dX13_init_492 : decode cX13_init 492 = .ok (.iastore, 1) := by decide +kernel
theorem dX13_init_493 : decode cX13_init 493 = .ok (.iinc 1 1, 3) := by decide +kernel
theorem dX13_init_496 : decode cX13_init 496 = .ok (.goto (-15), 3) := by decide +kernel
theorem dX13_init_499 : decode cX13_init 499 = .ok (.return_, 1) := by decide +kernel
set_option maxRecDepth 4000 in
theorem kX13_init (γ : LC) (w : Mm) (m : Int) (hm : 0 < m) (ht : w 0 m 0 = 14) (hu : ∀ a, w 0 a 0 < 100) (hz : ∀ (c : Nat) (i : Int), 200 ≤ c → w c 0 i = 0) (hV : ∀ c : Nat, 120 ≤ c → c < 140 → w c m 0 = 0) : KV γ 1 mX13_init [rv m] w (47) (172327) (fun w' => ∃ W, PMk m w 47 (fun c => if c = 135 then -1 else if c = 133 then -1 else if c = 129 then -1 else if c = 128 then 600 else if c = 125 then 1 else if c = 124 then 1 else 0) W ∧ w' = m_ini W) NX := by
  refine MX_of rfl rfl (by simp [rv_cat, int_cat]) rfl ?_
  rintro κ hO hF rfl
  have hD := hF.dp
  show X κ (47) (172327) w 0 [some (rv m), none] []
  have h : PMk m w 0 (fun _ => 0) w := ⟨⟨ht, hm⟩, fun j hj => absurd hj (Nat.not_lt_zero _), fun a => by have := hu a; omega, fun _ _ _ _ _ => rfl, fun _ _ => rfl, hV⟩
  refine X_aload_n 1 hO dX13_init_0 rfl rfl ?_
  refine X_objInit 4 hO w_1594 dX13_init_1 rfl hD (by decide) (by assumption) (by simp [rv_cat, int_cat]) ?_
  refine X_aload_n 5 hO dX13_init_4 rfl rfl ?_
  refine X_sipush 8 hO dX13_init_5 rfl (by decide) ?_
  refine X_mnew (n := 1600) (P' := 46) (S' := 170727) 13 hO h hz rfl (by decide) (by decide) (by decide) dX13_init_8 (fun w1 v t1 k1 => pX13_7 13 hO hF.2.2.2.2 dX13_init_10 rfl t1 k1) (fun w_1 h => ?_)
  refine X_aload_n 14 hO dX13_init_13 rfl rfl ?_
  refine X_iconst 15 hO dX13_init_14 rfl ?_
  refine X_mnew (n := 4) (P' := 45) (S' := 170723) 20 hO h hz rfl (by decide) (by decide) (by decide) dX13_init_15 (fun w1 v t1 k1 => pX13_13 20 hO hF.2.2.2.2 dX13_init_17 rfl t1 k1) (fun w_2 h => ?_)
  refine X_aload_n 21 hO dX13_init_20 rfl rfl ?_
  refine X_bipush 23 hO dX13_init_21 rfl (by decide) ?_
  refine X_mnew (n := 24) (P' := 44) (S' := 170699) 28 hO h hz rfl (by decide) (by decide) (by decide) dX13_init_23 (fun w1 v t1 k1 => pX13_16 28 hO hF.2.2.2.2 dX13_init_25 rfl t1 k1) (fun w_3 h => ?_)
  refine X_aload_n 29 hO dX13_init_28 rfl rfl ?_
  refine X_bipush 31 hO dX13_init_29 rfl (by decide) ?_
  refine X_mnew (n := 24) (P' := 43) (S' := 170675) 36 hO h hz rfl (by decide) (by decide) (by decide) dX13_init_31 (fun w1 v t1 k1 => pX13_19 36 hO hF.2.2.2.2 dX13_init_33 rfl t1 k1) (fun w_4 h => ?_)
  refine X_aload_n 37 hO dX13_init_36 rfl rfl ?_
  refine X_bipush 39 hO dX13_init_37 rfl (by decide) ?_
  refine X_mnew (n := 20) (P' := 42) (S' := 170655) 44 hO h hz rfl (by decide) (by decide) (by decide) dX13_init_39 (fun w1 v t1 k1 => pX13_22 44 hO hF.2.2.2.2 dX13_init_41 rfl t1 k1) (fun w_5 h => ?_)
  refine X_aload_n 45 hO dX13_init_44 rfl rfl ?_
  refine X_bipush 47 hO dX13_init_45 rfl (by decide) ?_
  refine X_mnew (n := 80) (P' := 41) (S' := 170575) 52 hO h hz rfl (by decide) (by decide) (by decide) dX13_init_47 (fun w1 v t1 k1 => pX13_25 52 hO hF.2.2.2.2 dX13_init_49 rfl t1 k1) (fun w_6 h => ?_)
  refine X_aload_n 53 hO dX13_init_52 rfl rfl ?_
  refine X_sipush 56 hO dX13_init_53 rfl (by decide) ?_
  refine X_mnew (n := 1600) (P' := 40) (S' := 168975) 61 hO h hz rfl (by decide) (by decide) (by decide) dX13_init_56 (fun w1 v t1 k1 => pX13_28 61 hO hF.2.2.2.2 dX13_init_58 rfl t1 k1) (fun w_7 h => ?_)
  refine X_aload_n 62 hO dX13_init_61 rfl rfl ?_
  refine X_iconst 63 hO dX13_init_62 rfl ?_
  refine X_mnew (n := 4) (P' := 39) (S' := 168971) 68 hO h hz rfl (by decide) (by decide) (by decide) dX13_init_63 (fun w1 v t1 k1 => pX13_31 68 hO hF.2.2.2.2 dX13_init_65 rfl t1 k1) (fun w_8 h => ?_)
  refine X_aload_n 69 hO dX13_init_68 rfl rfl ?_
  refine X_bipush 71 hO dX13_init_69 rfl (by decide) ?_
  refine X_mnew (n := 16) (P' := 38) (S' := 168955) 76 hO h hz rfl (by decide) (by decide) (by decide) dX13_init_71 (fun w1 v t1 k1 => pX13_34 76 hO hF.2.2.2.2 dX13_init_73 rfl t1 k1) (fun w_9 h => ?_)
  refine X_aload_n 77 hO dX13_init_76 rfl rfl ?_
  refine X_bipush 79 hO dX13_init_77 rfl (by decide) ?_
  refine X_mnew (n := 16) (P' := 37) (S' := 168939) 84 hO h hz rfl (by decide) (by decide) (by decide) dX13_init_79 (fun w1 v t1 k1 => pX13_37 84 hO hF.2.2.2.2 dX13_init_81 rfl t1 k1) (fun w_10 h => ?_)
  refine X_aload_n 85 hO dX13_init_84 rfl rfl ?_
  refine X_iconst 86 hO dX13_init_85 rfl ?_
  refine X_mnew (n := 4) (P' := 36) (S' := 168935) 91 hO h hz rfl (by decide) (by decide) (by decide) dX13_init_86 (fun w1 v t1 k1 => pX13_40 91 hO hF.2.2.2.2 dX13_init_88 rfl t1 k1) (fun w_11 h => ?_)
  refine X_aload_n 92 hO dX13_init_91 rfl rfl ?_
  refine X_iconst 93 hO dX13_init_92 rfl ?_
  refine X_mnew (n := 5) (P' := 35) (S' := 168930) 98 hO h hz rfl (by decide) (by decide) (by decide) dX13_init_93 (fun w1 v t1 k1 => pX13_43 98 hO hF.2.2.2.2 dX13_init_95 rfl t1 k1) (fun w_12 h => ?_)
  refine X_aload_n 99 hO dX13_init_98 rfl rfl ?_
  refine X_sipush 102 hO dX13_init_99 rfl (by decide) ?_
  refine X_mnew (n := 30000) (P' := 34) (S' := 138930) 107 hO h hz rfl (by decide) (by decide) (by decide) dX13_init_102 (fun w1 v t1 k1 => pX13_46 107 hO hF.2.2.2.2 dX13_init_104 rfl t1 k1) (fun w_13 h => ?_)
  refine X_aload_n 108 hO dX13_init_107 rfl rfl ?_
  have hw : Jvm.Cond.constant RX13 49 (I 131072) ∈ lwG := by rw [show I 131072 = (131072 : Int32) from by decide]; exact w_1595
  refine X_ldc 110 hO hw dX13_init_108 rfl ?_
  refine X_mnew (n := 131072) (P' := 33) (S' := 7858) 115 hO h hz rfl (by decide) (by decide) (by decide) dX13_init_110 (fun w1 v t1 k1 => pX13_50 115 hO hF.2.2.2.2 dX13_init_112 rfl t1 k1) (fun w_14 h => ?_)
  refine X_aload_n 116 hO dX13_init_115 rfl rfl ?_
  refine X_iconst 117 hO dX13_init_116 rfl ?_
  refine X_mnew (n := 4) (P' := 32) (S' := 7854) 122 hO h hz rfl (by decide) (by decide) (by decide) dX13_init_117 (fun w1 v t1 k1 => pX13_53 122 hO hF.2.2.2.2 dX13_init_119 rfl t1 k1) (fun w_15 h => ?_)
  refine X_aload_n 123 hO dX13_init_122 rfl rfl ?_
  refine X_iconst 124 hO dX13_init_123 rfl ?_
  refine X_mnew (n := 4) (P' := 31) (S' := 7850) 129 hO h hz rfl (by decide) (by decide) (by decide) dX13_init_124 (fun w1 v t1 k1 => pX13_56 129 hO hF.2.2.2.2 dX13_init_126 rfl t1 k1) (fun w_16 h => ?_)
  refine X_aload_n 130 hO dX13_init_129 rfl rfl ?_
  refine X_iconst 131 hO dX13_init_130 rfl ?_
  refine pX13_59 134 hO dX13_init_131 rfl h.1.1 (by omega) ?_
  replace h := h.v (c0 := 124) (v := 1) (by decide)
  generalize up w_16 124 m 0 (1) = w_17 at h ⊢
  refine X_aload_n 135 hO dX13_init_134 rfl rfl ?_
  refine X_iconst 136 hO dX13_init_135 rfl ?_
  refine pX13_63 139 hO dX13_init_136 rfl h.1.1 (by omega) ?_
  replace h := h.v (c0 := 125) (v := 1) (by decide)
  generalize up w_17 125 m 0 (1) = w_18 at h ⊢
  refine X_aload_n 140 hO dX13_init_139 rfl rfl ?_
  refine X_sipush 143 hO dX13_init_140 rfl (by decide) ?_
  refine X_mnew (n := 640) (P' := 30) (S' := 7210) 148 hO h hz rfl (by decide) (by decide) (by decide) dX13_init_143 (fun w1 v t1 k1 => pX13_66 148 hO hF.2.2.2.2 dX13_init_145 rfl t1 k1) (fun w_19 h => ?_)
  refine X_aload_n 149 hO dX13_init_148 rfl rfl ?_
  refine X_sipush 152 hO dX13_init_149 rfl (by decide) ?_
  refine X_mnew (n := 640) (P' := 29) (S' := 6570) 157 hO h hz rfl (by decide) (by decide) (by decide) dX13_init_152 (fun w1 v t1 k1 => pX13_69 157 hO hF.2.2.2.2 dX13_init_154 rfl t1 k1) (fun w_20 h => ?_)
  refine X_aload_n 158 hO dX13_init_157 rfl rfl ?_
  refine X_sipush 161 hO dX13_init_158 rfl (by decide) ?_
  refine X_mnew (n := 640) (P' := 28) (S' := 5930) 166 hO h hz rfl (by decide) (by decide) (by decide) dX13_init_161 (fun w1 v t1 k1 => pX13_72 166 hO hF.2.2.2.2 dX13_init_163 rfl t1 k1) (fun w_21 h => ?_)
  refine X_aload_n 167 hO dX13_init_166 rfl rfl ?_
  refine X_sipush 170 hO dX13_init_167 rfl (by decide) ?_
  refine X_mnew (n := 640) (P' := 27) (S' := 5290) 175 hO h hz rfl (by decide) (by decide) (by decide) dX13_init_170 (fun w1 v t1 k1 => pX13_75 175 hO hF.2.2.2.2 dX13_init_172 rfl t1 k1) (fun w_22 h => ?_)
  refine X_aload_n 176 hO dX13_init_175 rfl rfl ?_
  refine X_sipush 179 hO dX13_init_176 rfl (by decide) ?_
  refine X_mnew (n := 640) (P' := 26) (S' := 4650) 184 hO h hz rfl (by decide) (by decide) (by decide) dX13_init_179 (fun w1 v t1 k1 => pX13_78 184 hO hF.2.2.2.2 dX13_init_181 rfl t1 k1) (fun w_23 h => ?_)
  refine X_aload_n 185 hO dX13_init_184 rfl rfl ?_
  refine X_sipush 188 hO dX13_init_185 rfl (by decide) ?_
  refine X_mnew (n := 640) (P' := 25) (S' := 4010) 193 hO h hz rfl (by decide) (by decide) (by decide) dX13_init_188 (fun w1 v t1 k1 => pX13_81 193 hO hF.2.2.2.2 dX13_init_190 rfl t1 k1) (fun w_24 h => ?_)
  refine X_aload_n 194 hO dX13_init_193 rfl rfl ?_
  refine X_sipush 197 hO dX13_init_194 rfl (by decide) ?_
  refine X_mnew (n := 640) (P' := 24) (S' := 3370) 202 hO h hz rfl (by decide) (by decide) (by decide) dX13_init_197 (fun w1 v t1 k1 => pX13_84 202 hO hF.2.2.2.2 dX13_init_199 rfl t1 k1) (fun w_25 h => ?_)
  refine X_aload_n 203 hO dX13_init_202 rfl rfl ?_
  refine X_sipush 206 hO dX13_init_203 rfl (by decide) ?_
  refine X_mnew (n := 640) (P' := 23) (S' := 2730) 211 hO h hz rfl (by decide) (by decide) (by decide) dX13_init_206 (fun w1 v t1 k1 => pX13_87 211 hO hF.2.2.2.2 dX13_init_208 rfl t1 k1) (fun w_26 h => ?_)
  refine X_aload_n 212 hO dX13_init_211 rfl rfl ?_
  refine X_sipush 215 hO dX13_init_212 rfl (by decide) ?_
  refine X_mnew (n := 640) (P' := 22) (S' := 2090) 220 hO h hz rfl (by decide) (by decide) (by decide) dX13_init_215 (fun w1 v t1 k1 => pX13_90 220 hO hF.2.2.2.2 dX13_init_217 rfl t1 k1) (fun w_27 h => ?_)
  refine X_aload_n 221 hO dX13_init_220 rfl rfl ?_
  refine X_sipush 224 hO dX13_init_221 rfl (by decide) ?_
  refine X_mnew (n := 640) (P' := 21) (S' := 1450) 229 hO h hz rfl (by decide) (by decide) (by decide) dX13_init_224 (fun w1 v t1 k1 => pX13_93 229 hO hF.2.2.2.2 dX13_init_226 rfl t1 k1) (fun w_28 h => ?_)
  refine X_aload_n 230 hO dX13_init_229 rfl rfl ?_
  refine X_sipush 233 hO dX13_init_230 rfl (by decide) ?_
  refine X_mnew (n := 640) (P' := 20) (S' := 810) 238 hO h hz rfl (by decide) (by decide) (by decide) dX13_init_233 (fun w1 v t1 k1 => pX13_96 238 hO hF.2.2.2.2 dX13_init_235 rfl t1 k1) (fun w_29 h => ?_)
  refine X_aload_n 239 hO dX13_init_238 rfl rfl ?_
  refine X_iconst 240 hO dX13_init_239 rfl ?_
  refine X_mnew (n := 5) (P' := 19) (S' := 805) 245 hO h hz rfl (by decide) (by decide) (by decide) dX13_init_240 (fun w1 v t1 k1 => pX13_99 245 hO hF.2.2.2.2 dX13_init_242 rfl t1 k1) (fun w_30 h => ?_)
  refine X_aload_n 246 hO dX13_init_245 rfl rfl ?_
  refine X_sipush 249 hO dX13_init_246 rfl (by decide) ?_
  refine pX13_102 252 hO dX13_init_249 rfl h.1.1 (by omega) ?_
  replace h := h.v (c0 := 128) (v := 600) (by decide)
  generalize up w_30 128 m 0 (600) = w_31 at h ⊢
  refine X_aload_n 253 hO dX13_init_252 rfl rfl ?_
  refine X_iconst 254 hO dX13_init_253 rfl ?_
  refine pX13_105 257 hO dX13_init_254 rfl h.1.1 (by omega) ?_
  replace h := h.v (c0 := 129) (v := -1) (by decide)
  generalize up w_31 129 m 0 (-1) = w_32 at h ⊢
  refine X_aload_n 258 hO dX13_init_257 rfl rfl ?_
  refine X_iconst 259 hO dX13_init_258 rfl ?_
  refine X_mnew (n := 3) (P' := 18) (S' := 802) 264 hO h hz rfl (by decide) (by decide) (by decide) dX13_init_259 (fun w1 v t1 k1 => pX13_108 264 hO hF.2.2.2.2 dX13_init_261 rfl t1 k1) (fun w_33 h => ?_)
  refine X_aload_n 265 hO dX13_init_264 rfl rfl ?_
  refine X_iconst 266 hO dX13_init_265 rfl ?_
  refine X_mnew (n := 3) (P' := 17) (S' := 799) 271 hO h hz rfl (by decide) (by decide) (by decide) dX13_init_266 (fun w1 v t1 k1 => pX13_111 271 hO hF.2.2.2.2 dX13_init_268 rfl t1 k1) (fun w_34 h => ?_)
  refine X_aload_n 272 hO dX13_init_271 rfl rfl ?_
  refine X_iconst 273 hO dX13_init_272 rfl ?_
  refine X_mnew (n := 3) (P' := 16) (S' := 796) 278 hO h hz rfl (by decide) (by decide) (by decide) dX13_init_273 (fun w1 v t1 k1 => pX13_114 278 hO hF.2.2.2.2 dX13_init_275 rfl t1 k1) (fun w_35 h => ?_)
  refine X_aload_n 279 hO dX13_init_278 rfl rfl ?_
  refine X_iconst 280 hO dX13_init_279 rfl ?_
  refine X_mnew (n := 3) (P' := 15) (S' := 793) 285 hO h hz rfl (by decide) (by decide) (by decide) dX13_init_280 (fun w1 v t1 k1 => pX13_117 285 hO hF.2.2.2.2 dX13_init_282 rfl t1 k1) (fun w_36 h => ?_)
  refine X_aload_n 286 hO dX13_init_285 rfl rfl ?_
  refine X_bipush 288 hO dX13_init_286 rfl (by decide) ?_
  refine X_mnew (n := 8) (P' := 14) (S' := 785) 293 hO h hz rfl (by decide) (by decide) (by decide) dX13_init_288 (fun w1 v t1 k1 => pX13_120 293 hO hF.2.2.2.2 dX13_init_290 rfl t1 k1) (fun w_37 h => ?_)
  refine X_aload_n 294 hO dX13_init_293 rfl rfl ?_
  refine X_bipush 296 hO dX13_init_294 rfl (by decide) ?_
  refine X_mnew (n := 9) (P' := 13) (S' := 776) 301 hO h hz rfl (by decide) (by decide) (by decide) dX13_init_296 (fun w1 v t1 k1 => pX13_123 301 hO hF.2.2.2.2 dX13_init_298 rfl t1 k1) (fun w_38 h => ?_)
  refine X_aload_n 302 hO dX13_init_301 rfl rfl ?_
  refine X_bipush 304 hO dX13_init_302 rfl (by decide) ?_
  refine X_mnew (n := 9) (P' := 12) (S' := 767) 309 hO h hz rfl (by decide) (by decide) (by decide) dX13_init_304 (fun w1 v t1 k1 => pX13_126 309 hO hF.2.2.2.2 dX13_init_306 rfl t1 k1) (fun w_39 h => ?_)
  refine X_aload_n 310 hO dX13_init_309 rfl rfl ?_
  refine X_sipush 313 hO dX13_init_310 rfl (by decide) ?_
  refine X_mnew (n := 240) (P' := 11) (S' := 527) 318 hO h hz rfl (by decide) (by decide) (by decide) dX13_init_313 (fun w1 v t1 k1 => pX13_129 318 hO hF.2.2.2.2 dX13_init_315 rfl t1 k1) (fun w_40 h => ?_)
  refine X_aload_n 319 hO dX13_init_318 rfl rfl ?_
  refine X_iconst 320 hO dX13_init_319 rfl ?_
  refine X_mnew (n := 5) (P' := 10) (S' := 522) 325 hO h hz rfl (by decide) (by decide) (by decide) dX13_init_320 (fun w1 v t1 k1 => pX13_132 325 hO hF.2.2.2.2 dX13_init_322 rfl t1 k1) (fun w_41 h => ?_)
  refine X_aload_n 326 hO dX13_init_325 rfl rfl ?_
  refine X_iconst 327 hO dX13_init_326 rfl ?_
  refine pX13_135 330 hO dX13_init_327 rfl h.1.1 (by omega) ?_
  replace h := h.v (c0 := 133) (v := -1) (by decide)
  generalize up w_41 133 m 0 (-1) = w_42 at h ⊢
  refine X_aload_n 331 hO dX13_init_330 rfl rfl ?_
  refine X_bipush 333 hO dX13_init_331 rfl (by decide) ?_
  refine X_mnew (n := 6) (P' := 9) (S' := 516) 338 hO h hz rfl (by decide) (by decide) (by decide) dX13_init_333 (fun w1 v t1 k1 => pX13_138 338 hO hF.2.2.2.2 dX13_init_335 rfl t1 k1) (fun w_43 h => ?_)
  refine X_aload_n 339 hO dX13_init_338 rfl rfl ?_
  refine X_bipush 341 hO dX13_init_339 rfl (by decide) ?_
  refine X_mnew (n := 6) (P' := 8) (S' := 510) 346 hO h hz rfl (by decide) (by decide) (by decide) dX13_init_341 (fun w1 v t1 k1 => pX13_141 346 hO hF.2.2.2.2 dX13_init_343 rfl t1 k1) (fun w_44 h => ?_)
  refine X_aload_n 347 hO dX13_init_346 rfl rfl ?_
  refine X_bipush 349 hO dX13_init_347 rfl (by decide) ?_
  refine X_mnew (n := 6) (P' := 7) (S' := 504) 354 hO h hz rfl (by decide) (by decide) (by decide) dX13_init_349 (fun w1 v t1 k1 => pX13_144 354 hO hF.2.2.2.2 dX13_init_351 rfl t1 k1) (fun w_45 h => ?_)
  refine X_aload_n 355 hO dX13_init_354 rfl rfl ?_
  refine X_iconst 356 hO dX13_init_355 rfl ?_
  refine pX13_147 359 hO dX13_init_356 rfl h.1.1 (by omega) ?_
  replace h := h.v (c0 := 135) (v := -1) (by decide)
  generalize up w_45 135 m 0 (-1) = w_46 at h ⊢
  refine X_aload_n 360 hO dX13_init_359 rfl rfl ?_
  refine X_sipush 363 hO dX13_init_360 rfl (by decide) ?_
  refine X_mnew (n := 400) (P' := 6) (S' := 104) 368 hO h hz rfl (by decide) (by decide) (by decide) dX13_init_363 (fun w1 v t1 k1 => pX13_150 368 hO hF.2.2.2.2 dX13_init_365 rfl t1 k1) (fun w_47 h => ?_)
  refine X_aload_n 369 hO dX13_init_368 rfl rfl ?_
  refine X_bipush 371 hO dX13_init_369 rfl (by decide) ?_
  refine X_mnew (n := 8) (P' := 5) (S' := 96) 376 hO h hz rfl (by decide) (by decide) (by decide) dX13_init_371 (fun w1 v t1 k1 => pX13_153 376 hO hF.2.2.2.2 dX13_init_373 rfl t1 k1) (fun w_48 h => ?_)
  refine X_aload_n 377 hO dX13_init_376 rfl rfl ?_
  refine X_bipush 379 hO dX13_init_377 rfl (by decide) ?_
  refine X_mnew (n := 8) (P' := 4) (S' := 88) 384 hO h hz rfl (by decide) (by decide) (by decide) dX13_init_379 (fun w1 v t1 k1 => pX13_156 384 hO hF.2.2.2.2 dX13_init_381 rfl t1 k1) (fun w_49 h => ?_)
  refine X_aload_n 385 hO dX13_init_384 rfl rfl ?_
  refine X_bipush 387 hO dX13_init_385 rfl (by decide) ?_
  refine X_mnew (n := 8) (P' := 3) (S' := 80) 392 hO h hz rfl (by decide) (by decide) (by decide) dX13_init_387 (fun w1 v t1 k1 => pX13_159 392 hO hF.2.2.2.2 dX13_init_389 rfl t1 k1) (fun w_50 h => ?_)
  refine X_aload_n 393 hO dX13_init_392 rfl rfl ?_
  refine X_bipush 395 hO dX13_init_393 rfl (by decide) ?_
  refine X_mnew (n := 8) (P' := 2) (S' := 72) 400 hO h hz rfl (by decide) (by decide) (by decide) dX13_init_395 (fun w1 v t1 k1 => pX13_162 400 hO hF.2.2.2.2 dX13_init_397 rfl t1 k1) (fun w_51 h => ?_)
  refine X_aload_n 401 hO dX13_init_400 rfl rfl ?_
  refine X_bipush 403 hO dX13_init_401 rfl (by decide) ?_
  refine X_mnew (n := 8) (P' := 1) (S' := 64) 408 hO h hz rfl (by decide) (by decide) (by decide) dX13_init_403 (fun w1 v t1 k1 => pX13_165 408 hO hF.2.2.2.2 dX13_init_405 rfl t1 k1) (fun w_52 h => ?_)
  refine X_aload_n 409 hO dX13_init_408 rfl rfl ?_
  refine X_bipush 411 hO dX13_init_409 rfl (by decide) ?_
  refine X_mnew (n := 64) (P' := 0) (S' := 0) 416 hO h hz rfl (by decide) (by decide) (by decide) dX13_init_411 (fun w1 v t1 k1 => pX13_168 416 hO hF.2.2.2.2 dX13_init_413 rfl t1 k1) (fun w_53 h => ?_)
  have hR := h.rm
  obtain ⟨μ, hμ⟩ : ∃ μ : MU, μ = (m, fun j => w_53 (500 + j) m 0) := ⟨_, rfl⟩
  rw [← hμ] at hR
  have hm1 : m = μ.1 := by rw [hμ]
  have hfin : ∀ W, W = m_ini w_53 → ∃ W2, PMk m w 47 (fun c => if c = 135 then -1 else if c = 133 then -1 else if c = 129 then -1 else if c = 128 then 600 else if c = 125 then 1 else if c = 124 then 1 else 0) W2 ∧ W = m_ini W2 := fun W e => ⟨_, h, e⟩
  rw [hm1]
  show X κ 0 0 w_53 416 [some (rv μ.1), none] []
  clear hz hu hV h
  refine X_aload_n 417 hO dX13_init_416 rfl rfl ?_
  refine ga_66 420 hO hR dX13_init_417 rfl ?_
  refine X_iconst 421 hO dX13_init_420 rfl ?_
  refine X_iconst 422 hO dX13_init_421 rfl ?_
  refine ma_st (L := 640) (c := 216) 423 hO hR rfl rfl rfl dX13_init_422 rfl (by omega) (by omega) (by omega) (fun hR => ?_)
  refine X_aload_n 424 hO dX13_init_423 rfl rfl ?_
  refine ga_69 427 hO hR dX13_init_424 rfl ?_
  refine X_iconst 428 hO dX13_init_427 rfl ?_
  refine X_iconst 429 hO dX13_init_428 rfl ?_
  refine ma_st (L := 640) (c := 217) 430 hO hR rfl rfl rfl dX13_init_429 rfl (by omega) (by omega) (by omega) (fun hR => ?_)
  refine X_aload_n 431 hO dX13_init_430 rfl rfl ?_
  refine ga_81 434 hO hR dX13_init_431 rfl ?_
  refine X_iconst 435 hO dX13_init_434 rfl ?_
  refine X_iconst 436 hO dX13_init_435 rfl ?_
  refine ma_st (L := 640) (c := 221) 437 hO hR rfl rfl rfl dX13_init_436 rfl (by omega) (by omega) (by omega) (fun hR => ?_)
  refine X_iconst 438 hO dX13_init_437 rfl ?_
  refine X_istore_n 439 hO dX13_init_438 rfl rfl ?_
  have LP439 : ∀ (n : Nat) (i : Int), (24 - i).toNat < n → (0 ≤ i ∧ i ≤ 24) → RM (fl (up (up (up w_53 216 0 0 1) 217 0 0 (-1)) 221 0 0 (-1)) 202 0 i (fun _ => -1)) μ → X κ 0 0 (fl (up (up (up w_53 216 0 0 1) 217 0 0 (-1)) 221 0 0 (-1)) 202 0 i (fun _ => -1)) 439 [some (rv μ.1), some (.int (I i))] [] := by
    intro n
    induction n with
    | zero => intro i hm; exact absurd hm (Nat.not_lt_zero _)
    | succ n ih =>
      intro i hm hi hR
      refine X_iload_n 440 hO dX13_init_439 rfl rfl ?_
      refine X_bipush 442 hO dX13_init_440 rfl (by decide) ?_
      refine X_icmp_ge 445 458 hO dX13_init_442 rfl rfl (by omega) (by omega) (fun hc_442 => ?_) (fun hc_442 => ?_)
      ·
        have e4 : i = 24 := by omega
        subst e4
        refine X_iconst 459 hO dX13_init_458 rfl ?_
        refine X_istore_n 460 hO dX13_init_459 rfl rfl ?_
        have LP460 : ∀ (n : Nat) (i : Int), (8 - i).toNat < n → (0 ≤ i ∧ i ≤ 8) → RM (fl (fl (up (up (up w_53 216 0 0 1) 217 0 0 (-1)) 221 0 0 (-1)) 202 0 24 (fun _ => -1)) 232 0 i (fun _ => -1)) μ → X κ 0 0 (fl (fl (up (up (up w_53 216 0 0 1) 217 0 0 (-1)) 221 0 0 (-1)) 202 0 24 (fun _ => -1)) 232 0 i (fun _ => -1)) 460 [some (rv μ.1), some (.int (I i))] [] := by
          intro n
          induction n with
          | zero => intro i hm; exact absurd hm (Nat.not_lt_zero _)
          | succ n ih =>
            intro i hm hi hR
            refine X_iload_n 461 hO dX13_init_460 rfl rfl ?_
            refine X_bipush 463 hO dX13_init_461 rfl (by decide) ?_
            refine X_icmp_ge 466 479 hO dX13_init_463 rfl rfl (by omega) (by omega) (fun hc_463 => ?_) (fun hc_463 => ?_)
            ·
              have e4 : i = 8 := by omega
              subst e4
              refine X_iconst 480 hO dX13_init_479 rfl ?_
              refine X_istore_n 481 hO dX13_init_480 rfl rfl ?_
              have LP481 : ∀ (n : Nat) (i : Int), (5 - i).toNat < n → (0 ≤ i ∧ i ≤ 5) → RM (fl (fl (fl (up (up (up w_53 216 0 0 1) 217 0 0 (-1)) 221 0 0 (-1)) 202 0 24 (fun _ => -1)) 232 0 8 (fun _ => -1)) 227 0 i (fun _ => -1)) μ → X κ 0 0 (fl (fl (fl (up (up (up w_53 216 0 0 1) 217 0 0 (-1)) 221 0 0 (-1)) 202 0 24 (fun _ => -1)) 232 0 8 (fun _ => -1)) 227 0 i (fun _ => -1)) 481 [some (rv μ.1), some (.int (I i))] [] := by
                intro n
                induction n with
                | zero => intro i hm; exact absurd hm (Nat.not_lt_zero _)
                | succ n ih =>
                  intro i hm hi hR
                  refine X_iload_n 482 hO dX13_init_481 rfl rfl ?_
                  refine X_iconst 483 hO dX13_init_482 rfl ?_
                  refine X_icmp_ge 486 499 hO dX13_init_483 rfl rfl (by omega) (by omega) (fun hc_483 => ?_) (fun hc_483 => ?_)
                  ·
                    have e4 : i = 5 := by omega
                    subst e4
                    exact X_vret hO hF rfl dX13_init_499 ⟨rfl, hfin _ rfl⟩
                  ·
                    refine X_aload_n 487 hO dX13_init_486 rfl rfl ?_
                    refine ga_99 490 hO hR dX13_init_487 rfl ?_
                    refine X_iload_n 491 hO dX13_init_490 rfl rfl ?_
                    refine X_iconst 492 hO dX13_init_491 rfl ?_
                    refine ma_st (L := 5) (c := 227) 493 hO hR rfl rfl rfl dX13_init_492 rfl (by omega) (by omega) (by omega) (fun hR => ?_)
                    refine X_iinc 496 hO dX13_init_493 rfl rfl ?_
                    refine X_goto hO dX13_init_496 (tgt := 481) rfl ?_
                    exact X_eqR hR (fl_stp (by omega) (by omega) (by omega) rfl) (fun hR => ih (i + 1) (by omega) (by omega) hR)
              exact X_eqR hR (fl_0 _ _ _ _).symm (fun hR => LP481 _ 0 (Nat.lt_succ_self _) (by omega) hR)
            ·
              refine X_aload_n 467 hO dX13_init_466 rfl rfl ?_
              refine ga_120 470 hO hR dX13_init_467 rfl ?_
              refine X_iload_n 471 hO dX13_init_470 rfl rfl ?_
              refine X_iconst 472 hO dX13_init_471 rfl ?_
              refine ma_st (L := 8) (c := 232) 473 hO hR rfl rfl rfl dX13_init_472 rfl (by omega) (by omega) (by omega) (fun hR => ?_)
              refine X_iinc 476 hO dX13_init_473 rfl rfl ?_
              refine X_goto hO dX13_init_476 (tgt := 460) rfl ?_
              exact X_eqR hR (fl_stp (by omega) (by omega) (by omega) rfl) (fun hR => ih (i + 1) (by omega) (by omega) hR)
        exact X_eqR hR (fl_0 _ _ _ _).symm (fun hR => LP460 _ 0 (Nat.lt_succ_self _) (by omega) hR)
      ·
        refine X_aload_n 446 hO dX13_init_445 rfl rfl ?_
        refine ga_16 449 hO hR dX13_init_446 rfl ?_
        refine X_iload_n 450 hO dX13_init_449 rfl rfl ?_
        refine X_iconst 451 hO dX13_init_450 rfl ?_
        refine ma_st (L := 24) (c := 202) 452 hO hR rfl rfl rfl dX13_init_451 rfl (by omega) (by omega) (by omega) (fun hR => ?_)
        refine X_iinc 455 hO dX13_init_452 rfl rfl ?_
        refine X_goto hO dX13_init_455 (tgt := 439) rfl ?_
        exact X_eqR hR (fl_stp (by omega) (by omega) (by omega) rfl) (fun hR => ih (i + 1) (by omega) (by omega) hR)
  exact X_eqR hR (fl_0 _ _ _ _).symm (fun hR => LP439 _ 0 (Nat.lt_succ_self _) (by omega) hR)
