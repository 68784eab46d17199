theorem fl_stp {w : Mm} {c : Nat} {lo n n' i v : Int} {f : Int → Int} (hn : 0 ≤ n) (hn' : n' = n + 1) (hi : i = lo + n) (hv : v = f i) : up (fl w c lo n f) c 0 i v = fl w c lo n' f := by
  subst hn'; exact fl_step hn hi hv
theorem fl_dwn {w : Mm} {c : Nat} {lo n lo' n' i v : Int} {f : Int → Int} (hn : 0 ≤ n) (hl : lo = lo' + 1) (hn' : n' = n + 1) (hi : i = lo') (hv : v = f i) : up (fl w c lo n f) c 0 i v = fl w c lo' n' f := by
  subst hn'; subst hi; exact fl_down hn hl hv
theorem fl_00 {w : Mm} {c : Nat} {lo n : Int} {f : Int → Int} (h : n = 0) : w = fl w c lo n f := by subst h; exact (fl_0 w c lo f).symm
theorem fl_stp2 {w : Mm} {c c' : Nat} {lo n m lo' n' m' i j v u : Int} {f g : Int → Int} (hc : c ≠ c') (hn : 0 ≤ n) (hm : m = n + 1) (hi : i = lo + n) (hv : v = f i) (hn' : 0 ≤ n') (hm' : m' = n' + 1) (hj : j = lo' + n') (hu : u = g j) : up (up (fl (fl w c lo n f) c' lo' n' g) c 0 i v) c' 0 j u = fl (fl w c lo m f) c' lo' m' g := by
  subst hm; subst hm'; exact fl_step2 hc hn hi hv hn' hj hu
def bM (s : Int) (w : Mm) : Prop := ∀ i, 6 * s ≤ i → i < 6 * s + 6 → -1 ≤ w 202 0 i ∧ w 202 0 i ≤ 400
def bE (w : Mm) : Prop := ∀ i, 0 ≤ i → i < 4 → (0 ≤ w 208 0 i ∧ w 208 0 i ≤ 400) ∧ (0 ≤ w 209 0 i ∧ w 209 0 i ≤ 400)
def m_opens (s q k : Int) (w : Mm) : Mm :=
  let W1 := fl w 200 (400 * s + q + k) (w 201 0 s - q) (fun i => w 200 0 (i - k))
  let W2 := up W1 201 0 s (w 201 0 s + k)
  let W3 := fl W2 202 (6 * s) 6 (fun i => if w 202 0 i = -1 then -1 else mvF (w 202 0 i) q k (bi (w 203 0 i = 1)))
  fl (fl W3 208 0 (if s = 0 then w 210 0 0 else 0) (fun i => mvF (w 208 0 i) q k 0)) 209 0 (if s = 0 then w 210 0 0 else 0) (fun i => mvF (w 209 0 i) q k 1)
def m_closes (s q k : Int) (w : Mm) : Mm :=
  let W2 := fl (up w 201 0 s (w 201 0 s - k)) 200 (400 * s + q) (w 201 0 s - k - q) (fun i => w 200 0 (i + k))
  let W3 := fl W2 202 (6 * s) 6 (fun i => dbF (w 202 0 i) q k)
  fl (fl W3 208 0 (if s = 0 then w 210 0 0 else 0) (fun i => dbF (w 208 0 i) q k)) 209 0 (if s = 0 then w 210 0 0 else 0) (fun i => dbF (w 209 0 i) q k)
theorem dX13_opens_0 : decode cX13_opens 0 = .ok (.aload_n 0, 1) := by decide +kernel
theorem dX13_opens_1 : decode cX13_opens 1 = .ok (.getfield 13, 3) := by decide +kernel
theorem dX13_opens_4 : decode cX13_opens 4 = .ok (.iload_n 1, 1) := by decide +kernel
theorem dX13_opens_5 : decode cX13_opens 5 = .ok (.iaload, 1) := by decide +kernel
theorem dX13_opens_6 : decode cX13_opens 6 = .ok (.iconst 1, 1) := by decide +kernel
theorem dX13_opens_7 : decode cX13_opens 7 = .ok (.isub, 1) := by decide +kernel
theorem dX13_opens_8 : decode cX13_opens 8 = .ok (.istore 4, 2) := by decide +kernel
theorem dX13_opens_10 : decode cX13_opens 10 = .ok (.iload 4, 2) := by decide +kernel
theorem dX13_opens_12 : decode cX13_opens 12 = .ok (.iload_n 2, 1) := by decide +kernel
theorem dX13_opens_13 : decode cX13_opens 13 = .ok (.if_icmp .lt 37, 3) := by decide +kernel
theorem dX13_opens_16 : decode cX13_opens 16 = .ok (.aload_n 0, 1) := by decide +kernel
theorem dX13_opens_17 : decode cX13_opens 17 = .ok (.getfield 7, 3) := by decide +kernel
theorem dX13_opens_20 : decode cX13_opens 20 = .ok (.sipush 400, 3) := by decide +kernel
theorem dX13_opens_23 : decode cX13_opens 23 = .ok (.iload_n 1, 1) := by decide +kernel
theorem dX13_opens_24 : decode cX13_opens 24 = .ok (.imul, 1) := by decide +kernel
theorem dX13_opens_25 : decode cX13_opens 25 = .ok (.iload 4, 2) := by decide +kernel
theorem dX13_opens_27 : decode cX13_opens 27 = .ok (.iadd, 1) := by decide +kernel
theorem dX13_opens_28 : decode cX13_opens 28 = .ok (.iload_n 3, 1) := by decide +kernel
theorem dX13_opens_29 : decode cX13_opens 29 = .ok (.iadd, 1) := by decide +kernel
theorem dX13_opens_30 : decode cX13_opens 30 = .ok (.aload_n 0, 1) := by decide +kernel
theorem dX13_opens_31 : decode cX13_opens 31 = .ok (.getfield 7, 3) := by decide +kernel
theorem dX13_opens_34 : decode cX13_opens 34 = .ok (.sipush 400, 3) := by decide +kernel
theorem dX13_opens_37 : decode cX13_opens 37 = .ok (.iload_n 1, 1) := by decide +kernel
theorem dX13_opens_38 : decode cX13_opens 38 = .ok (.imul, 1) := by decide +kernel
theorem dX13_opens_39 : decode cX13_opens 39 = .ok (.iload 4, 2) := by decide +kernel
theorem dX13_opens_41 : decode cX13_opens 41 = .ok (.iadd, 1) := by decide +kernel
theorem dX13_opens_42 : decode cX13_opens 42 = .ok (.iaload, 1) := by decide +kernel
theorem dX13_opens_43 : decode cX13_opens 43 = .ok (.iastore, 1) := by decide +kernel
theorem dX13_opens_44 : decode cX13_opens 44 = .ok (.iinc 4 (-1), 3) := by decide +kernel
theorem dX13_opens_47 : decode cX13_opens 47 = .ok (.goto (-37), 3) := by decide +kernel
theorem dX13_opens_50 : decode cX13_opens 50 = .ok (.aload_n 0, 1) := by decide +kernel
theorem dX13_opens_51 : decode cX13_opens 51 = .ok (.getfield 13, 3) := by decide +kernel
theorem dX13_opens_54 : decode cX13_opens 54 = .ok (.iload_n 1, 1) := by decide +kernel
theorem dX13_opens_55 : decode cX13_opens 55 = .ok (.dup2, 1) := by decide +kernel
theorem dX13_opens_56 : decode cX13_opens 56 = .ok (.iaload, 1) := by decide +kernel
theorem dX13_opens_57 : decode cX13_opens 57 = .ok (.iload_n 3, 1) := by decide +kernel
theorem dX13_opens_58 : decode cX13_opens 58 = .ok (.iadd, 1) := by decide +kernel
theorem dX13_opens_59 : decode cX13_opens 59 = .ok (.iastore, 1) := by decide +kernel
theorem dX13_opens_60 : decode cX13_opens 60 = .ok (.bipush 6, 2) := by decide +kernel
theorem dX13_opens_62 : decode cX13_opens 62 = .ok (.iload_n 1, 1) := by decide +kernel
theorem dX13_opens_63 : decode cX13_opens 63 = .ok (.imul, 1) := by decide +kernel
theorem dX13_opens_64 : decode cX13_opens 64 = .ok (.istore 4, 2) := by decide +kernel
theorem dX13_opens_66 : decode cX13_opens 66 = .ok (.iload 4, 2) := by decide +kernel
theorem dX13_opens_68 : decode cX13_opens 68 = .ok (.bipush 6, 2) := by decide +kernel
theorem dX13_opens_70 : decode cX13_opens 70 = .ok (.iload_n 1, 1) := by decide +kernel
theorem dX13_opens_71 : decode cX13_opens 71 = .ok (.imul, 1) := by decide +kernel
theorem dX13_opens_72 : decode cX13_opens 72 = .ok (.bipush 6, 2) := by decide +kernel
theorem dX13_opens_74 : decode cX13_opens 74 = .ok (.iadd, 1) := by decide +kernel
theorem dX13_opens_75 : decode cX13_opens 75 = .ok (.if_icmp .ge 60, 3) := by decide +kernel
theorem dX13_opens_78 : decode cX13_opens 78 = .ok (.aload_n 0, 1) := by decide +kernel
theorem dX13_opens_79 : decode cX13_opens 79 = .ok (.getfield 16, 3) := by decide +kernel
theorem dX13_opens_82 : decode cX13_opens 82 = .ok (.iload 4, 2) := by decide +kernel
theorem dX13_opens_84 : decode cX13_opens 84 = .ok (.aload_n 0, 1) := by decide +kernel
theorem dX13_opens_85 : decode cX13_opens 85 = .ok (.getfield 16, 3) := by decide +kernel
theorem dX13_opens_88 : decode cX13_opens 88 = .ok (.iload 4, 2) := by decide +kernel
theorem dX13_opens_90 : decode cX13_opens 90 = .ok (.iaload, 1) := by decide +kernel
theorem dX13_opens_91 : decode cX13_opens 91 = .ok (.iconst (-1), 1) := by decide +kernel
theorem dX13_opens_92 : decode cX13_opens 92 = .ok (.if_icmp .ne 7, 3) := by decide +kernel
theorem dX13_opens_95 : decode cX13_opens 95 = .ok (.iconst (-1), 1) := by decide +kernel
theorem dX13_opens_96 : decode cX13_opens 96 = .ok (.goto 32, 3) := by decide +kernel
theorem dX13_opens_99 : decode cX13_opens 99 = .ok (.aload_n 0, 1) := by decide +kernel
theorem dX13_opens_100 : decode cX13_opens 100 = .ok (.aload_n 0, 1) := by decide +kernel
theorem dX13_opens_101 : decode cX13_opens 101 = .ok (.getfield 16, 3) := by decide +kernel
theorem dX13_opens_104 : decode cX13_opens 104 = .ok (.iload 4, 2) := by decide +kernel
theorem dX13_opens_106 : decode cX13_opens 106 = .ok (.iaload, 1) := by decide +kernel
theorem dX13_opens_107 : decode cX13_opens 107 = .ok (.iload_n 2, 1) := by decide +kernel
theorem dX13_opens_108 : decode cX13_opens 108 = .ok (.iload_n 3, 1) := by decide +kernel
theorem dX13_opens_109 : decode cX13_opens 109 = .ok (.aload_n 0, 1) := by decide +kernel
theorem dX13_opens_110 : decode cX13_opens 110 = .ok (.getfield 19, 3) := by decide +kernel
theorem dX13_opens_113 : decode cX13_opens 113 = .ok (.iload 4, 2) := by decide +kernel
theorem dX13_opens_115 : decode cX13_opens 115 = .ok (.iaload, 1) := by decide +kernel
theorem dX13_opens_116 : decode cX13_opens 116 = .ok (.iconst 1, 1) := by decide +kernel
theorem dX13_opens_117 : decode cX13_opens 117 = .ok (.if_icmp .ne 7, 3) := by decide +kernel
theorem dX13_opens_120 : decode cX13_opens 120 = .ok (.iconst 1, 1) := by decide +kernel
theorem dX13_opens_121 : decode cX13_opens 121 = .ok (.goto 4, 3) := by decide +kernel
theorem dX13_opens_124 : decode cX13_opens 124 = .ok (.iconst 0, 1) := by decide +kernel
theorem dX13_opens_125 : decode cX13_opens 125 = .ok (.invokevirtual 195, 3) := by decide +kernel
theorem dX13_opens_128 : decode cX13_opens 128 = .ok (.iastore, 1) := by decide +kernel
theorem dX13_opens_129 : decode cX13_opens 129 = .ok (.iinc 4 1, 3) := by decide +kernel
theorem dX13_opens_132 : decode cX13_opens 132 = .ok (.goto (-66), 3) := by decide +kernel
theorem dX13_opens_135 : decode cX13_opens 135 = .ok (.iconst 0, 1) := by decide +kernel
theorem dX13_opens_136 : decode cX13_opens 136 = .ok (.istore 4, 2) := by decide +kernel
theorem dX13_opens_138 : decode cX13_opens 138 = .ok (.iload 4, 2) := by decide +kernel
theorem dX13_opens_140 : decode cX13_opens 140 = .ok (.aload_n 0, 1) := by decide +kernel
theorem dX13_opens_141 : decode cX13_opens 141 = .ok (.getfield 40, 3) := by decide +kernel
theorem dX13_opens_144 : decode cX13_opens 144 = .ok (.iconst 0, 1) := by decide +kernel
theorem dX13_opens_145 : decode cX13_opens 145 = .ok (.iaload, 1) := by decide +kernel
theorem dX13_opens_146 : decode cX13_opens 146 = .ok (.if_icmp .ge 55, 3) := by decide +kernel
theorem dX13_opens_149 : decode cX13_opens 149 = .ok (.iload_n 1, 1) := by decide +kernel
theorem dX13_opens_150 : decode cX13_opens 150 = .ok (.ifCond .ne 51, 3) := by decide +kernel
theorem dX13_opens_153 : decode cX13_opens 153 = .ok (.aload_n 0, 1) := by decide +kernel
theorem dX13_opens_154 : decode cX13_opens 154 = .ok (.getfield 34, 3) := by decide +kernel
theorem dX13_opens_157 : decode cX13_opens 157 = .ok (.iload 4, 2) := by decide +kernel
theorem dX13_opens_159 : decode cX13_opens 159 = .ok (.aload_n 0, 1) := by decide +kernel
theorem dX13_opens_160 : decode cX13_opens 160 = .ok (.aload_n 0, 1) := by decide +kernel
theorem dX13_opens_161 : decode cX13_opens 161 = .ok (.getfield 34, 3) := by decide +kernel
theorem dX13_opens_164 : decode cX13_opens 164 = .ok (.iload 4, 2) := by decide +kernel
theorem dX13_opens_166 : decode cX13_opens 166 = .ok (.iaload, 1) := by decide +kernel
theorem dX13_opens_167 : decode cX13_opens 167 = .ok (.iload_n 2, 1) := by decide +kernel
theorem dX13_opens_168 : decode cX13_opens 168 = .ok (.iload_n 3, 1) := by decide +kernel
theorem dX13_opens_169 : decode cX13_opens 169 = .ok (.iconst 0, 1) := by decide +kernel
theorem dX13_opens_170 : decode cX13_opens 170 = .ok (.invokevirtual 195, 3) := by decide +kernel
theorem dX13_opens_173 : decode cX13_opens 173 = .ok (.iastore, 1) := by decide +kernel
theorem dX13_opens_174 : decode cX13_opens 174 = .ok (.aload_n 0, 1) := by decide +kernel
theorem dX13_opens_175 : decode cX13_opens 175 = .ok (.getfield 37, 3) := by decide +kernel
theorem dX13_opens_178 : decode cX13_opens 178 = .ok (.iload 4, 2) := by decide +kernel
theorem dX13_opens_180 : decode cX13_opens 180 = .ok (.aload_n 0, 1) := by decide +kernel
theorem dX13_opens_181 : decode cX13_opens 181 = .ok (.aload_n 0, 1) := by decide +kernel
theorem dX13_opens_182 : decode cX13_opens 182 = .ok (.getfield 37, 3) := by decide +kernel
theorem dX13_opens_185 : decode cX13_opens 185 = .ok (.iload 4, 2) := by decide +kernel
theorem dX13_opens_187 : decode cX13_opens 187 = .ok (.iaload, 1) := by decide +kernel
theorem dX13_opens_188 : decode cX13_opens 188 = .ok (.iload_n 2, 1) := by decide +kernel
theorem dX13_opens_189 : decode cX13_opens 189 = .ok (.iload_n 3, 1) := by decide +kernel
theorem dX13_opens_190 : decode cX13_opens 190 = .ok (.iconst 1, 1) := by decide +kernel
theorem dX13_opens_191 : decode cX13_opens 191 = .ok (.invokevirtual 195, 3) := by decide +kernel
theorem dX13_opens_194 : decode cX13_opens 194 = .ok (.iastore, 1) := by decide +kernel
theorem dX13_opens_195 : decode cX13_opens 195 = .ok (.iinc 4 1, 3) := by decide +kernel
theorem dX13_opens_198 : decode cX13_opens 198 = .ok (.goto (-60), 3) := by decide +kernel
theorem dX13_opens_201 : decode cX13_opens 201 = .ok (.return_, 1) := by decide +kernel
set_option maxRecDepth 4000 in
theorem c_opens (γ : LC) (μ : MU) (w : Mm) (s q k : Int) (hs : s = 0 ∨ s = 1) (hq : 0 ≤ q ∧ q ≤ w 201 0 s) (hk : 0 ≤ k ∧ w 201 0 s + k ≤ 400) (hmk : bM s w) (hv : 0 ≤ w 210 0 0 ∧ w 210 0 0 ≤ 4) (he : bE w) : CMv γ μ 1 mX13_opens [.int (I s), .int (I q), .int (I k)] w (fun w' => w' = m_opens s q k w) := by
  refine CMv_of rfl (by simp [rv_cat, Value.category]) rfl ?_
  rintro κ hO hF rfl hR
  have hD := hF.dp
  show X κ 0 0 w 0 [some (rv μ.1), some (.int (I s)), some (.int (I q)), some (.int (I k)), none] []
  have hlen : 0 ≤ w 201 0 s ∧ w 201 0 s ≤ 400 := by omega
  refine X_aload_n 1 hO dX13_opens_0 rfl rfl ?_
  refine ga_13 4 hO hR dX13_opens_1 rfl ?_
  refine X_iload_n 5 hO dX13_opens_4 rfl rfl ?_
  refine ma_ld (L := 4) (c := 201) 6 hO hR rfl rfl rfl dX13_opens_5 rfl (by omega) (by omega) (fun hi_5 => ?_)
  refine X_iconst 7 hO dX13_opens_6 rfl ?_
  refine X_isub 8 hO dX13_opens_7 rfl ?_
  refine X_istore 10 hO dX13_opens_8 rfl rfl ?_
  have LP10 : ∀ (n : Nat) (i : Int), (i + 1 - q).toNat < n → (q - 1 ≤ i ∧ i ≤ w 201 0 s - 1) → RM ((fl w 200 (400 * s + i + 1 + k) (w 201 0 s - 1 - i) (fun i => w 200 0 (i - k)))) μ → X κ 0 0 ((fl w 200 (400 * s + i + 1 + k) (w 201 0 s - 1 - i) (fun i => w 200 0 (i - k)))) 10 [some (rv μ.1), some (.int (I s)), some (.int (I q)), some (.int (I k)), some (.int (I i))] [] := by
    intro n
    induction n with
    | zero => intro i hm; exact absurd hm (Nat.not_lt_zero _)
    | succ n ih =>
      intro i hm hi hR
      refine X_iload 12 hO dX13_opens_10 rfl rfl ?_
      refine X_iload_n 13 hO dX13_opens_12 rfl rfl ?_
      refine X_icmp_lt 16 50 hO dX13_opens_13 rfl rfl (by omega) (by omega) (fun hc_13 => ?_) (fun hc_13 => ?_)
      ·
        have e4 : i = q - 1 := by omega
        subst e4
        refine X_eqR hR (w2 := (fl w 200 (400 * s + q + k) (w 201 0 s - q) (fun i => w 200 0 (i - k)))) (by congr 1 <;> omega) (fun hR => ?_)
        refine X_aload_n 51 hO dX13_opens_50 rfl rfl ?_
        refine ga_13 54 hO hR dX13_opens_51 rfl ?_
        refine X_iload_n 55 hO dX13_opens_54 rfl rfl ?_
        refine X_dup2 56 hO dX13_opens_55 rfl (by first | rfl | exact rv_cat _) (by first | rfl | exact rv_cat _) ?_
        refine ma_ld (L := 4) (c := 201) 57 hO hR rfl rfl rfl dX13_opens_56 rfl (by omega) (by omega) (fun hi_56 => ?_)
        refine X_iload_n 58 hO dX13_opens_57 rfl rfl ?_
        refine X_iadd 59 hO dX13_opens_58 rfl ?_
        refine ma_st (L := 4) (c := 201) 60 hO hR rfl rfl rfl dX13_opens_59 rfl (by omega) (by omega) (by rw [show (fl w 200 (400 * s + q + k) (w 201 0 s - q) (fun i => w 200 0 (i - k))) 201 0 s = w 201 0 s from by simp only [fl]; rw [if_neg (by omega)]]; omega) (fun hR => ?_)
        refine X_bipush 62 hO dX13_opens_60 rfl (by decide) ?_
        refine X_iload_n 63 hO dX13_opens_62 rfl rfl ?_
        refine X_imul 64 hO dX13_opens_63 rfl ?_
        refine X_istore 66 hO dX13_opens_64 rfl rfl ?_
        have LP66 : ∀ (n : Nat) (i : Int), (6 * s + 6 - i).toNat < n → (6 * s ≤ i ∧ i ≤ 6 * s + 6) → RM ((fl (up (fl w 200 (400 * s + q + k) (w 201 0 s - q) (fun i => w 200 0 (i - k))) 201 0 s (w 201 0 s + k)) 202 (6 * s) (i - 6 * s) (fun i => if w 202 0 i = -1 then -1 else mvF (w 202 0 i) q k (bi (w 203 0 i = 1))))) μ → X κ 0 0 ((fl (up (fl w 200 (400 * s + q + k) (w 201 0 s - q) (fun i => w 200 0 (i - k))) 201 0 s (w 201 0 s + k)) 202 (6 * s) (i - 6 * s) (fun i => if w 202 0 i = -1 then -1 else mvF (w 202 0 i) q k (bi (w 203 0 i = 1))))) 66 [some (rv μ.1), some (.int (I s)), some (.int (I q)), some (.int (I k)), some (.int (I i))] [] := by
          intro n
          induction n with
          | zero => intro i hm; exact absurd hm (Nat.not_lt_zero _)
          | succ n ih =>
            intro i hm hi hR
            refine X_iload 68 hO dX13_opens_66 rfl rfl ?_
            refine X_bipush 70 hO dX13_opens_68 rfl (by decide) ?_
            refine X_iload_n 71 hO dX13_opens_70 rfl rfl ?_
            refine X_imul 72 hO dX13_opens_71 rfl ?_
            refine X_bipush 74 hO dX13_opens_72 rfl (by decide) ?_
            refine X_iadd 75 hO dX13_opens_74 rfl ?_
            refine X_icmp_ge 78 135 hO dX13_opens_75 rfl rfl (by omega) (by omega) (fun hc_75 => ?_) (fun hc_75 => ?_)
            ·
              have e4 : i = 6 * s + 6 := by omega
              subst e4
              refine X_eqR hR (w2 := (fl (up (fl w 200 (400 * s + q + k) (w 201 0 s - q) (fun i => w 200 0 (i - k))) 201 0 s (w 201 0 s + k)) 202 (6 * s) (6) (fun i => if w 202 0 i = -1 then -1 else mvF (w 202 0 i) q k (bi (w 203 0 i = 1))))) (by congr 1; omega) (fun hR => ?_)
              refine X_iconst 136 hO dX13_opens_135 rfl ?_
              refine X_istore 138 hO dX13_opens_136 rfl rfl ?_
              have LP138 : ∀ (n : Nat) (i : Int), ((if s = 0 then w 210 0 0 else 0) - i).toNat < n → (0 ≤ i ∧ i ≤ (if s = 0 then w 210 0 0 else 0)) → RM ((fl (fl (fl (up (fl w 200 (400 * s + q + k) (w 201 0 s - q) (fun i => w 200 0 (i - k))) 201 0 s (w 201 0 s + k)) 202 (6 * s) (6) (fun i => if w 202 0 i = -1 then -1 else mvF (w 202 0 i) q k (bi (w 203 0 i = 1)))) 208 0 (i) (fun i => mvF (w 208 0 i) q k 0)) 209 0 (i) (fun i => mvF (w 209 0 i) q k 1))) μ → X κ 0 0 ((fl (fl (fl (up (fl w 200 (400 * s + q + k) (w 201 0 s - q) (fun i => w 200 0 (i - k))) 201 0 s (w 201 0 s + k)) 202 (6 * s) (6) (fun i => if w 202 0 i = -1 then -1 else mvF (w 202 0 i) q k (bi (w 203 0 i = 1)))) 208 0 (i) (fun i => mvF (w 208 0 i) q k 0)) 209 0 (i) (fun i => mvF (w 209 0 i) q k 1))) 138 [some (rv μ.1), some (.int (I s)), some (.int (I q)), some (.int (I k)), some (.int (I i))] [] := by
                intro n
                induction n with
                | zero => intro i hm; exact absurd hm (Nat.not_lt_zero _)
                | succ n ih =>
                  intro i hm hi hR
                  have hn0 : (fl (fl (fl (up (fl w 200 (400 * s + q + k) (w 201 0 s - q) (fun i => w 200 0 (i - k))) 201 0 s (w 201 0 s + k)) 202 (6 * s) (6) (fun i => if w 202 0 i = -1 then -1 else mvF (w 202 0 i) q k (bi (w 203 0 i = 1)))) 208 0 (i) (fun i => mvF (w 208 0 i) q k 0)) 209 0 (i) (fun i => mvF (w 209 0 i) q k 1)) 210 0 0 = w 210 0 0 := by simp only [fl, up]; repeat rw [if_neg (by omega)]
                  refine X_iload 140 hO dX13_opens_138 rfl rfl ?_
                  refine X_aload_n 141 hO dX13_opens_140 rfl rfl ?_
                  refine ga_40 144 hO hR dX13_opens_141 rfl ?_
                  refine X_iconst 145 hO dX13_opens_144 rfl ?_
                  refine ma_ld (L := 4) (c := 210) 146 hO hR rfl rfl rfl dX13_opens_145 rfl (by omega) (by omega) (fun hi_145 => ?_)
                  refine X_icmp_ge 149 201 hO dX13_opens_146 rfl rfl (by omega) (by omega) (fun hc_146 => ?_) (fun hc_146 => ?_)
                  ·
                    have e4 : i = (if s = 0 then w 210 0 0 else 0) := by clear ih hmk he; grind
                    subst e4
                    exact XM_vret hO hF hR rfl dX13_opens_201 rfl
                  ·
                    refine X_iload_n 150 hO dX13_opens_149 rfl rfl ?_
                    refine X_if_ne 153 201 hO dX13_opens_150 rfl rfl (by omega) (fun hc_150 => ?_) (fun hc_150 => ?_)
                    ·
                      have e4 : i = (if s = 0 then w 210 0 0 else 0) := by clear ih hmk he; grind
                      subst e4
                      exact XM_vret hO hF hR rfl dX13_opens_201 rfl
                    ·
                      have hs0 : s = 0 := by omega
                      have ev : (fl (fl (fl (up (fl w 200 (400 * s + q + k) (w 201 0 s - q) (fun i => w 200 0 (i - k))) 201 0 s (w 201 0 s + k)) 202 (6 * s) (6) (fun i => if w 202 0 i = -1 then -1 else mvF (w 202 0 i) q k (bi (w 203 0 i = 1)))) 208 0 (i) (fun i => mvF (w 208 0 i) q k 0)) 209 0 (i) (fun i => mvF (w 209 0 i) q k 1)) 208 0 i = w 208 0 i := by simp only [fl, up]; repeat rw [if_neg (by omega)]
                      have eg : (fl (fl (fl (up (fl w 200 (400 * s + q + k) (w 201 0 s - q) (fun i => w 200 0 (i - k))) 201 0 s (w 201 0 s + k)) 202 (6 * s) (6) (fun i => if w 202 0 i = -1 then -1 else mvF (w 202 0 i) q k (bi (w 203 0 i = 1)))) 208 0 (i) (fun i => mvF (w 208 0 i) q k 0)) 209 0 (i) (fun i => mvF (w 209 0 i) q k 1)) 209 0 i = w 209 0 i := by simp only [fl, up]; repeat rw [if_neg (by omega)]
                      have hb := he i (by omega) (by omega)
                      refine X_aload_n 154 hO dX13_opens_153 rfl rfl ?_
                      refine ga_34 157 hO hR dX13_opens_154 rfl ?_
                      refine X_iload 159 hO dX13_opens_157 rfl rfl ?_
                      refine X_aload_n 160 hO dX13_opens_159 rfl rfl ?_
                      refine X_aload_n 161 hO dX13_opens_160 rfl rfl ?_
                      refine ga_34 164 hO hR dX13_opens_161 rfl ?_
                      refine X_iload 166 hO dX13_opens_164 rfl rfl ?_
                      refine ma_ld (L := 16) (c := 208) 167 hO hR rfl rfl rfl dX13_opens_166 rfl (by omega) (by omega) (fun hi_166 => ?_)
                      refine X_iload_n 168 hO dX13_opens_167 rfl rfl ?_
                      refine X_iload_n 169 hO dX13_opens_168 rfl rfl ?_
                      refine X_iconst 170 hO dX13_opens_169 rfl ?_
                      refine XM_callVi 173 hO hD hR lX13_195 [_, _, _, _] rfl dX13_opens_170 rfl (c_movedBy _ _ _ _ _ _ _ (by omega) (by omega) (by omega) (by omega)) (by decide) (by simp only [List.map_cons, List.map_nil, rv_cat]; exact Nat.le_of_ble_eq_true rfl) (fun r_170 w_170 hr_170 hp_170 hR => ?_)
                      obtain ⟨e1_170, e2_170⟩ := hp_170
                      subst e1_170
                      subst e2_170
                      refine ma_st (L := 16) (c := 208) 174 hO hR rfl rfl rfl dX13_opens_173 rfl (by omega) (by omega) (by omega) (fun hR => ?_)
                      refine X_aload_n 175 hO dX13_opens_174 rfl rfl ?_
                      refine ga_37 178 hO hR dX13_opens_175 rfl ?_
                      refine X_iload 180 hO dX13_opens_178 rfl rfl ?_
                      refine X_aload_n 181 hO dX13_opens_180 rfl rfl ?_
                      refine X_aload_n 182 hO dX13_opens_181 rfl rfl ?_
                      refine ga_37 185 hO hR dX13_opens_182 rfl ?_
                      refine X_iload 187 hO dX13_opens_185 rfl rfl ?_
                      refine ma_ld (L := 16) (c := 209) 188 hO hR rfl rfl rfl dX13_opens_187 rfl (by omega) (by omega) (fun hi_187 => ?_)
                      refine X_iload_n 189 hO dX13_opens_188 rfl rfl ?_
                      refine X_iload_n 190 hO dX13_opens_189 rfl rfl ?_
                      refine X_iconst 191 hO dX13_opens_190 rfl ?_
                      rw [up_k _ (show (209 : Nat) ≠ 208 by decide), eg]
                      refine XM_callVi 194 hO hD hR lX13_195 [_, _, _, _] rfl dX13_opens_191 rfl (c_movedBy _ _ _ _ _ _ _ (by omega) (by omega) (by omega) (by omega)) (by decide) (by simp only [List.map_cons, List.map_nil, rv_cat]; exact Nat.le_of_ble_eq_true rfl) (fun r_191 w_191 hr_191 hp_191 hR => ?_)
                      obtain ⟨e1_191, e2_191⟩ := hp_191
                      subst e1_191
                      subst e2_191
                      refine ma_st (L := 16) (c := 209) 195 hO hR rfl rfl rfl dX13_opens_194 rfl (by omega) (by omega) (by omega) (fun hR => ?_)
                      refine X_iinc 198 hO dX13_opens_195 rfl rfl ?_
                      refine X_goto hO dX13_opens_198 (tgt := 138) rfl ?_
                      exact X_eqR hR (fl_stp2 (by decide) (by omega) rfl (by omega) (by clear ih; simp only [ev, eg]) (by omega) rfl (by omega) (by clear ih; simp only [ev, eg])) (fun hR => ih (i + 1) (by omega) (by omega) hR)
              exact X_eqR hR (by rw [fl_0, fl_0]) (fun hR => LP138 _ 0 (Nat.lt_succ_self _) (by constructor <;> (try split) <;> omega) hR)
            ·
              have ev : (fl (up (fl w 200 (400 * s + q + k) (w 201 0 s - q) (fun i => w 200 0 (i - k))) 201 0 s (w 201 0 s + k)) 202 (6 * s) (i - 6 * s) (fun i => if w 202 0 i = -1 then -1 else mvF (w 202 0 i) q k (bi (w 203 0 i = 1)))) 202 0 i = w 202 0 i := by simp only [fl, up]; repeat rw [if_neg (by omega)]
              have eg : (fl (up (fl w 200 (400 * s + q + k) (w 201 0 s - q) (fun i => w 200 0 (i - k))) 201 0 s (w 201 0 s + k)) 202 (6 * s) (i - 6 * s) (fun i => if w 202 0 i = -1 then -1 else mvF (w 202 0 i) q k (bi (w 203 0 i = 1)))) 203 0 i = w 203 0 i := by simp only [fl, up]; repeat rw [if_neg (by omega)]
              have hb := hmk i (by omega) (by omega)
              refine X_aload_n 79 hO dX13_opens_78 rfl rfl ?_
              refine ga_16 82 hO hR dX13_opens_79 rfl ?_
              refine X_iload 84 hO dX13_opens_82 rfl rfl ?_
              refine X_aload_n 85 hO dX13_opens_84 rfl rfl ?_
              refine ga_16 88 hO hR dX13_opens_85 rfl ?_
              refine X_iload 90 hO dX13_opens_88 rfl rfl ?_
              refine ma_ld (L := 24) (c := 202) 91 hO hR rfl rfl rfl dX13_opens_90 rfl (by omega) (by omega) (fun hi_90 => ?_)
              refine X_iconst 92 hO dX13_opens_91 rfl ?_
              refine X_icmp_ne 95 99 hO dX13_opens_92 rfl rfl (by omega) (by omega) (fun hc_92 => ?_) (fun hc_92 => ?_)
              ·
                refine X_aload_n 100 hO dX13_opens_99 rfl rfl ?_
                refine X_aload_n 101 hO dX13_opens_100 rfl rfl ?_
                refine ga_16 104 hO hR dX13_opens_101 rfl ?_
                refine X_iload 106 hO dX13_opens_104 rfl rfl ?_
                refine ma_ld (L := 24) (c := 202) 107 hO hR rfl rfl rfl dX13_opens_106 rfl (by omega) (by omega) (fun hi_106 => ?_)
                refine X_iload_n 108 hO dX13_opens_107 rfl rfl ?_
                refine X_iload_n 109 hO dX13_opens_108 rfl rfl ?_
                refine X_aload_n 110 hO dX13_opens_109 rfl rfl ?_
                refine ga_19 113 hO hR dX13_opens_110 rfl ?_
                refine X_iload 115 hO dX13_opens_113 rfl rfl ?_
                refine ma_ld (L := 24) (c := 203) 116 hO hR rfl rfl rfl dX13_opens_115 rfl (by omega) (by omega) (fun hi_115 => ?_)
                refine X_iconst 117 hO dX13_opens_116 rfl ?_
                refine X_icmp_ne 120 124 hO dX13_opens_117 rfl rfl (by omega) (by omega) (fun hc_117 => ?_) (fun hc_117 => ?_)
                ·
                  refine X_iconst 125 hO dX13_opens_124 rfl ?_
                  refine XM_callVi 128 hO hD hR lX13_195 [_, _, _, _] rfl dX13_opens_125 rfl (c_movedBy _ _ _ _ _ _ _ (by omega) (by omega) (by omega) (by omega)) (by decide) (by simp only [List.map_cons, List.map_nil, rv_cat]; exact Nat.le_of_ble_eq_true rfl) (fun r_125 w_125 hr_125 hp_125 hR => ?_)
                  obtain ⟨e1_125, e2_125⟩ := hp_125
                  subst e1_125
                  subst e2_125
                  refine ma_st (L := 24) (c := 202) 129 hO hR rfl rfl rfl dX13_opens_128 rfl (by omega) (by omega) (by omega) (fun hR => ?_)
                  refine X_iinc 132 hO dX13_opens_129 rfl rfl ?_
                  refine X_goto hO dX13_opens_132 (tgt := 66) rfl ?_
                  exact X_eqR hR (fl_stp (by omega) (by omega) (by omega) (by clear ih; simp only [ev, eg] at *; grind [bi])) (fun hR => ih (i + 1) (by omega) (by omega) hR)
                ·
                  refine X_iconst 121 hO dX13_opens_120 rfl ?_
                  refine X_goto hO dX13_opens_121 (tgt := 125) rfl ?_
                  refine XM_callVi 128 hO hD hR lX13_195 [_, _, _, _] rfl dX13_opens_125 rfl (c_movedBy _ _ _ _ _ _ _ (by omega) (by omega) (by omega) (by omega)) (by decide) (by simp only [List.map_cons, List.map_nil, rv_cat]; exact Nat.le_of_ble_eq_true rfl) (fun r_125 w_125 hr_125 hp_125 hR => ?_)
                  obtain ⟨e1_125, e2_125⟩ := hp_125
                  subst e1_125
                  subst e2_125
                  refine ma_st (L := 24) (c := 202) 129 hO hR rfl rfl rfl dX13_opens_128 rfl (by omega) (by omega) (by omega) (fun hR => ?_)
                  refine X_iinc 132 hO dX13_opens_129 rfl rfl ?_
                  refine X_goto hO dX13_opens_132 (tgt := 66) rfl ?_
                  exact X_eqR hR (fl_stp (by omega) (by omega) (by omega) (by clear ih; simp only [ev, eg] at *; grind [bi])) (fun hR => ih (i + 1) (by omega) (by omega) hR)
              ·
                refine X_iconst 96 hO dX13_opens_95 rfl ?_
                refine X_goto hO dX13_opens_96 (tgt := 128) rfl ?_
                refine ma_st (L := 24) (c := 202) 129 hO hR rfl rfl rfl dX13_opens_128 rfl (by omega) (by omega) (by omega) (fun hR => ?_)
                refine X_iinc 132 hO dX13_opens_129 rfl rfl ?_
                refine X_goto hO dX13_opens_132 (tgt := 66) rfl ?_
                exact X_eqR hR (fl_stp (by omega) (by omega) (by omega) (by clear ih; simp only [ev, eg] at *; grind [bi])) (fun hR => ih (i + 1) (by omega) (by omega) hR)
        refine X_eqR hR (w2 := (up (fl w 200 (400 * s + q + k) (w 201 0 s - q) (fun i => w 200 0 (i - k))) 201 0 s (w 201 0 s + k))) (by congr 1) (fun hR => ?_)
        exact X_eqR hR (fl_00 (by omega)) (fun hR => LP66 _ (6 * s) (Nat.lt_succ_self _) (by omega) hR)
      ·
        refine X_aload_n 17 hO dX13_opens_16 rfl rfl ?_
        refine ga_7 20 hO hR dX13_opens_17 rfl ?_
        refine X_sipush 23 hO dX13_opens_20 rfl (by decide) ?_
        refine X_iload_n 24 hO dX13_opens_23 rfl rfl ?_
        refine X_imul 25 hO dX13_opens_24 rfl ?_
        refine X_iload 27 hO dX13_opens_25 rfl rfl ?_
        refine X_iadd 28 hO dX13_opens_27 rfl ?_
        refine X_iload_n 29 hO dX13_opens_28 rfl rfl ?_
        refine X_iadd 30 hO dX13_opens_29 rfl ?_
        refine X_aload_n 31 hO dX13_opens_30 rfl rfl ?_
        refine ga_7 34 hO hR dX13_opens_31 rfl ?_
        refine X_sipush 37 hO dX13_opens_34 rfl (by decide) ?_
        refine X_iload_n 38 hO dX13_opens_37 rfl rfl ?_
        refine X_imul 39 hO dX13_opens_38 rfl ?_
        refine X_iload 41 hO dX13_opens_39 rfl rfl ?_
        refine X_iadd 42 hO dX13_opens_41 rfl ?_
        refine ma_ld (L := 1600) (c := 200) 43 hO hR rfl rfl rfl dX13_opens_42 rfl (by omega) (by omega) (fun hi_42 => ?_)
        refine ma_st (L := 1600) (c := 200) 44 hO hR rfl rfl rfl dX13_opens_43 rfl (by omega) (by omega) (by omega) (fun hR => ?_)
        refine X_iinc 47 hO dX13_opens_44 rfl rfl ?_
        refine X_goto hO dX13_opens_47 (tgt := 10) rfl ?_
        exact X_eqR hR (fl_dwn (by omega) (by omega) (by omega) (by omega) (by clear ih; grind [fl, up])) (fun hR => ih (i + -1) (by omega) (by omega) hR)
  exact X_eqR hR (fl_00 (by omega)) (fun hR => LP10 _ (w 201 0 s - 1) (Nat.lt_succ_self _) (by omega) hR)
theorem opens_at {s q k : Int} {w : Mm} {c : Nat} {a i : Int} (h : c < 200 ∨ (202 < c ∧ c < 208) ∨ 209 < c) : m_opens s q k w c a i = w c a i := by
  simp only [m_opens, fl, up]
  rw [if_neg (by omega), if_neg (by omega), if_neg (by omega), if_neg (by omega), if_neg (by omega)]
theorem closes_at {s q k : Int} {w : Mm} {c : Nat} {a i : Int} (h : c < 200 ∨ (202 < c ∧ c < 208) ∨ 209 < c) : m_closes s q k w c a i = w c a i := by
  simp only [m_closes, fl, up]
  rw [if_neg (by omega), if_neg (by omega), if_neg (by omega), if_neg (by omega), if_neg (by omega)]
theorem step_at {μ : MU} {k p v : Int} {w : Mm} {c : Nat} {a i : Int} (h : c ≠ 212 ∧ c ≠ 120) : m_step μ k p v w c a i = w c a i := by
  unfold m_step; rw [up_k _ h.2, up_k _ h.1]
theorem pool_at {μ : MU} {v : Int} {w : Mm} {c : Nat} {a i : Int} (h : c ≠ 213 ∧ c ≠ 121) : m_pool μ v w c a i = w c a i := by
  unfold m_pool; rw [up_k _ h.2, up_k _ h.1]
def m_poolN (μ : MU) (f : Int → Int) : Nat → Mm → Mm
  | 0, w => w
  | n + 1, w => m_pool μ (f (n : Int)) (m_poolN μ f n w)
theorem poolN_at {μ : MU} {f : Int → Int} {n : Nat} {w : Mm} {c : Nat} {a i : Int} (h : c ≠ 213 ∧ c ≠ 121) : m_poolN μ f n w c a i = w c a i := by
  induction n with
  | zero => rfl
  | succ n ih => exact (pool_at h).trans ih
theorem pool_n {μ : MU} {v : Int} {w : Mm} : m_pool μ v w 121 μ.1 0 = w 121 μ.1 0 + 1 := by unfold m_pool; exact up_s _ _ _ _ _
theorem poolN_n {μ : MU} {f : Int → Int} {n : Nat} {w : Mm} : m_poolN μ f n w 121 μ.1 0 = w 121 μ.1 0 + n := by
  induction n with
  | zero => simp [m_poolN]
  | succ n ih => simp only [m_poolN, pool_n, ih]; omega
theorem pool_up {μ : MU} {v : Int} {w : Mm} {c : Nat} {a i x : Int} (h : c ≠ 213 ∧ c ≠ 121) : up (m_pool μ v w) c a i x = m_pool μ v (up w c a i x) := by
  unfold m_pool
  funext c' a' i'
  have h1 := h.1
  have h2 := h.2
  have e1 : ∀ b j, up w c a i x 213 b j = w 213 b j := fun b j => up_k w (Ne.symm h1) _ _ _ _ _
  have e2 : ∀ b j, up w c a i x 121 b j = w 121 b j := fun b j => up_k w (Ne.symm h2) _ _ _ _ _
  simp only [e1, e2]
  grind [up]
theorem poolN_up {μ : MU} {f : Int → Int} {n : Nat} {w : Mm} {c : Nat} {a i x : Int} (h : c ≠ 213 ∧ c ≠ 121) : up (m_poolN μ f n w) c a i x = m_poolN μ f n (up w c a i x) := by
  induction n with
  | zero => rfl
  | succ n ih => exact (pool_up h).trans (congrArg _ ih)
def m_ins (μ : MU) (q k : Int) (w : Mm) : Mm := m_poolN μ (fun i => w 240 0 i) k.toNat (fl (m_step μ 0 q k (m_opens 0 q k w)) 200 q k (fun i => w 240 0 (i - q)))
def m_del (μ : MU) (q k : Int) (w : Mm) : Mm := m_step μ 1 q k (m_closes 0 q k w)
def m_rep (μ : MU) (q c : Int) (w : Mm) : Mm := m_step μ 2 q c (up w 200 0 q c)
def m_tak (t s e k : Int) (w : Mm) : Mm := fl (up w 205 0 (20 * t + 4 * s + e) k) 206 (400 * t + 80 * s + 20 * e) k (fun i => w 240 0 (i - (400 * t + 80 * s + 20 * e)))
def m_mvE (t a b : Int) (w : Mm) : Mm := fl (up w 205 0 (20 * t + 16 + a) (w 205 0 (20 * t + 16 + b))) 206 (400 * t + 320 + 20 * a) 20 (fun i => w 206 0 (i - 20 * a + 20 * b))
theorem dX13_closes_0 : decode cX13_closes 0 = .ok (.aload_n 0, 1) := by decide +kernel
theorem dX13_closes_1 : decode cX13_closes 1 = .ok (.getfield 13, 3) := by decide +kernel
theorem dX13_closes_4 : decode cX13_closes 4 = .ok (.iload_n 1, 1) := by decide +kernel
theorem dX13_closes_5 : decode cX13_closes 5 = .ok (.dup2, 1) := by decide +kernel
theorem dX13_closes_6 : decode cX13_closes 6 = .ok (.iaload, 1) := by decide +kernel
theorem dX13_closes_7 : decode cX13_closes 7 = .ok (.iload_n 3, 1) := by decide +kernel
theorem dX13_closes_8 : decode cX13_closes 8 = .ok (.isub, 1) := by decide +kernel
theorem dX13_closes_9 : decode cX13_closes 9 = .ok (.iastore, 1) := by decide +kernel
theorem dX13_closes_10 : decode cX13_closes 10 = .ok (.iload_n 2, 1) := by decide +kernel
theorem dX13_closes_11 : decode cX13_closes 11 = .ok (.istore 4, 2) := by decide +kernel
theorem dX13_closes_13 : decode cX13_closes 13 = .ok (.iload 4, 2) := by decide +kernel
theorem dX13_closes_15 : decode cX13_closes 15 = .ok (.aload_n 0, 1) := by decide +kernel
theorem dX13_closes_16 : decode cX13_closes 16 = .ok (.getfield 13, 3) := by decide +kernel
theorem dX13_closes_19 : decode cX13_closes 19 = .ok (.iload_n 1, 1) := by decide +kernel
theorem dX13_closes_20 : decode cX13_closes 20 = .ok (.iaload, 1) := by decide +kernel
theorem dX13_closes_21 : decode cX13_closes 21 = .ok (.if_icmp .ge 37, 3) := by decide +kernel
theorem dX13_closes_24 : decode cX13_closes 24 = .ok (.aload_n 0, 1) := by decide +kernel
theorem dX13_closes_25 : decode cX13_closes 25 = .ok (.getfield 7, 3) := by decide +kernel
theorem dX13_closes_28 : decode cX13_closes 28 = .ok (.sipush 400, 3) := by decide +kernel
theorem dX13_closes_31 : decode cX13_closes 31 = .ok (.iload_n 1, 1) := by decide +kernel
theorem dX13_closes_32 : decode cX13_closes 32 = .ok (.imul, 1) := by decide +kernel
theorem dX13_closes_33 : decode cX13_closes 33 = .ok (.iload 4, 2) := by decide +kernel
theorem dX13_closes_35 : decode cX13_closes 35 = .ok (.iadd, 1) := by decide +kernel
theorem dX13_closes_36 : decode cX13_closes 36 = .ok (.aload_n 0, 1) := by decide +kernel
theorem dX13_closes_37 : decode cX13_closes 37 = .ok (.getfield 7, 3) := by decide +kernel
theorem dX13_closes_40 : decode cX13_closes 40 = .ok (.sipush 400, 3) := by decide +kernel
theorem dX13_closes_43 : decode cX13_closes 43 = .ok (.iload_n 1, 1) := by decide +kernel
theorem dX13_closes_44 : decode cX13_closes 44 = .ok (.imul, 1) := by decide +kernel
theorem dX13_closes_45 : decode cX13_closes 45 = .ok (.iload 4, 2) := by decide +kernel
theorem dX13_closes_47 : decode cX13_closes 47 = .ok (.iadd, 1) := by decide +kernel
theorem dX13_closes_48 : decode cX13_closes 48 = .ok (.iload_n 3, 1) := by decide +kernel
theorem dX13_closes_49 : decode cX13_closes 49 = .ok (.iadd, 1) := by decide +kernel
theorem dX13_closes_50 : decode cX13_closes 50 = .ok (.iaload, 1) := by decide +kernel
theorem dX13_closes_51 : decode cX13_closes 51 = .ok (.iastore, 1) := by decide +kernel
theorem dX13_closes_52 : decode cX13_closes 52 = .ok (.iinc 4 1, 3) := by decide +kernel
theorem dX13_closes_55 : decode cX13_closes 55 = .ok (.goto (-42), 3) := by decide +kernel
theorem dX13_closes_58 : decode cX13_closes 58 = .ok (.bipush 6, 2) := by decide +kernel
theorem dX13_closes_60 : decode cX13_closes 60 = .ok (.iload_n 1, 1) := by decide +kernel
theorem dX13_closes_61 : decode cX13_closes 61 = .ok (.imul, 1) := by decide +kernel
theorem dX13_closes_62 : decode cX13_closes 62 = .ok (.istore 4, 2) := by decide +kernel
theorem dX13_closes_64 : decode cX13_closes 64 = .ok (.iload 4, 2) := by decide +kernel
theorem dX13_closes_66 : decode cX13_closes 66 = .ok (.bipush 6, 2) := by decide +kernel
theorem dX13_closes_68 : decode cX13_closes 68 = .ok (.iload_n 1, 1) := by decide +kernel
theorem dX13_closes_69 : decode cX13_closes 69 = .ok (.imul, 1) := by decide +kernel
theorem dX13_closes_70 : decode cX13_closes 70 = .ok (.bipush 6, 2) := by decide +kernel
theorem dX13_closes_72 : decode cX13_closes 72 = .ok (.iadd, 1) := by decide +kernel
theorem dX13_closes_73 : decode cX13_closes 73 = .ok (.if_icmp .ge 28, 3) := by decide +kernel
theorem dX13_closes_76 : decode cX13_closes 76 = .ok (.aload_n 0, 1) := by decide +kernel
theorem dX13_closes_77 : decode cX13_closes 77 = .ok (.getfield 16, 3) := by decide +kernel
theorem dX13_closes_80 : decode cX13_closes 80 = .ok (.iload 4, 2) := by decide +kernel
theorem dX13_closes_82 : decode cX13_closes 82 = .ok (.aload_n 0, 1) := by decide +kernel
theorem dX13_closes_83 : decode cX13_closes 83 = .ok (.getfield 16, 3) := by decide +kernel
theorem dX13_closes_86 : decode cX13_closes 86 = .ok (.iload 4, 2) := by decide +kernel
theorem dX13_closes_88 : decode cX13_closes 88 = .ok (.iaload, 1) := by decide +kernel
theorem dX13_closes_89 : decode cX13_closes 89 = .ok (.iload_n 2, 1) := by decide +kernel
theorem dX13_closes_90 : decode cX13_closes 90 = .ok (.iload_n 3, 1) := by decide +kernel
theorem dX13_closes_91 : decode cX13_closes 91 = .ok (.invokestatic 199, 3) := by decide +kernel
theorem dX13_closes_94 : decode cX13_closes 94 = .ok (.iastore, 1) := by decide +kernel
theorem dX13_closes_95 : decode cX13_closes 95 = .ok (.iinc 4 1, 3) := by decide +kernel
theorem dX13_closes_98 : decode cX13_closes 98 = .ok (.goto (-34), 3) := by decide +kernel
theorem dX13_closes_101 : decode cX13_closes 101 = .ok (.iconst 0, 1) := by decide +kernel
theorem dX13_closes_102 : decode cX13_closes 102 = .ok (.istore 4, 2) := by decide +kernel
theorem dX13_closes_104 : decode cX13_closes 104 = .ok (.iload 4, 2) := by decide +kernel
theorem dX13_closes_106 : decode cX13_closes 106 = .ok (.aload_n 0, 1) := by decide +kernel
theorem dX13_closes_107 : decode cX13_closes 107 = .ok (.getfield 40, 3) := by decide +kernel
theorem dX13_closes_110 : decode cX13_closes 110 = .ok (.iconst 0, 1) := by decide +kernel
theorem dX13_closes_111 : decode cX13_closes 111 = .ok (.iaload, 1) := by decide +kernel
theorem dX13_closes_112 : decode cX13_closes 112 = .ok (.if_icmp .ge 51, 3) := by decide +kernel
theorem dX13_closes_115 : decode cX13_closes 115 = .ok (.iload_n 1, 1) := by decide +kernel
theorem dX13_closes_116 : decode cX13_closes 116 = .ok (.ifCond .ne 47, 3) := by decide +kernel
theorem dX13_closes_119 : decode cX13_closes 119 = .ok (.aload_n 0, 1) := by decide +kernel
theorem dX13_closes_120 : decode cX13_closes 120 = .ok (.getfield 34, 3) := by decide +kernel
theorem dX13_closes_123 : decode cX13_closes 123 = .ok (.iload 4, 2) := by decide +kernel
theorem dX13_closes_125 : decode cX13_closes 125 = .ok (.aload_n 0, 1) := by decide +kernel
theorem dX13_closes_126 : decode cX13_closes 126 = .ok (.getfield 34, 3) := by decide +kernel
theorem dX13_closes_129 : decode cX13_closes 129 = .ok (.iload 4, 2) := by decide +kernel
theorem dX13_closes_131 : decode cX13_closes 131 = .ok (.iaload, 1) := by decide +kernel
theorem dX13_closes_132 : decode cX13_closes 132 = .ok (.iload_n 2, 1) := by decide +kernel
theorem dX13_closes_133 : decode cX13_closes 133 = .ok (.iload_n 3, 1) := by decide +kernel
theorem dX13_closes_134 : decode cX13_closes 134 = .ok (.invokestatic 199, 3) := by decide +kernel
theorem dX13_closes_137 : decode cX13_closes 137 = .ok (.iastore, 1) := by decide +kernel
theorem dX13_closes_138 : decode cX13_closes 138 = .ok (.aload_n 0, 1) := by decide +kernel
theorem dX13_closes_139 : decode cX13_closes 139 = .ok (.getfield 37, 3) := by decide +kernel
theorem dX13_closes_142 : decode cX13_closes 142 = .ok (.iload 4, 2) := by decide +kernel
theorem dX13_closes_144 : decode cX13_closes 144 = .ok (.aload_n 0, 1) := by decide +kernel
theorem dX13_closes_145 : decode cX13_closes 145 = .ok (.getfield 37, 3) := by decide +kernel
theorem dX13_closes_148 : decode cX13_closes 148 = .ok (.iload 4, 2) := by decide +kernel
theorem dX13_closes_150 : decode cX13_closes 150 = .ok (.iaload, 1) := by decide +kernel
theorem dX13_closes_151 : decode cX13_closes 151 = .ok (.iload_n 2, 1) := by decide +kernel
theorem dX13_closes_152 : decode cX13_closes 152 = .ok (.iload_n 3, 1) := by decide +kernel
theorem dX13_closes_153 : decode cX13_closes 153 = .ok (.invokestatic 199, 3) := by decide +kernel
theorem dX13_closes_156 : decode cX13_closes 156 = .ok (.iastore, 1) := by decide +kernel
theorem dX13_closes_157 : decode cX13_closes 157 = .ok (.iinc 4 1, 3) := by decide +kernel
theorem dX13_closes_160 : decode cX13_closes 160 = .ok (.goto (-56), 3) := by decide +kernel
theorem dX13_closes_163 : decode cX13_closes 163 = .ok (.return_, 1) := by decide +kernel
set_option maxRecDepth 4000 in
theorem c_closes (γ : LC) (μ : MU) (w : Mm) (s q k : Int) (hs : s = 0 ∨ s = 1) (hq : 0 ≤ q ∧ q + k ≤ w 201 0 s) (hk : 0 ≤ k ∧ w 201 0 s ≤ 400) (hmk : bM s w) (hv : 0 ≤ w 210 0 0 ∧ w 210 0 0 ≤ 4) (he : bE w) : CMv γ μ 1 mX13_closes [.int (I s), .int (I q), .int (I k)] w (fun w' => w' = m_closes s q k w) := by
  refine CMv_of rfl (by simp [rv_cat, Value.category]) rfl ?_
  rintro κ hO hF rfl hR
  have hD := hF.dp
  show X κ 0 0 w 0 [some (rv μ.1), some (.int (I s)), some (.int (I q)), some (.int (I k)), none] []
  refine X_aload_n 1 hO dX13_closes_0 rfl rfl ?_
  refine ga_13 4 hO hR dX13_closes_1 rfl ?_
  refine X_iload_n 5 hO dX13_closes_4 rfl rfl ?_
  refine X_dup2 6 hO dX13_closes_5 rfl (by first | rfl | exact rv_cat _) (by first | rfl | exact rv_cat _) ?_
  refine ma_ld (L := 4) (c := 201) 7 hO hR rfl rfl rfl dX13_closes_6 rfl (by omega) (by omega) (fun hi_6 => ?_)
  refine X_iload_n 8 hO dX13_closes_7 rfl rfl ?_
  refine X_isub 9 hO dX13_closes_8 rfl ?_
  refine ma_st (L := 4) (c := 201) 10 hO hR rfl rfl rfl dX13_closes_9 rfl (by omega) (by omega) (by omega) (fun hR => ?_)
  refine X_iload_n 11 hO dX13_closes_10 rfl rfl ?_
  refine X_istore 13 hO dX13_closes_11 rfl rfl ?_
  have LP13 : ∀ (n : Nat) (i : Int), (w 201 0 s - k - i).toNat < n → (q ≤ i ∧ i ≤ w 201 0 s - k) → RM ((fl (up w 201 0 s (w 201 0 s - k)) 200 (400 * s + q) (i - q) (fun i => w 200 0 (i + k)))) μ → X κ 0 0 ((fl (up w 201 0 s (w 201 0 s - k)) 200 (400 * s + q) (i - q) (fun i => w 200 0 (i + k)))) 13 [some (rv μ.1), some (.int (I s)), some (.int (I q)), some (.int (I k)), some (.int (I i))] [] := by
    intro n
    induction n with
    | zero => intro i hm; exact absurd hm (Nat.not_lt_zero _)
    | succ n ih =>
      intro i hm hi hR
      have el : (fl (up w 201 0 s (w 201 0 s - k)) 200 (400 * s + q) (i - q) (fun i => w 200 0 (i + k))) 201 0 s = w 201 0 s - k := by simp [fl, up]
      refine X_iload 15 hO dX13_closes_13 rfl rfl ?_
      refine X_aload_n 16 hO dX13_closes_15 rfl rfl ?_
      refine ga_13 19 hO hR dX13_closes_16 rfl ?_
      refine X_iload_n 20 hO dX13_closes_19 rfl rfl ?_
      refine ma_ld (L := 4) (c := 201) 21 hO hR rfl rfl rfl dX13_closes_20 rfl (by omega) (by omega) (fun hi_20 => ?_)
      refine X_icmp_ge 24 58 hO dX13_closes_21 rfl rfl (by omega) (by omega) (fun hc_21 => ?_) (fun hc_21 => ?_)
      ·
        have e4 : i = w 201 0 s - k := by omega
        subst e4
        refine X_bipush 60 hO dX13_closes_58 rfl (by decide) ?_
        refine X_iload_n 61 hO dX13_closes_60 rfl rfl ?_
        refine X_imul 62 hO dX13_closes_61 rfl ?_
        refine X_istore 64 hO dX13_closes_62 rfl rfl ?_
        have LP64 : ∀ (n : Nat) (i : Int), (6 * s + 6 - i).toNat < n → (6 * s ≤ i ∧ i ≤ 6 * s + 6) → RM ((fl (fl (up w 201 0 s (w 201 0 s - k)) 200 (400 * s + q) (w 201 0 s - k - q) (fun i => w 200 0 (i + k))) 202 (6 * s) (i - 6 * s) (fun i => dbF (w 202 0 i) q k))) μ → X κ 0 0 ((fl (fl (up w 201 0 s (w 201 0 s - k)) 200 (400 * s + q) (w 201 0 s - k - q) (fun i => w 200 0 (i + k))) 202 (6 * s) (i - 6 * s) (fun i => dbF (w 202 0 i) q k))) 64 [some (rv μ.1), some (.int (I s)), some (.int (I q)), some (.int (I k)), some (.int (I i))] [] := by
          intro n
          induction n with
          | zero => intro i hm; exact absurd hm (Nat.not_lt_zero _)
          | succ n ih =>
            intro i hm hi hR
            refine X_iload 66 hO dX13_closes_64 rfl rfl ?_
            refine X_bipush 68 hO dX13_closes_66 rfl (by decide) ?_
            refine X_iload_n 69 hO dX13_closes_68 rfl rfl ?_
            refine X_imul 70 hO dX13_closes_69 rfl ?_
            refine X_bipush 72 hO dX13_closes_70 rfl (by decide) ?_
            refine X_iadd 73 hO dX13_closes_72 rfl ?_
            refine X_icmp_ge 76 101 hO dX13_closes_73 rfl rfl (by omega) (by omega) (fun hc_73 => ?_) (fun hc_73 => ?_)
            ·
              have e4 : i = 6 * s + 6 := by omega
              subst e4
              refine X_eqR hR (w2 := (fl (fl (up w 201 0 s (w 201 0 s - k)) 200 (400 * s + q) (w 201 0 s - k - q) (fun i => w 200 0 (i + k))) 202 (6 * s) (6) (fun i => dbF (w 202 0 i) q k))) (by congr 1; omega) (fun hR => ?_)
              refine X_iconst 102 hO dX13_closes_101 rfl ?_
              refine X_istore 104 hO dX13_closes_102 rfl rfl ?_
              have LP104 : ∀ (n : Nat) (i : Int), ((if s = 0 then w 210 0 0 else 0) - i).toNat < n → (0 ≤ i ∧ i ≤ (if s = 0 then w 210 0 0 else 0)) → RM ((fl (fl (fl (fl (up w 201 0 s (w 201 0 s - k)) 200 (400 * s + q) (w 201 0 s - k - q) (fun i => w 200 0 (i + k))) 202 (6 * s) (6) (fun i => dbF (w 202 0 i) q k)) 208 0 (i) (fun i => dbF (w 208 0 i) q k)) 209 0 (i) (fun i => dbF (w 209 0 i) q k))) μ → X κ 0 0 ((fl (fl (fl (fl (up w 201 0 s (w 201 0 s - k)) 200 (400 * s + q) (w 201 0 s - k - q) (fun i => w 200 0 (i + k))) 202 (6 * s) (6) (fun i => dbF (w 202 0 i) q k)) 208 0 (i) (fun i => dbF (w 208 0 i) q k)) 209 0 (i) (fun i => dbF (w 209 0 i) q k))) 104 [some (rv μ.1), some (.int (I s)), some (.int (I q)), some (.int (I k)), some (.int (I i))] [] := by
                intro n
                induction n with
                | zero => intro i hm; exact absurd hm (Nat.not_lt_zero _)
                | succ n ih =>
                  intro i hm hi hR
                  have hn0 : (fl (fl (fl (fl (up w 201 0 s (w 201 0 s - k)) 200 (400 * s + q) (w 201 0 s - k - q) (fun i => w 200 0 (i + k))) 202 (6 * s) (6) (fun i => dbF (w 202 0 i) q k)) 208 0 (i) (fun i => dbF (w 208 0 i) q k)) 209 0 (i) (fun i => dbF (w 209 0 i) q k)) 210 0 0 = w 210 0 0 := by simp only [fl, up]; repeat rw [if_neg (by omega)]
                  refine X_iload 106 hO dX13_closes_104 rfl rfl ?_
                  refine X_aload_n 107 hO dX13_closes_106 rfl rfl ?_
                  refine ga_40 110 hO hR dX13_closes_107 rfl ?_
                  refine X_iconst 111 hO dX13_closes_110 rfl ?_
                  refine ma_ld (L := 4) (c := 210) 112 hO hR rfl rfl rfl dX13_closes_111 rfl (by omega) (by omega) (fun hi_111 => ?_)
                  refine X_icmp_ge 115 163 hO dX13_closes_112 rfl rfl (by omega) (by omega) (fun hc_112 => ?_) (fun hc_112 => ?_)
                  ·
                    have e4 : i = (if s = 0 then w 210 0 0 else 0) := by clear ih hmk he; grind
                    subst e4
                    exact XM_vret hO hF hR rfl dX13_closes_163 rfl
                  ·
                    refine X_iload_n 116 hO dX13_closes_115 rfl rfl ?_
                    refine X_if_ne 119 163 hO dX13_closes_116 rfl rfl (by omega) (fun hc_116 => ?_) (fun hc_116 => ?_)
                    ·
                      have e4 : i = (if s = 0 then w 210 0 0 else 0) := by clear ih hmk he; grind
                      subst e4
                      exact XM_vret hO hF hR rfl dX13_closes_163 rfl
                    ·
                      have hs0 : s = 0 := by omega
                      have ev : (fl (fl (fl (fl (up w 201 0 s (w 201 0 s - k)) 200 (400 * s + q) (w 201 0 s - k - q) (fun i => w 200 0 (i + k))) 202 (6 * s) (6) (fun i => dbF (w 202 0 i) q k)) 208 0 (i) (fun i => dbF (w 208 0 i) q k)) 209 0 (i) (fun i => dbF (w 209 0 i) q k)) 208 0 i = w 208 0 i := by simp only [fl, up]; repeat rw [if_neg (by omega)]
                      have eg : (fl (fl (fl (fl (up w 201 0 s (w 201 0 s - k)) 200 (400 * s + q) (w 201 0 s - k - q) (fun i => w 200 0 (i + k))) 202 (6 * s) (6) (fun i => dbF (w 202 0 i) q k)) 208 0 (i) (fun i => dbF (w 208 0 i) q k)) 209 0 (i) (fun i => dbF (w 209 0 i) q k)) 209 0 i = w 209 0 i := by simp only [fl, up]; repeat rw [if_neg (by omega)]
                      have hb := he i (by omega) (by omega)
                      refine X_aload_n 120 hO dX13_closes_119 rfl rfl ?_
                      refine ga_34 123 hO hR dX13_closes_120 rfl ?_
                      refine X_iload 125 hO dX13_closes_123 rfl rfl ?_
                      refine X_aload_n 126 hO dX13_closes_125 rfl rfl ?_
                      refine ga_34 129 hO hR dX13_closes_126 rfl ?_
                      refine X_iload 131 hO dX13_closes_129 rfl rfl ?_
                      refine ma_ld (L := 16) (c := 208) 132 hO hR rfl rfl rfl dX13_closes_131 rfl (by omega) (by omega) (fun hi_131 => ?_)
                      refine X_iload_n 133 hO dX13_closes_132 rfl rfl ?_
                      refine X_iload_n 134 hO dX13_closes_133 rfl rfl ?_
                      refine XM_callSi 137 hO hD lX13_199 [_, _, _] rfl dX13_closes_134 rfl (c_drawnBack _ _ _ _ _ (by omega) (by omega) (by omega) (by omega)) (by decide) (by simp only [List.map_cons, List.map_nil, rv_cat]; exact Nat.le_of_ble_eq_true rfl) (fun r_134 hr_134 hp_134 => ?_)
                      subst hp_134
                      refine ma_st (L := 16) (c := 208) 138 hO hR rfl rfl rfl dX13_closes_137 rfl (by omega) (by omega) (by omega) (fun hR => ?_)
                      refine X_aload_n 139 hO dX13_closes_138 rfl rfl ?_
                      refine ga_37 142 hO hR dX13_closes_139 rfl ?_
                      refine X_iload 144 hO dX13_closes_142 rfl rfl ?_
                      refine X_aload_n 145 hO dX13_closes_144 rfl rfl ?_
                      refine ga_37 148 hO hR dX13_closes_145 rfl ?_
                      refine X_iload 150 hO dX13_closes_148 rfl rfl ?_
                      refine ma_ld (L := 16) (c := 209) 151 hO hR rfl rfl rfl dX13_closes_150 rfl (by omega) (by omega) (fun hi_150 => ?_)
                      refine X_iload_n 152 hO dX13_closes_151 rfl rfl ?_
                      refine X_iload_n 153 hO dX13_closes_152 rfl rfl ?_
                      rw [up_k _ (show (209 : Nat) ≠ 208 by decide), eg]
                      refine XM_callSi 156 hO hD lX13_199 [_, _, _] rfl dX13_closes_153 rfl (c_drawnBack _ _ _ _ _ (by omega) (by omega) (by omega) (by omega)) (by decide) (by simp only [List.map_cons, List.map_nil, rv_cat]; exact Nat.le_of_ble_eq_true rfl) (fun r_153 hr_153 hp_153 => ?_)
                      subst hp_153
                      refine ma_st (L := 16) (c := 209) 157 hO hR rfl rfl rfl dX13_closes_156 rfl (by omega) (by omega) (by omega) (fun hR => ?_)
                      refine X_iinc 160 hO dX13_closes_157 rfl rfl ?_
                      refine X_goto hO dX13_closes_160 (tgt := 104) rfl ?_
                      exact X_eqR hR (fl_stp2 (by decide) (by omega) rfl (by omega) (by clear ih; simp only [ev, eg]) (by omega) rfl (by omega) (by clear ih; simp only [ev, eg])) (fun hR => ih (i + 1) (by omega) (by omega) hR)
              exact X_eqR hR (by rw [fl_0, fl_0]) (fun hR => LP104 _ 0 (Nat.lt_succ_self _) (by constructor <;> (try split) <;> omega) hR)
            ·
              have ev : (fl (fl (up w 201 0 s (w 201 0 s - k)) 200 (400 * s + q) (w 201 0 s - k - q) (fun i => w 200 0 (i + k))) 202 (6 * s) (i - 6 * s) (fun i => dbF (w 202 0 i) q k)) 202 0 i = w 202 0 i := by simp only [fl, up]; repeat rw [if_neg (by omega)]
              have hb := hmk i (by omega) (by omega)
              refine X_aload_n 77 hO dX13_closes_76 rfl rfl ?_
              refine ga_16 80 hO hR dX13_closes_77 rfl ?_
              refine X_iload 82 hO dX13_closes_80 rfl rfl ?_
              refine X_aload_n 83 hO dX13_closes_82 rfl rfl ?_
              refine ga_16 86 hO hR dX13_closes_83 rfl ?_
              refine X_iload 88 hO dX13_closes_86 rfl rfl ?_
              refine ma_ld (L := 24) (c := 202) 89 hO hR rfl rfl rfl dX13_closes_88 rfl (by omega) (by omega) (fun hi_88 => ?_)
              refine X_iload_n 90 hO dX13_closes_89 rfl rfl ?_
              refine X_iload_n 91 hO dX13_closes_90 rfl rfl ?_
              refine XM_callSi 94 hO hD lX13_199 [_, _, _] rfl dX13_closes_91 rfl (c_drawnBack _ _ _ _ _ (by omega) (by omega) (by omega) (by omega)) (by decide) (by simp only [List.map_cons, List.map_nil, rv_cat]; exact Nat.le_of_ble_eq_true rfl) (fun r_91 hr_91 hp_91 => ?_)
              subst hp_91
              refine ma_st (L := 24) (c := 202) 95 hO hR rfl rfl rfl dX13_closes_94 rfl (by omega) (by omega) (by omega) (fun hR => ?_)
              refine X_iinc 98 hO dX13_closes_95 rfl rfl ?_
              refine X_goto hO dX13_closes_98 (tgt := 64) rfl ?_
              exact X_eqR hR (fl_stp (by omega) (by omega) (by omega) (by clear ih; simp only [ev])) (fun hR => ih (i + 1) (by omega) (by omega) hR)
        exact X_eqR hR (fl_00 (by omega)) (fun hR => LP64 _ (6 * s) (Nat.lt_succ_self _) (by omega) hR)
      ·
        refine X_aload_n 25 hO dX13_closes_24 rfl rfl ?_
        refine ga_7 28 hO hR dX13_closes_25 rfl ?_
        refine X_sipush 31 hO dX13_closes_28 rfl (by decide) ?_
        refine X_iload_n 32 hO dX13_closes_31 rfl rfl ?_
        refine X_imul 33 hO dX13_closes_32 rfl ?_
        refine X_iload 35 hO dX13_closes_33 rfl rfl ?_
        refine X_iadd 36 hO dX13_closes_35 rfl ?_
        refine X_aload_n 37 hO dX13_closes_36 rfl rfl ?_
        refine ga_7 40 hO hR dX13_closes_37 rfl ?_
        refine X_sipush 43 hO dX13_closes_40 rfl (by decide) ?_
        refine X_iload_n 44 hO dX13_closes_43 rfl rfl ?_
        refine X_imul 45 hO dX13_closes_44 rfl ?_
        refine X_iload 47 hO dX13_closes_45 rfl rfl ?_
        refine X_iadd 48 hO dX13_closes_47 rfl ?_
        refine X_iload_n 49 hO dX13_closes_48 rfl rfl ?_
        refine X_iadd 50 hO dX13_closes_49 rfl ?_
        refine ma_ld (L := 1600) (c := 200) 51 hO hR rfl rfl rfl dX13_closes_50 rfl (by omega) (by omega) (fun hi_50 => ?_)
        refine ma_st (L := 1600) (c := 200) 52 hO hR rfl rfl rfl dX13_closes_51 rfl (by omega) (by omega) (by omega) (fun hR => ?_)
        refine X_iinc 55 hO dX13_closes_52 rfl rfl ?_
        refine X_goto hO dX13_closes_55 (tgt := 13) rfl ?_
        exact X_eqR hR (fl_stp (by omega) (by omega) (by omega) (by clear ih; grind [fl, up])) (fun hR => ih (i + 1) (by omega) (by omega) hR)
  exact X_eqR hR (fl_00 (by omega)) (fun hR => LP13 _ q (Nat.lt_succ_self _) (by omega) hR)
theorem dX13_deletes_0 : decode cX13_deletes 0 = .ok (.aload_n 0, 1) := by decide +kernel
theorem dX13_deletes_1 : decode cX13_deletes 1 = .ok (.iconst 0, 1) := by decide +kernel
theorem dX13_deletes_2 : decode cX13_deletes 2 = .ok (.iload_n 1, 1) := by decide +kernel
theorem dX13_deletes_3 : decode cX13_deletes 3 = .ok (.iload_n 2, 1) := by decide +kernel
theorem dX13_deletes_4 : decode cX13_deletes 4 = .ok (.invokevirtual 212, 3) := by decide +kernel
theorem dX13_deletes_7 : decode cX13_deletes 7 = .ok (.aload_n 0, 1) := by decide +kernel
theorem dX13_deletes_8 : decode cX13_deletes 8 = .ok (.iconst 1, 1) := by decide +kernel
theorem dX13_deletes_9 : decode cX13_deletes 9 = .ok (.iload_n 1, 1) := by decide +kernel
theorem dX13_deletes_10 : decode cX13_deletes 10 = .ok (.iload_n 2, 1) := by decide +kernel
theorem dX13_deletes_11 : decode cX13_deletes 11 = .ok (.invokevirtual 206, 3) := by decide +kernel
theorem dX13_deletes_14 : decode cX13_deletes 14 = .ok (.return_, 1) := by decide +kernel
set_option maxRecDepth 4000 in
theorem c_deletes (γ : LC) (μ : MU) (w : Mm) (q k : Int) (hq : 0 ≤ q ∧ q + k ≤ w 201 0 0) (hk : 0 ≤ k ∧ w 201 0 0 ≤ 400) (hmk : bM 0 w) (hv : 0 ≤ w 210 0 0 ∧ w 210 0 0 ≤ 4) (he : bE w) (hst : 0 ≤ w 120 μ.1 0 ∧ w 120 μ.1 0 < 30000) : CMv γ μ 2 mX13_deletes [.int (I q), .int (I k)] w (fun w' => w' = m_del μ q k w) := by
  refine CMv_of rfl (by simp [rv_cat, Value.category]) rfl ?_
  rintro κ hO hF rfl hR
  have hD := hF.dp
  show X κ 0 0 w 0 [some (rv μ.1), some (.int (I q)), some (.int (I k))] []
  refine X_aload_n 1 hO dX13_deletes_0 rfl rfl ?_
  refine X_iconst 2 hO dX13_deletes_1 rfl ?_
  refine X_iload_n 3 hO dX13_deletes_2 rfl rfl ?_
  refine X_iload_n 4 hO dX13_deletes_3 rfl rfl ?_
  refine XM_callVv 7 hO hD hR lX13_212 [_, _, _] rfl dX13_deletes_4 rfl (c_closes _ _ _ _ _ _ (Or.inl rfl) (by omega) (by omega) hmk hv he) (by decide) (by simp only [List.map_cons, List.map_nil, rv_cat]; exact Nat.le_of_ble_eq_true rfl) (fun w_4 hp_4 hR => ?_)
  subst hp_4
  refine X_aload_n 8 hO dX13_deletes_7 rfl rfl ?_
  refine X_iconst 9 hO dX13_deletes_8 rfl ?_
  refine X_iload_n 10 hO dX13_deletes_9 rfl rfl ?_
  refine X_iload_n 11 hO dX13_deletes_10 rfl rfl ?_
  refine XM_callVv 14 hO hD hR lX13_206 [_, _, _] rfl dX13_deletes_11 rfl (c_steps _ _ _ _ _ _ (by rw [closes_at (by decide)]; exact hst) (by omega) (by omega) (by omega)) (by decide) (by simp only [List.map_cons, List.map_nil, rv_cat]; exact Nat.le_of_ble_eq_true rfl) (fun w_11 hp_11 hR => ?_)
  subst hp_11
  exact XM_vret hO hF hR rfl dX13_deletes_14 rfl
theorem dX13_replaces_0 : decode cX13_replaces 0 = .ok (.aload_n 0, 1) := by decide +kernel
theorem dX13_replaces_1 : decode cX13_replaces 1 = .ok (.getfield 7, 3) := by decide +kernel
theorem dX13_replaces_4 : decode cX13_replaces 4 = .ok (.iload_n 1, 1) := by decide +kernel
theorem dX13_replaces_5 : decode cX13_replaces 5 = .ok (.iload_n 2, 1) := by decide +kernel
theorem dX13_replaces_6 : decode cX13_replaces 6 = .ok (.iastore, 1) := by decide +kernel
theorem dX13_replaces_7 : decode cX13_replaces 7 = .ok (.aload_n 0, 1) := by decide +kernel
theorem dX13_replaces_8 : decode cX13_replaces 8 = .ok (.iconst 2, 1) := by decide +kernel
theorem dX13_replaces_9 : decode cX13_replaces 9 = .ok (.iload_n 1, 1) := by decide +kernel
theorem dX13_replaces_10 : decode cX13_replaces 10 = .ok (.iload_n 2, 1) := by decide +kernel
theorem dX13_replaces_11 : decode cX13_replaces 11 = .ok (.invokevirtual 206, 3) := by decide +kernel
theorem dX13_replaces_14 : decode cX13_replaces 14 = .ok (.return_, 1) := by decide +kernel
set_option maxRecDepth 4000 in
theorem c_replaces (γ : LC) (μ : MU) (w : Mm) (q c : Int) (hq : 0 ≤ q ∧ q < 400) (hc : 0 ≤ c ∧ c ≤ 126) (hst : 0 ≤ w 120 μ.1 0 ∧ w 120 μ.1 0 < 30000) : CMv γ μ 1 mX13_replaces [.int (I q), .int (I c)] w (fun w' => w' = m_rep μ q c w) := by
  refine CMv_of rfl (by simp [rv_cat, Value.category]) rfl ?_
  rintro κ hO hF rfl hR
  have hD := hF.dp
  show X κ 0 0 w 0 [some (rv μ.1), some (.int (I q)), some (.int (I c))] []
  refine X_aload_n 1 hO dX13_replaces_0 rfl rfl ?_
  refine ga_7 4 hO hR dX13_replaces_1 rfl ?_
  refine X_iload_n 5 hO dX13_replaces_4 rfl rfl ?_
  refine X_iload_n 6 hO dX13_replaces_5 rfl rfl ?_
  refine ma_st (L := 1600) (c := 200) 7 hO hR rfl rfl rfl dX13_replaces_6 rfl (by omega) (by omega) (by omega) (fun hR => ?_)
  refine X_aload_n 8 hO dX13_replaces_7 rfl rfl ?_
  refine X_iconst 9 hO dX13_replaces_8 rfl ?_
  refine X_iload_n 10 hO dX13_replaces_9 rfl rfl ?_
  refine X_iload_n 11 hO dX13_replaces_10 rfl rfl ?_
  refine XM_callVv 14 hO hD hR lX13_206 [_, _, _] rfl dX13_replaces_11 rfl (c_steps _ _ _ _ _ _ (by rw [up_k _ (by decide)]; exact hst) (by omega) (by omega) (by omega)) (by decide) (by simp only [List.map_cons, List.map_nil, rv_cat]; exact Nat.le_of_ble_eq_true rfl) (fun w_11 hp_11 hR => ?_)
  subst hp_11
  exact XM_vret hO hF hR rfl dX13_replaces_14 rfl
theorem dX13_inserts_0 : decode cX13_inserts 0 = .ok (.aload_n 0, 1) := by decide +kernel
theorem dX13_inserts_1 : decode cX13_inserts 1 = .ok (.iconst 0, 1) := by decide +kernel
theorem dX13_inserts_2 : decode cX13_inserts 2 = .ok (.iload_n 1, 1) := by decide +kernel
theorem dX13_inserts_3 : decode cX13_inserts 3 = .ok (.iload_n 2, 1) := by decide +kernel
theorem dX13_inserts_4 : decode cX13_inserts 4 = .ok (.invokevirtual 203, 3) := by decide +kernel
theorem dX13_inserts_7 : decode cX13_inserts 7 = .ok (.aload_n 0, 1) := by decide +kernel
theorem dX13_inserts_8 : decode cX13_inserts 8 = .ok (.iconst 0, 1) := by decide +kernel
theorem dX13_inserts_9 : decode cX13_inserts 9 = .ok (.iload_n 1, 1) := by decide +kernel
theorem dX13_inserts_10 : decode cX13_inserts 10 = .ok (.iload_n 2, 1) := by decide +kernel
theorem dX13_inserts_11 : decode cX13_inserts 11 = .ok (.invokevirtual 206, 3) := by decide +kernel
theorem dX13_inserts_14 : decode cX13_inserts 14 = .ok (.iconst 0, 1) := by decide +kernel
theorem dX13_inserts_15 : decode cX13_inserts 15 = .ok (.istore_n 3, 1) := by decide +kernel
theorem dX13_inserts_16 : decode cX13_inserts 16 = .ok (.iload_n 3, 1) := by decide +kernel
theorem dX13_inserts_17 : decode cX13_inserts 17 = .ok (.iload_n 2, 1) := by decide +kernel
theorem dX13_inserts_18 : decode cX13_inserts 18 = .ok (.if_icmp .ge 33, 3) := by decide +kernel
theorem dX13_inserts_21 : decode cX13_inserts 21 = .ok (.aload_n 0, 1) := by decide +kernel
theorem dX13_inserts_22 : decode cX13_inserts 22 = .ok (.getfield 7, 3) := by decide +kernel
theorem dX13_inserts_25 : decode cX13_inserts 25 = .ok (.iload_n 1, 1) := by decide +kernel
theorem dX13_inserts_26 : decode cX13_inserts 26 = .ok (.iload_n 3, 1) := by decide +kernel
theorem dX13_inserts_27 : decode cX13_inserts 27 = .ok (.iadd, 1) := by decide +kernel
theorem dX13_inserts_28 : decode cX13_inserts 28 = .ok (.aload_n 0, 1) := by decide +kernel
theorem dX13_inserts_29 : decode cX13_inserts 29 = .ok (.getfield 150, 3) := by decide +kernel
theorem dX13_inserts_32 : decode cX13_inserts 32 = .ok (.iload_n 3, 1) := by decide +kernel
theorem dX13_inserts_33 : decode cX13_inserts 33 = .ok (.iaload, 1) := by decide +kernel
theorem dX13_inserts_34 : decode cX13_inserts 34 = .ok (.iastore, 1) := by decide +kernel
theorem dX13_inserts_35 : decode cX13_inserts 35 = .ok (.aload_n 0, 1) := by decide +kernel
theorem dX13_inserts_36 : decode cX13_inserts 36 = .ok (.aload_n 0, 1) := by decide +kernel
theorem dX13_inserts_37 : decode cX13_inserts 37 = .ok (.getfield 150, 3) := by decide +kernel
theorem dX13_inserts_40 : decode cX13_inserts 40 = .ok (.iload_n 3, 1) := by decide +kernel
theorem dX13_inserts_41 : decode cX13_inserts 41 = .ok (.iaload, 1) := by decide +kernel
theorem dX13_inserts_42 : decode cX13_inserts 42 = .ok (.invokevirtual 208, 3) := by decide +kernel
theorem dX13_inserts_45 : decode cX13_inserts 45 = .ok (.iinc 3 1, 3) := by decide +kernel
theorem dX13_inserts_48 : decode cX13_inserts 48 = .ok (.goto (-32), 3) := by decide +kernel
theorem dX13_inserts_51 : decode cX13_inserts 51 = .ok (.return_, 1) := by decide +kernel
set_option maxRecDepth 4000 in
theorem c_inserts (γ : LC) (μ : MU) (w : Mm) (q k : Int) (hq : 0 ≤ q ∧ q ≤ w 201 0 0) (hk : 0 ≤ k ∧ w 201 0 0 + k ≤ 400) (hmk : bM 0 w) (hv : 0 ≤ w 210 0 0 ∧ w 210 0 0 ≤ 4) (he : bE w) (hst : 0 ≤ w 120 μ.1 0 ∧ w 120 μ.1 0 < 30000) (hp : 0 ≤ w 121 μ.1 0 ∧ w 121 μ.1 0 + k ≤ 524288) : CMv γ μ 2 mX13_inserts [.int (I q), .int (I k)] w (fun w' => w' = m_ins μ q k w) := by
  refine CMv_of rfl (by simp [rv_cat, Value.category]) rfl ?_
  rintro κ hO hF rfl hR
  have hD := hF.dp
  show X κ 0 0 w 0 [some (rv μ.1), some (.int (I q)), some (.int (I k)), none] []
  refine X_aload_n 1 hO dX13_inserts_0 rfl rfl ?_
  refine X_iconst 2 hO dX13_inserts_1 rfl ?_
  refine X_iload_n 3 hO dX13_inserts_2 rfl rfl ?_
  refine X_iload_n 4 hO dX13_inserts_3 rfl rfl ?_
  refine XM_callVv 7 hO hD hR lX13_203 [_, _, _] rfl dX13_inserts_4 rfl (c_opens _ _ _ _ _ _ (Or.inl rfl) (by omega) (by omega) hmk hv he) (by decide) (by simp only [List.map_cons, List.map_nil, rv_cat]; exact Nat.le_of_ble_eq_true rfl) (fun w_4 hp_4 hR => ?_)
  subst hp_4
  refine X_aload_n 8 hO dX13_inserts_7 rfl rfl ?_
  refine X_iconst 9 hO dX13_inserts_8 rfl ?_
  refine X_iload_n 10 hO dX13_inserts_9 rfl rfl ?_
  refine X_iload_n 11 hO dX13_inserts_10 rfl rfl ?_
  refine XM_callVv 14 hO hD hR lX13_206 [_, _, _] rfl dX13_inserts_11 rfl (c_steps _ _ _ _ _ _ (by rw [opens_at (by decide)]; exact hst) (by omega) (by omega) (by omega)) (by decide) (by simp only [List.map_cons, List.map_nil, rv_cat]; exact Nat.le_of_ble_eq_true rfl) (fun w_11 hp_11 hR => ?_)
  subst hp_11
  refine X_iconst 15 hO dX13_inserts_14 rfl ?_
  refine X_istore_n 16 hO dX13_inserts_15 rfl rfl ?_
  have LP16 : ∀ (n : Nat) (i : Nat), (k - i).toNat < n → ((i : Int) ≤ k) → RM ((m_poolN μ (fun i => w 240 0 i) i (fl (m_step μ 0 q k (m_opens 0 q k w)) 200 q i (fun i => w 240 0 (i - q))))) μ → X κ 0 0 ((m_poolN μ (fun i => w 240 0 i) i (fl (m_step μ 0 q k (m_opens 0 q k w)) 200 q i (fun i => w 240 0 (i - q))))) 16 [some (rv μ.1), some (.int (I q)), some (.int (I k)), some (.int (I i))] [] := by
    intro n
    induction n with
    | zero => intro i hm; exact absurd hm (Nat.not_lt_zero _)
    | succ n ih =>
      intro i hm hi hR
      have eb : (m_poolN μ (fun i => w 240 0 i) i (fl (m_step μ 0 q k (m_opens 0 q k w)) 200 q i (fun i => w 240 0 (i - q)))) 240 0 i = w 240 0 i := by rw [poolN_at (by decide)]; simp only [fl]; rw [if_neg (by omega), step_at (by decide), opens_at (by decide)]
      have en : (m_poolN μ (fun i => w 240 0 i) i (fl (m_step μ 0 q k (m_opens 0 q k w)) 200 q i (fun i => w 240 0 (i - q)))) 121 μ.1 0 = w 121 μ.1 0 + i := by rw [poolN_n]; simp only [fl]; rw [if_neg (by omega), step_at (by decide), opens_at (by decide)]
      refine X_iload_n 17 hO dX13_inserts_16 rfl rfl ?_
      refine X_iload_n 18 hO dX13_inserts_17 rfl rfl ?_
      refine X_icmp_ge 21 51 hO dX13_inserts_18 rfl rfl (by omega) (by omega) (fun hc_18 => ?_) (fun hc_18 => ?_)
      ·
        have e4 : k = i := by omega
        exact XM_vret hO hF hR rfl dX13_inserts_51 (by unfold m_ins; rw [e4]; rfl)
      ·
        refine X_aload_n 22 hO dX13_inserts_21 rfl rfl ?_
        refine ga_7 25 hO hR dX13_inserts_22 rfl ?_
        refine X_iload_n 26 hO dX13_inserts_25 rfl rfl ?_
        refine X_iload_n 27 hO dX13_inserts_26 rfl rfl ?_
        refine X_iadd 28 hO dX13_inserts_27 rfl ?_
        refine X_aload_n 29 hO dX13_inserts_28 rfl rfl ?_
        refine ga_150 32 hO hR dX13_inserts_29 rfl ?_
        refine X_iload_n 33 hO dX13_inserts_32 rfl rfl ?_
        refine ma_ld (L := 400) (c := 240) 34 hO hR rfl rfl rfl dX13_inserts_33 rfl (by omega) (by omega) (fun hi_33 => ?_)
        refine ma_st (L := 1600) (c := 200) 35 hO hR rfl rfl rfl dX13_inserts_34 rfl (by omega) (by omega) (by omega) (fun hR => ?_)
        refine X_aload_n 36 hO dX13_inserts_35 rfl rfl ?_
        refine X_aload_n 37 hO dX13_inserts_36 rfl rfl ?_
        refine ga_150 40 hO hR dX13_inserts_37 rfl ?_
        refine X_iload_n 41 hO dX13_inserts_40 rfl rfl ?_
        refine ma_ld (L := 400) (c := 240) 42 hO hR rfl rfl rfl dX13_inserts_41 rfl (by omega) (by omega) (fun hi_41 => ?_)
        refine XM_callVv 45 hO hD hR lX13_208 [_] rfl dX13_inserts_42 rfl (c_pools _ _ _ _ (by rw [up_k _ (by decide), en]; omega)) (by decide) (by simp only [List.map_cons, List.map_nil, rv_cat]; exact Nat.le_of_ble_eq_true rfl) (fun w_42 hp_42 hR => ?_)
        subst hp_42
        refine X_iinc 48 hO dX13_inserts_45 rfl rfl ?_
        refine X_goto hO dX13_inserts_48 (tgt := 16) rfl ?_
        exact X_eqR hR (by rw [up_k _ (by decide), eb, poolN_up (by decide), fl_stp (n := i) (n' := ((i + 1 : Nat) : Int)) (by omega) (by omega) (by omega) (by congr 1; omega)]; rfl) (fun hR => ih (i + 1) (by omega) (by omega) hR)
  exact X_eqR hR (fl_00 (by omega)) (fun hR => LP16 _ 0 (Nat.lt_succ_self _) (by omega) hR)
theorem dX13_takes_0 : decode cX13_takes 0 = .ok (.aload_n 0, 1) := by decide +kernel
theorem dX13_takes_1 : decode cX13_takes 1 = .ok (.getfield 25, 3) := by decide +kernel
theorem dX13_takes_4 : decode cX13_takes 4 = .ok (.bipush 20, 2) := by decide +kernel
theorem dX13_takes_6 : decode cX13_takes 6 = .ok (.iload_n 1, 1) := by decide +kernel
theorem dX13_takes_7 : decode cX13_takes 7 = .ok (.imul, 1) := by decide +kernel
theorem dX13_takes_8 : decode cX13_takes 8 = .ok (.iconst 4, 1) := by decide +kernel
theorem dX13_takes_9 : decode cX13_takes 9 = .ok (.iload_n 2, 1) := by decide +kernel
theorem dX13_takes_10 : decode cX13_takes 10 = .ok (.imul, 1) := by decide +kernel
theorem dX13_takes_11 : decode cX13_takes 11 = .ok (.iadd, 1) := by decide +kernel
theorem dX13_takes_12 : decode cX13_takes 12 = .ok (.iload_n 3, 1) := by decide +kernel
theorem dX13_takes_13 : decode cX13_takes 13 = .ok (.iadd, 1) := by decide +kernel
theorem dX13_takes_14 : decode cX13_takes 14 = .ok (.iload 4, 2) := by decide +kernel
theorem dX13_takes_16 : decode cX13_takes 16 = .ok (.iastore, 1) := by decide +kernel
theorem dX13_takes_17 : decode cX13_takes 17 = .ok (.iconst 0, 1) := by decide +kernel
theorem dX13_takes_18 : decode cX13_takes 18 = .ok (.istore 5, 2) := by decide +kernel
theorem dX13_takes_20 : decode cX13_takes 20 = .ok (.iload 5, 2) := by decide +kernel
theorem dX13_takes_22 : decode cX13_takes 22 = .ok (.iload 4, 2) := by decide +kernel
theorem dX13_takes_24 : decode cX13_takes 24 = .ok (.if_icmp .ge 39, 3) := by decide +kernel
theorem dX13_takes_27 : decode cX13_takes 27 = .ok (.aload_n 0, 1) := by decide +kernel
theorem dX13_takes_28 : decode cX13_takes 28 = .ok (.getfield 28, 3) := by decide +kernel
theorem dX13_takes_31 : decode cX13_takes 31 = .ok (.sipush 400, 3) := by decide +kernel
theorem dX13_takes_34 : decode cX13_takes 34 = .ok (.iload_n 1, 1) := by decide +kernel
theorem dX13_takes_35 : decode cX13_takes 35 = .ok (.imul, 1) := by decide +kernel
theorem dX13_takes_36 : decode cX13_takes 36 = .ok (.bipush 80, 2) := by decide +kernel
theorem dX13_takes_38 : decode cX13_takes 38 = .ok (.iload_n 2, 1) := by decide +kernel
theorem dX13_takes_39 : decode cX13_takes 39 = .ok (.imul, 1) := by decide +kernel
theorem dX13_takes_40 : decode cX13_takes 40 = .ok (.iadd, 1) := by decide +kernel
theorem dX13_takes_41 : decode cX13_takes 41 = .ok (.bipush 20, 2) := by decide +kernel
theorem dX13_takes_43 : decode cX13_takes 43 = .ok (.iload_n 3, 1) := by decide +kernel
theorem dX13_takes_44 : decode cX13_takes 44 = .ok (.imul, 1) := by decide +kernel
theorem dX13_takes_45 : decode cX13_takes 45 = .ok (.iadd, 1) := by decide +kernel
theorem dX13_takes_46 : decode cX13_takes 46 = .ok (.iload 5, 2) := by decide +kernel
theorem dX13_takes_48 : decode cX13_takes 48 = .ok (.iadd, 1) := by decide +kernel
theorem dX13_takes_49 : decode cX13_takes 49 = .ok (.aload_n 0, 1) := by decide +kernel
theorem dX13_takes_50 : decode cX13_takes 50 = .ok (.getfield 150, 3) := by decide +kernel
theorem dX13_takes_53 : decode cX13_takes 53 = .ok (.iload 5, 2) := by decide +kernel
theorem dX13_takes_55 : decode cX13_takes 55 = .ok (.iaload, 1) := by decide +kernel
theorem dX13_takes_56 : decode cX13_takes 56 = .ok (.iastore, 1) := by decide +kernel
theorem dX13_takes_57 : decode cX13_takes 57 = .ok (.iinc 5 1, 3) := by decide +kernel
theorem dX13_takes_60 : decode cX13_takes 60 = .ok (.goto (-40), 3) := by decide +kernel
theorem dX13_takes_63 : decode cX13_takes 63 = .ok (.return_, 1) := by decide +kernel
set_option maxRecDepth 4000 in
theorem c_takes (γ : LC) (μ : MU) (w : Mm) (t s e k : Int) (ht : 0 ≤ t ∧ t ≤ 3) (hs : 0 ≤ s ∧ s ≤ 4) (he : 0 ≤ e ∧ e ≤ 3) (hk : 0 ≤ k ∧ k ≤ 20) : CMv γ μ 0 mX13_takes [.int (I t), .int (I s), .int (I e), .int (I k)] w (fun w' => w' = m_tak t s e k w) := by
  refine CMv_of rfl (by simp [rv_cat, Value.category]) rfl ?_
  rintro κ hO hF rfl hR
  have hD := hF.dp
  show X κ 0 0 w 0 [some (rv μ.1), some (.int (I t)), some (.int (I s)), some (.int (I e)), some (.int (I k)), none] []
  refine X_aload_n 1 hO dX13_takes_0 rfl rfl ?_
  refine ga_25 4 hO hR dX13_takes_1 rfl ?_
  refine X_bipush 6 hO dX13_takes_4 rfl (by decide) ?_
  refine X_iload_n 7 hO dX13_takes_6 rfl rfl ?_
  refine X_imul 8 hO dX13_takes_7 rfl ?_
  refine X_iconst 9 hO dX13_takes_8 rfl ?_
  refine X_iload_n 10 hO dX13_takes_9 rfl rfl ?_
  refine X_imul 11 hO dX13_takes_10 rfl ?_
  refine X_iadd 12 hO dX13_takes_11 rfl ?_
  refine X_iload_n 13 hO dX13_takes_12 rfl rfl ?_
  refine X_iadd 14 hO dX13_takes_13 rfl ?_
  refine X_iload 16 hO dX13_takes_14 rfl rfl ?_
  refine ma_st (L := 80) (c := 205) 17 hO hR rfl rfl rfl dX13_takes_16 rfl (by omega) (by omega) (by omega) (fun hR => ?_)
  refine X_iconst 18 hO dX13_takes_17 rfl ?_
  refine X_istore 20 hO dX13_takes_18 rfl rfl ?_
  have LP20 : ∀ (n : Nat) (i : Int), (k - i).toNat < n → (0 ≤ i ∧ i ≤ k) → RM ((fl (up w 205 0 (20 * t + 4 * s + e) k) 206 (400 * t + 80 * s + 20 * e) i (fun i => w 240 0 (i - (400 * t + 80 * s + 20 * e))))) μ → X κ 0 0 ((fl (up w 205 0 (20 * t + 4 * s + e) k) 206 (400 * t + 80 * s + 20 * e) i (fun i => w 240 0 (i - (400 * t + 80 * s + 20 * e))))) 20 [some (rv μ.1), some (.int (I t)), some (.int (I s)), some (.int (I e)), some (.int (I k)), some (.int (I i))] [] := by
    intro n
    induction n with
    | zero => intro i hm; exact absurd hm (Nat.not_lt_zero _)
    | succ n ih =>
      intro i hm hi hR
      refine X_iload 22 hO dX13_takes_20 rfl rfl ?_
      refine X_iload 24 hO dX13_takes_22 rfl rfl ?_
      refine X_icmp_ge 27 63 hO dX13_takes_24 rfl rfl (by omega) (by omega) (fun hc_24 => ?_) (fun hc_24 => ?_)
      ·
        have e4 : i = k := by omega
        subst e4
        exact XM_vret hO hF hR rfl dX13_takes_63 rfl
      ·
        refine X_aload_n 28 hO dX13_takes_27 rfl rfl ?_
        refine ga_28 31 hO hR dX13_takes_28 rfl ?_
        refine X_sipush 34 hO dX13_takes_31 rfl (by decide) ?_
        refine X_iload_n 35 hO dX13_takes_34 rfl rfl ?_
        refine X_imul 36 hO dX13_takes_35 rfl ?_
        refine X_bipush 38 hO dX13_takes_36 rfl (by decide) ?_
        refine X_iload_n 39 hO dX13_takes_38 rfl rfl ?_
        refine X_imul 40 hO dX13_takes_39 rfl ?_
        refine X_iadd 41 hO dX13_takes_40 rfl ?_
        refine X_bipush 43 hO dX13_takes_41 rfl (by decide) ?_
        refine X_iload_n 44 hO dX13_takes_43 rfl rfl ?_
        refine X_imul 45 hO dX13_takes_44 rfl ?_
        refine X_iadd 46 hO dX13_takes_45 rfl ?_
        refine X_iload 48 hO dX13_takes_46 rfl rfl ?_
        refine X_iadd 49 hO dX13_takes_48 rfl ?_
        refine X_aload_n 50 hO dX13_takes_49 rfl rfl ?_
        refine ga_150 53 hO hR dX13_takes_50 rfl ?_
        refine X_iload 55 hO dX13_takes_53 rfl rfl ?_
        refine ma_ld (L := 400) (c := 240) 56 hO hR rfl rfl rfl dX13_takes_55 rfl (by omega) (by omega) (fun hi_55 => ?_)
        refine ma_st (L := 1600) (c := 206) 57 hO hR rfl rfl rfl dX13_takes_56 rfl (by omega) (by omega) (by omega) (fun hR => ?_)
        refine X_iinc 60 hO dX13_takes_57 rfl rfl ?_
        refine X_goto hO dX13_takes_60 (tgt := 20) rfl ?_
        exact X_eqR hR (fl_stp (by omega) rfl (by omega) (by clear ih; grind [fl, up])) (fun hR => ih (i + 1) (by omega) (by omega) hR)
  exact X_eqR hR (fl_00 rfl) (fun hR => LP20 _ 0 (Nat.lt_succ_self _) (by omega) hR)
theorem dX13_movesEntry_0 : decode cX13_movesEntry 0 = .ok (.aload_n 0, 1) := by decide +kernel
theorem dX13_movesEntry_1 : decode cX13_movesEntry 1 = .ok (.getfield 25, 3) := by decide +kernel
theorem dX13_movesEntry_4 : decode cX13_movesEntry 4 = .ok (.bipush 20, 2) := by decide +kernel
theorem dX13_movesEntry_6 : decode cX13_movesEntry 6 = .ok (.iload_n 1, 1) := by decide +kernel
theorem dX13_movesEntry_7 : decode cX13_movesEntry 7 = .ok (.imul, 1) := by decide +kernel
theorem dX13_movesEntry_8 : decode cX13_movesEntry 8 = .ok (.bipush 16, 2) := by decide +kernel
theorem dX13_movesEntry_10 : decode cX13_movesEntry 10 = .ok (.iadd, 1) := by decide +kernel
theorem dX13_movesEntry_11 : decode cX13_movesEntry 11 = .ok (.iload_n 2, 1) := by decide +kernel
theorem dX13_movesEntry_12 : decode cX13_movesEntry 12 = .ok (.iadd, 1) := by decide +kernel
theorem dX13_movesEntry_13 : decode cX13_movesEntry 13 = .ok (.aload_n 0, 1) := by decide +kernel
theorem dX13_movesEntry_14 : decode cX13_movesEntry 14 = .ok (.getfield 25, 3) := by decide +kernel
theorem dX13_movesEntry_17 : decode cX13_movesEntry 17 = .ok (.bipush 20, 2) := by decide +kernel
theorem dX13_movesEntry_19 : decode cX13_movesEntry 19 = .ok (.iload_n 1, 1) := by decide +kernel
theorem dX13_movesEntry_20 : decode cX13_movesEntry 20 = .ok (.imul, 1) := by decide +kernel
theorem dX13_movesEntry_21 : decode cX13_movesEntry 21 = .ok (.bipush 16, 2) := by decide +kernel
theorem dX13_movesEntry_23 : decode cX13_movesEntry 23 = .ok (.iadd, 1) := by decide +kernel
theorem dX13_movesEntry_24 : decode cX13_movesEntry 24 = .ok (.iload_n 3, 1) := by decide +kernel
theorem dX13_movesEntry_25 : decode cX13_movesEntry 25 = .ok (.iadd, 1) := by decide +kernel
theorem dX13_movesEntry_26 : decode cX13_movesEntry 26 = .ok (.iaload, 1) := by decide +kernel
theorem dX13_movesEntry_27 : decode cX13_movesEntry 27 = .ok (.iastore, 1) := by decide +kernel
theorem dX13_movesEntry_28 : decode cX13_movesEntry 28 = .ok (.iconst 0, 1) := by decide +kernel
theorem dX13_movesEntry_29 : decode cX13_movesEntry 29 = .ok (.istore 4, 2) := by decide +kernel
theorem dX13_movesEntry_31 : decode cX13_movesEntry 31 = .ok (.iload 4, 2) := by decide +kernel
theorem dX13_movesEntry_33 : decode cX13_movesEntry 33 = .ok (.bipush 20, 2) := by decide +kernel
theorem dX13_movesEntry_35 : decode cX13_movesEntry 35 = .ok (.if_icmp .ge 53, 3) := by decide +kernel
theorem dX13_movesEntry_38 : decode cX13_movesEntry 38 = .ok (.aload_n 0, 1) := by decide +kernel
theorem dX13_movesEntry_39 : decode cX13_movesEntry 39 = .ok (.getfield 28, 3) := by decide +kernel
theorem dX13_movesEntry_42 : decode cX13_movesEntry 42 = .ok (.sipush 400, 3) := by decide +kernel
theorem dX13_movesEntry_45 : decode cX13_movesEntry 45 = .ok (.iload_n 1, 1) := by decide +kernel
theorem dX13_movesEntry_46 : decode cX13_movesEntry 46 = .ok (.imul, 1) := by decide +kernel
theorem dX13_movesEntry_47 : decode cX13_movesEntry 47 = .ok (.sipush 320, 3) := by decide +kernel
theorem dX13_movesEntry_50 : decode cX13_movesEntry 50 = .ok (.iadd, 1) := by decide +kernel
theorem dX13_movesEntry_51 : decode cX13_movesEntry 51 = .ok (.bipush 20, 2) := by decide +kernel
theorem dX13_movesEntry_53 : decode cX13_movesEntry 53 = .ok (.iload_n 2, 1) := by decide +kernel
theorem dX13_movesEntry_54 : decode cX13_movesEntry 54 = .ok (.imul, 1) := by decide +kernel
theorem dX13_movesEntry_55 : decode cX13_movesEntry 55 = .ok (.iadd, 1) := by decide +kernel
theorem dX13_movesEntry_56 : decode cX13_movesEntry 56 = .ok (.iload 4, 2) := by decide +kernel
theorem dX13_movesEntry_58 : decode cX13_movesEntry 58 = .ok (.iadd, 1) := by decide +kernel
theorem dX13_movesEntry_59 : decode cX13_movesEntry 59 = .ok (.aload_n 0, 1) := by decide +kernel
theorem dX13_movesEntry_60 : decode cX13_movesEntry 60 = .ok (.getfield 28, 3) := by decide +kernel
theorem dX13_movesEntry_63 : decode cX13_movesEntry 63 = .ok (.sipush 400, 3) := by decide +kernel
theorem dX13_movesEntry_66 : decode cX13_movesEntry 66 = .ok (.iload_n 1, 1) := by decide +kernel
theorem dX13_movesEntry_67 : decode cX13_movesEntry 67 = .ok (.imul, 1) := by decide +kernel
theorem dX13_movesEntry_68 : decode cX13_movesEntry 68 = .ok (.sipush 320, 3) := by decide +kernel
theorem dX13_movesEntry_71 : decode cX13_movesEntry 71 = .ok (.iadd, 1) := by decide +kernel
theorem dX13_movesEntry_72 : decode cX13_movesEntry 72 = .ok (.bipush 20, 2) := by decide +kernel
theorem dX13_movesEntry_74 : decode cX13_movesEntry 74 = .ok (.iload_n 3, 1) := by decide +kernel
theorem dX13_movesEntry_75 : decode cX13_movesEntry 75 = .ok (.imul, 1) := by decide +kernel
theorem dX13_movesEntry_76 : decode cX13_movesEntry 76 = .ok (.iadd, 1) := by decide +kernel
theorem dX13_movesEntry_77 : decode cX13_movesEntry 77 = .ok (.iload 4, 2) := by decide +kernel
theorem dX13_movesEntry_79 : decode cX13_movesEntry 79 = .ok (.iadd, 1) := by decide +kernel
theorem dX13_movesEntry_80 : decode cX13_movesEntry 80 = .ok (.iaload, 1) := by decide +kernel
theorem dX13_movesEntry_81 : decode cX13_movesEntry 81 = .ok (.iastore, 1) := by decide +kernel
theorem dX13_movesEntry_82 : decode cX13_movesEntry 82 = .ok (.iinc 4 1, 3) := by decide +kernel
theorem dX13_movesEntry_85 : decode cX13_movesEntry 85 = .ok (.goto (-54), 3) := by decide +kernel
theorem dX13_movesEntry_88 : decode cX13_movesEntry 88 = .ok (.return_, 1) := by decide +kernel
set_option maxRecDepth 4000 in
theorem c_movesEntry (γ : LC) (μ : MU) (w : Mm) (t a b : Int) (ht : 0 ≤ t ∧ t ≤ 3) (ha : 0 ≤ a ∧ a ≤ 3) (hb : 0 ≤ b ∧ b ≤ 3) (hab : a ≠ b) : CMv γ μ 0 mX13_movesEntry [.int (I t), .int (I a), .int (I b)] w (fun w' => w' = m_mvE t a b w) := by
  refine CMv_of rfl (by simp [rv_cat, Value.category]) rfl ?_
  rintro κ hO hF rfl hR
  have hD := hF.dp
  show X κ 0 0 w 0 [some (rv μ.1), some (.int (I t)), some (.int (I a)), some (.int (I b)), none] []
  refine X_aload_n 1 hO dX13_movesEntry_0 rfl rfl ?_
  refine ga_25 4 hO hR dX13_movesEntry_1 rfl ?_
  refine X_bipush 6 hO dX13_movesEntry_4 rfl (by decide) ?_
  refine X_iload_n 7 hO dX13_movesEntry_6 rfl rfl ?_
  refine X_imul 8 hO dX13_movesEntry_7 rfl ?_
  refine X_bipush 10 hO dX13_movesEntry_8 rfl (by decide) ?_
  refine X_iadd 11 hO dX13_movesEntry_10 rfl ?_
  refine X_iload_n 12 hO dX13_movesEntry_11 rfl rfl ?_
  refine X_iadd 13 hO dX13_movesEntry_12 rfl ?_
  refine X_aload_n 14 hO dX13_movesEntry_13 rfl rfl ?_
  refine ga_25 17 hO hR dX13_movesEntry_14 rfl ?_
  refine X_bipush 19 hO dX13_movesEntry_17 rfl (by decide) ?_
  refine X_iload_n 20 hO dX13_movesEntry_19 rfl rfl ?_
  refine X_imul 21 hO dX13_movesEntry_20 rfl ?_
  refine X_bipush 23 hO dX13_movesEntry_21 rfl (by decide) ?_
  refine X_iadd 24 hO dX13_movesEntry_23 rfl ?_
  refine X_iload_n 25 hO dX13_movesEntry_24 rfl rfl ?_
  refine X_iadd 26 hO dX13_movesEntry_25 rfl ?_
  refine ma_ld (L := 80) (c := 205) 27 hO hR rfl rfl rfl dX13_movesEntry_26 rfl (by omega) (by omega) (fun hi_26 => ?_)
  refine ma_st (L := 80) (c := 205) 28 hO hR rfl rfl rfl dX13_movesEntry_27 rfl (by omega) (by omega) (by omega) (fun hR => ?_)
  refine X_iconst 29 hO dX13_movesEntry_28 rfl ?_
  refine X_istore 31 hO dX13_movesEntry_29 rfl rfl ?_
  have LP31 : ∀ (n : Nat) (i : Int), (20 - i).toNat < n → (0 ≤ i ∧ i ≤ 20) → RM ((fl (up w 205 0 (20 * t + 16 + a) (w 205 0 (20 * t + 16 + b))) 206 (400 * t + 320 + 20 * a) i (fun i => w 206 0 (i - 20 * a + 20 * b)))) μ → X κ 0 0 ((fl (up w 205 0 (20 * t + 16 + a) (w 205 0 (20 * t + 16 + b))) 206 (400 * t + 320 + 20 * a) i (fun i => w 206 0 (i - 20 * a + 20 * b)))) 31 [some (rv μ.1), some (.int (I t)), some (.int (I a)), some (.int (I b)), some (.int (I i))] [] := by
    intro n
    induction n with
    | zero => intro i hm; exact absurd hm (Nat.not_lt_zero _)
    | succ n ih =>
      intro i hm hi hR
      refine X_iload 33 hO dX13_movesEntry_31 rfl rfl ?_
      refine X_bipush 35 hO dX13_movesEntry_33 rfl (by decide) ?_
      refine X_icmp_ge 38 88 hO dX13_movesEntry_35 rfl rfl (by omega) (by omega) (fun hc_35 => ?_) (fun hc_35 => ?_)
      ·
        have e4 : i = 20 := by omega
        subst e4
        exact XM_vret hO hF hR rfl dX13_movesEntry_88 rfl
      ·
        refine X_aload_n 39 hO dX13_movesEntry_38 rfl rfl ?_
        refine ga_28 42 hO hR dX13_movesEntry_39 rfl ?_
        refine X_sipush 45 hO dX13_movesEntry_42 rfl (by decide) ?_
        refine X_iload_n 46 hO dX13_movesEntry_45 rfl rfl ?_
        refine X_imul 47 hO dX13_movesEntry_46 rfl ?_
        refine X_sipush 50 hO dX13_movesEntry_47 rfl (by decide) ?_
        refine X_iadd 51 hO dX13_movesEntry_50 rfl ?_
        refine X_bipush 53 hO dX13_movesEntry_51 rfl (by decide) ?_
        refine X_iload_n 54 hO dX13_movesEntry_53 rfl rfl ?_
        refine X_imul 55 hO dX13_movesEntry_54 rfl ?_
        refine X_iadd 56 hO dX13_movesEntry_55 rfl ?_
        refine X_iload 58 hO dX13_movesEntry_56 rfl rfl ?_
        refine X_iadd 59 hO dX13_movesEntry_58 rfl ?_
        refine X_aload_n 60 hO dX13_movesEntry_59 rfl rfl ?_
        refine ga_28 63 hO hR dX13_movesEntry_60 rfl ?_
        refine X_sipush 66 hO dX13_movesEntry_63 rfl (by decide) ?_
        refine X_iload_n 67 hO dX13_movesEntry_66 rfl rfl ?_
        refine X_imul 68 hO dX13_movesEntry_67 rfl ?_
        refine X_sipush 71 hO dX13_movesEntry_68 rfl (by decide) ?_
        refine X_iadd 72 hO dX13_movesEntry_71 rfl ?_
        refine X_bipush 74 hO dX13_movesEntry_72 rfl (by decide) ?_
        refine X_iload_n 75 hO dX13_movesEntry_74 rfl rfl ?_
        refine X_imul 76 hO dX13_movesEntry_75 rfl ?_
        refine X_iadd 77 hO dX13_movesEntry_76 rfl ?_
        refine X_iload 79 hO dX13_movesEntry_77 rfl rfl ?_
        refine X_iadd 80 hO dX13_movesEntry_79 rfl ?_
        refine ma_ld (L := 1600) (c := 206) 81 hO hR rfl rfl rfl dX13_movesEntry_80 rfl (by omega) (by omega) (fun hi_80 => ?_)
        refine ma_st (L := 1600) (c := 206) 82 hO hR rfl rfl rfl dX13_movesEntry_81 rfl (by omega) (by omega) (by omega) (fun hR => ?_)
        refine X_iinc 85 hO dX13_movesEntry_82 rfl rfl ?_
        refine X_goto hO dX13_movesEntry_85 (tgt := 31) rfl ?_
        exact X_eqR hR (fl_stp (by omega) rfl (by omega) (by clear ih; grind [fl, up])) (fun hR => ih (i + 1) (by omega) (by omega) hR)
  exact X_eqR hR (fl_00 rfl) (fun hR => LP31 _ 0 (Nat.lt_succ_self _) (by omega) hR)
