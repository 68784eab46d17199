def m_vF (w : Mm) : Int := if w 210 0 0 = 0 then 0 else w 208 0 (w 210 0 0 - 1)
def m_vT (w : Mm) : Int := if w 210 0 0 = 0 then w 201 0 0 else w 209 0 (w 210 0 0 - 1)
abbrev m_iV (p : Int) (w : Mm) : Prop := m_vF w ≤ p ∧ p ≤ m_vT w
theorem psh_at {t k : Int} {w : Mm} {c : Nat} {a i : Int} (h : c < 204 ∨ 206 < c) : m_psh t k w c a i = w c a i := by
  simp only [m_psh, m_tak, fl, up]
  rw [if_neg (by omega), if_neg (by omega), if_neg (by omega), if_neg (by omega), if_neg (by omega)]
theorem trn_at {t : Int} {w : Mm} {c : Nat} {a i : Int} (h : c ≠ 205 ∧ c ≠ 206 ∧ c ≠ 240) : m_trn t w c a i = w c a i := by
  simp only [m_trn, m_tak, fl, up]
  rw [if_neg (by omega), if_neg (by omega), if_neg (by omega), if_neg (by omega), if_neg (by omega)]
theorem tak_at {t s e k : Int} {w : Mm} {c : Nat} {a i : Int} (h : c ≠ 205 ∧ c ≠ 206) : m_tak t s e k w c a i = w c a i := by
  simp only [m_tak, fl, up]
  rw [if_neg (by omega), if_neg (by omega)]
theorem fl_at {w : Mm} {c c' : Nat} {lo n a i : Int} {f : Int → Int} (h : c' ≠ c) : fl w c lo n f c' a i = w c' a i := by
  simp only [fl]; rw [if_neg (by omega)]
theorem del_at {μ : MU} {q k : Int} {w : Mm} {c : Nat} {a i : Int} (h : c ≠ 212 ∧ c ≠ 120 ∧ (c < 200 ∨ (202 < c ∧ c < 208) ∨ 209 < c)) : m_del μ q k w c a i = w c a i := by
  unfold m_del; rw [step_at ⟨h.1, h.2.1⟩, closes_at h.2.2]
theorem rep_at {μ : MU} {q k : Int} {w : Mm} {c : Nat} {a i : Int} (h : c ≠ 212 ∧ c ≠ 120 ∧ c ≠ 200) : m_rep μ q k w c a i = w c a i := by
  unfold m_rep; rw [step_at ⟨h.1, h.2.1⟩, up_k _ h.2.2]
theorem ins_at {μ : MU} {q k : Int} {w : Mm} {c : Nat} {a i : Int} (h : c ≠ 212 ∧ c ≠ 120 ∧ c ≠ 213 ∧ c ≠ 121 ∧ (c < 200 ∨ (202 < c ∧ c < 208) ∨ 209 < c)) : m_ins μ q k w c a i = w c a i := by
  unfold m_ins; rw [poolN_at ⟨h.2.2.1, h.2.2.2.1⟩, fl_at (by omega), step_at ⟨h.1, h.2.1⟩, opens_at h.2.2.2.2]
def m_rd (k : Int) (w : Mm) : Mm := fl w 240 0 k (fun i => w 200 0 (w 207 0 0 + i))
/-- the first place at or behind i, of n, at which f is c; -1 if there is none -/
def fnd (f : Int → Int) (c : Int) : Nat → Int → Int
  | 0, _ => -1
  | n + 1, i => if f i = c then i else fnd f c n (i + 1)
theorem fnd_no {f : Int → Int} {c i : Int} {n : Nat} (h : n = 0) : fnd f c n i = -1 := by subst h; rfl
theorem fnd_hit {f : Int → Int} {c i : Int} {n : Nat} (h : n ≠ 0) (e : f i = c) : fnd f c n i = i := by
  cases n with
  | zero => exact absurd rfl h
  | succ n => simp only [fnd]; rw [if_pos e]
theorem fnd_next {f : Int → Int} {c i : Int} {n n' : Nat} (h : n = n' + 1) (e : f i ≠ c) : fnd f c n i = fnd f c n' (i + 1) := by
  subst h; simp only [fnd]; rw [if_neg e]
theorem fnd_spec (f : Int → Int) (c : Int) : ∀ (n : Nat) (i : Int), (fnd f c n i = -1 ∧ ∀ j, i ≤ j → j < i + n → f j ≠ c) ∨ (i ≤ fnd f c n i ∧ fnd f c n i < i + n ∧ f (fnd f c n i) = c ∧ ∀ j, i ≤ j → j < fnd f c n i → f j ≠ c)
  | 0, i => Or.inl ⟨rfl, fun j h1 h2 => by omega⟩
  | n + 1, i => by
    by_cases e : f i = c
    · rw [fnd_hit (by omega) e]; exact Or.inr ⟨by omega, by omega, e, fun j h1 h2 => by omega⟩
    · rw [fnd_next rfl e]
      rcases fnd_spec f c n (i + 1) with ⟨h1, h2⟩ | ⟨h1, h2, h3, h4⟩
      · refine Or.inl ⟨h1, fun j h3 h4 => ?_⟩
        by_cases c1 : j = i
        · subst c1; exact e
        · exact h2 j (by omega) (by omega)
      · refine Or.inr ⟨by omega, by omega, h3, fun j h5 h6 => ?_⟩
        by_cases c1 : j = i
        · subst c1; exact e
        · exact h4 j (by omega) h6
def m_sea2 (μ : MU) (k : Int) (w : Mm) : Int × Mm := if k = -1 then (2, w) else (0, up (up w 207 0 0 (k + 1)) 136 μ.1 0 (k + 1))
def m_sea (μ : MU) (c : Int) (w : Mm) : Int × Mm := m_sea2 μ (fnd (fun i => w 200 0 i) c (m_vT w - w 207 0 0).toNat (w 207 0 0)) w
def m_mkp (μ : MU) (k g : Int) (w : Mm) : Mm := m_step μ 3 (w 207 0 0) (2 * k + g) (up (up (up w 136 μ.1 0 (w 202 0 k)) 202 0 k (w 207 0 0)) 203 0 k g)
def m_clr (μ : MU) (k : Int) (w : Mm) : Int × Mm := if w 202 0 k = -1 then (3, w) else (0, m_step μ 3 511 (2 * k) (up (up w 136 μ.1 0 (w 202 0 k)) 202 0 k (-1)))
def m_nar1 (μ : MU) (k : Int) (w : Mm) : Mm := up (up (up (up w 208 0 (w 210 0 0) (if w 202 0 k < w 207 0 0 then w 202 0 k else w 207 0 0)) 209 0 (w 210 0 0) (if w 202 0 k < w 207 0 0 then w 207 0 0 else w 202 0 k)) 210 0 0 (w 210 0 0 + 1)) 136 μ.1 0 (w 210 0 0 + 1)
def m_nar (μ : MU) (k : Int) (w : Mm) : Int × Mm := if ¬ (w 202 0 k ≠ -1 ∧ m_vF w ≤ w 202 0 k ∧ w 202 0 k ≤ m_vT w) then (3, w) else if w 210 0 0 = 4 then (6, w) else (0, m_nar1 μ k w)
theorem dX13_thrown_0 : decode cX13_thrown 0 = .ok (.aload_n 0, 1) := by decide +kernel
theorem dX13_thrown_1 : decode cX13_thrown 1 = .ok (.getfield 171, 3) := by decide +kernel
theorem dX13_thrown_4 : decode cX13_thrown 4 = .ok (.ireturn, 1) := by decide +kernel
set_option maxRecDepth 4000 in
theorem c_thrown (γ : LC) (μ : MU) (w : Mm)   : CMi γ μ 0 mX13_thrown [] w (fun r w' => r = w 139 μ.1 0 ∧ w = w') := by
  refine CMi_of rfl (by simp [rv_cat, Value.category]) rfl ?_
  rintro κ hO hF rfl hR
  have hD := hF.dp
  show X κ 0 0 w 0 [some (rv μ.1)] []
  refine X_aload_n 1 hO dX13_thrown_0 rfl rfl ?_
  refine ga_171 4 hO hR dX13_thrown_1 rfl (fun hi_1 => ?_)
  exact XM_iret hO hF hR rfl (by first | exact Or.inl rfl | exact Or.inr ⟨rfl, bi_01 _⟩ | exact Or.inr ⟨rfl, by omega⟩) dX13_thrown_4 (by omega) ⟨rfl, rfl⟩
theorem dX13_viewFrom_0 : decode cX13_viewFrom 0 = .ok (.aload_n 0, 1) := by decide +kernel
theorem dX13_viewFrom_1 : decode cX13_viewFrom 1 = .ok (.getfield 40, 3) := by decide +kernel
theorem dX13_viewFrom_4 : decode cX13_viewFrom 4 = .ok (.iconst 0, 1) := by decide +kernel
theorem dX13_viewFrom_5 : decode cX13_viewFrom 5 = .ok (.iaload, 1) := by decide +kernel
theorem dX13_viewFrom_6 : decode cX13_viewFrom 6 = .ok (.ifCond .ne 7, 3) := by decide +kernel
theorem dX13_viewFrom_9 : decode cX13_viewFrom 9 = .ok (.iconst 0, 1) := by decide +kernel
theorem dX13_viewFrom_10 : decode cX13_viewFrom 10 = .ok (.goto 16, 3) := by decide +kernel
theorem dX13_viewFrom_13 : decode cX13_viewFrom 13 = .ok (.aload_n 0, 1) := by decide +kernel
theorem dX13_viewFrom_14 : decode cX13_viewFrom 14 = .ok (.getfield 34, 3) := by decide +kernel
theorem dX13_viewFrom_17 : decode cX13_viewFrom 17 = .ok (.aload_n 0, 1) := by decide +kernel
theorem dX13_viewFrom_18 : decode cX13_viewFrom 18 = .ok (.getfield 40, 3) := by decide +kernel
theorem dX13_viewFrom_21 : decode cX13_viewFrom 21 = .ok (.iconst 0, 1) := by decide +kernel
theorem dX13_viewFrom_22 : decode cX13_viewFrom 22 = .ok (.iaload, 1) := by decide +kernel
theorem dX13_viewFrom_23 : decode cX13_viewFrom 23 = .ok (.iconst 1, 1) := by decide +kernel
theorem dX13_viewFrom_24 : decode cX13_viewFrom 24 = .ok (.isub, 1) := by decide +kernel
theorem dX13_viewFrom_25 : decode cX13_viewFrom 25 = .ok (.iaload, 1) := by decide +kernel
theorem dX13_viewFrom_26 : decode cX13_viewFrom 26 = .ok (.ireturn, 1) := by decide +kernel
set_option maxRecDepth 4000 in
theorem c_viewFrom (γ : LC) (μ : MU) (w : Mm)  (hv : 0 ≤ w 210 0 0 ∧ w 210 0 0 ≤ 4) : CMi γ μ 0 mX13_viewFrom [] w (fun r w' => r = m_vF w ∧ w = w') := by
  refine CMi_of rfl (by simp [rv_cat, Value.category]) rfl ?_
  rintro κ hO hF rfl hR
  have hD := hF.dp
  show X κ 0 0 w 0 [some (rv μ.1)] []
  refine X_aload_n 1 hO dX13_viewFrom_0 rfl rfl ?_
  refine ga_40 4 hO hR dX13_viewFrom_1 rfl ?_
  refine X_iconst 5 hO dX13_viewFrom_4 rfl ?_
  refine ma_ld (L := 4) (c := 210) 6 hO hR rfl rfl rfl dX13_viewFrom_5 rfl (by omega) (by omega) (fun hi_5 => ?_)
  refine X_if_ne 9 13 hO dX13_viewFrom_6 rfl rfl (by omega) (fun hc_6 => ?_) (fun hc_6 => ?_)
  ·
    refine X_aload_n 14 hO dX13_viewFrom_13 rfl rfl ?_
    refine ga_34 17 hO hR dX13_viewFrom_14 rfl ?_
    refine X_aload_n 18 hO dX13_viewFrom_17 rfl rfl ?_
    refine ga_40 21 hO hR dX13_viewFrom_18 rfl ?_
    refine X_iconst 22 hO dX13_viewFrom_21 rfl ?_
    refine ma_ld (L := 4) (c := 210) 23 hO hR rfl rfl rfl dX13_viewFrom_22 rfl (by omega) (by omega) (fun hi_22 => ?_)
    refine X_iconst 24 hO dX13_viewFrom_23 rfl ?_
    refine X_isub 25 hO dX13_viewFrom_24 rfl ?_
    refine ma_ld (L := 16) (c := 208) 26 hO hR rfl rfl rfl dX13_viewFrom_25 rfl (by omega) (by omega) (fun hi_25 => ?_)
    exact XM_iret hO hF hR rfl (by first | exact Or.inl rfl | exact Or.inr ⟨rfl, bi_01 _⟩ | exact Or.inr ⟨rfl, by omega⟩) dX13_viewFrom_26 (by omega) ⟨(by unfold m_vF; first | rw [if_pos (by omega)] | rw [if_neg (by omega)]), rfl⟩
  ·
    refine X_iconst 10 hO dX13_viewFrom_9 rfl ?_
    refine X_goto hO dX13_viewFrom_10 (tgt := 26) rfl ?_
    exact XM_iret hO hF hR rfl (by first | exact Or.inl rfl | exact Or.inr ⟨rfl, bi_01 _⟩ | exact Or.inr ⟨rfl, by omega⟩) dX13_viewFrom_26 (by omega) ⟨(by unfold m_vF; first | rw [if_pos (by omega)] | rw [if_neg (by omega)]), rfl⟩
theorem dX13_viewTo_0 : decode cX13_viewTo 0 = .ok (.aload_n 0, 1) := by decide +kernel
theorem dX13_viewTo_1 : decode cX13_viewTo 1 = .ok (.getfield 40, 3) := by decide +kernel
theorem dX13_viewTo_4 : decode cX13_viewTo 4 = .ok (.iconst 0, 1) := by decide +kernel
theorem dX13_viewTo_5 : decode cX13_viewTo 5 = .ok (.iaload, 1) := by decide +kernel
theorem dX13_viewTo_6 : decode cX13_viewTo 6 = .ok (.ifCond .ne 12, 3) := by decide +kernel
theorem dX13_viewTo_9 : decode cX13_viewTo 9 = .ok (.aload_n 0, 1) := by decide +kernel
theorem dX13_viewTo_10 : decode cX13_viewTo 10 = .ok (.getfield 13, 3) := by decide +kernel
theorem dX13_viewTo_13 : decode cX13_viewTo 13 = .ok (.iconst 0, 1) := by decide +kernel
theorem dX13_viewTo_14 : decode cX13_viewTo 14 = .ok (.iaload, 1) := by decide +kernel
theorem dX13_viewTo_15 : decode cX13_viewTo 15 = .ok (.goto 16, 3) := by decide +kernel
theorem dX13_viewTo_18 : decode cX13_viewTo 18 = .ok (.aload_n 0, 1) := by decide +kernel
theorem dX13_viewTo_19 : decode cX13_viewTo 19 = .ok (.getfield 37, 3) := by decide +kernel
theorem dX13_viewTo_22 : decode cX13_viewTo 22 = .ok (.aload_n 0, 1) := by decide +kernel
theorem dX13_viewTo_23 : decode cX13_viewTo 23 = .ok (.getfield 40, 3) := by decide +kernel
theorem dX13_viewTo_26 : decode cX13_viewTo 26 = .ok (.iconst 0, 1) := by decide +kernel
theorem dX13_viewTo_27 : decode cX13_viewTo 27 = .ok (.iaload, 1) := by decide +kernel
theorem dX13_viewTo_28 : decode cX13_viewTo 28 = .ok (.iconst 1, 1) := by decide +kernel
theorem dX13_viewTo_29 : decode cX13_viewTo 29 = .ok (.isub, 1) := by decide +kernel
theorem dX13_viewTo_30 : decode cX13_viewTo 30 = .ok (.iaload, 1) := by decide +kernel
theorem dX13_viewTo_31 : decode cX13_viewTo 31 = .ok (.ireturn, 1) := by decide +kernel
set_option maxRecDepth 4000 in
theorem c_viewTo (γ : LC) (μ : MU) (w : Mm)  (hv : 0 ≤ w 210 0 0 ∧ w 210 0 0 ≤ 4) : CMi γ μ 0 mX13_viewTo [] w (fun r w' => r = m_vT w ∧ w = w') := by
  refine CMi_of rfl (by simp [rv_cat, Value.category]) rfl ?_
  rintro κ hO hF rfl hR
  have hD := hF.dp
  show X κ 0 0 w 0 [some (rv μ.1)] []
  refine X_aload_n 1 hO dX13_viewTo_0 rfl rfl ?_
  refine ga_40 4 hO hR dX13_viewTo_1 rfl ?_
  refine X_iconst 5 hO dX13_viewTo_4 rfl ?_
  refine ma_ld (L := 4) (c := 210) 6 hO hR rfl rfl rfl dX13_viewTo_5 rfl (by omega) (by omega) (fun hi_5 => ?_)
  refine X_if_ne 9 18 hO dX13_viewTo_6 rfl rfl (by omega) (fun hc_6 => ?_) (fun hc_6 => ?_)
  ·
    refine X_aload_n 19 hO dX13_viewTo_18 rfl rfl ?_
    refine ga_37 22 hO hR dX13_viewTo_19 rfl ?_
    refine X_aload_n 23 hO dX13_viewTo_22 rfl rfl ?_
    refine ga_40 26 hO hR dX13_viewTo_23 rfl ?_
    refine X_iconst 27 hO dX13_viewTo_26 rfl ?_
    refine ma_ld (L := 4) (c := 210) 28 hO hR rfl rfl rfl dX13_viewTo_27 rfl (by omega) (by omega) (fun hi_27 => ?_)
    refine X_iconst 29 hO dX13_viewTo_28 rfl ?_
    refine X_isub 30 hO dX13_viewTo_29 rfl ?_
    refine ma_ld (L := 16) (c := 209) 31 hO hR rfl rfl rfl dX13_viewTo_30 rfl (by omega) (by omega) (fun hi_30 => ?_)
    exact XM_iret hO hF hR rfl (by first | exact Or.inl rfl | exact Or.inr ⟨rfl, bi_01 _⟩ | exact Or.inr ⟨rfl, by omega⟩) dX13_viewTo_31 (by omega) ⟨(by unfold m_vT; first | rw [if_pos (by omega)] | rw [if_neg (by omega)]), rfl⟩
  ·
    refine X_aload_n 10 hO dX13_viewTo_9 rfl rfl ?_
    refine ga_13 13 hO hR dX13_viewTo_10 rfl ?_
    refine X_iconst 14 hO dX13_viewTo_13 rfl ?_
    refine ma_ld (L := 4) (c := 201) 15 hO hR rfl rfl rfl dX13_viewTo_14 rfl (by omega) (by omega) (fun hi_14 => ?_)
    refine X_goto hO dX13_viewTo_15 (tgt := 31) rfl ?_
    exact XM_iret hO hF hR rfl (by first | exact Or.inl rfl | exact Or.inr ⟨rfl, bi_01 _⟩ | exact Or.inr ⟨rfl, by omega⟩) dX13_viewTo_31 (by omega) ⟨(by unfold m_vT; first | rw [if_pos (by omega)] | rw [if_neg (by omega)]), rfl⟩
theorem dX13_isInView_0 : decode cX13_isInView 0 = .ok (.iload_n 1, 1) := by decide +kernel
theorem dX13_isInView_1 : decode cX13_isInView 1 = .ok (.aload_n 0, 1) := by decide +kernel
theorem dX13_isInView_2 : decode cX13_isInView 2 = .ok (.invokevirtual 294, 3) := by decide +kernel
theorem dX13_isInView_5 : decode cX13_isInView 5 = .ok (.aload_n 0, 1) := by decide +kernel
theorem dX13_isInView_6 : decode cX13_isInView 6 = .ok (.invokevirtual 297, 3) := by decide +kernel
theorem dX13_isInView_9 : decode cX13_isInView 9 = .ok (.invokestatic 174, 3) := by decide +kernel
theorem dX13_isInView_12 : decode cX13_isInView 12 = .ok (.ireturn, 1) := by decide +kernel
set_option maxRecDepth 4000 in
theorem c_isInView (γ : LC) (μ : MU) (w : Mm) (p : Int) (hv : 0 ≤ w 210 0 0 ∧ w 210 0 0 ≤ 4) (hp : IR p) : CMi γ μ 1 mX13_isInView [.int (I p)] w (fun r w' => r = bi (m_vF w ≤ p ∧ p ≤ m_vT w) ∧ w = w') := by
  refine CMi_of rfl (by simp [rv_cat, Value.category]) rfl ?_
  rintro κ hO hF rfl hR
  have hD := hF.dp
  show X κ 0 0 w 0 [some (rv μ.1), some (.int (I p))] []
  refine X_iload_n 1 hO dX13_isInView_0 rfl rfl ?_
  refine X_aload_n 2 hO dX13_isInView_1 rfl rfl ?_
  refine XM_callVi 5 hO hD hR lX13_294 [] rfl dX13_isInView_2 rfl (c_viewFrom _ _ _ (by omega)) (by decide) (by simp only [List.map_cons, List.map_nil, rv_cat]; exact Nat.le_of_ble_eq_true rfl) (fun r_2 w_2 hr_2 hp_2 hR => ?_)
  obtain ⟨e1_2, e2_2⟩ := hp_2
  subst e1_2
  subst e2_2
  refine X_aload_n 6 hO dX13_isInView_5 rfl rfl ?_
  refine XM_callVi 9 hO hD hR lX13_297 [] rfl dX13_isInView_6 rfl (c_viewTo _ _ _ (by omega)) (by decide) (by simp only [List.map_cons, List.map_nil, rv_cat]; exact Nat.le_of_ble_eq_true rfl) (fun r_6 w_6 hr_6 hp_6 hR => ?_)
  obtain ⟨e1_6, e2_6⟩ := hp_6
  subst e1_6
  subst e2_6
  refine XM_callSi 12 hO hD lX13_174 [_, _, _] rfl dX13_isInView_9 rfl (c_in _ _ _ _ _ (by omega) (by omega) (by omega)) (by decide) (by simp only [List.map_cons, List.map_nil, rv_cat]; exact Nat.le_of_ble_eq_true rfl) (fun r_9 hr_9 hp_9 => ?_)
  subst hp_9
  exact XM_iret hO hF hR rfl (by first | exact Or.inl rfl | exact Or.inr ⟨rfl, bi_01 _⟩ | exact Or.inr ⟨rfl, by omega⟩) dX13_isInView_12 hr_9 ⟨rfl, rfl⟩
theorem dX13_reads_0 : decode cX13_reads 0 = .ok (.iconst 0, 1) := by decide +kernel
theorem dX13_reads_1 : decode cX13_reads 1 = .ok (.istore_n 2, 1) := by decide +kernel
theorem dX13_reads_2 : decode cX13_reads 2 = .ok (.iload_n 2, 1) := by decide +kernel
theorem dX13_reads_3 : decode cX13_reads 3 = .ok (.iload_n 1, 1) := by decide +kernel
theorem dX13_reads_4 : decode cX13_reads 4 = .ok (.if_icmp .ge 28, 3) := by decide +kernel
theorem dX13_reads_7 : decode cX13_reads 7 = .ok (.aload_n 0, 1) := by decide +kernel
theorem dX13_reads_8 : decode cX13_reads 8 = .ok (.getfield 150, 3) := by decide +kernel
theorem dX13_reads_11 : decode cX13_reads 11 = .ok (.iload_n 2, 1) := by decide +kernel
theorem dX13_reads_12 : decode cX13_reads 12 = .ok (.aload_n 0, 1) := by decide +kernel
theorem dX13_reads_13 : decode cX13_reads 13 = .ok (.getfield 7, 3) := by decide +kernel
theorem dX13_reads_16 : decode cX13_reads 16 = .ok (.aload_n 0, 1) := by decide +kernel
theorem dX13_reads_17 : decode cX13_reads 17 = .ok (.getfield 31, 3) := by decide +kernel
theorem dX13_reads_20 : decode cX13_reads 20 = .ok (.iconst 0, 1) := by decide +kernel
theorem dX13_reads_21 : decode cX13_reads 21 = .ok (.iaload, 1) := by decide +kernel
theorem dX13_reads_22 : decode cX13_reads 22 = .ok (.iload_n 2, 1) := by decide +kernel
theorem dX13_reads_23 : decode cX13_reads 23 = .ok (.iadd, 1) := by decide +kernel
theorem dX13_reads_24 : decode cX13_reads 24 = .ok (.iaload, 1) := by decide +kernel
theorem dX13_reads_25 : decode cX13_reads 25 = .ok (.iastore, 1) := by decide +kernel
theorem dX13_reads_26 : decode cX13_reads 26 = .ok (.iinc 2 1, 3) := by decide +kernel
theorem dX13_reads_29 : decode cX13_reads 29 = .ok (.goto (-27), 3) := by decide +kernel
theorem dX13_reads_32 : decode cX13_reads 32 = .ok (.return_, 1) := by decide +kernel
set_option maxRecDepth 4000 in
theorem c_reads (γ : LC) (μ : MU) (w : Mm) (k : Int) (hk : 0 ≤ k ∧ k ≤ 20) (hp : 0 ≤ w 207 0 0 ∧ w 207 0 0 + k ≤ 400) : CMv γ μ 0 mX13_reads [.int (I k)] w (fun w' => w' = m_rd k w) := by
  refine CMv_of rfl (by simp [rv_cat, Value.category]) rfl ?_
  rintro κ hO hF rfl hR
  have hD := hF.dp
  show X κ 0 0 w 0 [some (rv μ.1), some (.int (I k)), none] []
  refine X_iconst 1 hO dX13_reads_0 rfl ?_
  refine X_istore_n 2 hO dX13_reads_1 rfl rfl ?_
  have LP2 : ∀ (n : Nat) (i : Int), (k - i).toNat < n → (0 ≤ i ∧ i ≤ k) → RM ((fl w 240 0 i (fun i => w 200 0 (w 207 0 0 + i)))) μ → X κ 0 0 ((fl w 240 0 i (fun i => w 200 0 (w 207 0 0 + i)))) 2 [some (rv μ.1), some (.int (I k)), some (.int (I i))] [] := by
    intro n
    induction n with
    | zero => intro i hm; exact absurd hm (Nat.not_lt_zero _)
    | succ n ih =>
      intro i hm hi hR
      have e7 : (fl w 240 0 i (fun i => w 200 0 (w 207 0 0 + i))) 207 0 0 = w 207 0 0 := fl_at (by decide)
      refine X_iload_n 3 hO dX13_reads_2 rfl rfl ?_
      refine X_iload_n 4 hO dX13_reads_3 rfl rfl ?_
      refine X_icmp_ge 7 32 hO dX13_reads_4 rfl rfl (by omega) (by omega) (fun hc_4 => ?_) (fun hc_4 => ?_)
      ·
        have e4 : i = k := by omega
        subst e4
        exact XM_vret hO hF hR rfl dX13_reads_32 rfl
      ·
        refine X_aload_n 8 hO dX13_reads_7 rfl rfl ?_
        refine ga_150 11 hO hR dX13_reads_8 rfl ?_
        refine X_iload_n 12 hO dX13_reads_11 rfl rfl ?_
        refine X_aload_n 13 hO dX13_reads_12 rfl rfl ?_
        refine ga_7 16 hO hR dX13_reads_13 rfl ?_
        refine X_aload_n 17 hO dX13_reads_16 rfl rfl ?_
        refine ga_31 20 hO hR dX13_reads_17 rfl ?_
        refine X_iconst 21 hO dX13_reads_20 rfl ?_
        refine ma_ld (L := 4) (c := 207) 22 hO hR rfl rfl rfl dX13_reads_21 rfl (by omega) (by omega) (fun hi_21 => ?_)
        refine X_iload_n 23 hO dX13_reads_22 rfl rfl ?_
        refine X_iadd 24 hO dX13_reads_23 rfl ?_
        refine ma_ld (L := 1600) (c := 200) 25 hO hR rfl rfl rfl dX13_reads_24 rfl (by omega) (by omega) (fun hi_24 => ?_)
        refine ma_st (L := 400) (c := 240) 26 hO hR rfl rfl rfl dX13_reads_25 rfl (by omega) (by omega) (by omega) (fun hR => ?_)
        refine X_iinc 29 hO dX13_reads_26 rfl rfl ?_
        refine X_goto hO dX13_reads_29 (tgt := 2) rfl ?_
        exact X_eqR hR (fl_stp (by omega) rfl (by omega) (by rw [fl_at (by decide), e7])) (fun hR => ih (i + 1) (by omega) (by omega) hR)
  exact X_eqR hR (fl_00 rfl) (fun hR => LP2 _ 0 (Nat.lt_succ_self _) (by omega) hR)
theorem dX13_searches_0 : decode cX13_searches 0 = .ok (.aload_n 0, 1) := by decide +kernel
theorem dX13_searches_1 : decode cX13_searches 1 = .ok (.getfield 31, 3) := by decide +kernel
theorem dX13_searches_4 : decode cX13_searches 4 = .ok (.iconst 0, 1) := by decide +kernel
theorem dX13_searches_5 : decode cX13_searches 5 = .ok (.iaload, 1) := by decide +kernel
theorem dX13_searches_6 : decode cX13_searches 6 = .ok (.istore_n 2, 1) := by decide +kernel
theorem dX13_searches_7 : decode cX13_searches 7 = .ok (.iload_n 2, 1) := by decide +kernel
theorem dX13_searches_8 : decode cX13_searches 8 = .ok (.aload_n 0, 1) := by decide +kernel
theorem dX13_searches_9 : decode cX13_searches 9 = .ok (.invokevirtual 297, 3) := by decide +kernel
theorem dX13_searches_12 : decode cX13_searches 12 = .ok (.if_icmp .ge 37, 3) := by decide +kernel
theorem dX13_searches_15 : decode cX13_searches 15 = .ok (.aload_n 0, 1) := by decide +kernel
theorem dX13_searches_16 : decode cX13_searches 16 = .ok (.getfield 7, 3) := by decide +kernel
theorem dX13_searches_19 : decode cX13_searches 19 = .ok (.iload_n 2, 1) := by decide +kernel
theorem dX13_searches_20 : decode cX13_searches 20 = .ok (.iaload, 1) := by decide +kernel
theorem dX13_searches_21 : decode cX13_searches 21 = .ok (.iload_n 1, 1) := by decide +kernel
theorem dX13_searches_22 : decode cX13_searches 22 = .ok (.if_icmp .ne 21, 3) := by decide +kernel
theorem dX13_searches_25 : decode cX13_searches 25 = .ok (.aload_n 0, 1) := by decide +kernel
theorem dX13_searches_26 : decode cX13_searches 26 = .ok (.getfield 31, 3) := by decide +kernel
theorem dX13_searches_29 : decode cX13_searches 29 = .ok (.iconst 0, 1) := by decide +kernel
theorem dX13_searches_30 : decode cX13_searches 30 = .ok (.iload_n 2, 1) := by decide +kernel
theorem dX13_searches_31 : decode cX13_searches 31 = .ok (.iconst 1, 1) := by decide +kernel
theorem dX13_searches_32 : decode cX13_searches 32 = .ok (.iadd, 1) := by decide +kernel
theorem dX13_searches_33 : decode cX13_searches 33 = .ok (.iastore, 1) := by decide +kernel
theorem dX13_searches_34 : decode cX13_searches 34 = .ok (.aload_n 0, 1) := by decide +kernel
theorem dX13_searches_35 : decode cX13_searches 35 = .ok (.iload_n 2, 1) := by decide +kernel
theorem dX13_searches_36 : decode cX13_searches 36 = .ok (.iconst 1, 1) := by decide +kernel
theorem dX13_searches_37 : decode cX13_searches 37 = .ok (.iadd, 1) := by decide +kernel
theorem dX13_searches_38 : decode cX13_searches 38 = .ok (.putfield 303, 3) := by decide +kernel
theorem dX13_searches_41 : decode cX13_searches 41 = .ok (.iconst 0, 1) := by decide +kernel
theorem dX13_searches_42 : decode cX13_searches 42 = .ok (.ireturn, 1) := by decide +kernel
theorem dX13_searches_43 : decode cX13_searches 43 = .ok (.iinc 2 1, 3) := by decide +kernel
theorem dX13_searches_46 : decode cX13_searches 46 = .ok (.goto (-39), 3) := by decide +kernel
theorem dX13_searches_49 : decode cX13_searches 49 = .ok (.iconst 2, 1) := by decide +kernel
theorem dX13_searches_50 : decode cX13_searches 50 = .ok (.ireturn, 1) := by decide +kernel
set_option maxRecDepth 4000 in
theorem c_searches (γ : LC) (μ : MU) (w : Mm) (c : Int) (hc : IR c) (hv : 0 ≤ w 210 0 0 ∧ w 210 0 0 ≤ 4) (hp : 0 ≤ w 207 0 0 ∧ w 207 0 0 ≤ 400) (ht : m_vT w ≤ 400) : CMi γ μ 1 mX13_searches [.int (I c)] w (fun r w' => r = (m_sea μ c w).1 ∧ w' = (m_sea μ c w).2) := by
  refine CMi_of rfl (by simp [rv_cat, Value.category]) rfl ?_
  rintro κ hO hF rfl hR
  have hD := hF.dp
  show X κ 0 0 w 0 [some (rv μ.1), some (.int (I c)), none] []
  refine X_aload_n 1 hO dX13_searches_0 rfl rfl ?_
  refine ga_31 4 hO hR dX13_searches_1 rfl ?_
  refine X_iconst 5 hO dX13_searches_4 rfl ?_
  refine ma_ld (L := 4) (c := 207) 6 hO hR rfl rfl rfl dX13_searches_5 rfl (by omega) (by omega) (fun hi_5 => ?_)
  refine X_istore_n 7 hO dX13_searches_6 rfl rfl ?_
  have LP7 : ∀ (n : Nat) (k : Int), (m_vT w - k).toNat < n → (w 207 0 0 ≤ k) → (fnd (fun i => w 200 0 i) c (m_vT w - w 207 0 0).toNat (w 207 0 0) = fnd (fun i => w 200 0 i) c (m_vT w - k).toNat k) → (k ≤ 401) → RM (w) μ → X κ 0 0 (w) 7 [some (rv μ.1), some (.int (I c)), some (.int (I k))] [] := by
    intro n
    induction n with
    | zero => intro k hm; exact absurd hm (Nat.not_lt_zero _)
    | succ n ih =>
      intro k hm hi hj hk4 hR
      refine X_iload_n 8 hO dX13_searches_7 rfl rfl ?_
      refine X_aload_n 9 hO dX13_searches_8 rfl rfl ?_
      refine XM_callVi 12 hO hD hR lX13_297 [] rfl dX13_searches_9 rfl (c_viewTo _ _ _ (by omega)) (by decide) (by simp only [List.map_cons, List.map_nil, rv_cat]; exact Nat.le_of_ble_eq_true rfl) (fun r_9 w_9 hr_9 hp_9 hR => ?_)
      obtain ⟨e1_9, e2_9⟩ := hp_9
      subst e1_9
      subst e2_9
      refine X_icmp_ge 15 49 hO dX13_searches_12 rfl rfl (by omega) (by omega) (fun hc_12 => ?_) (fun hc_12 => ?_)
      ·
        refine X_iconst 50 hO dX13_searches_49 rfl ?_
        exact XM_iret hO hF hR rfl (by first | exact Or.inl rfl | exact Or.inr ⟨rfl, bi_01 _⟩ | exact Or.inr ⟨rfl, by omega⟩) dX13_searches_50 (by omega) (by unfold m_sea; rw [hj, fnd_no (by omega)]; exact ⟨rfl, rfl⟩)
      ·
        refine X_aload_n 16 hO dX13_searches_15 rfl rfl ?_
        refine ga_7 19 hO hR dX13_searches_16 rfl ?_
        refine X_iload_n 20 hO dX13_searches_19 rfl rfl ?_
        refine ma_ld (L := 1600) (c := 200) 21 hO hR rfl rfl rfl dX13_searches_20 rfl (by omega) (by omega) (fun hi_20 => ?_)
        refine X_iload_n 22 hO dX13_searches_21 rfl rfl ?_
        refine X_icmp_ne 25 43 hO dX13_searches_22 rfl rfl (by omega) (by omega) (fun hc_22 => ?_) (fun hc_22 => ?_)
        ·
          refine X_iinc 46 hO dX13_searches_43 rfl rfl ?_
          refine X_goto hO dX13_searches_46 (tgt := 7) rfl ?_
          exact ih (k + 1) (by omega) (by omega) (hj.trans (fnd_next (by omega) (by show w 200 0 k ≠ c; omega))) (by omega) hR
        ·
          refine X_aload_n 26 hO dX13_searches_25 rfl rfl ?_
          refine ga_31 29 hO hR dX13_searches_26 rfl ?_
          refine X_iconst 30 hO dX13_searches_29 rfl ?_
          refine X_iload_n 31 hO dX13_searches_30 rfl rfl ?_
          refine X_iconst 32 hO dX13_searches_31 rfl ?_
          refine X_iadd 33 hO dX13_searches_32 rfl ?_
          refine ma_st (L := 4) (c := 207) 34 hO hR rfl rfl rfl dX13_searches_33 rfl (by omega) (by omega) (by omega) (fun hR => ?_)
          refine X_aload_n 35 hO dX13_searches_34 rfl rfl ?_
          refine X_iload_n 36 hO dX13_searches_35 rfl rfl ?_
          refine X_iconst 37 hO dX13_searches_36 rfl ?_
          refine X_iadd 38 hO dX13_searches_37 rfl ?_
          refine pa_303 41 hO hR dX13_searches_38 rfl (by omega) (fun hR => ?_)
          refine X_iconst 42 hO dX13_searches_41 rfl ?_
          exact XM_iret hO hF hR rfl (by first | exact Or.inl rfl | exact Or.inr ⟨rfl, bi_01 _⟩ | exact Or.inr ⟨rfl, by omega⟩) dX13_searches_42 (by omega) (by unfold m_sea; rw [hj, fnd_hit (by omega) (by show w 200 0 k = c; omega)]; unfold m_sea2; rw [if_neg (by omega)]; exact ⟨rfl, rfl⟩)
  exact LP7 _ (w 207 0 0) (Nat.lt_succ_self _) (by omega) rfl (by omega) hR
theorem dX13_marksPlace_0 : decode cX13_marksPlace 0 = .ok (.aload_n 0, 1) := by decide +kernel
theorem dX13_marksPlace_1 : decode cX13_marksPlace 1 = .ok (.aload_n 0, 1) := by decide +kernel
theorem dX13_marksPlace_2 : decode cX13_marksPlace 2 = .ok (.getfield 16, 3) := by decide +kernel
theorem dX13_marksPlace_5 : decode cX13_marksPlace 5 = .ok (.iload_n 1, 1) := by decide +kernel
theorem dX13_marksPlace_6 : decode cX13_marksPlace 6 = .ok (.iaload, 1) := by decide +kernel
theorem dX13_marksPlace_7 : decode cX13_marksPlace 7 = .ok (.putfield 303, 3) := by decide +kernel
theorem dX13_marksPlace_10 : decode cX13_marksPlace 10 = .ok (.aload_n 0, 1) := by decide +kernel
theorem dX13_marksPlace_11 : decode cX13_marksPlace 11 = .ok (.getfield 16, 3) := by decide +kernel
theorem dX13_marksPlace_14 : decode cX13_marksPlace 14 = .ok (.iload_n 1, 1) := by decide +kernel
theorem dX13_marksPlace_15 : decode cX13_marksPlace 15 = .ok (.aload_n 0, 1) := by decide +kernel
theorem dX13_marksPlace_16 : decode cX13_marksPlace 16 = .ok (.getfield 31, 3) := by decide +kernel
theorem dX13_marksPlace_19 : decode cX13_marksPlace 19 = .ok (.iconst 0, 1) := by decide +kernel
theorem dX13_marksPlace_20 : decode cX13_marksPlace 20 = .ok (.iaload, 1) := by decide +kernel
theorem dX13_marksPlace_21 : decode cX13_marksPlace 21 = .ok (.iastore, 1) := by decide +kernel
theorem dX13_marksPlace_22 : decode cX13_marksPlace 22 = .ok (.aload_n 0, 1) := by decide +kernel
theorem dX13_marksPlace_23 : decode cX13_marksPlace 23 = .ok (.getfield 19, 3) := by decide +kernel
theorem dX13_marksPlace_26 : decode cX13_marksPlace 26 = .ok (.iload_n 1, 1) := by decide +kernel
theorem dX13_marksPlace_27 : decode cX13_marksPlace 27 = .ok (.iload_n 2, 1) := by decide +kernel
theorem dX13_marksPlace_28 : decode cX13_marksPlace 28 = .ok (.iastore, 1) := by decide +kernel
theorem dX13_marksPlace_29 : decode cX13_marksPlace 29 = .ok (.aload_n 0, 1) := by decide +kernel
theorem dX13_marksPlace_30 : decode cX13_marksPlace 30 = .ok (.iconst 3, 1) := by decide +kernel
theorem dX13_marksPlace_31 : decode cX13_marksPlace 31 = .ok (.aload_n 0, 1) := by decide +kernel
theorem dX13_marksPlace_32 : decode cX13_marksPlace 32 = .ok (.getfield 31, 3) := by decide +kernel
theorem dX13_marksPlace_35 : decode cX13_marksPlace 35 = .ok (.iconst 0, 1) := by decide +kernel
theorem dX13_marksPlace_36 : decode cX13_marksPlace 36 = .ok (.iaload, 1) := by decide +kernel
theorem dX13_marksPlace_37 : decode cX13_marksPlace 37 = .ok (.iconst 2, 1) := by decide +kernel
theorem dX13_marksPlace_38 : decode cX13_marksPlace 38 = .ok (.iload_n 1, 1) := by decide +kernel
theorem dX13_marksPlace_39 : decode cX13_marksPlace 39 = .ok (.imul, 1) := by decide +kernel
theorem dX13_marksPlace_40 : decode cX13_marksPlace 40 = .ok (.iload_n 2, 1) := by decide +kernel
theorem dX13_marksPlace_41 : decode cX13_marksPlace 41 = .ok (.iadd, 1) := by decide +kernel
theorem dX13_marksPlace_42 : decode cX13_marksPlace 42 = .ok (.invokevirtual 206, 3) := by decide +kernel
theorem dX13_marksPlace_45 : decode cX13_marksPlace 45 = .ok (.iconst 0, 1) := by decide +kernel
theorem dX13_marksPlace_46 : decode cX13_marksPlace 46 = .ok (.ireturn, 1) := by decide +kernel
set_option maxRecDepth 4000 in
theorem c_marksPlace (γ : LC) (μ : MU) (w : Mm) (k g : Int) (hk : 0 ≤ k ∧ k ≤ 5) (hg : g = 0 ∨ g = 1) (hp : 0 ≤ w 207 0 0 ∧ w 207 0 0 ≤ 400) (hst : 0 ≤ w 120 μ.1 0 ∧ w 120 μ.1 0 < 29990) : CMi γ μ 1 mX13_marksPlace [.int (I k), .int (I g)] w (fun r w' => r = 0 ∧ w' = m_mkp μ k g w) := by
  refine CMi_of rfl (by simp [rv_cat, Value.category]) rfl ?_
  rintro κ hO hF rfl hR
  have hD := hF.dp
  show X κ 0 0 w 0 [some (rv μ.1), some (.int (I k)), some (.int (I g))] []
  refine X_aload_n 1 hO dX13_marksPlace_0 rfl rfl ?_
  refine X_aload_n 2 hO dX13_marksPlace_1 rfl rfl ?_
  refine ga_16 5 hO hR dX13_marksPlace_2 rfl ?_
  refine X_iload_n 6 hO dX13_marksPlace_5 rfl rfl ?_
  refine ma_ld (L := 24) (c := 202) 7 hO hR rfl rfl rfl dX13_marksPlace_6 rfl (by omega) (by omega) (fun hi_6 => ?_)
  refine pa_303 10 hO hR dX13_marksPlace_7 rfl (by omega) (fun hR => ?_)
  refine X_aload_n 11 hO dX13_marksPlace_10 rfl rfl ?_
  refine ga_16 14 hO hR dX13_marksPlace_11 rfl ?_
  refine X_iload_n 15 hO dX13_marksPlace_14 rfl rfl ?_
  refine X_aload_n 16 hO dX13_marksPlace_15 rfl rfl ?_
  refine ga_31 19 hO hR dX13_marksPlace_16 rfl ?_
  refine X_iconst 20 hO dX13_marksPlace_19 rfl ?_
  refine ma_ld (L := 4) (c := 207) 21 hO hR rfl rfl rfl dX13_marksPlace_20 rfl (by omega) (by omega) (fun hi_20 => ?_)
  rw [up_k _ (show (207 : Nat) ≠ 136 by decide)]
  refine ma_st (L := 24) (c := 202) 22 hO hR rfl rfl rfl dX13_marksPlace_21 rfl (by omega) (by omega) (by omega) (fun hR => ?_)
  refine X_aload_n 23 hO dX13_marksPlace_22 rfl rfl ?_
  refine ga_19 26 hO hR dX13_marksPlace_23 rfl ?_
  refine X_iload_n 27 hO dX13_marksPlace_26 rfl rfl ?_
  refine X_iload_n 28 hO dX13_marksPlace_27 rfl rfl ?_
  refine ma_st (L := 24) (c := 203) 29 hO hR rfl rfl rfl dX13_marksPlace_28 rfl (by omega) (by omega) (by omega) (fun hR => ?_)
  refine X_aload_n 30 hO dX13_marksPlace_29 rfl rfl ?_
  refine X_iconst 31 hO dX13_marksPlace_30 rfl ?_
  refine X_aload_n 32 hO dX13_marksPlace_31 rfl rfl ?_
  refine ga_31 35 hO hR dX13_marksPlace_32 rfl ?_
  refine X_iconst 36 hO dX13_marksPlace_35 rfl ?_
  refine ma_ld (L := 4) (c := 207) 37 hO hR rfl rfl rfl dX13_marksPlace_36 rfl (by omega) (by omega) (fun hi_36 => ?_)
  refine X_iconst 38 hO dX13_marksPlace_37 rfl ?_
  refine X_iload_n 39 hO dX13_marksPlace_38 rfl rfl ?_
  refine X_imul 40 hO dX13_marksPlace_39 rfl ?_
  refine X_iload_n 41 hO dX13_marksPlace_40 rfl rfl ?_
  refine X_iadd 42 hO dX13_marksPlace_41 rfl ?_
  rw [up_k _ (show (207 : Nat) ≠ 203 by decide), up_k _ (show (207 : Nat) ≠ 202 by decide), up_k _ (show (207 : Nat) ≠ 136 by decide)]
  refine XM_callVv 45 hO hD hR lX13_206 [_, _, _] rfl dX13_marksPlace_42 rfl (c_steps _ _ _ _ _ _ (by rw [up_k _ (by decide), up_k _ (by decide), up_k _ (by decide)]; omega) (by omega) (by omega) (by omega)) (by decide) (by simp only [List.map_cons, List.map_nil, rv_cat]; exact Nat.le_of_ble_eq_true rfl) (fun w_42 hp_42 hR => ?_)
  subst hp_42
  refine X_iconst 46 hO dX13_marksPlace_45 rfl ?_
  exact XM_iret hO hF hR rfl (by first | exact Or.inl rfl | exact Or.inr ⟨rfl, bi_01 _⟩ | exact Or.inr ⟨rfl, by omega⟩) dX13_marksPlace_46 (by omega) ⟨rfl, rfl⟩
theorem dX13_clears_0 : decode cX13_clears 0 = .ok (.aload_n 0, 1) := by decide +kernel
theorem dX13_clears_1 : decode cX13_clears 1 = .ok (.getfield 16, 3) := by decide +kernel
theorem dX13_clears_4 : decode cX13_clears 4 = .ok (.iload_n 1, 1) := by decide +kernel
theorem dX13_clears_5 : decode cX13_clears 5 = .ok (.iaload, 1) := by decide +kernel
theorem dX13_clears_6 : decode cX13_clears 6 = .ok (.iconst (-1), 1) := by decide +kernel
theorem dX13_clears_7 : decode cX13_clears 7 = .ok (.if_icmp .ne 5, 3) := by decide +kernel
theorem dX13_clears_10 : decode cX13_clears 10 = .ok (.iconst 3, 1) := by decide +kernel
theorem dX13_clears_11 : decode cX13_clears 11 = .ok (.ireturn, 1) := by decide +kernel
theorem dX13_clears_12 : decode cX13_clears 12 = .ok (.aload_n 0, 1) := by decide +kernel
theorem dX13_clears_13 : decode cX13_clears 13 = .ok (.aload_n 0, 1) := by decide +kernel
theorem dX13_clears_14 : decode cX13_clears 14 = .ok (.getfield 16, 3) := by decide +kernel
theorem dX13_clears_17 : decode cX13_clears 17 = .ok (.iload_n 1, 1) := by decide +kernel
theorem dX13_clears_18 : decode cX13_clears 18 = .ok (.iaload, 1) := by decide +kernel
theorem dX13_clears_19 : decode cX13_clears 19 = .ok (.putfield 303, 3) := by decide +kernel
theorem dX13_clears_22 : decode cX13_clears 22 = .ok (.aload_n 0, 1) := by decide +kernel
theorem dX13_clears_23 : decode cX13_clears 23 = .ok (.getfield 16, 3) := by decide +kernel
theorem dX13_clears_26 : decode cX13_clears 26 = .ok (.iload_n 1, 1) := by decide +kernel
theorem dX13_clears_27 : decode cX13_clears 27 = .ok (.iconst (-1), 1) := by decide +kernel
theorem dX13_clears_28 : decode cX13_clears 28 = .ok (.iastore, 1) := by decide +kernel
theorem dX13_clears_29 : decode cX13_clears 29 = .ok (.aload_n 0, 1) := by decide +kernel
theorem dX13_clears_30 : decode cX13_clears 30 = .ok (.iconst 3, 1) := by decide +kernel
theorem dX13_clears_31 : decode cX13_clears 31 = .ok (.sipush 511, 3) := by decide +kernel
theorem dX13_clears_34 : decode cX13_clears 34 = .ok (.iconst 2, 1) := by decide +kernel
theorem dX13_clears_35 : decode cX13_clears 35 = .ok (.iload_n 1, 1) := by decide +kernel
theorem dX13_clears_36 : decode cX13_clears 36 = .ok (.imul, 1) := by decide +kernel
theorem dX13_clears_37 : decode cX13_clears 37 = .ok (.invokevirtual 206, 3) := by decide +kernel
theorem dX13_clears_40 : decode cX13_clears 40 = .ok (.iconst 0, 1) := by decide +kernel
theorem dX13_clears_41 : decode cX13_clears 41 = .ok (.ireturn, 1) := by decide +kernel
set_option maxRecDepth 4000 in
theorem c_clears (γ : LC) (μ : MU) (w : Mm) (k : Int) (hk : 0 ≤ k ∧ k ≤ 5) (hst : 0 ≤ w 120 μ.1 0 ∧ w 120 μ.1 0 < 29990) : CMi γ μ 1 mX13_clears [.int (I k)] w (fun r w' => r = (m_clr μ k w).1 ∧ w' = (m_clr μ k w).2) := by
  refine CMi_of rfl (by simp [rv_cat, Value.category]) rfl ?_
  rintro κ hO hF rfl hR
  have hD := hF.dp
  show X κ 0 0 w 0 [some (rv μ.1), some (.int (I k))] []
  refine X_aload_n 1 hO dX13_clears_0 rfl rfl ?_
  refine ga_16 4 hO hR dX13_clears_1 rfl ?_
  refine X_iload_n 5 hO dX13_clears_4 rfl rfl ?_
  refine ma_ld (L := 24) (c := 202) 6 hO hR rfl rfl rfl dX13_clears_5 rfl (by omega) (by omega) (fun hi_5 => ?_)
  refine X_iconst 7 hO dX13_clears_6 rfl ?_
  refine X_icmp_ne 10 12 hO dX13_clears_7 rfl rfl (by omega) (by omega) (fun hc_7 => ?_) (fun hc_7 => ?_)
  ·
    refine X_aload_n 13 hO dX13_clears_12 rfl rfl ?_
    refine X_aload_n 14 hO dX13_clears_13 rfl rfl ?_
    refine ga_16 17 hO hR dX13_clears_14 rfl ?_
    refine X_iload_n 18 hO dX13_clears_17 rfl rfl ?_
    refine ma_ld (L := 24) (c := 202) 19 hO hR rfl rfl rfl dX13_clears_18 rfl (by omega) (by omega) (fun hi_18 => ?_)
    refine pa_303 22 hO hR dX13_clears_19 rfl (by omega) (fun hR => ?_)
    refine X_aload_n 23 hO dX13_clears_22 rfl rfl ?_
    refine ga_16 26 hO hR dX13_clears_23 rfl ?_
    refine X_iload_n 27 hO dX13_clears_26 rfl rfl ?_
    refine X_iconst 28 hO dX13_clears_27 rfl ?_
    refine ma_st (L := 24) (c := 202) 29 hO hR rfl rfl rfl dX13_clears_28 rfl (by omega) (by omega) (by omega) (fun hR => ?_)
    refine X_aload_n 30 hO dX13_clears_29 rfl rfl ?_
    refine X_iconst 31 hO dX13_clears_30 rfl ?_
    refine X_sipush 34 hO dX13_clears_31 rfl (by decide) ?_
    refine X_iconst 35 hO dX13_clears_34 rfl ?_
    refine X_iload_n 36 hO dX13_clears_35 rfl rfl ?_
    refine X_imul 37 hO dX13_clears_36 rfl ?_
    refine XM_callVv 40 hO hD hR lX13_206 [_, _, _] rfl dX13_clears_37 rfl (c_steps _ _ _ _ _ _ (by rw [up_k _ (by decide), up_k _ (by decide)]; omega) (by omega) (by omega) (by omega)) (by decide) (by simp only [List.map_cons, List.map_nil, rv_cat]; exact Nat.le_of_ble_eq_true rfl) (fun w_37 hp_37 hR => ?_)
    subst hp_37
    refine X_iconst 41 hO dX13_clears_40 rfl ?_
    exact XM_iret hO hF hR rfl (by first | exact Or.inl rfl | exact Or.inr ⟨rfl, bi_01 _⟩ | exact Or.inr ⟨rfl, by omega⟩) dX13_clears_41 (by omega) (by unfold m_clr; (repeat (first | rw [if_pos (by omega)] | rw [if_neg (by omega)])); exact ⟨rfl, rfl⟩)
  ·
    refine X_iconst 11 hO dX13_clears_10 rfl ?_
    exact XM_iret hO hF hR rfl (by first | exact Or.inl rfl | exact Or.inr ⟨rfl, bi_01 _⟩ | exact Or.inr ⟨rfl, by omega⟩) dX13_clears_11 (by omega) (by unfold m_clr; (repeat (first | rw [if_pos (by omega)] | rw [if_neg (by omega)])); exact ⟨rfl, rfl⟩)
theorem dX13_narrows_0 : decode cX13_narrows 0 = .ok (.aload_n 0, 1) := by decide +kernel
theorem dX13_narrows_1 : decode cX13_narrows 1 = .ok (.getfield 16, 3) := by decide +kernel
theorem dX13_narrows_4 : decode cX13_narrows 4 = .ok (.iload_n 1, 1) := by decide +kernel
theorem dX13_narrows_5 : decode cX13_narrows 5 = .ok (.iaload, 1) := by decide +kernel
theorem dX13_narrows_6 : decode cX13_narrows 6 = .ok (.iconst (-1), 1) := by decide +kernel
theorem dX13_narrows_7 : decode cX13_narrows 7 = .ok (.if_icmp .eq 16, 3) := by decide +kernel
theorem dX13_narrows_10 : decode cX13_narrows 10 = .ok (.aload_n 0, 1) := by decide +kernel
theorem dX13_narrows_11 : decode cX13_narrows 11 = .ok (.aload_n 0, 1) := by decide +kernel
theorem dX13_narrows_12 : decode cX13_narrows 12 = .ok (.getfield 16, 3) := by decide +kernel
theorem dX13_narrows_15 : decode cX13_narrows 15 = .ok (.iload_n 1, 1) := by decide +kernel
theorem dX13_narrows_16 : decode cX13_narrows 16 = .ok (.iaload, 1) := by decide +kernel
theorem dX13_narrows_17 : decode cX13_narrows 17 = .ok (.invokevirtual 312, 3) := by decide +kernel
theorem dX13_narrows_20 : decode cX13_narrows 20 = .ok (.ifCond .ne 5, 3) := by decide +kernel
theorem dX13_narrows_23 : decode cX13_narrows 23 = .ok (.iconst 3, 1) := by decide +kernel
theorem dX13_narrows_24 : decode cX13_narrows 24 = .ok (.ireturn, 1) := by decide +kernel
theorem dX13_narrows_25 : decode cX13_narrows 25 = .ok (.aload_n 0, 1) := by decide +kernel
theorem dX13_narrows_26 : decode cX13_narrows 26 = .ok (.getfield 40, 3) := by decide +kernel
theorem dX13_narrows_29 : decode cX13_narrows 29 = .ok (.iconst 0, 1) := by decide +kernel
theorem dX13_narrows_30 : decode cX13_narrows 30 = .ok (.iaload, 1) := by decide +kernel
theorem dX13_narrows_31 : decode cX13_narrows 31 = .ok (.iconst 4, 1) := by decide +kernel
theorem dX13_narrows_32 : decode cX13_narrows 32 = .ok (.if_icmp .ne 6, 3) := by decide +kernel
theorem dX13_narrows_35 : decode cX13_narrows 35 = .ok (.bipush 6, 2) := by decide +kernel
theorem dX13_narrows_37 : decode cX13_narrows 37 = .ok (.ireturn, 1) := by decide +kernel
theorem dX13_narrows_38 : decode cX13_narrows 38 = .ok (.aload_n 0, 1) := by decide +kernel
theorem dX13_narrows_39 : decode cX13_narrows 39 = .ok (.getfield 16, 3) := by decide +kernel
theorem dX13_narrows_42 : decode cX13_narrows 42 = .ok (.iload_n 1, 1) := by decide +kernel
theorem dX13_narrows_43 : decode cX13_narrows 43 = .ok (.iaload, 1) := by decide +kernel
theorem dX13_narrows_44 : decode cX13_narrows 44 = .ok (.aload_n 0, 1) := by decide +kernel
theorem dX13_narrows_45 : decode cX13_narrows 45 = .ok (.getfield 31, 3) := by decide +kernel
theorem dX13_narrows_48 : decode cX13_narrows 48 = .ok (.iconst 0, 1) := by decide +kernel
theorem dX13_narrows_49 : decode cX13_narrows 49 = .ok (.iaload, 1) := by decide +kernel
theorem dX13_narrows_50 : decode cX13_narrows 50 = .ok (.if_icmp .ge 7, 3) := by decide +kernel
theorem dX13_narrows_53 : decode cX13_narrows 53 = .ok (.iconst 1, 1) := by decide +kernel
theorem dX13_narrows_54 : decode cX13_narrows 54 = .ok (.goto 4, 3) := by decide +kernel
theorem dX13_narrows_57 : decode cX13_narrows 57 = .ok (.iconst 0, 1) := by decide +kernel
theorem dX13_narrows_58 : decode cX13_narrows 58 = .ok (.istore_n 2, 1) := by decide +kernel
theorem dX13_narrows_59 : decode cX13_narrows 59 = .ok (.aload_n 0, 1) := by decide +kernel
theorem dX13_narrows_60 : decode cX13_narrows 60 = .ok (.getfield 34, 3) := by decide +kernel
theorem dX13_narrows_63 : decode cX13_narrows 63 = .ok (.aload_n 0, 1) := by decide +kernel
theorem dX13_narrows_64 : decode cX13_narrows 64 = .ok (.getfield 40, 3) := by decide +kernel
theorem dX13_narrows_67 : decode cX13_narrows 67 = .ok (.iconst 0, 1) := by decide +kernel
theorem dX13_narrows_68 : decode cX13_narrows 68 = .ok (.iaload, 1) := by decide +kernel
theorem dX13_narrows_69 : decode cX13_narrows 69 = .ok (.iload_n 2, 1) := by decide +kernel
theorem dX13_narrows_70 : decode cX13_narrows 70 = .ok (.ifCond .eq 12, 3) := by decide +kernel
theorem dX13_narrows_73 : decode cX13_narrows 73 = .ok (.aload_n 0, 1) := by decide +kernel
theorem dX13_narrows_74 : decode cX13_narrows 74 = .ok (.getfield 16, 3) := by decide +kernel
theorem dX13_narrows_77 : decode cX13_narrows 77 = .ok (.iload_n 1, 1) := by decide +kernel
theorem dX13_narrows_78 : decode cX13_narrows 78 = .ok (.iaload, 1) := by decide +kernel
theorem dX13_narrows_79 : decode cX13_narrows 79 = .ok (.goto 9, 3) := by decide +kernel
theorem dX13_narrows_82 : decode cX13_narrows 82 = .ok (.aload_n 0, 1) := by decide +kernel
theorem dX13_narrows_83 : decode cX13_narrows 83 = .ok (.getfield 31, 3) := by decide +kernel
theorem dX13_narrows_86 : decode cX13_narrows 86 = .ok (.iconst 0, 1) := by decide +kernel
theorem dX13_narrows_87 : decode cX13_narrows 87 = .ok (.iaload, 1) := by decide +kernel
theorem dX13_narrows_88 : decode cX13_narrows 88 = .ok (.iastore, 1) := by decide +kernel
theorem dX13_narrows_89 : decode cX13_narrows 89 = .ok (.aload_n 0, 1) := by decide +kernel
theorem dX13_narrows_90 : decode cX13_narrows 90 = .ok (.getfield 37, 3) := by decide +kernel
theorem dX13_narrows_93 : decode cX13_narrows 93 = .ok (.aload_n 0, 1) := by decide +kernel
theorem dX13_narrows_94 : decode cX13_narrows 94 = .ok (.getfield 40, 3) := by decide +kernel
theorem dX13_narrows_97 : decode cX13_narrows 97 = .ok (.iconst 0, 1) := by decide +kernel
theorem dX13_narrows_98 : decode cX13_narrows 98 = .ok (.iaload, 1) := by decide +kernel
theorem dX13_narrows_99 : decode cX13_narrows 99 = .ok (.iload_n 2, 1) := by decide +kernel
theorem dX13_narrows_100 : decode cX13_narrows 100 = .ok (.ifCond .eq 12, 3) := by decide +kernel
theorem dX13_narrows_103 : decode cX13_narrows 103 = .ok (.aload_n 0, 1) := by decide +kernel
theorem dX13_narrows_104 : decode cX13_narrows 104 = .ok (.getfield 31, 3) := by decide +kernel
theorem dX13_narrows_107 : decode cX13_narrows 107 = .ok (.iconst 0, 1) := by decide +kernel
theorem dX13_narrows_108 : decode cX13_narrows 108 = .ok (.iaload, 1) := by decide +kernel
theorem dX13_narrows_109 : decode cX13_narrows 109 = .ok (.goto 9, 3) := by decide +kernel
theorem dX13_narrows_112 : decode cX13_narrows 112 = .ok (.aload_n 0, 1) := by decide +kernel
theorem dX13_narrows_113 : decode cX13_narrows 113 = .ok (.getfield 16, 3) := by decide +kernel
theorem dX13_narrows_116 : decode cX13_narrows 116 = .ok (.iload_n 1, 1) := by decide +kernel
theorem dX13_narrows_117 : decode cX13_narrows 117 = .ok (.iaload, 1) := by decide +kernel
theorem dX13_narrows_118 : decode cX13_narrows 118 = .ok (.iastore, 1) := by decide +kernel
theorem dX13_narrows_119 : decode cX13_narrows 119 = .ok (.aload_n 0, 1) := by decide +kernel
theorem dX13_narrows_120 : decode cX13_narrows 120 = .ok (.getfield 40, 3) := by decide +kernel
theorem dX13_narrows_123 : decode cX13_narrows 123 = .ok (.iconst 0, 1) := by decide +kernel
theorem dX13_narrows_124 : decode cX13_narrows 124 = .ok (.dup2, 1) := by decide +kernel
theorem dX13_narrows_125 : decode cX13_narrows 125 = .ok (.iaload, 1) := by decide +kernel
theorem dX13_narrows_126 : decode cX13_narrows 126 = .ok (.iconst 1, 1) := by decide +kernel
theorem dX13_narrows_127 : decode cX13_narrows 127 = .ok (.iadd, 1) := by decide +kernel
theorem dX13_narrows_128 : decode cX13_narrows 128 = .ok (.iastore, 1) := by decide +kernel
theorem dX13_narrows_129 : decode cX13_narrows 129 = .ok (.aload_n 0, 1) := by decide +kernel
theorem dX13_narrows_130 : decode cX13_narrows 130 = .ok (.aload_n 0, 1) := by decide +kernel
theorem dX13_narrows_131 : decode cX13_narrows 131 = .ok (.getfield 40, 3) := by decide +kernel
theorem dX13_narrows_134 : decode cX13_narrows 134 = .ok (.iconst 0, 1) := by decide +kernel
theorem dX13_narrows_135 : decode cX13_narrows 135 = .ok (.iaload, 1) := by decide +kernel
theorem dX13_narrows_136 : decode cX13_narrows 136 = .ok (.putfield 303, 3) := by decide +kernel
theorem dX13_narrows_139 : decode cX13_narrows 139 = .ok (.iconst 0, 1) := by decide +kernel
theorem dX13_narrows_140 : decode cX13_narrows 140 = .ok (.ireturn, 1) := by decide +kernel
set_option maxRecDepth 4000 in
theorem c_narrows (γ : LC) (μ : MU) (w : Mm) (k : Int) (hk : 0 ≤ k ∧ k ≤ 5) (hv : 0 ≤ w 210 0 0 ∧ w 210 0 0 ≤ 4) : CMi γ μ 2 mX13_narrows [.int (I k)] w (fun r w' => r = (m_nar μ k w).1 ∧ w' = (m_nar μ k w).2) := by
  refine CMi_of rfl (by simp [rv_cat, Value.category]) rfl ?_
  rintro κ hO hF rfl hR
  have hD := hF.dp
  show X κ 0 0 w 0 [some (rv μ.1), some (.int (I k)), none] []
  refine X_aload_n 1 hO dX13_narrows_0 rfl rfl ?_
  refine ga_16 4 hO hR dX13_narrows_1 rfl ?_
  refine X_iload_n 5 hO dX13_narrows_4 rfl rfl ?_
  refine ma_ld (L := 24) (c := 202) 6 hO hR rfl rfl rfl dX13_narrows_5 rfl (by omega) (by omega) (fun hi_5 => ?_)
  try simp (disch := decide) only [up_k, up_s, step_at, pool_at, poolN_at, opens_at, closes_at, fl_at, del_at, ins_at, rep_at, psh_at, trn_at, tak_at, pEn_at, cpQ_at, cpP_at, cpT_at] at hi_5 ⊢
  refine X_iconst 7 hO dX13_narrows_6 rfl ?_
  refine X_icmp_eq 10 23 hO dX13_narrows_7 rfl rfl (by omega) (by omega) (fun hc_7 => ?_) (fun hc_7 => ?_)
  ·
    refine X_iconst 24 hO dX13_narrows_23 rfl ?_
    exact XM_iret hO hF hR rfl (by first | exact Or.inl rfl | exact Or.inr ⟨rfl, bi_01 _⟩ | exact Or.inr ⟨rfl, by omega⟩) dX13_narrows_24 (by omega) (by unfold m_nar; (repeat (first | rw [if_pos (by omega)] | rw [if_neg (by omega)])); exact ⟨rfl, rfl⟩)
  ·
    refine X_aload_n 11 hO dX13_narrows_10 rfl rfl ?_
    refine X_aload_n 12 hO dX13_narrows_11 rfl rfl ?_
    refine ga_16 15 hO hR dX13_narrows_12 rfl ?_
    refine X_iload_n 16 hO dX13_narrows_15 rfl rfl ?_
    refine ma_ld (L := 24) (c := 202) 17 hO hR rfl rfl rfl dX13_narrows_16 rfl (by omega) (by omega) (fun hi_16 => ?_)
    try simp (disch := decide) only [up_k, up_s, step_at, pool_at, poolN_at, opens_at, closes_at, fl_at, del_at, ins_at, rep_at, psh_at, trn_at, tak_at, pEn_at, cpQ_at, cpP_at, cpT_at] at hi_16 ⊢
    refine XM_callVi 20 hO hD hR lX13_312 [_] rfl dX13_narrows_17 rfl (c_isInView _ _ _ _ (by omega) (by omega)) (by decide) (by simp only [List.map_cons, List.map_nil, rv_cat]; exact Nat.le_of_ble_eq_true rfl) (fun r_17 w_17 hr_17 hp_17 hR => ?_)
    obtain ⟨e1_17, e2_17⟩ := hp_17
    subst e1_17
    subst e2_17
    refine X_if_ne 23 25 hO dX13_narrows_20 rfl rfl (by omega) (fun hc_20 => ?_) (fun hc_20 => ?_)
    ·
      try simp only [bi_0, bi_ne, ne_eq, Classical.not_not] at hc_20
      refine X_aload_n 26 hO dX13_narrows_25 rfl rfl ?_
      refine ga_40 29 hO hR dX13_narrows_26 rfl ?_
      refine X_iconst 30 hO dX13_narrows_29 rfl ?_
      refine ma_ld (L := 4) (c := 210) 31 hO hR rfl rfl rfl dX13_narrows_30 rfl (by omega) (by omega) (fun hi_30 => ?_)
      try simp (disch := decide) only [up_k, up_s, step_at, pool_at, poolN_at, opens_at, closes_at, fl_at, del_at, ins_at, rep_at, psh_at, trn_at, tak_at, pEn_at, cpQ_at, cpP_at, cpT_at] at hi_30 ⊢
      refine X_iconst 32 hO dX13_narrows_31 rfl ?_
      refine X_icmp_ne 35 38 hO dX13_narrows_32 rfl rfl (by omega) (by omega) (fun hc_32 => ?_) (fun hc_32 => ?_)
      ·
        refine X_aload_n 39 hO dX13_narrows_38 rfl rfl ?_
        refine ga_16 42 hO hR dX13_narrows_39 rfl ?_
        refine X_iload_n 43 hO dX13_narrows_42 rfl rfl ?_
        refine ma_ld (L := 24) (c := 202) 44 hO hR rfl rfl rfl dX13_narrows_43 rfl (by omega) (by omega) (fun hi_43 => ?_)
        try simp (disch := decide) only [up_k, up_s, step_at, pool_at, poolN_at, opens_at, closes_at, fl_at, del_at, ins_at, rep_at, psh_at, trn_at, tak_at, pEn_at, cpQ_at, cpP_at, cpT_at] at hi_43 ⊢
        refine X_aload_n 45 hO dX13_narrows_44 rfl rfl ?_
        refine ga_31 48 hO hR dX13_narrows_45 rfl ?_
        refine X_iconst 49 hO dX13_narrows_48 rfl ?_
        refine ma_ld (L := 4) (c := 207) 50 hO hR rfl rfl rfl dX13_narrows_49 rfl (by omega) (by omega) (fun hi_49 => ?_)
        try simp (disch := decide) only [up_k, up_s, step_at, pool_at, poolN_at, opens_at, closes_at, fl_at, del_at, ins_at, rep_at, psh_at, trn_at, tak_at, pEn_at, cpQ_at, cpP_at, cpT_at] at hi_49 ⊢
        refine X_icmp_ge 53 57 hO dX13_narrows_50 rfl rfl (by omega) (by omega) (fun hc_50 => ?_) (fun hc_50 => ?_)
        ·
          refine X_iconst 58 hO dX13_narrows_57 rfl ?_
          refine X_istore_n 59 hO dX13_narrows_58 rfl rfl ?_
          refine X_aload_n 60 hO dX13_narrows_59 rfl rfl ?_
          refine ga_34 63 hO hR dX13_narrows_60 rfl ?_
          refine X_aload_n 64 hO dX13_narrows_63 rfl rfl ?_
          refine ga_40 67 hO hR dX13_narrows_64 rfl ?_
          refine X_iconst 68 hO dX13_narrows_67 rfl ?_
          refine ma_ld (L := 4) (c := 210) 69 hO hR rfl rfl rfl dX13_narrows_68 rfl (by omega) (by omega) (fun hi_68 => ?_)
          try simp (disch := decide) only [up_k, up_s, step_at, pool_at, poolN_at, opens_at, closes_at, fl_at, del_at, ins_at, rep_at, psh_at, trn_at, tak_at, pEn_at, cpQ_at, cpP_at, cpT_at] at hi_68 ⊢
          refine X_iload_n 70 hO dX13_narrows_69 rfl rfl ?_
          refine X_if_eq 73 82 hO dX13_narrows_70 rfl rfl (by omega) (fun hc_70 => ?_) (fun hc_70 => ?_)
          ·
            refine X_aload_n 83 hO dX13_narrows_82 rfl rfl ?_
            refine ga_31 86 hO hR dX13_narrows_83 rfl ?_
            refine X_iconst 87 hO dX13_narrows_86 rfl ?_
            refine ma_ld (L := 4) (c := 207) 88 hO hR rfl rfl rfl dX13_narrows_87 rfl (by omega) (by omega) (fun hi_87 => ?_)
            try simp (disch := decide) only [up_k, up_s, step_at, pool_at, poolN_at, opens_at, closes_at, fl_at, del_at, ins_at, rep_at, psh_at, trn_at, tak_at, pEn_at, cpQ_at, cpP_at, cpT_at] at hi_87 ⊢
            refine ma_st (L := 16) (c := 208) 89 hO hR rfl rfl rfl dX13_narrows_88 rfl (by omega) (by omega) (by omega) (fun hR => ?_)
            refine X_aload_n 90 hO dX13_narrows_89 rfl rfl ?_
            refine ga_37 93 hO hR dX13_narrows_90 rfl ?_
            refine X_aload_n 94 hO dX13_narrows_93 rfl rfl ?_
            refine ga_40 97 hO hR dX13_narrows_94 rfl ?_
            refine X_iconst 98 hO dX13_narrows_97 rfl ?_
            refine ma_ld (L := 4) (c := 210) 99 hO hR rfl rfl rfl dX13_narrows_98 rfl (by omega) (by omega) (fun hi_98 => ?_)
            try simp (disch := decide) only [up_k, up_s, step_at, pool_at, poolN_at, opens_at, closes_at, fl_at, del_at, ins_at, rep_at, psh_at, trn_at, tak_at, pEn_at, cpQ_at, cpP_at, cpT_at] at hi_98 ⊢
            refine X_iload_n 100 hO dX13_narrows_99 rfl rfl ?_
            refine X_if_eq 103 112 hO dX13_narrows_100 rfl rfl (by omega) (fun hc_100 => ?_) (fun hc_100 => ?_)
            ·
              refine X_aload_n 113 hO dX13_narrows_112 rfl rfl ?_
              refine ga_16 116 hO hR dX13_narrows_113 rfl ?_
              refine X_iload_n 117 hO dX13_narrows_116 rfl rfl ?_
              refine ma_ld (L := 24) (c := 202) 118 hO hR rfl rfl rfl dX13_narrows_117 rfl (by omega) (by omega) (fun hi_117 => ?_)
              try simp (disch := decide) only [up_k, up_s, step_at, pool_at, poolN_at, opens_at, closes_at, fl_at, del_at, ins_at, rep_at, psh_at, trn_at, tak_at, pEn_at, cpQ_at, cpP_at, cpT_at] at hi_117 ⊢
              refine ma_st (L := 16) (c := 209) 119 hO hR rfl rfl rfl dX13_narrows_118 rfl (by omega) (by omega) (by omega) (fun hR => ?_)
              refine X_aload_n 120 hO dX13_narrows_119 rfl rfl ?_
              refine ga_40 123 hO hR dX13_narrows_120 rfl ?_
              refine X_iconst 124 hO dX13_narrows_123 rfl ?_
              refine X_dup2 125 hO dX13_narrows_124 rfl (by first | rfl | exact rv_cat _) (by first | rfl | exact rv_cat _) ?_
              refine ma_ld (L := 4) (c := 210) 126 hO hR rfl rfl rfl dX13_narrows_125 rfl (by omega) (by omega) (fun hi_125 => ?_)
              try simp (disch := decide) only [up_k, up_s, step_at, pool_at, poolN_at, opens_at, closes_at, fl_at, del_at, ins_at, rep_at, psh_at, trn_at, tak_at, pEn_at, cpQ_at, cpP_at, cpT_at] at hi_125 ⊢
              refine X_iconst 127 hO dX13_narrows_126 rfl ?_
              refine X_iadd 128 hO dX13_narrows_127 rfl ?_
              refine ma_st (L := 4) (c := 210) 129 hO hR rfl rfl rfl dX13_narrows_128 rfl (by omega) (by omega) (by omega) (fun hR => ?_)
              refine X_aload_n 130 hO dX13_narrows_129 rfl rfl ?_
              refine X_aload_n 131 hO dX13_narrows_130 rfl rfl ?_
              refine ga_40 134 hO hR dX13_narrows_131 rfl ?_
              refine X_iconst 135 hO dX13_narrows_134 rfl ?_
              refine ma_ld (L := 4) (c := 210) 136 hO hR rfl rfl rfl dX13_narrows_135 rfl (by omega) (by omega) (fun hi_135 => ?_)
              try simp (disch := decide) only [up_k, up_s, step_at, pool_at, poolN_at, opens_at, closes_at, fl_at, del_at, ins_at, rep_at, psh_at, trn_at, tak_at, pEn_at, cpQ_at, cpP_at, cpT_at] at hi_135 ⊢
              refine pa_303 139 hO hR dX13_narrows_136 rfl (by omega) (fun hR => ?_)
              refine X_iconst 140 hO dX13_narrows_139 rfl ?_
              exact XM_iret hO hF hR rfl (by first | exact Or.inl rfl | exact Or.inr ⟨rfl, bi_01 _⟩ | exact Or.inr ⟨rfl, by omega⟩) dX13_narrows_140 (by omega) (by first | (exfalso; omega) | (unfold m_nar; (repeat (first | rw [if_pos (by omega)] | rw [if_neg (by omega)])); refine ⟨rfl, ?_⟩; unfold m_nar1; first | rw [if_pos (by omega), if_pos (by omega)] | rw [if_neg (by omega), if_neg (by omega)]))
            ·
              refine X_aload_n 104 hO dX13_narrows_103 rfl rfl ?_
              refine ga_31 107 hO hR dX13_narrows_104 rfl ?_
              refine X_iconst 108 hO dX13_narrows_107 rfl ?_
              refine ma_ld (L := 4) (c := 207) 109 hO hR rfl rfl rfl dX13_narrows_108 rfl (by omega) (by omega) (fun hi_108 => ?_)
              try simp (disch := decide) only [up_k, up_s, step_at, pool_at, poolN_at, opens_at, closes_at, fl_at, del_at, ins_at, rep_at, psh_at, trn_at, tak_at, pEn_at, cpQ_at, cpP_at, cpT_at] at hi_108 ⊢
              refine X_goto hO dX13_narrows_109 (tgt := 118) rfl ?_
              refine ma_st (L := 16) (c := 209) 119 hO hR rfl rfl rfl dX13_narrows_118 rfl (by omega) (by omega) (by omega) (fun hR => ?_)
              refine X_aload_n 120 hO dX13_narrows_119 rfl rfl ?_
              refine ga_40 123 hO hR dX13_narrows_120 rfl ?_
              refine X_iconst 124 hO dX13_narrows_123 rfl ?_
              refine X_dup2 125 hO dX13_narrows_124 rfl (by first | rfl | exact rv_cat _) (by first | rfl | exact rv_cat _) ?_
              refine ma_ld (L := 4) (c := 210) 126 hO hR rfl rfl rfl dX13_narrows_125 rfl (by omega) (by omega) (fun hi_125 => ?_)
              try simp (disch := decide) only [up_k, up_s, step_at, pool_at, poolN_at, opens_at, closes_at, fl_at, del_at, ins_at, rep_at, psh_at, trn_at, tak_at, pEn_at, cpQ_at, cpP_at, cpT_at] at hi_125 ⊢
              refine X_iconst 127 hO dX13_narrows_126 rfl ?_
              refine X_iadd 128 hO dX13_narrows_127 rfl ?_
              refine ma_st (L := 4) (c := 210) 129 hO hR rfl rfl rfl dX13_narrows_128 rfl (by omega) (by omega) (by omega) (fun hR => ?_)
              refine X_aload_n 130 hO dX13_narrows_129 rfl rfl ?_
              refine X_aload_n 131 hO dX13_narrows_130 rfl rfl ?_
              refine ga_40 134 hO hR dX13_narrows_131 rfl ?_
              refine X_iconst 135 hO dX13_narrows_134 rfl ?_
              refine ma_ld (L := 4) (c := 210) 136 hO hR rfl rfl rfl dX13_narrows_135 rfl (by omega) (by omega) (fun hi_135 => ?_)
              try simp (disch := decide) only [up_k, up_s, step_at, pool_at, poolN_at, opens_at, closes_at, fl_at, del_at, ins_at, rep_at, psh_at, trn_at, tak_at, pEn_at, cpQ_at, cpP_at, cpT_at] at hi_135 ⊢
              refine pa_303 139 hO hR dX13_narrows_136 rfl (by omega) (fun hR => ?_)
              refine X_iconst 140 hO dX13_narrows_139 rfl ?_
              exact XM_iret hO hF hR rfl (by first | exact Or.inl rfl | exact Or.inr ⟨rfl, bi_01 _⟩ | exact Or.inr ⟨rfl, by omega⟩) dX13_narrows_140 (by omega) (by first | (exfalso; omega) | (unfold m_nar; (repeat (first | rw [if_pos (by omega)] | rw [if_neg (by omega)])); refine ⟨rfl, ?_⟩; unfold m_nar1; first | rw [if_pos (by omega), if_pos (by omega)] | rw [if_neg (by omega), if_neg (by omega)]))
          ·
            refine X_aload_n 74 hO dX13_narrows_73 rfl rfl ?_
            refine ga_16 77 hO hR dX13_narrows_74 rfl ?_
            refine X_iload_n 78 hO dX13_narrows_77 rfl rfl ?_
            refine ma_ld (L := 24) (c := 202) 79 hO hR rfl rfl rfl dX13_narrows_78 rfl (by omega) (by omega) (fun hi_78 => ?_)
            try simp (disch := decide) only [up_k, up_s, step_at, pool_at, poolN_at, opens_at, closes_at, fl_at, del_at, ins_at, rep_at, psh_at, trn_at, tak_at, pEn_at, cpQ_at, cpP_at, cpT_at] at hi_78 ⊢
            refine X_goto hO dX13_narrows_79 (tgt := 88) rfl ?_
            refine ma_st (L := 16) (c := 208) 89 hO hR rfl rfl rfl dX13_narrows_88 rfl (by omega) (by omega) (by omega) (fun hR => ?_)
            refine X_aload_n 90 hO dX13_narrows_89 rfl rfl ?_
            refine ga_37 93 hO hR dX13_narrows_90 rfl ?_
            refine X_aload_n 94 hO dX13_narrows_93 rfl rfl ?_
            refine ga_40 97 hO hR dX13_narrows_94 rfl ?_
            refine X_iconst 98 hO dX13_narrows_97 rfl ?_
            refine ma_ld (L := 4) (c := 210) 99 hO hR rfl rfl rfl dX13_narrows_98 rfl (by omega) (by omega) (fun hi_98 => ?_)
            try simp (disch := decide) only [up_k, up_s, step_at, pool_at, poolN_at, opens_at, closes_at, fl_at, del_at, ins_at, rep_at, psh_at, trn_at, tak_at, pEn_at, cpQ_at, cpP_at, cpT_at] at hi_98 ⊢
            refine X_iload_n 100 hO dX13_narrows_99 rfl rfl ?_
            refine X_if_eq 103 112 hO dX13_narrows_100 rfl rfl (by omega) (fun hc_100 => ?_) (fun hc_100 => ?_)
            ·
              refine X_aload_n 113 hO dX13_narrows_112 rfl rfl ?_
              refine ga_16 116 hO hR dX13_narrows_113 rfl ?_
              refine X_iload_n 117 hO dX13_narrows_116 rfl rfl ?_
              refine ma_ld (L := 24) (c := 202) 118 hO hR rfl rfl rfl dX13_narrows_117 rfl (by omega) (by omega) (fun hi_117 => ?_)
              try simp (disch := decide) only [up_k, up_s, step_at, pool_at, poolN_at, opens_at, closes_at, fl_at, del_at, ins_at, rep_at, psh_at, trn_at, tak_at, pEn_at, cpQ_at, cpP_at, cpT_at] at hi_117 ⊢
              refine ma_st (L := 16) (c := 209) 119 hO hR rfl rfl rfl dX13_narrows_118 rfl (by omega) (by omega) (by omega) (fun hR => ?_)
              refine X_aload_n 120 hO dX13_narrows_119 rfl rfl ?_
              refine ga_40 123 hO hR dX13_narrows_120 rfl ?_
              refine X_iconst 124 hO dX13_narrows_123 rfl ?_
              refine X_dup2 125 hO dX13_narrows_124 rfl (by first | rfl | exact rv_cat _) (by first | rfl | exact rv_cat _) ?_
              refine ma_ld (L := 4) (c := 210) 126 hO hR rfl rfl rfl dX13_narrows_125 rfl (by omega) (by omega) (fun hi_125 => ?_)
              try simp (disch := decide) only [up_k, up_s, step_at, pool_at, poolN_at, opens_at, closes_at, fl_at, del_at, ins_at, rep_at, psh_at, trn_at, tak_at, pEn_at, cpQ_at, cpP_at, cpT_at] at hi_125 ⊢
              refine X_iconst 127 hO dX13_narrows_126 rfl ?_
              refine X_iadd 128 hO dX13_narrows_127 rfl ?_
              refine ma_st (L := 4) (c := 210) 129 hO hR rfl rfl rfl dX13_narrows_128 rfl (by omega) (by omega) (by omega) (fun hR => ?_)
              refine X_aload_n 130 hO dX13_narrows_129 rfl rfl ?_
              refine X_aload_n 131 hO dX13_narrows_130 rfl rfl ?_
              refine ga_40 134 hO hR dX13_narrows_131 rfl ?_
              refine X_iconst 135 hO dX13_narrows_134 rfl ?_
              refine ma_ld (L := 4) (c := 210) 136 hO hR rfl rfl rfl dX13_narrows_135 rfl (by omega) (by omega) (fun hi_135 => ?_)
              try simp (disch := decide) only [up_k, up_s, step_at, pool_at, poolN_at, opens_at, closes_at, fl_at, del_at, ins_at, rep_at, psh_at, trn_at, tak_at, pEn_at, cpQ_at, cpP_at, cpT_at] at hi_135 ⊢
              refine pa_303 139 hO hR dX13_narrows_136 rfl (by omega) (fun hR => ?_)
              refine X_iconst 140 hO dX13_narrows_139 rfl ?_
              exact XM_iret hO hF hR rfl (by first | exact Or.inl rfl | exact Or.inr ⟨rfl, bi_01 _⟩ | exact Or.inr ⟨rfl, by omega⟩) dX13_narrows_140 (by omega) (by first | (exfalso; omega) | (unfold m_nar; (repeat (first | rw [if_pos (by omega)] | rw [if_neg (by omega)])); refine ⟨rfl, ?_⟩; unfold m_nar1; first | rw [if_pos (by omega), if_pos (by omega)] | rw [if_neg (by omega), if_neg (by omega)]))
            ·
              refine X_aload_n 104 hO dX13_narrows_103 rfl rfl ?_
              refine ga_31 107 hO hR dX13_narrows_104 rfl ?_
              refine X_iconst 108 hO dX13_narrows_107 rfl ?_
              refine ma_ld (L := 4) (c := 207) 109 hO hR rfl rfl rfl dX13_narrows_108 rfl (by omega) (by omega) (fun hi_108 => ?_)
              try simp (disch := decide) only [up_k, up_s, step_at, pool_at, poolN_at, opens_at, closes_at, fl_at, del_at, ins_at, rep_at, psh_at, trn_at, tak_at, pEn_at, cpQ_at, cpP_at, cpT_at] at hi_108 ⊢
              refine X_goto hO dX13_narrows_109 (tgt := 118) rfl ?_
              refine ma_st (L := 16) (c := 209) 119 hO hR rfl rfl rfl dX13_narrows_118 rfl (by omega) (by omega) (by omega) (fun hR => ?_)
              refine X_aload_n 120 hO dX13_narrows_119 rfl rfl ?_
              refine ga_40 123 hO hR dX13_narrows_120 rfl ?_
              refine X_iconst 124 hO dX13_narrows_123 rfl ?_
              refine X_dup2 125 hO dX13_narrows_124 rfl (by first | rfl | exact rv_cat _) (by first | rfl | exact rv_cat _) ?_
              refine ma_ld (L := 4) (c := 210) 126 hO hR rfl rfl rfl dX13_narrows_125 rfl (by omega) (by omega) (fun hi_125 => ?_)
              try simp (disch := decide) only [up_k, up_s, step_at, pool_at, poolN_at, opens_at, closes_at, fl_at, del_at, ins_at, rep_at, psh_at, trn_at, tak_at, pEn_at, cpQ_at, cpP_at, cpT_at] at hi_125 ⊢
              refine X_iconst 127 hO dX13_narrows_126 rfl ?_
              refine X_iadd 128 hO dX13_narrows_127 rfl ?_
              refine ma_st (L := 4) (c := 210) 129 hO hR rfl rfl rfl dX13_narrows_128 rfl (by omega) (by omega) (by omega) (fun hR => ?_)
              refine X_aload_n 130 hO dX13_narrows_129 rfl rfl ?_
              refine X_aload_n 131 hO dX13_narrows_130 rfl rfl ?_
              refine ga_40 134 hO hR dX13_narrows_131 rfl ?_
              refine X_iconst 135 hO dX13_narrows_134 rfl ?_
              refine ma_ld (L := 4) (c := 210) 136 hO hR rfl rfl rfl dX13_narrows_135 rfl (by omega) (by omega) (fun hi_135 => ?_)
              try simp (disch := decide) only [up_k, up_s, step_at, pool_at, poolN_at, opens_at, closes_at, fl_at, del_at, ins_at, rep_at, psh_at, trn_at, tak_at, pEn_at, cpQ_at, cpP_at, cpT_at] at hi_135 ⊢
              refine pa_303 139 hO hR dX13_narrows_136 rfl (by omega) (fun hR => ?_)
              refine X_iconst 140 hO dX13_narrows_139 rfl ?_
              exact XM_iret hO hF hR rfl (by first | exact Or.inl rfl | exact Or.inr ⟨rfl, bi_01 _⟩ | exact Or.inr ⟨rfl, by omega⟩) dX13_narrows_140 (by omega) (by first | (exfalso; omega) | (unfold m_nar; (repeat (first | rw [if_pos (by omega)] | rw [if_neg (by omega)])); refine ⟨rfl, ?_⟩; unfold m_nar1; first | rw [if_pos (by omega), if_pos (by omega)] | rw [if_neg (by omega), if_neg (by omega)]))
        ·
          refine X_iconst 54 hO dX13_narrows_53 rfl ?_
          refine X_goto hO dX13_narrows_54 (tgt := 58) rfl ?_
          refine X_istore_n 59 hO dX13_narrows_58 rfl rfl ?_
          refine X_aload_n 60 hO dX13_narrows_59 rfl rfl ?_
          refine ga_34 63 hO hR dX13_narrows_60 rfl ?_
          refine X_aload_n 64 hO dX13_narrows_63 rfl rfl ?_
          refine ga_40 67 hO hR dX13_narrows_64 rfl ?_
          refine X_iconst 68 hO dX13_narrows_67 rfl ?_
          refine ma_ld (L := 4) (c := 210) 69 hO hR rfl rfl rfl dX13_narrows_68 rfl (by omega) (by omega) (fun hi_68 => ?_)
          try simp (disch := decide) only [up_k, up_s, step_at, pool_at, poolN_at, opens_at, closes_at, fl_at, del_at, ins_at, rep_at, psh_at, trn_at, tak_at, pEn_at, cpQ_at, cpP_at, cpT_at] at hi_68 ⊢
          refine X_iload_n 70 hO dX13_narrows_69 rfl rfl ?_
          refine X_if_eq 73 82 hO dX13_narrows_70 rfl rfl (by omega) (fun hc_70 => ?_) (fun hc_70 => ?_)
          ·
            refine X_aload_n 83 hO dX13_narrows_82 rfl rfl ?_
            refine ga_31 86 hO hR dX13_narrows_83 rfl ?_
            refine X_iconst 87 hO dX13_narrows_86 rfl ?_
            refine ma_ld (L := 4) (c := 207) 88 hO hR rfl rfl rfl dX13_narrows_87 rfl (by omega) (by omega) (fun hi_87 => ?_)
            try simp (disch := decide) only [up_k, up_s, step_at, pool_at, poolN_at, opens_at, closes_at, fl_at, del_at, ins_at, rep_at, psh_at, trn_at, tak_at, pEn_at, cpQ_at, cpP_at, cpT_at] at hi_87 ⊢
            refine ma_st (L := 16) (c := 208) 89 hO hR rfl rfl rfl dX13_narrows_88 rfl (by omega) (by omega) (by omega) (fun hR => ?_)
            refine X_aload_n 90 hO dX13_narrows_89 rfl rfl ?_
            refine ga_37 93 hO hR dX13_narrows_90 rfl ?_
            refine X_aload_n 94 hO dX13_narrows_93 rfl rfl ?_
            refine ga_40 97 hO hR dX13_narrows_94 rfl ?_
            refine X_iconst 98 hO dX13_narrows_97 rfl ?_
            refine ma_ld (L := 4) (c := 210) 99 hO hR rfl rfl rfl dX13_narrows_98 rfl (by omega) (by omega) (fun hi_98 => ?_)
            try simp (disch := decide) only [up_k, up_s, step_at, pool_at, poolN_at, opens_at, closes_at, fl_at, del_at, ins_at, rep_at, psh_at, trn_at, tak_at, pEn_at, cpQ_at, cpP_at, cpT_at] at hi_98 ⊢
            refine X_iload_n 100 hO dX13_narrows_99 rfl rfl ?_
            refine X_if_eq 103 112 hO dX13_narrows_100 rfl rfl (by omega) (fun hc_100 => ?_) (fun hc_100 => ?_)
            ·
              refine X_aload_n 113 hO dX13_narrows_112 rfl rfl ?_
              refine ga_16 116 hO hR dX13_narrows_113 rfl ?_
              refine X_iload_n 117 hO dX13_narrows_116 rfl rfl ?_
              refine ma_ld (L := 24) (c := 202) 118 hO hR rfl rfl rfl dX13_narrows_117 rfl (by omega) (by omega) (fun hi_117 => ?_)
              try simp (disch := decide) only [up_k, up_s, step_at, pool_at, poolN_at, opens_at, closes_at, fl_at, del_at, ins_at, rep_at, psh_at, trn_at, tak_at, pEn_at, cpQ_at, cpP_at, cpT_at] at hi_117 ⊢
              refine ma_st (L := 16) (c := 209) 119 hO hR rfl rfl rfl dX13_narrows_118 rfl (by omega) (by omega) (by omega) (fun hR => ?_)
              refine X_aload_n 120 hO dX13_narrows_119 rfl rfl ?_
              refine ga_40 123 hO hR dX13_narrows_120 rfl ?_
              refine X_iconst 124 hO dX13_narrows_123 rfl ?_
              refine X_dup2 125 hO dX13_narrows_124 rfl (by first | rfl | exact rv_cat _) (by first | rfl | exact rv_cat _) ?_
              refine ma_ld (L := 4) (c := 210) 126 hO hR rfl rfl rfl dX13_narrows_125 rfl (by omega) (by omega) (fun hi_125 => ?_)
              try simp (disch := decide) only [up_k, up_s, step_at, pool_at, poolN_at, opens_at, closes_at, fl_at, del_at, ins_at, rep_at, psh_at, trn_at, tak_at, pEn_at, cpQ_at, cpP_at, cpT_at] at hi_125 ⊢
              refine X_iconst 127 hO dX13_narrows_126 rfl ?_
              refine X_iadd 128 hO dX13_narrows_127 rfl ?_
              refine ma_st (L := 4) (c := 210) 129 hO hR rfl rfl rfl dX13_narrows_128 rfl (by omega) (by omega) (by omega) (fun hR => ?_)
              refine X_aload_n 130 hO dX13_narrows_129 rfl rfl ?_
              refine X_aload_n 131 hO dX13_narrows_130 rfl rfl ?_
              refine ga_40 134 hO hR dX13_narrows_131 rfl ?_
              refine X_iconst 135 hO dX13_narrows_134 rfl ?_
              refine ma_ld (L := 4) (c := 210) 136 hO hR rfl rfl rfl dX13_narrows_135 rfl (by omega) (by omega) (fun hi_135 => ?_)
              try simp (disch := decide) only [up_k, up_s, step_at, pool_at, poolN_at, opens_at, closes_at, fl_at, del_at, ins_at, rep_at, psh_at, trn_at, tak_at, pEn_at, cpQ_at, cpP_at, cpT_at] at hi_135 ⊢
              refine pa_303 139 hO hR dX13_narrows_136 rfl (by omega) (fun hR => ?_)
              refine X_iconst 140 hO dX13_narrows_139 rfl ?_
              exact XM_iret hO hF hR rfl (by first | exact Or.inl rfl | exact Or.inr ⟨rfl, bi_01 _⟩ | exact Or.inr ⟨rfl, by omega⟩) dX13_narrows_140 (by omega) (by first | (exfalso; omega) | (unfold m_nar; (repeat (first | rw [if_pos (by omega)] | rw [if_neg (by omega)])); refine ⟨rfl, ?_⟩; unfold m_nar1; first | rw [if_pos (by omega), if_pos (by omega)] | rw [if_neg (by omega), if_neg (by omega)]))
            ·
              refine X_aload_n 104 hO dX13_narrows_103 rfl rfl ?_
              refine ga_31 107 hO hR dX13_narrows_104 rfl ?_
              refine X_iconst 108 hO dX13_narrows_107 rfl ?_
              refine ma_ld (L := 4) (c := 207) 109 hO hR rfl rfl rfl dX13_narrows_108 rfl (by omega) (by omega) (fun hi_108 => ?_)
              try simp (disch := decide) only [up_k, up_s, step_at, pool_at, poolN_at, opens_at, closes_at, fl_at, del_at, ins_at, rep_at, psh_at, trn_at, tak_at, pEn_at, cpQ_at, cpP_at, cpT_at] at hi_108 ⊢
              refine X_goto hO dX13_narrows_109 (tgt := 118) rfl ?_
              refine ma_st (L := 16) (c := 209) 119 hO hR rfl rfl rfl dX13_narrows_118 rfl (by omega) (by omega) (by omega) (fun hR => ?_)
              refine X_aload_n 120 hO dX13_narrows_119 rfl rfl ?_
              refine ga_40 123 hO hR dX13_narrows_120 rfl ?_
              refine X_iconst 124 hO dX13_narrows_123 rfl ?_
              refine X_dup2 125 hO dX13_narrows_124 rfl (by first | rfl | exact rv_cat _) (by first | rfl | exact rv_cat _) ?_
              refine ma_ld (L := 4) (c := 210) 126 hO hR rfl rfl rfl dX13_narrows_125 rfl (by omega) (by omega) (fun hi_125 => ?_)
              try simp (disch := decide) only [up_k, up_s, step_at, pool_at, poolN_at, opens_at, closes_at, fl_at, del_at, ins_at, rep_at, psh_at, trn_at, tak_at, pEn_at, cpQ_at, cpP_at, cpT_at] at hi_125 ⊢
              refine X_iconst 127 hO dX13_narrows_126 rfl ?_
              refine X_iadd 128 hO dX13_narrows_127 rfl ?_
              refine ma_st (L := 4) (c := 210) 129 hO hR rfl rfl rfl dX13_narrows_128 rfl (by omega) (by omega) (by omega) (fun hR => ?_)
              refine X_aload_n 130 hO dX13_narrows_129 rfl rfl ?_
              refine X_aload_n 131 hO dX13_narrows_130 rfl rfl ?_
              refine ga_40 134 hO hR dX13_narrows_131 rfl ?_
              refine X_iconst 135 hO dX13_narrows_134 rfl ?_
              refine ma_ld (L := 4) (c := 210) 136 hO hR rfl rfl rfl dX13_narrows_135 rfl (by omega) (by omega) (fun hi_135 => ?_)
              try simp (disch := decide) only [up_k, up_s, step_at, pool_at, poolN_at, opens_at, closes_at, fl_at, del_at, ins_at, rep_at, psh_at, trn_at, tak_at, pEn_at, cpQ_at, cpP_at, cpT_at] at hi_135 ⊢
              refine pa_303 139 hO hR dX13_narrows_136 rfl (by omega) (fun hR => ?_)
              refine X_iconst 140 hO dX13_narrows_139 rfl ?_
              exact XM_iret hO hF hR rfl (by first | exact Or.inl rfl | exact Or.inr ⟨rfl, bi_01 _⟩ | exact Or.inr ⟨rfl, by omega⟩) dX13_narrows_140 (by omega) (by first | (exfalso; omega) | (unfold m_nar; (repeat (first | rw [if_pos (by omega)] | rw [if_neg (by omega)])); refine ⟨rfl, ?_⟩; unfold m_nar1; first | rw [if_pos (by omega), if_pos (by omega)] | rw [if_neg (by omega), if_neg (by omega)]))
          ·
            refine X_aload_n 74 hO dX13_narrows_73 rfl rfl ?_
            refine ga_16 77 hO hR dX13_narrows_74 rfl ?_
            refine X_iload_n 78 hO dX13_narrows_77 rfl rfl ?_
            refine ma_ld (L := 24) (c := 202) 79 hO hR rfl rfl rfl dX13_narrows_78 rfl (by omega) (by omega) (fun hi_78 => ?_)
            try simp (disch := decide) only [up_k, up_s, step_at, pool_at, poolN_at, opens_at, closes_at, fl_at, del_at, ins_at, rep_at, psh_at, trn_at, tak_at, pEn_at, cpQ_at, cpP_at, cpT_at] at hi_78 ⊢
            refine X_goto hO dX13_narrows_79 (tgt := 88) rfl ?_
            refine ma_st (L := 16) (c := 208) 89 hO hR rfl rfl rfl dX13_narrows_88 rfl (by omega) (by omega) (by omega) (fun hR => ?_)
            refine X_aload_n 90 hO dX13_narrows_89 rfl rfl ?_
            refine ga_37 93 hO hR dX13_narrows_90 rfl ?_
            refine X_aload_n 94 hO dX13_narrows_93 rfl rfl ?_
            refine ga_40 97 hO hR dX13_narrows_94 rfl ?_
            refine X_iconst 98 hO dX13_narrows_97 rfl ?_
            refine ma_ld (L := 4) (c := 210) 99 hO hR rfl rfl rfl dX13_narrows_98 rfl (by omega) (by omega) (fun hi_98 => ?_)
            try simp (disch := decide) only [up_k, up_s, step_at, pool_at, poolN_at, opens_at, closes_at, fl_at, del_at, ins_at, rep_at, psh_at, trn_at, tak_at, pEn_at, cpQ_at, cpP_at, cpT_at] at hi_98 ⊢
            refine X_iload_n 100 hO dX13_narrows_99 rfl rfl ?_
            refine X_if_eq 103 112 hO dX13_narrows_100 rfl rfl (by omega) (fun hc_100 => ?_) (fun hc_100 => ?_)
            ·
              refine X_aload_n 113 hO dX13_narrows_112 rfl rfl ?_
              refine ga_16 116 hO hR dX13_narrows_113 rfl ?_
              refine X_iload_n 117 hO dX13_narrows_116 rfl rfl ?_
              refine ma_ld (L := 24) (c := 202) 118 hO hR rfl rfl rfl dX13_narrows_117 rfl (by omega) (by omega) (fun hi_117 => ?_)
              try simp (disch := decide) only [up_k, up_s, step_at, pool_at, poolN_at, opens_at, closes_at, fl_at, del_at, ins_at, rep_at, psh_at, trn_at, tak_at, pEn_at, cpQ_at, cpP_at, cpT_at] at hi_117 ⊢
              refine ma_st (L := 16) (c := 209) 119 hO hR rfl rfl rfl dX13_narrows_118 rfl (by omega) (by omega) (by omega) (fun hR => ?_)
              refine X_aload_n 120 hO dX13_narrows_119 rfl rfl ?_
              refine ga_40 123 hO hR dX13_narrows_120 rfl ?_
              refine X_iconst 124 hO dX13_narrows_123 rfl ?_
              refine X_dup2 125 hO dX13_narrows_124 rfl (by first | rfl | exact rv_cat _) (by first | rfl | exact rv_cat _) ?_
              refine ma_ld (L := 4) (c := 210) 126 hO hR rfl rfl rfl dX13_narrows_125 rfl (by omega) (by omega) (fun hi_125 => ?_)
              try simp (disch := decide) only [up_k, up_s, step_at, pool_at, poolN_at, opens_at, closes_at, fl_at, del_at, ins_at, rep_at, psh_at, trn_at, tak_at, pEn_at, cpQ_at, cpP_at, cpT_at] at hi_125 ⊢
              refine X_iconst 127 hO dX13_narrows_126 rfl ?_
              refine X_iadd 128 hO dX13_narrows_127 rfl ?_
              refine ma_st (L := 4) (c := 210) 129 hO hR rfl rfl rfl dX13_narrows_128 rfl (by omega) (by omega) (by omega) (fun hR => ?_)
              refine X_aload_n 130 hO dX13_narrows_129 rfl rfl ?_
              refine X_aload_n 131 hO dX13_narrows_130 rfl rfl ?_
              refine ga_40 134 hO hR dX13_narrows_131 rfl ?_
              refine X_iconst 135 hO dX13_narrows_134 rfl ?_
              refine ma_ld (L := 4) (c := 210) 136 hO hR rfl rfl rfl dX13_narrows_135 rfl (by omega) (by omega) (fun hi_135 => ?_)
              try simp (disch := decide) only [up_k, up_s, step_at, pool_at, poolN_at, opens_at, closes_at, fl_at, del_at, ins_at, rep_at, psh_at, trn_at, tak_at, pEn_at, cpQ_at, cpP_at, cpT_at] at hi_135 ⊢
              refine pa_303 139 hO hR dX13_narrows_136 rfl (by omega) (fun hR => ?_)
              refine X_iconst 140 hO dX13_narrows_139 rfl ?_
              exact XM_iret hO hF hR rfl (by first | exact Or.inl rfl | exact Or.inr ⟨rfl, bi_01 _⟩ | exact Or.inr ⟨rfl, by omega⟩) dX13_narrows_140 (by omega) (by first | (exfalso; omega) | (unfold m_nar; (repeat (first | rw [if_pos (by omega)] | rw [if_neg (by omega)])); refine ⟨rfl, ?_⟩; unfold m_nar1; first | rw [if_pos (by omega), if_pos (by omega)] | rw [if_neg (by omega), if_neg (by omega)]))
            ·
              refine X_aload_n 104 hO dX13_narrows_103 rfl rfl ?_
              refine ga_31 107 hO hR dX13_narrows_104 rfl ?_
              refine X_iconst 108 hO dX13_narrows_107 rfl ?_
              refine ma_ld (L := 4) (c := 207) 109 hO hR rfl rfl rfl dX13_narrows_108 rfl (by omega) (by omega) (fun hi_108 => ?_)
              try simp (disch := decide) only [up_k, up_s, step_at, pool_at, poolN_at, opens_at, closes_at, fl_at, del_at, ins_at, rep_at, psh_at, trn_at, tak_at, pEn_at, cpQ_at, cpP_at, cpT_at] at hi_108 ⊢
              refine X_goto hO dX13_narrows_109 (tgt := 118) rfl ?_
              refine ma_st (L := 16) (c := 209) 119 hO hR rfl rfl rfl dX13_narrows_118 rfl (by omega) (by omega) (by omega) (fun hR => ?_)
              refine X_aload_n 120 hO dX13_narrows_119 rfl rfl ?_
              refine ga_40 123 hO hR dX13_narrows_120 rfl ?_
              refine X_iconst 124 hO dX13_narrows_123 rfl ?_
              refine X_dup2 125 hO dX13_narrows_124 rfl (by first | rfl | exact rv_cat _) (by first | rfl | exact rv_cat _) ?_
              refine ma_ld (L := 4) (c := 210) 126 hO hR rfl rfl rfl dX13_narrows_125 rfl (by omega) (by omega) (fun hi_125 => ?_)
              try simp (disch := decide) only [up_k, up_s, step_at, pool_at, poolN_at, opens_at, closes_at, fl_at, del_at, ins_at, rep_at, psh_at, trn_at, tak_at, pEn_at, cpQ_at, cpP_at, cpT_at] at hi_125 ⊢
              refine X_iconst 127 hO dX13_narrows_126 rfl ?_
              refine X_iadd 128 hO dX13_narrows_127 rfl ?_
              refine ma_st (L := 4) (c := 210) 129 hO hR rfl rfl rfl dX13_narrows_128 rfl (by omega) (by omega) (by omega) (fun hR => ?_)
              refine X_aload_n 130 hO dX13_narrows_129 rfl rfl ?_
              refine X_aload_n 131 hO dX13_narrows_130 rfl rfl ?_
              refine ga_40 134 hO hR dX13_narrows_131 rfl ?_
              refine X_iconst 135 hO dX13_narrows_134 rfl ?_
              refine ma_ld (L := 4) (c := 210) 136 hO hR rfl rfl rfl dX13_narrows_135 rfl (by omega) (by omega) (fun hi_135 => ?_)
              try simp (disch := decide) only [up_k, up_s, step_at, pool_at, poolN_at, opens_at, closes_at, fl_at, del_at, ins_at, rep_at, psh_at, trn_at, tak_at, pEn_at, cpQ_at, cpP_at, cpT_at] at hi_135 ⊢
              refine pa_303 139 hO hR dX13_narrows_136 rfl (by omega) (fun hR => ?_)
              refine X_iconst 140 hO dX13_narrows_139 rfl ?_
              exact XM_iret hO hF hR rfl (by first | exact Or.inl rfl | exact Or.inr ⟨rfl, bi_01 _⟩ | exact Or.inr ⟨rfl, by omega⟩) dX13_narrows_140 (by omega) (by first | (exfalso; omega) | (unfold m_nar; (repeat (first | rw [if_pos (by omega)] | rw [if_neg (by omega)])); refine ⟨rfl, ?_⟩; unfold m_nar1; first | rw [if_pos (by omega), if_pos (by omega)] | rw [if_neg (by omega), if_neg (by omega)]))
      ·
        refine X_bipush 37 hO dX13_narrows_35 rfl (by decide) ?_
        exact XM_iret hO hF hR rfl (by first | exact Or.inl rfl | exact Or.inr ⟨rfl, bi_01 _⟩ | exact Or.inr ⟨rfl, by omega⟩) dX13_narrows_37 (by omega) (by unfold m_nar; (repeat (first | rw [if_pos (by omega)] | rw [if_neg (by omega)])); exact ⟨rfl, rfl⟩)
    ·
      try simp only [bi_0, bi_ne, ne_eq, Classical.not_not] at hc_20
      refine X_iconst 24 hO dX13_narrows_23 rfl ?_
      exact XM_iret hO hF hR rfl (by first | exact Or.inl rfl | exact Or.inr ⟨rfl, bi_01 _⟩ | exact Or.inr ⟨rfl, by omega⟩) dX13_narrows_24 (by omega) (by unfold m_nar; (repeat (first | rw [if_pos (by omega)] | rw [if_neg (by omega)])); exact ⟨rfl, rfl⟩)
