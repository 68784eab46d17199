/-- a stretch of an array of the reference -/
def fl (w : Mm) (c : Nat) (lo n : Int) (f : Int → Int) : Mm := fun c' a i => if c' = c ∧ a = 0 ∧ lo ≤ i ∧ i < lo + n then f i else w c' a i
theorem fl_0 (w : Mm) (c : Nat) (lo : Int) (f : Int → Int) : fl w c lo 0 f = w := by
  funext c' a i; unfold fl; rw [if_neg]; omega
theorem fl_step {w : Mm} {c : Nat} {lo n i v : Int} {f : Int → Int} (hn : 0 ≤ n) (hi : i = lo + n) (hv : v = f i) : up (fl w c lo n f) c 0 i v = fl w c lo (n + 1) f := by
  funext c' a j
  unfold up fl
  by_cases h : c' = c ∧ a = 0 ∧ j = i
  · rw [if_pos h, if_pos (by omega), hv, h.2.2]
  · rw [if_neg h]
    by_cases h2 : c' = c ∧ a = 0 ∧ lo ≤ j ∧ j < lo + n
    · rw [if_pos h2, if_pos (by omega)]
    · rw [if_neg h2, if_neg (by omega)]

def m_cpS (a b s : Int) (w : Mm) : Mm := (fl (fl (up w 204 0 (5 * a + s) (w 204 0 (5 * b + s))) 205 (20 * a + 4 * s) 4 (fun i => w 205 0 (i - 20 * a + 20 * b))) 206 (400 * a + 80 * s) 80 (fun i => w 206 0 (i - 400 * a + 400 * b)))
theorem dX13_copiesStore_0 : decode cX13_copiesStore 0 = .ok (.aload_n 0, 1) := by decide +kernel
theorem dX13_copiesStore_1 : decode cX13_copiesStore 1 = .ok (.getfield 22, 3) := by decide +kernel
theorem dX13_copiesStore_4 : decode cX13_copiesStore 4 = .ok (.iconst 5, 1) := by decide +kernel
theorem dX13_copiesStore_5 : decode cX13_copiesStore 5 = .ok (.iload_n 1, 1) := by decide +kernel
theorem dX13_copiesStore_6 : decode cX13_copiesStore 6 = .ok (.imul, 1) := by decide +kernel
theorem dX13_copiesStore_7 : decode cX13_copiesStore 7 = .ok (.iload_n 3, 1) := by decide +kernel
theorem dX13_copiesStore_8 : decode cX13_copiesStore 8 = .ok (.iadd, 1) := by decide +kernel
theorem dX13_copiesStore_9 : decode cX13_copiesStore 9 = .ok (.aload_n 0, 1) := by decide +kernel
theorem dX13_copiesStore_10 : decode cX13_copiesStore 10 = .ok (.getfield 22, 3) := by decide +kernel
theorem dX13_copiesStore_13 : decode cX13_copiesStore 13 = .ok (.iconst 5, 1) := by decide +kernel
theorem dX13_copiesStore_14 : decode cX13_copiesStore 14 = .ok (.iload_n 2, 1) := by decide +kernel
theorem dX13_copiesStore_15 : decode cX13_copiesStore 15 = .ok (.imul, 1) := by decide +kernel
theorem dX13_copiesStore_16 : decode cX13_copiesStore 16 = .ok (.iload_n 3, 1) := by decide +kernel
theorem dX13_copiesStore_17 : decode cX13_copiesStore 17 = .ok (.iadd, 1) := by decide +kernel
theorem dX13_copiesStore_18 : decode cX13_copiesStore 18 = .ok (.iaload, 1) := by decide +kernel
theorem dX13_copiesStore_19 : decode cX13_copiesStore 19 = .ok (.iastore, 1) := by decide +kernel
theorem dX13_copiesStore_20 : decode cX13_copiesStore 20 = .ok (.iconst 0, 1) := by decide +kernel
theorem dX13_copiesStore_21 : decode cX13_copiesStore 21 = .ok (.istore 4, 2) := by decide +kernel
theorem dX13_copiesStore_23 : decode cX13_copiesStore 23 = .ok (.iload 4, 2) := by decide +kernel
theorem dX13_copiesStore_25 : decode cX13_copiesStore 25 = .ok (.iconst 4, 1) := by decide +kernel
theorem dX13_copiesStore_26 : decode cX13_copiesStore 26 = .ok (.if_icmp .ge 41, 3) := by decide +kernel
theorem dX13_copiesStore_29 : decode cX13_copiesStore 29 = .ok (.aload_n 0, 1) := by decide +kernel
theorem dX13_copiesStore_30 : decode cX13_copiesStore 30 = .ok (.getfield 25, 3) := by decide +kernel
theorem dX13_copiesStore_33 : decode cX13_copiesStore 33 = .ok (.bipush 20, 2) := by decide +kernel
theorem dX13_copiesStore_35 : decode cX13_copiesStore 35 = .ok (.iload_n 1, 1) := by decide +kernel
theorem dX13_copiesStore_36 : decode cX13_copiesStore 36 = .ok (.imul, 1) := by decide +kernel
theorem dX13_copiesStore_37 : decode cX13_copiesStore 37 = .ok (.iconst 4, 1) := by decide +kernel
theorem dX13_copiesStore_38 : decode cX13_copiesStore 38 = .ok (.iload_n 3, 1) := by decide +kernel
theorem dX13_copiesStore_39 : decode cX13_copiesStore 39 = .ok (.imul, 1) := by decide +kernel
theorem dX13_copiesStore_40 : decode cX13_copiesStore 40 = .ok (.iadd, 1) := by decide +kernel
theorem dX13_copiesStore_41 : decode cX13_copiesStore 41 = .ok (.iload 4, 2) := by decide +kernel
theorem dX13_copiesStore_43 : decode cX13_copiesStore 43 = .ok (.iadd, 1) := by decide +kernel
theorem dX13_copiesStore_44 : decode cX13_copiesStore 44 = .ok (.aload_n 0, 1) := by decide +kernel
theorem dX13_copiesStore_45 : decode cX13_copiesStore 45 = .ok (.getfield 25, 3) := by decide +kernel
theorem dX13_copiesStore_48 : decode cX13_copiesStore 48 = .ok (.bipush 20, 2) := by decide +kernel
theorem dX13_copiesStore_50 : decode cX13_copiesStore 50 = .ok (.iload_n 2, 1) := by decide +kernel
theorem dX13_copiesStore_51 : decode cX13_copiesStore 51 = .ok (.imul, 1) := by decide +kernel
theorem dX13_copiesStore_52 : decode cX13_copiesStore 52 = .ok (.iconst 4, 1) := by decide +kernel
theorem dX13_copiesStore_53 : decode cX13_copiesStore 53 = .ok (.iload_n 3, 1) := by decide +kernel
theorem dX13_copiesStore_54 : decode cX13_copiesStore 54 = .ok (.imul, 1) := by decide +kernel
theorem dX13_copiesStore_55 : decode cX13_copiesStore 55 = .ok (.iadd, 1) := by decide +kernel
theorem dX13_copiesStore_56 : decode cX13_copiesStore 56 = .ok (.iload 4, 2) := by decide +kernel
theorem dX13_copiesStore_58 : decode cX13_copiesStore 58 = .ok (.iadd, 1) := by decide +kernel
theorem dX13_copiesStore_59 : decode cX13_copiesStore 59 = .ok (.iaload, 1) := by decide +kernel
theorem dX13_copiesStore_60 : decode cX13_copiesStore 60 = .ok (.iastore, 1) := by decide +kernel
theorem dX13_copiesStore_61 : decode cX13_copiesStore 61 = .ok (.iinc 4 1, 3) := by decide +kernel
theorem dX13_copiesStore_64 : decode cX13_copiesStore 64 = .ok (.goto (-41), 3) := by decide +kernel
theorem dX13_copiesStore_67 : decode cX13_copiesStore 67 = .ok (.iconst 0, 1) := by decide +kernel
theorem dX13_copiesStore_68 : decode cX13_copiesStore 68 = .ok (.istore 4, 2) := by decide +kernel
theorem dX13_copiesStore_70 : decode cX13_copiesStore 70 = .ok (.iload 4, 2) := by decide +kernel
theorem dX13_copiesStore_72 : decode cX13_copiesStore 72 = .ok (.bipush 80, 2) := by decide +kernel
theorem dX13_copiesStore_74 : decode cX13_copiesStore 74 = .ok (.if_icmp .ge 45, 3) := by decide +kernel
theorem dX13_copiesStore_77 : decode cX13_copiesStore 77 = .ok (.aload_n 0, 1) := by decide +kernel
theorem dX13_copiesStore_78 : decode cX13_copiesStore 78 = .ok (.getfield 28, 3) := by decide +kernel
theorem dX13_copiesStore_81 : decode cX13_copiesStore 81 = .ok (.sipush 400, 3) := by decide +kernel
theorem dX13_copiesStore_84 : decode cX13_copiesStore 84 = .ok (.iload_n 1, 1) := by decide +kernel
theorem dX13_copiesStore_85 : decode cX13_copiesStore 85 = .ok (.imul, 1) := by decide +kernel
theorem dX13_copiesStore_86 : decode cX13_copiesStore 86 = .ok (.bipush 80, 2) := by decide +kernel
theorem dX13_copiesStore_88 : decode cX13_copiesStore 88 = .ok (.iload_n 3, 1) := by decide +kernel
theorem dX13_copiesStore_89 : decode cX13_copiesStore 89 = .ok (.imul, 1) := by decide +kernel
theorem dX13_copiesStore_90 : decode cX13_copiesStore 90 = .ok (.iadd, 1) := by decide +kernel
theorem dX13_copiesStore_91 : decode cX13_copiesStore 91 = .ok (.iload 4, 2) := by decide +kernel
theorem dX13_copiesStore_93 : decode cX13_copiesStore 93 = .ok (.iadd, 1) := by decide +kernel
theorem dX13_copiesStore_94 : decode cX13_copiesStore 94 = .ok (.aload_n 0, 1) := by decide +kernel
theorem dX13_copiesStore_95 : decode cX13_copiesStore 95 = .ok (.getfield 28, 3) := by decide +kernel
theorem dX13_copiesStore_98 : decode cX13_copiesStore 98 = .ok (.sipush 400, 3) := by decide +kernel
theorem dX13_copiesStore_101 : decode cX13_copiesStore 101 = .ok (.iload_n 2, 1) := by decide +kernel
theorem dX13_copiesStore_102 : decode cX13_copiesStore 102 = .ok (.imul, 1) := by decide +kernel
theorem dX13_copiesStore_103 : decode cX13_copiesStore 103 = .ok (.bipush 80, 2) := by decide +kernel
theorem dX13_copiesStore_105 : decode cX13_copiesStore 105 = .ok (.iload_n 3, 1) := by decide +kernel
theorem dX13_copiesStore_106 : decode cX13_copiesStore 106 = .ok (.imul, 1) := by decide +kernel
theorem dX13_copiesStore_107 : decode cX13_copiesStore 107 = .ok (.iadd, 1) := by decide +kernel
theorem dX13_copiesStore_108 : decode cX13_copiesStore 108 = .ok (.iload 4, 2) := by decide +kernel
theorem dX13_copiesStore_110 : decode cX13_copiesStore 110 = .ok (.iadd, 1) := by decide +kernel
theorem dX13_copiesStore_111 : decode cX13_copiesStore 111 = .ok (.iaload, 1) := by decide +kernel
theorem dX13_copiesStore_112 : decode cX13_copiesStore 112 = .ok (.iastore, 1) := by decide +kernel
theorem dX13_copiesStore_113 : decode cX13_copiesStore 113 = .ok (.iinc 4 1, 3) := by decide +kernel
theorem dX13_copiesStore_116 : decode cX13_copiesStore 116 = .ok (.goto (-46), 3) := by decide +kernel
theorem dX13_copiesStore_119 : decode cX13_copiesStore 119 = .ok (.return_, 1) := by decide +kernel
set_option maxRecDepth 4000 in
theorem c_copiesStore (γ : LC) (μ : MU) (w : Mm) (a b s : Int) (ha : 0 ≤ a ∧ a ≤ 3) (hb : 0 ≤ b ∧ b ≤ 3) (hab : a ≠ b) (hs : 0 ≤ s ∧ s ≤ 4) : CMv γ μ 0 mX13_copiesStore [.int (I a), .int (I b), .int (I s)] w (fun w' => w' = m_cpS a b s w) := by
  refine CMv_of rfl (by simp [rv_cat, Value.category]) rfl ?_
  rintro κ hO hF rfl hR
  have hD := hF.dp
  show X κ 0 0 w 0 [some (rv μ.1), some (.int (I a)), some (.int (I b)), some (.int (I s)), none] []
  refine X_aload_n 1 hO dX13_copiesStore_0 rfl rfl ?_
  refine ga_22 4 hO hR dX13_copiesStore_1 rfl ?_
  refine X_iconst 5 hO dX13_copiesStore_4 rfl ?_
  refine X_iload_n 6 hO dX13_copiesStore_5 rfl rfl ?_
  refine X_imul 7 hO dX13_copiesStore_6 rfl ?_
  refine X_iload_n 8 hO dX13_copiesStore_7 rfl rfl ?_
  refine X_iadd 9 hO dX13_copiesStore_8 rfl ?_
  refine X_aload_n 10 hO dX13_copiesStore_9 rfl rfl ?_
  refine ga_22 13 hO hR dX13_copiesStore_10 rfl ?_
  refine X_iconst 14 hO dX13_copiesStore_13 rfl ?_
  refine X_iload_n 15 hO dX13_copiesStore_14 rfl rfl ?_
  refine X_imul 16 hO dX13_copiesStore_15 rfl ?_
  refine X_iload_n 17 hO dX13_copiesStore_16 rfl rfl ?_
  refine X_iadd 18 hO dX13_copiesStore_17 rfl ?_
  refine ma_ld (L := 20) (c := 204) 19 hO hR rfl rfl rfl dX13_copiesStore_18 rfl (by omega) (by omega) (fun hi_18 => ?_)
  refine ma_st (L := 20) (c := 204) 20 hO hR rfl rfl rfl dX13_copiesStore_19 rfl (by omega) (by omega) (by omega) (fun hR => ?_)
  refine X_iconst 21 hO dX13_copiesStore_20 rfl ?_
  refine X_istore 23 hO dX13_copiesStore_21 rfl rfl ?_
  have LP23 : ∀ (n : Nat) (k : Int), (4 - k).toNat < n → (0 ≤ k ∧ k ≤ 4) → RM ((fl (up w 204 0 (5 * a + s) (w 204 0 (5 * b + s))) 205 (20 * a + 4 * s) k (fun i => w 205 0 (i - 20 * a + 20 * b)))) μ → X κ 0 0 ((fl (up w 204 0 (5 * a + s) (w 204 0 (5 * b + s))) 205 (20 * a + 4 * s) k (fun i => w 205 0 (i - 20 * a + 20 * b)))) 23 [some (rv μ.1), some (.int (I a)), some (.int (I b)), some (.int (I s)), some (.int (I k))] [] := by
    intro n
    induction n with
    | zero => intro k hm; exact absurd hm (Nat.not_lt_zero _)
    | succ n ih =>
      intro k hm hk hR
      refine X_iload 25 hO dX13_copiesStore_23 rfl rfl ?_
      refine X_iconst 26 hO dX13_copiesStore_25 rfl ?_
      refine X_icmp_ge 29 67 hO dX13_copiesStore_26 rfl rfl (by omega) (by omega) (fun hc_26 => ?_) (fun hc_26 => ?_)
      ·
        have e4 : k = 4 := by omega
        subst e4
        refine X_iconst 68 hO dX13_copiesStore_67 rfl ?_
        refine X_istore 70 hO dX13_copiesStore_68 rfl rfl ?_
        have LP70 : ∀ (n : Nat) (k : Int), (80 - k).toNat < n → (0 ≤ k ∧ k ≤ 80) → RM ((fl (fl (up w 204 0 (5 * a + s) (w 204 0 (5 * b + s))) 205 (20 * a + 4 * s) 4 (fun i => w 205 0 (i - 20 * a + 20 * b))) 206 (400 * a + 80 * s) k (fun i => w 206 0 (i - 400 * a + 400 * b)))) μ → X κ 0 0 ((fl (fl (up w 204 0 (5 * a + s) (w 204 0 (5 * b + s))) 205 (20 * a + 4 * s) 4 (fun i => w 205 0 (i - 20 * a + 20 * b))) 206 (400 * a + 80 * s) k (fun i => w 206 0 (i - 400 * a + 400 * b)))) 70 [some (rv μ.1), some (.int (I a)), some (.int (I b)), some (.int (I s)), some (.int (I k))] [] := by
          intro n
          induction n with
          | zero => intro k hm; exact absurd hm (Nat.not_lt_zero _)
          | succ n ih =>
            intro k hm hk hR
            refine X_iload 72 hO dX13_copiesStore_70 rfl rfl ?_
            refine X_bipush 74 hO dX13_copiesStore_72 rfl (by decide) ?_
            refine X_icmp_ge 77 119 hO dX13_copiesStore_74 rfl rfl (by omega) (by omega) (fun hc_74 => ?_) (fun hc_74 => ?_)
            ·
              have e4 : k = 80 := by omega
              subst e4
              exact XM_vret hO hF hR rfl dX13_copiesStore_119 rfl
            ·
              refine X_aload_n 78 hO dX13_copiesStore_77 rfl rfl ?_
              refine ga_28 81 hO hR dX13_copiesStore_78 rfl ?_
              refine X_sipush 84 hO dX13_copiesStore_81 rfl (by decide) ?_
              refine X_iload_n 85 hO dX13_copiesStore_84 rfl rfl ?_
              refine X_imul 86 hO dX13_copiesStore_85 rfl ?_
              refine X_bipush 88 hO dX13_copiesStore_86 rfl (by decide) ?_
              refine X_iload_n 89 hO dX13_copiesStore_88 rfl rfl ?_
              refine X_imul 90 hO dX13_copiesStore_89 rfl ?_
              refine X_iadd 91 hO dX13_copiesStore_90 rfl ?_
              refine X_iload 93 hO dX13_copiesStore_91 rfl rfl ?_
              refine X_iadd 94 hO dX13_copiesStore_93 rfl ?_
              refine X_aload_n 95 hO dX13_copiesStore_94 rfl rfl ?_
              refine ga_28 98 hO hR dX13_copiesStore_95 rfl ?_
              refine X_sipush 101 hO dX13_copiesStore_98 rfl (by decide) ?_
              refine X_iload_n 102 hO dX13_copiesStore_101 rfl rfl ?_
              refine X_imul 103 hO dX13_copiesStore_102 rfl ?_
              refine X_bipush 105 hO dX13_copiesStore_103 rfl (by decide) ?_
              refine X_iload_n 106 hO dX13_copiesStore_105 rfl rfl ?_
              refine X_imul 107 hO dX13_copiesStore_106 rfl ?_
              refine X_iadd 108 hO dX13_copiesStore_107 rfl ?_
              refine X_iload 110 hO dX13_copiesStore_108 rfl rfl ?_
              refine X_iadd 111 hO dX13_copiesStore_110 rfl ?_
              refine ma_ld (L := 1600) (c := 206) 112 hO hR rfl rfl rfl dX13_copiesStore_111 rfl (by omega) (by omega) (fun hi_111 => ?_)
              refine ma_st (L := 1600) (c := 206) 113 hO hR rfl rfl rfl dX13_copiesStore_112 rfl (by omega) (by omega) (by omega) (fun hR => ?_)
              refine X_iinc 116 hO dX13_copiesStore_113 rfl rfl ?_
              refine X_goto hO dX13_copiesStore_116 (tgt := 70) rfl ?_
              exact X_eqR hR (fl_step (by omega) (by omega) (by grind [fl, up])) (fun hR => ih (k + 1) (by omega) (by omega) hR)
        exact X_eqR hR (fl_0 _ _ _ _).symm (fun hR => LP70 _ 0 (Nat.lt_succ_self _) (by omega) hR)
      ·
        refine X_aload_n 30 hO dX13_copiesStore_29 rfl rfl ?_
        refine ga_25 33 hO hR dX13_copiesStore_30 rfl ?_
        refine X_bipush 35 hO dX13_copiesStore_33 rfl (by decide) ?_
        refine X_iload_n 36 hO dX13_copiesStore_35 rfl rfl ?_
        refine X_imul 37 hO dX13_copiesStore_36 rfl ?_
        refine X_iconst 38 hO dX13_copiesStore_37 rfl ?_
        refine X_iload_n 39 hO dX13_copiesStore_38 rfl rfl ?_
        refine X_imul 40 hO dX13_copiesStore_39 rfl ?_
        refine X_iadd 41 hO dX13_copiesStore_40 rfl ?_
        refine X_iload 43 hO dX13_copiesStore_41 rfl rfl ?_
        refine X_iadd 44 hO dX13_copiesStore_43 rfl ?_
        refine X_aload_n 45 hO dX13_copiesStore_44 rfl rfl ?_
        refine ga_25 48 hO hR dX13_copiesStore_45 rfl ?_
        refine X_bipush 50 hO dX13_copiesStore_48 rfl (by decide) ?_
        refine X_iload_n 51 hO dX13_copiesStore_50 rfl rfl ?_
        refine X_imul 52 hO dX13_copiesStore_51 rfl ?_
        refine X_iconst 53 hO dX13_copiesStore_52 rfl ?_
        refine X_iload_n 54 hO dX13_copiesStore_53 rfl rfl ?_
        refine X_imul 55 hO dX13_copiesStore_54 rfl ?_
        refine X_iadd 56 hO dX13_copiesStore_55 rfl ?_
        refine X_iload 58 hO dX13_copiesStore_56 rfl rfl ?_
        refine X_iadd 59 hO dX13_copiesStore_58 rfl ?_
        refine ma_ld (L := 80) (c := 205) 60 hO hR rfl rfl rfl dX13_copiesStore_59 rfl (by omega) (by omega) (fun hi_59 => ?_)
        refine ma_st (L := 80) (c := 205) 61 hO hR rfl rfl rfl dX13_copiesStore_60 rfl (by omega) (by omega) (by omega) (fun hR => ?_)
        refine X_iinc 64 hO dX13_copiesStore_61 rfl rfl ?_
        refine X_goto hO dX13_copiesStore_64 (tgt := 23) rfl ?_
        exact X_eqR hR (fl_step (by omega) (by omega) (by grind [fl, up])) (fun hR => ih (k + 1) (by omega) (by omega) hR)
  exact X_eqR hR (fl_0 _ _ _ _).symm (fun hR => LP23 _ 0 (Nat.lt_succ_self _) (by omega) hR)
theorem fl_comm {w : Mm} {c c' : Nat} {lo n a i v : Int} {f : Int → Int} (h : c' ≠ c) : up (fl w c lo n f) c' a i v = fl (up w c' a i v) c lo n f := by
  funext x y j
  grind [fl, up]
theorem fl_step2 {w : Mm} {c c' : Nat} {lo n lo' n' i j v u : Int} {f g : Int → Int} (hc : c ≠ c') (hn : 0 ≤ n) (hi : i = lo + n) (hv : v = f i) (hn' : 0 ≤ n') (hj : j = lo' + n') (hu : u = g j) : up (up (fl (fl w c lo n f) c' lo' n' g) c 0 i v) c' 0 j u = fl (fl w c lo (n + 1) f) c' lo' (n' + 1) g := by
  rw [fl_comm hc, fl_step hn hi hv, fl_step hn' hj hu]
theorem fl_down {w : Mm} {c : Nat} {lo n lo' v : Int} {f : Int → Int} (hn : 0 ≤ n) (hl : lo = lo' + 1) (hv : v = f lo') : up (fl w c lo n f) c 0 lo' v = fl w c lo' (n + 1) f := by
  funext c' a j
  unfold up fl
  by_cases h : c' = c ∧ a = 0 ∧ j = lo'
  · rw [if_pos h, if_pos (by omega), hv, h.2.2]
  · rw [if_neg h]
    by_cases h2 : c' = c ∧ a = 0 ∧ lo ≤ j ∧ j < lo + n
    · rw [if_pos h2, if_pos (by omega)]
    · rw [if_neg h2, if_neg (by omega)]
def m_cpT (a b : Int) (w : Mm) : Mm := (fl (fl (fl (up w 201 0 a (w 201 0 b)) 200 (400 * a) (w 201 0 b) (fun i => w 200 0 (i - 400 * a + 400 * b))) 202 (6 * a) 6 (fun i => w 202 0 (i - 6 * a + 6 * b))) 203 (6 * a) 6 (fun i => w 203 0 (i - 6 * a + 6 * b)))
theorem dX13_copiesText_0 : decode cX13_copiesText 0 = .ok (.aload_n 0, 1) := by decide +kernel
theorem dX13_copiesText_1 : decode cX13_copiesText 1 = .ok (.getfield 13, 3) := by decide +kernel
theorem dX13_copiesText_4 : decode cX13_copiesText 4 = .ok (.iload_n 1, 1) := by decide +kernel
theorem dX13_copiesText_5 : decode cX13_copiesText 5 = .ok (.aload_n 0, 1) := by decide +kernel
theorem dX13_copiesText_6 : decode cX13_copiesText 6 = .ok (.getfield 13, 3) := by decide +kernel
theorem dX13_copiesText_9 : decode cX13_copiesText 9 = .ok (.iload_n 2, 1) := by decide +kernel
theorem dX13_copiesText_10 : decode cX13_copiesText 10 = .ok (.iaload, 1) := by decide +kernel
theorem dX13_copiesText_11 : decode cX13_copiesText 11 = .ok (.iastore, 1) := by decide +kernel
theorem dX13_copiesText_12 : decode cX13_copiesText 12 = .ok (.iconst 0, 1) := by decide +kernel
theorem dX13_copiesText_13 : decode cX13_copiesText 13 = .ok (.istore_n 3, 1) := by decide +kernel
theorem dX13_copiesText_14 : decode cX13_copiesText 14 = .ok (.iload_n 3, 1) := by decide +kernel
theorem dX13_copiesText_15 : decode cX13_copiesText 15 = .ok (.aload_n 0, 1) := by decide +kernel
theorem dX13_copiesText_16 : decode cX13_copiesText 16 = .ok (.getfield 13, 3) := by decide +kernel
theorem dX13_copiesText_19 : decode cX13_copiesText 19 = .ok (.iload_n 2, 1) := by decide +kernel
theorem dX13_copiesText_20 : decode cX13_copiesText 20 = .ok (.iaload, 1) := by decide +kernel
theorem dX13_copiesText_21 : decode cX13_copiesText 21 = .ok (.if_icmp .ge 33, 3) := by decide +kernel
theorem dX13_copiesText_24 : decode cX13_copiesText 24 = .ok (.aload_n 0, 1) := by decide +kernel
theorem dX13_copiesText_25 : decode cX13_copiesText 25 = .ok (.getfield 7, 3) := by decide +kernel
theorem dX13_copiesText_28 : decode cX13_copiesText 28 = .ok (.sipush 400, 3) := by decide +kernel
theorem dX13_copiesText_31 : decode cX13_copiesText 31 = .ok (.iload_n 1, 1) := by decide +kernel
theorem dX13_copiesText_32 : decode cX13_copiesText 32 = .ok (.imul, 1) := by decide +kernel
theorem dX13_copiesText_33 : decode cX13_copiesText 33 = .ok (.iload_n 3, 1) := by decide +kernel
theorem dX13_copiesText_34 : decode cX13_copiesText 34 = .ok (.iadd, 1) := by decide +kernel
theorem dX13_copiesText_35 : decode cX13_copiesText 35 = .ok (.aload_n 0, 1) := by decide +kernel
theorem dX13_copiesText_36 : decode cX13_copiesText 36 = .ok (.getfield 7, 3) := by decide +kernel
theorem dX13_copiesText_39 : decode cX13_copiesText 39 = .ok (.sipush 400, 3) := by decide +kernel
theorem dX13_copiesText_42 : decode cX13_copiesText 42 = .ok (.iload_n 2, 1) := by decide +kernel
theorem dX13_copiesText_43 : decode cX13_copiesText 43 = .ok (.imul, 1) := by decide +kernel
theorem dX13_copiesText_44 : decode cX13_copiesText 44 = .ok (.iload_n 3, 1) := by decide +kernel
theorem dX13_copiesText_45 : decode cX13_copiesText 45 = .ok (.iadd, 1) := by decide +kernel
theorem dX13_copiesText_46 : decode cX13_copiesText 46 = .ok (.iaload, 1) := by decide +kernel
theorem dX13_copiesText_47 : decode cX13_copiesText 47 = .ok (.iastore, 1) := by decide +kernel
theorem dX13_copiesText_48 : decode cX13_copiesText 48 = .ok (.iinc 3 1, 3) := by decide +kernel
theorem dX13_copiesText_51 : decode cX13_copiesText 51 = .ok (.goto (-37), 3) := by decide +kernel
theorem dX13_copiesText_54 : decode cX13_copiesText 54 = .ok (.iconst 0, 1) := by decide +kernel
theorem dX13_copiesText_55 : decode cX13_copiesText 55 = .ok (.istore_n 3, 1) := by decide +kernel
theorem dX13_copiesText_56 : decode cX13_copiesText 56 = .ok (.iload_n 3, 1) := by decide +kernel
theorem dX13_copiesText_57 : decode cX13_copiesText 57 = .ok (.bipush 6, 2) := by decide +kernel
theorem dX13_copiesText_59 : decode cX13_copiesText 59 = .ok (.if_icmp .ge 53, 3) := by decide +kernel
theorem dX13_copiesText_62 : decode cX13_copiesText 62 = .ok (.aload_n 0, 1) := by decide +kernel
theorem dX13_copiesText_63 : decode cX13_copiesText 63 = .ok (.getfield 16, 3) := by decide +kernel
theorem dX13_copiesText_66 : decode cX13_copiesText 66 = .ok (.bipush 6, 2) := by decide +kernel
theorem dX13_copiesText_68 : decode cX13_copiesText 68 = .ok (.iload_n 1, 1) := by decide +kernel
theorem dX13_copiesText_69 : decode cX13_copiesText 69 = .ok (.imul, 1) := by decide +kernel
theorem dX13_copiesText_70 : decode cX13_copiesText 70 = .ok (.iload_n 3, 1) := by decide +kernel
theorem dX13_copiesText_71 : decode cX13_copiesText 71 = .ok (.iadd, 1) := by decide +kernel
theorem dX13_copiesText_72 : decode cX13_copiesText 72 = .ok (.aload_n 0, 1) := by decide +kernel
theorem dX13_copiesText_73 : decode cX13_copiesText 73 = .ok (.getfield 16, 3) := by decide +kernel
theorem dX13_copiesText_76 : decode cX13_copiesText 76 = .ok (.bipush 6, 2) := by decide +kernel
theorem dX13_copiesText_78 : decode cX13_copiesText 78 = .ok (.iload_n 2, 1) := by decide +kernel
theorem dX13_copiesText_79 : decode cX13_copiesText 79 = .ok (.imul, 1) := by decide +kernel
theorem dX13_copiesText_80 : decode cX13_copiesText 80 = .ok (.iload_n 3, 1) := by decide +kernel
theorem dX13_copiesText_81 : decode cX13_copiesText 81 = .ok (.iadd, 1) := by decide +kernel
theorem dX13_copiesText_82 : decode cX13_copiesText 82 = .ok (.iaload, 1) := by decide +kernel
theorem dX13_copiesText_83 : decode cX13_copiesText 83 = .ok (.iastore, 1) := by decide +kernel
theorem dX13_copiesText_84 : decode cX13_copiesText 84 = .ok (.aload_n 0, 1) := by decide +kernel
theorem dX13_copiesText_85 : decode cX13_copiesText 85 = .ok (.getfield 19, 3) := by decide +kernel
theorem dX13_copiesText_88 : decode cX13_copiesText 88 = .ok (.bipush 6, 2) := by decide +kernel
theorem dX13_copiesText_90 : decode cX13_copiesText 90 = .ok (.iload_n 1, 1) := by decide +kernel
theorem dX13_copiesText_91 : decode cX13_copiesText 91 = .ok (.imul, 1) := by decide +kernel
theorem dX13_copiesText_92 : decode cX13_copiesText 92 = .ok (.iload_n 3, 1) := by decide +kernel
theorem dX13_copiesText_93 : decode cX13_copiesText 93 = .ok (.iadd, 1) := by decide +kernel
theorem dX13_copiesText_94 : decode cX13_copiesText 94 = .ok (.aload_n 0, 1) := by decide +kernel
theorem dX13_copiesText_95 : decode cX13_copiesText 95 = .ok (.getfield 19, 3) := by decide +kernel
theorem dX13_copiesText_98 : decode cX13_copiesText 98 = .ok (.bipush 6, 2) := by decide +kernel
theorem dX13_copiesText_100 : decode cX13_copiesText 100 = .ok (.iload_n 2, 1) := by decide +kernel
theorem dX13_copiesText_101 : decode cX13_copiesText 101 = .ok (.imul, 1) := by decide +kernel
theorem dX13_copiesText_102 : decode cX13_copiesText 102 = .ok (.iload_n 3, 1) := by decide +kernel
theorem dX13_copiesText_103 : decode cX13_copiesText 103 = .ok (.iadd, 1) := by decide +kernel
theorem dX13_copiesText_104 : decode cX13_copiesText 104 = .ok (.iaload, 1) := by decide +kernel
theorem dX13_copiesText_105 : decode cX13_copiesText 105 = .ok (.iastore, 1) := by decide +kernel
theorem dX13_copiesText_106 : decode cX13_copiesText 106 = .ok (.iinc 3 1, 3) := by decide +kernel
theorem dX13_copiesText_109 : decode cX13_copiesText 109 = .ok (.goto (-53), 3) := by decide +kernel
theorem dX13_copiesText_112 : decode cX13_copiesText 112 = .ok (.return_, 1) := by decide +kernel
set_option maxRecDepth 4000 in
theorem c_copiesText (γ : LC) (μ : MU) (w : Mm) (a b : Int) (ha : 0 ≤ a ∧ a ≤ 3) (hb : 0 ≤ b ∧ b ≤ 3) (hab : a ≠ b) (hl : 0 ≤ w 201 0 b ∧ w 201 0 b ≤ 400) : CMv γ μ 0 mX13_copiesText [.int (I a), .int (I b)] w (fun w' => w' = m_cpT a b w) := by
  refine CMv_of rfl (by simp [rv_cat, Value.category]) rfl ?_
  rintro κ hO hF rfl hR
  have hD := hF.dp
  show X κ 0 0 w 0 [some (rv μ.1), some (.int (I a)), some (.int (I b)), none] []
  refine X_aload_n 1 hO dX13_copiesText_0 rfl rfl ?_
  refine ga_13 4 hO hR dX13_copiesText_1 rfl ?_
  refine X_iload_n 5 hO dX13_copiesText_4 rfl rfl ?_
  refine X_aload_n 6 hO dX13_copiesText_5 rfl rfl ?_
  refine ga_13 9 hO hR dX13_copiesText_6 rfl ?_
  refine X_iload_n 10 hO dX13_copiesText_9 rfl rfl ?_
  refine ma_ld (L := 4) (c := 201) 11 hO hR rfl rfl rfl dX13_copiesText_10 rfl (by omega) (by omega) (fun hi_10 => ?_)
  refine ma_st (L := 4) (c := 201) 12 hO hR rfl rfl rfl dX13_copiesText_11 rfl (by omega) (by omega) (by omega) (fun hR => ?_)
  refine X_iconst 13 hO dX13_copiesText_12 rfl ?_
  refine X_istore_n 14 hO dX13_copiesText_13 rfl rfl ?_
  have LP14 : ∀ (n : Nat) (k : Int), (w 201 0 b - k).toNat < n → (0 ≤ k ∧ k ≤ w 201 0 b) → RM ((fl (up w 201 0 a (w 201 0 b)) 200 (400 * a) (k) (fun i => w 200 0 (i - 400 * a + 400 * b)))) μ → X κ 0 0 ((fl (up w 201 0 a (w 201 0 b)) 200 (400 * a) (k) (fun i => w 200 0 (i - 400 * a + 400 * b)))) 14 [some (rv μ.1), some (.int (I a)), some (.int (I b)), some (.int (I k))] [] := by
    intro n
    induction n with
    | zero => intro k hm; exact absurd hm (Nat.not_lt_zero _)
    | succ n ih =>
      intro k hm hk hR
      have el : (fl (up w 201 0 a (w 201 0 b)) 200 (400 * a) (k) (fun i => w 200 0 (i - 400 * a + 400 * b))) 201 0 b = w 201 0 b := (by grind [fl, up])
      refine X_iload_n 15 hO dX13_copiesText_14 rfl rfl ?_
      refine X_aload_n 16 hO dX13_copiesText_15 rfl rfl ?_
      refine ga_13 19 hO hR dX13_copiesText_16 rfl ?_
      refine X_iload_n 20 hO dX13_copiesText_19 rfl rfl ?_
      refine ma_ld (L := 4) (c := 201) 21 hO hR rfl rfl rfl dX13_copiesText_20 rfl (by omega) (by omega) (fun hi_20 => ?_)
      refine X_icmp_ge 24 54 hO dX13_copiesText_21 rfl rfl (by omega) (by omega) (fun hc_21 => ?_) (fun hc_21 => ?_)
      ·
        have e4 : k = w 201 0 b := by omega
        subst e4
        refine X_iconst 55 hO dX13_copiesText_54 rfl ?_
        refine X_istore_n 56 hO dX13_copiesText_55 rfl rfl ?_
        have LP56 : ∀ (n : Nat) (k : Int), (6 - k).toNat < n → (0 ≤ k ∧ k ≤ 6) → RM ((fl (fl (fl (up w 201 0 a (w 201 0 b)) 200 (400 * a) (w 201 0 b) (fun i => w 200 0 (i - 400 * a + 400 * b))) 202 (6 * a) k (fun i => w 202 0 (i - 6 * a + 6 * b))) 203 (6 * a) k (fun i => w 203 0 (i - 6 * a + 6 * b)))) μ → X κ 0 0 ((fl (fl (fl (up w 201 0 a (w 201 0 b)) 200 (400 * a) (w 201 0 b) (fun i => w 200 0 (i - 400 * a + 400 * b))) 202 (6 * a) k (fun i => w 202 0 (i - 6 * a + 6 * b))) 203 (6 * a) k (fun i => w 203 0 (i - 6 * a + 6 * b)))) 56 [some (rv μ.1), some (.int (I a)), some (.int (I b)), some (.int (I k))] [] := by
          intro n
          induction n with
          | zero => intro k hm; exact absurd hm (Nat.not_lt_zero _)
          | succ n ih =>
            intro k hm hk2 hR
            refine X_iload_n 57 hO dX13_copiesText_56 rfl rfl ?_
            refine X_bipush 59 hO dX13_copiesText_57 rfl (by decide) ?_
            refine X_icmp_ge 62 112 hO dX13_copiesText_59 rfl rfl (by omega) (by omega) (fun hc_59 => ?_) (fun hc_59 => ?_)
            ·
              have e4 : k = 6 := by omega
              subst e4
              exact XM_vret hO hF hR rfl dX13_copiesText_112 rfl
            ·
              refine X_aload_n 63 hO dX13_copiesText_62 rfl rfl ?_
              refine ga_16 66 hO hR dX13_copiesText_63 rfl ?_
              refine X_bipush 68 hO dX13_copiesText_66 rfl (by decide) ?_
              refine X_iload_n 69 hO dX13_copiesText_68 rfl rfl ?_
              refine X_imul 70 hO dX13_copiesText_69 rfl ?_
              refine X_iload_n 71 hO dX13_copiesText_70 rfl rfl ?_
              refine X_iadd 72 hO dX13_copiesText_71 rfl ?_
              refine X_aload_n 73 hO dX13_copiesText_72 rfl rfl ?_
              refine ga_16 76 hO hR dX13_copiesText_73 rfl ?_
              refine X_bipush 78 hO dX13_copiesText_76 rfl (by decide) ?_
              refine X_iload_n 79 hO dX13_copiesText_78 rfl rfl ?_
              refine X_imul 80 hO dX13_copiesText_79 rfl ?_
              refine X_iload_n 81 hO dX13_copiesText_80 rfl rfl ?_
              refine X_iadd 82 hO dX13_copiesText_81 rfl ?_
              refine ma_ld (L := 24) (c := 202) 83 hO hR rfl rfl rfl dX13_copiesText_82 rfl (by omega) (by omega) (fun hi_82 => ?_)
              refine ma_st (L := 24) (c := 202) 84 hO hR rfl rfl rfl dX13_copiesText_83 rfl (by omega) (by omega) (by omega) (fun hR => ?_)
              refine X_aload_n 85 hO dX13_copiesText_84 rfl rfl ?_
              refine ga_19 88 hO hR dX13_copiesText_85 rfl ?_
              refine X_bipush 90 hO dX13_copiesText_88 rfl (by decide) ?_
              refine X_iload_n 91 hO dX13_copiesText_90 rfl rfl ?_
              refine X_imul 92 hO dX13_copiesText_91 rfl ?_
              refine X_iload_n 93 hO dX13_copiesText_92 rfl rfl ?_
              refine X_iadd 94 hO dX13_copiesText_93 rfl ?_
              refine X_aload_n 95 hO dX13_copiesText_94 rfl rfl ?_
              refine ga_19 98 hO hR dX13_copiesText_95 rfl ?_
              refine X_bipush 100 hO dX13_copiesText_98 rfl (by decide) ?_
              refine X_iload_n 101 hO dX13_copiesText_100 rfl rfl ?_
              refine X_imul 102 hO dX13_copiesText_101 rfl ?_
              refine X_iload_n 103 hO dX13_copiesText_102 rfl rfl ?_
              refine X_iadd 104 hO dX13_copiesText_103 rfl ?_
              refine ma_ld (L := 24) (c := 203) 105 hO hR rfl rfl rfl dX13_copiesText_104 rfl (by omega) (by omega) (fun hi_104 => ?_)
              refine ma_st (L := 24) (c := 203) 106 hO hR rfl rfl rfl dX13_copiesText_105 rfl (by omega) (by omega) (by omega) (fun hR => ?_)
              refine X_iinc 109 hO dX13_copiesText_106 rfl rfl ?_
              refine X_goto hO dX13_copiesText_109 (tgt := 56) rfl ?_
              exact X_eqR hR (fl_step2 (by decide) (by omega) (by omega) (by grind [fl, up]) (by omega) (by omega) (by grind [fl, up])) (fun hR => ih (k + 1) (by omega) (by omega) hR)
        exact X_eqR hR (by rw [fl_0, fl_0]) (fun hR => LP56 _ 0 (Nat.lt_succ_self _) (by omega) hR)
      ·
        refine X_aload_n 25 hO dX13_copiesText_24 rfl rfl ?_
        refine ga_7 28 hO hR dX13_copiesText_25 rfl ?_
        refine X_sipush 31 hO dX13_copiesText_28 rfl (by decide) ?_
        refine X_iload_n 32 hO dX13_copiesText_31 rfl rfl ?_
        refine X_imul 33 hO dX13_copiesText_32 rfl ?_
        refine X_iload_n 34 hO dX13_copiesText_33 rfl rfl ?_
        refine X_iadd 35 hO dX13_copiesText_34 rfl ?_
        refine X_aload_n 36 hO dX13_copiesText_35 rfl rfl ?_
        refine ga_7 39 hO hR dX13_copiesText_36 rfl ?_
        refine X_sipush 42 hO dX13_copiesText_39 rfl (by decide) ?_
        refine X_iload_n 43 hO dX13_copiesText_42 rfl rfl ?_
        refine X_imul 44 hO dX13_copiesText_43 rfl ?_
        refine X_iload_n 45 hO dX13_copiesText_44 rfl rfl ?_
        refine X_iadd 46 hO dX13_copiesText_45 rfl ?_
        refine ma_ld (L := 1600) (c := 200) 47 hO hR rfl rfl rfl dX13_copiesText_46 rfl (by omega) (by omega) (fun hi_46 => ?_)
        refine ma_st (L := 1600) (c := 200) 48 hO hR rfl rfl rfl dX13_copiesText_47 rfl (by omega) (by omega) (by omega) (fun hR => ?_)
        refine X_iinc 51 hO dX13_copiesText_48 rfl rfl ?_
        refine X_goto hO dX13_copiesText_51 (tgt := 14) rfl ?_
        exact X_eqR hR (fl_step (by omega) (by omega) (by grind [fl, up])) (fun hR => ih (k + 1) (by omega) (by omega) hR)
  exact X_eqR hR (fl_0 _ _ _ _).symm (fun hR => LP14 _ 0 (Nat.lt_succ_self _) (by omega) hR)
def m_cpP (a b : Int) (w : Mm) : Mm := (fl (fl (up (up w 207 0 a (w 207 0 b)) 210 0 a (w 210 0 b)) 208 (4 * a) 4 (fun i => w 208 0 (i - 4 * a + 4 * b))) 209 (4 * a) 4 (fun i => w 209 0 (i - 4 * a + 4 * b)))
theorem dX13_copiesPlaces_0 : decode cX13_copiesPlaces 0 = .ok (.aload_n 0, 1) := by decide +kernel
theorem dX13_copiesPlaces_1 : decode cX13_copiesPlaces 1 = .ok (.getfield 31, 3) := by decide +kernel
theorem dX13_copiesPlaces_4 : decode cX13_copiesPlaces 4 = .ok (.iload_n 1, 1) := by decide +kernel
theorem dX13_copiesPlaces_5 : decode cX13_copiesPlaces 5 = .ok (.aload_n 0, 1) := by decide +kernel
theorem dX13_copiesPlaces_6 : decode cX13_copiesPlaces 6 = .ok (.getfield 31, 3) := by decide +kernel
theorem dX13_copiesPlaces_9 : decode cX13_copiesPlaces 9 = .ok (.iload_n 2, 1) := by decide +kernel
theorem dX13_copiesPlaces_10 : decode cX13_copiesPlaces 10 = .ok (.iaload, 1) := by decide +kernel
theorem dX13_copiesPlaces_11 : decode cX13_copiesPlaces 11 = .ok (.iastore, 1) := by decide +kernel
theorem dX13_copiesPlaces_12 : decode cX13_copiesPlaces 12 = .ok (.aload_n 0, 1) := by decide +kernel
theorem dX13_copiesPlaces_13 : decode cX13_copiesPlaces 13 = .ok (.getfield 40, 3) := by decide +kernel
theorem dX13_copiesPlaces_16 : decode cX13_copiesPlaces 16 = .ok (.iload_n 1, 1) := by decide +kernel
theorem dX13_copiesPlaces_17 : decode cX13_copiesPlaces 17 = .ok (.aload_n 0, 1) := by decide +kernel
theorem dX13_copiesPlaces_18 : decode cX13_copiesPlaces 18 = .ok (.getfield 40, 3) := by decide +kernel
theorem dX13_copiesPlaces_21 : decode cX13_copiesPlaces 21 = .ok (.iload_n 2, 1) := by decide +kernel
theorem dX13_copiesPlaces_22 : decode cX13_copiesPlaces 22 = .ok (.iaload, 1) := by decide +kernel
theorem dX13_copiesPlaces_23 : decode cX13_copiesPlaces 23 = .ok (.iastore, 1) := by decide +kernel
theorem dX13_copiesPlaces_24 : decode cX13_copiesPlaces 24 = .ok (.iconst 0, 1) := by decide +kernel
theorem dX13_copiesPlaces_25 : decode cX13_copiesPlaces 25 = .ok (.istore_n 3, 1) := by decide +kernel
theorem dX13_copiesPlaces_26 : decode cX13_copiesPlaces 26 = .ok (.iload_n 3, 1) := by decide +kernel
theorem dX13_copiesPlaces_27 : decode cX13_copiesPlaces 27 = .ok (.iconst 4, 1) := by decide +kernel
theorem dX13_copiesPlaces_28 : decode cX13_copiesPlaces 28 = .ok (.if_icmp .ge 49, 3) := by decide +kernel
theorem dX13_copiesPlaces_31 : decode cX13_copiesPlaces 31 = .ok (.aload_n 0, 1) := by decide +kernel
theorem dX13_copiesPlaces_32 : decode cX13_copiesPlaces 32 = .ok (.getfield 34, 3) := by decide +kernel
theorem dX13_copiesPlaces_35 : decode cX13_copiesPlaces 35 = .ok (.iconst 4, 1) := by decide +kernel
theorem dX13_copiesPlaces_36 : decode cX13_copiesPlaces 36 = .ok (.iload_n 1, 1) := by decide +kernel
theorem dX13_copiesPlaces_37 : decode cX13_copiesPlaces 37 = .ok (.imul, 1) := by decide +kernel
theorem dX13_copiesPlaces_38 : decode cX13_copiesPlaces 38 = .ok (.iload_n 3, 1) := by decide +kernel
theorem dX13_copiesPlaces_39 : decode cX13_copiesPlaces 39 = .ok (.iadd, 1) := by decide +kernel
theorem dX13_copiesPlaces_40 : decode cX13_copiesPlaces 40 = .ok (.aload_n 0, 1) := by decide +kernel
theorem dX13_copiesPlaces_41 : decode cX13_copiesPlaces 41 = .ok (.getfield 34, 3) := by decide +kernel
theorem dX13_copiesPlaces_44 : decode cX13_copiesPlaces 44 = .ok (.iconst 4, 1) := by decide +kernel
theorem dX13_copiesPlaces_45 : decode cX13_copiesPlaces 45 = .ok (.iload_n 2, 1) := by decide +kernel
theorem dX13_copiesPlaces_46 : decode cX13_copiesPlaces 46 = .ok (.imul, 1) := by decide +kernel
theorem dX13_copiesPlaces_47 : decode cX13_copiesPlaces 47 = .ok (.iload_n 3, 1) := by decide +kernel
theorem dX13_copiesPlaces_48 : decode cX13_copiesPlaces 48 = .ok (.iadd, 1) := by decide +kernel
theorem dX13_copiesPlaces_49 : decode cX13_copiesPlaces 49 = .ok (.iaload, 1) := by decide +kernel
theorem dX13_copiesPlaces_50 : decode cX13_copiesPlaces 50 = .ok (.iastore, 1) := by decide +kernel
theorem dX13_copiesPlaces_51 : decode cX13_copiesPlaces 51 = .ok (.aload_n 0, 1) := by decide +kernel
theorem dX13_copiesPlaces_52 : decode cX13_copiesPlaces 52 = .ok (.getfield 37, 3) := by decide +kernel
theorem dX13_copiesPlaces_55 : decode cX13_copiesPlaces 55 = .ok (.iconst 4, 1) := by decide +kernel
theorem dX13_copiesPlaces_56 : decode cX13_copiesPlaces 56 = .ok (.iload_n 1, 1) := by decide +kernel
theorem dX13_copiesPlaces_57 : decode cX13_copiesPlaces 57 = .ok (.imul, 1) := by decide +kernel
theorem dX13_copiesPlaces_58 : decode cX13_copiesPlaces 58 = .ok (.iload_n 3, 1) := by decide +kernel
theorem dX13_copiesPlaces_59 : decode cX13_copiesPlaces 59 = .ok (.iadd, 1) := by decide +kernel
theorem dX13_copiesPlaces_60 : decode cX13_copiesPlaces 60 = .ok (.aload_n 0, 1) := by decide +kernel
theorem dX13_copiesPlaces_61 : decode cX13_copiesPlaces 61 = .ok (.getfield 37, 3) := by decide +kernel
theorem dX13_copiesPlaces_64 : decode cX13_copiesPlaces 64 = .ok (.iconst 4, 1) := by decide +kernel
theorem dX13_copiesPlaces_65 : decode cX13_copiesPlaces 65 = .ok (.iload_n 2, 1) := by decide +kernel
theorem dX13_copiesPlaces_66 : decode cX13_copiesPlaces 66 = .ok (.imul, 1) := by decide +kernel
theorem dX13_copiesPlaces_67 : decode cX13_copiesPlaces 67 = .ok (.iload_n 3, 1) := by decide +kernel
theorem dX13_copiesPlaces_68 : decode cX13_copiesPlaces 68 = .ok (.iadd, 1) := by decide +kernel
theorem dX13_copiesPlaces_69 : decode cX13_copiesPlaces 69 = .ok (.iaload, 1) := by decide +kernel
theorem dX13_copiesPlaces_70 : decode cX13_copiesPlaces 70 = .ok (.iastore, 1) := by decide +kernel
theorem dX13_copiesPlaces_71 : decode cX13_copiesPlaces 71 = .ok (.iinc 3 1, 3) := by decide +kernel
theorem dX13_copiesPlaces_74 : decode cX13_copiesPlaces 74 = .ok (.goto (-48), 3) := by decide +kernel
theorem dX13_copiesPlaces_77 : decode cX13_copiesPlaces 77 = .ok (.return_, 1) := by decide +kernel
set_option maxRecDepth 4000 in
theorem c_copiesPlaces (γ : LC) (μ : MU) (w : Mm) (a b : Int) (ha : 0 ≤ a ∧ a ≤ 3) (hb : 0 ≤ b ∧ b ≤ 3) (hab : a ≠ b) : CMv γ μ 0 mX13_copiesPlaces [.int (I a), .int (I b)] w (fun w' => w' = m_cpP a b w) := by
  refine CMv_of rfl (by simp [rv_cat, Value.category]) rfl ?_
  rintro κ hO hF rfl hR
  have hD := hF.dp
  show X κ 0 0 w 0 [some (rv μ.1), some (.int (I a)), some (.int (I b)), none] []
  refine X_aload_n 1 hO dX13_copiesPlaces_0 rfl rfl ?_
  refine ga_31 4 hO hR dX13_copiesPlaces_1 rfl ?_
  refine X_iload_n 5 hO dX13_copiesPlaces_4 rfl rfl ?_
  refine X_aload_n 6 hO dX13_copiesPlaces_5 rfl rfl ?_
  refine ga_31 9 hO hR dX13_copiesPlaces_6 rfl ?_
  refine X_iload_n 10 hO dX13_copiesPlaces_9 rfl rfl ?_
  refine ma_ld (L := 4) (c := 207) 11 hO hR rfl rfl rfl dX13_copiesPlaces_10 rfl (by omega) (by omega) (fun hi_10 => ?_)
  refine ma_st (L := 4) (c := 207) 12 hO hR rfl rfl rfl dX13_copiesPlaces_11 rfl (by omega) (by omega) (by omega) (fun hR => ?_)
  refine X_aload_n 13 hO dX13_copiesPlaces_12 rfl rfl ?_
  refine ga_40 16 hO hR dX13_copiesPlaces_13 rfl ?_
  refine X_iload_n 17 hO dX13_copiesPlaces_16 rfl rfl ?_
  refine X_aload_n 18 hO dX13_copiesPlaces_17 rfl rfl ?_
  refine ga_40 21 hO hR dX13_copiesPlaces_18 rfl ?_
  refine X_iload_n 22 hO dX13_copiesPlaces_21 rfl rfl ?_
  refine ma_ld (L := 4) (c := 210) 23 hO hR rfl rfl rfl dX13_copiesPlaces_22 rfl (by omega) (by omega) (fun hi_22 => ?_)
  refine ma_st (L := 4) (c := 210) 24 hO hR rfl rfl rfl dX13_copiesPlaces_23 rfl (by omega) (by omega) (by omega) (fun hR => ?_)
  refine X_iconst 25 hO dX13_copiesPlaces_24 rfl ?_
  refine X_istore_n 26 hO dX13_copiesPlaces_25 rfl rfl ?_
  have LP26 : ∀ (n : Nat) (k : Int), (4 - k).toNat < n → (0 ≤ k ∧ k ≤ 4) → RM ((fl (fl (up (up w 207 0 a (w 207 0 b)) 210 0 a (w 210 0 b)) 208 (4 * a) k (fun i => w 208 0 (i - 4 * a + 4 * b))) 209 (4 * a) k (fun i => w 209 0 (i - 4 * a + 4 * b)))) μ → X κ 0 0 ((fl (fl (up (up w 207 0 a (w 207 0 b)) 210 0 a (w 210 0 b)) 208 (4 * a) k (fun i => w 208 0 (i - 4 * a + 4 * b))) 209 (4 * a) k (fun i => w 209 0 (i - 4 * a + 4 * b)))) 26 [some (rv μ.1), some (.int (I a)), some (.int (I b)), some (.int (I k))] [] := by
    intro n
    induction n with
    | zero => intro k hm; exact absurd hm (Nat.not_lt_zero _)
    | succ n ih =>
      intro k hm hk2 hR
      refine X_iload_n 27 hO dX13_copiesPlaces_26 rfl rfl ?_
      refine X_iconst 28 hO dX13_copiesPlaces_27 rfl ?_
      refine X_icmp_ge 31 77 hO dX13_copiesPlaces_28 rfl rfl (by omega) (by omega) (fun hc_28 => ?_) (fun hc_28 => ?_)
      ·
        have e4 : k = 4 := by omega
        subst e4
        exact XM_vret hO hF hR rfl dX13_copiesPlaces_77 rfl
      ·
        refine X_aload_n 32 hO dX13_copiesPlaces_31 rfl rfl ?_
        refine ga_34 35 hO hR dX13_copiesPlaces_32 rfl ?_
        refine X_iconst 36 hO dX13_copiesPlaces_35 rfl ?_
        refine X_iload_n 37 hO dX13_copiesPlaces_36 rfl rfl ?_
        refine X_imul 38 hO dX13_copiesPlaces_37 rfl ?_
        refine X_iload_n 39 hO dX13_copiesPlaces_38 rfl rfl ?_
        refine X_iadd 40 hO dX13_copiesPlaces_39 rfl ?_
        refine X_aload_n 41 hO dX13_copiesPlaces_40 rfl rfl ?_
        refine ga_34 44 hO hR dX13_copiesPlaces_41 rfl ?_
        refine X_iconst 45 hO dX13_copiesPlaces_44 rfl ?_
        refine X_iload_n 46 hO dX13_copiesPlaces_45 rfl rfl ?_
        refine X_imul 47 hO dX13_copiesPlaces_46 rfl ?_
        refine X_iload_n 48 hO dX13_copiesPlaces_47 rfl rfl ?_
        refine X_iadd 49 hO dX13_copiesPlaces_48 rfl ?_
        refine ma_ld (L := 16) (c := 208) 50 hO hR rfl rfl rfl dX13_copiesPlaces_49 rfl (by omega) (by omega) (fun hi_49 => ?_)
        refine ma_st (L := 16) (c := 208) 51 hO hR rfl rfl rfl dX13_copiesPlaces_50 rfl (by omega) (by omega) (by omega) (fun hR => ?_)
        refine X_aload_n 52 hO dX13_copiesPlaces_51 rfl rfl ?_
        refine ga_37 55 hO hR dX13_copiesPlaces_52 rfl ?_
        refine X_iconst 56 hO dX13_copiesPlaces_55 rfl ?_
        refine X_iload_n 57 hO dX13_copiesPlaces_56 rfl rfl ?_
        refine X_imul 58 hO dX13_copiesPlaces_57 rfl ?_
        refine X_iload_n 59 hO dX13_copiesPlaces_58 rfl rfl ?_
        refine X_iadd 60 hO dX13_copiesPlaces_59 rfl ?_
        refine X_aload_n 61 hO dX13_copiesPlaces_60 rfl rfl ?_
        refine ga_37 64 hO hR dX13_copiesPlaces_61 rfl ?_
        refine X_iconst 65 hO dX13_copiesPlaces_64 rfl ?_
        refine X_iload_n 66 hO dX13_copiesPlaces_65 rfl rfl ?_
        refine X_imul 67 hO dX13_copiesPlaces_66 rfl ?_
        refine X_iload_n 68 hO dX13_copiesPlaces_67 rfl rfl ?_
        refine X_iadd 69 hO dX13_copiesPlaces_68 rfl ?_
        refine ma_ld (L := 16) (c := 209) 70 hO hR rfl rfl rfl dX13_copiesPlaces_69 rfl (by omega) (by omega) (fun hi_69 => ?_)
        refine ma_st (L := 16) (c := 209) 71 hO hR rfl rfl rfl dX13_copiesPlaces_70 rfl (by omega) (by omega) (by omega) (fun hR => ?_)
        refine X_iinc 74 hO dX13_copiesPlaces_71 rfl rfl ?_
        refine X_goto hO dX13_copiesPlaces_74 (tgt := 26) rfl ?_
        exact X_eqR hR (fl_step2 (by decide) (by omega) (by omega) (by grind [fl, up]) (by omega) (by omega) (by grind [fl, up])) (fun hR => ih (k + 1) (by omega) (by omega) hR)
  exact X_eqR hR (by rw [fl_0, fl_0]; grind [up]) (fun hR => LP26 _ 0 (Nat.lt_succ_self _) (by omega) hR)
def m_cpQ (T : Int → Bool) (k a b : Int) (w : Mm) : Mm := fun c x i =>
  if c = 204 ∧ x = 0 ∧ 5 * a ≤ i ∧ i < 5 * a + k ∧ T (i - 5 * a) = true then w 204 0 (i - 5 * a + 5 * b)
  else if c = 205 ∧ x = 0 ∧ 20 * a ≤ i ∧ i < 20 * a + 4 * k ∧ T ((i - 20 * a) / 4) = true then w 205 0 (i - 20 * a + 20 * b)
  else if c = 206 ∧ x = 0 ∧ 400 * a ≤ i ∧ i < 400 * a + 80 * k ∧ T ((i - 400 * a) / 80) = true then w 206 0 (i - 400 * a + 400 * b) else w c x i
theorem cpQ_0 (T : Int → Bool) (a b : Int) (w : Mm) : m_cpQ T 0 a b w = w := by
  funext c x i
  unfold m_cpQ
  rw [if_neg (by omega), if_neg (by omega), if_neg (by omega)]
theorem cpQ_skip {T : Int → Bool} {k a b : Int} {w : Mm} (hk : 0 ≤ k) (h : ¬ T k = true) : m_cpQ T (k + 1) a b w = m_cpQ T k a b w := by
  funext c x i
  unfold m_cpQ
  have e1 : (c = 204 ∧ x = 0 ∧ 5 * a ≤ i ∧ i < 5 * a + (k + 1) ∧ T (i - 5 * a) = true) ↔ (c = 204 ∧ x = 0 ∧ 5 * a ≤ i ∧ i < 5 * a + k ∧ T (i - 5 * a) = true) := by
    constructor
    · rintro ⟨h1, h2, h3, h4, h5⟩
      refine ⟨h1, h2, h3, ?_, h5⟩
      by_cases q : i - 5 * a = k
      · rw [q] at h5; exact absurd h5 h
      · omega
    · rintro ⟨h1, h2, h3, h4, h5⟩; exact ⟨h1, h2, h3, by omega, h5⟩
  have e2 : (c = 205 ∧ x = 0 ∧ 20 * a ≤ i ∧ i < 20 * a + 4 * (k + 1) ∧ T ((i - 20 * a) / 4) = true) ↔ (c = 205 ∧ x = 0 ∧ 20 * a ≤ i ∧ i < 20 * a + 4 * k ∧ T ((i - 20 * a) / 4) = true) := by
    constructor
    · rintro ⟨h1, h2, h3, h4, h5⟩
      refine ⟨h1, h2, h3, ?_, h5⟩
      by_cases q : (i - 20 * a) / 4 = k
      · rw [q] at h5; exact absurd h5 h
      · omega
    · rintro ⟨h1, h2, h3, h4, h5⟩; exact ⟨h1, h2, h3, by omega, h5⟩
  have e3 : (c = 206 ∧ x = 0 ∧ 400 * a ≤ i ∧ i < 400 * a + 80 * (k + 1) ∧ T ((i - 400 * a) / 80) = true) ↔ (c = 206 ∧ x = 0 ∧ 400 * a ≤ i ∧ i < 400 * a + 80 * k ∧ T ((i - 400 * a) / 80) = true) := by
    constructor
    · rintro ⟨h1, h2, h3, h4, h5⟩
      refine ⟨h1, h2, h3, ?_, h5⟩
      by_cases q : (i - 400 * a) / 80 = k
      · rw [q] at h5; exact absurd h5 h
      · omega
    · rintro ⟨h1, h2, h3, h4, h5⟩; exact ⟨h1, h2, h3, by omega, h5⟩
  simp only [e1, e2, e3]
theorem cpQ_do {T : Int → Bool} {k a b : Int} {w : Mm} (hk : 0 ≤ k ∧ k ≤ 4) (hab : a ≠ b) (h : T k = true) : m_cpS a b k (m_cpQ T k a b w) = m_cpQ T (k + 1) a b w := by
  funext c x i
  unfold m_cpS
  by_cases hx : x = 0
  · subst hx
    by_cases h1 : c = 204
    · subst h1
      by_cases q : i = 5 * a + k
      · have : i - 5 * a = k := by omega
        grind [fl, up, m_cpQ]
      · have : i - 5 * a ≠ k := by omega
        grind [fl, up, m_cpQ]
    · by_cases h2 : c = 205
      · subst h2
        by_cases q : 20 * a + 4 * k ≤ i ∧ i < 20 * a + 4 * k + 4
        · have : (i - 20 * a) / 4 = k := by omega
          grind [fl, up, m_cpQ]
        · grind [fl, up, m_cpQ]
      · by_cases h3 : c = 206
        · subst h3
          by_cases q : 400 * a + 80 * k ≤ i ∧ i < 400 * a + 80 * k + 80
          · have : (i - 400 * a) / 80 = k := by omega
            grind [fl, up, m_cpQ]
          · grind [fl, up, m_cpQ]
        · grind [fl, up, m_cpQ]
  · grind [fl, up, m_cpQ]
