/-! distance in the tree, a node goes into its child, macros and trials made -/
def nnm (w : Mm) (x : Int) : Int := if x = 0 then 0 else w 63 x 0 + 1
def t_dist (w : Mm) : Nat → Int → Int → Int
  | 0, _, _ => 0
  | f + 1, a, b => if a = 0 ∨ b = 0 ∨ a = b then 0 else 1 + (if w 63 b 0 < w 63 a 0 then t_dist w f (w 26 a 0) b else t_dist w f a (w 26 b 0))
def PRt (w : Mm) : Prop := ∀ x, w 0 x 0 = 5 → 0 < x ∧ 0 ≤ w 63 x 0 ∧ w 63 x 0 ≤ 100000 ∧ (w 26 x 0 = 0 ∨ (w 0 (w 26 x 0) 0 = 5 ∧ w 63 (w 26 x 0) 0 < w 63 x 0))
theorem nnm_b {w : Mm} (h : PRt w) {x : Int} (hx : x = 0 ∨ w 0 x 0 = 5) : 0 ≤ nnm w x ∧ nnm w x ≤ 100001 ∧ 0 ≤ x := by
  unfold nnm
  by_cases c : x = 0
  · rw [if_pos c]; omega
  · rw [if_neg c]; have := h x (hx.resolve_left c); omega
theorem nnm_p {w : Mm} (h : PRt w) {x : Int} (hx : w 0 x 0 = 5) : (w 26 x 0 = 0 ∨ w 0 (w 26 x 0) 0 = 5) ∧ nnm w (w 26 x 0) < nnm w x := by
  have h1 := h x hx
  unfold nnm
  rw [if_neg (show ¬ x = 0 by omega)]
  rcases h1.2.2.2 with c | ⟨c, c2⟩
  · rw [if_pos c]; exact ⟨Or.inl c, by omega⟩
  · have := h _ c
    rw [if_neg (by omega)]; exact ⟨Or.inr c, by omega⟩
theorem t_dist_0 {w : Mm} {f : Nat} {a b : Int} (h : a = 0 ∨ b = 0 ∨ a = b) : t_dist w f a b = 0 := by
  cases f with
  | zero => rfl
  | succ f => simp only [t_dist]; rw [if_pos h]
theorem q_join_k {s o : Int} {w : Mm} {c : Nat} {a i : Int} (h1 : c ≠ 33) (h2 : c ≠ 34) (h3 : c ≠ 35) (h4 : c ≠ 71) (h5 : c ≠ 72) : q_join s o w c a i = w c a i := by
  unfold q_join
  split
  · rfl
  · rw [up_k _ h5, up_k _ h4, up_k _ h3]
    split <;> first | exact up_k _ h2 _ _ _ _ _ | exact up_k _ h1 _ _ _ _ _
def t_mic (x c : Int) (w : Mm) : Mm := up (up (up (q_join (w 25 x 0) (w 25 c 0) w) 25 c 0 (w 25 x 0)) 26 c 0 (w 26 x 0)) 66 c 0 (bi (w 66 c 0 ≠ 0 ∧ w 66 x 0 ≠ 0))
theorem dX10_distance_0 : decode cX10_distance 0 = .ok (.iconst 0, 1) := by decide +kernel
theorem dX10_distance_1 : decode cX10_distance 1 = .ok (.istore_n 3, 1) := by decide +kernel
theorem dX10_distance_2 : decode cX10_distance 2 = .ok (.aload_n 1, 1) := by decide +kernel
theorem dX10_distance_3 : decode cX10_distance 3 = .ok (.astore 4, 2) := by decide +kernel
theorem dX10_distance_5 : decode cX10_distance 5 = .ok (.aload_n 2, 1) := by decide +kernel
theorem dX10_distance_6 : decode cX10_distance 6 = .ok (.astore 5, 2) := by decide +kernel
theorem dX10_distance_8 : decode cX10_distance 8 = .ok (.aload 4, 2) := by decide +kernel
theorem dX10_distance_10 : decode cX10_distance 10 = .ok (.ifnull 51, 3) := by decide +kernel
theorem dX10_distance_13 : decode cX10_distance 13 = .ok (.aload 5, 2) := by decide +kernel
theorem dX10_distance_15 : decode cX10_distance 15 = .ok (.ifnull 46, 3) := by decide +kernel
theorem dX10_distance_18 : decode cX10_distance 18 = .ok (.aload 4, 2) := by decide +kernel
theorem dX10_distance_20 : decode cX10_distance 20 = .ok (.aload 5, 2) := by decide +kernel
theorem dX10_distance_22 : decode cX10_distance 22 = .ok (.if_acmp .eq 39, 3) := by decide +kernel
theorem dX10_distance_25 : decode cX10_distance 25 = .ok (.aload 4, 2) := by decide +kernel
theorem dX10_distance_27 : decode cX10_distance 27 = .ok (.getfield 58, 3) := by decide +kernel
theorem dX10_distance_30 : decode cX10_distance 30 = .ok (.aload 5, 2) := by decide +kernel
theorem dX10_distance_32 : decode cX10_distance 32 = .ok (.getfield 58, 3) := by decide +kernel
theorem dX10_distance_35 : decode cX10_distance 35 = .ok (.if_icmp .le 13, 3) := by decide +kernel
theorem dX10_distance_38 : decode cX10_distance 38 = .ok (.aload 4, 2) := by decide +kernel
theorem dX10_distance_40 : decode cX10_distance 40 = .ok (.getfield 61, 3) := by decide +kernel
theorem dX10_distance_43 : decode cX10_distance 43 = .ok (.astore 4, 2) := by decide +kernel
theorem dX10_distance_45 : decode cX10_distance 45 = .ok (.goto 10, 3) := by decide +kernel
theorem dX10_distance_48 : decode cX10_distance 48 = .ok (.aload 5, 2) := by decide +kernel
theorem dX10_distance_50 : decode cX10_distance 50 = .ok (.getfield 61, 3) := by decide +kernel
theorem dX10_distance_53 : decode cX10_distance 53 = .ok (.astore 5, 2) := by decide +kernel
theorem dX10_distance_55 : decode cX10_distance 55 = .ok (.iinc 3 1, 3) := by decide +kernel
theorem dX10_distance_58 : decode cX10_distance 58 = .ok (.goto (-50), 3) := by decide +kernel
theorem dX10_distance_61 : decode cX10_distance 61 = .ok (.iload_n 3, 1) := by decide +kernel
theorem dX10_distance_62 : decode cX10_distance 62 = .ok (.ireturn, 1) := by decide +kernel
set_option maxRecDepth 4000 in
theorem kX10_distance (γ : LC) (w : Mm) (T a0 b0 : Int) (hP : PRt w) (ha0 : a0 = 0 ∨ w 0 a0 0 = 5) (hb0 : b0 = 0 ∨ w 0 b0 0 = 5) : KI γ 1 mX10_distance [rv T, rv a0, rv b0] w (0) (0) (fun r w' => r = t_dist w (nnm w a0 + nnm w b0).toNat a0 b0 ∧ w' = w) NX := by
  refine MX_of rfl rfl (by simp [rv_cat, int_cat]) rfl ?_
  rintro κ hO hF rfl
  have hD := hF.dp
  show X κ (0) (0) w 0 [some (rv T), some (rv a0), some (rv b0), none, none, none] []
  refine X_iconst 1 hO dX10_distance_0 rfl ?_
  refine X_istore_n 2 hO dX10_distance_1 rfl rfl ?_
  refine X_aload_n 3 hO dX10_distance_2 rfl rfl ?_
  refine X_astore 5 hO dX10_distance_3 rfl rfl ?_
  refine X_aload_n 6 hO dX10_distance_5 rfl rfl ?_
  refine X_astore 8 hO dX10_distance_6 rfl rfl ?_
  have LP8 : ∀ (nn : Nat) (F : Nat) (a b d : Int), F < nn → (a = 0 ∨ w 0 a 0 = 5) → (b = 0 ∨ w 0 b 0 = 5) → (nnm w a + nnm w b ≤ F) → (0 ≤ d ∧ d + nnm w a + nnm w b ≤ 300000) → (t_dist w (nnm w a0 + nnm w b0).toNat a0 b0 = d + t_dist w F a b) → X κ (0) (0) (w) 8 [some (rv T), some (rv a0), some (rv b0), some (.int (I d)), some (rv a), some (rv b)] [] := by
    intro nn
    induction nn with
    | zero => intro F a b d hm; exact absurd hm (Nat.not_lt_zero _)
    | succ nn ih =>
      intro F a b d hm ha hb hF2 hd hE
      have na := nnm_b hP ha
      have nb_ := nnm_b hP hb
      refine X_aload 10 hO dX10_distance_8 rfl rfl ?_
      refine X_ifnull 13 61 hO dX10_distance_10 rfl rfl (fun hc_10 => ?_) (fun hc_10 => ?_)
      ·
        refine X_iload_n 62 hO dX10_distance_61 rfl rfl ?_
        exact X_iret hO hF rfl (by first | exact Or.inl rfl | exact Or.inr ⟨rfl, bi_01 _⟩ | exact Or.inr ⟨rfl, by omega⟩) dX10_distance_62 ⟨_, rfl, (by omega), ⟨by rw [hE, t_dist_0 (by omega)]; omega, rfl⟩⟩
      ·
        refine X_aload 15 hO dX10_distance_13 rfl rfl ?_
        refine X_ifnull 18 61 hO dX10_distance_15 rfl rfl (fun hc_15 => ?_) (fun hc_15 => ?_)
        ·
          refine X_iload_n 62 hO dX10_distance_61 rfl rfl ?_
          exact X_iret hO hF rfl (by first | exact Or.inl rfl | exact Or.inr ⟨rfl, bi_01 _⟩ | exact Or.inr ⟨rfl, by omega⟩) dX10_distance_62 ⟨_, rfl, (by omega), ⟨by rw [hE, t_dist_0 (by omega)]; omega, rfl⟩⟩
        ·
          refine X_aload 20 hO dX10_distance_18 rfl rfl ?_
          refine X_aload 22 hO dX10_distance_20 rfl rfl ?_
          refine X_acmp_eq 25 61 hO dX10_distance_22 rfl rfl (by omega) (by omega) (fun hc_22 => ?_) (fun hc_22 => ?_)
          ·
            refine X_iload_n 62 hO dX10_distance_61 rfl rfl ?_
            exact X_iret hO hF rfl (by first | exact Or.inl rfl | exact Or.inr ⟨rfl, bi_01 _⟩ | exact Or.inr ⟨rfl, by omega⟩) dX10_distance_62 ⟨_, rfl, (by omega), ⟨by rw [hE, t_dist_0 (by omega)]; omega, rfl⟩⟩
          ·
            have a5 := ha.resolve_left (by omega)
            have b5 := hb.resolve_left (by omega)
            have qa := nnm_p hP a5
            have qb := nnm_p hP b5
            have pa := hP a a5
            have pb := hP b b5
            have ea : nnm w a = w 63 a 0 + 1 := by unfold nnm; rw [if_neg (by omega)]
            refine X_aload 27 hO dX10_distance_25 rfl rfl ?_
            refine gX10_58 30 hO dX10_distance_27 rfl (by first | assumption | omega | (simp (disch := first | decide | assumption | omega) only [up_k, up_s, up_a, up_i, flA_k, flA_a, flA_n, cpA_k, cpA_a, newO_o, newA_o, newO_t, newA_t, newA_n] <;> first | assumption | omega)) (fun hi_27 => ?_)
            try simp (disch := first | decide | assumption | omega) only [up_k, up_s, up_a, up_i, flA_k, flA_a, flA_n, cpA_k, cpA_a, newO_o, newA_o, newO_t, newA_t, newA_n] at hi_27 ⊢
            refine X_aload 32 hO dX10_distance_30 rfl rfl ?_
            refine gX10_58 35 hO dX10_distance_32 rfl (by first | assumption | omega | (simp (disch := first | decide | assumption | omega) only [up_k, up_s, up_a, up_i, flA_k, flA_a, flA_n, cpA_k, cpA_a, newO_o, newA_o, newO_t, newA_t, newA_n] <;> first | assumption | omega)) (fun hi_32 => ?_)
            try simp (disch := first | decide | assumption | omega) only [up_k, up_s, up_a, up_i, flA_k, flA_a, flA_n, cpA_k, cpA_a, newO_o, newA_o, newO_t, newA_t, newA_n] at hi_32 ⊢
            refine X_icmp_le 38 48 hO dX10_distance_35 rfl rfl (by omega) (by omega) (fun hc_35 => ?_) (fun hc_35 => ?_)
            ·
              refine X_aload 50 hO dX10_distance_48 rfl rfl ?_
              refine gX10_61 53 hO dX10_distance_50 rfl (by first | assumption | omega | (simp (disch := first | decide | assumption | omega) only [up_k, up_s, up_a, up_i, flA_k, flA_a, flA_n, cpA_k, cpA_a, newO_o, newA_o, newO_t, newA_t, newA_n] <;> first | assumption | omega)) ?_
              try simp (disch := first | decide | assumption | omega) only [up_k, up_s, up_a, up_i, flA_k, flA_a, flA_n, cpA_k, cpA_a, newO_o, newA_o, newO_t, newA_t, newA_n]
              refine X_astore 55 hO dX10_distance_53 rfl rfl ?_
              refine X_iinc 58 hO dX10_distance_55 rfl rfl ?_
              refine X_goto hO dX10_distance_58 (tgt := 8) rfl ?_
              obtain ⟨F, rfl⟩ : ∃ F1, F = F1 + 1 := ⟨F - 1, by omega⟩
              have hE2 : t_dist w (nnm w a0 + nnm w b0).toNat a0 b0 = d + 1 + (if w 63 b 0 < w 63 a 0 then t_dist w F (w 26 a 0) b else t_dist w F a (w 26 b 0)) := by
                rw [hE]; simp only [t_dist]; rw [if_neg (fun h => by omega)]; omega
              first
              | (rw [if_pos (by omega)] at hE2; exact ih F _ _ (d + 1) (by omega) qa.1 hb (by omega) (by omega) hE2)
              | (rw [if_neg (by omega)] at hE2; exact ih F _ _ (d + 1) (by omega) ha qb.1 (by omega) (by omega) hE2)
            ·
              refine X_aload 40 hO dX10_distance_38 rfl rfl ?_
              refine gX10_61 43 hO dX10_distance_40 rfl (by first | assumption | omega | (simp (disch := first | decide | assumption | omega) only [up_k, up_s, up_a, up_i, flA_k, flA_a, flA_n, cpA_k, cpA_a, newO_o, newA_o, newO_t, newA_t, newA_n] <;> first | assumption | omega)) ?_
              try simp (disch := first | decide | assumption | omega) only [up_k, up_s, up_a, up_i, flA_k, flA_a, flA_n, cpA_k, cpA_a, newO_o, newA_o, newO_t, newA_t, newA_n]
              refine X_astore 45 hO dX10_distance_43 rfl rfl ?_
              refine X_goto hO dX10_distance_45 (tgt := 55) rfl ?_
              refine X_iinc 58 hO dX10_distance_55 rfl rfl ?_
              refine X_goto hO dX10_distance_58 (tgt := 8) rfl ?_
              obtain ⟨F, rfl⟩ : ∃ F1, F = F1 + 1 := ⟨F - 1, by omega⟩
              have hE2 : t_dist w (nnm w a0 + nnm w b0).toNat a0 b0 = d + 1 + (if w 63 b 0 < w 63 a 0 then t_dist w F (w 26 a 0) b else t_dist w F a (w 26 b 0)) := by
                rw [hE]; simp only [t_dist]; rw [if_neg (fun h => by omega)]; omega
              first
              | (rw [if_pos (by omega)] at hE2; exact ih F _ _ (d + 1) (by omega) qa.1 hb (by omega) (by omega) hE2)
              | (rw [if_neg (by omega)] at hE2; exact ih F _ _ (d + 1) (by omega) ha qb.1 (by omega) (by omega) hE2)
  have na := nnm_b hP ha0
  have nb_ := nnm_b hP hb0
  exact LP8 _ (nnm w a0 + nnm w b0).toNat a0 b0 0 (Nat.lt_succ_self _) ha0 hb0 (by omega) (by omega) (by omega)
theorem dX10_mergeIntoChild_0 : decode cX10_mergeIntoChild 0 = .ok (.aload_n 0, 1) := by decide +kernel
theorem dX10_mergeIntoChild_1 : decode cX10_mergeIntoChild 1 = .ok (.aload_n 1, 1) := by decide +kernel
theorem dX10_mergeIntoChild_2 : decode cX10_mergeIntoChild 2 = .ok (.invokevirtual 78, 3) := by decide +kernel
theorem dX10_mergeIntoChild_5 : decode cX10_mergeIntoChild 5 = .ok (.astore_n 2, 1) := by decide +kernel
theorem dX10_mergeIntoChild_6 : decode cX10_mergeIntoChild 6 = .ok (.aload_n 2, 1) := by decide +kernel
theorem dX10_mergeIntoChild_7 : decode cX10_mergeIntoChild 7 = .ok (.ifnonnull 4, 3) := by decide +kernel
theorem dX10_mergeIntoChild_10 : decode cX10_mergeIntoChild 10 = .ok (.return_, 1) := by decide +kernel
theorem dX10_mergeIntoChild_11 : decode cX10_mergeIntoChild 11 = .ok (.aload_n 1, 1) := by decide +kernel
theorem dX10_mergeIntoChild_12 : decode cX10_mergeIntoChild 12 = .ok (.getfield 82, 3) := by decide +kernel
theorem dX10_mergeIntoChild_15 : decode cX10_mergeIntoChild 15 = .ok (.aload_n 2, 1) := by decide +kernel
theorem dX10_mergeIntoChild_16 : decode cX10_mergeIntoChild 16 = .ok (.getfield 82, 3) := by decide +kernel
theorem dX10_mergeIntoChild_19 : decode cX10_mergeIntoChild 19 = .ok (.invokevirtual 86, 3) := by decide +kernel
theorem dX10_mergeIntoChild_22 : decode cX10_mergeIntoChild 22 = .ok (.aload_n 2, 1) := by decide +kernel
theorem dX10_mergeIntoChild_23 : decode cX10_mergeIntoChild 23 = .ok (.aload_n 1, 1) := by decide +kernel
theorem dX10_mergeIntoChild_24 : decode cX10_mergeIntoChild 24 = .ok (.getfield 82, 3) := by decide +kernel
theorem dX10_mergeIntoChild_27 : decode cX10_mergeIntoChild 27 = .ok (.putfield 82, 3) := by decide +kernel
theorem dX10_mergeIntoChild_30 : decode cX10_mergeIntoChild 30 = .ok (.aload_n 2, 1) := by decide +kernel
theorem dX10_mergeIntoChild_31 : decode cX10_mergeIntoChild 31 = .ok (.aload_n 1, 1) := by decide +kernel
theorem dX10_mergeIntoChild_32 : decode cX10_mergeIntoChild 32 = .ok (.getfield 61, 3) := by decide +kernel
theorem dX10_mergeIntoChild_35 : decode cX10_mergeIntoChild 35 = .ok (.putfield 61, 3) := by decide +kernel
theorem dX10_mergeIntoChild_38 : decode cX10_mergeIntoChild 38 = .ok (.aload_n 2, 1) := by decide +kernel
theorem dX10_mergeIntoChild_39 : decode cX10_mergeIntoChild 39 = .ok (.aload_n 2, 1) := by decide +kernel
theorem dX10_mergeIntoChild_40 : decode cX10_mergeIntoChild 40 = .ok (.getfield 92, 3) := by decide +kernel
theorem dX10_mergeIntoChild_43 : decode cX10_mergeIntoChild 43 = .ok (.ifCond .eq 14, 3) := by decide +kernel
theorem dX10_mergeIntoChild_46 : decode cX10_mergeIntoChild 46 = .ok (.aload_n 1, 1) := by decide +kernel
theorem dX10_mergeIntoChild_47 : decode cX10_mergeIntoChild 47 = .ok (.getfield 92, 3) := by decide +kernel
theorem dX10_mergeIntoChild_50 : decode cX10_mergeIntoChild 50 = .ok (.ifCond .eq 7, 3) := by decide +kernel
theorem dX10_mergeIntoChild_53 : decode cX10_mergeIntoChild 53 = .ok (.iconst 1, 1) := by decide +kernel
theorem dX10_mergeIntoChild_54 : decode cX10_mergeIntoChild 54 = .ok (.goto 4, 3) := by decide +kernel
theorem dX10_mergeIntoChild_57 : decode cX10_mergeIntoChild 57 = .ok (.iconst 0, 1) := by decide +kernel
theorem dX10_mergeIntoChild_58 : decode cX10_mergeIntoChild 58 = .ok (.putfield 92, 3) := by decide +kernel
theorem dX10_mergeIntoChild_61 : decode cX10_mergeIntoChild 61 = .ok (.return_, 1) := by decide +kernel
set_option maxRecDepth 4000 in
theorem kX10_mergeIntoChild (γ : LC) (w : Mm) (T x : Int) (hT : TRt w T) (hx5 : w 0 x 0 = 5) (hx0 : 0 ≤ x) (hN : ∀ y, w 0 y 0 = 5 → QT w (w 25 y 0)) (hN2 : ∀ c, c = (t_last w (w 51 (w 38 T 0) 0) x (w 93 (w 38 T 0) 0).toNat) → w 25 x 0 ≠ w 25 c 0 ∧ c ≠ x) : KV γ 5 mX10_mergeIntoChild [rv T, rv x] w (0) (0) (fun w' => ((t_last w (w 51 (w 38 T 0) 0) x (w 93 (w 38 T 0) 0).toNat) = 0 ∧ w' = w) ∨ ((t_last w (w 51 (w 38 T 0) 0) x (w 93 (w 38 T 0) 0).toNat) ≠ 0 ∧ w' = t_mic x (t_last w (w 51 (w 38 T 0) 0) x (w 93 (w 38 T 0) 0).toNat) w)) NX := by
  refine MX_of rfl rfl (by simp [rv_cat, int_cat]) rfl ?_
  rintro κ hO hF rfl
  have hD := hF.dp
  show X κ (0) (0) w 0 [some (rv T), some (rv x), none] []
  have t0 := hT.1
  refine X_aload_n 1 hO dX10_mergeIntoChild_0 rfl rfl ?_
  refine X_aload_n 2 hO dX10_mergeIntoChild_1 rfl rfl ?_
  refine X_kVr (t := 11) 5 hO hD lX10_78 rfl (by decide) [_] rfl dX10_mergeIntoChild_2 rfl (by first | assumption | omega | (simp (disch := first | decide | assumption | omega) only [up_k, up_s, up_a, up_i, flA_k, flA_a, flA_n, cpA_k, cpA_a, newO_o, newA_o, newO_t, newA_t, newA_n, q_join_k] <;> first | assumption | omega)) (kX10_lastChild _ _ _ _ hT hx0) (by decide) (by simp [rv_cat, int_cat]) (by first | decide | exact Nat.zero_le _ | omega) (by first | decide | exact Nat.zero_le _ | omega) (fun r_2 w_2 hp_2 => ?_) (fun E w_ hx_ => hx_.elim)
  obtain ⟨e1_2, e2_2⟩ := hp_2
  subst r_2
  subst w_2
  have hl5 := t_last_5 (p := x) hT
  obtain ⟨c, hc⟩ : ∃ c, c = (t_last w (w 51 (w 38 T 0) 0) x (w 93 (w 38 T 0) 0).toNat) := ⟨_, rfl⟩
  rw [← hc] at hl5 ⊢
  refine X_astore_n 6 hO dX10_mergeIntoChild_5 rfl rfl ?_
  refine X_aload_n 7 hO dX10_mergeIntoChild_6 rfl rfl ?_
  refine X_ifnonnull 10 11 hO dX10_mergeIntoChild_7 rfl rfl (fun hc_7 => ?_) (fun hc_7 => ?_)
  ·
    have c5 := hl5.resolve_left (by omega)
    obtain ⟨hq8, hl35, hc71, hc72⟩ := hN x hx5
    obtain ⟨hqc8, hlc, hd71, hd72⟩ := hN c c5
    obtain ⟨hso, hcx⟩ := hN2 c hc
    have hxc := Ne.symm hcx
    refine X_aload_n 12 hO dX10_mergeIntoChild_11 rfl rfl ?_
    refine gX10_82 15 hO dX10_mergeIntoChild_12 rfl (by first | assumption | omega | (simp (disch := first | decide | assumption | omega) only [up_k, up_s, up_a, up_i, flA_k, flA_a, flA_n, cpA_k, cpA_a, newO_o, newA_o, newO_t, newA_t, newA_n, q_join_k] <;> first | assumption | omega)) ?_
    try simp (disch := first | decide | assumption | omega) only [up_k, up_s, up_a, up_i, flA_k, flA_a, flA_n, cpA_k, cpA_a, newO_o, newA_o, newO_t, newA_t, newA_n, q_join_k]
    refine X_aload_n 16 hO dX10_mergeIntoChild_15 rfl rfl ?_
    refine gX10_82 19 hO dX10_mergeIntoChild_16 rfl (by first | assumption | omega | (simp (disch := first | decide | assumption | omega) only [up_k, up_s, up_a, up_i, flA_k, flA_a, flA_n, cpA_k, cpA_a, newO_o, newA_o, newO_t, newA_t, newA_n, q_join_k] <;> first | assumption | omega)) ?_
    try simp (disch := first | decide | assumption | omega) only [up_k, up_s, up_a, up_i, flA_k, flA_a, flA_n, cpA_k, cpA_a, newO_o, newA_o, newO_t, newA_t, newA_n, q_join_k]
    refine X_kVv (t := 8) 22 hO hD lX10_86 rfl (by decide) [_] rfl dX10_mergeIntoChild_19 rfl (by first | assumption | omega | (simp (disch := first | decide | assumption | omega) only [up_k, up_s, up_a, up_i, flA_k, flA_a, flA_n, cpA_k, cpA_a, newO_o, newA_o, newO_t, newA_t, newA_n, q_join_k] <;> first | assumption | omega)) (kX7_join _ _ _ _ hq8 hqc8 hso hl35 hc71 hc72 hd71 hd72) (by decide) (by simp [rv_cat, int_cat]) (by first | decide | exact Nat.zero_le _ | omega) (by first | decide | exact Nat.zero_le _ | omega) (fun w_19 hp_19 => ?_) (fun E w_ hx_ => hx_.elim)
    subst w_19
    have JP58 : ∀ (z : Int), (z = bi (w 66 c 0 ≠ 0 ∧ w 66 x 0 ≠ 0)) → X κ (0) (0) (up (up (q_join (w 25 x 0) (w 25 c 0) w) 25 c 0 (w 25 x 0)) 26 c 0 (w 26 x 0)) 58 [some (rv T), some (rv x), some (rv c)] [.int (I z), rv c] := by
      intro z hz
      refine pX10_92 61 hO dX10_mergeIntoChild_58 rfl (by first | assumption | omega | (simp (disch := first | decide | assumption | omega) only [up_k, up_s, up_a, up_i, flA_k, flA_a, flA_n, cpA_k, cpA_a, newO_o, newA_o, newO_t, newA_t, newA_n, q_join_k] <;> first | assumption | omega)) (by rw [hz]; exact bi_01 _) ?_
      exact X_vret hO hF rfl dX10_mergeIntoChild_61 ⟨rfl, Or.inr ⟨by omega, by rw [hz, ← hc]; rfl⟩⟩
    refine X_aload_n 23 hO dX10_mergeIntoChild_22 rfl rfl ?_
    refine X_aload_n 24 hO dX10_mergeIntoChild_23 rfl rfl ?_
    refine gX10_82 27 hO dX10_mergeIntoChild_24 rfl (by first | assumption | omega | (simp (disch := first | decide | assumption | omega) only [up_k, up_s, up_a, up_i, flA_k, flA_a, flA_n, cpA_k, cpA_a, newO_o, newA_o, newO_t, newA_t, newA_n, q_join_k] <;> first | assumption | omega)) ?_
    try simp (disch := first | decide | assumption | omega) only [up_k, up_s, up_a, up_i, flA_k, flA_a, flA_n, cpA_k, cpA_a, newO_o, newA_o, newO_t, newA_t, newA_n, q_join_k]
    refine pX10_82 30 hO dX10_mergeIntoChild_27 rfl (by first | assumption | omega | (simp (disch := first | decide | assumption | omega) only [up_k, up_s, up_a, up_i, flA_k, flA_a, flA_n, cpA_k, cpA_a, newO_o, newA_o, newO_t, newA_t, newA_n, q_join_k] <;> first | assumption | omega)) ?_
    refine X_aload_n 31 hO dX10_mergeIntoChild_30 rfl rfl ?_
    refine X_aload_n 32 hO dX10_mergeIntoChild_31 rfl rfl ?_
    refine gX10_61 35 hO dX10_mergeIntoChild_32 rfl (by first | assumption | omega | (simp (disch := first | decide | assumption | omega) only [up_k, up_s, up_a, up_i, flA_k, flA_a, flA_n, cpA_k, cpA_a, newO_o, newA_o, newO_t, newA_t, newA_n, q_join_k] <;> first | assumption | omega)) ?_
    try simp (disch := first | decide | assumption | omega) only [up_k, up_s, up_a, up_i, flA_k, flA_a, flA_n, cpA_k, cpA_a, newO_o, newA_o, newO_t, newA_t, newA_n, q_join_k]
    refine pX10_61 38 hO dX10_mergeIntoChild_35 rfl (by first | assumption | omega | (simp (disch := first | decide | assumption | omega) only [up_k, up_s, up_a, up_i, flA_k, flA_a, flA_n, cpA_k, cpA_a, newO_o, newA_o, newO_t, newA_t, newA_n, q_join_k] <;> first | assumption | omega)) ?_
    refine X_aload_n 39 hO dX10_mergeIntoChild_38 rfl rfl ?_
    refine X_aload_n 40 hO dX10_mergeIntoChild_39 rfl rfl ?_
    refine gX10_92 43 hO dX10_mergeIntoChild_40 rfl (by first | assumption | omega | (simp (disch := first | decide | assumption | omega) only [up_k, up_s, up_a, up_i, flA_k, flA_a, flA_n, cpA_k, cpA_a, newO_o, newA_o, newO_t, newA_t, newA_n, q_join_k] <;> first | assumption | omega)) (fun hi_40 => ?_)
    try simp (disch := first | decide | assumption | omega) only [up_k, up_s, up_a, up_i, flA_k, flA_a, flA_n, cpA_k, cpA_a, newO_o, newA_o, newO_t, newA_t, newA_n, q_join_k] at hi_40 ⊢
    refine X_if_eq 46 57 hO dX10_mergeIntoChild_43 rfl rfl (by omega) (fun hc_43 => ?_) (fun hc_43 => ?_)
    ·
      try simp only [bi_0, bi_ne, ne_eq, Classical.not_not] at hc_43
      refine X_iconst 58 hO dX10_mergeIntoChild_57 rfl ?_
      exact JP58 _ (by first | exact bi_t (by omega) | exact bi_f (by omega))
    ·
      try simp only [bi_0, bi_ne, ne_eq, Classical.not_not] at hc_43
      refine X_aload_n 47 hO dX10_mergeIntoChild_46 rfl rfl ?_
      refine gX10_92 50 hO dX10_mergeIntoChild_47 rfl (by first | assumption | omega | (simp (disch := first | decide | assumption | omega) only [up_k, up_s, up_a, up_i, flA_k, flA_a, flA_n, cpA_k, cpA_a, newO_o, newA_o, newO_t, newA_t, newA_n, q_join_k] <;> first | assumption | omega)) (fun hi_47 => ?_)
      try simp (disch := first | decide | assumption | omega) only [up_k, up_s, up_a, up_i, flA_k, flA_a, flA_n, cpA_k, cpA_a, newO_o, newA_o, newO_t, newA_t, newA_n, q_join_k] at hi_47 ⊢
      refine X_if_eq 53 57 hO dX10_mergeIntoChild_50 rfl rfl (by omega) (fun hc_50 => ?_) (fun hc_50 => ?_)
      ·
        try simp only [bi_0, bi_ne, ne_eq, Classical.not_not] at hc_50
        refine X_iconst 58 hO dX10_mergeIntoChild_57 rfl ?_
        exact JP58 _ (by first | exact bi_t (by omega) | exact bi_f (by omega))
      ·
        try simp only [bi_0, bi_ne, ne_eq, Classical.not_not] at hc_50
        refine X_iconst 54 hO dX10_mergeIntoChild_53 rfl ?_
        refine X_goto hO dX10_mergeIntoChild_54 (tgt := 58) rfl ?_
        exact JP58 _ (by first | exact bi_t (by omega) | exact bi_f (by omega))
  ·
    exact X_vret hO hF rfl dX10_mergeIntoChild_10 ⟨rfl, Or.inl ⟨by omega, rfl⟩⟩
theorem dX11_init_0 : decode cX11_init 0 = .ok (.aload_n 0, 1) := by decide +kernel
theorem dX11_init_1 : decode cX11_init 1 = .ok (.invokespecial 3, 3) := by decide +kernel
theorem dX11_init_4 : decode cX11_init 4 = .ok (.aload_n 0, 1) := by decide +kernel
theorem dX11_init_5 : decode cX11_init 5 = .ok (.iconst (-1), 1) := by decide +kernel
theorem dX11_init_6 : decode cX11_init 6 = .ok (.putfield 9, 3) := by decide +kernel
theorem dX11_init_9 : decode cX11_init 9 = .ok (.aload_n 0, 1) := by decide +kernel
theorem dX11_init_10 : decode cX11_init 10 = .ok (.iconst (-1), 1) := by decide +kernel
theorem dX11_init_11 : decode cX11_init 11 = .ok (.putfield 15, 3) := by decide +kernel
theorem dX11_init_14 : decode cX11_init 14 = .ok (.return_, 1) := by decide +kernel
set_option maxRecDepth 4000 in
theorem kX11_init (γ : LC) (w : Mm) (t : Int) (hq : 0 < t) (ht : w 0 t 0 = 12) : KV γ 1 mX11_init [rv t] w (0) (0) (fun w' => w' = up (up w 83 t 0 (-1)) 85 t 0 (-1)) NX := by
  refine MX_of rfl rfl (by simp [rv_cat, int_cat]) rfl ?_
  rintro κ hO hF rfl
  have hD := hF.dp
  show X κ (0) (0) w 0 [some (rv t)] []
  refine X_aload_n 1 hO dX11_init_0 rfl rfl ?_
  refine X_objInit 4 hO w_518 dX11_init_1 rfl hD (by decide) (by assumption) (by simp [rv_cat, int_cat]) ?_
  refine X_aload_n 5 hO dX11_init_4 rfl rfl ?_
  refine X_iconst 6 hO dX11_init_5 rfl ?_
  refine pX11_9 9 hO dX11_init_6 rfl (by first | assumption | omega | (simp (disch := first | decide | assumption | omega) only [up_k, up_s, up_a, up_i, flA_k, flA_a, flA_n, cpA_k, cpA_a, newO_o, newA_o, newO_t, newA_t, newA_n] <;> first | assumption | omega)) (by omega) ?_
  refine X_aload_n 10 hO dX11_init_9 rfl rfl ?_
  refine X_iconst 11 hO dX11_init_10 rfl ?_
  refine pX11_15 14 hO dX11_init_11 rfl (by first | assumption | omega | (simp (disch := first | decide | assumption | omega) only [up_k, up_s, up_a, up_i, flA_k, flA_a, flA_n, cpA_k, cpA_a, newO_o, newA_o, newO_t, newA_t, newA_n] <;> first | assumption | omega)) (by omega) ?_
  exact X_vret hO hF rfl dX11_init_14 ⟨rfl, rfl⟩
