/-! THE LAW'S LOOP -/
section LLP
variable {κ : KC} {P S : Nat} {w : Mm} {b L : Nat} {xs : Nat → Int32} {μ : MU} {f o n i z : Int}
theorem la_sw (hO : Ok κ RL cL_law) (hD : Dp κ 60) (hs : SCR κ b L xs) (hw : LAW μ f o n w) (hn : 0 ≤ n ∧ n ≤ 511) (hi : 0 ≤ i ∧ i + 5 ≤ L) (hz : 0 ≤ z ∧ z ≤ 63) (kk : ∀ w', LAW μ f o (n + 1) w' → X κ P S w' 3096 (lsL b f μ o i) []) : X κ (P + 175) (S + 13300) w 39 (lsL b f μ o i) [.int (I z)] := by
  by_cases h : 57 < z
  · exact X_tabOut hO dL_law_39 (by omega) (Or.inr h) rfl (X_mono (by omega) (by omega) (kk _ hw.nx))
  obtain ⟨m, hm⟩ : ∃ m : Nat, z = m := ⟨z.toNat, by omega⟩
  have hm2 : m < 58 := by omega
  subst hm
  clear h hz
  match m, hm2 with
  | 0, _ => exact X_tabIn (x := 0) hO dL_law_39 (by decide) (by decide) (by decide) rfl rfl (la_0 hO hD hs hw hn hi kk)
  | 1, _ => exact X_tabIn (x := 1) hO dL_law_39 (by decide) (by decide) (by decide) rfl rfl (la_1 hO hD hs hw hn hi kk)
  | 2, _ => exact X_tabIn (x := 2) hO dL_law_39 (by decide) (by decide) (by decide) rfl rfl (la_2 hO hD hs hw hn hi kk)
  | 3, _ => exact X_tabIn (x := 3) hO dL_law_39 (by decide) (by decide) (by decide) rfl rfl (la_3 hO hD hs hw hn hi kk)
  | 4, _ => exact X_tabIn (x := 4) hO dL_law_39 (by decide) (by decide) (by decide) rfl rfl (la_4 hO hD hs hw hn hi kk)
  | 5, _ => exact X_tabIn (x := 5) hO dL_law_39 (by decide) (by decide) (by decide) rfl rfl (la_5 hO hD hs hw hn hi kk)
  | 6, _ => exact X_tabIn (x := 6) hO dL_law_39 (by decide) (by decide) (by decide) rfl rfl (la_6 hO hD hs hw hn hi kk)
  | 7, _ => exact X_tabIn (x := 7) hO dL_law_39 (by decide) (by decide) (by decide) rfl rfl (la_7 hO hD hs hw hn hi kk)
  | 8, _ => exact X_tabIn (x := 8) hO dL_law_39 (by decide) (by decide) (by decide) rfl rfl (la_8 hO hD hs hw hn hi kk)
  | 9, _ => exact X_tabIn (x := 9) hO dL_law_39 (by decide) (by decide) (by decide) rfl rfl (la_9 hO hD hs hw hn hi kk)
  | 10, _ => exact X_tabIn (x := 10) hO dL_law_39 (by decide) (by decide) (by decide) rfl rfl (la_10 hO hD hs hw hn hi kk)
  | 11, _ => exact X_tabIn (x := 11) hO dL_law_39 (by decide) (by decide) (by decide) rfl rfl (la_11 hO hD hs hw hn hi kk)
  | 12, _ => exact X_tabIn (x := 12) hO dL_law_39 (by decide) (by decide) (by decide) rfl rfl (la_12 hO hD hs hw hn hi kk)
  | 13, _ => exact X_tabIn (x := 13) hO dL_law_39 (by decide) (by decide) (by decide) rfl rfl (la_13 hO hD hs hw hn hi kk)
  | 14, _ => exact X_tabIn (x := 14) hO dL_law_39 (by decide) (by decide) (by decide) rfl rfl (la_14 hO hD hs hw hn hi kk)
  | 15, _ => exact X_tabIn (x := 15) hO dL_law_39 (by decide) (by decide) (by decide) rfl rfl (la_15 hO hD hs hw hn hi kk)
  | 16, _ => exact X_tabIn (x := 16) hO dL_law_39 (by decide) (by decide) (by decide) rfl rfl (la_16 hO hD hs hw hn hi kk)
  | 17, _ => exact X_tabIn (x := 17) hO dL_law_39 (by decide) (by decide) (by decide) rfl rfl (la_17 hO hD hs hw hn hi kk)
  | 18, _ => exact X_tabIn (x := 18) hO dL_law_39 (by decide) (by decide) (by decide) rfl rfl (la_18 hO hD hs hw hn hi kk)
  | 19, _ => exact X_tabIn (x := 19) hO dL_law_39 (by decide) (by decide) (by decide) rfl rfl (la_19 hO hD hs hw hn hi kk)
  | 20, _ => exact X_tabIn (x := 20) hO dL_law_39 (by decide) (by decide) (by decide) rfl rfl (la_20 hO hD hs hw hn hi kk)
  | 21, _ => exact X_tabIn (x := 21) hO dL_law_39 (by decide) (by decide) (by decide) rfl rfl (la_21 hO hD hs hw hn hi kk)
  | 22, _ => exact X_tabIn (x := 22) hO dL_law_39 (by decide) (by decide) (by decide) rfl rfl (la_22 hO hD hs hw hn hi kk)
  | 23, _ => exact X_tabIn (x := 23) hO dL_law_39 (by decide) (by decide) (by decide) rfl rfl (la_23 hO hD hs hw hn hi kk)
  | 24, _ => exact X_tabIn (x := 24) hO dL_law_39 (by decide) (by decide) (by decide) rfl rfl (la_24 hO hD hs hw hn hi kk)
  | 25, _ => exact X_tabIn (x := 25) hO dL_law_39 (by decide) (by decide) (by decide) rfl rfl (la_25 hO hD hs hw hn hi kk)
  | 26, _ => exact X_tabIn (x := 26) hO dL_law_39 (by decide) (by decide) (by decide) rfl rfl (la_26 hO hD hs hw hn hi kk)
  | 27, _ => exact X_tabIn (x := 27) hO dL_law_39 (by decide) (by decide) (by decide) rfl rfl (la_27 hO hD hs hw hn hi kk)
  | 28, _ => exact X_tabIn (x := 28) hO dL_law_39 (by decide) (by decide) (by decide) rfl rfl (la_28 hO hD hs hw hn hi kk)
  | 29, _ => exact X_tabIn (x := 29) hO dL_law_39 (by decide) (by decide) (by decide) rfl rfl (la_29 hO hD hs hw hn hi kk)
  | 30, _ => exact X_tabIn (x := 30) hO dL_law_39 (by decide) (by decide) (by decide) rfl rfl (la_30 hO hD hs hw hn hi kk)
  | 31, _ => exact X_tabIn (x := 31) hO dL_law_39 (by decide) (by decide) (by decide) rfl rfl (la_31 hO hD hs hw hn hi kk)
  | 32, _ => exact X_tabIn (x := 32) hO dL_law_39 (by decide) (by decide) (by decide) rfl rfl (la_32 hO hD hs hw hn hi kk)
  | 33, _ => exact X_tabIn (x := 33) hO dL_law_39 (by decide) (by decide) (by decide) rfl rfl (la_33 hO hD hs hw hn hi kk)
  | 34, _ => exact X_tabIn (x := 34) hO dL_law_39 (by decide) (by decide) (by decide) rfl rfl (la_34 hO hD hs hw hn hi kk)
  | 35, _ => exact X_tabIn (x := 35) hO dL_law_39 (by decide) (by decide) (by decide) rfl rfl (la_35 hO hD hs hw hn hi kk)
  | 36, _ => exact X_tabIn (x := 36) hO dL_law_39 (by decide) (by decide) (by decide) rfl rfl (la_36 hO hD hs hw hn hi kk)
  | 37, _ => exact X_tabIn (x := 37) hO dL_law_39 (by decide) (by decide) (by decide) rfl rfl (la_37 hO hD hs hw hn hi kk)
  | 38, _ => exact X_tabIn (x := 38) hO dL_law_39 (by decide) (by decide) (by decide) rfl rfl (la_38 hO hD hs hw hn hi kk)
  | 39, _ => exact X_tabIn (x := 39) hO dL_law_39 (by decide) (by decide) (by decide) rfl rfl (la_39 hO hD hs hw hn hi kk)
  | 40, _ => exact X_tabIn (x := 40) hO dL_law_39 (by decide) (by decide) (by decide) rfl rfl (la_40 hO hD hs hw hn hi kk)
  | 41, _ => exact X_tabIn (x := 41) hO dL_law_39 (by decide) (by decide) (by decide) rfl rfl (la_41 hO hD hs hw hn hi kk)
  | 42, _ => exact X_tabIn (x := 42) hO dL_law_39 (by decide) (by decide) (by decide) rfl rfl (la_42 hO hD hs hw hn hi kk)
  | 43, _ => exact X_tabIn (x := 43) hO dL_law_39 (by decide) (by decide) (by decide) rfl rfl (la_43 hO hD hs hw hn hi kk)
  | 44, _ => exact X_tabIn (x := 44) hO dL_law_39 (by decide) (by decide) (by decide) rfl rfl (la_44 hO hD hs hw hn hi kk)
  | 45, _ => exact X_tabIn (x := 45) hO dL_law_39 (by decide) (by decide) (by decide) rfl rfl (la_45 hO hD hs hw hn hi kk)
  | 46, _ => exact X_tabIn (x := 46) hO dL_law_39 (by decide) (by decide) (by decide) rfl rfl (la_46 hO hD hs hw hn hi kk)
  | 47, _ => exact X_tabIn (x := 47) hO dL_law_39 (by decide) (by decide) (by decide) rfl rfl (la_47 hO hD hs hw hn hi kk)
  | 48, _ => exact X_tabIn (x := 48) hO dL_law_39 (by decide) (by decide) (by decide) rfl rfl (la_48 hO hD hs hw hn hi kk)
  | 49, _ => exact X_tabIn (x := 49) hO dL_law_39 (by decide) (by decide) (by decide) rfl rfl (la_49 hO hD hs hw hn hi kk)
  | 50, _ => exact X_tabIn (x := 50) hO dL_law_39 (by decide) (by decide) (by decide) rfl rfl (la_50 hO hD hs hw hn hi kk)
  | 51, _ => exact X_tabIn (x := 51) hO dL_law_39 (by decide) (by decide) (by decide) rfl rfl (la_51 hO hD hs hw hn hi kk)
  | 52, _ => exact X_tabIn (x := 52) hO dL_law_39 (by decide) (by decide) (by decide) rfl rfl (la_52 hO hD hs hw hn hi kk)
  | 53, _ => exact X_tabIn (x := 53) hO dL_law_39 (by decide) (by decide) (by decide) rfl rfl (la_53 hO hD hs hw hn hi kk)
  | 54, _ => exact X_tabIn (x := 54) hO dL_law_39 (by decide) (by decide) (by decide) rfl rfl (la_54 hO hD hs hw hn hi kk)
  | 55, _ => exact X_tabIn (x := 55) hO dL_law_39 (by decide) (by decide) (by decide) rfl rfl (la_55 hO hD hs hw hn hi kk)
  | 56, _ => exact X_tabIn (x := 56) hO dL_law_39 (by decide) (by decide) (by decide) rfl rfl (la_56 hO hD hs hw hn hi kk)
  | 57, _ => exact X_tabIn (x := 57) hO dL_law_39 (by decide) (by decide) (by decide) rfl rfl (la_57 hO hD hs hw hn hi kk)
  | k + 58, h => exact absurd h (by omega)
theorem la_loop (hO : Ok κ RL cL_law) (hD : Dp κ 60) (hs : SCR κ b L xs) (hEnd : ∀ w ls, X κ 0 0 w 3103 ls [.int (I 1)]) : ∀ (m : Nat) (n : Int) (w : Mm), n + m = 512 → 0 ≤ n → LAW μ f o n w → X κ (175 * m) (13300 * m) w 23 (lsL b f μ o (5 * n)) []
  | m, n, w, hm, hn, hw => by
    have hs' := hs
    obtain ⟨hX, hbl, hbA, hL⟩ := hs
    show X κ _ _ w 23 [some (.ref b), some (rv f), some (rv μ.1), some (rv o), some (.int (I (5 * n))), none, none] []
    refine X_iload 25 hO dL_law_23 rfl rfl ?_
    refine X_aload_nR 26 hO dL_law_25 rfl rfl ?_
    refine X_slen 27 hO hX hbl hbA dL_law_26 rfl ?_
    refine X_iconst 28 hO dL_law_27 rfl ?_
    refine X_isub 29 hO dL_law_28 rfl ?_
    refine X_icmp_gt 32 3102 hO dL_law_29 rfl rfl (by omega) (by omega) (fun hc => ?_) (fun hc => ?_)
    · exact X_iconst 3103 hO dL_law_3102 rfl (X_mono (Nat.zero_le _) (Nat.zero_le _) (hEnd _ _))
    · match m, hm with
      | 0, hm => exact absurd hm (by omega)
      | m' + 1, hm =>
        refine X_aload_nR 33 hO dL_law_32 rfl rfl ?_
        refine X_iload 35 hO dL_law_33 rfl rfl ?_
        refine X_sld (i := 5 * n) 36 hO hX hbl hbA (by omega) hL dL_law_35 rfl (fun v hv hrv => ?_)
        refine X_bipush 38 hO dL_law_36 rfl (by decide) ?_
        obtain ⟨z, hz1, hz2⟩ := bits63 v
        refine X_iand 39 hO dL_law_38 rfl hz1 ?_
        refine X_mono (P1 := 175 * m' + 175) (S1 := 13300 * m' + 13300) (by omega) (by omega) (la_sw hO hD hs' hw (by omega) (by omega) hz2 (fun w' hw' => ?_))
        refine X_iinc 3099 hO dL_law_3096 rfl rfl ?_
        refine X_goto (tgt := 23) hO dL_law_3099 rfl ?_
        have ih := la_loop hO hD hs' hEnd m' (n + 1) w' (by omega) (by omega) hw'
        rw [show 5 * (n + 1) = 5 * n + 5 by omega] at ih
        exact ih
theorem la_X (hO : Ok κ RL cL_law) (hD : Dp κ 60) (hs : SCR κ b L xs) (hEnd : ∀ w ls, X κ 0 0 w 3103 ls [.int (I 1)]) : X κ 601024 7293034 (fun _ _ _ => 0) 0 [some (.ref b), none, none, none, none, none, none] [] := by
  refine n_13 3 hO w_152 (by omega) (by omega) dL_law_0 rfl (fun f hf hff => ?_)
  refine X_dup 4 hO dL_law_3 rfl (rv_cat _) ?_
  have k0 : KPc (fun a => if a = f then 1 else 0) (newO (fun _ _ _ => 0) f 13) := by
    refine ⟨fun a ha => if_neg (fun e => ?_), fun a => ?_⟩
    · rw [e, newO_t] at ha; exact absurd ha (by decide)
    · by_cases e : a = f
      · rw [e, newO_t]; decide
      · rw [newO_o e]; decide
  refine X_kIv 7 hO hD lL_170 [] rfl dL_law_4 rfl hf (kX12_init _ _ f (fun a => if a = f then 1 else 0) hf newO_t (fun k hk => newO_f hk) (if_pos rfl) k0) (by decide) (by simp [rv_cat]) (by omega) (by omega) (fun w1 h1 => ?_) (fun _ _ h => h.elim)
  refine X_astore_n 8 hO dL_law_7 rfl rfl ?_
  refine n_14 11 hO w_1589 (by omega) (by omega) dL_law_8 rfl (fun m hm hmf => ?_)
  refine X_dup 12 hO dL_law_11 rfl (rv_cat _) ?_
  have hh := h1
  obtain ⟨c, N, hN, -⟩ := hh
  have hu : ∀ a, newO w1 m 14 0 a 0 < 100 := fun a => by
    by_cases e : a = m
    · rw [e, newO_t]; decide
    · rw [newO_o e]; exact hN.2.1.2 a
  have hz : ∀ (c : Nat) (i : Int), 200 ≤ c → newO w1 m 14 c 0 i = 0 := fun c i _ => by rw [newO_o (by omega), hN.2.2.2, newO_o (by omega)]
  refine X_kIv 15 hO hD lL_173 [] rfl dL_law_12 rfl hm (kX13_init _ _ m hm newO_t hu hz (fun c _ _ => newO_f (by omega))) (by decide) (by simp [rv_cat]) (by omega) (by omega) (fun w2 h2 => ?_) (fun _ _ h => h.elim)
  obtain ⟨W, hPM, e2⟩ := h2
  subst w2
  refine X_astore_n 16 hO dL_law_15 rfl rfl ?_
  refine X_iconst 17 hO dL_law_16 rfl ?_
  refine X_newl 19 hO w_2327 (by decide) (by omega) (by omega) dL_law_17 rfl (fun o ho ho1 => ?_)
  refine X_astore_n 20 hO dL_law_19 rfl rfl ?_
  refine X_iconst 21 hO dL_law_20 rfl ?_
  refine X_istore 23 hO dL_law_21 rfl rfl ?_
  obtain ⟨l1, l2, l3⟩ := law_ini h1 hf hm hmf hPM (fun _ => rfl) ho ho1
  exact X_mono (by omega) (by omega) (la_loop (μ := (m, fun j => W (500 + j) m 0)) (f := f) (o := o) hO hD hs hEnd 512 0 _ rfl (Int.le_refl _) ⟨_, l1, l2, l3⟩)
end LLP
