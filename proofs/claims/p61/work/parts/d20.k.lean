/-! THE LAW'S LOOP -/
section LLP
variable {κ : KC} {P S : Nat} {w A : Mm} {b L : Nat} {xs : Nat → Int32} {μ : MU} {f n g rc l T nn v q hd : Int}
theorem la_case (hO : Ok κ RL cL_law) (hD : Dp κ 60) (h : LG μ f n g rc w A) (hn : 0 ≤ n ∧ n ≤ 490) (hg : g = 0 ∨ g = 1) (hrc : rc = 0 ∨ rc = 1) (hv : IR v) (hq : 0 ≤ q ∧ q < 30) (hh : hd = A 201 0 0) (kk : ∀ w' B g' rc', LG μ f (n + 2) g' rc' w' B → (g' = 0 ∨ g' = 1) → (rc' = 0 ∨ rc' = 1) → X κ P S w' 731 (lsT b f g' l rc' T nn v q hd) []) : X κ (P + 200) (S + 15000) w 130 (lsT b f g l rc T nn v q hd) [] := by
  refine X_iload 132 hO dL_law_130 rfl rfl ?_
  refine X_bipush 134 hO dL_law_132 rfl (by decide) ?_
  refine X_icmp_ge 137 200 hO dL_law_134 rfl rfl (by omega) (by omega) (fun hc_134 => ?_) (fun hc_134 => la_A hO hD h hn hg hrc hv (by omega) kk)
  refine X_iload 202 hO dL_law_200 rfl rfl ?_
  refine X_bipush 204 hO dL_law_202 rfl (by decide) ?_
  refine X_icmp_ge 207 239 hO dL_law_204 rfl rfl (by omega) (by omega) (fun hc_204 => ?_) (fun hc_204 => la_B hO hD h hn hg hrc hv (by omega) kk)
  refine X_iload 241 hO dL_law_239 rfl rfl ?_
  refine X_bipush 243 hO dL_law_241 rfl (by decide) ?_
  refine X_icmp_ge 246 318 hO dL_law_243 rfl rfl (by omega) (by omega) (fun hc_243 => ?_) (fun hc_243 => la_C hO hD h hn hg hrc hv hh kk)
  refine X_iload 320 hO dL_law_318 rfl rfl ?_
  refine X_bipush 322 hO dL_law_320 rfl (by decide) ?_
  refine X_icmp_ge 325 401 hO dL_law_322 rfl rfl (by omega) (by omega) (fun hc_322 => ?_) (fun hc_322 => la_D hO hD h hn hg hrc hv  kk)
  refine X_iload 403 hO dL_law_401 rfl rfl ?_
  refine X_bipush 405 hO dL_law_403 rfl (by decide) ?_
  refine X_icmp_ge 408 421 hO dL_law_405 rfl rfl (by omega) (by omega) (fun hc_405 => ?_) (fun hc_405 => la_E hO hD h hn hg hrc hv  kk)
  refine X_iload 423 hO dL_law_421 rfl rfl ?_
  refine X_bipush 425 hO dL_law_423 rfl (by decide) ?_
  refine X_icmp_ge 428 483 hO dL_law_425 rfl rfl (by omega) (by omega) (fun hc_425 => ?_) (fun hc_425 => la_F hO hD h hn hg hrc hv  kk)
  refine X_iload 485 hO dL_law_483 rfl rfl ?_
  refine X_bipush 487 hO dL_law_485 rfl (by decide) ?_
  refine X_icmp_ge 490 511 hO dL_law_487 rfl rfl (by omega) (by omega) (fun hc_487 => ?_) (fun hc_487 => la_G hO hD h hn hg hrc hv  kk)
  refine X_iload 513 hO dL_law_511 rfl rfl ?_
  refine X_bipush 515 hO dL_law_513 rfl (by decide) ?_
  refine X_icmp_ge 518 545 hO dL_law_515 rfl rfl (by omega) (by omega) (fun hc_515 => ?_) (fun hc_515 => la_H hO hD h hn hg hrc hv  kk)
  refine X_iload 547 hO dL_law_545 rfl rfl ?_
  refine X_bipush 549 hO dL_law_547 rfl (by decide) ?_
  refine X_icmp_ge 552 615 hO dL_law_549 rfl rfl (by omega) (by omega) (fun hc_549 => ?_) (fun hc_549 => la_I hO hD h hn hg hrc hv  kk)
  refine X_iload 617 hO dL_law_615 rfl rfl ?_
  refine X_bipush 619 hO dL_law_617 rfl (by decide) ?_
  refine X_icmp_ge 622 669 hO dL_law_619 rfl rfl (by omega) (by omega) (fun hc_619 => ?_) (fun hc_619 => la_J hO hD h hn hg hrc hv  kk)
  exact la_K hO hD h hn hg hrc hv kk
abbrev lsU (b : Nat) (f g l rc T nn : Int) : List (Option Value) := [some (.ref b), some (rv f), some (.int (I g)), some (.int (I l)), some (.int (I rc)), some (.int (I 1)), some (.int (I T)), some (.int (I nn)), none, none, none, none, none, none]
theorem la_loop (hO : Ok κ RL cL_law) (hD : Dp κ 60) (hs : SCR κ b L xs) (hEnd : ∀ w ls, X κ 0 0 w 905 ls [.int (I 1)]) (hT : T ≤ 57) : ∀ (m : Nat) (nn g rc l : Int) (w A : Mm), nn + m = T → 0 ≤ nn → LG μ f (5 + 4 * nn) g rc w A → (g = 0 ∨ g = 1) → (rc = 0 ∨ rc = 1) → IR l → X κ (600 * m) (18000 * m) w 90 (lsU b f g l rc T nn) []
  | m, nn, g, rc, l, w, A, hm, hn0, h, hg, hrc, hl => by
    show X κ _ _ w 90 [some (.ref b), some (rv f), some (.int (I g)), some (.int (I l)), some (.int (I rc)), some (.int (I 1)), some (.int (I T)), some (.int (I nn)), none, none, none, none, none, none] []
    refine X_iload 92 hO dL_law_90 rfl rfl ?_
    refine X_iload 94 hO dL_law_92 rfl rfl ?_
    refine X_icmp_ge 97 903 hO dL_law_94 rfl rfl (by omega) (by omega) (fun hc => ?_) (fun hc => ?_)
    · exact X_iload 905 hO dL_law_903 rfl rfl (X_mono (Nat.zero_le _) (Nat.zero_le _) (hEnd _ _))
    · match m, hm with
      | 0, hm => exact absurd hm (by omega)
      | m' + 1, hm =>
        refine X_iload 99 hO dL_law_97 rfl rfl ?_
        refine X_if_eq 102 903 hO dL_law_99 rfl rfl (by decide) (fun hz => absurd hz (by decide)) (fun _ => ?_)
        refine X_aload_nR 103 hO dL_law_102 rfl rfl ?_
        refine X_iconst 104 hO dL_law_103 rfl ?_
        refine X_iload 106 hO dL_law_104 rfl rfl ?_
        refine X_iadd 107 hO dL_law_106 rfl ?_
        refine X_callC 110 hO hD hs lL_136 [_, _] (rest := []) rfl dL_law_107 rfl (L_cell hs.2.2.2 _ _ (by omega)) (by decide) (by decide) (Nat.zero_le _) (Nat.zero_le _) (fun v_ w_ hp => ?_)
        obtain ⟨v, rfl, hv, e_⟩ := hp
        subst w_
        show X κ _ _ w 110 _ [.int (I v)]
        refine X_istore 112 hO dL_law_110 rfl rfl ?_
        refine X_iload 114 hO dL_law_112 rfl rfl ?_
        refine X_bipush 116 hO dL_law_114 rfl (by decide) ?_
        obtain ⟨z, hz, hzr⟩ := I_any (I v >>> (I 20 &&& 31))
        refine X_ishr 117 hO dL_law_116 rfl hz ?_
        refine X_bipush 119 hO dL_law_117 rfl (by decide) ?_
        refine X_kSi 122 hO hD lL_9 [_, _] rfl dL_law_119 rfl (L_low _ _ _ _ hzr (by decide)) (by decide) (by decide) (Nat.zero_le _) (Nat.zero_le _) (fun q w_ hq hp => ?_) (fun _ _ h => h.elim)
        obtain ⟨hl2, e_⟩ := hp
        subst w_
        refine X_istore 124 hO dL_law_122 rfl rfl ?_
        refine X_aload_n 125 hO dL_law_124 rfl rfl ?_
        refine X_kVi (t := 13) 128 hO hD lL_99 rfl (by decide) [] rfl dL_law_125 rfl h.t0 (z_length h) (by decide) (by decide) (Nat.zero_le _) (Nat.zero_le _) (fun hd w_ hhd hp => ?_) (fun _ _ h => h.elim)
        obtain ⟨he, e_⟩ := hp
        subst w_
        refine X_istore 130 hO dL_law_128 rfl rfl ?_
        refine X_mono (P1 := 600 * m' + 200 + 200 + 200) (S1 := 18000 * m' + 1500 + 1500 + 15000) (by omega) (by omega) ?_
        refine la_case (b := b) (l := l) (T := T) (nn := nn) hO hD h (by omega) hg hrc hv hl2 he (fun w1 B1 g1 rc1 h1 hg1 hrc1 => ?_)
        refine la_t1 hO hD h1 (by omega) hg1 hrc1 hv hl (fun w2 B2 l2 h2 hl2 => ?_)
        refine la_t2 hO hD h2 (by omega) hg1 hrc1 hv hl2 (fun w3 B3 h3 => ?_)
        refine X_iinc 900 hO dL_law_897 rfl rfl ?_
        refine X_goto (tgt := 90) hO dL_law_900 rfl ?_
        exact X_wk (by simp only [lwk, lset, true_or, or_true, and_self]) (la_loop hO hD hs hEnd hT m' (nn + 1) g1 rc1 l2 w3 B3 (by omega) (by omega) (h3.mono (by omega)) hg1 hrc1 hl2)
/-- behind the tracks -/
theorem la_start (hO : Ok κ RL cL_law) (hD : Dp κ 60) (hs : SCR κ b L xs) (hEnd : ∀ w ls, X κ 0 0 w 905 ls [.int (I 1)]) (h : LG μ f 5 0 0 w A) : X κ 34300 1027000 w 50 [some (.ref b), some (rv f), some (.int (I 0)), some (.int (I 0)), some (.int (I 0)), none, none, none, none, none, none, none, none, none] [] := by
  refine X_aload_n 51 hO dL_law_50 rfl rfl ?_
  refine X_kSi 54 hO hD lL_144 [_] rfl dL_law_51 rfl (L_text h (by decide)) (by decide) (by decide) (by decide) (by decide) (fun r w_ hr hp => ?_) (fun _ _ h => h.elim)
  obtain ⟨he, e_⟩ := hp
  subst w_
  refine X_if_eq 57 69 hO dL_law_54 rfl rfl hr (fun hz => absurd hz (by omega)) (fun _ => ?_)
  refine X_aload_n 58 hO dL_law_57 rfl rfl ?_
  refine X_iconst 59 hO dL_law_58 rfl ?_
  refine X_kSi 62 hO hD lL_148 [_, _] rfl dL_law_59 rfl (L_replayed (g := 0) h (by decide) (by decide)) (by decide) (by decide) (by decide) (by decide) (fun r2 w_ hr2 hp => ?_) (fun _ _ h => h.elim)
  obtain ⟨he2, e_⟩ := hp
  subst w_
  refine X_if_eq 65 69 hO dL_law_62 rfl rfl hr2 (fun hz => absurd hz (by omega)) (fun _ => ?_)
  refine X_iconst 66 hO dL_law_65 rfl ?_
  refine X_goto (tgt := 70) hO dL_law_66 rfl ?_
  refine X_istore 72 hO dL_law_70 rfl rfl ?_
  refine X_bipush 74 hO dL_law_72 rfl (by decide) ?_
  refine X_aload_nR 75 hO dL_law_74 rfl rfl ?_
  refine X_iconst 76 hO dL_law_75 rfl ?_
  refine X_callC 79 hO hD hs lL_136 [_, _] (rest := [_]) rfl dL_law_76 rfl (L_cell hs.2.2.2 _ _ (by decide)) (by decide) (by simp [int_cat]) (by decide) (by decide) (fun v_ w_ hp => ?_)
  obtain ⟨v, rfl, hv, e_⟩ := hp
  subst w_
  show X κ _ _ w 79 _ [.int (I v), .int (I 8)]
  refine X_bipush 81 hO dL_law_79 rfl (by decide) ?_
  refine X_kSi 84 hO hD lL_9 [_, _] (rest := [_]) rfl dL_law_81 rfl (L_low _ _ _ _ hv (by decide)) (by decide) (by simp [int_cat]) (by decide) (by decide) (fun t w_ ht hp => ?_) (fun _ _ h => h.elim)
  obtain ⟨hl, e_⟩ := hp
  subst w_
  refine X_iadd 85 hO dL_law_84 rfl ?_
  refine X_istore 87 hO dL_law_85 rfl rfl ?_
  refine X_iconst 88 hO dL_law_87 rfl ?_
  refine X_istore 90 hO dL_law_88 rfl rfl ?_
  refine X_mono (P1 := 600 * (8 + t).toNat) (S1 := 18000 * (8 + t).toNat) (by omega) (by omega) ?_
  exact X_wk (by simp only [lwk, lset, true_or, or_true, and_self]) (la_loop hO hD hs hEnd (T := 8 + t) (by omega) (8 + t).toNat 0 0 0 0 w A (by omega) (by decide) h (Or.inl rfl) (Or.inl rfl) (by decide))
theorem la_track (hO : Ok κ RL cL_law) (hD : Dp κ 60) (hs : SCR κ b L xs) (hEnd : ∀ w ls, X κ 0 0 w 905 ls [.int (I 1)]) : ∀ (m : Nat) (k : Int) (w A : Mm), k + m = 5 → 0 ≤ k → LG μ f k 0 0 w A → NLs A → (∀ i, k ≤ i → A 211 0 i ≠ 1) → X κ (48 * m + 34300) (3200 * m + 1027000) w 18 [some (.ref b), some (rv f), some (.int (I 0)), some (.int (I 0)), some (.int (I 0)), some (.int (I k)), none, none, none, none, none, none, none, none] []
  | m, k, w, A, hm, hk, h, hl, h1 => by
    refine X_iload 20 hO dL_law_18 rfl rfl ?_
    refine X_iconst 21 hO dL_law_20 rfl ?_
    refine X_icmp_ge 24 50 hO dL_law_21 rfl rfl (by omega) (by decide) (fun hc => ?_) (fun hc => ?_)
    · have hk5 : k = 5 := by omega
      subst hk5
      exact X_wk (by simp only [lwk, lset, true_or, or_true, and_self]) (X_mono (by omega) (by omega) (la_start hO hD hs hEnd h))
    · match m, hm with
      | 0, hm => exact absurd hm (by omega)
      | m' + 1, hm =>
        refine X_aload_nR 25 hO dL_law_24 rfl rfl ?_
        refine X_iconst 26 hO dL_law_25 rfl ?_
        refine X_callC 29 hO hD hs lL_136 [_, _] (rest := []) rfl dL_law_26 rfl (L_cell hs.2.2.2 _ _ (by decide)) (by decide) (by decide) (Nat.zero_le _) (Nat.zero_le _) (fun v_ w_ hp => ?_)
        obtain ⟨v, rfl, hv, e_⟩ := hp
        subst w_
        show X κ _ _ w 29 _ [.int (I v)]
        refine X_iload 31 hO dL_law_29 rfl rfl ?_
        obtain ⟨z, hz, hzr⟩ := I_any (I v >>> (I k &&& 31))
        refine X_ishr 32 hO dL_law_31 rfl hz ?_
        refine X_iconst 33 hO dL_law_32 rfl ?_
        obtain ⟨y, hy, hyr⟩ := I_any (I z &&& I 1)
        refine X_iand 34 hO dL_law_33 rfl hy ?_
        refine X_iconst 35 hO dL_law_34 rfl ?_
        refine X_icmp_ne 38 44 hO dL_law_35 rfl rfl hyr (by decide) (fun _ => ?_) (fun _ => ?_)
        · refine X_iinc 47 hO dL_law_44 rfl rfl ?_
          refine X_goto (tgt := 18) hO dL_law_47 rfl ?_
          exact X_mono (by omega) (by omega) (la_track hO hD hs hEnd m' (k + 1) w A (by omega) (by omega) (h.mono (by omega)) hl (fun i hi => h1 i (by omega)))
        · refine X_aload_n 39 hO dL_law_38 rfl rfl ?_
          refine X_iload 41 hO dL_law_39 rfl rfl ?_
          refine X_kVv (t := 13) 44 hO hD lL_140 rfl (by decide) [_] rfl dL_law_41 rfl h.t0 (lg_track h (by omega) (by omega) (h1 k (by omega)) hl) (by decide) (by decide) (by omega) (by omega) (fun w2 hp => ?_) (fun _ _ h => h.elim)
          obtain ⟨B, h2, hl2, e2⟩ := hp
          refine X_iinc 47 hO dL_law_44 rfl rfl ?_
          refine X_goto (tgt := 18) hO dL_law_47 rfl ?_
          exact X_mono (by omega) (by omega) (la_track hO hD hs hEnd m' (k + 1) w2 B (by omega) (by omega) h2 hl2 (fun i hi => by rw [e2 i (by omega)]; exact h1 i (by omega)))
end LLP
theorem la_X {κ : KC} {b L : Nat} {xs : Nat → Int32} (hO : Ok κ RL cL_law) (hD : Dp κ 60) (hs : SCR κ b L xs) (hEnd : ∀ w ls, X κ 0 0 w 905 ls [.int (I 1)]) : X κ 657859 7128047 (fun _ _ _ => 0) 0 [some (.ref b), none, none, none, none, none, none, none, none, none, none, none, none, none] [] := by
  refine n_13 3 hO w_6000 (by omega) (by omega) dL_law_0 rfl (fun f hf hff => ?_)
  refine X_dup 4 hO dL_law_3 rfl (rv_cat _) ?_
  have k0 : KPc (fun a => if a = f then 1 else 0) (newO (fun _ _ _ => 0) f 13) := by
    refine ⟨fun a ha => if_neg (fun e => ?_), fun a => ?_⟩
    · rw [e, newO_t] at ha; exact absurd ha (by decide)
    · by_cases e : a = f
      · rw [e, newO_t]; decide
      · rw [newO_o e]; decide
  refine X_kIv 7 hO hD lL_135 [] rfl dL_law_4 rfl hf (kX12_init _ _ f (fun a => if a = f then 1 else 0) hf newO_t (fun k hk => newO_f hk) (if_pos rfl) k0) (by decide) (by simp [rv_cat]) (by omega) (by omega) (fun w1 h1 => ?_) (fun _ _ h => h.elim)
  refine X_astore_n 8 hO dL_law_7 rfl rfl ?_
  refine X_iconst 9 hO dL_law_8 rfl ?_
  refine X_istore_n 10 hO dL_law_9 rfl rfl ?_
  refine X_iconst 11 hO dL_law_10 rfl ?_
  refine X_istore_n 12 hO dL_law_11 rfl rfl ?_
  refine X_iconst 13 hO dL_law_12 rfl ?_
  refine X_istore 15 hO dL_law_13 rfl rfl ?_
  refine X_iconst 16 hO dL_law_15 rfl ?_
  refine X_istore 18 hO dL_law_16 rfl rfl ?_
  obtain ⟨l1, l2, l3⟩ := ini_lg h1
  exact X_mono (by omega) (by omega) (la_track (μ := μ6) (f := f) hO hD hs hEnd 5 0 w1 _ rfl (Int.le_refl _) l1 l2 (fun i _ => l3 i))
