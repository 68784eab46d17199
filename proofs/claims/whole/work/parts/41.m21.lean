theorem bE.frp {b w : Mm} (h : bE b) (g : FRp b w) : bE w := fun i x y => by rw [g _ _ _ (by decide) (by decide), g _ _ _ (by decide) (by decide)]; exact h i x y
theorem dX13_playsNode_0 : decode cX13_playsNode 0 = .ok (.iconst 0, 1) := by decide +kernel
theorem dX13_playsNode_1 : decode cX13_playsNode 1 = .ok (.istore_n 3, 1) := by decide +kernel
theorem dX13_playsNode_2 : decode cX13_playsNode 2 = .ok (.aload_n 0, 1) := by decide +kernel
theorem dX13_playsNode_3 : decode cX13_playsNode 3 = .ok (.getfield 81, 3) := by decide +kernel
theorem dX13_playsNode_6 : decode cX13_playsNode 6 = .ok (.iload_n 1, 1) := by decide +kernel
theorem dX13_playsNode_7 : decode cX13_playsNode 7 = .ok (.iaload, 1) := by decide +kernel
theorem dX13_playsNode_8 : decode cX13_playsNode 8 = .ok (.istore 4, 2) := by decide +kernel
theorem dX13_playsNode_10 : decode cX13_playsNode 10 = .ok (.iload 4, 2) := by decide +kernel
theorem dX13_playsNode_12 : decode cX13_playsNode 12 = .ok (.iconst (-1), 1) := by decide +kernel
theorem dX13_playsNode_13 : decode cX13_playsNode 13 = .ok (.if_icmp .eq 104, 3) := by decide +kernel
theorem dX13_playsNode_16 : decode cX13_playsNode 16 = .ok (.aload_n 0, 1) := by decide +kernel
theorem dX13_playsNode_17 : decode cX13_playsNode 17 = .ok (.getfield 75, 3) := by decide +kernel
theorem dX13_playsNode_20 : decode cX13_playsNode 20 = .ok (.iload 4, 2) := by decide +kernel
theorem dX13_playsNode_22 : decode cX13_playsNode 22 = .ok (.iaload, 1) := by decide +kernel
theorem dX13_playsNode_23 : decode cX13_playsNode 23 = .ok (.istore 5, 2) := by decide +kernel
theorem dX13_playsNode_25 : decode cX13_playsNode 25 = .ok (.aload_n 0, 1) := by decide +kernel
theorem dX13_playsNode_26 : decode cX13_playsNode 26 = .ok (.getfield 72, 3) := by decide +kernel
theorem dX13_playsNode_29 : decode cX13_playsNode 29 = .ok (.iload 4, 2) := by decide +kernel
theorem dX13_playsNode_31 : decode cX13_playsNode 31 = .ok (.iaload, 1) := by decide +kernel
theorem dX13_playsNode_32 : decode cX13_playsNode 32 = .ok (.istore 6, 2) := by decide +kernel
theorem dX13_playsNode_34 : decode cX13_playsNode 34 = .ok (.iload 6, 2) := by decide +kernel
theorem dX13_playsNode_36 : decode cX13_playsNode 36 = .ok (.aload_n 0, 1) := by decide +kernel
theorem dX13_playsNode_37 : decode cX13_playsNode 37 = .ok (.getfield 72, 3) := by decide +kernel
theorem dX13_playsNode_40 : decode cX13_playsNode 40 = .ok (.iload 4, 2) := by decide +kernel
theorem dX13_playsNode_42 : decode cX13_playsNode 42 = .ok (.iaload, 1) := by decide +kernel
theorem dX13_playsNode_43 : decode cX13_playsNode 43 = .ok (.aload_n 0, 1) := by decide +kernel
theorem dX13_playsNode_44 : decode cX13_playsNode 44 = .ok (.getfield 78, 3) := by decide +kernel
theorem dX13_playsNode_47 : decode cX13_playsNode 47 = .ok (.iload 4, 2) := by decide +kernel
theorem dX13_playsNode_49 : decode cX13_playsNode 49 = .ok (.iaload, 1) := by decide +kernel
theorem dX13_playsNode_50 : decode cX13_playsNode 50 = .ok (.iadd, 1) := by decide +kernel
theorem dX13_playsNode_51 : decode cX13_playsNode 51 = .ok (.if_icmp .ge 54, 3) := by decide +kernel
theorem dX13_playsNode_54 : decode cX13_playsNode 54 = .ok (.aload_n 0, 1) := by decide +kernel
theorem dX13_playsNode_55 : decode cX13_playsNode 55 = .ok (.getfield 46, 3) := by decide +kernel
theorem dX13_playsNode_58 : decode cX13_playsNode 58 = .ok (.iload 6, 2) := by decide +kernel
theorem dX13_playsNode_60 : decode cX13_playsNode 60 = .ok (.iaload, 1) := by decide +kernel
theorem dX13_playsNode_61 : decode cX13_playsNode 61 = .ok (.bipush 7, 2) := by decide +kernel
theorem dX13_playsNode_63 : decode cX13_playsNode 63 = .ok (.iand, 1) := by decide +kernel
theorem dX13_playsNode_64 : decode cX13_playsNode 64 = .ok (.iconst 2, 1) := by decide +kernel
theorem dX13_playsNode_65 : decode cX13_playsNode 65 = .ok (.if_icmp .gt 12, 3) := by decide +kernel
theorem dX13_playsNode_68 : decode cX13_playsNode 68 = .ok (.iload_n 3, 1) := by decide +kernel
theorem dX13_playsNode_69 : decode cX13_playsNode 69 = .ok (.iload_n 2, 1) := by decide +kernel
theorem dX13_playsNode_70 : decode cX13_playsNode 70 = .ok (.if_icmp .ne 4, 3) := by decide +kernel
theorem dX13_playsNode_73 : decode cX13_playsNode 73 = .ok (.return_, 1) := by decide +kernel
theorem dX13_playsNode_74 : decode cX13_playsNode 74 = .ok (.iinc 3 1, 3) := by decide +kernel
theorem dX13_playsNode_77 : decode cX13_playsNode 77 = .ok (.aload_n 0, 1) := by decide +kernel
theorem dX13_playsNode_78 : decode cX13_playsNode 78 = .ok (.aload_n 0, 1) := by decide +kernel
theorem dX13_playsNode_79 : decode cX13_playsNode 79 = .ok (.getfield 46, 3) := by decide +kernel
theorem dX13_playsNode_82 : decode cX13_playsNode 82 = .ok (.iload 6, 2) := by decide +kernel
theorem dX13_playsNode_84 : decode cX13_playsNode 84 = .ok (.iaload, 1) := by decide +kernel
theorem dX13_playsNode_85 : decode cX13_playsNode 85 = .ok (.iload 5, 2) := by decide +kernel
theorem dX13_playsNode_87 : decode cX13_playsNode 87 = .ok (.invokevirtual 238, 3) := by decide +kernel
theorem dX13_playsNode_90 : decode cX13_playsNode 90 = .ok (.istore 7, 2) := by decide +kernel
theorem dX13_playsNode_92 : decode cX13_playsNode 92 = .ok (.iload 5, 2) := by decide +kernel
theorem dX13_playsNode_94 : decode cX13_playsNode 94 = .ok (.iload 7, 2) := by decide +kernel
theorem dX13_playsNode_96 : decode cX13_playsNode 96 = .ok (.iadd, 1) := by decide +kernel
theorem dX13_playsNode_97 : decode cX13_playsNode 97 = .ok (.istore 5, 2) := by decide +kernel
theorem dX13_playsNode_99 : decode cX13_playsNode 99 = .ok (.iinc 6 1, 3) := by decide +kernel
theorem dX13_playsNode_102 : decode cX13_playsNode 102 = .ok (.goto (-68), 3) := by decide +kernel
theorem dX13_playsNode_105 : decode cX13_playsNode 105 = .ok (.aload_n 0, 1) := by decide +kernel
theorem dX13_playsNode_106 : decode cX13_playsNode 106 = .ok (.getfield 87, 3) := by decide +kernel
theorem dX13_playsNode_109 : decode cX13_playsNode 109 = .ok (.iload 4, 2) := by decide +kernel
theorem dX13_playsNode_111 : decode cX13_playsNode 111 = .ok (.iaload, 1) := by decide +kernel
theorem dX13_playsNode_112 : decode cX13_playsNode 112 = .ok (.istore 4, 2) := by decide +kernel
theorem dX13_playsNode_114 : decode cX13_playsNode 114 = .ok (.goto (-104), 3) := by decide +kernel
theorem dX13_playsNode_117 : decode cX13_playsNode 117 = .ok (.return_, 1) := by decide +kernel
set_option maxRecDepth 4000 in
theorem c_playsNode (γ : LC) (μ : MU) (w : Mm) (k most : Int) (PL : List Int) (hk : 0 ≤ k ∧ k < 640) (hmo : IR most) (hC : CHL 640 w (w 221 0 k) PL) (hst : StP w w) (hV : 0 ≤ w 210 0 0 ∧ w 210 0 0 ≤ 4) (hE : bE w) (hPl : PL.length ≤ 640) (hL : LGL (tkT most 0 (nodeL w PL)) w) : CMv γ μ 3 mX13_playsNode [.int (I k), .int (I most)] w (fun w' => w' = m_playL (tkT most 0 (nodeL w PL)) w) := by
  refine CMv_of rfl (by simp [rv_cat, Value.category]) rfl ?_
  rintro κ hO hF rfl hR
  have hD := hF.dp
  show X κ 0 0 w 0 [some (rv μ.1), some (.int (I k)), some (.int (I most)), none, none, none, none, none] []
  have hPL : (0 : Int) + 30000 * ((PL.length : Int) + 1) ≤ 600000000 := by omega
  refine X_iconst 1 hO dX13_playsNode_0 rfl ?_
  refine X_istore_n 2 hO dX13_playsNode_1 rfl rfl ?_
  refine X_aload_n 3 hO dX13_playsNode_2 rfl rfl ?_
  refine ga_81 6 hO hR dX13_playsNode_3 rfl ?_
  refine X_iload_n 7 hO dX13_playsNode_6 rfl rfl ?_
  refine ma_ld (L := 640) (c := 221) 8 hO hR rfl rfl rfl dX13_playsNode_7 rfl (by omega) (by omega) (fun hi_7 => ?_)
  refine X_istore 10 hO dX13_playsNode_8 rfl rfl ?_
  have LP10 : ∀ (n : Nat) (ps : List Int) (p s : Int) (W : Mm), ps.length < n → (CHL 640 w p ps) → (StP w W) → (0 ≤ s ∧ s ≤ 600000000) → (s + 30000 * (ps.length + 1) ≤ 600000000) → (LGL (tkT most s (nodeL w ps)) W) → (m_playL (tkT most 0 (nodeL w PL)) w = m_playL (tkT most s (nodeL w ps)) W) → RM (W) μ → X κ 0 0 (W) 10 [some (rv μ.1), some (.int (I k)), some (.int (I most)), some (.int (I s)), some (.int (I p)), none, none, none] [] := by
    intro n
    induction n with
    | zero => intro ps p s W hm; exact absurd hm (Nat.not_lt_zero _)
    | succ n iho =>
      intro ps p s W hm hCp hS hs0 hs1 hLp hEq hR
      have hpr : -1 ≤ p ∧ p < 640 := by
        cases ps with
        | nil => have h1 : p = -1 := hCp; omega
        | cons q qs => have h1 := hCp.1; have h2 := hCp.2.1; omega
      refine X_iload 12 hO dX13_playsNode_10 rfl rfl ?_
      refine X_iconst 13 hO dX13_playsNode_12 rfl ?_
      refine X_icmp_eq 16 117 hO dX13_playsNode_13 rfl rfl (by omega) (by omega) (fun hc_13 => ?_) (fun hc_13 => ?_)
      ·
        have hps : ps = [] := by
          cases ps with
          | nil => rfl
          | cons q qs => exfalso; have := hCp.1; have := hCp.2.1; omega
        subst hps
        exact XM_vret hO hF hR rfl dX13_playsNode_117 hEq.symm
      ·
        cases ps with
        | nil => exact absurd hCp (by assumption)
        | cons q qs =>
        obtain ⟨hC1, hC2, hC3, hC4, hC5, hC6⟩ := hCp
        subst hC1
        have hmo2 : qs.length < n := by simp only [List.length_cons] at hm; omega
        refine X_aload_n 17 hO dX13_playsNode_16 rfl rfl ?_
        refine ga_75 20 hO hR dX13_playsNode_17 rfl ?_
        refine X_iload 22 hO dX13_playsNode_20 rfl rfl ?_
        refine ma_ld (L := 640) (c := 219) 23 hO hR rfl rfl rfl dX13_playsNode_22 rfl (by omega) (by omega) (fun hi_22 => ?_)
        rw [hS.1 219 0 p (by decide) (by decide)]
        refine X_istore 25 hO dX13_playsNode_23 rfl rfl ?_
        refine X_aload_n 26 hO dX13_playsNode_25 rfl rfl ?_
        refine ga_72 29 hO hR dX13_playsNode_26 rfl ?_
        refine X_iload 31 hO dX13_playsNode_29 rfl rfl ?_
        refine ma_ld (L := 640) (c := 218) 32 hO hR rfl rfl rfl dX13_playsNode_31 rfl (by omega) (by omega) (fun hi_31 => ?_)
        rw [hS.1 218 0 p (by decide) (by decide)]
        refine X_istore 34 hO dX13_playsNode_32 rfl rfl ?_
        have LP34 : ∀ (n : Nat) (f : Nat) (i t s : Int) (W : Mm), f < n → (w 218 0 p ≤ i ∧ i + f = w 218 0 p + w 220 0 p) → (StP w W) → (0 ≤ s ∧ s + f + 30000 * (qs.length + 1) ≤ 600000000) → (0 ≤ t ∧ t ≤ 530000) → (LGL (tkT most s (plist w f i t ++ nodeL w qs)) W) → (m_playL (tkT most 0 (nodeL w PL)) w = m_playL (tkT most s (plist w f i t ++ nodeL w qs)) W) → RM (W) μ → X κ 0 0 (W) 34 [some (rv μ.1), some (.int (I k)), some (.int (I most)), some (.int (I s)), some (.int (I p)), some (.int (I t)), some (.int (I i)), none] [] := by
          intro n
          induction n with
          | zero => intro f i t s W hm; exact absurd hm (Nat.not_lt_zero _)
          | succ n ih =>
            intro f i t s W hm hi hS hs0 ht0 hLi hEi hR
            refine X_iload 36 hO dX13_playsNode_34 rfl rfl ?_
            refine X_aload_n 37 hO dX13_playsNode_36 rfl rfl ?_
            refine ga_72 40 hO hR dX13_playsNode_37 rfl ?_
            refine X_iload 42 hO dX13_playsNode_40 rfl rfl ?_
            refine ma_ld (L := 640) (c := 218) 43 hO hR rfl rfl rfl dX13_playsNode_42 rfl (by omega) (by omega) (fun hi_42 => ?_)
            rw [hS.1 218 0 p (by decide) (by decide)]
            refine X_aload_n 44 hO dX13_playsNode_43 rfl rfl ?_
            refine ga_78 47 hO hR dX13_playsNode_44 rfl ?_
            refine X_iload 49 hO dX13_playsNode_47 rfl rfl ?_
            refine ma_ld (L := 640) (c := 220) 50 hO hR rfl rfl rfl dX13_playsNode_49 rfl (by omega) (by omega) (fun hi_49 => ?_)
            rw [hS.1 220 0 p (by decide) (by decide)]
            refine X_iadd 51 hO dX13_playsNode_50 rfl ?_
            refine X_icmp_ge 54 105 hO dX13_playsNode_51 rfl rfl (by omega) (by omega) (fun hc_51 => ?_) (fun hc_51 => ?_)
            ·
              have ef : f = 0 := by omega
              subst ef
              refine X_aload_n 106 hO dX13_playsNode_105 rfl rfl ?_
              refine ga_87 109 hO hR dX13_playsNode_106 rfl ?_
              refine X_iload 111 hO dX13_playsNode_109 rfl rfl ?_
              refine ma_ld (L := 640) (c := 223) 112 hO hR rfl rfl rfl dX13_playsNode_111 rfl (by omega) (by omega) (fun hi_111 => ?_)
              rw [hS.1 223 0 p (by decide) (by decide)]
              refine X_istore 114 hO dX13_playsNode_112 rfl rfl ?_
              refine X_goto hO dX13_playsNode_114 (tgt := 10) rfl ?_
              exact X_wk (by simp only [lwk, lset, true_or, or_true, and_self]) (iho qs _ s W hmo2 hC6 hS (by omega) (by simp only [List.length_cons] at hs1; omega) hLi hEi hR)
            ·
              cases f with
              | zero => exfalso; omega
              | succ f =>
              have hx := hC5 i hi.1 (by omega)
              rw [show plist w (f + 1) i t ++ nodeL w qs = (w 212 0 i, t) :: (plist w f (i + 1) (t + (m_play (w 212 0 i) t w).1) ++ nodeL w qs) from rfl] at hLi hEi
              refine X_aload_n 55 hO dX13_playsNode_54 rfl rfl ?_
              refine ga_46 58 hO hR dX13_playsNode_55 rfl ?_
              refine X_iload 60 hO dX13_playsNode_58 rfl rfl ?_
              refine ma_ld (L := 30000) (c := 212) 61 hO hR rfl rfl rfl dX13_playsNode_60 rfl (by omega) (by omega) (fun hi_60 => ?_)
              rw [hS.1 212 0 i (by decide) (by decide)]
              refine X_bipush 63 hO dX13_playsNode_61 rfl (by decide) ?_
              refine X_iand 64 hO dX13_playsNode_63 rfl (I_and 7 3 8 rfl (by decide) (by omega) (by omega)) ?_
              refine X_iconst 65 hO dX13_playsNode_64 rfl ?_
              refine X_icmp_gt 68 77 hO dX13_playsNode_65 rfl rfl (by omega) (by omega) (fun hc_65 => ?_) (fun hc_65 => ?_)
              ·
                rw [tkT_oth (by show ¬ w 212 0 i % 8 ≤ 2; omega)] at hLi hEi
                refine X_aload_n 78 hO dX13_playsNode_77 rfl rfl ?_
                refine X_aload_n 79 hO dX13_playsNode_78 rfl rfl ?_
                refine ga_46 82 hO hR dX13_playsNode_79 rfl ?_
                refine X_iload 84 hO dX13_playsNode_82 rfl rfl ?_
                refine ma_ld (L := 30000) (c := 212) 85 hO hR rfl rfl rfl dX13_playsNode_84 rfl (by omega) (by omega) (fun hi_84 => ?_)
                rw [hS.1 212 0 i (by decide) (by decide)]
                refine X_iload 87 hO dX13_playsNode_85 rfl rfl ?_
                refine XM_callVi 90 hO hD hR lX13_238 [_, _] rfl dX13_playsNode_87 rfl (c_plays _ _ _ _ _ hx hLi.1.1.2.1 hLi.1.1.2.2.1 hS.2.1 (by rw [hS.1 210 0 0 (by decide) (by decide)]; exact hV) (hE.frp hS.1)) (by decide) (by simp only [List.map_cons, List.map_nil, rv_cat]; exact Nat.le_of_ble_eq_true rfl) (fun r_87 w_87 hr_87 hp_87 hR => ?_)
                obtain ⟨e1_87, e2_87⟩ := hp_87
                subst e1_87
                subst e2_87
                refine X_istore 92 hO dX13_playsNode_90 rfl rfl ?_
                have hpr2 : 0 ≤ (m_play (w 212 0 i) t W).1 ∧ (m_play (w 212 0 i) t W).1 ≤ 5000 := play_rng hLi.1.1
                have htb : 0 ≤ t ∧ t ≤ 520000 := hLi.1.1.2.1.1
                rw [← play_1 (x := w 212 0 i) (t := t) (fun j => hS.1.pby (j := j))] at hLi hEi
                refine X_iload 94 hO dX13_playsNode_92 rfl rfl ?_
                refine X_iload 96 hO dX13_playsNode_94 rfl rfl ?_
                refine X_iadd 97 hO dX13_playsNode_96 rfl ?_
                refine X_istore 99 hO dX13_playsNode_97 rfl rfl ?_
                refine X_iinc 102 hO dX13_playsNode_99 rfl rfl ?_
                refine X_goto hO dX13_playsNode_102 (tgt := 34) rfl ?_
                exact X_wk (by simp only [lwk, lset, true_or, or_true, and_self]) (ih f (i + 1) _ _ _ (by omega) (by omega) (hS.play hLi.1) (by omega) (by omega) hLi.2 hEi hR)
              ·
                refine X_iload_n 69 hO dX13_playsNode_68 rfl rfl ?_
                refine X_iload_n 70 hO dX13_playsNode_69 rfl rfl ?_
                refine X_icmp_ne 73 74 hO dX13_playsNode_70 rfl rfl (by omega) (by omega) (fun hc_70 => ?_) (fun hc_70 => ?_)
                ·
                  rw [tkT_text (by show w 212 0 i % 8 ≤ 2; omega) (by omega)] at hLi hEi
                  refine X_iinc 77 hO dX13_playsNode_74 rfl rfl ?_
                  refine X_aload_n 78 hO dX13_playsNode_77 rfl rfl ?_
                  refine X_aload_n 79 hO dX13_playsNode_78 rfl rfl ?_
                  refine ga_46 82 hO hR dX13_playsNode_79 rfl ?_
                  refine X_iload 84 hO dX13_playsNode_82 rfl rfl ?_
                  refine ma_ld (L := 30000) (c := 212) 85 hO hR rfl rfl rfl dX13_playsNode_84 rfl (by omega) (by omega) (fun hi_84 => ?_)
                  rw [hS.1 212 0 i (by decide) (by decide)]
                  refine X_iload 87 hO dX13_playsNode_85 rfl rfl ?_
                  refine XM_callVi 90 hO hD hR lX13_238 [_, _] rfl dX13_playsNode_87 rfl (c_plays _ _ _ _ _ hx hLi.1.1.2.1 hLi.1.1.2.2.1 hS.2.1 (by rw [hS.1 210 0 0 (by decide) (by decide)]; exact hV) (hE.frp hS.1)) (by decide) (by simp only [List.map_cons, List.map_nil, rv_cat]; exact Nat.le_of_ble_eq_true rfl) (fun r_87 w_87 hr_87 hp_87 hR => ?_)
                  obtain ⟨e1_87, e2_87⟩ := hp_87
                  subst e1_87
                  subst e2_87
                  refine X_istore 92 hO dX13_playsNode_90 rfl rfl ?_
                  have hpr2 : 0 ≤ (m_play (w 212 0 i) t W).1 ∧ (m_play (w 212 0 i) t W).1 ≤ 5000 := play_rng hLi.1.1
                  have htb : 0 ≤ t ∧ t ≤ 520000 := hLi.1.1.2.1.1
                  rw [← play_1 (x := w 212 0 i) (t := t) (fun j => hS.1.pby (j := j))] at hLi hEi
                  refine X_iload 94 hO dX13_playsNode_92 rfl rfl ?_
                  refine X_iload 96 hO dX13_playsNode_94 rfl rfl ?_
                  refine X_iadd 97 hO dX13_playsNode_96 rfl ?_
                  refine X_istore 99 hO dX13_playsNode_97 rfl rfl ?_
                  refine X_iinc 102 hO dX13_playsNode_99 rfl rfl ?_
                  refine X_goto hO dX13_playsNode_102 (tgt := 34) rfl ?_
                  exact X_wk (by simp only [lwk, lset, true_or, or_true, and_self]) (ih f (i + 1) _ _ _ (by omega) (by omega) (hS.play hLi.1) (by omega) (by omega) hLi.2 hEi hR)
                ·
                  rw [tkT_stop (by show w 212 0 i % 8 ≤ 2; omega) (by omega)] at hEi
                  exact XM_vret hO hF hR rfl dX13_playsNode_73 hEi.symm
        exact X_wk (by simp only [lwk, lset, true_or, or_true, and_self]) (LP34 _ (w 220 0 p).toNat _ _ s W (Nat.lt_succ_self _) (by omega) hS (by simp only [List.length_cons] at hs1; omega) (by omega) hLp hEq hR)
  exact X_wk (by simp only [lwk, lset, true_or, or_true, and_self]) (LP10 _ PL _ 0 w (Nat.lt_succ_self _) hC hst (by omega) hPL hL rfl hR)
