/-- the world while traces move: as it was but for the traces -/
def FRt (b w : Mm) : Prop := ∀ c a i, c ≠ 137 → c ≠ 138 → (c < 241 ∨ 246 < c) → w c a i = b c a i
theorem FRt.mvN {μ : MU} {b w : Mm} (h : FRt b w) {d q k y : Int} {n : Nat} : FRt b (m_mvN μ d q k y n w) := fun c a i h1 h2 h3 => by rw [mvN_at (by omega)]; exact h c a i h1 h2 h3
theorem mvN_s {μ : MU} {d q k k' y j : Int} {w : Mm} (hj : 0 ≤ j) (hk : k = k') : m_mov μ j d q k y (m_mvN μ d q k' y j.toNat w) = m_mvN μ d q k' y (j + 1).toNat w := by
  subst hk
  rw [show (j + 1).toNat = j.toNat + 1 by omega]
  simp only [m_mvN]
  rw [show ((j.toNat : Nat) : Int) = j by omega]
theorem dX13_follows_0 : decode cX13_follows 0 = .ok (.aload_n 0, 1) := by decide +kernel
theorem dX13_follows_1 : decode cX13_follows 1 = .ok (.getfield 81, 3) := by decide +kernel
theorem dX13_follows_4 : decode cX13_follows 4 = .ok (.iload_n 1, 1) := by decide +kernel
theorem dX13_follows_5 : decode cX13_follows 5 = .ok (.iaload, 1) := by decide +kernel
theorem dX13_follows_6 : decode cX13_follows 6 = .ok (.istore_n 2, 1) := by decide +kernel
theorem dX13_follows_7 : decode cX13_follows 7 = .ok (.iload_n 2, 1) := by decide +kernel
theorem dX13_follows_8 : decode cX13_follows 8 = .ok (.iconst (-1), 1) := by decide +kernel
theorem dX13_follows_9 : decode cX13_follows 9 = .ok (.if_icmp .eq 118, 3) := by decide +kernel
theorem dX13_follows_12 : decode cX13_follows 12 = .ok (.aload_n 0, 1) := by decide +kernel
theorem dX13_follows_13 : decode cX13_follows 13 = .ok (.getfield 72, 3) := by decide +kernel
theorem dX13_follows_16 : decode cX13_follows 16 = .ok (.iload_n 2, 1) := by decide +kernel
theorem dX13_follows_17 : decode cX13_follows 17 = .ok (.iaload, 1) := by decide +kernel
theorem dX13_follows_18 : decode cX13_follows 18 = .ok (.istore_n 3, 1) := by decide +kernel
theorem dX13_follows_19 : decode cX13_follows 19 = .ok (.iload_n 3, 1) := by decide +kernel
theorem dX13_follows_20 : decode cX13_follows 20 = .ok (.aload_n 0, 1) := by decide +kernel
theorem dX13_follows_21 : decode cX13_follows 21 = .ok (.getfield 72, 3) := by decide +kernel
theorem dX13_follows_24 : decode cX13_follows 24 = .ok (.iload_n 2, 1) := by decide +kernel
theorem dX13_follows_25 : decode cX13_follows 25 = .ok (.iaload, 1) := by decide +kernel
theorem dX13_follows_26 : decode cX13_follows 26 = .ok (.aload_n 0, 1) := by decide +kernel
theorem dX13_follows_27 : decode cX13_follows 27 = .ok (.getfield 78, 3) := by decide +kernel
theorem dX13_follows_30 : decode cX13_follows 30 = .ok (.iload_n 2, 1) := by decide +kernel
theorem dX13_follows_31 : decode cX13_follows 31 = .ok (.iaload, 1) := by decide +kernel
theorem dX13_follows_32 : decode cX13_follows 32 = .ok (.iadd, 1) := by decide +kernel
theorem dX13_follows_33 : decode cX13_follows 33 = .ok (.if_icmp .ge 84, 3) := by decide +kernel
theorem dX13_follows_36 : decode cX13_follows 36 = .ok (.aload_n 0, 1) := by decide +kernel
theorem dX13_follows_37 : decode cX13_follows 37 = .ok (.getfield 46, 3) := by decide +kernel
theorem dX13_follows_40 : decode cX13_follows 40 = .ok (.iload_n 3, 1) := by decide +kernel
theorem dX13_follows_41 : decode cX13_follows 41 = .ok (.iaload, 1) := by decide +kernel
theorem dX13_follows_42 : decode cX13_follows 42 = .ok (.bipush 7, 2) := by decide +kernel
theorem dX13_follows_44 : decode cX13_follows 44 = .ok (.iand, 1) := by decide +kernel
theorem dX13_follows_45 : decode cX13_follows 45 = .ok (.istore 4, 2) := by decide +kernel
theorem dX13_follows_47 : decode cX13_follows 47 = .ok (.iconst 0, 1) := by decide +kernel
theorem dX13_follows_48 : decode cX13_follows 48 = .ok (.istore 5, 2) := by decide +kernel
theorem dX13_follows_50 : decode cX13_follows 50 = .ok (.iload 5, 2) := by decide +kernel
theorem dX13_follows_52 : decode cX13_follows 52 = .ok (.aload_n 0, 1) := by decide +kernel
theorem dX13_follows_53 : decode cX13_follows 53 = .ok (.getfield 410, 3) := by decide +kernel
theorem dX13_follows_56 : decode cX13_follows 56 = .ok (.if_icmp .ge 55, 3) := by decide +kernel
theorem dX13_follows_59 : decode cX13_follows 59 = .ok (.iload 4, 2) := by decide +kernel
theorem dX13_follows_61 : decode cX13_follows 61 = .ok (.iconst 2, 1) := by decide +kernel
theorem dX13_follows_62 : decode cX13_follows 62 = .ok (.if_icmp .gt 49, 3) := by decide +kernel
theorem dX13_follows_65 : decode cX13_follows 65 = .ok (.aload_n 0, 1) := by decide +kernel
theorem dX13_follows_66 : decode cX13_follows 66 = .ok (.iload 5, 2) := by decide +kernel
theorem dX13_follows_68 : decode cX13_follows 68 = .ok (.iload 4, 2) := by decide +kernel
theorem dX13_follows_70 : decode cX13_follows 70 = .ok (.aload_n 0, 1) := by decide +kernel
theorem dX13_follows_71 : decode cX13_follows 71 = .ok (.getfield 46, 3) := by decide +kernel
theorem dX13_follows_74 : decode cX13_follows 74 = .ok (.iload_n 3, 1) := by decide +kernel
theorem dX13_follows_75 : decode cX13_follows 75 = .ok (.iaload, 1) := by decide +kernel
theorem dX13_follows_76 : decode cX13_follows 76 = .ok (.iconst 3, 1) := by decide +kernel
theorem dX13_follows_77 : decode cX13_follows 77 = .ok (.ishr, 1) := by decide +kernel
theorem dX13_follows_78 : decode cX13_follows 78 = .ok (.sipush 511, 3) := by decide +kernel
theorem dX13_follows_81 : decode cX13_follows 81 = .ok (.iand, 1) := by decide +kernel
theorem dX13_follows_82 : decode cX13_follows 82 = .ok (.iload 4, 2) := by decide +kernel
theorem dX13_follows_84 : decode cX13_follows 84 = .ok (.iconst 2, 1) := by decide +kernel
theorem dX13_follows_85 : decode cX13_follows 85 = .ok (.if_icmp .ne 7, 3) := by decide +kernel
theorem dX13_follows_88 : decode cX13_follows 88 = .ok (.iconst 1, 1) := by decide +kernel
theorem dX13_follows_89 : decode cX13_follows 89 = .ok (.goto 12, 3) := by decide +kernel
theorem dX13_follows_92 : decode cX13_follows 92 = .ok (.aload_n 0, 1) := by decide +kernel
theorem dX13_follows_93 : decode cX13_follows 93 = .ok (.getfield 46, 3) := by decide +kernel
theorem dX13_follows_96 : decode cX13_follows 96 = .ok (.iload_n 3, 1) := by decide +kernel
theorem dX13_follows_97 : decode cX13_follows 97 = .ok (.iaload, 1) := by decide +kernel
theorem dX13_follows_98 : decode cX13_follows 98 = .ok (.bipush 12, 2) := by decide +kernel
theorem dX13_follows_100 : decode cX13_follows 100 = .ok (.ishr, 1) := by decide +kernel
theorem dX13_follows_101 : decode cX13_follows 101 = .ok (.iconst (-1), 1) := by decide +kernel
theorem dX13_follows_102 : decode cX13_follows 102 = .ok (.invokevirtual 413, 3) := by decide +kernel
theorem dX13_follows_105 : decode cX13_follows 105 = .ok (.iinc 5 1, 3) := by decide +kernel
theorem dX13_follows_108 : decode cX13_follows 108 = .ok (.goto (-58), 3) := by decide +kernel
theorem dX13_follows_111 : decode cX13_follows 111 = .ok (.iinc 3 1, 3) := by decide +kernel
theorem dX13_follows_114 : decode cX13_follows 114 = .ok (.goto (-95), 3) := by decide +kernel
theorem dX13_follows_117 : decode cX13_follows 117 = .ok (.aload_n 0, 1) := by decide +kernel
theorem dX13_follows_118 : decode cX13_follows 118 = .ok (.getfield 87, 3) := by decide +kernel
theorem dX13_follows_121 : decode cX13_follows 121 = .ok (.iload_n 2, 1) := by decide +kernel
theorem dX13_follows_122 : decode cX13_follows 122 = .ok (.iaload, 1) := by decide +kernel
theorem dX13_follows_123 : decode cX13_follows 123 = .ok (.istore_n 2, 1) := by decide +kernel
theorem dX13_follows_124 : decode cX13_follows 124 = .ok (.goto (-117), 3) := by decide +kernel
theorem dX13_follows_127 : decode cX13_follows 127 = .ok (.return_, 1) := by decide +kernel
set_option maxRecDepth 4000 in
theorem c_follows (γ : LC) (μ : MU) (w : Mm) (k : Int) (PL : List Int) (N : Int) (hk : 0 ≤ k ∧ k < 640) (hC : CHL 640 w (w 221 0 k) PL) (hn8 : 0 ≤ w 137 μ.1 0 ∧ w 137 μ.1 0 ≤ 8) (hT : bTc N w) (hN : 0 ≤ N ∧ N + 5000 * (nodeW w PL).length ≤ 900000000) : CMv γ μ 1 mX13_follows [.int (I k)] w (fun w' => w' = m_foL μ (nodeW w PL) w) := by
  refine CMv_of rfl (by simp [rv_cat, Value.category]) rfl ?_
  rintro κ hO hF rfl hR
  have hD := hF.dp
  show X κ 0 0 w 0 [some (rv μ.1), some (.int (I k)), none, none, none, none] []
  refine X_aload_n 1 hO dX13_follows_0 rfl rfl ?_
  refine ga_81 4 hO hR dX13_follows_1 rfl ?_
  refine X_iload_n 5 hO dX13_follows_4 rfl rfl ?_
  refine ma_ld (L := 640) (c := 221) 6 hO hR rfl rfl rfl dX13_follows_5 rfl (by omega) (by omega) (fun hi_5 => ?_)
  refine X_istore_n 7 hO dX13_follows_6 rfl rfl ?_
  have LP7 : ∀ (n : Nat) (ps : List Int) (p N0 : Int) (W : Mm), ps.length < n → (CHL 640 w p ps) → (FRt w W) → (W 137 μ.1 0 = w 137 μ.1 0) → (bTc N0 W) → (0 ≤ N0 ∧ N0 + 5000 * (nodeW w ps).length ≤ 900000000) → (m_foL μ (nodeW w PL) w = m_foL μ (nodeW w ps) W) → RM (W) μ → X κ 0 0 (W) 7 [some (rv μ.1), some (.int (I k)), some (.int (I p)), none, none, none] [] := by
    intro n
    induction n with
    | zero => intro ps p N0 W hm; exact absurd hm (Nat.not_lt_zero _)
    | succ n iho =>
      intro ps p N0 W hm hCp hS h137 hTW hN0 hEq hR
      have hpr : -1 ≤ p ∧ p < 640 := by
        cases ps with
        | nil => have h1 : p = -1 := hCp; omega
        | cons q qs => have h1 := hCp.1; have h2 := hCp.2.1; omega
      refine X_iload_n 8 hO dX13_follows_7 rfl rfl ?_
      refine X_iconst 9 hO dX13_follows_8 rfl ?_
      refine X_icmp_eq 12 127 hO dX13_follows_9 rfl rfl (by omega) (by omega) (fun hc_9 => ?_) (fun hc_9 => ?_)
      ·
        have hps : ps = [] := by
          cases ps with
          | nil => rfl
          | cons q qs => exfalso; have := hCp.1; have := hCp.2.1; omega
        subst hps
        exact XM_vret hO hF hR rfl dX13_follows_127 hEq.symm
      ·
        cases ps with
        | nil => exact absurd hCp (by assumption)
        | cons q qs =>
        obtain ⟨hC1, hC2, hC3, hC4, hC5, hC6⟩ := hCp
        subst hC1
        have hmo2 : qs.length < n := by simp only [List.length_cons] at hm; omega
        refine X_aload_n 13 hO dX13_follows_12 rfl rfl ?_
        refine ga_72 16 hO hR dX13_follows_13 rfl ?_
        refine X_iload_n 17 hO dX13_follows_16 rfl rfl ?_
        refine ma_ld (L := 640) (c := 218) 18 hO hR rfl rfl rfl dX13_follows_17 rfl (by omega) (by omega) (fun hi_17 => ?_)
        rw [hS 218 0 p (by decide) (by decide) (by decide)]
        refine X_istore_n 19 hO dX13_follows_18 rfl rfl ?_
        have LP19 : ∀ (n : Nat) (f : Nat) (i N1 : Int) (W : Mm), f < n → (w 218 0 p ≤ i ∧ i + f = w 218 0 p + w 220 0 p) → (FRt w W) → (W 137 μ.1 0 = w 137 μ.1 0) → (bTc N1 W) → (0 ≤ N1 ∧ N1 + 5000 * (wlist w f i ++ nodeW w qs).length ≤ 900000000) → (m_foL μ (nodeW w PL) w = m_foL μ (wlist w f i ++ nodeW w qs) W) → RM (W) μ → X κ 0 0 (W) 19 [some (rv μ.1), some (.int (I k)), some (.int (I p)), some (.int (I i)), none, none] [] := by
          intro n
          induction n with
          | zero => intro f i N1 W hm; exact absurd hm (Nat.not_lt_zero _)
          | succ n ihm =>
            intro f i N1 W hm hi hS h137 hTW hN1 hEi hR
            refine X_iload_n 20 hO dX13_follows_19 rfl rfl ?_
            refine X_aload_n 21 hO dX13_follows_20 rfl rfl ?_
            refine ga_72 24 hO hR dX13_follows_21 rfl ?_
            refine X_iload_n 25 hO dX13_follows_24 rfl rfl ?_
            refine ma_ld (L := 640) (c := 218) 26 hO hR rfl rfl rfl dX13_follows_25 rfl (by omega) (by omega) (fun hi_25 => ?_)
            rw [hS 218 0 p (by decide) (by decide) (by decide)]
            refine X_aload_n 27 hO dX13_follows_26 rfl rfl ?_
            refine ga_78 30 hO hR dX13_follows_27 rfl ?_
            refine X_iload_n 31 hO dX13_follows_30 rfl rfl ?_
            refine ma_ld (L := 640) (c := 220) 32 hO hR rfl rfl rfl dX13_follows_31 rfl (by omega) (by omega) (fun hi_31 => ?_)
            rw [hS 220 0 p (by decide) (by decide) (by decide)]
            refine X_iadd 33 hO dX13_follows_32 rfl ?_
            refine X_icmp_ge 36 117 hO dX13_follows_33 rfl rfl (by omega) (by omega) (fun hc_33 => ?_) (fun hc_33 => ?_)
            ·
              have ef : f = 0 := by omega
              subst ef
              refine X_aload_n 118 hO dX13_follows_117 rfl rfl ?_
              refine ga_87 121 hO hR dX13_follows_118 rfl ?_
              refine X_iload_n 122 hO dX13_follows_121 rfl rfl ?_
              refine ma_ld (L := 640) (c := 223) 123 hO hR rfl rfl rfl dX13_follows_122 rfl (by omega) (by omega) (fun hi_122 => ?_)
              rw [hS 223 0 p (by decide) (by decide) (by decide)]
              refine X_istore_n 124 hO dX13_follows_123 rfl rfl ?_
              refine X_goto hO dX13_follows_124 (tgt := 7) rfl ?_
              exact X_wk (by simp only [lwk, lset, true_or, or_true, and_self]) (iho qs _ N1 W hmo2 hC6 hS h137 hTW hN1 hEi hR)
            ·
              cases f with
              | zero => exfalso; omega
              | succ f =>
              have hx := hC5 i hi.1 (by omega)
              have hwz : 0 ≤ wsz (w 212 0 i) ∧ wsz (w 212 0 i) ≤ 5000 := by unfold wsz; split <;> omega
              rw [show wlist w (f + 1) i ++ nodeW w qs = w 212 0 i :: (wlist w f (i + 1) ++ nodeW w qs) by simp only [wlist, List.cons_append]] at hN1 hEi
              simp only [List.length_cons] at hN1
              have hEi1 : m_foL μ (nodeW w PL) w = m_foL μ (wlist w f (i + 1) ++ nodeW w qs) (if w 212 0 i % 8 ≤ 2 then m_mvN μ (w 212 0 i % 8) (w 212 0 i / 8 % 512) (wsz (w 212 0 i)) (-1) (W 137 μ.1 0).toNat W else W) := hEi
              refine X_aload_n 37 hO dX13_follows_36 rfl rfl ?_
              refine ga_46 40 hO hR dX13_follows_37 rfl ?_
              refine X_iload_n 41 hO dX13_follows_40 rfl rfl ?_
              refine ma_ld (L := 30000) (c := 212) 42 hO hR rfl rfl rfl dX13_follows_41 rfl (by omega) (by omega) (fun hi_41 => ?_)
              rw [hS 212 0 i (by decide) (by decide) (by decide)]
              refine X_bipush 44 hO dX13_follows_42 rfl (by decide) ?_
              refine X_iand 45 hO dX13_follows_44 rfl (I_and 7 3 8 rfl (by decide) (by omega) (by omega)) ?_
              refine X_istore 47 hO dX13_follows_45 rfl rfl ?_
              refine X_iconst 48 hO dX13_follows_47 rfl ?_
              refine X_istore 50 hO dX13_follows_48 rfl rfl ?_
              have LP50 : ∀ (n : Nat) (j : Int), (w 137 μ.1 0 - j).toNat < n → (0 ≤ j ∧ j ≤ w 137 μ.1 0) → (w 212 0 i % 8 ≤ 2 ∨ j = 0) → RM ((m_mvN μ (w 212 0 i % 8) (w 212 0 i / 8 % 512) (wsz (w 212 0 i)) (-1) j.toNat W)) μ → X κ 0 0 ((m_mvN μ (w 212 0 i % 8) (w 212 0 i / 8 % 512) (wsz (w 212 0 i)) (-1) j.toNat W)) 50 [some (rv μ.1), some (.int (I k)), some (.int (I p)), some (.int (I i)), some (.int (I (w 212 0 i % 8))), some (.int (I j))] [] := by
                intro n
                induction n with
                | zero => intro j hm; exact absurd hm (Nat.not_lt_zero _)
                | succ n ih =>
                  intro j hm hj0 hjk hR
                  have hSj : FRt w (m_mvN μ (w 212 0 i % 8) (w 212 0 i / 8 % 512) (wsz (w 212 0 i)) (-1) j.toNat W) := hS.mvN
                  have hTj := hTW.mvN (μ := μ) (d := w 212 0 i % 8) (q := w 212 0 i / 8 % 512) (k := wsz (w 212 0 i)) (y := -1) (by omega) hwz j.toNat (by omega)
                  have e137 : (m_mvN μ (w 212 0 i % 8) (w 212 0 i / 8 % 512) (wsz (w 212 0 i)) (-1) j.toNat W) 137 μ.1 0 = w 137 μ.1 0 := by rw [mvN_at (by decide), h137]
                  refine X_iload 52 hO dX13_follows_50 rfl rfl ?_
                  refine X_aload_n 53 hO dX13_follows_52 rfl rfl ?_
                  refine ga_410 56 hO hR dX13_follows_53 rfl (fun hi_53 => ?_)
                  rw [e137]
                  refine X_icmp_ge 59 111 hO dX13_follows_56 rfl rfl (by omega) (by omega) (fun hc_56 => ?_) (fun hc_56 => ?_)
                  ·
                    have ej : j = w 137 μ.1 0 := by omega
                    have hS2 := hSj
                    have h1372 := e137
                    have hTW2 := hTj.mono (show _ ≤ N1 + 5000 by omega)
                    have hEi2 : m_foL μ (nodeW w PL) w = m_foL μ (wlist w f (i + 1) ++ nodeW w qs) (m_mvN μ (w 212 0 i % 8) (w 212 0 i / 8 % 512) (wsz (w 212 0 i)) (-1) j.toNat W) := by
                      rw [hEi1]; split
                      · rw [h137, ej]
                      · have : j = 0 := by omega
                        rw [this]; rfl
                    refine X_iinc 114 hO dX13_follows_111 rfl rfl ?_
                    refine X_goto hO dX13_follows_114 (tgt := 19) rfl ?_
                    exact X_wk (by simp only [lwk, lset, true_or, or_true, and_self]) (ihm f (i + 1) (N1 + 5000) _ (by omega) (by omega) hS2 h1372 hTW2 (by omega) hEi2 hR)
                  ·
                    refine X_iload 61 hO dX13_follows_59 rfl rfl ?_
                    refine X_iconst 62 hO dX13_follows_61 rfl ?_
                    refine X_icmp_gt 65 111 hO dX13_follows_62 rfl rfl (by omega) (by omega) (fun hc_62 => ?_) (fun hc_62 => ?_)
                    ·
                      have ej : j = 0 := by omega
                      have hS2 := hSj
                      have h1372 := e137
                      have hTW2 := hTj.mono (show _ ≤ N1 + 5000 by omega)
                      have hEi2 : m_foL μ (nodeW w PL) w = m_foL μ (wlist w f (i + 1) ++ nodeW w qs) (m_mvN μ (w 212 0 i % 8) (w 212 0 i / 8 % 512) (wsz (w 212 0 i)) (-1) j.toNat W) := by
                        rw [hEi1, if_neg (by omega), ej]; rfl
                      refine X_iinc 114 hO dX13_follows_111 rfl rfl ?_
                      refine X_goto hO dX13_follows_114 (tgt := 19) rfl ?_
                      exact X_wk (by simp only [lwk, lset, true_or, or_true, and_self]) (ihm f (i + 1) (N1 + 5000) _ (by omega) (by omega) hS2 h1372 hTW2 (by omega) hEi2 hR)
                    ·
                      refine X_aload_n 66 hO dX13_follows_65 rfl rfl ?_
                      refine X_iload 68 hO dX13_follows_66 rfl rfl ?_
                      refine X_iload 70 hO dX13_follows_68 rfl rfl ?_
                      refine X_aload_n 71 hO dX13_follows_70 rfl rfl ?_
                      refine ga_46 74 hO hR dX13_follows_71 rfl ?_
                      refine X_iload_n 75 hO dX13_follows_74 rfl rfl ?_
                      refine ma_ld (L := 30000) (c := 212) 76 hO hR rfl rfl rfl dX13_follows_75 rfl (by omega) (by omega) (fun hi_75 => ?_)
                      rw [hSj 212 0 i (by decide) (by decide) (by decide)]
                      refine X_iconst 77 hO dX13_follows_76 rfl ?_
                      refine X_ishr 78 hO dX13_follows_77 rfl (I_shr _ 3 8 rfl (by decide) (by omega) (by omega)) ?_
                      refine X_sipush 81 hO dX13_follows_78 rfl (by decide) ?_
                      refine X_iand 82 hO dX13_follows_81 rfl (I_and 511 9 512 rfl (by decide) (by omega) (by omega)) ?_
                      refine X_iload 84 hO dX13_follows_82 rfl rfl ?_
                      refine X_iconst 85 hO dX13_follows_84 rfl ?_
                      refine X_icmp_ne 88 92 hO dX13_follows_85 rfl rfl (by omega) (by omega) (fun hc_85 => ?_) (fun hc_85 => ?_)
                      ·
                        refine X_aload_n 93 hO dX13_follows_92 rfl rfl ?_
                        refine ga_46 96 hO hR dX13_follows_93 rfl ?_
                        refine X_iload_n 97 hO dX13_follows_96 rfl rfl ?_
                        refine ma_ld (L := 30000) (c := 212) 98 hO hR rfl rfl rfl dX13_follows_97 rfl (by omega) (by omega) (fun hi_97 => ?_)
                        rw [hSj 212 0 i (by decide) (by decide) (by decide)]
                        refine X_bipush 100 hO dX13_follows_98 rfl (by decide) ?_
                        refine X_ishr 101 hO dX13_follows_100 rfl (I_shr _ 12 4096 rfl (by decide) (by omega) (by omega)) ?_
                        refine X_iconst 102 hO dX13_follows_101 rfl ?_
                        refine XM_callVv 105 hO hD hR lX13_413 [_, _, _, _, _] rfl dX13_follows_102 rfl (c_moves _ _ _ _ _ _ _ _ (by omega) (by omega) (by omega) (by omega) (by omega) (by have := hTj j (by omega) (by omega); omega) (by have := hTj j (by omega) (by omega); omega)) (by decide) (by simp only [List.map_cons, List.map_nil, rv_cat]; exact Nat.le_of_ble_eq_true rfl) (fun w_102 hp_102 hR => ?_)
                        subst hp_102
                        refine X_iinc 108 hO dX13_follows_105 rfl rfl ?_
                        refine X_goto hO dX13_follows_108 (tgt := 50) rfl ?_
                        exact X_eqR hR (mvN_s (by omega) (by unfold wsz; first | rw [if_pos (by omega)] | rw [if_neg (by omega)])) (fun hR => ih (j + 1) (by omega) (by omega) (by omega) hR)
                      ·
                        refine X_iconst 89 hO dX13_follows_88 rfl ?_
                        refine X_goto hO dX13_follows_89 (tgt := 101) rfl ?_
                        refine X_iconst 102 hO dX13_follows_101 rfl ?_
                        refine XM_callVv 105 hO hD hR lX13_413 [_, _, _, _, _] rfl dX13_follows_102 rfl (c_moves _ _ _ _ _ _ _ _ (by omega) (by omega) (by omega) (by omega) (by omega) (by have := hTj j (by omega) (by omega); omega) (by have := hTj j (by omega) (by omega); omega)) (by decide) (by simp only [List.map_cons, List.map_nil, rv_cat]; exact Nat.le_of_ble_eq_true rfl) (fun w_102 hp_102 hR => ?_)
                        subst hp_102
                        refine X_iinc 108 hO dX13_follows_105 rfl rfl ?_
                        refine X_goto hO dX13_follows_108 (tgt := 50) rfl ?_
                        exact X_eqR hR (mvN_s (by omega) (by unfold wsz; first | rw [if_pos (by omega)] | rw [if_neg (by omega)])) (fun hR => ih (j + 1) (by omega) (by omega) (by omega) hR)
              exact X_eqR hR (w2 := (m_mvN μ (w 212 0 i % 8) (w 212 0 i / 8 % 512) (wsz (w 212 0 i)) (-1) (0 : Int).toNat W)) rfl (fun hR => LP50 _ 0 (Nat.lt_succ_self _) (by omega) (by omega) hR)
        exact LP19 _ (w 220 0 p).toNat _ N0 W (Nat.lt_succ_self _) (by omega) hS h137 hTW hN0 hEq hR
  exact X_wk (by simp only [lwk, lset, true_or, or_true, and_self]) (LP7 _ PL _ N w (Nat.lt_succ_self _) hC (fun _ _ _ _ _ _ => rfl) rfl hT hN rfl hR)
