theorem nodeW_cong {b b' : Mm} (e : ∀ c a i, c = 212 ∨ c = 213 ∨ (218 ≤ c ∧ c ≤ 220) → b' c a i = b c a i) (ps : List Int) : nodeW b' ps = nodeW b ps := by rw [← nodeW_map, ← nodeW_map, nodeL_cong e]
theorem wlist_rng {b : Mm} : ∀ (n : Nat) (i : Int), (∀ j, i ≤ j → j < i + n → 0 ≤ b 212 0 j ∧ b 212 0 j < 16777216) → ∀ x ∈ wlist b n i, 0 ≤ x ∧ x < 16777216
  | 0, _, _, x, h => by cases h
  | n + 1, i, e, x, h => by
    rcases List.mem_cons.mp h with rfl | h
    · exact e i (by omega) (by omega)
    · exact wlist_rng n (i + 1) (fun j a c => e j (by omega) (by omega)) x h
theorem CHL.rng {m : Int} {b : Mm} : ∀ {ps : List Int} {p : Int}, CHL m b p ps → ∀ x ∈ nodeW b ps, 0 ≤ x ∧ x < 16777216
  | [], _, _, x, h => by cases h
  | q :: qs, p, hC, x, h => by
    obtain ⟨h1, h2, h3, h4, h5, h6⟩ := hC
    rcases List.mem_append.mp h with h | h
    · exact wlist_rng _ _ (fun j a c => h5 j a (by omega)) x h
    · exact h6.rng x h
theorem anc_rng {m : Int} {w : Mm} (h : bPr m w) : ∀ (n : Nat) (x : Int), 0 ≤ x → x < m → (n : Int) < m_pln w x → 0 ≤ m_anc w x n ∧ m_anc w x n ≤ x
  | 0, x, h0, _, _ => ⟨h0, Int.le_refl _⟩
  | n + 1, x, h0, h1, hn => by
    rw [anc_par]
    have h2 := h x h0 h1
    rw [pln_s h ⟨h0, h1⟩] at hn
    by_cases c : w 217 0 x = -1
    · rw [c, pln_0] at hn; omega
    · have := anc_rng h n (w 217 0 x) (by omega) (by omega) (by omega)
      omega
/-- how many steps the first n changes of a path have -/
def lnR (PL : Int → List Int) (x : Int) (b : Mm) (n : Nat) : Int := ((RSn PL x b n).length : Int)
theorem lnR_s {PL : Int → List Int} {x : Int} {b : Mm} {n : Nat} : lnR PL x b (n + 1) = lnR PL x b n + ((nodeW b (PL (m_fan b x ((n : Int) + 1)))).length : Int) := by
  unfold lnR m_fan
  show (((RSn PL x b n ++ nodeL b _).length : Nat) : Int) = _
  rw [List.length_append, ← nodeW_map, List.length_map]
  omega
theorem lnR_mono {PL : Int → List Int} {x : Int} {b : Mm} {n : Nat} : ∀ {m : Nat}, n ≤ m → lnR PL x b n ≤ lnR PL x b m
  | 0, h => by have : n = 0 := by omega
               subst this; exact Int.le_refl _
  | m + 1, h => by
    by_cases c : n = m + 1
    · subst c; exact Int.le_refl _
    · rw [lnR_s]; have := lnR_mono (PL := PL) (x := x) (b := b) (n := n) (m := m) (by omega); omega
theorem foP_ok {μ : MU} {PL : Int → List Int} {x : Int} {b b' : Mm} {N A : Int} {a : Nat} {W : Mm} (hF : FRt b' W) (h8 : 0 ≤ W 137 μ.1 0 ∧ W 137 μ.1 0 ≤ 8) (hT : bTd A N μ W) (hA : 0 ≤ A) : ∀ n : Nat, (∀ k : Nat, k < n → ∀ y ∈ nodeW b (PL (m_fan b x ((a : Int) + 1 + k))), 0 ≤ y ∧ y < 16777216) → A + 5000 * (lnR PL x b (a + n) - lnR PL x b a) ≤ N → FRt b' (m_foP μ PL x b a n W) ∧ m_foP μ PL x b a n W 137 μ.1 0 = W 137 μ.1 0 ∧ bTd (A + 5000 * (lnR PL x b (a + n) - lnR PL x b a)) N μ (m_foP μ PL x b a n W)
  | 0, _, hN => ⟨hF, rfl, hT.1, fun t p q r => by
      have := hT.2 t p (show t < W 137 μ.1 0 from q) r
      simp only [Nat.add_zero]
      show W 244 0 t ≤ _ ∧ W 245 0 t ≤ _
      omega⟩
  | n + 1, hr, hN => by
    have e : lnR PL x b (a + (n + 1)) = lnR PL x b (a + n) + ((nodeW b (PL (m_fan b x ((a : Int) + 1 + n)))).length : Int) := by
      rw [show a + (n + 1) = (a + n) + 1 by omega, lnR_s, show (((a + n : Nat) : Int) + 1) = (a : Int) + 1 + (n : Int) by omega]
    have em := lnR_mono (PL := PL) (x := x) (b := b) (show a ≤ a + n by omega)
    rw [e] at hN ⊢
    obtain ⟨g1, g2, g3⟩ := foP_ok hF h8 hT hA n (fun k hk => hr k (by omega)) (by omega)
    have hx := hr n (by omega)
    have o1 := foL_ok (μ := μ) (b := b') (nodeW b (PL (m_fan b x ((a : Int) + 1 + n)))) _ N g1 (by rw [g2]; exact h8) g3.1 (by omega) hx
    have o2 := foL_td (μ := μ) (N := N) (nodeW b (PL (m_fan b x ((a : Int) + 1 + n)))) _ _ g3 (by rw [g2]; exact h8) (by omega) (by omega) hx
    simp only [m_foP]
    refine ⟨o1.1, o1.2.1.trans g2, o2.1, fun t p q r => ?_⟩
    have := o2.2 t p q r
    omega
def m_fdR (μ : MU) (PL : Int → List Int) (x : Int) (b : Mm) (lo hi : Int) : Nat → Mm → Int × Mm
  | 0, W => (-1, W)
  | n + 1, W => if m_hit μ lo hi (m_can μ PL x b ((n : Int) + 1) W).1 (m_fol μ PL x b ((n : Int) + 1) (m_can μ PL x b ((n : Int) + 1) W)) then ((n : Int) + 1, m_fol μ PL x b ((n : Int) + 1) (m_can μ PL x b ((n : Int) + 1) W)) else m_fdR μ PL x b lo hi n (m_fol μ PL x b ((n : Int) + 1) (m_can μ PL x b ((n : Int) + 1) W))
theorem tou_nn {lo hi k : Int} {w : Mm} : 0 ≤ m_tou lo hi w k := by unfold m_tou bi; split <;> decide
theorem tou_1 {f : Int → Int} {j : Int} (hj : 0 ≤ j) (hf : ∀ k, 0 ≤ f k) (h : bi (0 < sumN f j.toNat) ≠ 0 ∨ 0 < f j) : 1 = bi (0 < sumN f (j + 1).toNat) := by
  have h1 := sumN_nn hf j.toNat
  have h2 := hf j
  rw [sumN_su hj]
  refine bi_t ?_
  rcases h with h | h
  · have := bi_ne.mp h; omega
  · omega
theorem tou_0 {f : Int → Int} {j : Int} (hj : 0 ≤ j) (h : bi (0 < sumN f j.toNat) = 0) (h2 : f j = 0) : 0 = bi (0 < sumN f (j + 1).toNat) := by
  rw [sumN_su hj]
  refine bi_f ?_
  have := bi_0.mp h
  omega
theorem FRt.up {b w : Mm} (h : FRt b w) {c : Nat} {x i v : Int} (hc : c = 137 ∨ c = 138) : FRt b (up w c x i v) := fun c' a' i' h1 h2 h3 => by rw [up_k _ (by omega)]; exact h c' a' i' h1 h2 h3
theorem bTc.up {N : Int} {w : Mm} (h : bTc N w) {c : Nat} {x i v : Int} (hc : c = 137 ∨ c = 138) : bTc N (up w c x i v) := fun t a b => by rw [up_k _ (by omega), up_k _ (by omega)]; exact h t a b
theorem bTd.up138 {A N : Int} {μ : MU} {w : Mm} (h : bTd A N μ w) {x i v : Int} : bTd A N μ (up w 138 x i v) := ⟨h.1.up (Or.inr rfl), fun t a b c => by rw [up_k _ (by decide), up_k _ (by decide)]; rw [up_k _ (by decide)] at b; exact h.2 t a b c⟩
theorem can_ok {μ : MU} {PL : Int → List Int} {x : Int} {b b' W : Mm} {i : Int} {N : Int} (hF : FRt b' W) (h8 : 0 ≤ W 137 μ.1 0 ∧ W 137 μ.1 0 ≤ 8) (hT : bTc N W) (hr : ∀ y ∈ nodeW b (PL (m_fan b x i)), 0 ≤ y ∧ y < 16777216) (hN : 10000 + 5000 * ((nodeW b (PL (m_fan b x i))).length : Int) ≤ N) : FRt b' (m_can μ PL x b i W).2 ∧ (0 ≤ (m_can μ PL x b i W).2 137 μ.1 0 ∧ (m_can μ PL x b i W).2 137 μ.1 0 ≤ 8) ∧ bTc N (m_can μ PL x b i W).2 ∧ ((m_can μ PL x b i W).1 = 0 ∨ (m_can μ PL x b i W).1 = 1) ∧ ((m_can μ PL x b i W).1 ≠ 0 → bTd (10000 + 5000 * ((nodeW b (PL (m_fan b x i))).length : Int)) N μ (m_can μ PL x b i W).2) := by
  unfold m_can
  split
  · have q0 : up (up W 138 μ.1 0 0) 137 μ.1 0 0 137 μ.1 0 = 0 := up_s _ _ _ _ _
    have q1 : bTc N (up (up W 138 μ.1 0 0) 137 μ.1 0 0) := (hT.up (Or.inr rfl)).up (Or.inl rfl)
    have q2 : bTd 10000 N μ (up (up W 138 μ.1 0 0) 137 μ.1 0 0) := ⟨q1, fun t a c d => by rw [q0] at c; omega⟩
    have q3 := trL_ok (μ := μ) (b := b') (nodeW b (PL (m_fan b x i))) _ N ((hF.up (Or.inr rfl)).up (Or.inl rfl)) (by rw [q0]; omega) q1 (by omega) hr
    have q4 := trL_td (μ := μ) (N := N) (nodeW b (PL (m_fan b x i))) _ 10000 q2 (by rw [q0]; omega) (by omega) (by omega) hr
    exact ⟨q3.1, q3.2.1, q4.1, q3.2.2.2, fun _ => q4⟩
  · exact ⟨hF.up (Or.inr rfl), by dsimp only; rw [up_k _ (by decide)]; exact h8, hT.up (Or.inr rfl), Or.inl rfl, fun h => absurd rfl h⟩
theorem dX13_foundIn_0 : decode cX13_foundIn 0 = .ok (.aload_n 0, 1) := by decide +kernel
theorem dX13_foundIn_1 : decode cX13_foundIn 1 = .ok (.aload_n 0, 1) := by decide +kernel
theorem dX13_foundIn_2 : decode cX13_foundIn 2 = .ok (.getfield 258, 3) := by decide +kernel
theorem dX13_foundIn_5 : decode cX13_foundIn 5 = .ok (.invokevirtual 242, 3) := by decide +kernel
theorem dX13_foundIn_8 : decode cX13_foundIn 8 = .ok (.aload_n 0, 1) := by decide +kernel
theorem dX13_foundIn_9 : decode cX13_foundIn 9 = .ok (.getfield 235, 3) := by decide +kernel
theorem dX13_foundIn_12 : decode cX13_foundIn 12 = .ok (.iconst 1, 1) := by decide +kernel
theorem dX13_foundIn_13 : decode cX13_foundIn 13 = .ok (.isub, 1) := by decide +kernel
theorem dX13_foundIn_14 : decode cX13_foundIn 14 = .ok (.istore_n 3, 1) := by decide +kernel
theorem dX13_foundIn_15 : decode cX13_foundIn 15 = .ok (.iload_n 3, 1) := by decide +kernel
theorem dX13_foundIn_16 : decode cX13_foundIn 16 = .ok (.ifCond .le 165, 3) := by decide +kernel
theorem dX13_foundIn_19 : decode cX13_foundIn 19 = .ok (.aload_n 0, 1) := by decide +kernel
theorem dX13_foundIn_20 : decode cX13_foundIn 20 = .ok (.iconst 0, 1) := by decide +kernel
theorem dX13_foundIn_21 : decode cX13_foundIn 21 = .ok (.putfield 406, 3) := by decide +kernel
theorem dX13_foundIn_24 : decode cX13_foundIn 24 = .ok (.aload_n 0, 1) := by decide +kernel
theorem dX13_foundIn_25 : decode cX13_foundIn 25 = .ok (.getfield 93, 3) := by decide +kernel
theorem dX13_foundIn_28 : decode cX13_foundIn 28 = .ok (.aload_n 0, 1) := by decide +kernel
theorem dX13_foundIn_29 : decode cX13_foundIn 29 = .ok (.getfield 96, 3) := by decide +kernel
theorem dX13_foundIn_32 : decode cX13_foundIn 32 = .ok (.iload_n 3, 1) := by decide +kernel
theorem dX13_foundIn_33 : decode cX13_foundIn 33 = .ok (.iaload, 1) := by decide +kernel
theorem dX13_foundIn_34 : decode cX13_foundIn 34 = .ok (.iaload, 1) := by decide +kernel
theorem dX13_foundIn_35 : decode cX13_foundIn 35 = .ok (.iconst 1, 1) := by decide +kernel
theorem dX13_foundIn_36 : decode cX13_foundIn 36 = .ok (.iand, 1) := by decide +kernel
theorem dX13_foundIn_37 : decode cX13_foundIn 37 = .ok (.ifCond .ne 20, 3) := by decide +kernel
theorem dX13_foundIn_40 : decode cX13_foundIn 40 = .ok (.aload_n 0, 1) := by decide +kernel
theorem dX13_foundIn_41 : decode cX13_foundIn 41 = .ok (.aload_n 0, 1) := by decide +kernel
theorem dX13_foundIn_42 : decode cX13_foundIn 42 = .ok (.getfield 96, 3) := by decide +kernel
theorem dX13_foundIn_45 : decode cX13_foundIn 45 = .ok (.iload_n 3, 1) := by decide +kernel
theorem dX13_foundIn_46 : decode cX13_foundIn 46 = .ok (.iaload, 1) := by decide +kernel
theorem dX13_foundIn_47 : decode cX13_foundIn 47 = .ok (.invokevirtual 417, 3) := by decide +kernel
theorem dX13_foundIn_50 : decode cX13_foundIn 50 = .ok (.ifCond .eq 7, 3) := by decide +kernel
theorem dX13_foundIn_53 : decode cX13_foundIn 53 = .ok (.iconst 1, 1) := by decide +kernel
theorem dX13_foundIn_54 : decode cX13_foundIn 54 = .ok (.goto 4, 3) := by decide +kernel
theorem dX13_foundIn_57 : decode cX13_foundIn 57 = .ok (.iconst 0, 1) := by decide +kernel
theorem dX13_foundIn_58 : decode cX13_foundIn 58 = .ok (.istore 4, 2) := by decide +kernel
theorem dX13_foundIn_60 : decode cX13_foundIn 60 = .ok (.iload_n 3, 1) := by decide +kernel
theorem dX13_foundIn_61 : decode cX13_foundIn 61 = .ok (.iconst 1, 1) := by decide +kernel
theorem dX13_foundIn_62 : decode cX13_foundIn 62 = .ok (.iadd, 1) := by decide +kernel
theorem dX13_foundIn_63 : decode cX13_foundIn 63 = .ok (.istore 5, 2) := by decide +kernel
theorem dX13_foundIn_65 : decode cX13_foundIn 65 = .ok (.iload 5, 2) := by decide +kernel
theorem dX13_foundIn_67 : decode cX13_foundIn 67 = .ok (.aload_n 0, 1) := by decide +kernel
theorem dX13_foundIn_68 : decode cX13_foundIn 68 = .ok (.getfield 235, 3) := by decide +kernel
theorem dX13_foundIn_71 : decode cX13_foundIn 71 = .ok (.if_icmp .ge 25, 3) := by decide +kernel
theorem dX13_foundIn_74 : decode cX13_foundIn 74 = .ok (.iload 4, 2) := by decide +kernel
theorem dX13_foundIn_76 : decode cX13_foundIn 76 = .ok (.ifCond .eq 20, 3) := by decide +kernel
theorem dX13_foundIn_79 : decode cX13_foundIn 79 = .ok (.aload_n 0, 1) := by decide +kernel
theorem dX13_foundIn_80 : decode cX13_foundIn 80 = .ok (.aload_n 0, 1) := by decide +kernel
theorem dX13_foundIn_81 : decode cX13_foundIn 81 = .ok (.getfield 96, 3) := by decide +kernel
theorem dX13_foundIn_84 : decode cX13_foundIn 84 = .ok (.iload 5, 2) := by decide +kernel
theorem dX13_foundIn_86 : decode cX13_foundIn 86 = .ok (.iaload, 1) := by decide +kernel
theorem dX13_foundIn_87 : decode cX13_foundIn 87 = .ok (.invokevirtual 420, 3) := by decide +kernel
theorem dX13_foundIn_90 : decode cX13_foundIn 90 = .ok (.iinc 5 1, 3) := by decide +kernel
theorem dX13_foundIn_93 : decode cX13_foundIn 93 = .ok (.goto (-28), 3) := by decide +kernel
theorem dX13_foundIn_96 : decode cX13_foundIn 96 = .ok (.iconst 0, 1) := by decide +kernel
theorem dX13_foundIn_97 : decode cX13_foundIn 97 = .ok (.istore 5, 2) := by decide +kernel
theorem dX13_foundIn_99 : decode cX13_foundIn 99 = .ok (.iconst 0, 1) := by decide +kernel
theorem dX13_foundIn_100 : decode cX13_foundIn 100 = .ok (.istore 6, 2) := by decide +kernel
theorem dX13_foundIn_102 : decode cX13_foundIn 102 = .ok (.iload 6, 2) := by decide +kernel
theorem dX13_foundIn_104 : decode cX13_foundIn 104 = .ok (.aload_n 0, 1) := by decide +kernel
theorem dX13_foundIn_105 : decode cX13_foundIn 105 = .ok (.getfield 410, 3) := by decide +kernel
theorem dX13_foundIn_108 : decode cX13_foundIn 108 = .ok (.if_icmp .ge 48, 3) := by decide +kernel
theorem dX13_foundIn_111 : decode cX13_foundIn 111 = .ok (.iload 4, 2) := by decide +kernel
theorem dX13_foundIn_113 : decode cX13_foundIn 113 = .ok (.ifCond .eq 43, 3) := by decide +kernel
theorem dX13_foundIn_116 : decode cX13_foundIn 116 = .ok (.iload 5, 2) := by decide +kernel
theorem dX13_foundIn_118 : decode cX13_foundIn 118 = .ok (.ifCond .ne 25, 3) := by decide +kernel
theorem dX13_foundIn_121 : decode cX13_foundIn 121 = .ok (.aload_n 0, 1) := by decide +kernel
theorem dX13_foundIn_122 : decode cX13_foundIn 122 = .ok (.getfield 162, 3) := by decide +kernel
theorem dX13_foundIn_125 : decode cX13_foundIn 125 = .ok (.iload 6, 2) := by decide +kernel
theorem dX13_foundIn_127 : decode cX13_foundIn 127 = .ok (.iaload, 1) := by decide +kernel
theorem dX13_foundIn_128 : decode cX13_foundIn 128 = .ok (.iload_n 2, 1) := by decide +kernel
theorem dX13_foundIn_129 : decode cX13_foundIn 129 = .ok (.if_icmp .gt 18, 3) := by decide +kernel
theorem dX13_foundIn_132 : decode cX13_foundIn 132 = .ok (.aload_n 0, 1) := by decide +kernel
theorem dX13_foundIn_133 : decode cX13_foundIn 133 = .ok (.getfield 165, 3) := by decide +kernel
theorem dX13_foundIn_136 : decode cX13_foundIn 136 = .ok (.iload 6, 2) := by decide +kernel
theorem dX13_foundIn_138 : decode cX13_foundIn 138 = .ok (.iaload, 1) := by decide +kernel
theorem dX13_foundIn_139 : decode cX13_foundIn 139 = .ok (.iload_n 1, 1) := by decide +kernel
theorem dX13_foundIn_140 : decode cX13_foundIn 140 = .ok (.if_icmp .lt 7, 3) := by decide +kernel
theorem dX13_foundIn_143 : decode cX13_foundIn 143 = .ok (.iconst 1, 1) := by decide +kernel
theorem dX13_foundIn_144 : decode cX13_foundIn 144 = .ok (.goto 4, 3) := by decide +kernel
theorem dX13_foundIn_147 : decode cX13_foundIn 147 = .ok (.iconst 0, 1) := by decide +kernel
theorem dX13_foundIn_148 : decode cX13_foundIn 148 = .ok (.istore 5, 2) := by decide +kernel
theorem dX13_foundIn_150 : decode cX13_foundIn 150 = .ok (.iinc 6 1, 3) := by decide +kernel
theorem dX13_foundIn_153 : decode cX13_foundIn 153 = .ok (.goto (-51), 3) := by decide +kernel
theorem dX13_foundIn_156 : decode cX13_foundIn 156 = .ok (.iload 4, 2) := by decide +kernel
theorem dX13_foundIn_158 : decode cX13_foundIn 158 = .ok (.ifCond .eq 17, 3) := by decide +kernel
theorem dX13_foundIn_161 : decode cX13_foundIn 161 = .ok (.aload_n 0, 1) := by decide +kernel
theorem dX13_foundIn_162 : decode cX13_foundIn 162 = .ok (.getfield 406, 3) := by decide +kernel
theorem dX13_foundIn_165 : decode cX13_foundIn 165 = .ok (.ifCond .ne 10, 3) := by decide +kernel
theorem dX13_foundIn_168 : decode cX13_foundIn 168 = .ok (.iload 5, 2) := by decide +kernel
theorem dX13_foundIn_170 : decode cX13_foundIn 170 = .ok (.ifCond .eq 5, 3) := by decide +kernel
theorem dX13_foundIn_173 : decode cX13_foundIn 173 = .ok (.iload_n 3, 1) := by decide +kernel
theorem dX13_foundIn_174 : decode cX13_foundIn 174 = .ok (.ireturn, 1) := by decide +kernel
theorem dX13_foundIn_175 : decode cX13_foundIn 175 = .ok (.iinc 3 (-1), 3) := by decide +kernel
theorem dX13_foundIn_178 : decode cX13_foundIn 178 = .ok (.goto (-163), 3) := by decide +kernel
theorem dX13_foundIn_181 : decode cX13_foundIn 181 = .ok (.iconst (-1), 1) := by decide +kernel
theorem dX13_foundIn_182 : decode cX13_foundIn 182 = .ok (.ireturn, 1) := by decide +kernel
set_option maxRecDepth 4000 in
theorem c_foundIn (γ : LC) (μ : MU) (w : Mm) (lo hi M : Int) (PL : Int → List Int) (hlh : IR lo ∧ IR hi) (hT : TB μ M w) (hM : M ≤ 600) (hPH : PHx PL (w 126 μ.1 0) w) (hln : (RSx PL (w 126 μ.1 0) w).length ≤ 30000) (h8 : 0 ≤ w 137 μ.1 0 ∧ w 137 μ.1 0 ≤ 8) (hTr : bTc 150010000 w) : CMi γ μ 2 mX13_foundIn [.int (I lo), .int (I hi)] w (fun r w' => r = (m_fdR μ PL (w 126 μ.1 0) w lo hi (m_pln w (w 126 μ.1 0) - 1).toNat (m_fin μ (w 126 μ.1 0) w)).1 ∧ w' = (m_fdR μ PL (w 126 μ.1 0) w lo hi (m_pln w (w 126 μ.1 0) - 1).toNat (m_fin μ (w 126 μ.1 0) w)).2) := by
  refine CMi_of rfl (by simp [rv_cat, Value.category]) rfl ?_
  rintro κ hO hF rfl hR
  have hD := hF.dp
  show X κ 0 0 w 0 [some (rv μ.1), some (.int (I lo)), some (.int (I hi)), none, none, none, none] []
  have hp := hT.pr
  have ht1 := hT.1
  have ht3 := hT.2.2.1
  have htn := hT.2.2.2.2.2.2
  have hx0 := pln_rng hp _ (w 126 μ.1 0) (Nat.le_refl _) (by omega) (by omega)
  have hlr : lnR PL (w 126 μ.1 0) w (m_pln w (w 126 μ.1 0) - 1).toNat ≤ 30000 := by unfold lnR; unfold RSx at hln; omega
  have hl0 : lnR PL (w 126 μ.1 0) w 0 = 0 := rfl
  have e127 : m_fin μ (w 126 μ.1 0) w 127 μ.1 0 = m_pln w (w 126 μ.1 0) := by unfold m_fin; rw [fl_at (by decide), up_s]
  have hrg : ∀ a : Int, 1 ≤ a → a ≤ m_pln w (w 126 μ.1 0) - 1 → (0 ≤ m_fan w (w 126 μ.1 0) a ∧ m_fan w (w 126 μ.1 0) a < w 124 μ.1 0) ∧ CHL 640 w (w 221 0 (m_fan w (w 126 μ.1 0) a)) (PL (m_fan w (w 126 μ.1 0) a)) ∧ m_fin μ (w 126 μ.1 0) w 226 0 a = m_fan w (w 126 μ.1 0) a := by
    intro a a1 a2
    obtain ⟨b1, b2, b3, b4⟩ := hPH (m_pln w (w 126 μ.1 0) - 1 - a).toNat (by omega)
    have b5 := anc_rng hp (m_pln w (w 126 μ.1 0) - 1 - a).toNat (w 126 μ.1 0) (by omega) (by omega) (by omega)
    refine ⟨⟨b5.1, by unfold m_fan; omega⟩, b2, ?_⟩
    unfold m_fin m_fan
    simp only [fl, true_and]
    rw [if_pos (by omega)]
  have hWW : ∀ W : Mm, FRt (m_fin μ (w 126 μ.1 0) w) W → ∀ c a i, c ≠ 127 → c ≠ 226 → c ≠ 137 → c ≠ 138 → (c < 241 ∨ 246 < c) → W c a i = w c a i := fun W hS c a i y1 y2 y3 y4 y5 => by rw [hS c a i y3 y4 y5]; exact fin_at ⟨y1, y2⟩
  have hWC : ∀ W : Mm, FRt (m_fin μ (w 126 μ.1 0) w) W → ∀ k L, CHL 640 w (w 221 0 k) L → CHL 640 W (W 221 0 k) L ∧ nodeW W L = nodeW w L := fun W hS k L hC => ⟨by rw [hWW W hS 221 _ _ (by decide) (by decide) (by decide) (by decide) (by decide)]; exact hC.cong fun c a i h => hWW W hS c a i (by omega) (by omega) (by omega) (by omega) (by omega), nodeW_cong (fun c a i h => hWW W hS c a i (by omega) (by omega) (by omega) (by omega) (by omega)) L⟩
  refine X_aload_n 1 hO dX13_foundIn_0 rfl rfl ?_
  refine X_aload_n 2 hO dX13_foundIn_1 rfl rfl ?_
  refine ga_258 5 hO hR dX13_foundIn_2 rfl (fun hi_2 => ?_)
  try simp (disch := decide) only [up_k, up_s, mvN_at] at hi_2 ⊢
  refine XM_callVv 8 hO hD hR lX13_242 [_] rfl dX13_foundIn_5 rfl (c_finds _ _ _ _ M hT hM (by omega)) (by decide) (by simp only [List.map_cons, List.map_nil, rv_cat]; exact Nat.le_of_ble_eq_true rfl) (fun w_5 hp_5 hR => ?_)
  subst hp_5
  refine X_aload_n 9 hO dX13_foundIn_8 rfl rfl ?_
  refine ga_235 12 hO hR dX13_foundIn_9 rfl (fun hi_9 => ?_)
  try simp (disch := decide) only [up_k, up_s, mvN_at] at hi_9 ⊢
  rw [e127]
  refine X_iconst 13 hO dX13_foundIn_12 rfl ?_
  refine X_isub 14 hO dX13_foundIn_13 rfl ?_
  refine X_istore_n 15 hO dX13_foundIn_14 rfl rfl ?_
  have LP15 : ∀ (n : Nat) (a : Int) (W : Mm), a.toNat < n → (0 ≤ a ∧ a ≤ m_pln w (w 126 μ.1 0) - 1) → (FRt (m_fin μ (w 126 μ.1 0) w) W) → (0 ≤ W 137 μ.1 0 ∧ W 137 μ.1 0 ≤ 8) → (bTc 150010000 W) → (m_fdR μ PL (w 126 μ.1 0) w lo hi (m_pln w (w 126 μ.1 0) - 1).toNat (m_fin μ (w 126 μ.1 0) w) = m_fdR μ PL (w 126 μ.1 0) w lo hi a.toNat W) → RM (W) μ → X κ 0 0 (W) 15 [some (rv μ.1), some (.int (I lo)), some (.int (I hi)), some (.int (I a)), none, none, none] [] := by
    intro n
    induction n with
    | zero => intro a W hm; exact absurd hm (Nat.not_lt_zero _)
    | succ n iho =>
      intro a W hm ha hS h137 hTW hEq hR
      refine X_iload_n 16 hO dX13_foundIn_15 rfl rfl ?_
      refine X_if_le 19 181 hO dX13_foundIn_16 rfl rfl (by omega) (fun hc_16 => ?_) (fun hc_16 => ?_)
      ·
        have ea : a = 0 := by omega
        subst ea
        refine X_iconst 182 hO dX13_foundIn_181 rfl ?_
        exact XM_iret hO hF hR rfl (by first | exact Or.inl rfl | exact Or.inr ⟨rfl, bi_01 _⟩ | exact Or.inr ⟨rfl, by omega⟩) dX13_foundIn_182 (by omega) ⟨by rw [hEq]; rfl, by rw [hEq]; rfl⟩
      ·
        obtain ⟨m, hma⟩ : ∃ m : Nat, a.toNat = m + 1 := ⟨a.toNat - 1, by omega⟩
        have ham : a = (m : Int) + 1 := by omega
        have hEm : m_fdR μ PL (w 126 μ.1 0) w lo hi (m_pln w (w 126 μ.1 0) - 1).toNat (m_fin μ (w 126 μ.1 0) w) = (if m_hit μ lo hi (m_can μ PL (w 126 μ.1 0) w a W).1 (m_fol μ PL (w 126 μ.1 0) w a (m_can μ PL (w 126 μ.1 0) w a W)) then (a, m_fol μ PL (w 126 μ.1 0) w a (m_can μ PL (w 126 μ.1 0) w a W)) else m_fdR μ PL (w 126 μ.1 0) w lo hi m (m_fol μ PL (w 126 μ.1 0) w a (m_can μ PL (w 126 μ.1 0) w a W))) := by rw [hEq, hma]; simp only [m_fdR]; rw [← ham]
        obtain ⟨ha1, hch, e226⟩ := hrg a (by omega) (by omega)
        have hry := hch.rng
        have hbn := htn (m_fan w (w 126 μ.1 0) a) ha1.1 ha1.2
        have e5 := lnR_s (PL := PL) (x := w 126 μ.1 0) (b := w) (n := m)
        rw [← ham] at e5
        have e6 := lnR_mono (PL := PL) (x := w 126 μ.1 0) (b := w) (show m + 1 ≤ (m_pln w (w 126 μ.1 0) - 1).toNat by omega)
        have e7 := lnR_mono (PL := PL) (x := w 126 μ.1 0) (b := w) (show 0 ≤ m by omega)
        have eW := hWW W hS
        have e2 : W 226 0 a = m_fan w (w 126 μ.1 0) a := by rw [hS 226 _ _ (by decide) (by decide) (by decide), e226]
        have e25 : W 225 0 (m_fan w (w 126 μ.1 0) a) = w 225 0 (m_fan w (w 126 μ.1 0) a) := eW 225 _ _ (by decide) (by decide) (by decide) (by decide) (by decide)
        refine X_aload_n 20 hO dX13_foundIn_19 rfl rfl ?_
        refine X_iconst 21 hO dX13_foundIn_20 rfl ?_
        refine pa_406 24 hO hR dX13_foundIn_21 rfl (by omega) (fun hR => ?_)
        refine X_aload_n 25 hO dX13_foundIn_24 rfl rfl ?_
        refine ga_93 28 hO hR dX13_foundIn_25 rfl ?_
        refine X_aload_n 29 hO dX13_foundIn_28 rfl rfl ?_
        refine ga_96 32 hO hR dX13_foundIn_29 rfl ?_
        refine X_iload_n 33 hO dX13_foundIn_32 rfl rfl ?_
        refine ma_ld (L := 640) (c := 226) 34 hO hR rfl rfl rfl dX13_foundIn_33 rfl (by omega) (by omega) (fun hi_33 => ?_)
        try simp (disch := decide) only [up_k, up_s, mvN_at] at hi_33 ⊢
        rw [e2] at hi_33 ⊢
        refine ma_ld (L := 640) (c := 225) 35 hO hR rfl rfl rfl dX13_foundIn_34 rfl (by omega) (by omega) (fun hi_34 => ?_)
        try simp (disch := decide) only [up_k, up_s, mvN_at] at hi_34 ⊢
        rw [e25] at hi_34 ⊢
        refine X_iconst 36 hO dX13_foundIn_35 rfl ?_
        refine X_iand 37 hO dX13_foundIn_36 rfl (I_and 1 1 2 rfl (by decide) (by omega) (by omega)) ?_
        have JP58 : ∀ (c : Int) (W1 : Mm), ((c, W1) = (m_can μ PL (w 126 μ.1 0) w a W)) → (RM W1 μ) → X κ 0 0 (W1) 58 [some (rv μ.1), some (.int (I lo)), some (.int (I hi)), some (.int (I a)), none, none, none] [.int (I c)] := by
          intro c W1 hcW hR
          refine X_istore 60 hO dX13_foundIn_58 rfl rfl ?_
          have hk1 := can_ok (μ := μ) (PL := PL) (x := w 126 μ.1 0) (b := w) (i := a) hS h137 hTW hry (by omega)
          rw [← hcW] at hk1 hEm
          obtain ⟨hS1, h1371, hTW1, hc01, hTD1⟩ := hk1
          dsimp only at hS1 h1371 hTW1 hc01 hTD1
          have hFP : ∀ n : Nat, a + n ≤ m_pln w (w 126 μ.1 0) - 1 ∧ (c = 0 → n = 0) → FRt (m_fin μ (w 126 μ.1 0) w) (m_foP μ PL (w 126 μ.1 0) w a n W1) ∧ m_foP μ PL (w 126 μ.1 0) w a n W1 137 μ.1 0 = W1 137 μ.1 0 ∧ bTc 150010000 (m_foP μ PL (w 126 μ.1 0) w a n W1) := by
            intro n0 hn0
            by_cases c0 : c = 0
            · have : n0 = 0 := hn0.2 c0
              subst this
              exact ⟨hS1, rfl, hTW1⟩
            · have e5 := lnR_s (PL := PL) (x := w 126 μ.1 0) (b := w) (n := m)
              rw [← ham] at e5
              have e6 := lnR_mono (PL := PL) (x := w 126 μ.1 0) (b := w) (show a.toNat + n0 ≤ (m_pln w (w 126 μ.1 0) - 1).toNat by omega)
              have e7 := lnR_mono (PL := PL) (x := w 126 μ.1 0) (b := w) (show 0 ≤ m by omega)
              rw [hma] at e6
              have o := foP_ok (μ := μ) (PL := PL) (x := w 126 μ.1 0) (b := w) (b' := (m_fin μ (w 126 μ.1 0) w)) (a := m + 1) hS1 h1371 (hTD1 c0) (by omega) n0 (fun k hk y hy => (hrg ((m : Int) + 1 + 1 + k) (by omega) (by omega)).2.1.rng y (by rw [show (((m + 1 : Nat) : Int) + 1 + (k : Int)) = (m : Int) + 1 + 1 + k by omega] at hy; exact hy)) (by omega)
              rw [show (((m + 1 : Nat) : Int)) = a by omega] at o
              exact ⟨o.1, o.2.1, o.2.2.1⟩
          refine X_iload_n 61 hO dX13_foundIn_60 rfl rfl ?_
          refine X_iconst 62 hO dX13_foundIn_61 rfl ?_
          refine X_iadd 63 hO dX13_foundIn_62 rfl ?_
          refine X_istore 65 hO dX13_foundIn_63 rfl rfl ?_
          have LP65 : ∀ (n : Nat) (k : Int), (m_pln w (w 126 μ.1 0) - k).toNat < n → (a + 1 ≤ k ∧ k ≤ m_pln w (w 126 μ.1 0) ∧ (c = 0 → k = a + 1)) → RM ((m_foP μ PL (w 126 μ.1 0) w a (k - a - 1).toNat W1)) μ → X κ 0 0 ((m_foP μ PL (w 126 μ.1 0) w a (k - a - 1).toNat W1)) 65 [some (rv μ.1), some (.int (I lo)), some (.int (I hi)), some (.int (I a)), some (.int (I c)), some (.int (I k)), none] [] := by
            intro n
            induction n with
            | zero => intro k hm; exact absurd hm (Nat.not_lt_zero _)
            | succ n ih =>
              intro k hm hk hR
              have hfp := hFP (k - a - 1).toNat (by omega)
              have e3 : (m_foP μ PL (w 126 μ.1 0) w a (k - a - 1).toNat W1) 127 μ.1 0 = m_pln w (w 126 μ.1 0) := by rw [hfp.1 127 _ _ (by decide) (by decide) (by decide), e127]
              have JP96 : (k = m_pln w (w 126 μ.1 0) ∨ c = 0) → X κ 0 0 ((m_foP μ PL (w 126 μ.1 0) w a (k - a - 1).toNat W1)) 96 [some (rv μ.1), some (.int (I lo)), some (.int (I hi)), some (.int (I a)), some (.int (I c)), none, none] [] := by
                intro  hke
                have e96 : (m_foP μ PL (w 126 μ.1 0) w a (k - a - 1).toNat W1) = (m_fol μ PL (w 126 μ.1 0) w a (c, W1)) := by
                  unfold m_fol; dsimp only
                  by_cases c0 : c = 0
                  · rw [if_pos c0, show (k - a - 1).toNat = 0 by omega]; rfl
                  · rw [if_neg c0, show (k - a - 1) = m_pln w (w 126 μ.1 0) - 1 - a by omega]
                have hfe := e96 ▸ hfp
                have hS3 : FRt (m_fin μ (w 126 μ.1 0) w) (m_fol μ PL (w 126 μ.1 0) w a (c, W1)) := hfe.1
                have h1373 : 0 ≤ (m_fol μ PL (w 126 μ.1 0) w a (c, W1)) 137 μ.1 0 ∧ (m_fol μ PL (w 126 μ.1 0) w a (c, W1)) 137 μ.1 0 ≤ 8 := by rw [hfe.2.1]; exact h1371
                have hTW3 : bTc 150010000 (m_fol μ PL (w 126 μ.1 0) w a (c, W1)) := hfe.2.2
                clear ih
                refine X_eqR hR e96 (fun hR => ?_)
                refine X_iconst 97 hO dX13_foundIn_96 rfl ?_
                refine X_istore 99 hO dX13_foundIn_97 rfl rfl ?_
                refine X_iconst 100 hO dX13_foundIn_99 rfl ?_
                refine X_istore 102 hO dX13_foundIn_100 rfl rfl ?_
                have LP102 : ∀ (n : Nat) (j : Int), ((m_fol μ PL (w 126 μ.1 0) w a (c, W1)) 137 μ.1 0 - j).toNat < n → (0 ≤ j ∧ j ≤ (m_fol μ PL (w 126 μ.1 0) w a (c, W1)) 137 μ.1 0 ∧ (c = 0 → j = 0)) → RM ((m_fol μ PL (w 126 μ.1 0) w a (c, W1))) μ → X κ 0 0 ((m_fol μ PL (w 126 μ.1 0) w a (c, W1))) 102 [some (rv μ.1), some (.int (I lo)), some (.int (I hi)), some (.int (I a)), some (.int (I c)), some (.int (I (bi (0 < sumN (m_tou lo hi (m_fol μ PL (w 126 μ.1 0) w a (c, W1))) j.toNat)))), some (.int (I j))] [] := by
                  intro n
                  induction n with
                  | zero => intro j hm; exact absurd hm (Nat.not_lt_zero _)
                  | succ n ihm =>
                    intro j hm hj hR
                    have JP156 : (c = 0 ∨ j = (m_fol μ PL (w 126 μ.1 0) w a (c, W1)) 137 μ.1 0) → X κ 0 0 ((m_fol μ PL (w 126 μ.1 0) w a (c, W1))) 156 [some (rv μ.1), some (.int (I lo)), some (.int (I hi)), some (.int (I a)), some (.int (I c)), some (.int (I (bi (0 < sumN (m_tou lo hi (m_fol μ PL (w 126 μ.1 0) w a (c, W1))) j.toNat)))), none] [] := by
                      intro  hje
                      refine X_iload 158 hO dX13_foundIn_156 rfl rfl ?_
                      refine X_if_eq 161 175 hO dX13_foundIn_158 rfl rfl (by omega) (fun hc_158 => ?_) (fun hc_158 => ?_)
                      ·
                        try simp only [bi_0, bi_ne, ne_eq, Classical.not_not] at hc_158
                        have hnh : ¬ m_hit μ lo hi (c, W1).1 (m_fol μ PL (w 126 μ.1 0) w a (c, W1)) := fun h => h.1 hc_158
                        refine X_iinc 178 hO dX13_foundIn_175 rfl rfl ?_
                        refine X_goto hO dX13_foundIn_178 (tgt := 15) rfl ?_
                        exact X_wk (by simp only [lwk, lset, true_or, or_true, and_self]) (iho (a + -1) _ (by omega) (by omega) hS3 h1373 hTW3 (by rw [hEm, if_neg hnh, show (a + -1).toNat = m by omega]) hR)
                      ·
                        try simp only [bi_0, bi_ne, ne_eq, Classical.not_not] at hc_158
                        have ej : j = (m_fol μ PL (w 126 μ.1 0) w a (c, W1)) 137 μ.1 0 := by omega
                        rw [ej]
                        refine X_aload_n 162 hO dX13_foundIn_161 rfl rfl ?_
                        refine ga_406 165 hO hR dX13_foundIn_162 rfl (fun hi_162 => ?_)
                        try simp (disch := decide) only [up_k, up_s, mvN_at] at hi_162 ⊢
                        refine X_if_ne 168 175 hO dX13_foundIn_165 rfl rfl (by omega) (fun hc_165 => ?_) (fun hc_165 => ?_)
                        ·
                          have hnh : ¬ m_hit μ lo hi (c, W1).1 (m_fol μ PL (w 126 μ.1 0) w a (c, W1)) := fun h => hc_165 h.2.1
                          refine X_iinc 178 hO dX13_foundIn_175 rfl rfl ?_
                          refine X_goto hO dX13_foundIn_178 (tgt := 15) rfl ?_
                          exact X_wk (by simp only [lwk, lset, true_or, or_true, and_self]) (iho (a + -1) _ (by omega) (by omega) hS3 h1373 hTW3 (by rw [hEm, if_neg hnh, show (a + -1).toNat = m by omega]) hR)
                        ·
                          refine X_iload 170 hO dX13_foundIn_168 rfl rfl ?_
                          refine X_if_eq 173 175 hO dX13_foundIn_170 rfl rfl (by unfold bi; split <;> omega) (fun hc_170 => ?_) (fun hc_170 => ?_)
                          ·
                            have hnh : ¬ m_hit μ lo hi (c, W1).1 (m_fol μ PL (w 126 μ.1 0) w a (c, W1)) := fun h => bi_0.mp hc_170 h.2.2
                            refine X_iinc 178 hO dX13_foundIn_175 rfl rfl ?_
                            refine X_goto hO dX13_foundIn_178 (tgt := 15) rfl ?_
                            exact X_wk (by simp only [lwk, lset, true_or, or_true, and_self]) (iho (a + -1) _ (by omega) (by omega) hS3 h1373 hTW3 (by rw [hEm, if_neg hnh, show (a + -1).toNat = m by omega]) hR)
                          ·
                            have hyh : m_hit μ lo hi (c, W1).1 (m_fol μ PL (w 126 μ.1 0) w a (c, W1)) := ⟨hc_158, by omega, bi_ne.mp hc_170⟩
                            refine X_iload_n 174 hO dX13_foundIn_173 rfl rfl ?_
                            exact XM_iret hO hF hR rfl (by first | exact Or.inl rfl | exact Or.inr ⟨rfl, bi_01 _⟩ | exact Or.inr ⟨rfl, by omega⟩) dX13_foundIn_174 (by omega) ⟨by rw [hEm, if_pos hyh], by rw [hEm, if_pos hyh]⟩
                    refine X_iload 104 hO dX13_foundIn_102 rfl rfl ?_
                    refine X_aload_n 105 hO dX13_foundIn_104 rfl rfl ?_
                    refine ga_410 108 hO hR dX13_foundIn_105 rfl (fun hi_105 => ?_)
                    try simp (disch := decide) only [up_k, up_s, mvN_at] at hi_105 ⊢
                    refine X_icmp_ge 111 156 hO dX13_foundIn_108 rfl rfl (by omega) (by omega) (fun hc_108 => ?_) (fun hc_108 => ?_)
                    ·
                      exact X_wk (by simp only [lwk, lset, true_or, or_true, and_self]) (JP156 (by omega))
                    ·
                      refine X_iload 113 hO dX13_foundIn_111 rfl rfl ?_
                      refine X_if_eq 116 156 hO dX13_foundIn_113 rfl rfl (by omega) (fun hc_113 => ?_) (fun hc_113 => ?_)
                      ·
                        try simp only [bi_0, bi_ne, ne_eq, Classical.not_not] at hc_113
                        exact X_wk (by simp only [lwk, lset, true_or, or_true, and_self]) (JP156 (by omega))
                      ·
                        try simp only [bi_0, bi_ne, ne_eq, Classical.not_not] at hc_113
                        have JP148 : ∀ (z : Int), (z = bi (0 < sumN (m_tou lo hi (m_fol μ PL (w 126 μ.1 0) w a (c, W1))) (j + 1).toNat)) → X κ 0 0 ((m_fol μ PL (w 126 μ.1 0) w a (c, W1))) 148 [some (rv μ.1), some (.int (I lo)), some (.int (I hi)), some (.int (I a)), some (.int (I c)), none, some (.int (I j))] [.int (I z)] := by
                          intro z hz
                          refine X_istore 150 hO dX13_foundIn_148 rfl rfl ?_
                          subst hz
                          refine X_iinc 153 hO dX13_foundIn_150 rfl rfl ?_
                          refine X_goto hO dX13_foundIn_153 (tgt := 102) rfl ?_
                          exact X_wk (by simp only [lwk, lset, true_or, or_true, and_self]) (ihm (j + 1) (by omega) (by omega) hR)
                        refine X_iload 118 hO dX13_foundIn_116 rfl rfl ?_
                        refine X_if_ne 121 143 hO dX13_foundIn_118 rfl rfl (by unfold bi; split <;> omega) (fun hc_118 => ?_) (fun hc_118 => ?_)
                        ·
                          refine X_iconst 144 hO dX13_foundIn_143 rfl ?_
                          refine X_goto hO dX13_foundIn_144 (tgt := 148) rfl ?_
                          first
                            | exact X_wk (by simp only [lwk, lset, true_or, or_true, and_self]) (JP148 1 (tou_1 hj.1 (fun k => tou_nn) (Or.inl hc_118)))
                            | exact X_wk (by simp only [lwk, lset, true_or, or_true, and_self]) (JP148 1 (tou_1 hj.1 (fun k => tou_nn) (Or.inr (by unfold m_tou bi; rw [if_pos (by omega)]; decide))))
                            | exact X_wk (by simp only [lwk, lset, true_or, or_true, and_self]) (JP148 0 (tou_0 hj.1 (by omega) (by unfold m_tou bi; rw [if_neg (by omega)])))
                        ·
                          refine X_aload_n 122 hO dX13_foundIn_121 rfl rfl ?_
                          refine ga_162 125 hO hR dX13_foundIn_122 rfl ?_
                          refine X_iload 127 hO dX13_foundIn_125 rfl rfl ?_
                          refine ma_ld (L := 8) (c := 244) 128 hO hR rfl rfl rfl dX13_foundIn_127 rfl (by omega) (by omega) (fun hi_127 => ?_)
                          try simp (disch := decide) only [up_k, up_s, mvN_at] at hi_127 ⊢
                          refine X_iload_n 129 hO dX13_foundIn_128 rfl rfl ?_
                          refine X_icmp_gt 132 147 hO dX13_foundIn_129 rfl rfl (by omega) (by omega) (fun hc_129 => ?_) (fun hc_129 => ?_)
                          ·
                            refine X_iconst 148 hO dX13_foundIn_147 rfl ?_
                            first
                              | exact X_wk (by simp only [lwk, lset, true_or, or_true, and_self]) (JP148 1 (tou_1 hj.1 (fun k => tou_nn) (Or.inl hc_118)))
                              | exact X_wk (by simp only [lwk, lset, true_or, or_true, and_self]) (JP148 1 (tou_1 hj.1 (fun k => tou_nn) (Or.inr (by unfold m_tou bi; rw [if_pos (by omega)]; decide))))
                              | exact X_wk (by simp only [lwk, lset, true_or, or_true, and_self]) (JP148 0 (tou_0 hj.1 (by omega) (by unfold m_tou bi; rw [if_neg (by omega)])))
                          ·
                            refine X_aload_n 133 hO dX13_foundIn_132 rfl rfl ?_
                            refine ga_165 136 hO hR dX13_foundIn_133 rfl ?_
                            refine X_iload 138 hO dX13_foundIn_136 rfl rfl ?_
                            refine ma_ld (L := 8) (c := 245) 139 hO hR rfl rfl rfl dX13_foundIn_138 rfl (by omega) (by omega) (fun hi_138 => ?_)
                            try simp (disch := decide) only [up_k, up_s, mvN_at] at hi_138 ⊢
                            refine X_iload_n 140 hO dX13_foundIn_139 rfl rfl ?_
                            refine X_icmp_lt 143 147 hO dX13_foundIn_140 rfl rfl (by omega) (by omega) (fun hc_140 => ?_) (fun hc_140 => ?_)
                            ·
                              refine X_iconst 148 hO dX13_foundIn_147 rfl ?_
                              first
                                | exact X_wk (by simp only [lwk, lset, true_or, or_true, and_self]) (JP148 1 (tou_1 hj.1 (fun k => tou_nn) (Or.inl hc_118)))
                                | exact X_wk (by simp only [lwk, lset, true_or, or_true, and_self]) (JP148 1 (tou_1 hj.1 (fun k => tou_nn) (Or.inr (by unfold m_tou bi; rw [if_pos (by omega)]; decide))))
                                | exact X_wk (by simp only [lwk, lset, true_or, or_true, and_self]) (JP148 0 (tou_0 hj.1 (by omega) (by unfold m_tou bi; rw [if_neg (by omega)])))
                            ·
                              refine X_iconst 144 hO dX13_foundIn_143 rfl ?_
                              refine X_goto hO dX13_foundIn_144 (tgt := 148) rfl ?_
                              first
                                | exact X_wk (by simp only [lwk, lset, true_or, or_true, and_self]) (JP148 1 (tou_1 hj.1 (fun k => tou_nn) (Or.inl hc_118)))
                                | exact X_wk (by simp only [lwk, lset, true_or, or_true, and_self]) (JP148 1 (tou_1 hj.1 (fun k => tou_nn) (Or.inr (by unfold m_tou bi; rw [if_pos (by omega)]; decide))))
                                | exact X_wk (by simp only [lwk, lset, true_or, or_true, and_self]) (JP148 0 (tou_0 hj.1 (by omega) (by unfold m_tou bi; rw [if_neg (by omega)])))
                exact LP102 _ 0 (Nat.lt_succ_self _) (by omega) hR
              refine X_iload 67 hO dX13_foundIn_65 rfl rfl ?_
              refine X_aload_n 68 hO dX13_foundIn_67 rfl rfl ?_
              refine ga_235 71 hO hR dX13_foundIn_68 rfl (fun hi_68 => ?_)
              try simp (disch := decide) only [up_k, up_s, mvN_at] at hi_68 ⊢
              rw [e3]
              refine X_icmp_ge 74 96 hO dX13_foundIn_71 rfl rfl (by omega) (by omega) (fun hc_71 => ?_) (fun hc_71 => ?_)
              ·
                exact X_wk (by simp only [lwk, lset, true_or, or_true, and_self]) (JP96 (by omega))
              ·
                refine X_iload 76 hO dX13_foundIn_74 rfl rfl ?_
                refine X_if_eq 79 96 hO dX13_foundIn_76 rfl rfl (by omega) (fun hc_76 => ?_) (fun hc_76 => ?_)
                ·
                  try simp only [bi_0, bi_ne, ne_eq, Classical.not_not] at hc_76
                  exact X_wk (by simp only [lwk, lset, true_or, or_true, and_self]) (JP96 (by omega))
                ·
                  try simp only [bi_0, bi_ne, ne_eq, Classical.not_not] at hc_76
                  refine X_aload_n 80 hO dX13_foundIn_79 rfl rfl ?_
                  refine X_aload_n 81 hO dX13_foundIn_80 rfl rfl ?_
                  refine ga_96 84 hO hR dX13_foundIn_81 rfl ?_
                  refine X_iload 86 hO dX13_foundIn_84 rfl rfl ?_
                  refine ma_ld (L := 640) (c := 226) 87 hO hR rfl rfl rfl dX13_foundIn_86 rfl (by omega) (by omega) (fun hi_86 => ?_)
                  try simp (disch := decide) only [up_k, up_s, mvN_at] at hi_86 ⊢
                  have e86 : (m_foP μ PL (w 126 μ.1 0) w a (k - a - 1).toNat W1) 226 0 k = m_fan w (w 126 μ.1 0) k := by rw [hfp.1 226 _ _ (by decide) (by decide) (by decide), (hrg k (by omega) (by omega)).2.2]
                  rw [e86]
                  obtain ⟨hk1, hk2, -⟩ := hrg k (by omega) (by omega)
                  have hsw := hWC _ hfp.1 (m_fan w (w 126 μ.1 0) k) _ hk2
                  have e8 := lnR_s (PL := PL) (x := w 126 μ.1 0) (b := w) (n := (k - 1).toNat)
                  rw [show (((k - 1).toNat : Nat) : Int) + 1 = k by omega] at e8
                  have e9 := lnR_mono (PL := PL) (x := w 126 μ.1 0) (b := w) (show (k - 1).toNat + 1 ≤ (m_pln w (w 126 μ.1 0) - 1).toNat by omega)
                  have e10 := lnR_mono (PL := PL) (x := w 126 μ.1 0) (b := w) (show 0 ≤ (k - 1).toNat by omega)
                  refine XM_callVv 90 hO hD hR lX13_420 [_] rfl dX13_foundIn_87 rfl (c_follows _ _ _ _ (PL (m_fan w (w 126 μ.1 0) k)) 150010000 (by omega) hsw.1 (by rw [hfp.2.1]; exact h1371) hfp.2.2 (by rw [hsw.2]; omega)) (by decide) (by simp only [List.map_cons, List.map_nil, rv_cat]; exact Nat.le_of_ble_eq_true rfl) (fun w_87 hp_87 hR => ?_)
                  subst hp_87
                  refine X_iinc 93 hO dX13_foundIn_90 rfl rfl ?_
                  refine X_goto hO dX13_foundIn_93 (tgt := 65) rfl ?_
                  refine X_eqR hR (w2 := m_foP μ PL (w 126 μ.1 0) w a (k + 1 - a - 1).toNat W1) ?_ (fun hR => ih (k + 1) (by omega) (by omega) hR)
                  rw [hsw.2, show (k + 1 - a - 1).toNat = (k - a - 1).toNat + 1 by omega]
                  show _ = m_foL μ (nodeW w (PL (m_fan w (w 126 μ.1 0) (a + 1 + ((k - a - 1).toNat : Int))))) _
                  rw [show a + 1 + ((k - a - 1).toNat : Int) = k by omega]
          exact X_eqR hR (w2 := m_foP μ PL (w 126 μ.1 0) w a (a + 1 - a - 1).toNat W1) (by rw [show (a + 1 - a - 1).toNat = 0 by omega]; rfl) (fun hR => X_wk (by simp only [lwk, lset, true_or, or_true, and_self]) (LP65 _ (a + 1) (Nat.lt_succ_self _) (by omega) hR))
        refine X_if_ne 40 57 hO dX13_foundIn_37 rfl rfl (by omega) (fun hc_37 => ?_) (fun hc_37 => ?_)
        ·
          have hcE : ((0 : Int), up W 138 μ.1 0 0) = (m_can μ PL (w 126 μ.1 0) w a W) := by unfold m_can; rw [if_neg (by omega)]
          refine X_iconst 58 hO dX13_foundIn_57 rfl ?_
          exact JP58 _ _ hcE hR
        ·
          refine X_aload_n 41 hO dX13_foundIn_40 rfl rfl ?_
          refine X_aload_n 42 hO dX13_foundIn_41 rfl rfl ?_
          refine ga_96 45 hO hR dX13_foundIn_42 rfl ?_
          refine X_iload_n 46 hO dX13_foundIn_45 rfl rfl ?_
          refine ma_ld (L := 640) (c := 226) 47 hO hR rfl rfl rfl dX13_foundIn_46 rfl (by omega) (by omega) (fun hi_46 => ?_)
          try simp (disch := decide) only [up_k, up_s, mvN_at] at hi_46 ⊢
          rw [e2] at hi_46 ⊢
          refine XM_callVi 50 hO hD hR lX13_417 [_] rfl dX13_foundIn_47 rfl (c_traced _ _ _ _ (PL (m_fan w (w 126 μ.1 0) a)) 150010000 (by omega) (by rw [up_k _ (by decide)]; exact (hWC W hS _ _ hch).1.cong fun c a i h => up_k _ (by omega) _ _ _ _ _) (hTW.up (Or.inr rfl)) (by rw [nodeW_cong (b := W) (fun c a i h => up_k _ (by omega) _ _ _ _ _), (hWC W hS _ _ hch).2]; omega)) (by decide) (by simp only [List.map_cons, List.map_nil, rv_cat]; exact Nat.le_of_ble_eq_true rfl) (fun r_47 w_47 hr_47 hp_47 hR => ?_)
          obtain ⟨hp1_47, hp2_47⟩ := hp_47
          rw [nodeW_cong (b := W) (fun c a i h => up_k _ (by omega) _ _ _ _ _), (hWC W hS _ _ hch).2] at hp1_47 hp2_47
          refine X_if_eq 53 57 hO dX13_foundIn_50 rfl rfl (by omega) (fun hc_50 => ?_) (fun hc_50 => ?_)
          ·
            try simp only [bi_0, bi_ne, ne_eq, Classical.not_not] at hc_50
            have hcE : ((0 : Int), w_47) = (m_can μ PL (w 126 μ.1 0) w a W) := by unfold m_can; rw [if_pos (by omega)]; exact Prod.ext (hc_50.symm.trans hp1_47) hp2_47
            refine X_iconst 58 hO dX13_foundIn_57 rfl ?_
            exact JP58 _ _ hcE hR
          ·
            try simp only [bi_0, bi_ne, ne_eq, Classical.not_not] at hc_50
            have hcx := (can_ok (μ := μ) (PL := PL) (x := w 126 μ.1 0) (b := w) (i := a) hS h137 hTW hry (by omega)).2.2.2.1
            rw [show (m_can μ PL (w 126 μ.1 0) w a W) = m_trL μ (nodeW w (PL (m_fan w (w 126 μ.1 0) a))) (up (up W 138 μ.1 0 0) 137 μ.1 0 0) from (by unfold m_can; rw [if_pos (by omega)]), ← hp1_47] at hcx
            have hcE : ((1 : Int), w_47) = (m_can μ PL (w 126 μ.1 0) w a W) := by unfold m_can; rw [if_pos (by omega)]; exact Prod.ext ((show (1 : Int) = r_47 by omega).trans hp1_47) hp2_47
            refine X_iconst 54 hO dX13_foundIn_53 rfl ?_
            refine X_goto hO dX13_foundIn_54 (tgt := 58) rfl ?_
            exact JP58 _ _ hcE hR
  exact X_wk (by simp only [lwk, lset, true_or, or_true, and_self]) (LP15 _ (m_pln w (w 126 μ.1 0) - 1) (m_fin μ (w 126 μ.1 0) w) (Nat.lt_succ_self _) (by omega) (fun _ _ _ _ _ _ => rfl) (by rw [fin_at (by decide)]; exact h8) (fun t p q => by rw [fin_at (by decide), fin_at (by decide)]; exact hTr t p q) rfl hR)
