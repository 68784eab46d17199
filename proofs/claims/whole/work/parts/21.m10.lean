theorem sumN_su {f : Int → Int} {j : Int} (hj : 0 ≤ j) : sumN f (j + 1).toNat = sumN f j.toNat + f j := (sumN_s hj rfl rfl).symm
def m_chF (node : Int) (w : Mm) (k : Int) : Int := bi (1 ≤ k ∧ w 216 0 k = 1 ∧ w 217 0 k = node)
def m_chl (μ : MU) (node : Int) (w : Mm) : Int := sumN (m_chF node w) (w 124 μ.1 0).toNat
def m_nwst (μ : MU) (node : Int) (w : Mm) : Int := lst (m_chF node w) (w 124 μ.1 0).toNat
def m_bkF (k : Int) (w : Mm) (j : Int) : Int := bi (w 227 0 j = k)
def m_mgF (μ : MU) (w : Mm) (k : Int) : Int := bi (w 216 0 k = 1 ∧ k ≠ w 126 μ.1 0 ∧ m_chl μ k w = 1 ∧ sumN (m_bkF k w) 5 = 0)
def m_mgb (μ : MU) (w : Mm) : Int := fnd (m_mgF μ w) 1 (w 124 μ.1 0 - 1).toNat 1
def m_nxt (μ : MU) (w : Mm) : Int := if w 125 μ.1 0 > w 128 μ.1 0 then m_mgb μ w else -1
def m_flg (a b : Int) : Int := ((I ((I ((I a &&& I b).toInt) &&& I 1).toInt)) ||| I 2).toInt
def m_mrg1 (μ : MU) (x : Int) (w : Mm) : Mm := up (up (up (up (up (up w 223 0 (w 222 0 x) (w 221 0 (m_nwst μ x w))) 221 0 (m_nwst μ x w) (w 221 0 x)) 217 0 (m_nwst μ x w) (w 217 0 x)) 225 0 (m_nwst μ x w) (m_flg (w 225 0 (m_nwst μ x w)) (w 225 0 x))) 216 0 x 0) 125 μ.1 0 (w 125 μ.1 0 - 1)
def m_mrg (μ : MU) : Nat → Int → Mm → Int × Mm
  | 0, c, w => (c, w)
  | n + 1, c, w => if m_nxt μ w = -1 then (c, w) else m_mrg μ n (c + 1) (m_mrg1 μ (m_nxt μ w) w)
def m_mrgs (μ : MU) (w : Mm) : Int × Mm := m_mrg μ 1000 0 w
def m_mk1 (μ : MU) (flag : Int) (w : Mm) : Mm :=
  up (up (up (up (up (up (up (up (up (up (up (up (up (up (up w 216 0 (w 124 μ.1 0) 1) 217 0 (w 124 μ.1 0) (w 126 μ.1 0)) 218 0 (w 124 μ.1 0) (w 122 μ.1 0)) 219 0 (w 124 μ.1 0) (w 123 μ.1 0)) 220 0 (w 124 μ.1 0) (w 120 μ.1 0 - w 122 μ.1 0)) 221 0 (w 124 μ.1 0) (w 124 μ.1 0)) 222 0 (w 124 μ.1 0) (w 124 μ.1 0)) 223 0 (w 124 μ.1 0) (-1)) 224 0 (w 124 μ.1 0) (w 207 0 0)) 225 0 (w 124 μ.1 0) flag) 126 μ.1 0 (w 124 μ.1 0)) 124 μ.1 0 (w 124 μ.1 0 + 1)) 125 μ.1 0 (w 125 μ.1 0 + 1)) 122 μ.1 0 (w 120 μ.1 0)) 123 μ.1 0 (w 121 μ.1 0)
def m_mks (μ : MU) (flag : Int) (w : Mm) : Mm := (m_mrgs μ (m_mk1 μ flag w)).2
def bTn (μ : MU) (M : Int) (w : Mm) : Prop := ∀ k, 0 ≤ k → k < w 124 μ.1 0 → (w 216 0 k = 0 ∨ w 216 0 k = 1) ∧ (-1 ≤ w 217 0 k ∧ w 217 0 k < k) ∧ (1 ≤ k → 0 ≤ w 217 0 k) ∧ (0 ≤ w 225 0 k ∧ w 225 0 k ≤ 3) ∧ (-1 ≤ w 221 0 k ∧ w 221 0 k < w 124 μ.1 0) ∧ (0 ≤ w 222 0 k ∧ w 222 0 k < w 124 μ.1 0) ∧ (-1 ≤ w 223 0 k ∧ w 223 0 k < w 124 μ.1 0) ∧ (0 ≤ w 224 0 k ∧ w 224 0 k ≤ 400) ∧ ((0 ≤ w 218 0 k ∧ w 218 0 k ≤ 30000) ∧ 0 ≤ w 220 0 k ∧ w 220 0 k ≤ 30000 + 8 * M) ∧ (0 ≤ w 219 0 k ∧ w 219 0 k ≤ 524288)
def TB (μ : MU) (M : Int) (w : Mm) : Prop := (1 ≤ w 124 μ.1 0 ∧ w 124 μ.1 0 ≤ M) ∧ (1 ≤ w 125 μ.1 0 ∧ w 125 μ.1 0 ≤ w 124 μ.1 0) ∧ (0 ≤ w 126 μ.1 0 ∧ w 126 μ.1 0 < w 124 μ.1 0) ∧ (2 ≤ w 128 μ.1 0 ∧ w 128 μ.1 0 ≤ 600) ∧ (0 ≤ w 122 μ.1 0 ∧ w 122 μ.1 0 ≤ 30000) ∧ (0 ≤ w 123 μ.1 0 ∧ w 123 μ.1 0 ≤ 524288) ∧ bTn μ M w
theorem nxt_p {μ : MU} {w : Mm} (h : w 125 μ.1 0 > w 128 μ.1 0) : m_mgb μ w = m_nxt μ w := by unfold m_nxt; rw [if_pos h]
theorem nxt_n {μ : MU} {w : Mm} (h : ¬ w 125 μ.1 0 > w 128 μ.1 0) : -1 = m_nxt μ w := by unfold m_nxt; rw [if_neg h]
theorem bi_o {p : Prop} [Decidable p] (h : bi p = 1) : p := by unfold bi at h; split at h; assumption; omega
theorem bi_p {p : Prop} [Decidable p] (h : 0 < bi p) : p := by unfold bi at h; split at h; assumption; omega
theorem bi_n {p : Prop} [Decidable p] : 0 ≤ bi p := by unfold bi; split <;> omega
theorem mrg_facts {μ : MU} {M : Int} {w : Mm} (hT : TB μ M w) (hx : m_nxt μ w ≠ -1) : (1 ≤ m_nxt μ w ∧ m_nxt μ w < w 124 μ.1 0 ∧ w 216 0 (m_nxt μ w) = 1 ∧ m_nxt μ w ≠ w 126 μ.1 0 ∧ w 125 μ.1 0 > w 128 μ.1 0 ∧ m_nxt μ w = m_mgb μ w ∧ m_chl μ (m_nxt μ w) w = 1 ∧ sumN (m_bkF (m_nxt μ w) w) 5 = 0) ∧ (m_nxt μ w < m_nwst μ (m_nxt μ w) w ∧ m_nwst μ (m_nxt μ w) w < w 124 μ.1 0 ∧ w 216 0 (m_nwst μ (m_nxt μ w) w) = 1 ∧ w 217 0 (m_nwst μ (m_nxt μ w) w) = m_nxt μ w) := by
  obtain ⟨t1, t2, t3, t4, t5, t6, t7⟩ := hT
  have e0 : w 125 μ.1 0 > w 128 μ.1 0 := by
    apply Classical.byContradiction; intro h; unfold m_nxt at hx; rw [if_neg h] at hx; exact hx rfl
  have e1 : m_nxt μ w = m_mgb μ w := by unfold m_nxt; rw [if_pos e0]
  rw [e1] at hx ⊢
  have h1 := fnd_spec (m_mgF μ w) 1 (w 124 μ.1 0 - 1).toNat 1
  rw [show fnd (m_mgF μ w) 1 (w 124 μ.1 0 - 1).toNat 1 = m_mgb μ w from rfl] at h1
  rcases h1 with h1 | ⟨h1, h2, h3, h4⟩
  · exact absurd h1.1 hx
  · have h5 := bi_o h3
    have hp : 0 < sumN (m_chF (m_mgb μ w) w) (w 124 μ.1 0).toNat := by have := h5.2.2.1; unfold m_chl at this; omega
    obtain ⟨k, k1, k2, k3⟩ := sumN_pos hp
    have k4 := bi_p k3
    have h6 := lst_spec (m_chF (m_mgb μ w) w) (w 124 μ.1 0).toNat
    rw [show lst (m_chF (m_mgb μ w) w) (w 124 μ.1 0).toNat = m_nwst μ (m_mgb μ w) w from rfl] at h6
    rcases h6 with h6 | ⟨g1, g2, g3, g4⟩
    · exact absurd (bi_t k4).symm (h6.2 k k1 k2)
    · have g5 := bi_o g3
      have g6 := t7 _ g1 (by omega)
      exact ⟨⟨h1, by omega, h5.1, h5.2.1, e0, rfl, h5.2.2.1, h5.2.2.2⟩, by omega, by omega, g5.2.1, g5.2.2⟩
theorem flg_val {a b : Int} (ha : 0 ≤ a ∧ a ≤ 3) (hb : 0 ≤ b ∧ b ≤ 3) : m_flg a b = 2 + (a % 2) * (b % 2) := by
  have h1 : a = 0 ∨ a = 1 ∨ a = 2 ∨ a = 3 := by omega
  have h2 : b = 0 ∨ b = 1 ∨ b = 2 ∨ b = 3 := by omega
  rcases h1 with rfl | rfl | rfl | rfl <;> rcases h2 with rfl | rfl | rfl | rfl <;> decide +kernel
theorem flg_rng {a b : Int} (ha : 0 ≤ a ∧ a ≤ 3) (hb : 0 ≤ b ∧ b ≤ 3) : 0 ≤ m_flg a b ∧ m_flg a b ≤ 3 := by
  have h1 : a = 0 ∨ a = 1 ∨ a = 2 ∨ a = 3 := by omega
  have h2 : b = 0 ∨ b = 1 ∨ b = 2 ∨ b = 3 := by omega
  rcases h1 with rfl | rfl | rfl | rfl <;> rcases h2 with rfl | rfl | rfl | rfl <;> decide +kernel
theorem up_ii {w : Mm} {c : Nat} {a i j v : Int} : up w c a i v c a j = if j = i then v else w c a j := by
  simp only [up, true_and]
theorem TB.mrg1 {μ : MU} {M : Int} {w : Mm} (hT : TB μ M w) (hx : m_nxt μ w ≠ -1) : TB μ M (m_mrg1 μ (m_nxt μ w) w) := by
  obtain ⟨⟨f1, f2, f3, f4, f5, f6, f7, f8⟩, g1, g2, g3, g4⟩ := mrg_facts hT hx
  obtain ⟨t1, t2, t3, t4, t5, t6, t7⟩ := hT
  generalize m_nxt μ w = x at *
  unfold m_mrg1
  generalize m_nwst μ x w = y at *
  have hX := t7 x (by omega) (by omega)
  have hY := t7 y (by omega) (by omega)
  have hfl := flg_rng hY.2.2.2.1 hX.2.2.2.1
  generalize m_flg (w 225 0 y) (w 225 0 x) = fv at *
  refine ⟨?_, ?_, ?_, ?_, ?_, ?_, ?_⟩
  · simp (disch := decide) only [up_k]; exact t1
  · simp (disch := decide) only [up_k, up_s]; omega
  · simp (disch := decide) only [up_k]; exact t3
  · simp (disch := decide) only [up_k]; exact t4
  · simp (disch := decide) only [up_k]; exact t5
  · simp (disch := decide) only [up_k]; exact t6
  · intro k k1 k2
    simp (disch := decide) only [up_k] at k2
    simp (disch := decide) only [up_k, up_ii]
    have hK := t7 k k1 k2
    refine ⟨?_, ?_, ?_, ?_, ?_, hK.2.2.2.2.2.1, ?_, hK.2.2.2.2.2.2.2⟩
    · split
      · exact Or.inl rfl
      · exact hK.1
    · split
      · omega
      · exact hK.2.1
    · split
      · intro _; exact hX.2.2.1 (by omega)
      · exact hK.2.2.1
    · split
      · exact hfl
      · exact hK.2.2.2.1
    · split
      · exact hX.2.2.2.2.1
      · exact hK.2.2.2.2.1
    · split
      · exact hY.2.2.2.2.1
      · exact hK.2.2.2.2.2.2.1
theorem mrg1_alive {μ : MU} {x : Int} {w : Mm} : m_mrg1 μ x w 125 μ.1 0 = w 125 μ.1 0 - 1 := by
  unfold m_mrg1; rw [up_s]
theorem TB.mrg {μ : MU} {M : Int} : ∀ (n : Nat) (c : Int) (w : Mm), TB μ M w → TB μ M (m_mrg μ n c w).2
  | 0, c, w, h => h
  | n + 1, c, w, h => by
    unfold m_mrg
    split
    · exact h
    · next hx => exact TB.mrg n _ _ (h.mrg1 hx)
theorem TB.mk1 {μ : MU} {M f : Int} {w : Mm} (h : TB μ M w) (hf : 0 ≤ f ∧ f ≤ 3) (hs : w 122 μ.1 0 ≤ w 120 μ.1 0 ∧ w 120 μ.1 0 ≤ 30000) (hp : 0 ≤ w 121 μ.1 0 ∧ w 121 μ.1 0 ≤ 524288) (h7 : 0 ≤ w 207 0 0 ∧ w 207 0 0 ≤ 400) : TB μ (M + 1) (m_mk1 μ f w) := by
  obtain ⟨t1, t2, t3, t4, t5, t6, t7⟩ := h
  unfold m_mk1
  refine ⟨?_, ?_, ?_, ?_, ?_, ?_, ?_⟩
  · simp (disch := decide) only [up_k, up_s]; omega
  · simp (disch := decide) only [up_k, up_s]; omega
  · simp (disch := decide) only [up_k, up_s]; omega
  · simp (disch := decide) only [up_k, up_s]; omega
  · simp (disch := decide) only [up_k, up_s]; omega
  · simp (disch := decide) only [up_k, up_s]; omega
  · intro k k1 k2
    simp (disch := decide) only [up_k, up_s] at k2
    simp (disch := decide) only [up_k, up_s, up_ii]
    by_cases c : k = w 124 μ.1 0
    · simp only [if_pos c]; exact ⟨by simp, by omega, fun _ => by omega, by omega, by omega, by omega, by omega, by omega, by omega, by omega⟩
    · simp only [if_neg c]
      have hK := t7 k k1 (by omega)
      omega
theorem dX13_children_0 : decode cX13_children 0 = .ok (.iconst 0, 1) := by decide +kernel
theorem dX13_children_1 : decode cX13_children 1 = .ok (.istore_n 2, 1) := by decide +kernel
theorem dX13_children_2 : decode cX13_children 2 = .ok (.iconst 1, 1) := by decide +kernel
theorem dX13_children_3 : decode cX13_children 3 = .ok (.istore_n 3, 1) := by decide +kernel
theorem dX13_children_4 : decode cX13_children 4 = .ok (.iload_n 3, 1) := by decide +kernel
theorem dX13_children_5 : decode cX13_children 5 = .ok (.aload_n 0, 1) := by decide +kernel
theorem dX13_children_6 : decode cX13_children 6 = .ok (.getfield 59, 3) := by decide +kernel
theorem dX13_children_9 : decode cX13_children 9 = .ok (.if_icmp .ge 37, 3) := by decide +kernel
theorem dX13_children_12 : decode cX13_children 12 = .ok (.iload_n 2, 1) := by decide +kernel
theorem dX13_children_13 : decode cX13_children 13 = .ok (.aload_n 0, 1) := by decide +kernel
theorem dX13_children_14 : decode cX13_children 14 = .ok (.getfield 66, 3) := by decide +kernel
theorem dX13_children_17 : decode cX13_children 17 = .ok (.iload_n 3, 1) := by decide +kernel
theorem dX13_children_18 : decode cX13_children 18 = .ok (.iaload, 1) := by decide +kernel
theorem dX13_children_19 : decode cX13_children 19 = .ok (.iconst 1, 1) := by decide +kernel
theorem dX13_children_20 : decode cX13_children 20 = .ok (.if_icmp .ne 17, 3) := by decide +kernel
theorem dX13_children_23 : decode cX13_children 23 = .ok (.aload_n 0, 1) := by decide +kernel
theorem dX13_children_24 : decode cX13_children 24 = .ok (.getfield 69, 3) := by decide +kernel
theorem dX13_children_27 : decode cX13_children 27 = .ok (.iload_n 3, 1) := by decide +kernel
theorem dX13_children_28 : decode cX13_children 28 = .ok (.iaload, 1) := by decide +kernel
theorem dX13_children_29 : decode cX13_children 29 = .ok (.iload_n 1, 1) := by decide +kernel
theorem dX13_children_30 : decode cX13_children 30 = .ok (.if_icmp .ne 7, 3) := by decide +kernel
theorem dX13_children_33 : decode cX13_children 33 = .ok (.iconst 1, 1) := by decide +kernel
theorem dX13_children_34 : decode cX13_children 34 = .ok (.goto 4, 3) := by decide +kernel
theorem dX13_children_37 : decode cX13_children 37 = .ok (.iconst 0, 1) := by decide +kernel
theorem dX13_children_38 : decode cX13_children 38 = .ok (.iadd, 1) := by decide +kernel
theorem dX13_children_39 : decode cX13_children 39 = .ok (.istore_n 2, 1) := by decide +kernel
theorem dX13_children_40 : decode cX13_children 40 = .ok (.iinc 3 1, 3) := by decide +kernel
theorem dX13_children_43 : decode cX13_children 43 = .ok (.goto (-39), 3) := by decide +kernel
theorem dX13_children_46 : decode cX13_children 46 = .ok (.iload_n 2, 1) := by decide +kernel
theorem dX13_children_47 : decode cX13_children 47 = .ok (.ireturn, 1) := by decide +kernel
set_option maxRecDepth 4000 in
theorem c_children (γ : LC) (μ : MU) (w : Mm) (x M : Int) (hx : IR x) (hT : TB μ M w) (hM : M ≤ 600) : CMi γ μ 0 mX13_children [.int (I x)] w (fun r w' => r = m_chl μ x w ∧ w = w') := by
  refine CMi_of rfl (by simp [rv_cat, Value.category]) rfl ?_
  rintro κ hO hF rfl hR
  have hD := hF.dp
  show X κ 0 0 w 0 [some (rv μ.1), some (.int (I x)), none, none] []
  obtain ⟨t1, t2, t3, t4, t5, t6, t7⟩ := hT
  refine X_iconst 1 hO dX13_children_0 rfl ?_
  refine X_istore_n 2 hO dX13_children_1 rfl rfl ?_
  refine X_iconst 3 hO dX13_children_2 rfl ?_
  refine X_istore_n 4 hO dX13_children_3 rfl rfl ?_
  have LP4 : ∀ (n : Nat) (k s : Int), (w 124 μ.1 0 - k).toNat < n → (1 ≤ k ∧ k ≤ w 124 μ.1 0) → (0 ≤ s ∧ s ≤ k) → (s = sumN (m_chF x w) k.toNat) → RM (w) μ → X κ 0 0 (w) 4 [some (rv μ.1), some (.int (I x)), some (.int (I s)), some (.int (I k))] [] := by
    intro n
    induction n with
    | zero => intro k s hm; exact absurd hm (Nat.not_lt_zero _)
    | succ n ih =>
      intro k s hm hk hs2 hs hR
      refine X_iload_n 5 hO dX13_children_4 rfl rfl ?_
      refine X_aload_n 6 hO dX13_children_5 rfl rfl ?_
      refine ga_59 9 hO hR dX13_children_6 rfl (fun hi_6 => ?_)
      refine X_icmp_ge 12 46 hO dX13_children_9 rfl rfl (by omega) (by omega) (fun hc_9 => ?_) (fun hc_9 => ?_)
      ·
        have e6 : k = w 124 μ.1 0 := by omega
        refine X_iload_n 47 hO dX13_children_46 rfl rfl ?_
        exact XM_iret hO hF hR rfl (by first | exact Or.inl rfl | exact Or.inr ⟨rfl, bi_01 _⟩ | exact Or.inr ⟨rfl, by omega⟩) dX13_children_47 (by omega) ⟨by unfold m_chl; rw [← e6]; exact hs, rfl⟩
      ·
        refine X_iload_n 13 hO dX13_children_12 rfl rfl ?_
        refine X_aload_n 14 hO dX13_children_13 rfl rfl ?_
        refine ga_66 17 hO hR dX13_children_14 rfl ?_
        refine X_iload_n 18 hO dX13_children_17 rfl rfl ?_
        refine ma_ld (L := 640) (c := 216) 19 hO hR rfl rfl rfl dX13_children_18 rfl (by omega) (by omega) (fun hi_18 => ?_)
        refine X_iconst 20 hO dX13_children_19 rfl ?_
        refine X_icmp_ne 23 37 hO dX13_children_20 rfl rfl (by omega) (by omega) (fun hc_20 => ?_) (fun hc_20 => ?_)
        ·
          refine X_iconst 38 hO dX13_children_37 rfl ?_
          refine X_iadd 39 hO dX13_children_38 rfl ?_
          refine X_istore_n 40 hO dX13_children_39 rfl rfl ?_
          refine X_iinc 43 hO dX13_children_40 rfl rfl ?_
          refine X_goto hO dX13_children_43 (tgt := 4) rfl ?_
          exact ih (k + 1) _ (by omega) (by omega) (by omega) (sumN_s (by omega) hs (by unfold m_chF bi; first | rw [if_pos (by omega)] | rw [if_neg (by omega)])) hR
        ·
          refine X_aload_n 24 hO dX13_children_23 rfl rfl ?_
          refine ga_69 27 hO hR dX13_children_24 rfl ?_
          refine X_iload_n 28 hO dX13_children_27 rfl rfl ?_
          refine ma_ld (L := 640) (c := 217) 29 hO hR rfl rfl rfl dX13_children_28 rfl (by omega) (by omega) (fun hi_28 => ?_)
          refine X_iload_n 30 hO dX13_children_29 rfl rfl ?_
          refine X_icmp_ne 33 37 hO dX13_children_30 rfl rfl (by omega) (by omega) (fun hc_30 => ?_) (fun hc_30 => ?_)
          ·
            refine X_iconst 38 hO dX13_children_37 rfl ?_
            refine X_iadd 39 hO dX13_children_38 rfl ?_
            refine X_istore_n 40 hO dX13_children_39 rfl rfl ?_
            refine X_iinc 43 hO dX13_children_40 rfl rfl ?_
            refine X_goto hO dX13_children_43 (tgt := 4) rfl ?_
            exact ih (k + 1) _ (by omega) (by omega) (by omega) (sumN_s (by omega) hs (by unfold m_chF bi; first | rw [if_pos (by omega)] | rw [if_neg (by omega)])) hR
          ·
            refine X_iconst 34 hO dX13_children_33 rfl ?_
            refine X_goto hO dX13_children_34 (tgt := 38) rfl ?_
            refine X_iadd 39 hO dX13_children_38 rfl ?_
            refine X_istore_n 40 hO dX13_children_39 rfl rfl ?_
            refine X_iinc 43 hO dX13_children_40 rfl rfl ?_
            refine X_goto hO dX13_children_43 (tgt := 4) rfl ?_
            exact ih (k + 1) _ (by omega) (by omega) (by omega) (sumN_s (by omega) hs (by unfold m_chF bi; first | rw [if_pos (by omega)] | rw [if_neg (by omega)])) hR
  exact LP4 _ 1 0 (Nat.lt_succ_self _) (by omega) (by omega) (by show 0 = 0 + m_chF x w 0; unfold m_chF bi; rw [if_neg (by omega)]; rfl) hR
theorem dX13_newest_0 : decode cX13_newest 0 = .ok (.iconst (-1), 1) := by decide +kernel
theorem dX13_newest_1 : decode cX13_newest 1 = .ok (.istore_n 2, 1) := by decide +kernel
theorem dX13_newest_2 : decode cX13_newest 2 = .ok (.iconst 1, 1) := by decide +kernel
theorem dX13_newest_3 : decode cX13_newest 3 = .ok (.istore_n 3, 1) := by decide +kernel
theorem dX13_newest_4 : decode cX13_newest 4 = .ok (.iload_n 3, 1) := by decide +kernel
theorem dX13_newest_5 : decode cX13_newest 5 = .ok (.aload_n 0, 1) := by decide +kernel
theorem dX13_newest_6 : decode cX13_newest 6 = .ok (.getfield 59, 3) := by decide +kernel
theorem dX13_newest_9 : decode cX13_newest 9 = .ok (.if_icmp .ge 35, 3) := by decide +kernel
theorem dX13_newest_12 : decode cX13_newest 12 = .ok (.aload_n 0, 1) := by decide +kernel
theorem dX13_newest_13 : decode cX13_newest 13 = .ok (.getfield 66, 3) := by decide +kernel
theorem dX13_newest_16 : decode cX13_newest 16 = .ok (.iload_n 3, 1) := by decide +kernel
theorem dX13_newest_17 : decode cX13_newest 17 = .ok (.iaload, 1) := by decide +kernel
theorem dX13_newest_18 : decode cX13_newest 18 = .ok (.iconst 1, 1) := by decide +kernel
theorem dX13_newest_19 : decode cX13_newest 19 = .ok (.if_icmp .ne 17, 3) := by decide +kernel
theorem dX13_newest_22 : decode cX13_newest 22 = .ok (.aload_n 0, 1) := by decide +kernel
theorem dX13_newest_23 : decode cX13_newest 23 = .ok (.getfield 69, 3) := by decide +kernel
theorem dX13_newest_26 : decode cX13_newest 26 = .ok (.iload_n 3, 1) := by decide +kernel
theorem dX13_newest_27 : decode cX13_newest 27 = .ok (.iaload, 1) := by decide +kernel
theorem dX13_newest_28 : decode cX13_newest 28 = .ok (.iload_n 1, 1) := by decide +kernel
theorem dX13_newest_29 : decode cX13_newest 29 = .ok (.if_icmp .ne 7, 3) := by decide +kernel
theorem dX13_newest_32 : decode cX13_newest 32 = .ok (.iload_n 3, 1) := by decide +kernel
theorem dX13_newest_33 : decode cX13_newest 33 = .ok (.goto 4, 3) := by decide +kernel
theorem dX13_newest_36 : decode cX13_newest 36 = .ok (.iload_n 2, 1) := by decide +kernel
theorem dX13_newest_37 : decode cX13_newest 37 = .ok (.istore_n 2, 1) := by decide +kernel
theorem dX13_newest_38 : decode cX13_newest 38 = .ok (.iinc 3 1, 3) := by decide +kernel
theorem dX13_newest_41 : decode cX13_newest 41 = .ok (.goto (-37), 3) := by decide +kernel
theorem dX13_newest_44 : decode cX13_newest 44 = .ok (.iload_n 2, 1) := by decide +kernel
theorem dX13_newest_45 : decode cX13_newest 45 = .ok (.ireturn, 1) := by decide +kernel
set_option maxRecDepth 4000 in
theorem c_newest (γ : LC) (μ : MU) (w : Mm) (x M : Int) (hx : IR x) (hT : TB μ M w) (hM : M ≤ 600) : CMi γ μ 0 mX13_newest [.int (I x)] w (fun r w' => r = m_nwst μ x w ∧ w = w') := by
  refine CMi_of rfl (by simp [rv_cat, Value.category]) rfl ?_
  rintro κ hO hF rfl hR
  have hD := hF.dp
  show X κ 0 0 w 0 [some (rv μ.1), some (.int (I x)), none, none] []
  obtain ⟨t1, t2, t3, t4, t5, t6, t7⟩ := hT
  refine X_iconst 1 hO dX13_newest_0 rfl ?_
  refine X_istore_n 2 hO dX13_newest_1 rfl rfl ?_
  refine X_iconst 3 hO dX13_newest_2 rfl ?_
  refine X_istore_n 4 hO dX13_newest_3 rfl rfl ?_
  have LP4 : ∀ (n : Nat) (k s : Int), (w 124 μ.1 0 - k).toNat < n → (1 ≤ k ∧ k ≤ w 124 μ.1 0) → (-1 ≤ s ∧ s ≤ k) → (s = lst (m_chF x w) k.toNat) → RM (w) μ → X κ 0 0 (w) 4 [some (rv μ.1), some (.int (I x)), some (.int (I s)), some (.int (I k))] [] := by
    intro n
    induction n with
    | zero => intro k s hm; exact absurd hm (Nat.not_lt_zero _)
    | succ n ih =>
      intro k s hm hk hs2 hs hR
      refine X_iload_n 5 hO dX13_newest_4 rfl rfl ?_
      refine X_aload_n 6 hO dX13_newest_5 rfl rfl ?_
      refine ga_59 9 hO hR dX13_newest_6 rfl (fun hi_6 => ?_)
      refine X_icmp_ge 12 44 hO dX13_newest_9 rfl rfl (by omega) (by omega) (fun hc_9 => ?_) (fun hc_9 => ?_)
      ·
        have e6 : k = w 124 μ.1 0 := by omega
        refine X_iload_n 45 hO dX13_newest_44 rfl rfl ?_
        exact XM_iret hO hF hR rfl (by first | exact Or.inl rfl | exact Or.inr ⟨rfl, bi_01 _⟩ | exact Or.inr ⟨rfl, by omega⟩) dX13_newest_45 (by omega) ⟨by unfold m_nwst; rw [← e6]; exact hs, rfl⟩
      ·
        refine X_aload_n 13 hO dX13_newest_12 rfl rfl ?_
        refine ga_66 16 hO hR dX13_newest_13 rfl ?_
        refine X_iload_n 17 hO dX13_newest_16 rfl rfl ?_
        refine ma_ld (L := 640) (c := 216) 18 hO hR rfl rfl rfl dX13_newest_17 rfl (by omega) (by omega) (fun hi_17 => ?_)
        refine X_iconst 19 hO dX13_newest_18 rfl ?_
        refine X_icmp_ne 22 36 hO dX13_newest_19 rfl rfl (by omega) (by omega) (fun hc_19 => ?_) (fun hc_19 => ?_)
        ·
          refine X_iload_n 37 hO dX13_newest_36 rfl rfl ?_
          refine X_istore_n 38 hO dX13_newest_37 rfl rfl ?_
          refine X_iinc 41 hO dX13_newest_38 rfl rfl ?_
          refine X_goto hO dX13_newest_41 (tgt := 4) rfl ?_
          exact ih (k + 1) _ (by omega) (by omega) (by omega) (lst_s (by omega) hs (by first | exact Or.inl ⟨by unfold m_chF bi; rw [if_pos (by omega)], rfl⟩ | exact Or.inr ⟨by unfold m_chF bi; rw [if_neg (by omega)]; decide, rfl⟩)) hR
        ·
          refine X_aload_n 23 hO dX13_newest_22 rfl rfl ?_
          refine ga_69 26 hO hR dX13_newest_23 rfl ?_
          refine X_iload_n 27 hO dX13_newest_26 rfl rfl ?_
          refine ma_ld (L := 640) (c := 217) 28 hO hR rfl rfl rfl dX13_newest_27 rfl (by omega) (by omega) (fun hi_27 => ?_)
          refine X_iload_n 29 hO dX13_newest_28 rfl rfl ?_
          refine X_icmp_ne 32 36 hO dX13_newest_29 rfl rfl (by omega) (by omega) (fun hc_29 => ?_) (fun hc_29 => ?_)
          ·
            refine X_iload_n 37 hO dX13_newest_36 rfl rfl ?_
            refine X_istore_n 38 hO dX13_newest_37 rfl rfl ?_
            refine X_iinc 41 hO dX13_newest_38 rfl rfl ?_
            refine X_goto hO dX13_newest_41 (tgt := 4) rfl ?_
            exact ih (k + 1) _ (by omega) (by omega) (by omega) (lst_s (by omega) hs (by first | exact Or.inl ⟨by unfold m_chF bi; rw [if_pos (by omega)], rfl⟩ | exact Or.inr ⟨by unfold m_chF bi; rw [if_neg (by omega)]; decide, rfl⟩)) hR
          ·
            refine X_iload_n 33 hO dX13_newest_32 rfl rfl ?_
            refine X_goto hO dX13_newest_33 (tgt := 37) rfl ?_
            refine X_istore_n 38 hO dX13_newest_37 rfl rfl ?_
            refine X_iinc 41 hO dX13_newest_38 rfl rfl ?_
            refine X_goto hO dX13_newest_41 (tgt := 4) rfl ?_
            exact ih (k + 1) _ (by omega) (by omega) (by omega) (lst_s (by omega) hs (by first | exact Or.inl ⟨by unfold m_chF bi; rw [if_pos (by omega)], rfl⟩ | exact Or.inr ⟨by unfold m_chF bi; rw [if_neg (by omega)]; decide, rfl⟩)) hR
  exact LP4 _ 1 (-1) (Nat.lt_succ_self _) (by omega) (by omega) (by show -1 = if m_chF x w 0 = 1 then 0 else -1; unfold m_chF bi; rw [if_neg (by omega)]; try rfl) hR
theorem dX13_mergeable_0 : decode cX13_mergeable 0 = .ok (.iconst 1, 1) := by decide +kernel
theorem dX13_mergeable_1 : decode cX13_mergeable 1 = .ok (.istore_n 1, 1) := by decide +kernel
theorem dX13_mergeable_2 : decode cX13_mergeable 2 = .ok (.iload_n 1, 1) := by decide +kernel
theorem dX13_mergeable_3 : decode cX13_mergeable 3 = .ok (.aload_n 0, 1) := by decide +kernel
theorem dX13_mergeable_4 : decode cX13_mergeable 4 = .ok (.getfield 59, 3) := by decide +kernel
theorem dX13_mergeable_7 : decode cX13_mergeable 7 = .ok (.if_icmp .ge 81, 3) := by decide +kernel
theorem dX13_mergeable_10 : decode cX13_mergeable 10 = .ok (.aload_n 0, 1) := by decide +kernel
theorem dX13_mergeable_11 : decode cX13_mergeable 11 = .ok (.getfield 66, 3) := by decide +kernel
theorem dX13_mergeable_14 : decode cX13_mergeable 14 = .ok (.iload_n 1, 1) := by decide +kernel
theorem dX13_mergeable_15 : decode cX13_mergeable 15 = .ok (.iaload, 1) := by decide +kernel
theorem dX13_mergeable_16 : decode cX13_mergeable 16 = .ok (.iconst 1, 1) := by decide +kernel
theorem dX13_mergeable_17 : decode cX13_mergeable 17 = .ok (.if_icmp .ne 24, 3) := by decide +kernel
theorem dX13_mergeable_20 : decode cX13_mergeable 20 = .ok (.iload_n 1, 1) := by decide +kernel
theorem dX13_mergeable_21 : decode cX13_mergeable 21 = .ok (.aload_n 0, 1) := by decide +kernel
theorem dX13_mergeable_22 : decode cX13_mergeable 22 = .ok (.getfield 258, 3) := by decide +kernel
theorem dX13_mergeable_25 : decode cX13_mergeable 25 = .ok (.if_icmp .eq 16, 3) := by decide +kernel
theorem dX13_mergeable_28 : decode cX13_mergeable 28 = .ok (.aload_n 0, 1) := by decide +kernel
theorem dX13_mergeable_29 : decode cX13_mergeable 29 = .ok (.iload_n 1, 1) := by decide +kernel
theorem dX13_mergeable_30 : decode cX13_mergeable 30 = .ok (.invokevirtual 261, 3) := by decide +kernel
theorem dX13_mergeable_33 : decode cX13_mergeable 33 = .ok (.iconst 1, 1) := by decide +kernel
theorem dX13_mergeable_34 : decode cX13_mergeable 34 = .ok (.if_icmp .ne 7, 3) := by decide +kernel
theorem dX13_mergeable_37 : decode cX13_mergeable 37 = .ok (.iconst 1, 1) := by decide +kernel
theorem dX13_mergeable_38 : decode cX13_mergeable 38 = .ok (.goto 4, 3) := by decide +kernel
theorem dX13_mergeable_41 : decode cX13_mergeable 41 = .ok (.iconst 0, 1) := by decide +kernel
theorem dX13_mergeable_42 : decode cX13_mergeable 42 = .ok (.istore_n 2, 1) := by decide +kernel
theorem dX13_mergeable_43 : decode cX13_mergeable 43 = .ok (.iconst 0, 1) := by decide +kernel
theorem dX13_mergeable_44 : decode cX13_mergeable 44 = .ok (.istore_n 3, 1) := by decide +kernel
theorem dX13_mergeable_45 : decode cX13_mergeable 45 = .ok (.iload_n 3, 1) := by decide +kernel
theorem dX13_mergeable_46 : decode cX13_mergeable 46 = .ok (.iconst 5, 1) := by decide +kernel
theorem dX13_mergeable_47 : decode cX13_mergeable 47 = .ok (.if_icmp .ge 29, 3) := by decide +kernel
theorem dX13_mergeable_50 : decode cX13_mergeable 50 = .ok (.iload_n 2, 1) := by decide +kernel
theorem dX13_mergeable_51 : decode cX13_mergeable 51 = .ok (.ifCond .eq 17, 3) := by decide +kernel
theorem dX13_mergeable_54 : decode cX13_mergeable 54 = .ok (.aload_n 0, 1) := by decide +kernel
theorem dX13_mergeable_55 : decode cX13_mergeable 55 = .ok (.getfield 99, 3) := by decide +kernel
theorem dX13_mergeable_58 : decode cX13_mergeable 58 = .ok (.iload_n 3, 1) := by decide +kernel
theorem dX13_mergeable_59 : decode cX13_mergeable 59 = .ok (.iaload, 1) := by decide +kernel
theorem dX13_mergeable_60 : decode cX13_mergeable 60 = .ok (.iload_n 1, 1) := by decide +kernel
theorem dX13_mergeable_61 : decode cX13_mergeable 61 = .ok (.if_icmp .eq 7, 3) := by decide +kernel
theorem dX13_mergeable_64 : decode cX13_mergeable 64 = .ok (.iconst 1, 1) := by decide +kernel
theorem dX13_mergeable_65 : decode cX13_mergeable 65 = .ok (.goto 4, 3) := by decide +kernel
theorem dX13_mergeable_68 : decode cX13_mergeable 68 = .ok (.iconst 0, 1) := by decide +kernel
theorem dX13_mergeable_69 : decode cX13_mergeable 69 = .ok (.istore_n 2, 1) := by decide +kernel
theorem dX13_mergeable_70 : decode cX13_mergeable 70 = .ok (.iinc 3 1, 3) := by decide +kernel
theorem dX13_mergeable_73 : decode cX13_mergeable 73 = .ok (.goto (-28), 3) := by decide +kernel
theorem dX13_mergeable_76 : decode cX13_mergeable 76 = .ok (.iload_n 2, 1) := by decide +kernel
theorem dX13_mergeable_77 : decode cX13_mergeable 77 = .ok (.ifCond .eq 5, 3) := by decide +kernel
theorem dX13_mergeable_80 : decode cX13_mergeable 80 = .ok (.iload_n 1, 1) := by decide +kernel
theorem dX13_mergeable_81 : decode cX13_mergeable 81 = .ok (.ireturn, 1) := by decide +kernel
theorem dX13_mergeable_82 : decode cX13_mergeable 82 = .ok (.iinc 1 1, 3) := by decide +kernel
theorem dX13_mergeable_85 : decode cX13_mergeable 85 = .ok (.goto (-83), 3) := by decide +kernel
theorem dX13_mergeable_88 : decode cX13_mergeable 88 = .ok (.iconst (-1), 1) := by decide +kernel
theorem dX13_mergeable_89 : decode cX13_mergeable 89 = .ok (.ireturn, 1) := by decide +kernel
set_option maxRecDepth 4000 in
theorem c_mergeable (γ : LC) (μ : MU) (w : Mm) (M : Int) (hT : TB μ M w) (hM : M ≤ 600) : CMi γ μ 1 mX13_mergeable [] w (fun r w' => r = m_mgb μ w ∧ w = w') := by
  refine CMi_of rfl (by simp [rv_cat, Value.category]) rfl ?_
  rintro κ hO hF rfl hR
  have hD := hF.dp
  show X κ 0 0 w 0 [some (rv μ.1), none, none, none] []
  have hT2 := hT
  obtain ⟨t1, t2, t3, t4, t5, t6, t7⟩ := hT
  refine X_iconst 1 hO dX13_mergeable_0 rfl ?_
  refine X_istore_n 2 hO dX13_mergeable_1 rfl rfl ?_
  have LP2 : ∀ (n : Nat) (k : Int), (w 124 μ.1 0 - k).toNat < n → (1 ≤ k ∧ k ≤ w 124 μ.1 0) → (m_mgb μ w = fnd (m_mgF μ w) 1 (w 124 μ.1 0 - k).toNat k) → RM (w) μ → X κ 0 0 (w) 2 [some (rv μ.1), some (.int (I k)), none, none] [] := by
    intro n
    induction n with
    | zero => intro k hm; exact absurd hm (Nat.not_lt_zero _)
    | succ n iho =>
      intro k hm hk hj hR
      refine X_iload_n 3 hO dX13_mergeable_2 rfl rfl ?_
      refine X_aload_n 4 hO dX13_mergeable_3 rfl rfl ?_
      refine ga_59 7 hO hR dX13_mergeable_4 rfl (fun hi_4 => ?_)
      refine X_icmp_ge 10 88 hO dX13_mergeable_7 rfl rfl (by omega) (by omega) (fun hc_7 => ?_) (fun hc_7 => ?_)
      ·
        refine X_iconst 89 hO dX13_mergeable_88 rfl ?_
        exact XM_iret hO hF hR rfl (by first | exact Or.inl rfl | exact Or.inr ⟨rfl, bi_01 _⟩ | exact Or.inr ⟨rfl, by omega⟩) dX13_mergeable_89 (by omega) ⟨by rw [hj, fnd_no (by omega)], rfl⟩
      ·
        have JP42 : ∀ (z : Int), ((z = 1 ∧ (w 216 0 k = 1 ∧ k ≠ w 126 μ.1 0 ∧ m_chl μ k w = 1)) ∨ (z = 0 ∧ ¬ (w 216 0 k = 1 ∧ k ≠ w 126 μ.1 0 ∧ m_chl μ k w = 1))) → X κ 0 0 (w) 42 [some (rv μ.1), some (.int (I k)), none, none] [.int (I z)] := by
          intro z hz
          refine X_istore_n 43 hO dX13_mergeable_42 rfl rfl ?_
          refine X_iconst 44 hO dX13_mergeable_43 rfl ?_
          refine X_istore_n 45 hO dX13_mergeable_44 rfl rfl ?_
          have LP45 : ∀ (n : Nat) (j s : Int), (5 - j).toNat < n → (0 ≤ j ∧ j ≤ 5) → ((s = 1 ∧ (w 216 0 k = 1 ∧ k ≠ w 126 μ.1 0 ∧ m_chl μ k w = 1) ∧ sumN (m_bkF k w) j.toNat = 0) ∨ (s = 0 ∧ ¬ ((w 216 0 k = 1 ∧ k ≠ w 126 μ.1 0 ∧ m_chl μ k w = 1) ∧ sumN (m_bkF k w) j.toNat = 0))) → RM (w) μ → X κ 0 0 (w) 45 [some (rv μ.1), some (.int (I k)), some (.int (I s)), some (.int (I j))] [] := by
            intro n
            induction n with
            | zero => intro j s hm; exact absurd hm (Nat.not_lt_zero _)
            | succ n ih =>
              intro j s hm hj2 hs hR
              have hnn := sumN_nn (f := m_bkF k w) (fun _ => bi_n) j.toNat
              have hsu := sumN_su (f := m_bkF k w) (j := j) (by omega)
              have hb : (w 227 0 j = k ∧ m_bkF k w j = 1) ∨ (w 227 0 j ≠ k ∧ m_bkF k w j = 0) := by
                by_cases hc : w 227 0 j = k
                · exact Or.inl ⟨hc, (bi_t hc).symm⟩
                · exact Or.inr ⟨hc, (bi_f hc).symm⟩
              refine X_iload_n 46 hO dX13_mergeable_45 rfl rfl ?_
              refine X_iconst 47 hO dX13_mergeable_46 rfl ?_
              refine X_icmp_ge 50 76 hO dX13_mergeable_47 rfl rfl (by omega) (by omega) (fun hc_47 => ?_) (fun hc_47 => ?_)
              ·
                have e47 : j = 5 := by omega
                subst e47
                have hs5 : sumN (m_bkF k w) (5 : Int).toNat = sumN (m_bkF k w) 5 := rfl
                refine X_iload_n 77 hO dX13_mergeable_76 rfl rfl ?_
                refine X_if_eq 80 82 hO dX13_mergeable_77 rfl rfl (by omega) (fun hc_77 => ?_) (fun hc_77 => ?_)
                ·
                  refine X_iinc 85 hO dX13_mergeable_82 rfl rfl ?_
                  refine X_goto hO dX13_mergeable_85 (tgt := 2) rfl ?_
                  exact X_wk (by simp only [lwk, lset, true_or, or_true, and_self]) (iho (k + 1) (by omega) (by omega) (hj.trans (fnd_next (by omega) (by unfold m_mgF bi; rw [if_neg (by omega)]; decide))) hR)
                ·
                  refine X_iload_n 81 hO dX13_mergeable_80 rfl rfl ?_
                  exact XM_iret hO hF hR rfl (by first | exact Or.inl rfl | exact Or.inr ⟨rfl, bi_01 _⟩ | exact Or.inr ⟨rfl, by omega⟩) dX13_mergeable_81 (by omega) ⟨by rw [hj, fnd_hit (by omega) (by unfold m_mgF bi; rw [if_pos (by omega)])], rfl⟩
              ·
                refine X_iload_n 51 hO dX13_mergeable_50 rfl rfl ?_
                refine X_if_eq 54 68 hO dX13_mergeable_51 rfl rfl (by omega) (fun hc_51 => ?_) (fun hc_51 => ?_)
                ·
                  refine X_iconst 69 hO dX13_mergeable_68 rfl ?_
                  refine X_istore_n 70 hO dX13_mergeable_69 rfl rfl ?_
                  refine X_iinc 73 hO dX13_mergeable_70 rfl rfl ?_
                  refine X_goto hO dX13_mergeable_73 (tgt := 45) rfl ?_
                  exact ih (j + 1) _ (by omega) (by omega) (by omega) hR
                ·
                  refine X_aload_n 55 hO dX13_mergeable_54 rfl rfl ?_
                  refine ga_99 58 hO hR dX13_mergeable_55 rfl ?_
                  refine X_iload_n 59 hO dX13_mergeable_58 rfl rfl ?_
                  refine ma_ld (L := 5) (c := 227) 60 hO hR rfl rfl rfl dX13_mergeable_59 rfl (by omega) (by omega) (fun hi_59 => ?_)
                  refine X_iload_n 61 hO dX13_mergeable_60 rfl rfl ?_
                  refine X_icmp_eq 64 68 hO dX13_mergeable_61 rfl rfl (by omega) (by omega) (fun hc_61 => ?_) (fun hc_61 => ?_)
                  ·
                    refine X_iconst 69 hO dX13_mergeable_68 rfl ?_
                    refine X_istore_n 70 hO dX13_mergeable_69 rfl rfl ?_
                    refine X_iinc 73 hO dX13_mergeable_70 rfl rfl ?_
                    refine X_goto hO dX13_mergeable_73 (tgt := 45) rfl ?_
                    exact ih (j + 1) _ (by omega) (by omega) (by omega) hR
                  ·
                    refine X_iconst 65 hO dX13_mergeable_64 rfl ?_
                    refine X_goto hO dX13_mergeable_65 (tgt := 69) rfl ?_
                    refine X_istore_n 70 hO dX13_mergeable_69 rfl rfl ?_
                    refine X_iinc 73 hO dX13_mergeable_70 rfl rfl ?_
                    refine X_goto hO dX13_mergeable_73 (tgt := 45) rfl ?_
                    exact ih (j + 1) _ (by omega) (by omega) (by omega) hR
          exact LP45 _ 0 _ (Nat.lt_succ_self _) (by omega) (by have : sumN (m_bkF k w) (0 : Int).toNat = 0 := rfl; omega) hR
        refine X_aload_n 11 hO dX13_mergeable_10 rfl rfl ?_
        refine ga_66 14 hO hR dX13_mergeable_11 rfl ?_
        refine X_iload_n 15 hO dX13_mergeable_14 rfl rfl ?_
        refine ma_ld (L := 640) (c := 216) 16 hO hR rfl rfl rfl dX13_mergeable_15 rfl (by omega) (by omega) (fun hi_15 => ?_)
        refine X_iconst 17 hO dX13_mergeable_16 rfl ?_
        refine X_icmp_ne 20 41 hO dX13_mergeable_17 rfl rfl (by omega) (by omega) (fun hc_17 => ?_) (fun hc_17 => ?_)
        ·
          refine X_iconst 42 hO dX13_mergeable_41 rfl ?_
          exact JP42 _ (by omega)
        ·
          refine X_iload_n 21 hO dX13_mergeable_20 rfl rfl ?_
          refine X_aload_n 22 hO dX13_mergeable_21 rfl rfl ?_
          refine ga_258 25 hO hR dX13_mergeable_22 rfl (fun hi_22 => ?_)
          refine X_icmp_eq 28 41 hO dX13_mergeable_25 rfl rfl (by omega) (by omega) (fun hc_25 => ?_) (fun hc_25 => ?_)
          ·
            refine X_iconst 42 hO dX13_mergeable_41 rfl ?_
            exact JP42 _ (by omega)
          ·
            refine X_aload_n 29 hO dX13_mergeable_28 rfl rfl ?_
            refine X_iload_n 30 hO dX13_mergeable_29 rfl rfl ?_
            refine XM_callVi 33 hO hD hR lX13_261 [_] rfl dX13_mergeable_30 rfl (c_children _ _ _ _ _ (by omega) hT2 hM) (by decide) (by simp only [List.map_cons, List.map_nil, rv_cat]; exact Nat.le_of_ble_eq_true rfl) (fun r_30 w_30 hr_30 hp_30 hR => ?_)
            obtain ⟨e1_30, e2_30⟩ := hp_30
            subst e1_30
            subst e2_30
            refine X_iconst 34 hO dX13_mergeable_33 rfl ?_
            refine X_icmp_ne 37 41 hO dX13_mergeable_34 rfl rfl (by omega) (by omega) (fun hc_34 => ?_) (fun hc_34 => ?_)
            ·
              refine X_iconst 42 hO dX13_mergeable_41 rfl ?_
              exact JP42 _ (by omega)
            ·
              refine X_iconst 38 hO dX13_mergeable_37 rfl ?_
              refine X_goto hO dX13_mergeable_38 (tgt := 42) rfl ?_
              exact JP42 _ (by omega)
  exact LP2 _ 1 (Nat.lt_succ_self _) (by omega) rfl hR
theorem dX13_merges_0 : decode cX13_merges 0 = .ok (.iconst 0, 1) := by decide +kernel
theorem dX13_merges_1 : decode cX13_merges 1 = .ok (.istore_n 1, 1) := by decide +kernel
theorem dX13_merges_2 : decode cX13_merges 2 = .ok (.aload_n 0, 1) := by decide +kernel
theorem dX13_merges_3 : decode cX13_merges 3 = .ok (.getfield 63, 3) := by decide +kernel
theorem dX13_merges_6 : decode cX13_merges 6 = .ok (.aload_n 0, 1) := by decide +kernel
theorem dX13_merges_7 : decode cX13_merges 7 = .ok (.getfield 102, 3) := by decide +kernel
theorem dX13_merges_10 : decode cX13_merges 10 = .ok (.if_icmp .le 10, 3) := by decide +kernel
theorem dX13_merges_13 : decode cX13_merges 13 = .ok (.aload_n 0, 1) := by decide +kernel
theorem dX13_merges_14 : decode cX13_merges 14 = .ok (.invokevirtual 264, 3) := by decide +kernel
theorem dX13_merges_17 : decode cX13_merges 17 = .ok (.goto 4, 3) := by decide +kernel
theorem dX13_merges_20 : decode cX13_merges 20 = .ok (.iconst (-1), 1) := by decide +kernel
theorem dX13_merges_21 : decode cX13_merges 21 = .ok (.istore_n 2, 1) := by decide +kernel
theorem dX13_merges_22 : decode cX13_merges 22 = .ok (.iload_n 2, 1) := by decide +kernel
theorem dX13_merges_23 : decode cX13_merges 23 = .ok (.iconst (-1), 1) := by decide +kernel
theorem dX13_merges_24 : decode cX13_merges 24 = .ok (.if_icmp .eq 116, 3) := by decide +kernel
theorem dX13_merges_27 : decode cX13_merges 27 = .ok (.aload_n 0, 1) := by decide +kernel
theorem dX13_merges_28 : decode cX13_merges 28 = .ok (.iload_n 2, 1) := by decide +kernel
theorem dX13_merges_29 : decode cX13_merges 29 = .ok (.invokevirtual 268, 3) := by decide +kernel
theorem dX13_merges_32 : decode cX13_merges 32 = .ok (.istore_n 3, 1) := by decide +kernel
theorem dX13_merges_33 : decode cX13_merges 33 = .ok (.aload_n 0, 1) := by decide +kernel
theorem dX13_merges_34 : decode cX13_merges 34 = .ok (.getfield 87, 3) := by decide +kernel
theorem dX13_merges_37 : decode cX13_merges 37 = .ok (.aload_n 0, 1) := by decide +kernel
theorem dX13_merges_38 : decode cX13_merges 38 = .ok (.getfield 84, 3) := by decide +kernel
theorem dX13_merges_41 : decode cX13_merges 41 = .ok (.iload_n 2, 1) := by decide +kernel
theorem dX13_merges_42 : decode cX13_merges 42 = .ok (.iaload, 1) := by decide +kernel
theorem dX13_merges_43 : decode cX13_merges 43 = .ok (.aload_n 0, 1) := by decide +kernel
theorem dX13_merges_44 : decode cX13_merges 44 = .ok (.getfield 81, 3) := by decide +kernel
theorem dX13_merges_47 : decode cX13_merges 47 = .ok (.iload_n 3, 1) := by decide +kernel
theorem dX13_merges_48 : decode cX13_merges 48 = .ok (.iaload, 1) := by decide +kernel
theorem dX13_merges_49 : decode cX13_merges 49 = .ok (.iastore, 1) := by decide +kernel
theorem dX13_merges_50 : decode cX13_merges 50 = .ok (.aload_n 0, 1) := by decide +kernel
theorem dX13_merges_51 : decode cX13_merges 51 = .ok (.getfield 81, 3) := by decide +kernel
theorem dX13_merges_54 : decode cX13_merges 54 = .ok (.iload_n 3, 1) := by decide +kernel
theorem dX13_merges_55 : decode cX13_merges 55 = .ok (.aload_n 0, 1) := by decide +kernel
theorem dX13_merges_56 : decode cX13_merges 56 = .ok (.getfield 81, 3) := by decide +kernel
theorem dX13_merges_59 : decode cX13_merges 59 = .ok (.iload_n 2, 1) := by decide +kernel
theorem dX13_merges_60 : decode cX13_merges 60 = .ok (.iaload, 1) := by decide +kernel
theorem dX13_merges_61 : decode cX13_merges 61 = .ok (.iastore, 1) := by decide +kernel
theorem dX13_merges_62 : decode cX13_merges 62 = .ok (.aload_n 0, 1) := by decide +kernel
theorem dX13_merges_63 : decode cX13_merges 63 = .ok (.getfield 69, 3) := by decide +kernel
theorem dX13_merges_66 : decode cX13_merges 66 = .ok (.iload_n 3, 1) := by decide +kernel
theorem dX13_merges_67 : decode cX13_merges 67 = .ok (.aload_n 0, 1) := by decide +kernel
theorem dX13_merges_68 : decode cX13_merges 68 = .ok (.getfield 69, 3) := by decide +kernel
theorem dX13_merges_71 : decode cX13_merges 71 = .ok (.iload_n 2, 1) := by decide +kernel
theorem dX13_merges_72 : decode cX13_merges 72 = .ok (.iaload, 1) := by decide +kernel
theorem dX13_merges_73 : decode cX13_merges 73 = .ok (.iastore, 1) := by decide +kernel
theorem dX13_merges_74 : decode cX13_merges 74 = .ok (.aload_n 0, 1) := by decide +kernel
theorem dX13_merges_75 : decode cX13_merges 75 = .ok (.getfield 93, 3) := by decide +kernel
theorem dX13_merges_78 : decode cX13_merges 78 = .ok (.iload_n 3, 1) := by decide +kernel
theorem dX13_merges_79 : decode cX13_merges 79 = .ok (.aload_n 0, 1) := by decide +kernel
theorem dX13_merges_80 : decode cX13_merges 80 = .ok (.getfield 93, 3) := by decide +kernel
theorem dX13_merges_83 : decode cX13_merges 83 = .ok (.iload_n 3, 1) := by decide +kernel
theorem dX13_merges_84 : decode cX13_merges 84 = .ok (.iaload, 1) := by decide +kernel
theorem dX13_merges_85 : decode cX13_merges 85 = .ok (.aload_n 0, 1) := by decide +kernel
theorem dX13_merges_86 : decode cX13_merges 86 = .ok (.getfield 93, 3) := by decide +kernel
theorem dX13_merges_89 : decode cX13_merges 89 = .ok (.iload_n 2, 1) := by decide +kernel
theorem dX13_merges_90 : decode cX13_merges 90 = .ok (.iaload, 1) := by decide +kernel
theorem dX13_merges_91 : decode cX13_merges 91 = .ok (.iand, 1) := by decide +kernel
theorem dX13_merges_92 : decode cX13_merges 92 = .ok (.iconst 1, 1) := by decide +kernel
theorem dX13_merges_93 : decode cX13_merges 93 = .ok (.iand, 1) := by decide +kernel
theorem dX13_merges_94 : decode cX13_merges 94 = .ok (.iconst 2, 1) := by decide +kernel
theorem dX13_merges_95 : decode cX13_merges 95 = .ok (.ior, 1) := by decide +kernel
theorem dX13_merges_96 : decode cX13_merges 96 = .ok (.iastore, 1) := by decide +kernel
theorem dX13_merges_97 : decode cX13_merges 97 = .ok (.aload_n 0, 1) := by decide +kernel
theorem dX13_merges_98 : decode cX13_merges 98 = .ok (.getfield 66, 3) := by decide +kernel
theorem dX13_merges_101 : decode cX13_merges 101 = .ok (.iload_n 2, 1) := by decide +kernel
theorem dX13_merges_102 : decode cX13_merges 102 = .ok (.iconst 0, 1) := by decide +kernel
theorem dX13_merges_103 : decode cX13_merges 103 = .ok (.iastore, 1) := by decide +kernel
theorem dX13_merges_104 : decode cX13_merges 104 = .ok (.aload_n 0, 1) := by decide +kernel
theorem dX13_merges_105 : decode cX13_merges 105 = .ok (.dup, 1) := by decide +kernel
theorem dX13_merges_106 : decode cX13_merges 106 = .ok (.getfield 63, 3) := by decide +kernel
theorem dX13_merges_109 : decode cX13_merges 109 = .ok (.iconst 1, 1) := by decide +kernel
theorem dX13_merges_110 : decode cX13_merges 110 = .ok (.isub, 1) := by decide +kernel
theorem dX13_merges_111 : decode cX13_merges 111 = .ok (.putfield 63, 3) := by decide +kernel
theorem dX13_merges_114 : decode cX13_merges 114 = .ok (.iinc 1 1, 3) := by decide +kernel
theorem dX13_merges_117 : decode cX13_merges 117 = .ok (.aload_n 0, 1) := by decide +kernel
theorem dX13_merges_118 : decode cX13_merges 118 = .ok (.getfield 63, 3) := by decide +kernel
theorem dX13_merges_121 : decode cX13_merges 121 = .ok (.aload_n 0, 1) := by decide +kernel
theorem dX13_merges_122 : decode cX13_merges 122 = .ok (.getfield 102, 3) := by decide +kernel
theorem dX13_merges_125 : decode cX13_merges 125 = .ok (.if_icmp .le 10, 3) := by decide +kernel
theorem dX13_merges_128 : decode cX13_merges 128 = .ok (.aload_n 0, 1) := by decide +kernel
theorem dX13_merges_129 : decode cX13_merges 129 = .ok (.invokevirtual 264, 3) := by decide +kernel
theorem dX13_merges_132 : decode cX13_merges 132 = .ok (.goto 4, 3) := by decide +kernel
theorem dX13_merges_135 : decode cX13_merges 135 = .ok (.iconst (-1), 1) := by decide +kernel
theorem dX13_merges_136 : decode cX13_merges 136 = .ok (.istore_n 2, 1) := by decide +kernel
theorem dX13_merges_137 : decode cX13_merges 137 = .ok (.goto (-115), 3) := by decide +kernel
theorem dX13_merges_140 : decode cX13_merges 140 = .ok (.iload_n 1, 1) := by decide +kernel
theorem dX13_merges_141 : decode cX13_merges 141 = .ok (.ireturn, 1) := by decide +kernel
set_option maxRecDepth 4000 in
theorem c_merges (γ : LC) (μ : MU) (w : Mm) (M : Int) (hT : TB μ M w) (hM : M ≤ 600) : CMi γ μ 2 mX13_merges [] w (fun r w' => r = (m_mrgs μ w).1 ∧ w' = (m_mrgs μ w).2) := by
  refine CMi_of rfl (by simp [rv_cat, Value.category]) rfl ?_
  rintro κ hO hF rfl hR
  have hD := hF.dp
  show X κ 0 0 w 0 [some (rv μ.1), none, none, none] []
  have hT2 := hT
  obtain ⟨t1, t2, t3, t4, t5, t6, t7⟩ := hT
  refine X_iconst 1 hO dX13_merges_0 rfl ?_
  refine X_istore_n 2 hO dX13_merges_1 rfl rfl ?_
  have JP21 : ∀ (x : Int), (x = m_nxt μ w) → X κ 0 0 (w) 21 [some (rv μ.1), some (.int (I 0)), none, none] [.int (I x)] := by
    intro x hx
    refine X_istore_n 22 hO dX13_merges_21 rfl rfl ?_
    have LP22 : ∀ (n : Nat) (f : Nat) (c : Int) (W : Mm), f < n → (TB μ M W) → (W 125 μ.1 0 ≤ f ∧ f ≤ 1000) → (0 ≤ c ∧ c ≤ 1000 - f) → (m_mrg μ 1000 0 w = m_mrg μ f c W) → RM (W) μ → X κ 0 0 (W) 22 [some (rv μ.1), some (.int (I c)), some (.int (I (m_nxt μ W))), none] [] := by
      intro n
      induction n with
      | zero => intro f c W hm; exact absurd hm (Nat.not_lt_zero _)
      | succ n ih =>
        intro f c W hm hTW hf hc hj hR
        have hTW2 := hTW
        obtain ⟨u1, u2, u3, u4, u5, u6, u7⟩ := hTW2
        have hnr : -1 ≤ m_nxt μ W ∧ m_nxt μ W ≤ 600 := by
          by_cases hx : m_nxt μ W = -1
          · omega
          · have := mrg_facts hTW hx; omega
        refine X_iload_n 23 hO dX13_merges_22 rfl rfl ?_
        refine X_iconst 24 hO dX13_merges_23 rfl ?_
        refine X_icmp_eq 27 140 hO dX13_merges_24 rfl rfl (by omega) (by omega) (fun hc_24 => ?_) (fun hc_24 => ?_)
        ·
          have hj : m_mrg μ 1000 0 w = (c, W) := by
            rw [hj]
            cases f with
            | zero => rfl
            | succ f =>
              show (if m_nxt μ W = -1 then (c, W) else m_mrg μ f (c + 1) (m_mrg1 μ (m_nxt μ W) W)) = _
              rw [if_pos (by omega)]
          refine X_iload_n 141 hO dX13_merges_140 rfl rfl ?_
          exact XM_iret hO hF hR rfl (by first | exact Or.inl rfl | exact Or.inr ⟨rfl, bi_01 _⟩ | exact Or.inr ⟨rfl, by omega⟩) dX13_merges_141 (by omega) ⟨by unfold m_mrgs; rw [hj], by unfold m_mrgs; rw [hj]⟩
        ·
          have hF2 := mrg_facts hTW (by omega)
          obtain ⟨⟨f1, f2, f3, f4, f5, f6, f7, f8⟩, g1, g2, g3, g4⟩ := hF2
          have hTW3 := hTW.mrg1 (by omega)
          have uX := u7 (m_nxt μ W) (by omega) (by omega)
          have uY := u7 (m_nwst μ (m_nxt μ W) W) (by omega) (by omega)
          have hfl := flg_rng uY.2.2.2.1 uX.2.2.2.1
          cases f with
          | zero => exfalso; omega
          | succ f =>
          have hj : m_mrg μ 1000 0 w = m_mrg μ f (c + 1) (m_mrg1 μ (m_nxt μ W) W) := by
            rw [hj]
            show (if m_nxt μ W = -1 then (c, W) else m_mrg μ f (c + 1) (m_mrg1 μ (m_nxt μ W) W)) = _
            rw [if_neg (by omega)]
          refine X_aload_n 28 hO dX13_merges_27 rfl rfl ?_
          refine X_iload_n 29 hO dX13_merges_28 rfl rfl ?_
          refine XM_callVi 32 hO hD hR lX13_268 [_] rfl dX13_merges_29 rfl (c_newest _ _ _ _ _ (by omega) hTW hM) (by decide) (by simp only [List.map_cons, List.map_nil, rv_cat]; exact Nat.le_of_ble_eq_true rfl) (fun r_29 w_29 hr_29 hp_29 hR => ?_)
          obtain ⟨e1_29, e2_29⟩ := hp_29
          subst e1_29
          subst e2_29
          refine X_istore_n 33 hO dX13_merges_32 rfl rfl ?_
          refine X_aload_n 34 hO dX13_merges_33 rfl rfl ?_
          refine ga_87 37 hO hR dX13_merges_34 rfl ?_
          refine X_aload_n 38 hO dX13_merges_37 rfl rfl ?_
          refine ga_84 41 hO hR dX13_merges_38 rfl ?_
          refine X_iload_n 42 hO dX13_merges_41 rfl rfl ?_
          refine ma_ld (L := 640) (c := 222) 43 hO hR rfl rfl rfl dX13_merges_42 rfl (by omega) (by omega) (fun hi_42 => ?_)
          try simp (disch := decide) only [up_k, up_s, step_at, pool_at, poolN_at, opens_at, closes_at, fl_at, del_at, ins_at, rep_at, psh_at, trn_at, tak_at, pEn_at, cpQ_at, cpP_at, cpT_at] at hi_42 ⊢
          refine X_aload_n 44 hO dX13_merges_43 rfl rfl ?_
          refine ga_81 47 hO hR dX13_merges_44 rfl ?_
          refine X_iload_n 48 hO dX13_merges_47 rfl rfl ?_
          refine ma_ld (L := 640) (c := 221) 49 hO hR rfl rfl rfl dX13_merges_48 rfl (by omega) (by omega) (fun hi_48 => ?_)
          try simp (disch := decide) only [up_k, up_s, step_at, pool_at, poolN_at, opens_at, closes_at, fl_at, del_at, ins_at, rep_at, psh_at, trn_at, tak_at, pEn_at, cpQ_at, cpP_at, cpT_at] at hi_48 ⊢
          refine ma_st (L := 640) (c := 223) 50 hO hR rfl rfl rfl dX13_merges_49 rfl (by omega) (by omega) (by omega) (fun hR => ?_)
          refine X_aload_n 51 hO dX13_merges_50 rfl rfl ?_
          refine ga_81 54 hO hR dX13_merges_51 rfl ?_
          refine X_iload_n 55 hO dX13_merges_54 rfl rfl ?_
          refine X_aload_n 56 hO dX13_merges_55 rfl rfl ?_
          refine ga_81 59 hO hR dX13_merges_56 rfl ?_
          refine X_iload_n 60 hO dX13_merges_59 rfl rfl ?_
          refine ma_ld (L := 640) (c := 221) 61 hO hR rfl rfl rfl dX13_merges_60 rfl (by omega) (by omega) (fun hi_60 => ?_)
          try simp (disch := decide) only [up_k, up_s, step_at, pool_at, poolN_at, opens_at, closes_at, fl_at, del_at, ins_at, rep_at, psh_at, trn_at, tak_at, pEn_at, cpQ_at, cpP_at, cpT_at] at hi_60 ⊢
          refine ma_st (L := 640) (c := 221) 62 hO hR rfl rfl rfl dX13_merges_61 rfl (by omega) (by omega) (by omega) (fun hR => ?_)
          refine X_aload_n 63 hO dX13_merges_62 rfl rfl ?_
          refine ga_69 66 hO hR dX13_merges_63 rfl ?_
          refine X_iload_n 67 hO dX13_merges_66 rfl rfl ?_
          refine X_aload_n 68 hO dX13_merges_67 rfl rfl ?_
          refine ga_69 71 hO hR dX13_merges_68 rfl ?_
          refine X_iload_n 72 hO dX13_merges_71 rfl rfl ?_
          refine ma_ld (L := 640) (c := 217) 73 hO hR rfl rfl rfl dX13_merges_72 rfl (by omega) (by omega) (fun hi_72 => ?_)
          try simp (disch := decide) only [up_k, up_s, step_at, pool_at, poolN_at, opens_at, closes_at, fl_at, del_at, ins_at, rep_at, psh_at, trn_at, tak_at, pEn_at, cpQ_at, cpP_at, cpT_at] at hi_72 ⊢
          refine ma_st (L := 640) (c := 217) 74 hO hR rfl rfl rfl dX13_merges_73 rfl (by omega) (by omega) (by omega) (fun hR => ?_)
          refine X_aload_n 75 hO dX13_merges_74 rfl rfl ?_
          refine ga_93 78 hO hR dX13_merges_75 rfl ?_
          refine X_iload_n 79 hO dX13_merges_78 rfl rfl ?_
          refine X_aload_n 80 hO dX13_merges_79 rfl rfl ?_
          refine ga_93 83 hO hR dX13_merges_80 rfl ?_
          refine X_iload_n 84 hO dX13_merges_83 rfl rfl ?_
          refine ma_ld (L := 640) (c := 225) 85 hO hR rfl rfl rfl dX13_merges_84 rfl (by omega) (by omega) (fun hi_84 => ?_)
          try simp (disch := decide) only [up_k, up_s, step_at, pool_at, poolN_at, opens_at, closes_at, fl_at, del_at, ins_at, rep_at, psh_at, trn_at, tak_at, pEn_at, cpQ_at, cpP_at, cpT_at] at hi_84 ⊢
          refine X_aload_n 86 hO dX13_merges_85 rfl rfl ?_
          refine ga_93 89 hO hR dX13_merges_86 rfl ?_
          refine X_iload_n 90 hO dX13_merges_89 rfl rfl ?_
          refine ma_ld (L := 640) (c := 225) 91 hO hR rfl rfl rfl dX13_merges_90 rfl (by omega) (by omega) (fun hi_90 => ?_)
          try simp (disch := decide) only [up_k, up_s, step_at, pool_at, poolN_at, opens_at, closes_at, fl_at, del_at, ins_at, rep_at, psh_at, trn_at, tak_at, pEn_at, cpQ_at, cpP_at, cpT_at] at hi_90 ⊢
          refine X_iand 92 hO dX13_merges_91 rfl ((I_of _).symm) ?_
          refine X_iconst 93 hO dX13_merges_92 rfl ?_
          refine X_iand 94 hO dX13_merges_93 rfl ((I_of _).symm) ?_
          refine X_iconst 95 hO dX13_merges_94 rfl ?_
          refine X_ior 96 hO dX13_merges_95 rfl ((I_of _).symm) ?_
          refine ma_st (L := 640) (c := 225) 97 hO hR rfl rfl rfl dX13_merges_96 rfl (by omega) (by omega) (I_rng _) (fun hR => ?_)
          refine X_aload_n 98 hO dX13_merges_97 rfl rfl ?_
          refine ga_66 101 hO hR dX13_merges_98 rfl ?_
          refine X_iload_n 102 hO dX13_merges_101 rfl rfl ?_
          refine X_iconst 103 hO dX13_merges_102 rfl ?_
          refine ma_st (L := 640) (c := 216) 104 hO hR rfl rfl rfl dX13_merges_103 rfl (by omega) (by omega) (by omega) (fun hR => ?_)
          refine X_aload_n 105 hO dX13_merges_104 rfl rfl ?_
          refine X_dup 106 hO dX13_merges_105 rfl (by first | rfl | exact rv_cat _) ?_
          refine ga_63 109 hO hR dX13_merges_106 rfl (fun hi_106 => ?_)
          try simp (disch := decide) only [up_k, up_s, step_at, pool_at, poolN_at, opens_at, closes_at, fl_at, del_at, ins_at, rep_at, psh_at, trn_at, tak_at, pEn_at, cpQ_at, cpP_at, cpT_at] at hi_106 ⊢
          refine X_iconst 110 hO dX13_merges_109 rfl ?_
          refine X_isub 111 hO dX13_merges_110 rfl ?_
          refine pa_63 114 hO hR dX13_merges_111 rfl (by omega) (fun hR => ?_)
          refine X_eqR hR (w2 := m_mrg1 μ (m_nxt μ W) W) (by unfold m_mrg1; rfl) (fun hR => ?_)
          refine X_iinc 117 hO dX13_merges_114 rfl rfl ?_
          have JP136 : ∀ (y : Int), (y = m_nxt μ (m_mrg1 μ (m_nxt μ W) W)) → X κ 0 0 (m_mrg1 μ (m_nxt μ W) W) 136 [some (rv μ.1), some (.int (I (c + 1))), some (.int (I (m_nxt μ W))), none] [.int (I y)] := by
            intro y hy
            refine X_istore_n 137 hO dX13_merges_136 rfl rfl ?_
            subst hy
            refine X_goto hO dX13_merges_137 (tgt := 22) rfl ?_
            exact X_wk (by simp only [lwk, lset, true_or, or_true, and_self]) (ih f (c + 1) _ (by omega) hTW3 (by rw [mrg1_alive]; omega) (by omega) hj hR)
          refine X_aload_n 118 hO dX13_merges_117 rfl rfl ?_
          refine ga_63 121 hO hR dX13_merges_118 rfl (fun hi_118 => ?_)
          try simp (disch := decide) only [up_k, up_s, step_at, pool_at, poolN_at, opens_at, closes_at, fl_at, del_at, ins_at, rep_at, psh_at, trn_at, tak_at, pEn_at, cpQ_at, cpP_at, cpT_at] at hi_118 ⊢
          refine X_aload_n 122 hO dX13_merges_121 rfl rfl ?_
          refine ga_102 125 hO hR dX13_merges_122 rfl (fun hi_122 => ?_)
          try simp (disch := decide) only [up_k, up_s, step_at, pool_at, poolN_at, opens_at, closes_at, fl_at, del_at, ins_at, rep_at, psh_at, trn_at, tak_at, pEn_at, cpQ_at, cpP_at, cpT_at] at hi_122 ⊢
          refine X_icmp_le 128 135 hO dX13_merges_125 rfl rfl (by omega) (by omega) (fun hc_125 => ?_) (fun hc_125 => ?_)
          ·
            refine X_iconst 136 hO dX13_merges_135 rfl ?_
            exact X_wk (by simp only [lwk, lset, true_or, or_true, and_self]) (JP136 _ (by first | exact nxt_p (by omega) | exact nxt_n (by omega)))
          ·
            refine X_aload_n 129 hO dX13_merges_128 rfl rfl ?_
            refine XM_callVi 132 hO hD hR lX13_264 [] rfl dX13_merges_129 rfl (c_mergeable _ _ _ _ hTW3 hM) (by decide) (by simp only [List.map_cons, List.map_nil, rv_cat]; exact Nat.le_of_ble_eq_true rfl) (fun r_129 w_129 hr_129 hp_129 hR => ?_)
            obtain ⟨e1_129, e2_129⟩ := hp_129
            subst e1_129
            subst e2_129
            refine X_goto hO dX13_merges_132 (tgt := 136) rfl ?_
            exact X_wk (by simp only [lwk, lset, true_or, or_true, and_self]) (JP136 _ (by first | exact nxt_p (by omega) | exact nxt_n (by omega)))
    subst hx
    exact LP22 _ 1000 0 w (Nat.lt_succ_self _) hT2 (by omega) (by omega) rfl hR
  refine X_aload_n 3 hO dX13_merges_2 rfl rfl ?_
  refine ga_63 6 hO hR dX13_merges_3 rfl (fun hi_3 => ?_)
  try simp (disch := decide) only [up_k, up_s, step_at, pool_at, poolN_at, opens_at, closes_at, fl_at, del_at, ins_at, rep_at, psh_at, trn_at, tak_at, pEn_at, cpQ_at, cpP_at, cpT_at] at hi_3 ⊢
  refine X_aload_n 7 hO dX13_merges_6 rfl rfl ?_
  refine ga_102 10 hO hR dX13_merges_7 rfl (fun hi_7 => ?_)
  try simp (disch := decide) only [up_k, up_s, step_at, pool_at, poolN_at, opens_at, closes_at, fl_at, del_at, ins_at, rep_at, psh_at, trn_at, tak_at, pEn_at, cpQ_at, cpP_at, cpT_at] at hi_7 ⊢
  refine X_icmp_le 13 20 hO dX13_merges_10 rfl rfl (by omega) (by omega) (fun hc_10 => ?_) (fun hc_10 => ?_)
  ·
    refine X_iconst 21 hO dX13_merges_20 rfl ?_
    exact JP21 _ (by first | exact nxt_p (by omega) | exact nxt_n (by omega))
  ·
    refine X_aload_n 14 hO dX13_merges_13 rfl rfl ?_
    refine XM_callVi 17 hO hD hR lX13_264 [] rfl dX13_merges_14 rfl (c_mergeable _ _ _ _ hT2 hM) (by decide) (by simp only [List.map_cons, List.map_nil, rv_cat]; exact Nat.le_of_ble_eq_true rfl) (fun r_14 w_14 hr_14 hp_14 hR => ?_)
    obtain ⟨e1_14, e2_14⟩ := hp_14
    subst e1_14
    subst e2_14
    refine X_goto hO dX13_merges_17 (tgt := 21) rfl ?_
    exact JP21 _ (by first | exact nxt_p (by omega) | exact nxt_n (by omega))
theorem dX13_makes_0 : decode cX13_makes 0 = .ok (.aload_n 0, 1) := by decide +kernel
theorem dX13_makes_1 : decode cX13_makes 1 = .ok (.getfield 66, 3) := by decide +kernel
theorem dX13_makes_4 : decode cX13_makes 4 = .ok (.aload_n 0, 1) := by decide +kernel
theorem dX13_makes_5 : decode cX13_makes 5 = .ok (.getfield 59, 3) := by decide +kernel
theorem dX13_makes_8 : decode cX13_makes 8 = .ok (.iconst 1, 1) := by decide +kernel
theorem dX13_makes_9 : decode cX13_makes 9 = .ok (.iastore, 1) := by decide +kernel
theorem dX13_makes_10 : decode cX13_makes 10 = .ok (.aload_n 0, 1) := by decide +kernel
theorem dX13_makes_11 : decode cX13_makes 11 = .ok (.getfield 69, 3) := by decide +kernel
theorem dX13_makes_14 : decode cX13_makes 14 = .ok (.aload_n 0, 1) := by decide +kernel
theorem dX13_makes_15 : decode cX13_makes 15 = .ok (.getfield 59, 3) := by decide +kernel
theorem dX13_makes_18 : decode cX13_makes 18 = .ok (.aload_n 0, 1) := by decide +kernel
theorem dX13_makes_19 : decode cX13_makes 19 = .ok (.getfield 258, 3) := by decide +kernel
theorem dX13_makes_22 : decode cX13_makes 22 = .ok (.iastore, 1) := by decide +kernel
theorem dX13_makes_23 : decode cX13_makes 23 = .ok (.aload_n 0, 1) := by decide +kernel
theorem dX13_makes_24 : decode cX13_makes 24 = .ok (.getfield 72, 3) := by decide +kernel
theorem dX13_makes_27 : decode cX13_makes 27 = .ok (.aload_n 0, 1) := by decide +kernel
theorem dX13_makes_28 : decode cX13_makes 28 = .ok (.getfield 59, 3) := by decide +kernel
theorem dX13_makes_31 : decode cX13_makes 31 = .ok (.aload_n 0, 1) := by decide +kernel
theorem dX13_makes_32 : decode cX13_makes 32 = .ok (.getfield 271, 3) := by decide +kernel
theorem dX13_makes_35 : decode cX13_makes 35 = .ok (.iastore, 1) := by decide +kernel
theorem dX13_makes_36 : decode cX13_makes 36 = .ok (.aload_n 0, 1) := by decide +kernel
theorem dX13_makes_37 : decode cX13_makes 37 = .ok (.getfield 75, 3) := by decide +kernel
theorem dX13_makes_40 : decode cX13_makes 40 = .ok (.aload_n 0, 1) := by decide +kernel
theorem dX13_makes_41 : decode cX13_makes 41 = .ok (.getfield 59, 3) := by decide +kernel
theorem dX13_makes_44 : decode cX13_makes 44 = .ok (.aload_n 0, 1) := by decide +kernel
theorem dX13_makes_45 : decode cX13_makes 45 = .ok (.getfield 274, 3) := by decide +kernel
theorem dX13_makes_48 : decode cX13_makes 48 = .ok (.iastore, 1) := by decide +kernel
theorem dX13_makes_49 : decode cX13_makes 49 = .ok (.aload_n 0, 1) := by decide +kernel
theorem dX13_makes_50 : decode cX13_makes 50 = .ok (.getfield 78, 3) := by decide +kernel
theorem dX13_makes_53 : decode cX13_makes 53 = .ok (.aload_n 0, 1) := by decide +kernel
theorem dX13_makes_54 : decode cX13_makes 54 = .ok (.getfield 59, 3) := by decide +kernel
theorem dX13_makes_57 : decode cX13_makes 57 = .ok (.aload_n 0, 1) := by decide +kernel
theorem dX13_makes_58 : decode cX13_makes 58 = .ok (.getfield 189, 3) := by decide +kernel
theorem dX13_makes_61 : decode cX13_makes 61 = .ok (.aload_n 0, 1) := by decide +kernel
theorem dX13_makes_62 : decode cX13_makes 62 = .ok (.getfield 271, 3) := by decide +kernel
theorem dX13_makes_65 : decode cX13_makes 65 = .ok (.isub, 1) := by decide +kernel
theorem dX13_makes_66 : decode cX13_makes 66 = .ok (.iastore, 1) := by decide +kernel
theorem dX13_makes_67 : decode cX13_makes 67 = .ok (.aload_n 0, 1) := by decide +kernel
theorem dX13_makes_68 : decode cX13_makes 68 = .ok (.getfield 81, 3) := by decide +kernel
theorem dX13_makes_71 : decode cX13_makes 71 = .ok (.aload_n 0, 1) := by decide +kernel
theorem dX13_makes_72 : decode cX13_makes 72 = .ok (.getfield 59, 3) := by decide +kernel
theorem dX13_makes_75 : decode cX13_makes 75 = .ok (.aload_n 0, 1) := by decide +kernel
theorem dX13_makes_76 : decode cX13_makes 76 = .ok (.getfield 59, 3) := by decide +kernel
theorem dX13_makes_79 : decode cX13_makes 79 = .ok (.iastore, 1) := by decide +kernel
theorem dX13_makes_80 : decode cX13_makes 80 = .ok (.aload_n 0, 1) := by decide +kernel
theorem dX13_makes_81 : decode cX13_makes 81 = .ok (.getfield 84, 3) := by decide +kernel
theorem dX13_makes_84 : decode cX13_makes 84 = .ok (.aload_n 0, 1) := by decide +kernel
theorem dX13_makes_85 : decode cX13_makes 85 = .ok (.getfield 59, 3) := by decide +kernel
theorem dX13_makes_88 : decode cX13_makes 88 = .ok (.aload_n 0, 1) := by decide +kernel
theorem dX13_makes_89 : decode cX13_makes 89 = .ok (.getfield 59, 3) := by decide +kernel
theorem dX13_makes_92 : decode cX13_makes 92 = .ok (.iastore, 1) := by decide +kernel
theorem dX13_makes_93 : decode cX13_makes 93 = .ok (.aload_n 0, 1) := by decide +kernel
theorem dX13_makes_94 : decode cX13_makes 94 = .ok (.getfield 87, 3) := by decide +kernel
theorem dX13_makes_97 : decode cX13_makes 97 = .ok (.aload_n 0, 1) := by decide +kernel
theorem dX13_makes_98 : decode cX13_makes 98 = .ok (.getfield 59, 3) := by decide +kernel
theorem dX13_makes_101 : decode cX13_makes 101 = .ok (.iconst (-1), 1) := by decide +kernel
theorem dX13_makes_102 : decode cX13_makes 102 = .ok (.iastore, 1) := by decide +kernel
theorem dX13_makes_103 : decode cX13_makes 103 = .ok (.aload_n 0, 1) := by decide +kernel
theorem dX13_makes_104 : decode cX13_makes 104 = .ok (.getfield 90, 3) := by decide +kernel
theorem dX13_makes_107 : decode cX13_makes 107 = .ok (.aload_n 0, 1) := by decide +kernel
theorem dX13_makes_108 : decode cX13_makes 108 = .ok (.getfield 59, 3) := by decide +kernel
theorem dX13_makes_111 : decode cX13_makes 111 = .ok (.aload_n 0, 1) := by decide +kernel
theorem dX13_makes_112 : decode cX13_makes 112 = .ok (.getfield 31, 3) := by decide +kernel
theorem dX13_makes_115 : decode cX13_makes 115 = .ok (.iconst 0, 1) := by decide +kernel
theorem dX13_makes_116 : decode cX13_makes 116 = .ok (.iaload, 1) := by decide +kernel
theorem dX13_makes_117 : decode cX13_makes 117 = .ok (.iastore, 1) := by decide +kernel
theorem dX13_makes_118 : decode cX13_makes 118 = .ok (.aload_n 0, 1) := by decide +kernel
theorem dX13_makes_119 : decode cX13_makes 119 = .ok (.getfield 93, 3) := by decide +kernel
theorem dX13_makes_122 : decode cX13_makes 122 = .ok (.aload_n 0, 1) := by decide +kernel
theorem dX13_makes_123 : decode cX13_makes 123 = .ok (.getfield 59, 3) := by decide +kernel
theorem dX13_makes_126 : decode cX13_makes 126 = .ok (.iload_n 1, 1) := by decide +kernel
theorem dX13_makes_127 : decode cX13_makes 127 = .ok (.iastore, 1) := by decide +kernel
theorem dX13_makes_128 : decode cX13_makes 128 = .ok (.aload_n 0, 1) := by decide +kernel
theorem dX13_makes_129 : decode cX13_makes 129 = .ok (.aload_n 0, 1) := by decide +kernel
theorem dX13_makes_130 : decode cX13_makes 130 = .ok (.getfield 59, 3) := by decide +kernel
theorem dX13_makes_133 : decode cX13_makes 133 = .ok (.putfield 258, 3) := by decide +kernel
theorem dX13_makes_136 : decode cX13_makes 136 = .ok (.aload_n 0, 1) := by decide +kernel
theorem dX13_makes_137 : decode cX13_makes 137 = .ok (.dup, 1) := by decide +kernel
theorem dX13_makes_138 : decode cX13_makes 138 = .ok (.getfield 59, 3) := by decide +kernel
theorem dX13_makes_141 : decode cX13_makes 141 = .ok (.iconst 1, 1) := by decide +kernel
theorem dX13_makes_142 : decode cX13_makes 142 = .ok (.iadd, 1) := by decide +kernel
theorem dX13_makes_143 : decode cX13_makes 143 = .ok (.putfield 59, 3) := by decide +kernel
theorem dX13_makes_146 : decode cX13_makes 146 = .ok (.aload_n 0, 1) := by decide +kernel
theorem dX13_makes_147 : decode cX13_makes 147 = .ok (.dup, 1) := by decide +kernel
theorem dX13_makes_148 : decode cX13_makes 148 = .ok (.getfield 63, 3) := by decide +kernel
theorem dX13_makes_151 : decode cX13_makes 151 = .ok (.iconst 1, 1) := by decide +kernel
theorem dX13_makes_152 : decode cX13_makes 152 = .ok (.iadd, 1) := by decide +kernel
theorem dX13_makes_153 : decode cX13_makes 153 = .ok (.putfield 63, 3) := by decide +kernel
theorem dX13_makes_156 : decode cX13_makes 156 = .ok (.aload_n 0, 1) := by decide +kernel
theorem dX13_makes_157 : decode cX13_makes 157 = .ok (.aload_n 0, 1) := by decide +kernel
theorem dX13_makes_158 : decode cX13_makes 158 = .ok (.getfield 189, 3) := by decide +kernel
theorem dX13_makes_161 : decode cX13_makes 161 = .ok (.putfield 271, 3) := by decide +kernel
theorem dX13_makes_164 : decode cX13_makes 164 = .ok (.aload_n 0, 1) := by decide +kernel
theorem dX13_makes_165 : decode cX13_makes 165 = .ok (.aload_n 0, 1) := by decide +kernel
theorem dX13_makes_166 : decode cX13_makes 166 = .ok (.getfield 192, 3) := by decide +kernel
theorem dX13_makes_169 : decode cX13_makes 169 = .ok (.putfield 274, 3) := by decide +kernel
theorem dX13_makes_172 : decode cX13_makes 172 = .ok (.aload_n 0, 1) := by decide +kernel
theorem dX13_makes_173 : decode cX13_makes 173 = .ok (.invokevirtual 277, 3) := by decide +kernel
theorem dX13_makes_176 : decode cX13_makes 176 = .ok (.pop, 1) := by decide +kernel
theorem dX13_makes_177 : decode cX13_makes 177 = .ok (.return_, 1) := by decide +kernel
set_option maxRecDepth 4000 in
theorem c_makes (γ : LC) (μ : MU) (w : Mm) (g M : Int) (hg : 0 ≤ g ∧ g ≤ 1) (hT : TB μ M w) (hM : M ≤ 599) (hs : w 122 μ.1 0 ≤ w 120 μ.1 0 ∧ w 120 μ.1 0 ≤ 30000) (hp : 0 ≤ w 121 μ.1 0 ∧ w 121 μ.1 0 ≤ 524288) (h7 : 0 ≤ w 207 0 0 ∧ w 207 0 0 ≤ 400) : CMv γ μ 3 mX13_makes [.int (I g)] w (fun w' => w' = m_mks μ g w) := by
  refine CMv_of rfl (by simp [rv_cat, Value.category]) rfl ?_
  rintro κ hO hF rfl hR
  have hD := hF.dp
  show X κ 0 0 w 0 [some (rv μ.1), some (.int (I g))] []
  have hT2 := hT
  obtain ⟨t1, t2, t3, t4, t5, t6, t7⟩ := hT
  refine X_aload_n 1 hO dX13_makes_0 rfl rfl ?_
  refine ga_66 4 hO hR dX13_makes_1 rfl ?_
  refine X_aload_n 5 hO dX13_makes_4 rfl rfl ?_
  refine ga_59 8 hO hR dX13_makes_5 rfl (fun hi_5 => ?_)
  try simp (disch := decide) only [up_k, up_s, step_at, pool_at, poolN_at, opens_at, closes_at, fl_at, del_at, ins_at, rep_at, psh_at, trn_at, tak_at, pEn_at, cpQ_at, cpP_at, cpT_at] at hi_5 ⊢
  refine X_iconst 9 hO dX13_makes_8 rfl ?_
  refine ma_st (L := 640) (c := 216) 10 hO hR rfl rfl rfl dX13_makes_9 rfl (by omega) (by omega) (by omega) (fun hR => ?_)
  refine X_aload_n 11 hO dX13_makes_10 rfl rfl ?_
  refine ga_69 14 hO hR dX13_makes_11 rfl ?_
  refine X_aload_n 15 hO dX13_makes_14 rfl rfl ?_
  refine ga_59 18 hO hR dX13_makes_15 rfl (fun hi_15 => ?_)
  try simp (disch := decide) only [up_k, up_s, step_at, pool_at, poolN_at, opens_at, closes_at, fl_at, del_at, ins_at, rep_at, psh_at, trn_at, tak_at, pEn_at, cpQ_at, cpP_at, cpT_at] at hi_15 ⊢
  refine X_aload_n 19 hO dX13_makes_18 rfl rfl ?_
  refine ga_258 22 hO hR dX13_makes_19 rfl (fun hi_19 => ?_)
  try simp (disch := decide) only [up_k, up_s, step_at, pool_at, poolN_at, opens_at, closes_at, fl_at, del_at, ins_at, rep_at, psh_at, trn_at, tak_at, pEn_at, cpQ_at, cpP_at, cpT_at] at hi_19 ⊢
  refine ma_st (L := 640) (c := 217) 23 hO hR rfl rfl rfl dX13_makes_22 rfl (by omega) (by omega) (by omega) (fun hR => ?_)
  refine X_aload_n 24 hO dX13_makes_23 rfl rfl ?_
  refine ga_72 27 hO hR dX13_makes_24 rfl ?_
  refine X_aload_n 28 hO dX13_makes_27 rfl rfl ?_
  refine ga_59 31 hO hR dX13_makes_28 rfl (fun hi_28 => ?_)
  try simp (disch := decide) only [up_k, up_s, step_at, pool_at, poolN_at, opens_at, closes_at, fl_at, del_at, ins_at, rep_at, psh_at, trn_at, tak_at, pEn_at, cpQ_at, cpP_at, cpT_at] at hi_28 ⊢
  refine X_aload_n 32 hO dX13_makes_31 rfl rfl ?_
  refine ga_271 35 hO hR dX13_makes_32 rfl (fun hi_32 => ?_)
  try simp (disch := decide) only [up_k, up_s, step_at, pool_at, poolN_at, opens_at, closes_at, fl_at, del_at, ins_at, rep_at, psh_at, trn_at, tak_at, pEn_at, cpQ_at, cpP_at, cpT_at] at hi_32 ⊢
  refine ma_st (L := 640) (c := 218) 36 hO hR rfl rfl rfl dX13_makes_35 rfl (by omega) (by omega) (by omega) (fun hR => ?_)
  refine X_aload_n 37 hO dX13_makes_36 rfl rfl ?_
  refine ga_75 40 hO hR dX13_makes_37 rfl ?_
  refine X_aload_n 41 hO dX13_makes_40 rfl rfl ?_
  refine ga_59 44 hO hR dX13_makes_41 rfl (fun hi_41 => ?_)
  try simp (disch := decide) only [up_k, up_s, step_at, pool_at, poolN_at, opens_at, closes_at, fl_at, del_at, ins_at, rep_at, psh_at, trn_at, tak_at, pEn_at, cpQ_at, cpP_at, cpT_at] at hi_41 ⊢
  refine X_aload_n 45 hO dX13_makes_44 rfl rfl ?_
  refine ga_274 48 hO hR dX13_makes_45 rfl (fun hi_45 => ?_)
  try simp (disch := decide) only [up_k, up_s, step_at, pool_at, poolN_at, opens_at, closes_at, fl_at, del_at, ins_at, rep_at, psh_at, trn_at, tak_at, pEn_at, cpQ_at, cpP_at, cpT_at] at hi_45 ⊢
  refine ma_st (L := 640) (c := 219) 49 hO hR rfl rfl rfl dX13_makes_48 rfl (by omega) (by omega) (by omega) (fun hR => ?_)
  refine X_aload_n 50 hO dX13_makes_49 rfl rfl ?_
  refine ga_78 53 hO hR dX13_makes_50 rfl ?_
  refine X_aload_n 54 hO dX13_makes_53 rfl rfl ?_
  refine ga_59 57 hO hR dX13_makes_54 rfl (fun hi_54 => ?_)
  try simp (disch := decide) only [up_k, up_s, step_at, pool_at, poolN_at, opens_at, closes_at, fl_at, del_at, ins_at, rep_at, psh_at, trn_at, tak_at, pEn_at, cpQ_at, cpP_at, cpT_at] at hi_54 ⊢
  refine X_aload_n 58 hO dX13_makes_57 rfl rfl ?_
  refine ga_189 61 hO hR dX13_makes_58 rfl (fun hi_58 => ?_)
  try simp (disch := decide) only [up_k, up_s, step_at, pool_at, poolN_at, opens_at, closes_at, fl_at, del_at, ins_at, rep_at, psh_at, trn_at, tak_at, pEn_at, cpQ_at, cpP_at, cpT_at] at hi_58 ⊢
  refine X_aload_n 62 hO dX13_makes_61 rfl rfl ?_
  refine ga_271 65 hO hR dX13_makes_62 rfl (fun hi_62 => ?_)
  try simp (disch := decide) only [up_k, up_s, step_at, pool_at, poolN_at, opens_at, closes_at, fl_at, del_at, ins_at, rep_at, psh_at, trn_at, tak_at, pEn_at, cpQ_at, cpP_at, cpT_at] at hi_62 ⊢
  refine X_isub 66 hO dX13_makes_65 rfl ?_
  refine ma_st (L := 640) (c := 220) 67 hO hR rfl rfl rfl dX13_makes_66 rfl (by omega) (by omega) (by omega) (fun hR => ?_)
  refine X_aload_n 68 hO dX13_makes_67 rfl rfl ?_
  refine ga_81 71 hO hR dX13_makes_68 rfl ?_
  refine X_aload_n 72 hO dX13_makes_71 rfl rfl ?_
  refine ga_59 75 hO hR dX13_makes_72 rfl (fun hi_72 => ?_)
  try simp (disch := decide) only [up_k, up_s, step_at, pool_at, poolN_at, opens_at, closes_at, fl_at, del_at, ins_at, rep_at, psh_at, trn_at, tak_at, pEn_at, cpQ_at, cpP_at, cpT_at] at hi_72 ⊢
  refine X_aload_n 76 hO dX13_makes_75 rfl rfl ?_
  refine ga_59 79 hO hR dX13_makes_76 rfl (fun hi_76 => ?_)
  try simp (disch := decide) only [up_k, up_s, step_at, pool_at, poolN_at, opens_at, closes_at, fl_at, del_at, ins_at, rep_at, psh_at, trn_at, tak_at, pEn_at, cpQ_at, cpP_at, cpT_at] at hi_76 ⊢
  refine ma_st (L := 640) (c := 221) 80 hO hR rfl rfl rfl dX13_makes_79 rfl (by omega) (by omega) (by omega) (fun hR => ?_)
  refine X_aload_n 81 hO dX13_makes_80 rfl rfl ?_
  refine ga_84 84 hO hR dX13_makes_81 rfl ?_
  refine X_aload_n 85 hO dX13_makes_84 rfl rfl ?_
  refine ga_59 88 hO hR dX13_makes_85 rfl (fun hi_85 => ?_)
  try simp (disch := decide) only [up_k, up_s, step_at, pool_at, poolN_at, opens_at, closes_at, fl_at, del_at, ins_at, rep_at, psh_at, trn_at, tak_at, pEn_at, cpQ_at, cpP_at, cpT_at] at hi_85 ⊢
  refine X_aload_n 89 hO dX13_makes_88 rfl rfl ?_
  refine ga_59 92 hO hR dX13_makes_89 rfl (fun hi_89 => ?_)
  try simp (disch := decide) only [up_k, up_s, step_at, pool_at, poolN_at, opens_at, closes_at, fl_at, del_at, ins_at, rep_at, psh_at, trn_at, tak_at, pEn_at, cpQ_at, cpP_at, cpT_at] at hi_89 ⊢
  refine ma_st (L := 640) (c := 222) 93 hO hR rfl rfl rfl dX13_makes_92 rfl (by omega) (by omega) (by omega) (fun hR => ?_)
  refine X_aload_n 94 hO dX13_makes_93 rfl rfl ?_
  refine ga_87 97 hO hR dX13_makes_94 rfl ?_
  refine X_aload_n 98 hO dX13_makes_97 rfl rfl ?_
  refine ga_59 101 hO hR dX13_makes_98 rfl (fun hi_98 => ?_)
  try simp (disch := decide) only [up_k, up_s, step_at, pool_at, poolN_at, opens_at, closes_at, fl_at, del_at, ins_at, rep_at, psh_at, trn_at, tak_at, pEn_at, cpQ_at, cpP_at, cpT_at] at hi_98 ⊢
  refine X_iconst 102 hO dX13_makes_101 rfl ?_
  refine ma_st (L := 640) (c := 223) 103 hO hR rfl rfl rfl dX13_makes_102 rfl (by omega) (by omega) (by omega) (fun hR => ?_)
  refine X_aload_n 104 hO dX13_makes_103 rfl rfl ?_
  refine ga_90 107 hO hR dX13_makes_104 rfl ?_
  refine X_aload_n 108 hO dX13_makes_107 rfl rfl ?_
  refine ga_59 111 hO hR dX13_makes_108 rfl (fun hi_108 => ?_)
  try simp (disch := decide) only [up_k, up_s, step_at, pool_at, poolN_at, opens_at, closes_at, fl_at, del_at, ins_at, rep_at, psh_at, trn_at, tak_at, pEn_at, cpQ_at, cpP_at, cpT_at] at hi_108 ⊢
  refine X_aload_n 112 hO dX13_makes_111 rfl rfl ?_
  refine ga_31 115 hO hR dX13_makes_112 rfl ?_
  refine X_iconst 116 hO dX13_makes_115 rfl ?_
  refine ma_ld (L := 4) (c := 207) 117 hO hR rfl rfl rfl dX13_makes_116 rfl (by omega) (by omega) (fun hi_116 => ?_)
  try simp (disch := decide) only [up_k, up_s, step_at, pool_at, poolN_at, opens_at, closes_at, fl_at, del_at, ins_at, rep_at, psh_at, trn_at, tak_at, pEn_at, cpQ_at, cpP_at, cpT_at] at hi_116 ⊢
  refine ma_st (L := 640) (c := 224) 118 hO hR rfl rfl rfl dX13_makes_117 rfl (by omega) (by omega) (by omega) (fun hR => ?_)
  refine X_aload_n 119 hO dX13_makes_118 rfl rfl ?_
  refine ga_93 122 hO hR dX13_makes_119 rfl ?_
  refine X_aload_n 123 hO dX13_makes_122 rfl rfl ?_
  refine ga_59 126 hO hR dX13_makes_123 rfl (fun hi_123 => ?_)
  try simp (disch := decide) only [up_k, up_s, step_at, pool_at, poolN_at, opens_at, closes_at, fl_at, del_at, ins_at, rep_at, psh_at, trn_at, tak_at, pEn_at, cpQ_at, cpP_at, cpT_at] at hi_123 ⊢
  refine X_iload_n 127 hO dX13_makes_126 rfl rfl ?_
  refine ma_st (L := 640) (c := 225) 128 hO hR rfl rfl rfl dX13_makes_127 rfl (by omega) (by omega) (by omega) (fun hR => ?_)
  refine X_aload_n 129 hO dX13_makes_128 rfl rfl ?_
  refine X_aload_n 130 hO dX13_makes_129 rfl rfl ?_
  refine ga_59 133 hO hR dX13_makes_130 rfl (fun hi_130 => ?_)
  try simp (disch := decide) only [up_k, up_s, step_at, pool_at, poolN_at, opens_at, closes_at, fl_at, del_at, ins_at, rep_at, psh_at, trn_at, tak_at, pEn_at, cpQ_at, cpP_at, cpT_at] at hi_130 ⊢
  refine pa_258 136 hO hR dX13_makes_133 rfl (by omega) (fun hR => ?_)
  refine X_aload_n 137 hO dX13_makes_136 rfl rfl ?_
  refine X_dup 138 hO dX13_makes_137 rfl (by first | rfl | exact rv_cat _) ?_
  refine ga_59 141 hO hR dX13_makes_138 rfl (fun hi_138 => ?_)
  try simp (disch := decide) only [up_k, up_s, step_at, pool_at, poolN_at, opens_at, closes_at, fl_at, del_at, ins_at, rep_at, psh_at, trn_at, tak_at, pEn_at, cpQ_at, cpP_at, cpT_at] at hi_138 ⊢
  refine X_iconst 142 hO dX13_makes_141 rfl ?_
  refine X_iadd 143 hO dX13_makes_142 rfl ?_
  refine pa_59 146 hO hR dX13_makes_143 rfl (by omega) (fun hR => ?_)
  refine X_aload_n 147 hO dX13_makes_146 rfl rfl ?_
  refine X_dup 148 hO dX13_makes_147 rfl (by first | rfl | exact rv_cat _) ?_
  refine ga_63 151 hO hR dX13_makes_148 rfl (fun hi_148 => ?_)
  try simp (disch := decide) only [up_k, up_s, step_at, pool_at, poolN_at, opens_at, closes_at, fl_at, del_at, ins_at, rep_at, psh_at, trn_at, tak_at, pEn_at, cpQ_at, cpP_at, cpT_at] at hi_148 ⊢
  refine X_iconst 152 hO dX13_makes_151 rfl ?_
  refine X_iadd 153 hO dX13_makes_152 rfl ?_
  refine pa_63 156 hO hR dX13_makes_153 rfl (by omega) (fun hR => ?_)
  refine X_aload_n 157 hO dX13_makes_156 rfl rfl ?_
  refine X_aload_n 158 hO dX13_makes_157 rfl rfl ?_
  refine ga_189 161 hO hR dX13_makes_158 rfl (fun hi_158 => ?_)
  try simp (disch := decide) only [up_k, up_s, step_at, pool_at, poolN_at, opens_at, closes_at, fl_at, del_at, ins_at, rep_at, psh_at, trn_at, tak_at, pEn_at, cpQ_at, cpP_at, cpT_at] at hi_158 ⊢
  refine pa_271 164 hO hR dX13_makes_161 rfl (by omega) (fun hR => ?_)
  refine X_aload_n 165 hO dX13_makes_164 rfl rfl ?_
  refine X_aload_n 166 hO dX13_makes_165 rfl rfl ?_
  refine ga_192 169 hO hR dX13_makes_166 rfl (fun hi_166 => ?_)
  try simp (disch := decide) only [up_k, up_s, step_at, pool_at, poolN_at, opens_at, closes_at, fl_at, del_at, ins_at, rep_at, psh_at, trn_at, tak_at, pEn_at, cpQ_at, cpP_at, cpT_at] at hi_166 ⊢
  refine pa_274 172 hO hR dX13_makes_169 rfl (by omega) (fun hR => ?_)
  refine X_eqR hR (w2 := m_mk1 μ g w) (by unfold m_mk1; rfl) (fun hR => ?_)
  refine X_aload_n 173 hO dX13_makes_172 rfl rfl ?_
  refine XM_callVi 176 hO hD hR lX13_277 [] rfl dX13_makes_173 rfl (c_merges _ _ _ _ (hT2.mk1 (by omega) hs hp h7) (by omega)) (by decide) (by simp only [List.map_cons, List.map_nil, rv_cat]; exact Nat.le_of_ble_eq_true rfl) (fun r_173 w_173 hr_173 hp_173 hR => ?_)
  obtain ⟨e1_173, e2_173⟩ := hp_173
  subst e1_173
  subst e2_173
  refine X_pop 177 hO dX13_makes_176 rfl (by first | rfl | exact rv_cat _) ?_
  exact XM_vret hO hF hR rfl dX13_makes_177 rfl
