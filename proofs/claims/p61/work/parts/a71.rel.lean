/-! a state taken over from another: what it comes to -/
def SKt (b : Int) (b' : Int) (k : Nat) : Prop := (b' = b ∧ k = 67) ∨ (b + 1 ≤ b' ∧ b' ≤ b + 3 ∧ k = 1) ∨ (b' = b + 4 ∧ k = 3)
section TKS
variable {c c' : Int → Int} {w w' W V V' : Mm} {s o tr b b' e i i' : Int} {T : Int → Int}
theorem tk_st (hs : sSt c b w s) (ho : sSt c b' w o) (hb : b + 4 < b' ∨ b' + 4 < b) (htr : c tr = e ∧ (e < b ∨ b + 4 < e)) (hw : w' = t_tk s o tr 8 (t_tm s o w)) :
    w' 67 s 0 = w 67 o 0 ∧ (∀ j, 0 ≤ j → j < w 67 o 0 → w' 1 (w 28 s 0) j = w 1 (w 28 o 0) j) ∧ (∀ j, 0 ≤ j → j < 6 → w' 1 (w 29 s 0) j = w 1 (w 29 o 0) j ∧ w' 1 (w 30 s 0) j = w 1 (w 30 o 0) j) ∧
    (∀ j, 0 ≤ j → j < 8 → w' 3 (w 31 s 0) j = if w 1 tr (if j < 4 then j else 4) ≠ 0 then w 3 (w 31 o 0) j else w 3 (w 31 s 0) j) ∧ (∀ (k : Nat) (a j : Int), k ≠ 1 → k ≠ 3 → k ≠ 67 → w' k a j = w k a j) ∧ UPd c (SKt b) w w' := by
  obtain ⟨⟨s1, s2⟩, ⟨b1, b2⟩, ⟨c1, c2, c3⟩, ⟨d1, d2, d3⟩, e1, e2, e3⟩ := hs
  obtain ⟨⟨S1, S2⟩, ⟨B1, B2⟩, ⟨C1, C2, C3⟩, ⟨D1, D2, D3⟩, E1, E2, E3⟩ := ho
  have tk1 : ∀ (a j : Int), w' 1 a j = t_tm s o w 1 a j := fun a j => by rw [hw, t_tk_k (by decide)]
  have t31 : ∀ x : Int, t_tm s o w 31 x 0 = w 31 x 0 := fun x => tm_31
  have t3 : ∀ a j : Int, t_tm s o w 3 a j = w 3 a j := fun a j => t_tmj_k (by decide) (by decide)
  have ttr : ∀ j : Int, t_tm s o w 1 tr j = w 1 tr j := fun j => t_tmj_1 (ne_c htr.1 b2 (by omega)) (ne_c htr.1 c3 (by omega)) (ne_c htr.1 d3 (by omega))
  refine ⟨?_, fun j j0 j1 => ?_, fun j j0 j1 => ⟨?_, ?_⟩, fun j j0 j1 => ?_, fun k a j k1 k3 k67 => ?_, ?_⟩
  · rw [hw, t_tk_k (by decide)]
    unfold t_tm t_tmj t_tm1; rw [flA_k (by decide), flA_k (by decide), up_s]
  · rw [tk1]
    unfold t_tm t_tmj t_tm1 cpA
    rw [flA_a (ne_c b2 d3 (by omega)), flA_a (ne_c b2 c3 (by omega)), up_k _ (by decide), flA_v, if_pos (by omega), show j - 0 + 0 = j by omega]
  · rw [tk1]
    unfold t_tm t_tmj
    rw [flA_a (ne_c c3 d3 (by omega)), flA_v, if_pos (by omega)]
  · rw [tk1]
    unfold t_tm t_tmj
    rw [flA_v, if_pos (by omega)]
  · rw [hw]
    unfold t_tk
    rw [ttr, t31, t31, t3, t3]
    by_cases z : w 1 tr (if j < 4 then j else 4) ≠ 0
    · rw [if_pos ⟨rfl, rfl, j0, j1, z⟩, if_pos z]
    · rw [if_neg (fun y => z y.2.2.2.2), if_neg z]
  · rw [hw, t_tk_k k3]; exact t_tmj_k k1 k67
  · have u1 : UPd c (SKt b) w (t_tm s o w) := by
      unfold t_tm t_tmj t_tm1 cpA
      exact (((UPd.refl.sF (by decide) (Or.inr (by unfold SKt; omega))).sU (by decide) (Or.inr (by unfold SKt; omega))).sF (by decide) (Or.inr (by unfold SKt; omega))).sF (by decide) (Or.inr (by unfold SKt; omega))
    rw [hw]
    refine ⟨fun k a j h0 hS => ?_, fun k a j h0 hk => ?_, fun k j hk => ?_⟩
    · rw [← u1.1 k a j h0 hS]
      by_cases z : k = 3
      · by_cases z2 : a = w 31 s 0
        · exact absurd (show SKt b (c a) k by rw [z2, e3, z]; unfold SKt; omega) hS
        · exact t_tk_a (by rw [t31]; exact z2)
      · exact t_tk_k z
    · rw [t_tk_k (by omega)]; exact u1.2.1 k a j h0 hk
    · rw [t_tk_k (by omega)]; exact u1.2.2 k j hk
theorem vSt_tk (hs : sSt c b w s) (ho : sSt c b' w o) (hb : b + 4 < b' ∨ b' + 4 < b) (hb0 : b ≠ 0 ∧ (0 < b ∨ b + 4 < 0)) (htr : c tr = e ∧ (e < b ∨ b + 4 < e)) (hw : w' = t_tk s o tr 8 (t_tm s o w)) (hv : vSt c w o V i) (hsz : w 67 o 0 ≤ w 2 (w 28 s 0) 0 ∧ w 2 (w 28 s 0) 0 ≤ 400) (hT : ∀ j, 0 ≤ j → j < 5 → w 1 tr j = T j ∧ (T j = 0 ∨ T j = 1)) (hU : ∀ r, 0 ≤ r → r < 5 → T r ≠ 1 → vSr c w s V' i' r) :
    vTx w' s V i ∧ ∀ r, 0 ≤ r → r < 5 → (T r = 1 → vSr c w' s V i r) ∧ (T r ≠ 1 → vSr c w' s V' i' r) := by
  obtain ⟨k1, k2, k3, k4, k5, u⟩ := tk_st hs ho hb htr hw
  obtain ⟨v1, v2, v3, v4⟩ := hv.1
  have q28 : w' 28 s 0 = w 28 s 0 := k5 _ _ _ (by decide) (by decide) (by decide)
  have q29 : w' 29 s 0 = w 29 s 0 := k5 _ _ _ (by decide) (by decide) (by decide)
  have q30 : w' 30 s 0 = w 30 s 0 := k5 _ _ _ (by decide) (by decide) (by decide)
  have q31 : w' 31 s 0 = w 31 s 0 := k5 _ _ _ (by decide) (by decide) (by decide)
  refine ⟨⟨by rw [k1]; exact v1, ?_, fun j j0 j1 => ?_, fun j j0 j1 => ?_⟩, fun r r0 r1 => ?_⟩
  · rw [k1, q28, k5 2 _ _ (by decide) (by decide) (by decide)]; omega
  · rw [k1] at j1
    rw [q28, k2 j j0 j1]; exact v3 j j0 j1
  · rw [q29, q30, (k3 j j0 j1).1, (k3 j j0 j1).2]; exact v4 j j0 j1
  · have hj : ∀ e, 0 ≤ e → e < m_slt r → (if r + e < 4 then r + e else 4) = r ∧ (0 ≤ r + e ∧ r + e < 8) := fun e e0 e1 => by
      unfold m_slt at e1
      by_cases z : r = 4
      · rw [if_pos z] at e1; rw [if_neg (by omega)]; omega
      · rw [if_neg z] at e1; rw [if_pos (by omega)]; omega
    have h0 : ∀ k, ¬ SKt b 0 k := fun k z => by unfold SKt at z; omega
    have ht := hT r r0 r1
    refine ⟨fun z => (hv.2 r r0 r1).mv u h0 fun e e0 e1 => ?_, fun z => (hU r r0 r1 z).mv u h0 fun e e0 e1 => ?_⟩
    · obtain ⟨j1, j2⟩ := hj e e0 e1
      rw [q31, k4 _ j2.1 j2.2, j1, if_pos (by omega)]
    · obtain ⟨j1, j2⟩ := hj e e0 e1
      rw [q31, k4 _ j2.1 j2.2, j1, if_neg (by omega)]
end TKS
