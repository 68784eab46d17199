/-! what the reference's inserting, deleting, replacing leave in state 0 -/
section MEV
variable {μ : MU} {q k j v : Int} {A : Mm}
theorem opn_208 : m_opens 0 q k A 208 0 j = if 0 ≤ j ∧ j < A 210 0 0 then mvF (A 208 0 j) q k 0 else A 208 0 j := by
  unfold m_opens
  rw [fl_at (by decide), fl_v, if_pos rfl, Int.zero_add]
  rw [fl_at (by decide), up_k _ (by decide), fl_at (by decide)]
theorem opn_209 : m_opens 0 q k A 209 0 j = if 0 ≤ j ∧ j < A 210 0 0 then mvF (A 209 0 j) q k 1 else A 209 0 j := by
  unfold m_opens
  rw [fl_v, if_pos rfl, Int.zero_add]
  rw [fl_at (by decide), fl_at (by decide), up_k _ (by decide), fl_at (by decide)]
theorem cls_208 : m_closes 0 q k A 208 0 j = if 0 ≤ j ∧ j < A 210 0 0 then dbF (A 208 0 j) q k else A 208 0 j := by
  unfold m_closes
  rw [fl_at (by decide), fl_v, if_pos rfl, Int.zero_add]
  rw [fl_at (by decide), fl_at (by decide), up_k _ (by decide)]
theorem cls_209 : m_closes 0 q k A 209 0 j = if 0 ≤ j ∧ j < A 210 0 0 then dbF (A 209 0 j) q k else A 209 0 j := by
  unfold m_closes
  rw [fl_v, if_pos rfl, Int.zero_add]
  rw [fl_at (by decide), fl_at (by decide), fl_at (by decide), up_k _ (by decide)]
theorem stp_212 {kd p : Int} : m_step μ kd p v A 212 0 j = if j = A 120 μ.1 0 then kd + 8 * p + 4096 * v else A 212 0 j := by
  unfold m_step
  rw [up_k _ (by decide)]
  by_cases e : j = A 120 μ.1 0
  · rw [if_pos e, e, up_s]
  · rw [if_neg e, up_i _ _ _ _ _ _ e]
theorem stp_120 {kd p : Int} : m_step μ kd p v A 120 μ.1 0 = A 120 μ.1 0 + 1 := by unfold m_step; rw [up_s]
theorem ins_200 : m_ins μ q k A 200 0 j = if q ≤ j ∧ j < q + k then A 240 0 (j - q) else m_opens 0 q k A 200 0 j := by
  unfold m_ins
  rw [poolN_at (by decide), fl_v, step_at (by decide)]
theorem ins_o {c : Nat} {a i : Int} (h : c ≠ 200 ∧ c ≠ 212 ∧ c ≠ 120 ∧ c ≠ 213 ∧ c ≠ 121) : m_ins μ q k A c a i = m_opens 0 q k A c a i := by
  unfold m_ins
  rw [poolN_at (by omega), fl_at (by omega), step_at (by omega)]
theorem ins_212 : m_ins μ q k A 212 0 j = if j = A 120 μ.1 0 then 8 * q + 4096 * k else A 212 0 j := by
  unfold m_ins
  rw [poolN_at (by decide), fl_at (by decide), stp_212, opens_at (by decide), opens_at (by decide), Int.zero_add]
theorem del_o {c : Nat} {a i : Int} (h : c ≠ 212 ∧ c ≠ 120) : m_del μ q k A c a i = m_closes 0 q k A c a i := by
  unfold m_del; rw [step_at h]
theorem del_212 : m_del μ q k A 212 0 j = if j = A 120 μ.1 0 then 1 + 8 * q + 4096 * k else A 212 0 j := by
  unfold m_del; rw [stp_212, closes_at (by decide), closes_at (by decide)]
theorem del_120 : m_del μ q k A 120 μ.1 0 = A 120 μ.1 0 + 1 := by unfold m_del; rw [stp_120, closes_at (by decide)]
theorem rep_200 : m_rep μ q v A 200 0 j = if j = q then v else A 200 0 j := by
  unfold m_rep
  rw [step_at (by decide)]
  by_cases e : j = q
  · rw [if_pos e, e, up_s]
  · rw [if_neg e, up_i _ _ _ _ _ _ e]
theorem rep_212 : m_rep μ q v A 212 0 j = if j = A 120 μ.1 0 then 2 + 8 * q + 4096 * v else A 212 0 j := by
  unfold m_rep; rw [stp_212, up_k _ (by decide), up_k _ (by decide)]
theorem rep_o {c : Nat} {a i : Int} (h : c ≠ 212 ∧ c ≠ 120 ∧ c ≠ 200) : m_rep μ q v A c a i = A c a i := rep_at h
/-- what changes in none of these -/
theorem AgO.of {A' : Mm} (h : ∀ (c : Nat) (a i : Int), (122 ≤ c ∧ c ≤ 133 ∧ c ≠ 127) ∨ c = 211 ∨ (216 ≤ c ∧ c ≤ 225) ∨ (227 ≤ c ∧ c ≤ 232) ∨ (235 ≤ c ∧ c ≤ 236) → A' c a i = A c a i) : AgO μ A A' :=
  ⟨fun c a b d => h c _ _ (by omega), fun c i x => h c _ _ (by omega)⟩
end MEV
section DPJ
variable {d p b x j n g i : Int} {w : Mm}
/-- the addresses that a desk's changes write at are apart -/
def Dap (w : Mm) (d : Int) : Prop :=
  (w 28 (w 11 d 0) 0 ≠ w 29 (w 11 d 0) 0 ∧ w 28 (w 11 d 0) 0 ≠ w 30 (w 11 d 0) 0 ∧ w 29 (w 11 d 0) 0 ≠ w 30 (w 11 d 0) 0) ∧ (w 13 d 0 ≠ w 14 d 0 ∧ w 13 d 0 ≠ w 28 (w 11 d 0) 0 ∧ w 13 d 0 ≠ w 29 (w 11 d 0) 0 ∧ w 13 d 0 ≠ w 30 (w 11 d 0) 0) ∧ (w 14 d 0 ≠ w 28 (w 11 d 0) 0 ∧ w 14 d 0 ≠ w 29 (w 11 d 0) 0 ∧ w 14 d 0 ≠ w 30 (w 11 d 0) 0)
theorem sDk.ap {c : Int → Int} {b : Int} (h : sDk c b w d) : Dap w d := by
  obtain ⟨⟨a1, a2⟩, ⟨⟨s1, s2⟩, ⟨b1, b2⟩, ⟨c1, c2, c3⟩, ⟨d1, d2, d3⟩, e1, e2, e3⟩, h2, ⟨f1, f2⟩, ⟨g1, g2, g3⟩, h3, h4, h5⟩ := h
  have ne : ∀ {u v cu cv : Int}, c u = cu → c v = cv → cu ≠ cv → u ≠ v := fun h1 h2 h3 e => h3 (by rw [← h1, ← h2, e])
  exact ⟨⟨ne b2 c3 (by omega), ne b2 d3 (by omega), ne c3 d3 (by omega)⟩, ⟨ne g3 h5 (by omega), ne g3 b2 (by omega), ne g3 c3 (by omega), ne g3 d3 (by omega)⟩, ne h5 b2 (by omega), ne h5 c3 (by omega), ne h5 d3 (by omega)⟩
theorem pt1_T (hb : b ≠ w 28 (w 11 d 0) 0) : t_pt1 (w 11 d 0) p b w 1 (w 28 (w 11 d 0) 0) i = if p ≤ i ∧ i < p + w 2 b 0 then w 1 b (i - p) else if p + w 2 b 0 ≤ i ∧ i < p + w 2 b 0 + (w 67 (w 11 d 0) 0 - p) then w 1 (w 28 (w 11 d 0) 0) (i - w 2 b 0) else w 1 (w 28 (w 11 d 0) 0) i := by
  unfold t_pt1
  rw [up_k _ (by decide)]
  unfold cpA
  rw [flA_v, flA_v]
  congr 1
  · rw [flA_a hb, Int.add_zero]
  · rw [show i - (p + w 2 b 0) + p = i - w 2 b 0 by omega]
theorem pj_o {a : Int} (hx : a ≠ x) (h1 : a ≠ w 13 d 0) (h2 : a ≠ w 14 d 0) : d_pj d p b x w j 1 a i = t_ptj (w 11 d 0) p b w 6 1 a i := by
  unfold d_pj
  rw [flA_a h2, flA_a h1, up_k _ (by decide), k_step_k hx (by decide) (by decide) (by decide) (by decide) (by decide)]
theorem pj_T (hD : Dap w d) (hx : w 28 (w 11 d 0) 0 ≠ x) (hb : b ≠ w 28 (w 11 d 0) 0) : d_pj d p b x w j 1 (w 28 (w 11 d 0) 0) i = if p ≤ i ∧ i < p + w 2 b 0 then w 1 b (i - p) else if p + w 2 b 0 ≤ i ∧ i < p + w 2 b 0 + (w 67 (w 11 d 0) 0 - p) then w 1 (w 28 (w 11 d 0) 0) (i - w 2 b 0) else w 1 (w 28 (w 11 d 0) 0) i := by
  rw [pj_o hx (Ne.symm hD.2.1.2.1) (Ne.symm hD.2.2.1)]
  unfold t_ptj
  rw [flA_a hD.1.1, pt1_T hb]
theorem pj_P (hD : Dap w d) (hx : w 29 (w 11 d 0) 0 ≠ x) (hi : 0 ≤ i ∧ i < 6) : d_pj d p b x w j 1 (w 29 (w 11 d 0) 0) i = mvF (w 1 (w 29 (w 11 d 0) 0) i) p (w 2 b 0) (w 1 (w 30 (w 11 d 0) 0) i) := by
  rw [pj_o hx (Ne.symm hD.2.1.2.2.1) (Ne.symm hD.2.2.2.1)]
  unfold t_ptj
  rw [flA_v, if_pos (by omega)]
theorem pj_R (hD : Dap w d) (hx : w 30 (w 11 d 0) 0 ≠ x) : d_pj d p b x w j 1 (w 30 (w 11 d 0) 0) i = w 1 (w 30 (w 11 d 0) 0) i := by
  rw [pj_o hx (Ne.symm hD.2.1.2.2.2) (Ne.symm hD.2.2.2.2), t_ptj_1 (Ne.symm hD.1.2.1) (Ne.symm hD.1.2.2)]
theorem pj_S (hD : Dap w d) (hx : w 13 d 0 ≠ x) : d_pj d p b x w j 1 (w 13 d 0) i = if 0 ≤ i ∧ i < j then mvF (w 1 (w 13 d 0) i) p (w 2 b 0) 0 else w 1 (w 13 d 0) i := by
  unfold d_pj
  rw [flA_a hD.2.1.1, flA_v, Int.zero_add, up_k _ (by decide), k_step_k hx (by decide) (by decide) (by decide) (by decide) (by decide), t_ptj_1 hD.2.1.2.1 hD.2.1.2.2.1]
theorem pj_E (hD : Dap w d) (hx : w 14 d 0 ≠ x) : d_pj d p b x w j 1 (w 14 d 0) i = if 0 ≤ i ∧ i < j then mvF (w 1 (w 14 d 0) i) p (w 2 b 0) 1 else w 1 (w 14 d 0) i := by
  unfold d_pj
  rw [flA_v, Int.zero_add, flA_a (Ne.symm hD.2.1.1), up_k _ (by decide), k_step_k hx (by decide) (by decide) (by decide) (by decide) (by decide), t_ptj_1 hD.2.2.1 hD.2.2.2.1]
theorem pj_c {a : Int} (hx : a ≠ x) {c : Nat} (h : c ≠ 1 ∧ c ≠ 67 ∧ c ≠ 61 ∧ c ≠ 33 ∧ c ≠ 34 ∧ c ≠ 35 ∧ c ≠ 71 ∧ c ≠ 72) : d_pj d p b x w j c a i = w c a i := d_pj_k hx h
end DPJ
