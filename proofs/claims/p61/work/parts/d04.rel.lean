/-! p61: groups, recordings, stores, budgets, walks: what the calls answer and what they leave -/
section CLS
variable {μ : MU} {S P M c k s x : Int} {w A B V : Mm} {p : RP} {f : Int}
theorem close_n0 (h : A 132 μ.1 0 = 0) : (o_close μ A).2 139 μ.1 0 = 1 ∧ F7 μ A (o_close μ A).2 := by
  unfold o_close
  rw [if_pos h]
  exact ⟨up_s _ _ _ _ _, F7.o9⟩
theorem close_n1 (hR : RB μ S P M A) (hS : S ≤ 28900) (hP : P ≤ 500000) (h : A 132 μ.1 0 = 1) : (∀ cc : Nat, cc = 133 ∨ cc = 227 → ∀ aa ii : Int, (o_close μ A).2 cc aa ii = A cc aa ii) ∧ (((o_close μ A).2 139 μ.1 0 = 1 ∧ (o_close μ A).2 132 μ.1 0 = 1) ∨ ((o_close μ A).2 139 μ.1 0 = 0 ∧ (o_close μ A).2 132 μ.1 0 = 0 ∧ (o_close μ A).1 = (o_close μ A).2 126 μ.1 0)) := by
  unfold o_close
  rw [if_neg (by omega)]
  obtain ⟨q1, q2, q3⟩ := clW_ok hR
  obtain ⟨x1, x2, x3⟩ := ends_ok (g := 0) q1 q2 q3 (by decide) (by omega) (by omega)
  have e : ∀ cc : Nat, cc = 133 ∨ cc = 227 → ∀ aa ii : Int, (m_ends μ 0 (m_clW μ A)).2 cc aa ii = A cc aa ii := fun cc z aa ii => by
    rw [x3 _ _ _ (by rcases z with rfl | rfl <;> decide)]
    unfold m_clW; rw [up_k _ (by omega), saves_at (by omega), up_k _ (by omega)]
  have e9 : (m_ends μ 0 (m_clW μ A)).2 139 μ.1 0 = 0 := by
    rw [x3 _ _ _ (by decide)]
    unfold m_clW; rw [up_k _ (by decide), saves_at (by decide), up_s, h]; rfl
  have e2 : (m_ends μ 0 (m_clW μ A)).2 132 μ.1 0 = 0 := by
    rw [x3 _ _ _ (by decide)]
    unfold m_clW; rw [up_s]
  unfold m_cl1
  split
  · refine ⟨fun cc z aa ii => ?_, Or.inl ⟨up_s _ _ _ _ _, ?_⟩⟩
    · dsimp only; rw [up_k _ (by omega), up_k _ (by omega)]; exact e cc z aa ii
    · dsimp only; rw [up_k _ (by decide), up_s]
  · refine ⟨fun cc z aa ii => ?_, Or.inr ⟨?_, ?_, ?_⟩⟩
    · dsimp only; rw [up_k _ (by omega)]; exact e cc z aa ii
    · dsimp only; rw [up_k _ (by decide)]; exact e9
    · dsimp only; rw [up_k _ (by decide)]; exact e2
    · dsimp only; rw [up_k _ (by decide)]
theorem open_0 (h : A 132 μ.1 0 = 0) : o_open μ A 139 μ.1 0 = 0 ∧ o_open μ A 132 μ.1 0 = 1 ∧ ∀ cc : Nat, cc = 133 ∨ cc = 227 → ∀ aa ii : Int, o_open μ A cc aa ii = A cc aa ii := by
  unfold o_open m_th
  refine ⟨?_, ?_, fun cc z aa ii => ?_⟩
  · rw [up_k _ (by decide), up_k _ (by decide), up_s]; exact h
  · rw [up_k _ (by decide), up_s]
  · rw [up_k _ (by omega)]
    by_cases y : cc = 132
    · omega
    · rw [up_k _ y, up_k _ (by omega)]
theorem record_0 (hc : 0 ≤ c ∧ c ≤ 3) (h : A 133 μ.1 0 = -1) : o_record μ c A 139 μ.1 0 = 0 ∧ o_record μ c A 133 μ.1 0 = c ∧ ∀ cc : Nat, cc = 132 ∨ cc = 227 → ∀ aa ii : Int, o_record μ c A cc aa ii = A cc aa ii := by
  unfold o_record m_th
  rw [if_pos hc, if_neg (fun y => y h)]
  refine ⟨?_, ?_, fun cc z aa ii => ?_⟩
  · rw [up_k _ (by decide), up_k _ (by decide), up_k _ (by decide), up_s]
  · rw [up_k _ (by decide), up_k _ (by decide), up_s]
  · rw [up_k _ (by omega), up_k _ (by omega), up_k _ (by omega), up_k _ (by omega)]
theorem stop_0 (hR : RB μ S P M A) (h : A 133 μ.1 0 ≠ -1) : (o_stop μ A).2 139 μ.1 0 = 0 ∧ (o_stop μ A).2 133 μ.1 0 = -1 ∧ (o_stop μ A).1 ≤ 16 ∧ ∀ cc : Nat, cc = 132 ∨ cc = 227 → ∀ aa ii : Int, (o_stop μ A).2 cc aa ii = A cc aa ii := by
  unfold o_stop
  rw [if_neg h]
  have hm := (hR.2.1.2.2.2.2.2.2 4 (by decide) (by decide)).1.2
  refine ⟨?_, ?_, ?_, fun cc z aa ii => ?_⟩
  · show up (up (m_stW μ (A 133 μ.1 0) (m_th μ 0 A)) 133 μ.1 0 (-1)) 129 μ.1 0 (-1) 139 μ.1 0 = 0
    unfold m_stW
    rw [up_k _ (by decide), up_k _ (by decide), up_k _ (by decide), fl_at (by decide)]
    exact up_s _ _ _ _ _
  · show up (up (m_stW μ (A 133 μ.1 0) (m_th μ 0 A)) 133 μ.1 0 (-1)) 129 μ.1 0 (-1) 133 μ.1 0 = -1
    rw [up_k _ (by decide), up_s]
  · show m_th μ 0 A 236 0 4 ≤ 16
    unfold m_th; rw [up_k _ (by decide)]; exact hm
  · show up (up (m_stW μ (A 133 μ.1 0) (m_th μ 0 A)) 133 μ.1 0 (-1)) 129 μ.1 0 (-1) cc aa ii = A cc aa ii
    rw [up_k _ (by omega), up_k _ (by omega)]
    unfold m_stW
    rw [up_k _ (by omega), fl_at (by omega)]
    exact up_k _ (by omega) _ _ _ _ _
theorem listen_0 {a b d : Int} (hc : 0 ≤ c ∧ c ≤ 2) (ha : isC a ∧ isC b ∧ (0 ≤ d ∧ d ≤ 9) ∧ a ≠ b) : o_listen μ c a b d A 139 μ.1 0 = 0 ∧ F7 μ A (o_listen μ c a b d A) := by
  refine ⟨?_, F7_listen⟩
  unfold o_listen m_th
  rw [if_pos hc, if_pos ha, up_k _ (by decide), up_k _ (by decide), up_k _ (by decide), up_k _ (by decide), up_k _ (by decide), up_s]
theorem pass_0 (hc : 1 ≤ c ∧ c ≤ 100) : o_pass μ c A 139 μ.1 0 = 0 := by
  unfold o_pass m_th
  rw [if_pos hc, up_k _ (by decide), up_s]
theorem mrg_c : ∀ (n : Nat) (d : Int) (W : Mm), d ≤ (m_mrg μ n d W).1
  | 0, d, W => Int.le_refl _
  | n + 1, d, W => by
    unfold m_mrg
    split
    · exact Int.le_refl _
    · have := mrg_c n (d + 1) (m_mrg1 μ (m_nxt μ W) W)
      omega
theorem budget_0 (hc : 2 ≤ c ∧ c ≤ 600) : (o_setBudget μ c A).2 139 μ.1 0 = 0 ∧ 0 ≤ (o_setBudget μ c A).1 := by
  unfold o_setBudget m_mrgs
  rw [if_pos hc]
  refine ⟨?_, mrg_c _ _ _⟩
  rw [mrg_o (by decide), up_k _ (by decide), up_k _ (by decide)]
  exact up_s _ _ _ _ _
/-- no listener is active: nothing is refused -/
def NLs (w : Mm) : Prop := ∀ j, 0 ≤ j → j < 3 → w 228 0 j = 0
theorem ff_nls (h : NLs w) : m_ff w = -1 := by
  have o : ∀ q, m_ord q w = -1 := fun q => by
    unfold m_ord
    rcases fnd_spec (m_orF q w) 1 3 0 with ⟨z, -⟩ | ⟨z1, z2, z3, -⟩
    · exact z
    · exfalso
      have z4 := bi_1.mp z3
      have := h _ z1 (by omega)
      omega
  unfold m_ff
  rw [ffb_eq, o, o, o]; simp
theorem ntf_nls (hp : bPo w) (h : NLs w) : (m_ntf μ w).1 = 1 := by
  obtain ⟨g, -, e, -⟩ := ntf_ok (μ := μ) hp
  rw [e]
  show (m_nice μ 8 1 w).1 = 1
  unfold m_nice
  rw [if_pos (ff_nls h)]
theorem track_0 (hR : RB μ S P M A) (hS : S ≤ 28900) (hP : P ≤ 500000) (hs : 0 ≤ s ∧ s ≤ 4) (h1 : A 211 0 s ≠ 1) (h : NLs A) : o_track μ s A 139 μ.1 0 = 0 ∧ NLs (o_track μ s A) ∧ ∀ i, i ≠ s → o_track μ s A 211 0 i = A 211 0 i := by
  unfold o_track
  rw [if_pos hs, if_neg h1]
  obtain ⟨q0, q1, q2, q3⟩ := trW_ok hs hR
  have q2' := q2.mono (S' := S + 1) (P' := P + 85) (by omega) (by omega)
  obtain ⟨x1, x2, x3⟩ := ends_ok (g := 0) q1 q2' q3 (by decide) (by omega) (by omega)
  have t : ∀ {cc : Nat} {aa ii : Int}, (cc = 228 ∨ cc = 132) → m_trW μ s A cc aa ii = A cc aa ii := fun z => by
    unfold m_trW; rw [tells_at (by omega), up_k _ (by omega), saves_at (by omega), th_at (by omega)]
  have t1 : ∀ i, i ≠ s → m_trW μ s A 211 0 i = A 211 0 i := fun i z => by
    unfold m_trW; rw [tells_at (by decide), up_i _ _ _ _ _ _ z, saves_at (by decide), th_at (by decide)]
  have t9 : m_trW μ s A 139 μ.1 0 = 0 := by
    unfold m_trW; rw [tells_at (by decide), up_k _ (by decide), saves_at (by decide)]; exact up_s _ _ _ _ _
  have hn : NLs (m_trW μ s A) := fun j j0 j1 => by rw [t (Or.inl rfl)]; exact h j j0 j1
  have ho : (m_ends μ 0 (m_trW μ s A)).1 = 1 := by
    unfold m_ends
    split
    · rfl
    · unfold m_en2
      rw [if_neg (by rw [ntf_nls q2'.2.2.2.2.1 hn]; decide)]
  unfold m_tr1
  rw [if_neg (by omega)]
  refine ⟨?_, fun j j0 j1 => ?_, fun i z => ?_⟩
  · rw [up_k _ (by decide), x3 _ _ _ (by decide)]; exact t9
  · rw [up_k _ (by decide), x3 _ _ _ (by decide)]; exact hn j j0 j1
  · rw [up_k _ (by decide), x3 _ _ _ (by decide)]; exact t1 i z
end CLS
/-! walks: the tree stays, the distance is the same both ways -/
section WLK
variable {μ : MU} {S P M c k s x v : Int} {w A B V : Mm} {p : RP} {f : Int}
def TRs (μ : MU) (A V : Mm) : Prop := (∀ i, V 216 0 i = A 216 0 i) ∧ (∀ i, V 217 0 i = A 217 0 i) ∧ V 124 μ.1 0 = A 124 μ.1 0
theorem wks_tr (h : CHB p μ f (lvL p μ A) w A) (hR : RB μ S P M A) (hM : M ≤ 598) (ha : alv μ A k) : TRs μ A (m_wks μ (pl_ p) k (up A 139 μ.1 0 v)) ∧ m_wks μ (pl_ p) k (up A 139 μ.1 0 v) 126 μ.1 0 = k ∧ m_wks μ (pl_ p) k (up A 139 μ.1 0 v) 139 μ.1 0 = v := by
  have e : ∀ {cc : Nat} {y i : Int}, (cc < 200 ∨ 210 < cc) ∧ cc ≠ 240 ∧ cc ≠ 127 ∧ cc ≠ 226 ∧ cc ≠ 126 ∧ cc ≠ 129 → m_wks μ (pl_ p) k (up A 139 μ.1 0 v) cc y i = (up A 139 μ.1 0 v) cc y i := fun z => wks_at hR.o9.2.1.2.2.1 hR.o9.1.2.2.1 (h.rpk hR hM ha) z
  refine ⟨⟨fun i => ?_, fun i => ?_, ?_⟩, ?_, ?_⟩
  · rw [e (by decide), up_k _ (by decide)]
  · rw [e (by decide), up_k _ (by decide)]
  · rw [e (by decide), up_k _ (by decide)]
  · unfold m_wks; rw [up_k _ (by decide), up_s]
  · rw [e (by decide), up_s]
theorem TRs.n (h : TRs μ A V) : isN μ k V ↔ isN μ k A := by unfold isN; rw [h.1, h.2.2]
theorem undo_0 (h : CHB p μ f (lvL p μ A) w A) (hR : RB μ S P M A) (hM : M ≤ 598) (h9 : (o_undo μ (pl_ p) A).2 139 μ.1 0 = 0) : (o_undo μ (pl_ p) A).1 = (o_undo μ (pl_ p) A).2 126 μ.1 0 ∧ isN μ (A 126 μ.1 0) (o_undo μ (pl_ p) A).2 ∧ (o_undo μ (pl_ p) A).2 217 0 (A 126 μ.1 0) = (o_undo μ (pl_ p) A).1 := by
  revert h9
  unfold o_undo
  split
  · intro z
    have z' : up A 139 μ.1 0 1 139 μ.1 0 = 0 := z
    rw [up_s] at z'; exact absurd z' (by decide)
  · next z =>
    intro _
    have hT := hR.2.1.2.2.2.1
    have hc : alv μ A (A 126 μ.1 0) := ⟨hT.2.2.1, h.2.1.1.1.1.2.1⟩
    obtain ⟨w1, w2, w3⟩ := wks_tr (v := 0) h hR hM (hT.par h.2.1.1.1.1 hc (fun y => z (Or.inr y))).1
    dsimp only
    exact ⟨w2.symm, w1.n.mpr (now_n h hR), w1.2.1 _⟩
theorem redo_0 (h : CHB p μ f (lvL p μ A) w A) (hR : RB μ S P M A) (hM : M ≤ 598) (h9 : (o_redo μ (pl_ p) A).2 139 μ.1 0 = 0) : (o_redo μ (pl_ p) A).1 = (o_redo μ (pl_ p) A).2 126 μ.1 0 ∧ isN μ (o_redo μ (pl_ p) A).1 (o_redo μ (pl_ p) A).2 ∧ isN μ (A 126 μ.1 0) (o_redo μ (pl_ p) A).2 ∧ (o_redo μ (pl_ p) A).2 217 0 (o_redo μ (pl_ p) A).1 = A 126 μ.1 0 := by
  revert h9
  unfold o_redo
  split
  · intro z
    have z' : up A 139 μ.1 0 1 139 μ.1 0 = 0 := z
    rw [up_s] at z'; exact absurd z' (by decide)
  · next z =>
    intro _
    have hw := (nwst_rng (μ := μ) (x := A 126 μ.1 0) hR.2.1.2.2.2.1.1.1).resolve_left (fun y => z (Or.inr y))
    obtain ⟨w1, w2, w3⟩ := wks_tr (v := 0) h hR hM (k := m_nwst μ (A 126 μ.1 0) A) ⟨⟨by omega, hw.2.1⟩, hw.2.2.1⟩
    dsimp only
    refine ⟨w2.symm, w1.n.mpr ⟨⟨by omega, by omega⟩, hw.2.2.1⟩, w1.n.mpr (now_n h hR), ?_⟩
    exact (w1.2.1 _).trans hw.2.2.2
theorem walk_0 (h : CHB p μ f (lvL p μ A) w A) (hR : RB μ S P M A) (hM : M ≤ 598) (hg : A 132 μ.1 0 = 0) (hn : isN μ c A) : (o_walk μ (pl_ p) c A).1 = m_dist A (A 126 μ.1 0) c ∧ (o_walk μ (pl_ p) c A).2 139 μ.1 0 = 0 ∧ (o_walk μ (pl_ p) c A).2 126 μ.1 0 = c ∧ TRs μ A (o_walk μ (pl_ p) c A).2 := by
  unfold o_walk
  rw [if_pos hn, if_neg (by omega)]
  obtain ⟨w1, w2, w3⟩ := wks_tr (v := 0) h hR hM (isN_al hn)
  exact ⟨rfl, w3, w2, w1⟩
theorem plen_tr (h : ∀ i, V 217 0 i = A 217 0 i) : ∀ (n : Nat) (k : Int), plen V n k = plen A n k
  | 0, _ => rfl
  | n + 1, k => by unfold plen; rw [h, plen_tr h n]
theorem pln_tr (h : ∀ i, V 217 0 i = A 217 0 i) (k : Int) : m_pln V k = m_pln A k := plen_tr h _ _
theorem dst_tr (h : ∀ i, V 217 0 i = A 217 0 i) : ∀ (n : Nat) (a b d : Int), m_dst V n a b d = m_dst A n a b d
  | 0, _, _, _ => rfl
  | n + 1, a, b, d => by unfold m_dst; rw [pln_tr h, pln_tr h, h, h, dst_tr h n, dst_tr h n]
theorem dist_tr (h : TRs μ A V) (a b : Int) : m_dist V a b = m_dist A a b := by
  unfold m_dist
  rw [pln_tr h.2.1, pln_tr h.2.1, dst_tr h.2.1]
theorem alv_up (hT : TB μ M A) (hE : bEx μ A) {a : Int} (ha : alv μ A a) (h1 : 1 < m_pln A a) : alv μ A (A 217 0 a) ∧ m_pln A (A 217 0 a) = m_pln A a - 1 := by
  have a0 : a ≠ 0 := fun e => by
    rw [e] at h1
    have := pln_s hT.pr (k := 0) ⟨by decide, by have := hT.1.1; omega⟩
    rw [hT.p0, pln_0] at this; omega
  refine ⟨(hT.par hE ha a0).1, ?_⟩
  have := pln_s hT.pr (k := a) ha.1
  omega
theorem pln_1 (hT : TB μ M A) {a : Int} (ha : alv μ A a) : 1 ≤ m_pln A a := (pln_rng hT.pr _ a (Nat.le_refl _) (by have := ha.1; omega) ha.1.2).2.2 ha.1.1
theorem pln_root (hT : TB μ M A) (hE : bEx μ A) {a : Int} (ha : alv μ A a) (h1 : m_pln A a ≤ 1) : a = 0 := by
  apply Classical.byContradiction
  intro a0
  have q := pln_s hT.pr (k := a) ha.1
  have q2 := pln_1 hT (hT.par hE ha a0).1
  omega
/-- the way is as long back -/
theorem dst_sym (hT : TB μ M A) (hE : bEx μ A) : ∀ (N : Nat) (G : Nat) (a b : Int), G ≤ N → alv μ A a → alv μ A b → m_pln A a + m_pln A b ≤ G → m_dst A G a b 0 = m_dst A G b a 0
  | N, 0, a, b, _, ha, hb, h => by have := pln_1 hT ha; have := pln_1 hT hb; omega
  | 0, G + 1, a, b, hN, _, _, _ => by omega
  | N + 1, G + 1, a, b, hN, ha, hb, h => by
    by_cases e : a = b
    · rw [e]
    rw [dst_s e, dst_s (fun z => e z.symm)]
    have p1 := pln_1 hT ha
    have p2 := pln_1 hT hb
    rcases Int.lt_trichotomy (m_pln A a) (m_pln A b) with q | q | q
    · obtain ⟨b1, b2⟩ := alv_up hT hE hb (by omega)
      rw [if_neg (by omega), if_pos (by omega), dst_sym hT hE N G a (A 217 0 b) (by omega) ha b1 (by omega)]
    · have hne : 1 < m_pln A a := by
        apply Classical.byContradiction
        intro z
        exact e ((pln_root hT hE ha (by omega)).trans (pln_root hT hE hb (by omega)).symm)
      obtain ⟨a1, a2⟩ := alv_up hT hE ha hne
      obtain ⟨b1, b2⟩ := alv_up hT hE hb (by omega)
      rw [if_pos (by omega), if_pos (by omega)]
      match G, h with
      | 0, h => omega
      | G + 1, h =>
        rw [dst_s (G := G) (a := A 217 0 a) (b := b) (fun z => by rw [z] at a2; omega), dst_s (G := G) (a := A 217 0 b) (b := a) (fun z => by rw [z] at b2; omega), if_neg (by omega), if_neg (by omega), dst_sym hT hE N G (A 217 0 a) (A 217 0 b) (by omega) a1 b1 (by omega)]
    · obtain ⟨a1, a2⟩ := alv_up hT hE ha (by omega)
      rw [if_pos (by omega), if_neg (by omega), dst_sym hT hE N G (A 217 0 a) b (by omega) a1 hb (by omega)]
theorem dist_sym (hT : TB μ M A) (hE : bEx μ A) {a b : Int} (ha : alv μ A a) (hb : alv μ A b) : m_dist A a b = m_dist A b a := by
  unfold m_dist
  rw [dst_sym hT hE _ _ a b (Nat.le_refl _) ha hb (by omega), show m_pln A a + m_pln A b = m_pln A b + m_pln A a by omega]
end WLK
