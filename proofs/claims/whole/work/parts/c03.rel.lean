/-! locality of undoing in a region -/
section LQD
variable {K : Nat → Int → Bool} {w B b : Mm} {μ : MU}
theorem lq_mvR (hK : KQc μ K) (a b q : Int) : m_mvR μ a b q (pc K w B) = pc K w (m_mvR μ a b q B) := by
  unfold m_mvR
  simp (disch := first | exact hK.a (by decide) | exact hK.m (by decide) | exact hK) only [pc_g, pc_up, pc_fl, pc_pby (μ := μ) hK, pcP_1, pcP_2]
theorem lq_mvI (hK : KQc μ K) (t a b q k : Int) : m_mvI μ t a b q k (pc K w B) = pc K w (m_mvI μ t a b q k B) := by
  unfold m_mvI
  simp (disch := first | exact hK.a (by decide) | exact hK.m (by decide) | exact hK) only [pc_g, pc_up, pc_fl, pc_pby (μ := μ) hK, pcP_1, pcP_2]
theorem lq_mvD (hK : KQc μ K) (t a b q k y : Int) : m_mvD μ t a b q k y (pc K w B) = pc K w (m_mvD μ t a b q k y B) := by
  unfold m_mvD
  simp (disch := first | exact hK.a (by decide) | exact hK.m (by decide) | exact hK) only [pc_g, pc_up, pc_fl, pc_pby (μ := μ) hK, pcP_1, pcP_2]
theorem lq_mov (hK : KQc μ K) (t d q k y : Int) : m_mov μ t d q k y (pc K w B) = pc K w (m_mov μ t d q k y B) := by
  unfold m_mov
  simp (disch := first | exact hK.a (by decide) | exact hK.m (by decide) | exact hK) only [pc_g, pc_up, pc_fl, pc_pby (μ := μ) hK, pcP_1, pcP_2, lq_mvR (μ := μ) hK, lq_mvI (μ := μ) hK, lq_mvD (μ := μ) hK]
  try (repeat' split)
  all_goals first | rfl | contradiction | (exfalso; omega) | (simp (disch := first | exact hK.a (by decide) | exact hK.m (by decide) | exact hK) only [pc_g, pc_up, pc_fl, pc_pby (μ := μ) hK, pcP_1, pcP_2, lq_mvR (μ := μ) hK, lq_mvI (μ := μ) hK, lq_mvD (μ := μ) hK]; done) | (simp (disch := first | exact hK.a (by decide) | exact hK.m (by decide) | exact hK) only [pc_g, pc_up, pc_fl, pc_pby (μ := μ) hK, pcP_1, pcP_2, lq_mvR (μ := μ) hK, lq_mvI (μ := μ) hK, lq_mvD (μ := μ) hK]; rfl)
theorem lq_mvN (hK : KQc μ K) (d q k y : Int) : ∀ n : Nat, m_mvN μ d q k y n (pc K w B) = pc K w (m_mvN μ d q k y n B)
  | 0 => rfl
  | n + 1 => by simp only [m_mvN]; rw [lq_mvN hK d q k y n, lq_mov hK]
theorem lq_trA (hK : KQc μ K) (x : Int) : m_trA μ x (pc K w B) = pc K w (m_trA μ x B) := by
  unfold m_trA
  simp (disch := first | exact hK.a (by decide) | exact hK.m (by decide) | exact hK) only [pc_g, pc_up, pc_fl, pc_pby (μ := μ) hK, pcP_1, pcP_2, lq_mvN (μ := μ) hK]
theorem lq_trB (hK : KQc μ K) (x n : Int) : m_trB μ x n (pc K w B) = pc K w (m_trB μ x n B) := by
  unfold m_trB
  simp (disch := first | exact hK.a (by decide) | exact hK.m (by decide) | exact hK) only [pc_g, pc_up, pc_fl, pc_pby (μ := μ) hK, pcP_1, pcP_2]
theorem lq_trL (hK : KQc μ K) : ∀ (L : List Int) (B : Mm), m_trL μ L (pc K w B) = pcP K w (m_trL μ L B)
  | [], B => by simp only [m_trL]; rw [pc_g (hK.m (by decide))]; rfl
  | x :: xs, B => by
    simp only [m_trL]
    rw [pc_g (hK.m (by decide)), lq_trA hK, lq_trB hK, lq_trL hK xs, lq_trL hK xs]
    repeat' split
    all_goals rfl
theorem lq_foL (hK : KQc μ K) : ∀ (L : List Int) (B : Mm), m_foL μ L (pc K w B) = pc K w (m_foL μ L B)
  | [], _ => rfl
  | x :: xs, B => by
    simp only [m_foL]
    rw [pc_g (hK.m (by decide)), lq_mvN hK]
    split
    · rw [lq_foL hK xs]
    · rw [lq_foL hK xs]
theorem lq_wlist (hK : KQc μ K) : ∀ (n : Nat) (i : Int), wlist (pc K w B) n i = wlist B n i
  | 0, _ => rfl
  | n + 1, i => by simp only [wlist]; rw [pc_g (hK.a (by decide)), lq_wlist hK n]
theorem lq_nodeW (hK : KQc μ K) : ∀ ps : List Int, nodeW (pc K w B) ps = nodeW B ps
  | [] => rfl
  | p :: ps => by
    simp only [nodeW]
    rw [lq_nodeW hK ps, lq_wlist hK, pc_g (hK.a (by decide)), pc_g (hK.a (by decide))]
theorem lq_fan (hK : KQc μ K) (x i : Int) : m_fan (pc K w B) x i = m_fan B x i := by unfold m_fan; rw [lq_pln hK, lq_anc hK]
theorem lq_foP (hK : KQc μ K) (PL : Int → List Int) (x i : Int) : ∀ n : Nat, m_foP μ PL x (pc K w b) i n (pc K w B) = pc K w (m_foP μ PL x b i n B)
  | 0 => rfl
  | n + 1 => by simp only [m_foP]; rw [lq_foP hK PL x i n, lq_fan hK, lq_nodeW hK, lq_foL hK]
theorem lq_tou (hK : KQc μ K) (lo hi : Int) : m_tou lo hi (pc K w B) = m_tou lo hi B := by
  funext t; unfold m_tou; simp (disch := first | exact hK.a (by decide) | exact hK.m (by decide) | exact hK) only [pc_g]
theorem lq_can (hK : KQc μ K) (PL : Int → List Int) (x i : Int) : m_can μ PL x (pc K w b) i (pc K w B) = pcP K w (m_can μ PL x b i B) := by
  unfold m_can
  rw [pc_g (hK.a (by decide)), lq_fan hK, lq_nodeW hK, pc_up (hK.m (by decide)), pc_up (hK.m (by decide)), lq_trL hK]
  split <;> rfl
theorem lq_fol (hK : KQc μ K) (PL : Int → List Int) (x i : Int) {p : Int × Mm} : m_fol μ PL x (pc K w b) i (pcP K w p) = pc K w (m_fol μ PL x b i p) := by
  unfold m_fol
  rw [pcP_1, pcP_2, lq_pln hK, lq_foP hK]
  split <;> rfl
theorem lq_fdR (hK : KQc μ K) (PL : Int → List Int) (x lo hi : Int) : ∀ (n : Nat) (B : Mm), m_fdR μ PL x (pc K w b) lo hi n (pc K w B) = pcP K w (m_fdR μ PL x b lo hi n B)
  | 0, _ => rfl
  | n + 1, B => by
    simp only [m_fdR]
    have ih := lq_fdR hK PL x lo hi n
    unfold m_hit
    simp only [lq_can hK, lq_fol hK, pcP_1, lq_tou hK, ih]
    simp (disch := first | exact hK.a (by decide) | exact hK.m (by decide) | exact hK) only [pc_g]
    split <;> rfl
theorem lq_fdI (hK : KQc μ K) (PL : Int → List Int) (lo hi : Int) : m_fdI μ PL lo hi (pc K w B) = pcP K w (m_fdI μ PL lo hi B) := by
  unfold m_fdI
  rw [pc_g (hK.m (by decide)), lq_pln hK, lq_fin hK, lq_fdR hK]
theorem lq_rem1 (hK : KQc μ K) (PL : Int → List Int) (nd t : Int) : m_rem1 μ PL nd t (pc K w B) = pc K w (m_rem1 μ PL nd t B) := by
  unfold m_rem1
  simp (disch := first | exact hK.a (by decide) | exact hK.m (by decide) | exact hK) only [pc_g, pc_up, pc_fl, pc_pby (μ := μ) hK, pcP_1, pcP_2, lq_rpl (μ := μ) hK, lq_nodeL (μ := μ) hK, lq_playL (μ := μ) hK]
theorem lq_rem (hK : KQc μ K) (PL : Int → List Int) (nd t : Int) : m_rem μ PL nd t (pc K w B) = pc K w (m_rem μ PL nd t B) := by
  unfold m_rem
  simp (disch := first | exact hK.a (by decide) | exact hK.m (by decide) | exact hK) only [pc_g, pc_up, pc_fl, pc_pby (μ := μ) hK, pcP_1, pcP_2, lq_rem1 (μ := μ) hK]
theorem lq_opx (hK : KQc μ K) (t k o : Int) : m_opx t k o (pc K w B) = pc K w (m_opx t k o B) := by
  unfold m_opx
  simp (disch := first | exact hK.a (by decide) | exact hK.m (by decide) | exact hK) only [pc_g, pc_up, pc_fl, pc_pby (μ := μ) hK, pcP_1, pcP_2]
theorem lq_op1 (hK : KQc μ K) (t q k o : Int) : m_op1 μ t q k o (pc K w B) = pc K w (m_op1 μ t q k o B) := by
  unfold m_op1
  simp (disch := first | exact hK.a (by decide) | exact hK.m (by decide) | exact hK) only [pc_g, pc_up, pc_fl, pc_pby (μ := μ) hK, pcP_1, pcP_2, lq_mov (μ := μ) hK, lq_opx (μ := μ) hK]
  try (repeat' split)
  all_goals first | rfl | contradiction | (exfalso; omega) | (simp (disch := first | exact hK.a (by decide) | exact hK.m (by decide) | exact hK) only [pc_g, pc_up, pc_fl, pc_pby (μ := μ) hK, pcP_1, pcP_2, lq_mov (μ := μ) hK, lq_opx (μ := μ) hK]; done) | (simp (disch := first | exact hK.a (by decide) | exact hK.m (by decide) | exact hK) only [pc_g, pc_up, pc_fl, pc_pby (μ := μ) hK, pcP_1, pcP_2, lq_mov (μ := μ) hK, lq_opx (μ := μ) hK]; rfl)
theorem lq_opN (hK : KQc μ K) (t q k : Int) : ∀ n : Nat, m_opN μ t q k n (pc K w B) = pc K w (m_opN μ t q k n B)
  | 0 => rfl
  | n + 1 => by simp only [m_opN]; rw [lq_opN hK t q k n, lq_op1 hK]
theorem lq_opD (hK : KQc μ K) (q k : Int) : m_opD μ q k (pc K w B) = pc K w (m_opD μ q k B) := by
  unfold m_opD
  simp (disch := first | exact hK.a (by decide) | exact hK.m (by decide) | exact hK) only [pc_g, pc_up, pc_fl, pc_pby (μ := μ) hK, pcP_1, pcP_2, lq_del (μ := μ) hK]
theorem lq_opI (hK : KQc μ K) (q k : Int) : m_opI μ q k (pc K w B) = pc K w (m_opI μ q k B) := by
  unfold m_opI
  simp (disch := first | exact hK.a (by decide) | exact hK.m (by decide) | exact hK) only [pc_g, pc_up, pc_fl, pc_pby (μ := μ) hK, pcP_1, pcP_2, lq_ins (μ := μ) hK]
theorem lq_opp (hK : KQc μ K) (PL : Int → List Int) (nd t : Int) : m_opp μ PL nd t (pc K w B) = pcP K w (m_opp μ PL nd t B) := by
  unfold m_opp
  simp (disch := first | exact hK.a (by decide) | exact hK.m (by decide) | exact hK) only [pc_g, pc_up, pc_fl, pc_pby (μ := μ) hK, pcP_1, pcP_2, lq_rep (μ := μ) hK, lq_rem (μ := μ) hK, lq_opN (μ := μ) hK, lq_opD (μ := μ) hK, lq_opI (μ := μ) hK]
  try (repeat' split)
  all_goals first | rfl | contradiction | (exfalso; omega) | (simp (disch := first | exact hK.a (by decide) | exact hK.m (by decide) | exact hK) only [pc_g, pc_up, pc_fl, pc_pby (μ := μ) hK, pcP_1, pcP_2, lq_rep (μ := μ) hK, lq_rem (μ := μ) hK, lq_opN (μ := μ) hK, lq_opD (μ := μ) hK, lq_opI (μ := μ) hK]; done) | (simp (disch := first | exact hK.a (by decide) | exact hK.m (by decide) | exact hK) only [pc_g, pc_up, pc_fl, pc_pby (μ := μ) hK, pcP_1, pcP_2, lq_rep (μ := μ) hK, lq_rem (μ := μ) hK, lq_opN (μ := μ) hK, lq_opD (μ := μ) hK, lq_opI (μ := μ) hK]; rfl)
theorem lq_opL (hK : KQc μ K) (PL : Int → List Int) (nd : Int) : ∀ (n : Nat) (B : Mm), m_opL μ PL nd n (pc K w B) = pcP K w (m_opL μ PL nd n B)
  | 0, _ => rfl
  | n + 1, B => by
    simp only [m_opL]
    rw [lq_opp hK, pcP_1, pcP_2, lq_opL hK PL nd n]
    split <;> rfl
theorem lq_ui3 (hK : KQc μ K) {p : Int × Mm} : m_ui3 μ (pcP K w p) = pcP K w (m_ui3 μ p) := by
  obtain ⟨p1, p2⟩ := p
  unfold m_ui3
  simp (disch := first | exact hK.a (by decide) | exact hK.m (by decide) | exact hK) only [pc_g, pc_up, pc_fl, pc_pby (μ := μ) hK, pcP_1, pcP_2, lq_rest1 (μ := μ) hK, lq_ends (μ := μ) hK]
  try (repeat' split)
  all_goals first | rfl | contradiction | (exfalso; omega) | (simp (disch := first | exact hK.a (by decide) | exact hK.m (by decide) | exact hK) only [pc_g, pc_up, pc_fl, pc_pby (μ := μ) hK, pcP_1, pcP_2, lq_rest1 (μ := μ) hK, lq_ends (μ := μ) hK]; done) | (simp (disch := first | exact hK.a (by decide) | exact hK.m (by decide) | exact hK) only [pc_g, pc_up, pc_fl, pc_pby (μ := μ) hK, pcP_1, pcP_2, lq_rest1 (μ := μ) hK, lq_ends (μ := μ) hK]; rfl)
theorem lq_ui4 (hK : KQc μ K) {p : Int × Mm} : m_ui4 μ (pcP K w p) = pcP K w (m_ui4 μ p) := by
  obtain ⟨p1, p2⟩ := p
  unfold m_ui4
  simp (disch := first | exact hK.a (by decide) | exact hK.m (by decide) | exact hK) only [pc_g, pc_up, pc_fl, pc_pby (μ := μ) hK, pcP_1, pcP_2, lq_th (μ := μ) hK]
  try (repeat' split)
  all_goals first | rfl | contradiction | (exfalso; omega) | (simp (disch := first | exact hK.a (by decide) | exact hK.m (by decide) | exact hK) only [pc_g, pc_up, pc_fl, pc_pby (μ := μ) hK, pcP_1, pcP_2, lq_th (μ := μ) hK]; done) | (simp (disch := first | exact hK.a (by decide) | exact hK.m (by decide) | exact hK) only [pc_g, pc_up, pc_fl, pc_pby (μ := μ) hK, pcP_1, pcP_2, lq_th (μ := μ) hK]; rfl)
theorem lq_ui2 (hK : KQc μ K) (PL : Int → List Int) (nd : Int) : m_ui2 μ PL nd (pc K w B) = pcP K w (m_ui2 μ PL nd B) := by
  unfold m_ui2
  simp (disch := first | exact hK.a (by decide) | exact hK.m (by decide) | exact hK) only [pc_g, pc_up, pc_fl, pc_pby (μ := μ) hK, pcP_1, pcP_2, lq_opL (μ := μ) hK, lq_ui3 (μ := μ) hK, lq_ui4 (μ := μ) hK]
  try (repeat' split)
  all_goals first | rfl | contradiction | (exfalso; omega) | (simp (disch := first | exact hK.a (by decide) | exact hK.m (by decide) | exact hK) only [pc_g, pc_up, pc_fl, pc_pby (μ := μ) hK, pcP_1, pcP_2, lq_opL (μ := μ) hK, lq_ui3 (μ := μ) hK, lq_ui4 (μ := μ) hK]; done) | (simp (disch := first | exact hK.a (by decide) | exact hK.m (by decide) | exact hK) only [pc_g, pc_up, pc_fl, pc_pby (μ := μ) hK, pcP_1, pcP_2, lq_opL (μ := μ) hK, lq_ui3 (μ := μ) hK, lq_ui4 (μ := μ) hK]; rfl)
theorem lq_ui1 (hK : KQc μ K) {p : Int × Mm} (PL : Int → List Int) : m_ui1 μ PL (pcP K w p) = pcP K w (m_ui1 μ PL p) := by
  obtain ⟨p1, p2⟩ := p
  unfold m_ui1
  simp (disch := first | exact hK.a (by decide) | exact hK.m (by decide) | exact hK) only [pc_g, pc_up, pc_fl, pc_pby (μ := μ) hK, pcP_1, pcP_2, lq_saves (μ := μ) hK, lq_th (μ := μ) hK, lq_ui2 (μ := μ) hK]
  try (repeat' split)
  all_goals first | rfl | contradiction | (exfalso; omega) | (simp (disch := first | exact hK.a (by decide) | exact hK.m (by decide) | exact hK) only [pc_g, pc_up, pc_fl, pc_pby (μ := μ) hK, pcP_1, pcP_2, lq_saves (μ := μ) hK, lq_th (μ := μ) hK, lq_ui2 (μ := μ) hK]; done) | (simp (disch := first | exact hK.a (by decide) | exact hK.m (by decide) | exact hK) only [pc_g, pc_up, pc_fl, pc_pby (μ := μ) hK, pcP_1, pcP_2, lq_saves (μ := μ) hK, lq_th (μ := μ) hK, lq_ui2 (μ := μ) hK]; rfl)
theorem lq_oundoIn (hK : KQc μ K) (PL : Int → List Int) (lo hi : Int) : o_undoIn μ PL lo hi (pc K w B) = pcP K w (o_undoIn μ PL lo hi B) := by
  unfold o_undoIn isR
  simp (disch := first | exact hK.a (by decide) | exact hK.m (by decide) | exact hK) only [pc_g, pc_up, pc_fl, pc_pby (μ := μ) hK, pcP_1, pcP_2, lq_th (μ := μ) hK, lq_fdI (μ := μ) hK, lq_ui1 (μ := μ) hK]
  try (repeat' split)
  all_goals first | rfl | contradiction | (exfalso; omega) | (simp (disch := first | exact hK.a (by decide) | exact hK.m (by decide) | exact hK) only [pc_g, pc_up, pc_fl, pc_pby (μ := μ) hK, pcP_1, pcP_2, lq_th (μ := μ) hK, lq_fdI (μ := μ) hK, lq_ui1 (μ := μ) hK]; done) | (simp (disch := first | exact hK.a (by decide) | exact hK.m (by decide) | exact hK) only [pc_g, pc_up, pc_fl, pc_pby (μ := μ) hK, pcP_1, pcP_2, lq_th (μ := μ) hK, lq_fdI (μ := μ) hK, lq_ui1 (μ := μ) hK]; rfl)
end LQD
