/-! locality of the calls -/
section LQB
variable {K : Nat → Int → Bool} {w B b : Mm} {μ : MU}
theorem lq_th (hK : KQc μ K) (k : Int) : m_th μ k (pc K w B) = pc K w (m_th μ k B) := by
  unfold m_th
  simp (disch := first | exact hK.a (by decide) | exact hK.m (by decide) | exact hK) only [pc_g, pc_up, pc_fl, pc_pby (μ := μ) hK, pcP_1, pcP_2]
theorem lq_ti (hK : KQc μ K) (p : Prop) [Decidable p] : m_ti μ p (pc K w B) = pc K w (m_ti μ p B) := by
  unfold m_ti
  simp (disch := first | exact hK.a (by decide) | exact hK.m (by decide) | exact hK) only [pc_g, pc_up, pc_fl, pc_pby (μ := μ) hK, pcP_1, pcP_2]
theorem lq_ca3 (hK : KQc μ K) (c a b : Int) : m_ca3 μ c a b (pc K w B) = pc K w (m_ca3 μ c a b B) := by
  unfold m_ca3
  simp (disch := first | exact hK.a (by decide) | exact hK.m (by decide) | exact hK) only [pc_g, pc_up, pc_fl, pc_pby (μ := μ) hK, pcP_1, pcP_2, lq_rec (μ := μ) hK]
theorem lq_ca2 (hK : KQc μ K) {p : Int × Mm} (c a b s : Int) : m_ca2 μ c a b s (pcP K w p) = pcP K w (m_ca2 μ c a b s p) := by
  obtain ⟨p1, p2⟩ := p
  unfold m_ca2
  simp (disch := first | exact hK.a (by decide) | exact hK.m (by decide) | exact hK) only [pc_g, pc_up, pc_fl, pc_pby (μ := μ) hK, pcP_1, pcP_2, lq_ca3 (μ := μ) hK]
  try (repeat' split)
  all_goals first | rfl | contradiction | (exfalso; omega) | (simp (disch := first | exact hK.a (by decide) | exact hK.m (by decide) | exact hK) only [pc_g, pc_up, pc_fl, pc_pby (μ := μ) hK, pcP_1, pcP_2, lq_ca3 (μ := μ) hK]; done) | (simp (disch := first | exact hK.a (by decide) | exact hK.m (by decide) | exact hK) only [pc_g, pc_up, pc_fl, pc_pby (μ := μ) hK, pcP_1, pcP_2, lq_ca3 (μ := μ) hK]; rfl)
theorem lq_ca1 (hK : KQc μ K) {p : Int × Mm} (c a b s : Int) : m_ca1 μ c a b s (pcP K w p) = pcP K w (m_ca1 μ c a b s p) := by
  obtain ⟨p1, p2⟩ := p
  unfold m_ca1
  simp (disch := first | exact hK.a (by decide) | exact hK.m (by decide) | exact hK) only [pc_g, pc_up, pc_fl, pc_pby (μ := μ) hK, pcP_1, pcP_2, lq_ends (μ := μ) hK, lq_ca2 (μ := μ) hK]
  try (repeat' split)
  all_goals first | rfl | contradiction | (exfalso; omega) | (simp (disch := first | exact hK.a (by decide) | exact hK.m (by decide) | exact hK) only [pc_g, pc_up, pc_fl, pc_pby (μ := μ) hK, pcP_1, pcP_2, lq_ends (μ := μ) hK, lq_ca2 (μ := μ) hK]; done) | (simp (disch := first | exact hK.a (by decide) | exact hK.m (by decide) | exact hK) only [pc_g, pc_up, pc_fl, pc_pby (μ := μ) hK, pcP_1, pcP_2, lq_ends (μ := μ) hK, lq_ca2 (μ := μ) hK]; rfl)
theorem lq_cal (hK : KQc μ K) (h1 : K 211 0 = false) (c a b s : Int) : m_cal μ c a b s (pc K w B) = pcP K w (m_cal μ c a b s B) := by
  unfold m_cal m_full
  simp (disch := first | exact hK.a (by decide) | exact hK.m (by decide) | exact hK | exact h1) only [pc_g, pc_up, pc_fl, pc_pby (μ := μ) hK, pcP_1, pcP_2, lq_does (μ := μ) hK h1, lq_saves (μ := μ) hK, lq_ca1 (μ := μ) hK]
  try (repeat' split)
  all_goals first | rfl | contradiction | (exfalso; omega) | (simp (disch := first | exact hK.a (by decide) | exact hK.m (by decide) | exact hK | exact h1) only [pc_g, pc_up, pc_fl, pc_pby (μ := μ) hK, pcP_1, pcP_2, lq_does (μ := μ) hK h1, lq_saves (μ := μ) hK, lq_ca1 (μ := μ) hK]; done) | (simp (disch := first | exact hK.a (by decide) | exact hK.m (by decide) | exact hK | exact h1) only [pc_g, pc_up, pc_fl, pc_pby (μ := μ) hK, pcP_1, pcP_2, lq_does (μ := μ) hK h1, lq_saves (μ := μ) hK, lq_ca1 (μ := μ) hK]; rfl)
theorem lq_ooverwrite (hK : KQc μ K) (h1 : K 211 0 = false) (c : Int) : o_overwrite μ c (pc K w B) = pcP K w (o_overwrite μ c B) := by
  unfold o_overwrite
  simp (disch := first | exact hK.a (by decide) | exact hK.m (by decide) | exact hK | exact h1) only [pc_g, pc_up, pc_fl, pc_pby (μ := μ) hK, pcP_1, pcP_2, lq_ti (μ := μ) hK, lq_cal (μ := μ) hK h1]
  try (repeat' split)
  all_goals first | rfl | contradiction | (exfalso; omega) | (simp (disch := first | exact hK.a (by decide) | exact hK.m (by decide) | exact hK | exact h1) only [pc_g, pc_up, pc_fl, pc_pby (μ := μ) hK, pcP_1, pcP_2, lq_ti (μ := μ) hK, lq_cal (μ := μ) hK h1]; done) | (simp (disch := first | exact hK.a (by decide) | exact hK.m (by decide) | exact hK | exact h1) only [pc_g, pc_up, pc_fl, pc_pby (μ := μ) hK, pcP_1, pcP_2, lq_ti (μ := μ) hK, lq_cal (μ := μ) hK h1]; rfl)
theorem lq_odelete (hK : KQc μ K) (h1 : K 211 0 = false) (c : Int) : o_delete μ c (pc K w B) = pcP K w (o_delete μ c B) := by
  unfold o_delete
  simp (disch := first | exact hK.a (by decide) | exact hK.m (by decide) | exact hK | exact h1) only [pc_g, pc_up, pc_fl, pc_pby (μ := μ) hK, pcP_1, pcP_2, lq_ti (μ := μ) hK, lq_cal (μ := μ) hK h1]
  try (repeat' split)
  all_goals first | rfl | contradiction | (exfalso; omega) | (simp (disch := first | exact hK.a (by decide) | exact hK.m (by decide) | exact hK | exact h1) only [pc_g, pc_up, pc_fl, pc_pby (μ := μ) hK, pcP_1, pcP_2, lq_ti (μ := μ) hK, lq_cal (μ := μ) hK h1]; done) | (simp (disch := first | exact hK.a (by decide) | exact hK.m (by decide) | exact hK | exact h1) only [pc_g, pc_up, pc_fl, pc_pby (μ := μ) hK, pcP_1, pcP_2, lq_ti (μ := μ) hK, lq_cal (μ := μ) hK h1]; rfl)
theorem lq_omove (hK : KQc μ K) (h1 : K 211 0 = false) (c : Int) : o_move μ c (pc K w B) = pcP K w (o_move μ c B) := by
  unfold o_move
  simp (disch := first | exact hK.a (by decide) | exact hK.m (by decide) | exact hK | exact h1) only [pc_g, pc_up, pc_fl, pc_pby (μ := μ) hK, pcP_1, pcP_2, lq_ti (μ := μ) hK, lq_cal (μ := μ) hK h1]
  try (repeat' split)
  all_goals first | rfl | contradiction | (exfalso; omega) | (simp (disch := first | exact hK.a (by decide) | exact hK.m (by decide) | exact hK | exact h1) only [pc_g, pc_up, pc_fl, pc_pby (μ := μ) hK, pcP_1, pcP_2, lq_ti (μ := μ) hK, lq_cal (μ := μ) hK h1]; done) | (simp (disch := first | exact hK.a (by decide) | exact hK.m (by decide) | exact hK | exact h1) only [pc_g, pc_up, pc_fl, pc_pby (μ := μ) hK, pcP_1, pcP_2, lq_ti (μ := μ) hK, lq_cal (μ := μ) hK h1]; rfl)
theorem lq_osearch (hK : KQc μ K) (h1 : K 211 0 = false) (c : Int) : o_search μ c (pc K w B) = pcP K w (o_search μ c B) := by
  unfold o_search
  simp (disch := first | exact hK.a (by decide) | exact hK.m (by decide) | exact hK | exact h1) only [pc_g, pc_up, pc_fl, pc_pby (μ := μ) hK, pcP_1, pcP_2, lq_ti (μ := μ) hK, lq_cal (μ := μ) hK h1]
  try (repeat' split)
  all_goals first | rfl | contradiction | (exfalso; omega) | (simp (disch := first | exact hK.a (by decide) | exact hK.m (by decide) | exact hK | exact h1) only [pc_g, pc_up, pc_fl, pc_pby (μ := μ) hK, pcP_1, pcP_2, lq_ti (μ := μ) hK, lq_cal (μ := μ) hK h1]; done) | (simp (disch := first | exact hK.a (by decide) | exact hK.m (by decide) | exact hK | exact h1) only [pc_g, pc_up, pc_fl, pc_pby (μ := μ) hK, pcP_1, pcP_2, lq_ti (μ := μ) hK, lq_cal (μ := μ) hK h1]; rfl)
theorem lq_okill (hK : KQc μ K) (h1 : K 211 0 = false) (c : Int) : o_kill μ c (pc K w B) = pcP K w (o_kill μ c B) := by
  unfold o_kill
  simp (disch := first | exact hK.a (by decide) | exact hK.m (by decide) | exact hK | exact h1) only [pc_g, pc_up, pc_fl, pc_pby (μ := μ) hK, pcP_1, pcP_2, lq_ti (μ := μ) hK, lq_cal (μ := μ) hK h1]
  try (repeat' split)
  all_goals first | rfl | contradiction | (exfalso; omega) | (simp (disch := first | exact hK.a (by decide) | exact hK.m (by decide) | exact hK | exact h1) only [pc_g, pc_up, pc_fl, pc_pby (μ := μ) hK, pcP_1, pcP_2, lq_ti (μ := μ) hK, lq_cal (μ := μ) hK h1]; done) | (simp (disch := first | exact hK.a (by decide) | exact hK.m (by decide) | exact hK | exact h1) only [pc_g, pc_up, pc_fl, pc_pby (μ := μ) hK, pcP_1, pcP_2, lq_ti (μ := μ) hK, lq_cal (μ := μ) hK h1]; rfl)
theorem lq_opaste (hK : KQc μ K) (h1 : K 211 0 = false) (c : Int) : o_paste μ c (pc K w B) = pcP K w (o_paste μ c B) := by
  unfold o_paste
  simp (disch := first | exact hK.a (by decide) | exact hK.m (by decide) | exact hK | exact h1) only [pc_g, pc_up, pc_fl, pc_pby (μ := μ) hK, pcP_1, pcP_2, lq_ti (μ := μ) hK, lq_cal (μ := μ) hK h1]
  try (repeat' split)
  all_goals first | rfl | contradiction | (exfalso; omega) | (simp (disch := first | exact hK.a (by decide) | exact hK.m (by decide) | exact hK | exact h1) only [pc_g, pc_up, pc_fl, pc_pby (μ := μ) hK, pcP_1, pcP_2, lq_ti (μ := μ) hK, lq_cal (μ := μ) hK h1]; done) | (simp (disch := first | exact hK.a (by decide) | exact hK.m (by decide) | exact hK | exact h1) only [pc_g, pc_up, pc_fl, pc_pby (μ := μ) hK, pcP_1, pcP_2, lq_ti (μ := μ) hK, lq_cal (μ := μ) hK h1]; rfl)
theorem lq_oclearMark (hK : KQc μ K) (h1 : K 211 0 = false) (c : Int) : o_clearMark μ c (pc K w B) = pcP K w (o_clearMark μ c B) := by
  unfold o_clearMark
  simp (disch := first | exact hK.a (by decide) | exact hK.m (by decide) | exact hK | exact h1) only [pc_g, pc_up, pc_fl, pc_pby (μ := μ) hK, pcP_1, pcP_2, lq_ti (μ := μ) hK, lq_cal (μ := μ) hK h1]
  try (repeat' split)
  all_goals first | rfl | contradiction | (exfalso; omega) | (simp (disch := first | exact hK.a (by decide) | exact hK.m (by decide) | exact hK | exact h1) only [pc_g, pc_up, pc_fl, pc_pby (μ := μ) hK, pcP_1, pcP_2, lq_ti (μ := μ) hK, lq_cal (μ := μ) hK h1]; done) | (simp (disch := first | exact hK.a (by decide) | exact hK.m (by decide) | exact hK | exact h1) only [pc_g, pc_up, pc_fl, pc_pby (μ := μ) hK, pcP_1, pcP_2, lq_ti (μ := μ) hK, lq_cal (μ := μ) hK h1]; rfl)
theorem lq_ojump (hK : KQc μ K) (h1 : K 211 0 = false) (c : Int) : o_jump μ c (pc K w B) = pcP K w (o_jump μ c B) := by
  unfold o_jump
  simp (disch := first | exact hK.a (by decide) | exact hK.m (by decide) | exact hK | exact h1) only [pc_g, pc_up, pc_fl, pc_pby (μ := μ) hK, pcP_1, pcP_2, lq_ti (μ := μ) hK, lq_cal (μ := μ) hK h1]
  try (repeat' split)
  all_goals first | rfl | contradiction | (exfalso; omega) | (simp (disch := first | exact hK.a (by decide) | exact hK.m (by decide) | exact hK | exact h1) only [pc_g, pc_up, pc_fl, pc_pby (μ := μ) hK, pcP_1, pcP_2, lq_ti (μ := μ) hK, lq_cal (μ := μ) hK h1]; done) | (simp (disch := first | exact hK.a (by decide) | exact hK.m (by decide) | exact hK | exact h1) only [pc_g, pc_up, pc_fl, pc_pby (μ := μ) hK, pcP_1, pcP_2, lq_ti (μ := μ) hK, lq_cal (μ := μ) hK h1]; rfl)
theorem lq_onarrow (hK : KQc μ K) (h1 : K 211 0 = false) (c : Int) : o_narrow μ c (pc K w B) = pcP K w (o_narrow μ c B) := by
  unfold o_narrow
  simp (disch := first | exact hK.a (by decide) | exact hK.m (by decide) | exact hK | exact h1) only [pc_g, pc_up, pc_fl, pc_pby (μ := μ) hK, pcP_1, pcP_2, lq_ti (μ := μ) hK, lq_cal (μ := μ) hK h1]
  try (repeat' split)
  all_goals first | rfl | contradiction | (exfalso; omega) | (simp (disch := first | exact hK.a (by decide) | exact hK.m (by decide) | exact hK | exact h1) only [pc_g, pc_up, pc_fl, pc_pby (μ := μ) hK, pcP_1, pcP_2, lq_ti (μ := μ) hK, lq_cal (μ := μ) hK h1]; done) | (simp (disch := first | exact hK.a (by decide) | exact hK.m (by decide) | exact hK | exact h1) only [pc_g, pc_up, pc_fl, pc_pby (μ := μ) hK, pcP_1, pcP_2, lq_ti (μ := μ) hK, lq_cal (μ := μ) hK h1]; rfl)
theorem lq_oyank (hK : KQc μ K) (h1 : K 211 0 = false) : o_yank μ (pc K w B) = pcP K w (o_yank μ B) := by
  exact lq_cal hK h1 _ _ _ _
theorem lq_orotate (hK : KQc μ K) (h1 : K 211 0 = false) : o_rotate μ (pc K w B) = pcP K w (o_rotate μ B) := by
  exact lq_cal hK h1 _ _ _ _
theorem lq_owiden (hK : KQc μ K) (h1 : K 211 0 = false) : o_widen μ (pc K w B) = pcP K w (o_widen μ B) := by
  exact lq_cal hK h1 _ _ _ _
theorem lq_ocopy (hK : KQc μ K) (h1 : K 211 0 = false) (c k : Int) : o_copy μ c k (pc K w B) = pcP K w (o_copy μ c k B) := by
  unfold o_copy
  simp (disch := first | exact hK.a (by decide) | exact hK.m (by decide) | exact hK | exact h1) only [pc_g, pc_up, pc_fl, pc_pby (μ := μ) hK, pcP_1, pcP_2, lq_th (μ := μ) hK, lq_cal (μ := μ) hK h1]
  try (repeat' split)
  all_goals first | rfl | contradiction | (exfalso; omega) | (simp (disch := first | exact hK.a (by decide) | exact hK.m (by decide) | exact hK | exact h1) only [pc_g, pc_up, pc_fl, pc_pby (μ := μ) hK, pcP_1, pcP_2, lq_th (μ := μ) hK, lq_cal (μ := μ) hK h1]; done) | (simp (disch := first | exact hK.a (by decide) | exact hK.m (by decide) | exact hK | exact h1) only [pc_g, pc_up, pc_fl, pc_pby (μ := μ) hK, pcP_1, pcP_2, lq_th (μ := μ) hK, lq_cal (μ := μ) hK h1]; rfl)
theorem lq_osetMark (hK : KQc μ K) (h1 : K 211 0 = false) (c b : Int) : o_setMark μ c b (pc K w B) = pcP K w (o_setMark μ c b B) := by
  unfold o_setMark
  simp (disch := first | exact hK.a (by decide) | exact hK.m (by decide) | exact hK | exact h1) only [pc_g, pc_up, pc_fl, pc_pby (μ := μ) hK, pcP_1, pcP_2, lq_ti (μ := μ) hK, lq_cal (μ := μ) hK h1]
  try (repeat' split)
  all_goals first | rfl | contradiction | (exfalso; omega) | (simp (disch := first | exact hK.a (by decide) | exact hK.m (by decide) | exact hK | exact h1) only [pc_g, pc_up, pc_fl, pc_pby (μ := μ) hK, pcP_1, pcP_2, lq_ti (μ := μ) hK, lq_cal (μ := μ) hK h1]; done) | (simp (disch := first | exact hK.a (by decide) | exact hK.m (by decide) | exact hK | exact h1) only [pc_g, pc_up, pc_fl, pc_pby (μ := μ) hK, pcP_1, pcP_2, lq_ti (μ := μ) hK, lq_cal (μ := μ) hK h1]; rfl)
theorem lq_ocheckpoint (hK : KQc μ K) : o_checkpoint μ (pc K w B) = pc K w (o_checkpoint μ B) := by
  unfold o_checkpoint m_full
  simp (disch := first | exact hK.a (by decide) | exact hK.m (by decide) | exact hK) only [pc_g, pc_up, pc_fl, pc_pby (μ := μ) hK, pcP_1, pcP_2, lq_rec (μ := μ) hK, lq_th (μ := μ) hK]
  try (repeat' split)
  all_goals first | rfl | contradiction | (exfalso; omega) | (simp (disch := first | exact hK.a (by decide) | exact hK.m (by decide) | exact hK) only [pc_g, pc_up, pc_fl, pc_pby (μ := μ) hK, pcP_1, pcP_2, lq_rec (μ := μ) hK, lq_th (μ := μ) hK]; done) | (simp (disch := first | exact hK.a (by decide) | exact hK.m (by decide) | exact hK) only [pc_g, pc_up, pc_fl, pc_pby (μ := μ) hK, pcP_1, pcP_2, lq_rec (μ := μ) hK, lq_th (μ := μ) hK]; rfl)
theorem lq_orecord (hK : KQc μ K) (c : Int) : o_record μ c (pc K w B) = pc K w (o_record μ c B) := by
  unfold o_record
  simp (disch := first | exact hK.a (by decide) | exact hK.m (by decide) | exact hK) only [pc_g, pc_up, pc_fl, pc_pby (μ := μ) hK, pcP_1, pcP_2, lq_th (μ := μ) hK]
  try (repeat' split)
  all_goals first | rfl | contradiction | (exfalso; omega) | (simp (disch := first | exact hK.a (by decide) | exact hK.m (by decide) | exact hK) only [pc_g, pc_up, pc_fl, pc_pby (μ := μ) hK, pcP_1, pcP_2, lq_th (μ := μ) hK]; done) | (simp (disch := first | exact hK.a (by decide) | exact hK.m (by decide) | exact hK) only [pc_g, pc_up, pc_fl, pc_pby (μ := μ) hK, pcP_1, pcP_2, lq_th (μ := μ) hK]; rfl)
theorem lq_oopen (hK : KQc μ K) : o_open μ (pc K w B) = pc K w (o_open μ B) := by
  unfold o_open
  simp (disch := first | exact hK.a (by decide) | exact hK.m (by decide) | exact hK) only [pc_g, pc_up, pc_fl, pc_pby (μ := μ) hK, pcP_1, pcP_2, lq_th (μ := μ) hK]
theorem lq_opass (hK : KQc μ K) (c : Int) : o_pass μ c (pc K w B) = pc K w (o_pass μ c B) := by
  unfold o_pass
  simp (disch := first | exact hK.a (by decide) | exact hK.m (by decide) | exact hK) only [pc_g, pc_up, pc_fl, pc_pby (μ := μ) hK, pcP_1, pcP_2, lq_th (μ := μ) hK]
  try (repeat' split)
  all_goals first | rfl | contradiction | (exfalso; omega) | (simp (disch := first | exact hK.a (by decide) | exact hK.m (by decide) | exact hK) only [pc_g, pc_up, pc_fl, pc_pby (μ := μ) hK, pcP_1, pcP_2, lq_th (μ := μ) hK]; done) | (simp (disch := first | exact hK.a (by decide) | exact hK.m (by decide) | exact hK) only [pc_g, pc_up, pc_fl, pc_pby (μ := μ) hK, pcP_1, pcP_2, lq_th (μ := μ) hK]; rfl)
theorem lq_mkN (hK : KQc μ K) (k v : Int) : m_mkN μ k v (pc K w B) = pc K w (m_mkN μ k v B) := by
  unfold m_mkN
  simp (disch := first | exact hK.a (by decide) | exact hK.m (by decide) | exact hK) only [pc_g, pc_up, pc_fl, pc_pby (μ := μ) hK, pcP_1, pcP_2]
theorem lq_osetBookmark (hK : KQc μ K) (c : Int) : o_setBookmark μ c (pc K w B) = pcP K w (o_setBookmark μ c B) := by
  unfold o_setBookmark
  simp (disch := first | exact hK.a (by decide) | exact hK.m (by decide) | exact hK) only [pc_g, pc_up, pc_fl, pc_pby (μ := μ) hK, pcP_1, pcP_2, lq_ti (μ := μ) hK, lq_mkN (μ := μ) hK]
  try (repeat' split)
  all_goals first | rfl | contradiction | (exfalso; omega) | (simp (disch := first | exact hK.a (by decide) | exact hK.m (by decide) | exact hK) only [pc_g, pc_up, pc_fl, pc_pby (μ := μ) hK, pcP_1, pcP_2, lq_ti (μ := μ) hK, lq_mkN (μ := μ) hK]; done) | (simp (disch := first | exact hK.a (by decide) | exact hK.m (by decide) | exact hK) only [pc_g, pc_up, pc_fl, pc_pby (μ := μ) hK, pcP_1, pcP_2, lq_ti (μ := μ) hK, lq_mkN (μ := μ) hK]; rfl)
theorem lq_oclearBookmark (hK : KQc μ K) (c : Int) : o_clearBookmark μ c (pc K w B) = pcP K w (o_clearBookmark μ c B) := by
  unfold o_clearBookmark
  simp (disch := first | exact hK.a (by decide) | exact hK.m (by decide) | exact hK) only [pc_g, pc_up, pc_fl, pc_pby (μ := μ) hK, pcP_1, pcP_2, lq_ti (μ := μ) hK, lq_mkN (μ := μ) hK]
  try (repeat' split)
  all_goals first | rfl | contradiction | (exfalso; omega) | (simp (disch := first | exact hK.a (by decide) | exact hK.m (by decide) | exact hK) only [pc_g, pc_up, pc_fl, pc_pby (μ := μ) hK, pcP_1, pcP_2, lq_ti (μ := μ) hK, lq_mkN (μ := μ) hK]; done) | (simp (disch := first | exact hK.a (by decide) | exact hK.m (by decide) | exact hK) only [pc_g, pc_up, pc_fl, pc_pby (μ := μ) hK, pcP_1, pcP_2, lq_ti (μ := μ) hK, lq_mkN (μ := μ) hK]; rfl)
theorem lq_ounlisten (hK : KQc μ K) (c : Int) : o_unlisten μ c (pc K w B) = pcP K w (o_unlisten μ c B) := by
  unfold o_unlisten
  simp (disch := first | exact hK.a (by decide) | exact hK.m (by decide) | exact hK) only [pc_g, pc_up, pc_fl, pc_pby (μ := μ) hK, pcP_1, pcP_2, lq_th (μ := μ) hK]
  try (repeat' split)
  all_goals first | rfl | contradiction | (exfalso; omega) | (simp (disch := first | exact hK.a (by decide) | exact hK.m (by decide) | exact hK) only [pc_g, pc_up, pc_fl, pc_pby (μ := μ) hK, pcP_1, pcP_2, lq_th (μ := μ) hK]; done) | (simp (disch := first | exact hK.a (by decide) | exact hK.m (by decide) | exact hK) only [pc_g, pc_up, pc_fl, pc_pby (μ := μ) hK, pcP_1, pcP_2, lq_th (μ := μ) hK]; rfl)
theorem lq_olisten (hK : KQc μ K) (c a b d : Int) : o_listen μ c a b d (pc K w B) = pc K w (o_listen μ c a b d B) := by
  unfold o_listen
  simp (disch := first | exact hK.a (by decide) | exact hK.m (by decide) | exact hK) only [pc_g, pc_up, pc_fl, pc_pby (μ := μ) hK, pcP_1, pcP_2, lq_th (μ := μ) hK]
  try (repeat' split)
  all_goals first | rfl | contradiction | (exfalso; omega) | (simp (disch := first | exact hK.a (by decide) | exact hK.m (by decide) | exact hK) only [pc_g, pc_up, pc_fl, pc_pby (μ := μ) hK, pcP_1, pcP_2, lq_th (μ := μ) hK]; done) | (simp (disch := first | exact hK.a (by decide) | exact hK.m (by decide) | exact hK) only [pc_g, pc_up, pc_fl, pc_pby (μ := μ) hK, pcP_1, pcP_2, lq_th (μ := μ) hK]; rfl)
theorem lq_fee (hK : KQc μ K) (p : Int) : m_fee p (pc K w B) = m_fee p B := by
  unfold m_fee
  simp (disch := first | exact hK.a (by decide) | exact hK.m (by decide) | exact hK) only [pc_g, pc_up, pc_fl, pc_pby (μ := μ) hK, pcP_1, pcP_2]
theorem lq_lns (hK : KQc μ K) (l : Int) : m_lns l (pc K w B) = m_lns l B := by
  unfold m_lns
  simp (disch := first | exact hK.a (by decide) | exact hK.m (by decide) | exact hK) only [pc_g, pc_up, pc_fl, pc_pby (μ := μ) hK, pcP_1, pcP_2, lq_fee (μ := μ) hK]
theorem lq_olength (hK : KQc μ K) : o_length μ (pc K w B) = pcP K w (o_length μ B) := by
  unfold o_length
  simp (disch := first | exact hK.a (by decide) | exact hK.m (by decide) | exact hK) only [pc_g, pc_up, pc_fl, pc_pby (μ := μ) hK, pcP_1, pcP_2, lq_th (μ := μ) hK]
  try (repeat' split)
  all_goals first | rfl | contradiction | (exfalso; omega) | (simp (disch := first | exact hK.a (by decide) | exact hK.m (by decide) | exact hK) only [pc_g, pc_up, pc_fl, pc_pby (μ := μ) hK, pcP_1, pcP_2, lq_th (μ := μ) hK]; done) | (simp (disch := first | exact hK.a (by decide) | exact hK.m (by decide) | exact hK) only [pc_g, pc_up, pc_fl, pc_pby (μ := μ) hK, pcP_1, pcP_2, lq_th (μ := μ) hK]; rfl)
theorem lq_opoint (hK : KQc μ K) : o_point μ (pc K w B) = pcP K w (o_point μ B) := by
  unfold o_point
  simp (disch := first | exact hK.a (by decide) | exact hK.m (by decide) | exact hK) only [pc_g, pc_up, pc_fl, pc_pby (μ := μ) hK, pcP_1, pcP_2, lq_th (μ := μ) hK]
  try (repeat' split)
  all_goals first | rfl | contradiction | (exfalso; omega) | (simp (disch := first | exact hK.a (by decide) | exact hK.m (by decide) | exact hK) only [pc_g, pc_up, pc_fl, pc_pby (μ := μ) hK, pcP_1, pcP_2, lq_th (μ := μ) hK]; done) | (simp (disch := first | exact hK.a (by decide) | exact hK.m (by decide) | exact hK) only [pc_g, pc_up, pc_fl, pc_pby (μ := μ) hK, pcP_1, pcP_2, lq_th (μ := μ) hK]; rfl)
theorem lq_olines (hK : KQc μ K) : o_lines μ (pc K w B) = pcP K w (o_lines μ B) := by
  unfold o_lines
  simp (disch := first | exact hK.a (by decide) | exact hK.m (by decide) | exact hK) only [pc_g, pc_up, pc_fl, pc_pby (μ := μ) hK, pcP_1, pcP_2, lq_th (μ := μ) hK, lq_fee (μ := μ) hK]
  try (repeat' split)
  all_goals first | rfl | contradiction | (exfalso; omega) | (simp (disch := first | exact hK.a (by decide) | exact hK.m (by decide) | exact hK) only [pc_g, pc_up, pc_fl, pc_pby (μ := μ) hK, pcP_1, pcP_2, lq_th (μ := μ) hK, lq_fee (μ := μ) hK]; done) | (simp (disch := first | exact hK.a (by decide) | exact hK.m (by decide) | exact hK) only [pc_g, pc_up, pc_fl, pc_pby (μ := μ) hK, pcP_1, pcP_2, lq_th (μ := μ) hK, lq_fee (μ := μ) hK]; rfl)
theorem lq_oviewStart (hK : KQc μ K) : o_viewStart μ (pc K w B) = pcP K w (o_viewStart μ B) := by
  unfold o_viewStart
  simp (disch := first | exact hK.a (by decide) | exact hK.m (by decide) | exact hK) only [pc_g, pc_up, pc_fl, pc_pby (μ := μ) hK, pcP_1, pcP_2, lq_vF (μ := μ) hK, lq_th (μ := μ) hK]
  try (repeat' split)
  all_goals first | rfl | contradiction | (exfalso; omega) | (simp (disch := first | exact hK.a (by decide) | exact hK.m (by decide) | exact hK) only [pc_g, pc_up, pc_fl, pc_pby (μ := μ) hK, pcP_1, pcP_2, lq_vF (μ := μ) hK, lq_th (μ := μ) hK]; done) | (simp (disch := first | exact hK.a (by decide) | exact hK.m (by decide) | exact hK) only [pc_g, pc_up, pc_fl, pc_pby (μ := μ) hK, pcP_1, pcP_2, lq_vF (μ := μ) hK, lq_th (μ := μ) hK]; rfl)
theorem lq_oviewEnd (hK : KQc μ K) : o_viewEnd μ (pc K w B) = pcP K w (o_viewEnd μ B) := by
  unfold o_viewEnd
  simp (disch := first | exact hK.a (by decide) | exact hK.m (by decide) | exact hK) only [pc_g, pc_up, pc_fl, pc_pby (μ := μ) hK, pcP_1, pcP_2, lq_vT (μ := μ) hK, lq_th (μ := μ) hK]
  try (repeat' split)
  all_goals first | rfl | contradiction | (exfalso; omega) | (simp (disch := first | exact hK.a (by decide) | exact hK.m (by decide) | exact hK) only [pc_g, pc_up, pc_fl, pc_pby (μ := μ) hK, pcP_1, pcP_2, lq_vT (μ := μ) hK, lq_th (μ := μ) hK]; done) | (simp (disch := first | exact hK.a (by decide) | exact hK.m (by decide) | exact hK) only [pc_g, pc_up, pc_fl, pc_pby (μ := μ) hK, pcP_1, pcP_2, lq_vT (μ := μ) hK, lq_th (μ := μ) hK]; rfl)
theorem lq_onow (hK : KQc μ K) : o_now μ (pc K w B) = pcP K w (o_now μ B) := by
  unfold o_now
  simp (disch := first | exact hK.a (by decide) | exact hK.m (by decide) | exact hK) only [pc_g, pc_up, pc_fl, pc_pby (μ := μ) hK, pcP_1, pcP_2, lq_th (μ := μ) hK]
  try (repeat' split)
  all_goals first | rfl | contradiction | (exfalso; omega) | (simp (disch := first | exact hK.a (by decide) | exact hK.m (by decide) | exact hK) only [pc_g, pc_up, pc_fl, pc_pby (μ := μ) hK, pcP_1, pcP_2, lq_th (μ := μ) hK]; done) | (simp (disch := first | exact hK.a (by decide) | exact hK.m (by decide) | exact hK) only [pc_g, pc_up, pc_fl, pc_pby (μ := μ) hK, pcP_1, pcP_2, lq_th (μ := μ) hK]; rfl)
theorem lq_onodes (hK : KQc μ K) : o_nodes μ (pc K w B) = pcP K w (o_nodes μ B) := by
  unfold o_nodes
  simp (disch := first | exact hK.a (by decide) | exact hK.m (by decide) | exact hK) only [pc_g, pc_up, pc_fl, pc_pby (μ := μ) hK, pcP_1, pcP_2, lq_th (μ := μ) hK]
  try (repeat' split)
  all_goals first | rfl | contradiction | (exfalso; omega) | (simp (disch := first | exact hK.a (by decide) | exact hK.m (by decide) | exact hK) only [pc_g, pc_up, pc_fl, pc_pby (μ := μ) hK, pcP_1, pcP_2, lq_th (μ := μ) hK]; done) | (simp (disch := first | exact hK.a (by decide) | exact hK.m (by decide) | exact hK) only [pc_g, pc_up, pc_fl, pc_pby (μ := μ) hK, pcP_1, pcP_2, lq_th (μ := μ) hK]; rfl)
theorem lq_ofailureReason (hK : KQc μ K) : o_failureReason μ (pc K w B) = pcP K w (o_failureReason μ B) := by
  unfold o_failureReason
  simp (disch := first | exact hK.a (by decide) | exact hK.m (by decide) | exact hK) only [pc_g, pc_up, pc_fl, pc_pby (μ := μ) hK, pcP_1, pcP_2, lq_th (μ := μ) hK]
  try (repeat' split)
  all_goals first | rfl | contradiction | (exfalso; omega) | (simp (disch := first | exact hK.a (by decide) | exact hK.m (by decide) | exact hK) only [pc_g, pc_up, pc_fl, pc_pby (μ := μ) hK, pcP_1, pcP_2, lq_th (μ := μ) hK]; done) | (simp (disch := first | exact hK.a (by decide) | exact hK.m (by decide) | exact hK) only [pc_g, pc_up, pc_fl, pc_pby (μ := μ) hK, pcP_1, pcP_2, lq_th (μ := μ) hK]; rfl)
theorem lq_ofailureCommand (hK : KQc μ K) : o_failureCommand μ (pc K w B) = pcP K w (o_failureCommand μ B) := by
  unfold o_failureCommand
  simp (disch := first | exact hK.a (by decide) | exact hK.m (by decide) | exact hK) only [pc_g, pc_up, pc_fl, pc_pby (μ := μ) hK, pcP_1, pcP_2, lq_th (μ := μ) hK]
  try (repeat' split)
  all_goals first | rfl | contradiction | (exfalso; omega) | (simp (disch := first | exact hK.a (by decide) | exact hK.m (by decide) | exact hK) only [pc_g, pc_up, pc_fl, pc_pby (μ := μ) hK, pcP_1, pcP_2, lq_th (μ := μ) hK]; done) | (simp (disch := first | exact hK.a (by decide) | exact hK.m (by decide) | exact hK) only [pc_g, pc_up, pc_fl, pc_pby (μ := μ) hK, pcP_1, pcP_2, lq_th (μ := μ) hK]; rfl)
theorem lq_ocharAt (hK : KQc μ K) (c : Int) : o_charAt μ c (pc K w B) = pcP K w (o_charAt μ c B) := by
  unfold o_charAt
  simp (disch := first | exact hK.a (by decide) | exact hK.m (by decide) | exact hK) only [pc_g, pc_up, pc_fl, pc_pby (μ := μ) hK, pcP_1, pcP_2, lq_th (μ := μ) hK]
  try (repeat' split)
  all_goals first | rfl | contradiction | (exfalso; omega) | (simp (disch := first | exact hK.a (by decide) | exact hK.m (by decide) | exact hK) only [pc_g, pc_up, pc_fl, pc_pby (μ := μ) hK, pcP_1, pcP_2, lq_th (μ := μ) hK]; done) | (simp (disch := first | exact hK.a (by decide) | exact hK.m (by decide) | exact hK) only [pc_g, pc_up, pc_fl, pc_pby (μ := μ) hK, pcP_1, pcP_2, lq_th (μ := μ) hK]; rfl)
theorem lq_olineOf (hK : KQc μ K) (c : Int) : o_lineOf μ c (pc K w B) = pcP K w (o_lineOf μ c B) := by
  unfold o_lineOf
  simp (disch := first | exact hK.a (by decide) | exact hK.m (by decide) | exact hK) only [pc_g, pc_up, pc_fl, pc_pby (μ := μ) hK, pcP_1, pcP_2, lq_th (μ := μ) hK, lq_fee (μ := μ) hK]
  try (repeat' split)
  all_goals first | rfl | contradiction | (exfalso; omega) | (simp (disch := first | exact hK.a (by decide) | exact hK.m (by decide) | exact hK) only [pc_g, pc_up, pc_fl, pc_pby (μ := μ) hK, pcP_1, pcP_2, lq_th (μ := μ) hK, lq_fee (μ := μ) hK]; done) | (simp (disch := first | exact hK.a (by decide) | exact hK.m (by decide) | exact hK) only [pc_g, pc_up, pc_fl, pc_pby (μ := μ) hK, pcP_1, pcP_2, lq_th (μ := μ) hK, lq_fee (μ := μ) hK]; rfl)
theorem lq_omarkAt (hK : KQc μ K) (c : Int) : o_markAt μ c (pc K w B) = pcP K w (o_markAt μ c B) := by
  unfold o_markAt
  simp (disch := first | exact hK.a (by decide) | exact hK.m (by decide) | exact hK) only [pc_g, pc_up, pc_fl, pc_pby (μ := μ) hK, pcP_1, pcP_2, lq_ti (μ := μ) hK]
  try (repeat' split)
  all_goals first | rfl | contradiction | (exfalso; omega) | (simp (disch := first | exact hK.a (by decide) | exact hK.m (by decide) | exact hK) only [pc_g, pc_up, pc_fl, pc_pby (μ := μ) hK, pcP_1, pcP_2, lq_ti (μ := μ) hK]; done) | (simp (disch := first | exact hK.a (by decide) | exact hK.m (by decide) | exact hK) only [pc_g, pc_up, pc_fl, pc_pby (μ := μ) hK, pcP_1, pcP_2, lq_ti (μ := μ) hK]; rfl)
theorem lq_oparentOf (hK : KQc μ K) (c : Int) : o_parentOf μ c (pc K w B) = pcP K w (o_parentOf μ c B) := by
  unfold o_parentOf isN m_ti
  simp (disch := first | exact hK.a (by decide) | exact hK.m (by decide) | exact hK) only [pc_g, pc_up, pc_fl, pc_pby (μ := μ) hK, pcP_1, pcP_2, lq_ti (μ := μ) hK]
  try (repeat' split)
  all_goals first | rfl | contradiction | (exfalso; omega) | (simp (disch := first | exact hK.a (by decide) | exact hK.m (by decide) | exact hK) only [pc_g, pc_up, pc_fl, pc_pby (μ := μ) hK, pcP_1, pcP_2, lq_ti (μ := μ) hK]; done) | (simp (disch := first | exact hK.a (by decide) | exact hK.m (by decide) | exact hK) only [pc_g, pc_up, pc_fl, pc_pby (μ := μ) hK, pcP_1, pcP_2, lq_ti (μ := μ) hK]; rfl)
theorem lq_obookmarkAt (hK : KQc μ K) (c : Int) : o_bookmarkAt μ c (pc K w B) = pcP K w (o_bookmarkAt μ c B) := by
  unfold o_bookmarkAt
  simp (disch := first | exact hK.a (by decide) | exact hK.m (by decide) | exact hK) only [pc_g, pc_up, pc_fl, pc_pby (μ := μ) hK, pcP_1, pcP_2, lq_ti (μ := μ) hK]
  try (repeat' split)
  all_goals first | rfl | contradiction | (exfalso; omega) | (simp (disch := first | exact hK.a (by decide) | exact hK.m (by decide) | exact hK) only [pc_g, pc_up, pc_fl, pc_pby (μ := μ) hK, pcP_1, pcP_2, lq_ti (μ := μ) hK]; done) | (simp (disch := first | exact hK.a (by decide) | exact hK.m (by decide) | exact hK) only [pc_g, pc_up, pc_fl, pc_pby (μ := μ) hK, pcP_1, pcP_2, lq_ti (μ := μ) hK]; rfl)
theorem lq_oentries (hK : KQc μ K) (c : Int) : o_entries μ c (pc K w B) = pcP K w (o_entries μ c B) := by
  unfold o_entries
  simp (disch := first | exact hK.a (by decide) | exact hK.m (by decide) | exact hK) only [pc_g, pc_up, pc_fl, pc_pby (μ := μ) hK, pcP_1, pcP_2, lq_ti (μ := μ) hK]
  try (repeat' split)
  all_goals first | rfl | contradiction | (exfalso; omega) | (simp (disch := first | exact hK.a (by decide) | exact hK.m (by decide) | exact hK) only [pc_g, pc_up, pc_fl, pc_pby (μ := μ) hK, pcP_1, pcP_2, lq_ti (μ := μ) hK]; done) | (simp (disch := first | exact hK.a (by decide) | exact hK.m (by decide) | exact hK) only [pc_g, pc_up, pc_fl, pc_pby (μ := μ) hK, pcP_1, pcP_2, lq_ti (μ := μ) hK]; rfl)
theorem lq_ocommands (hK : KQc μ K) (c : Int) : o_commands μ c (pc K w B) = pcP K w (o_commands μ c B) := by
  unfold o_commands
  simp (disch := first | exact hK.a (by decide) | exact hK.m (by decide) | exact hK) only [pc_g, pc_up, pc_fl, pc_pby (μ := μ) hK, pcP_1, pcP_2, lq_th (μ := μ) hK]
  try (repeat' split)
  all_goals first | rfl | contradiction | (exfalso; omega) | (simp (disch := first | exact hK.a (by decide) | exact hK.m (by decide) | exact hK) only [pc_g, pc_up, pc_fl, pc_pby (μ := μ) hK, pcP_1, pcP_2, lq_th (μ := μ) hK]; done) | (simp (disch := first | exact hK.a (by decide) | exact hK.m (by decide) | exact hK) only [pc_g, pc_up, pc_fl, pc_pby (μ := μ) hK, pcP_1, pcP_2, lq_th (μ := μ) hK]; rfl)
theorem lq_olistenerChain (hK : KQc μ K) (c : Int) : o_listenerChain μ c (pc K w B) = pcP K w (o_listenerChain μ c B) := by
  unfold o_listenerChain
  simp (disch := first | exact hK.a (by decide) | exact hK.m (by decide) | exact hK) only [pc_g, pc_up, pc_fl, pc_pby (μ := μ) hK, pcP_1, pcP_2, lq_th (μ := μ) hK]
  try (repeat' split)
  all_goals first | rfl | contradiction | (exfalso; omega) | (simp (disch := first | exact hK.a (by decide) | exact hK.m (by decide) | exact hK) only [pc_g, pc_up, pc_fl, pc_pby (μ := μ) hK, pcP_1, pcP_2, lq_th (μ := μ) hK]; done) | (simp (disch := first | exact hK.a (by decide) | exact hK.m (by decide) | exact hK) only [pc_g, pc_up, pc_fl, pc_pby (μ := μ) hK, pcP_1, pcP_2, lq_th (μ := μ) hK]; rfl)
theorem lq_olineStart (hK : KQc μ K) (c : Int) : o_lineStart μ c (pc K w B) = pcP K w (o_lineStart μ c B) := by
  unfold o_lineStart
  simp (disch := first | exact hK.a (by decide) | exact hK.m (by decide) | exact hK) only [pc_g, pc_up, pc_fl, pc_pby (μ := μ) hK, pcP_1, pcP_2, lq_th (μ := μ) hK, lq_fee (μ := μ) hK, lq_lns (μ := μ) hK]
  try (repeat' split)
  all_goals first | rfl | contradiction | (exfalso; omega) | (simp (disch := first | exact hK.a (by decide) | exact hK.m (by decide) | exact hK) only [pc_g, pc_up, pc_fl, pc_pby (μ := μ) hK, pcP_1, pcP_2, lq_th (μ := μ) hK, lq_fee (μ := μ) hK, lq_lns (μ := μ) hK]; done) | (simp (disch := first | exact hK.a (by decide) | exact hK.m (by decide) | exact hK) only [pc_g, pc_up, pc_fl, pc_pby (μ := μ) hK, pcP_1, pcP_2, lq_th (μ := μ) hK, lq_fee (μ := μ) hK, lq_lns (μ := μ) hK]; rfl)
theorem lq_onewestChild (hK : KQc μ K) (c : Int) : o_newestChild μ c (pc K w B) = pcP K w (o_newestChild μ c B) := by
  unfold o_newestChild isN m_ti
  simp (disch := first | exact hK.a (by decide) | exact hK.m (by decide) | exact hK) only [pc_g, pc_up, pc_fl, pc_pby (μ := μ) hK, pcP_1, pcP_2, lq_nwst (μ := μ) hK, lq_ti (μ := μ) hK]
  try (repeat' split)
  all_goals first | rfl | contradiction | (exfalso; omega) | (simp (disch := first | exact hK.a (by decide) | exact hK.m (by decide) | exact hK) only [pc_g, pc_up, pc_fl, pc_pby (μ := μ) hK, pcP_1, pcP_2, lq_nwst (μ := μ) hK, lq_ti (μ := μ) hK]; done) | (simp (disch := first | exact hK.a (by decide) | exact hK.m (by decide) | exact hK) only [pc_g, pc_up, pc_fl, pc_pby (μ := μ) hK, pcP_1, pcP_2, lq_nwst (μ := μ) hK, lq_ti (μ := μ) hK]; rfl)
theorem lq_oentryLength (hK : KQc μ K) (s e : Int) : o_entryLength μ s e (pc K w B) = pcP K w (o_entryLength μ s e B) := by
  unfold o_entryLength isE m_ti
  simp (disch := first | exact hK.a (by decide) | exact hK.m (by decide) | exact hK) only [pc_g, pc_up, pc_fl, pc_pby (μ := μ) hK, pcP_1, pcP_2, lq_ti (μ := μ) hK]
  try (repeat' split)
  all_goals first | rfl | contradiction | (exfalso; omega) | (simp (disch := first | exact hK.a (by decide) | exact hK.m (by decide) | exact hK) only [pc_g, pc_up, pc_fl, pc_pby (μ := μ) hK, pcP_1, pcP_2, lq_ti (μ := μ) hK]; done) | (simp (disch := first | exact hK.a (by decide) | exact hK.m (by decide) | exact hK) only [pc_g, pc_up, pc_fl, pc_pby (μ := μ) hK, pcP_1, pcP_2, lq_ti (μ := μ) hK]; rfl)
theorem lq_oentryChar (hK : KQc μ K) (s e k : Int) : o_entryChar μ s e k (pc K w B) = pcP K w (o_entryChar μ s e k B) := by
  unfold o_entryChar isE m_ti m_th
  simp (disch := first | exact hK.a (by decide) | exact hK.m (by decide) | exact hK) only [pc_g, pc_up, pc_fl, pc_pby (μ := μ) hK, pcP_1, pcP_2, lq_th (μ := μ) hK, lq_ti (μ := μ) hK]
  try (repeat' split)
  all_goals first | rfl | contradiction | (exfalso; omega) | (simp (disch := first | exact hK.a (by decide) | exact hK.m (by decide) | exact hK) only [pc_g, pc_up, pc_fl, pc_pby (μ := μ) hK, pcP_1, pcP_2, lq_th (μ := μ) hK, lq_ti (μ := μ) hK]; done) | (simp (disch := first | exact hK.a (by decide) | exact hK.m (by decide) | exact hK) only [pc_g, pc_up, pc_fl, pc_pby (μ := μ) hK, pcP_1, pcP_2, lq_th (μ := μ) hK, lq_ti (μ := μ) hK]; rfl)
theorem lq_cl1 (hK : KQc μ K) {p : Int × Mm} : m_cl1 μ (pcP K w p) = pcP K w (m_cl1 μ p) := by
  obtain ⟨p1, p2⟩ := p
  unfold m_cl1
  simp (disch := first | exact hK.a (by decide) | exact hK.m (by decide) | exact hK) only [pc_g, pc_up, pc_fl, pc_pby (μ := μ) hK, pcP_1, pcP_2]
  try (repeat' split)
  all_goals first | rfl | contradiction | (exfalso; omega) | (simp (disch := first | exact hK.a (by decide) | exact hK.m (by decide) | exact hK) only [pc_g, pc_up, pc_fl, pc_pby (μ := μ) hK, pcP_1, pcP_2]; done) | (simp (disch := first | exact hK.a (by decide) | exact hK.m (by decide) | exact hK) only [pc_g, pc_up, pc_fl, pc_pby (μ := μ) hK, pcP_1, pcP_2]; rfl)
theorem lq_clW (hK : KQc μ K) : m_clW μ (pc K w B) = pc K w (m_clW μ B) := by
  unfold m_clW
  simp (disch := first | exact hK.a (by decide) | exact hK.m (by decide) | exact hK) only [pc_g, pc_up, pc_fl, pc_pby (μ := μ) hK, pcP_1, pcP_2, lq_saves (μ := μ) hK]
theorem lq_oclose (hK : KQc μ K) : o_close μ (pc K w B) = pcP K w (o_close μ B) := by
  unfold o_close
  simp (disch := first | exact hK.a (by decide) | exact hK.m (by decide) | exact hK) only [pc_g, pc_up, pc_fl, pc_pby (μ := μ) hK, pcP_1, pcP_2, lq_ends (μ := μ) hK, lq_th (μ := μ) hK, lq_cl1 (μ := μ) hK, lq_clW (μ := μ) hK]
  try (repeat' split)
  all_goals first | rfl | contradiction | (exfalso; omega) | (simp (disch := first | exact hK.a (by decide) | exact hK.m (by decide) | exact hK) only [pc_g, pc_up, pc_fl, pc_pby (μ := μ) hK, pcP_1, pcP_2, lq_ends (μ := μ) hK, lq_th (μ := μ) hK, lq_cl1 (μ := μ) hK, lq_clW (μ := μ) hK]; done) | (simp (disch := first | exact hK.a (by decide) | exact hK.m (by decide) | exact hK) only [pc_g, pc_up, pc_fl, pc_pby (μ := μ) hK, pcP_1, pcP_2, lq_ends (μ := μ) hK, lq_th (μ := μ) hK, lq_cl1 (μ := μ) hK, lq_clW (μ := μ) hK]; rfl)
theorem lq_trW (hK : KQc μ K) (h1 : K 211 0 = false) (s : Int) : m_trW μ s (pc K w B) = pc K w (m_trW μ s B) := by
  unfold m_trW
  simp (disch := first | exact hK.a (by decide) | exact hK.m (by decide) | exact hK | exact h1) only [pc_g, pc_up, pc_fl, pc_pby (μ := μ) hK, pcP_1, pcP_2, lq_tells (μ := μ) hK, lq_saves (μ := μ) hK, lq_th (μ := μ) hK]
  try (repeat' split)
  all_goals first | rfl | contradiction | (exfalso; omega) | (simp (disch := first | exact hK.a (by decide) | exact hK.m (by decide) | exact hK | exact h1) only [pc_g, pc_up, pc_fl, pc_pby (μ := μ) hK, pcP_1, pcP_2, lq_tells (μ := μ) hK, lq_saves (μ := μ) hK, lq_th (μ := μ) hK]; done) | (simp (disch := first | exact hK.a (by decide) | exact hK.m (by decide) | exact hK | exact h1) only [pc_g, pc_up, pc_fl, pc_pby (μ := μ) hK, pcP_1, pcP_2, lq_tells (μ := μ) hK, lq_saves (μ := μ) hK, lq_th (μ := μ) hK]; rfl)
theorem lq_tr1 (hK : KQc μ K) (h1 : K 211 0 = false) {p : Int × Mm} (s : Int) : m_tr1 μ s (pcP K w p) = pc K w (m_tr1 μ s p) := by
  obtain ⟨p1, p2⟩ := p
  unfold m_tr1
  simp (disch := first | exact hK.a (by decide) | exact hK.m (by decide) | exact hK | exact h1) only [pc_g, pc_up, pc_fl, pc_pby (μ := μ) hK, pcP_1, pcP_2]
  try (repeat' split)
  all_goals first | rfl | contradiction | (exfalso; omega) | (simp (disch := first | exact hK.a (by decide) | exact hK.m (by decide) | exact hK | exact h1) only [pc_g, pc_up, pc_fl, pc_pby (μ := μ) hK, pcP_1, pcP_2]; done) | (simp (disch := first | exact hK.a (by decide) | exact hK.m (by decide) | exact hK | exact h1) only [pc_g, pc_up, pc_fl, pc_pby (μ := μ) hK, pcP_1, pcP_2]; rfl)
theorem lq_otrack (hK : KQc μ K) (h1 : K 211 0 = false) (s : Int) : o_track μ s (pc K w B) = pc K w (o_track μ s B) := by
  unfold o_track
  simp (disch := first | exact hK.a (by decide) | exact hK.m (by decide) | exact hK | exact h1) only [pc_g, pc_up, pc_fl, pc_pby (μ := μ) hK, pcP_1, pcP_2, lq_ends (μ := μ) hK, lq_th (μ := μ) hK, lq_trW (μ := μ) hK h1, lq_tr1 (μ := μ) hK h1]
  try (repeat' split)
  all_goals first | rfl | contradiction | (exfalso; omega) | (simp (disch := first | exact hK.a (by decide) | exact hK.m (by decide) | exact hK | exact h1) only [pc_g, pc_up, pc_fl, pc_pby (μ := μ) hK, pcP_1, pcP_2, lq_ends (μ := μ) hK, lq_th (μ := μ) hK, lq_trW (μ := μ) hK h1, lq_tr1 (μ := μ) hK h1]; done) | (simp (disch := first | exact hK.a (by decide) | exact hK.m (by decide) | exact hK | exact h1) only [pc_g, pc_up, pc_fl, pc_pby (μ := μ) hK, pcP_1, pcP_2, lq_ends (μ := μ) hK, lq_th (μ := μ) hK, lq_trW (μ := μ) hK h1, lq_tr1 (μ := μ) hK h1]; rfl)
theorem lq_osetBudget (hK : KQc μ K) (c : Int) : o_setBudget μ c (pc K w B) = pcP K w (o_setBudget μ c B) := by
  unfold o_setBudget
  simp (disch := first | exact hK.a (by decide) | exact hK.m (by decide) | exact hK) only [pc_g, pc_up, pc_fl, pc_pby (μ := μ) hK, pcP_1, pcP_2, lq_mrgs (μ := μ) hK, lq_th (μ := μ) hK]
  try (repeat' split)
  all_goals first | rfl | contradiction | (exfalso; omega) | (simp (disch := first | exact hK.a (by decide) | exact hK.m (by decide) | exact hK) only [pc_g, pc_up, pc_fl, pc_pby (μ := μ) hK, pcP_1, pcP_2, lq_mrgs (μ := μ) hK, lq_th (μ := μ) hK]; done) | (simp (disch := first | exact hK.a (by decide) | exact hK.m (by decide) | exact hK) only [pc_g, pc_up, pc_fl, pc_pby (μ := μ) hK, pcP_1, pcP_2, lq_mrgs (μ := μ) hK, lq_th (μ := μ) hK]; rfl)
theorem lq_stW (hK : KQc μ K) (m : Int) : m_stW μ m (pc K w B) = pc K w (m_stW μ m B) := by
  unfold m_stW
  simp (disch := first | exact hK.a (by decide) | exact hK.m (by decide) | exact hK) only [pc_g, pc_up, pc_fl, pc_pby (μ := μ) hK, pcP_1, pcP_2]
theorem lq_st1 (hK : KQc μ K) (m : Int) : m_st1 μ m (pc K w B) = pcP K w (m_st1 μ m B) := by
  unfold m_st1
  simp (disch := first | exact hK.a (by decide) | exact hK.m (by decide) | exact hK) only [pc_g, pc_up, pc_fl, pc_pby (μ := μ) hK, pcP_1, pcP_2, lq_stW (μ := μ) hK]
  try (repeat' split)
  all_goals first | rfl | contradiction | (exfalso; omega) | (simp (disch := first | exact hK.a (by decide) | exact hK.m (by decide) | exact hK) only [pc_g, pc_up, pc_fl, pc_pby (μ := μ) hK, pcP_1, pcP_2, lq_stW (μ := μ) hK]; done) | (simp (disch := first | exact hK.a (by decide) | exact hK.m (by decide) | exact hK) only [pc_g, pc_up, pc_fl, pc_pby (μ := μ) hK, pcP_1, pcP_2, lq_stW (μ := μ) hK]; rfl)
theorem lq_ostop (hK : KQc μ K) : o_stop μ (pc K w B) = pcP K w (o_stop μ B) := by
  unfold o_stop
  simp (disch := first | exact hK.a (by decide) | exact hK.m (by decide) | exact hK) only [pc_g, pc_up, pc_fl, pc_pby (μ := μ) hK, pcP_1, pcP_2, lq_th (μ := μ) hK, lq_st1 (μ := μ) hK]
  try (repeat' split)
  all_goals first | rfl | contradiction | (exfalso; omega) | (simp (disch := first | exact hK.a (by decide) | exact hK.m (by decide) | exact hK) only [pc_g, pc_up, pc_fl, pc_pby (μ := μ) hK, pcP_1, pcP_2, lq_th (μ := μ) hK, lq_st1 (μ := μ) hK]; done) | (simp (disch := first | exact hK.a (by decide) | exact hK.m (by decide) | exact hK) only [pc_g, pc_up, pc_fl, pc_pby (μ := μ) hK, pcP_1, pcP_2, lq_th (μ := μ) hK, lq_st1 (μ := μ) hK]; rfl)
theorem lq_ex1 (hK : KQc μ K) (c : Int) : m_ex1 μ c (pc K w B) = pc K w (m_ex1 μ c B) := by
  unfold m_ex1
  simp (disch := first | exact hK.a (by decide) | exact hK.m (by decide) | exact hK) only [pc_g, pc_up, pc_fl, pc_pby (μ := μ) hK, pcP_1, pcP_2, lq_pool (μ := μ) hK, lq_opens (μ := μ) hK]
theorem lq_ex2 (hK : KQc μ K) (h : Int) : m_ex2 μ h (pc K w B) = pc K w (m_ex2 μ h B) := by
  unfold m_ex2
  simp (disch := first | exact hK.a (by decide) | exact hK.m (by decide) | exact hK) only [pc_g, pc_up, pc_fl, pc_pby (μ := μ) hK, pcP_1, pcP_2]
theorem lq_ex3 (hK : KQc μ K) (l : Int) : m_ex3 μ l (pc K w B) = pc K w (m_ex3 μ l B) := by
  unfold m_ex3
  simp (disch := first | exact hK.a (by decide) | exact hK.m (by decide) | exact hK) only [pc_g, pc_up, pc_fl, pc_pby (μ := μ) hK, pcP_1, pcP_2]
theorem lq_ex4 (hK : KQc μ K) {p : Int × Mm} (h l : Int) : m_ex4 μ h l (pcP K w p) = pcP K w (m_ex4 μ h l p) := by
  obtain ⟨p1, p2⟩ := p
  unfold m_ex4
  simp (disch := first | exact hK.a (by decide) | exact hK.m (by decide) | exact hK) only [pc_g, pc_up, pc_fl, pc_pby (μ := μ) hK, pcP_1, pcP_2, lq_rest1 (μ := μ) hK, lq_ex2 (μ := μ) hK, lq_ex3 (μ := μ) hK]
  try (repeat' split)
  all_goals first | rfl | contradiction | (exfalso; omega) | (simp (disch := first | exact hK.a (by decide) | exact hK.m (by decide) | exact hK) only [pc_g, pc_up, pc_fl, pc_pby (μ := μ) hK, pcP_1, pcP_2, lq_rest1 (μ := μ) hK, lq_ex2 (μ := μ) hK, lq_ex3 (μ := μ) hK]; done) | (simp (disch := first | exact hK.a (by decide) | exact hK.m (by decide) | exact hK) only [pc_g, pc_up, pc_fl, pc_pby (μ := μ) hK, pcP_1, pcP_2, lq_rest1 (μ := μ) hK, lq_ex2 (μ := μ) hK, lq_ex3 (μ := μ) hK]; rfl)
theorem lq_ext (hK : KQc μ K) (c : Int) : m_ext μ c (pc K w B) = pcP K w (m_ext μ c B) := by
  unfold m_ext
  simp (disch := first | exact hK.a (by decide) | exact hK.m (by decide) | exact hK) only [pc_g, pc_up, pc_fl, pc_pby (μ := μ) hK, pcP_1, pcP_2, lq_ntf (μ := μ) hK, lq_saves (μ := μ) hK, lq_ex1 (μ := μ) hK, lq_ex4 (μ := μ) hK]
  try (repeat' split)
  all_goals first | rfl | contradiction | (exfalso; omega) | (simp (disch := first | exact hK.a (by decide) | exact hK.m (by decide) | exact hK) only [pc_g, pc_up, pc_fl, pc_pby (μ := μ) hK, pcP_1, pcP_2, lq_ntf (μ := μ) hK, lq_saves (μ := μ) hK, lq_ex1 (μ := μ) hK, lq_ex4 (μ := μ) hK]; done) | (simp (disch := first | exact hK.a (by decide) | exact hK.m (by decide) | exact hK) only [pc_g, pc_up, pc_fl, pc_pby (μ := μ) hK, pcP_1, pcP_2, lq_ntf (μ := μ) hK, lq_saves (μ := μ) hK, lq_ex1 (μ := μ) hK, lq_ex4 (μ := μ) hK]; rfl)
theorem lq_in3 (hK : KQc μ K) (c : Int) : m_in3 μ c (pc K w B) = pcP K w (m_in3 μ c B) := by
  unfold m_in3
  simp (disch := first | exact hK.a (by decide) | exact hK.m (by decide) | exact hK) only [pc_g, pc_up, pc_fl, pc_pby (μ := μ) hK, pcP_1, pcP_2]
  try (repeat' split)
  all_goals first | rfl | contradiction | (exfalso; omega) | (simp (disch := first | exact hK.a (by decide) | exact hK.m (by decide) | exact hK) only [pc_g, pc_up, pc_fl, pc_pby (μ := μ) hK, pcP_1, pcP_2]; done) | (simp (disch := first | exact hK.a (by decide) | exact hK.m (by decide) | exact hK) only [pc_g, pc_up, pc_fl, pc_pby (μ := μ) hK, pcP_1, pcP_2]; rfl)
theorem lq_in1 (hK : KQc μ K) {p : Int × Mm} (c : Int) : m_in1 μ c (pcP K w p) = pcP K w (m_in1 μ c p) := by
  obtain ⟨p1, p2⟩ := p
  unfold m_in1
  simp (disch := first | exact hK.a (by decide) | exact hK.m (by decide) | exact hK) only [pc_g, pc_up, pc_fl, pc_pby (μ := μ) hK, pcP_1, pcP_2, lq_rec (μ := μ) hK, lq_in3 (μ := μ) hK]
  try (repeat' split)
  all_goals first | rfl | contradiction | (exfalso; omega) | (simp (disch := first | exact hK.a (by decide) | exact hK.m (by decide) | exact hK) only [pc_g, pc_up, pc_fl, pc_pby (μ := μ) hK, pcP_1, pcP_2, lq_rec (μ := μ) hK, lq_in3 (μ := μ) hK]; done) | (simp (disch := first | exact hK.a (by decide) | exact hK.m (by decide) | exact hK) only [pc_g, pc_up, pc_fl, pc_pby (μ := μ) hK, pcP_1, pcP_2, lq_rec (μ := μ) hK, lq_in3 (μ := μ) hK]; rfl)
theorem lq_in2 (hK : KQc μ K) (c h : Int) : m_in2 μ c h (pc K w B) = pcP K w (m_in2 μ c h B) := by
  unfold m_in2
  simp (disch := first | exact hK.a (by decide) | exact hK.m (by decide) | exact hK) only [pc_g, pc_up, pc_fl, pc_pby (μ := μ) hK, pcP_1, pcP_2, lq_in3 (μ := μ) hK]
  try (repeat' split)
  all_goals first | rfl | contradiction | (exfalso; omega) | (simp (disch := first | exact hK.a (by decide) | exact hK.m (by decide) | exact hK) only [pc_g, pc_up, pc_fl, pc_pby (μ := μ) hK, pcP_1, pcP_2, lq_in3 (μ := μ) hK]; done) | (simp (disch := first | exact hK.a (by decide) | exact hK.m (by decide) | exact hK) only [pc_g, pc_up, pc_fl, pc_pby (μ := μ) hK, pcP_1, pcP_2, lq_in3 (μ := μ) hK]; rfl)
theorem lq_oinsert (hK : KQc μ K) (h1 : K 211 0 = false) (c : Int) : o_insert μ c (pc K w B) = pcP K w (o_insert μ c B) := by
  unfold o_insert m_cty m_full
  simp (disch := first | exact hK.a (by decide) | exact hK.m (by decide) | exact hK | exact h1) only [pc_g, pc_up, pc_fl, pc_pby (μ := μ) hK, pcP_1, pcP_2, lq_ti (μ := μ) hK, lq_cal (μ := μ) hK h1, lq_ext (μ := μ) hK, lq_in1 (μ := μ) hK, lq_in2 (μ := μ) hK]
  try (repeat' split)
  all_goals first | rfl | contradiction | (exfalso; omega) | (simp (disch := first | exact hK.a (by decide) | exact hK.m (by decide) | exact hK | exact h1) only [pc_g, pc_up, pc_fl, pc_pby (μ := μ) hK, pcP_1, pcP_2, lq_ti (μ := μ) hK, lq_cal (μ := μ) hK h1, lq_ext (μ := μ) hK, lq_in1 (μ := μ) hK, lq_in2 (μ := μ) hK]; done) | (simp (disch := first | exact hK.a (by decide) | exact hK.m (by decide) | exact hK | exact h1) only [pc_g, pc_up, pc_fl, pc_pby (μ := μ) hK, pcP_1, pcP_2, lq_ti (μ := μ) hK, lq_cal (μ := μ) hK h1, lq_ext (μ := μ) hK, lq_in1 (μ := μ) hK, lq_in2 (μ := μ) hK]; rfl)
end LQB
