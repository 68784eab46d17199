/-! locality of runs, replays, walks -/
section LQC
variable {K : Nat → Int → Bool} {w B b : Mm} {μ : MU}
theorem lq_gat (hK : KQc μ K) (l : Int) : m_gat l (pc K w B) = m_gat l B := by
  unfold m_gat
  simp (disch := first | exact hK.a (by decide) | exact hK.m (by decide) | exact hK) only [pc_g, pc_up, pc_fl, pc_pby (μ := μ) hK, pcP_1, pcP_2]
theorem lq_gpl (hK : KQc μ K) (l : Int) : m_gpl l (pc K w B) = pc K w (m_gpl l B) := by
  unfold m_gpl
  simp (disch := first | exact hK.a (by decide) | exact hK.m (by decide) | exact hK) only [pc_g, pc_up, pc_fl, pc_pby (μ := μ) hK, pcP_1, pcP_2]
theorem lq_gdn (hK : KQc μ K) (l a b : Int) : m_gdn l a b (pc K w B) = pc K w (m_gdn l a b B) := by
  unfold m_gdn
  simp (disch := first | exact hK.a (by decide) | exact hK.m (by decide) | exact hK) only [pc_g, pc_up, pc_fl, pc_pby (μ := μ) hK, pcP_1, pcP_2]
theorem lq_fail (hK : KQc μ K) (r m p : Int) : m_fail μ r m p (pc K w B) = pc K w (m_fail μ r m p B) := by
  unfold m_fail
  simp (disch := first | exact hK.a (by decide) | exact hK.m (by decide) | exact hK) only [pc_g, pc_up, pc_fl, pc_pby (μ := μ) hK, pcP_1, pcP_2]
theorem lq_gst (hK : KQc μ K) (m k : Int) : m_gst μ m k (pc K w B) = pc K w (m_gst μ m k B) := by
  unfold m_gst
  simp (disch := first | exact hK.a (by decide) | exact hK.m (by decide) | exact hK) only [pc_g, pc_up, pc_fl, pc_pby (μ := μ) hK, pcP_1, pcP_2]
theorem lq_gdo (hK : KQc μ K) (h1 : K 211 0 = false) (l : Int) : m_gdo μ l (pc K w B) = pcP K w (m_gdo μ l B) := by
  unfold m_gdo
  simp (disch := first | exact hK.a (by decide) | exact hK.m (by decide) | exact hK | exact h1) only [pc_g, pc_up, pc_fl, pc_pby (μ := μ) hK, pcP_1, pcP_2, lq_does (μ := μ) hK h1, lq_gat (μ := μ) hK, lq_gpl (μ := μ) hK]
  try (repeat' split)
  all_goals first | rfl | contradiction | (exfalso; omega) | (simp (disch := first | exact hK.a (by decide) | exact hK.m (by decide) | exact hK | exact h1) only [pc_g, pc_up, pc_fl, pc_pby (μ := μ) hK, pcP_1, pcP_2, lq_does (μ := μ) hK h1, lq_gat (μ := μ) hK, lq_gpl (μ := μ) hK]; done) | (simp (disch := first | exact hK.a (by decide) | exact hK.m (by decide) | exact hK | exact h1) only [pc_g, pc_up, pc_fl, pc_pby (μ := μ) hK, pcP_1, pcP_2, lq_does (μ := μ) hK h1, lq_gat (μ := μ) hK, lq_gpl (μ := μ) hK]; rfl)
theorem lq_grun (hK : KQc μ K) (h1 : K 211 0 = false) : ∀ (n : Nat) (l s t r : Int) (B : Mm), m_grun μ n l s t r (pc K w B) = (m_grun μ n l s t r B).map (pcR K w)
  | 0, _, _, _, _, _ => rfl
  | n + 1, l, s, t, r, B => by
    have ih := lq_grun hK h1 n
    rw [grun_step, grun_step]
    simp (disch := first | exact hK.a (by decide) | exact hK.m (by decide) | exact hK) only [pc_g, pc_up, pcP_1, pcP_2, lq_gat (μ := μ) hK, lq_gpl (μ := μ) hK, lq_gdn (μ := μ) hK, lq_fail hK, lq_saves hK, lq_gdo hK h1, ih]
    repeat' split
    all_goals first | rfl | contradiction | (exfalso; omega)
theorem lq_grR (hK : KQc μ K) (h1 : K 211 0 = false) (m k : Int) : m_grR μ m k (pc K w B) = pcR K w (m_grR μ m k B) := by
  unfold m_grR
  rw [lq_gst hK, lq_grun hK h1]
  cases m_grun μ 5000 1 0 0 0 (m_gst μ m k B) <;> rfl
theorem lq_gen (hK : KQc μ K) (h1 : K 211 0 = false) {q : Int × Int × Int × Mm} : m_gen μ (pcR K w q) = pcP K w (m_gen μ q) := by
  obtain ⟨q1, q2, q3, q4⟩ := q
  unfold m_gen pcR
  dsimp only
  rw [lq_rest hK h1]
  split <;> rfl
theorem lq_rnW (hK : KQc μ K) : m_rnW μ (pc K w B) = pc K w (m_rnW μ B) := by
  unfold m_rnW
  simp (disch := first | exact hK.a (by decide) | exact hK.m (by decide) | exact hK) only [pc_g, pc_up, pc_fl, pc_pby (μ := μ) hK, pcP_1, pcP_2, lq_saves (μ := μ) hK, lq_th (μ := μ) hK]
theorem lq_rn2 (hK : KQc μ K) {p : Int × Mm} (m k x y t : Int) : m_rn2 μ m k x y t (pcP K w p) = pcP K w (m_rn2 μ m k x y t p) := by
  obtain ⟨p1, p2⟩ := p
  unfold m_rn2
  simp (disch := first | exact hK.a (by decide) | exact hK.m (by decide) | exact hK) only [pc_g, pc_up, pc_fl, pc_pby (μ := μ) hK, pcP_1, pcP_2, lq_rec (μ := μ) hK]
  try (repeat' split)
  all_goals first | rfl | contradiction | (exfalso; omega) | (simp (disch := first | exact hK.a (by decide) | exact hK.m (by decide) | exact hK) only [pc_g, pc_up, pc_fl, pc_pby (μ := μ) hK, pcP_1, pcP_2, lq_rec (μ := μ) hK]; done) | (simp (disch := first | exact hK.a (by decide) | exact hK.m (by decide) | exact hK) only [pc_g, pc_up, pc_fl, pc_pby (μ := μ) hK, pcP_1, pcP_2, lq_rec (μ := μ) hK]; rfl)
theorem lq_rn1 (hK : KQc μ K) {p : Int × Mm} (m k x y : Int) : m_rn1 μ m k x y (pcP K w p) = pcP K w (m_rn1 μ m k x y p) := by
  obtain ⟨p1, p2⟩ := p
  unfold m_rn1
  simp (disch := first | exact hK.a (by decide) | exact hK.m (by decide) | exact hK) only [pc_g, pc_up, pc_fl, pc_pby (μ := μ) hK, pcP_1, pcP_2, lq_ends (μ := μ) hK, lq_rn2 (μ := μ) hK]
  try (repeat' split)
  all_goals first | rfl | contradiction | (exfalso; omega) | (simp (disch := first | exact hK.a (by decide) | exact hK.m (by decide) | exact hK) only [pc_g, pc_up, pc_fl, pc_pby (μ := μ) hK, pcP_1, pcP_2, lq_ends (μ := μ) hK, lq_rn2 (μ := μ) hK]; done) | (simp (disch := first | exact hK.a (by decide) | exact hK.m (by decide) | exact hK) only [pc_g, pc_up, pc_fl, pc_pby (μ := μ) hK, pcP_1, pcP_2, lq_ends (μ := μ) hK, lq_rn2 (μ := μ) hK]; rfl)
theorem lq_orun (hK : KQc μ K) (h1 : K 211 0 = false) (m k : Int) : o_run μ m k (pc K w B) = pcP K w (o_run μ m k B) := by
  unfold o_run m_full
  simp (disch := first | exact hK.a (by decide) | exact hK.m (by decide) | exact hK | exact h1) only [pc_g, pc_up, pc_fl, pc_pby (μ := μ) hK, pcP_1, pcP_2, lq_th (μ := μ) hK, lq_grR (μ := μ) hK h1, lq_gen (μ := μ) hK h1, lq_rnW (μ := μ) hK, lq_rn1 (μ := μ) hK]
  try (repeat' split)
  all_goals first | rfl | contradiction | (exfalso; omega) | (simp (disch := first | exact hK.a (by decide) | exact hK.m (by decide) | exact hK | exact h1) only [pc_g, pc_up, pc_fl, pc_pby (μ := μ) hK, pcP_1, pcP_2, lq_th (μ := μ) hK, lq_grR (μ := μ) hK h1, lq_gen (μ := μ) hK h1, lq_rnW (μ := μ) hK, lq_rn1 (μ := μ) hK]; done) | (simp (disch := first | exact hK.a (by decide) | exact hK.m (by decide) | exact hK | exact h1) only [pc_g, pc_up, pc_fl, pc_pby (μ := μ) hK, pcP_1, pcP_2, lq_th (μ := μ) hK, lq_grR (μ := μ) hK h1, lq_gen (μ := μ) hK h1, lq_rnW (μ := μ) hK, lq_rn1 (μ := μ) hK]; rfl)
theorem lq_plen (hK : KQc μ K) : ∀ (n : Nat) (k : Int), plen (pc K w B) n k = plen B n k
  | 0, _ => rfl
  | n + 1, k => by
    simp only [plen]
    rw [pc_g (hK.a (by decide)), lq_plen hK n]
theorem lq_pln (hK : KQc μ K) (k : Int) : m_pln (pc K w B) k = m_pln B k := lq_plen hK _ _
theorem lq_anc (hK : KQc μ K) (k : Int) : ∀ n : Nat, m_anc (pc K w B) k n = m_anc B k n
  | 0 => rfl
  | n + 1 => by simp only [m_anc]; rw [pc_g (hK.a (by decide)), lq_anc hK k n]
theorem lq_fin (hK : KQc μ K) (k : Int) : m_fin μ k (pc K w B) = pc K w (m_fin μ k B) := by
  unfold m_fin
  simp (disch := first | exact hK.a (by decide) | exact hK.m (by decide) | exact hK) only [pc_g, pc_up, pc_fl, pc_pby (μ := μ) hK, pcP_1, pcP_2, lq_pln (μ := μ) hK, lq_anc (μ := μ) hK]
theorem lq_rini (hK : KQc μ K) : m_rini (pc K w B) = pc K w (m_rini B) := by
  unfold m_rini
  simp (disch := first | exact hK.a (by decide) | exact hK.m (by decide) | exact hK) only [pc_g, pc_up, pc_fl, pc_pby (μ := μ) hK, pcP_1, pcP_2]
theorem lq_rp0 (hK : KQc μ K) (x : Int) : m_rp0 μ x (pc K w B) = pc K w (m_rp0 μ x B) := by
  unfold m_rp0
  simp (disch := first | exact hK.a (by decide) | exact hK.m (by decide) | exact hK) only [pc_g, pc_up, pc_fl, pc_pby (μ := μ) hK, pcP_1, pcP_2, lq_fin (μ := μ) hK, lq_rini (μ := μ) hK]
theorem lq_sto (hK : KQc μ K) (v t : Int) : ∀ n, (m_sto v t (pc K w B) n).1 = (m_sto v t B n).1 ∧ (m_sto v t (pc K w B) n).2 = pc K w (m_sto v t B n).2 := fun n => by
  induction n with
  | zero =>
    refine ⟨by rw [sto_z, sto_z], ?_⟩
    simp only [m_sto]
    simp (disch := first | exact hK.a (by decide) | exact hK.m (by decide) | exact hK) only [pc_up, pc_pby (μ := μ) hK]
  | succ n ih =>
    have e1 := ih.1
    refine ⟨by rw [sto_s, sto_s, e1, pc_pby hK], ?_⟩
    simp only [m_sto]
    rw [e1, ih.2]
    simp (disch := first | exact hK.a (by decide) | exact hK.m (by decide) | exact hK) only [pc_up, pc_fl, pc_pby (μ := μ) hK]
theorem lq_play (hK : KQc μ K) (x t : Int) : m_play x t (pc K w B) = pcP K w (m_play x t B) := by
  refine Prod.ext (play_1 fun j => pc_pby hK j) ?_
  show (m_play x t (pc K w B)).2 = pc K w (m_play x t B).2
  unfold m_play m_ply
  split
  · show m_opn1 _ _ _ _ = pc K w (m_opn1 _ _ _ _)
    unfold m_opn1
    simp (disch := first | exact hK.a (by decide) | exact hK.m (by decide) | exact hK) only [lq_opens (μ := μ) hK, pc_fl, pc_pby (μ := μ) hK]
  · split
    · exact lq_closes hK _ _ _
    · split
      · exact pc_up (hK.a (by decide)) _ _
      · split
        · dsimp only
          simp (disch := first | exact hK.a (by decide) | exact hK.m (by decide) | exact hK) only [pc_up]
        · split
          · exact lq_trn hK _
          · split
            · split
              · dsimp only
                unfold m_buf
                simp (disch := first | exact hK.a (by decide) | exact hK.m (by decide) | exact hK) only [pc_fl, pc_pby (μ := μ) hK, lq_psh (μ := μ) hK]
              · dsimp only
                unfold m_buf
                simp (disch := first | exact hK.a (by decide) | exact hK.m (by decide) | exact hK) only [pc_fl, pc_up, pc_pby (μ := μ) hK, lq_tak (μ := μ) hK]
            · dsimp only
              rw [pc_pby hK]
              exact (lq_sto hK _ _ _).2
theorem lq_playL (hK : KQc μ K) : ∀ (L : List (Int × Int)) (B : Mm), m_playL L (pc K w B) = pc K w (m_playL L B)
  | [], _ => rfl
  | x :: xs, B => by
    simp only [m_playL]
    rw [lq_play hK x.1 x.2, pcP_2, lq_playL hK xs]
theorem lq_plist (hK : KQc μ K) : ∀ (n : Nat) (i t : Int), plist (pc K w B) n i t = plist B n i t
  | 0, _, _ => rfl
  | n + 1, i, t => by
    simp only [plist]
    rw [pc_g (hK.a (by decide)), lq_play hK, pcP_1, lq_plist hK n]
theorem lq_nodeL (hK : KQc μ K) : ∀ ps : List Int, nodeL (pc K w B) ps = nodeL B ps
  | [] => rfl
  | p :: ps => by
    simp only [nodeL]
    rw [lq_nodeL hK ps, lq_plist hK, pc_g (hK.a (by decide)), pc_g (hK.a (by decide)), pc_g (hK.a (by decide))]
theorem lq_RSn (hK : KQc μ K) (PL : Int → List Int) (x : Int) : ∀ n : Nat, RSn PL x (pc K w B) n = RSn PL x B n
  | 0 => rfl
  | n + 1 => by
    simp only [RSn]
    rw [lq_RSn hK PL x n, lq_nodeL hK, lq_pln hK, lq_anc hK]
theorem lq_RSx (hK : KQc μ K) (PL : Int → List Int) (x : Int) : RSx PL x (pc K w B) = RSx PL x B := by
  unfold RSx; rw [lq_pln hK, lq_RSn hK]
theorem lq_rpl (hK : KQc μ K) (PL : Int → List Int) (x : Int) : m_rpl μ PL x (pc K w B) = pc K w (m_rpl μ PL x B) := by
  unfold m_rpl; rw [lq_RSx hK, lq_rp0 hK, lq_playL hK]
theorem lq_wks (hK : KQc μ K) (h1 : K 211 0 = false) (PL : Int → List Int) (x : Int) : m_wks μ PL x (pc K w B) = pc K w (m_wks μ PL x B) := by
  unfold m_wks
  simp (disch := first | exact hK.a (by decide) | exact hK.m (by decide) | exact hK | exact h1) only [pc_g, pc_up, pc_fl, pc_pby (μ := μ) hK, pcP_1, pcP_2, lq_cpT (μ := μ) hK, lq_cpQ (μ := μ) hK, lq_rpl (μ := μ) hK]
  try (repeat' split)
  all_goals first | rfl | contradiction | (exfalso; omega) | (simp (disch := first | exact hK.a (by decide) | exact hK.m (by decide) | exact hK | exact h1) only [pc_g, pc_up, pc_fl, pc_pby (μ := μ) hK, pcP_1, pcP_2, lq_cpT (μ := μ) hK, lq_cpQ (μ := μ) hK, lq_rpl (μ := μ) hK]; done) | (simp (disch := first | exact hK.a (by decide) | exact hK.m (by decide) | exact hK | exact h1) only [pc_g, pc_up, pc_fl, pc_pby (μ := μ) hK, pcP_1, pcP_2, lq_cpT (μ := μ) hK, lq_cpQ (μ := μ) hK, lq_rpl (μ := μ) hK]; rfl)
theorem lq_dst (hK : KQc μ K) : ∀ (f : Nat) (a b n : Int), m_dst (pc K w B) f a b n = m_dst B f a b n
  | 0, _, _, _ => rfl
  | f + 1, a, b, n => by
    simp only [m_dst]
    rw [lq_pln hK, lq_pln hK, pc_g (hK.a (by decide)), pc_g (hK.a (by decide)), lq_dst hK f, lq_dst hK f]
theorem lq_dist (hK : KQc μ K) (a b : Int) : m_dist (pc K w B) a b = m_dist B a b := by
  unfold m_dist; rw [lq_pln hK, lq_pln hK, lq_dst hK]
theorem lq_szL (hK : KQc μ K) : ∀ L : List Int, szL (pc K w B) L = szL B L
  | [] => rfl
  | p :: ps => by simp only [szL]; rw [pc_g (hK.a (by decide)), lq_szL hK ps]
theorem lq_oundo (hK : KQc μ K) (h1 : K 211 0 = false) (PL : Int → List Int) : o_undo μ PL (pc K w B) = pcP K w (o_undo μ PL B) := by
  unfold o_undo
  simp (disch := first | exact hK.a (by decide) | exact hK.m (by decide) | exact hK | exact h1) only [pc_g, pc_up, pc_fl, pc_pby (μ := μ) hK, pcP_1, pcP_2, lq_th (μ := μ) hK, lq_wks (μ := μ) hK h1]
  try (repeat' split)
  all_goals first | rfl | contradiction | (exfalso; omega) | (simp (disch := first | exact hK.a (by decide) | exact hK.m (by decide) | exact hK | exact h1) only [pc_g, pc_up, pc_fl, pc_pby (μ := μ) hK, pcP_1, pcP_2, lq_th (μ := μ) hK, lq_wks (μ := μ) hK h1]; done) | (simp (disch := first | exact hK.a (by decide) | exact hK.m (by decide) | exact hK | exact h1) only [pc_g, pc_up, pc_fl, pc_pby (μ := μ) hK, pcP_1, pcP_2, lq_th (μ := μ) hK, lq_wks (μ := μ) hK h1]; rfl)
theorem lq_oredo (hK : KQc μ K) (h1 : K 211 0 = false) (PL : Int → List Int) : o_redo μ PL (pc K w B) = pcP K w (o_redo μ PL B) := by
  unfold o_redo
  simp (disch := first | exact hK.a (by decide) | exact hK.m (by decide) | exact hK | exact h1) only [pc_g, pc_up, pc_fl, pc_pby (μ := μ) hK, pcP_1, pcP_2, lq_nwst (μ := μ) hK, lq_th (μ := μ) hK, lq_wks (μ := μ) hK h1]
  try (repeat' split)
  all_goals first | rfl | contradiction | (exfalso; omega) | (simp (disch := first | exact hK.a (by decide) | exact hK.m (by decide) | exact hK | exact h1) only [pc_g, pc_up, pc_fl, pc_pby (μ := μ) hK, pcP_1, pcP_2, lq_nwst (μ := μ) hK, lq_th (μ := μ) hK, lq_wks (μ := μ) hK h1]; done) | (simp (disch := first | exact hK.a (by decide) | exact hK.m (by decide) | exact hK | exact h1) only [pc_g, pc_up, pc_fl, pc_pby (μ := μ) hK, pcP_1, pcP_2, lq_nwst (μ := μ) hK, lq_th (μ := μ) hK, lq_wks (μ := μ) hK h1]; rfl)
theorem lq_owalk (hK : KQc μ K) (h1 : K 211 0 = false) (PL : Int → List Int) (c : Int) : o_walk μ PL c (pc K w B) = pcP K w (o_walk μ PL c B) := by
  unfold o_walk isN m_th
  simp (disch := first | exact hK.a (by decide) | exact hK.m (by decide) | exact hK | exact h1) only [pc_g, pc_up, pc_fl, pc_pby (μ := μ) hK, pcP_1, pcP_2, lq_th (μ := μ) hK, lq_wks (μ := μ) hK h1, lq_dist (μ := μ) hK]
  try (repeat' split)
  all_goals first | rfl | contradiction | (exfalso; omega) | (simp (disch := first | exact hK.a (by decide) | exact hK.m (by decide) | exact hK | exact h1) only [pc_g, pc_up, pc_fl, pc_pby (μ := μ) hK, pcP_1, pcP_2, lq_th (μ := μ) hK, lq_wks (μ := μ) hK h1, lq_dist (μ := μ) hK]; done) | (simp (disch := first | exact hK.a (by decide) | exact hK.m (by decide) | exact hK | exact h1) only [pc_g, pc_up, pc_fl, pc_pby (μ := μ) hK, pcP_1, pcP_2, lq_th (μ := μ) hK, lq_wks (μ := μ) hK h1, lq_dist (μ := μ) hK]; rfl)
theorem lq_ostepsOf (hK : KQc μ K) (PL : Int → List Int) (c : Int) : o_stepsOf μ PL c (pc K w B) = pcP K w (o_stepsOf μ PL c B) := by
  unfold o_stepsOf isN m_ti
  simp (disch := first | exact hK.a (by decide) | exact hK.m (by decide) | exact hK) only [pc_g, pc_up, pc_fl, pc_pby (μ := μ) hK, pcP_1, pcP_2, lq_ti (μ := μ) hK, lq_szL (μ := μ) hK]
  try (repeat' split)
  all_goals first | rfl | contradiction | (exfalso; omega) | (simp (disch := first | exact hK.a (by decide) | exact hK.m (by decide) | exact hK) only [pc_g, pc_up, pc_fl, pc_pby (μ := μ) hK, pcP_1, pcP_2, lq_ti (μ := μ) hK, lq_szL (μ := μ) hK]; done) | (simp (disch := first | exact hK.a (by decide) | exact hK.m (by decide) | exact hK) only [pc_g, pc_up, pc_fl, pc_pby (μ := μ) hK, pcP_1, pcP_2, lq_ti (μ := μ) hK, lq_szL (μ := μ) hK]; rfl)
theorem lq_olengthByReplay (hK : KQc μ K) (PL : Int → List Int) (c : Int) : o_lengthByReplay μ PL c (pc K w B) = pcP K w (o_lengthByReplay μ PL c B) := by
  unfold o_lengthByReplay isN m_ti
  simp (disch := first | exact hK.a (by decide) | exact hK.m (by decide) | exact hK) only [pc_g, pc_up, pc_fl, pc_pby (μ := μ) hK, pcP_1, pcP_2, lq_ti (μ := μ) hK, lq_rpl (μ := μ) hK]
  try (repeat' split)
  all_goals first | rfl | contradiction | (exfalso; omega) | (simp (disch := first | exact hK.a (by decide) | exact hK.m (by decide) | exact hK) only [pc_g, pc_up, pc_fl, pc_pby (μ := μ) hK, pcP_1, pcP_2, lq_ti (μ := μ) hK, lq_rpl (μ := μ) hK]; done) | (simp (disch := first | exact hK.a (by decide) | exact hK.m (by decide) | exact hK) only [pc_g, pc_up, pc_fl, pc_pby (μ := μ) hK, pcP_1, pcP_2, lq_ti (μ := μ) hK, lq_rpl (μ := μ) hK]; rfl)
theorem lq_ocharByReplay (hK : KQc μ K) (PL : Int → List Int) (c k : Int) : o_charByReplay μ PL c k (pc K w B) = pcP K w (o_charByReplay μ PL c k B) := by
  unfold o_charByReplay isN m_ti m_th
  simp (disch := first | exact hK.a (by decide) | exact hK.m (by decide) | exact hK) only [pc_g, pc_up, pc_fl, pc_pby (μ := μ) hK, pcP_1, pcP_2, lq_th (μ := μ) hK, lq_ti (μ := μ) hK, lq_rpl (μ := μ) hK]
  try (repeat' split)
  all_goals first | rfl | contradiction | (exfalso; omega) | (simp (disch := first | exact hK.a (by decide) | exact hK.m (by decide) | exact hK) only [pc_g, pc_up, pc_fl, pc_pby (μ := μ) hK, pcP_1, pcP_2, lq_th (μ := μ) hK, lq_ti (μ := μ) hK, lq_rpl (μ := μ) hK]; done) | (simp (disch := first | exact hK.a (by decide) | exact hK.m (by decide) | exact hK) only [pc_g, pc_up, pc_fl, pc_pby (μ := μ) hK, pcP_1, pcP_2, lq_th (μ := μ) hK, lq_ti (μ := μ) hK, lq_rpl (μ := μ) hK]; rfl)
theorem lq_omarkByReplay (hK : KQc μ K) (PL : Int → List Int) (c k : Int) : o_markByReplay μ PL c k (pc K w B) = pcP K w (o_markByReplay μ PL c k B) := by
  unfold o_markByReplay isN m_th
  simp (disch := first | exact hK.a (by decide) | exact hK.m (by decide) | exact hK) only [pc_g, pc_up, pc_fl, pc_pby (μ := μ) hK, pcP_1, pcP_2, lq_th (μ := μ) hK, lq_rpl (μ := μ) hK]
  try (repeat' split)
  all_goals first | rfl | contradiction | (exfalso; omega) | (simp (disch := first | exact hK.a (by decide) | exact hK.m (by decide) | exact hK) only [pc_g, pc_up, pc_fl, pc_pby (μ := μ) hK, pcP_1, pcP_2, lq_th (μ := μ) hK, lq_rpl (μ := μ) hK]; done) | (simp (disch := first | exact hK.a (by decide) | exact hK.m (by decide) | exact hK) only [pc_g, pc_up, pc_fl, pc_pby (μ := μ) hK, pcP_1, pcP_2, lq_th (μ := μ) hK, lq_rpl (μ := μ) hK]; rfl)
theorem lq_ostoredByReplay (hK : KQc μ K) (h1 : K 211 0 = false) (PL : Int → List Int) (c k : Int) : o_storedByReplay μ PL c k (pc K w B) = pcP K w (o_storedByReplay μ PL c k B) := by
  unfold o_storedByReplay isN m_th
  simp (disch := first | exact hK.a (by decide) | exact hK.m (by decide) | exact hK | exact h1) only [pc_g, pc_up, pc_fl, pc_pby (μ := μ) hK, pcP_1, pcP_2, lq_th (μ := μ) hK, lq_rpl (μ := μ) hK]
  try (repeat' split)
  all_goals first | rfl | contradiction | (exfalso; omega) | (simp (disch := first | exact hK.a (by decide) | exact hK.m (by decide) | exact hK | exact h1) only [pc_g, pc_up, pc_fl, pc_pby (μ := μ) hK, pcP_1, pcP_2, lq_th (μ := μ) hK, lq_rpl (μ := μ) hK]; done) | (simp (disch := first | exact hK.a (by decide) | exact hK.m (by decide) | exact hK | exact h1) only [pc_g, pc_up, pc_fl, pc_pby (μ := μ) hK, pcP_1, pcP_2, lq_th (μ := μ) hK, lq_rpl (μ := μ) hK]; rfl)
end LQC
