/-! p61: undoIn makes a node -/
section UIC
variable {μ : MU} {S P M c k s x v t q o lo hi nd : Int} {w A B V W : Mm} {p : RP} {f : Int} {PL : Int → List Int}
def K4 (cc : Nat) : Prop := cc = 120 ∨ cc = 122 ∨ cc = 124 ∨ cc = 132 ∨ cc = 234
theorem playL_120 {cc : Nat} (hc : K4 cc) {a i : Int} : ∀ (L : List (Int × Int)) (V : Mm), m_playL L V cc a i = V cc a i
  | [], V => rfl
  | y :: ys, V => by
    show m_playL ys (m_play y.1 y.2 V).2 cc a i = V cc a i
    rw [playL_120 hc ys, play_at (by unfold K4 at hc; omega)]
theorem rpl_120 {cc : Nat} (hc : K4 cc) {a i : Int} : m_rpl μ PL x w cc a i = w cc a i := by
  unfold m_rpl
  rw [playL_120 hc]
  unfold K4 at hc
  unfold m_rp0 m_fin m_rini
  rw [fl_at (by omega), up_k _ (by omega), fl_at (by omega), fl_at (by omega), fl_at (by omega), up_k _ (by omega)]
theorem rem_120 {cc : Nat} (hc : K4 cc) {a i : Int} : m_rem μ PL nd t w cc a i = w cc a i := by
  unfold m_rem
  rw [fl_at (by unfold K4 at hc; omega)]
  unfold m_rem1
  rw [playL_120 hc, rpl_120 hc]
theorem mov_120 {cc : Nat} (hc : K4 cc) {a i d y : Int} : m_mov μ t d q k y w cc a i = w cc a i := by
  unfold K4 at hc
  unfold m_mov
  split
  · unfold m_mvR; rw [up_k _ (by omega)]
  split
  · unfold m_mvI; rw [up_k _ (by omega), up_k _ (by omega), up_k _ (by omega)]
  · unfold m_mvD; rw [up_k _ (by omega), up_k _ (by omega), up_k _ (by omega), up_k _ (by omega)]
theorem op1_120 {cc : Nat} (hc : K4 cc) {a i : Int} : m_op1 μ t q k o w cc a i = w cc a i := by
  unfold m_op1
  split
  · unfold K4 at hc
    unfold m_opx; rw [up_k _ (by omega), up_k _ (by omega)]
  split
  · rfl
  · exact mov_120 hc
theorem opN_120 {cc : Nat} (hc : K4 cc) {a i : Int} : ∀ (n : Nat) (W : Mm), m_opN μ t q k n W cc a i = W cc a i
  | 0, W => rfl
  | n + 1, W => by unfold m_opN; rw [op1_120 hc, opN_120 hc n]
theorem opp_fr {cc : Nat} (hc : cc = 122 ∨ cc = 124 ∨ cc = 132 ∨ cc = 234) {a i : Int} : (m_opp μ PL nd t w).2 cc a i = w cc a i := by
  have hk : K4 cc := by unfold K4; omega
  unfold m_opp
  split
  · dsimp only
    rw [opN_120 hk]
    unfold m_opD
    rw [up_k _ (by omega), del_at (by omega)]
  split
  · dsimp only
    rw [opN_120 hk, rep_at (by omega), rem_120 hk]
  split
  · rfl
  · dsimp only
    rw [opN_120 hk]
    unfold m_opI
    rw [up_k _ (by omega), ins_at (by omega), rem_120 hk]
theorem opL_fr {cc : Nat} (hc : cc = 122 ∨ cc = 124 ∨ cc = 132 ∨ cc = 234) {a i : Int} : ∀ (n : Nat) (W : Mm), (m_opL μ PL nd n W).2 cc a i = W cc a i
  | 0, W => rfl
  | n + 1, W => by
    unfold m_opL
    split
    · exact opp_fr hc
    · rw [opL_fr hc n, opp_fr hc]
theorem opp_120 (h : (m_opp μ PL nd t w).1 ≠ 0) : (m_opp μ PL nd t w).2 120 μ.1 0 = w 120 μ.1 0 + 1 := by
  revert h
  unfold m_opp
  split
  · intro _
    dsimp only
    rw [opN_120 (Or.inl rfl)]
    unfold m_opD
    rw [up_k _ (by decide), del_120]
  split
  · intro _
    dsimp only
    rw [opN_120 (Or.inl rfl), rep_120, rem_120 (Or.inl rfl)]
  split
  · intro h; exact absurd rfl h
  · intro _
    dsimp only
    rw [opN_120 (Or.inl rfl)]
    unfold m_opI
    rw [up_k _ (by decide), ins_120, rem_120 (Or.inl rfl)]
theorem opL_120 : ∀ (n : Nat) (W : Mm), (m_opL μ PL nd n W).1 ≠ 0 → (m_opL μ PL nd n W).2 120 μ.1 0 = W 120 μ.1 0 + n
  | 0, W, _ => by show W 120 μ.1 0 = _; omega
  | n + 1, W, h => by
    unfold m_opL at h ⊢
    split at h
    · exact absurd rfl h
    · next y =>
      rw [if_neg y]
      rw [opL_120 n _ h, opp_120 y]; omega
theorem nice_124 {a i : Int} : ∀ (n : Nat) (d : Int) (W : Mm), (m_nice μ n d W).2 124 a i = W 124 a i
  | 0, d, W => rfl
  | n + 1, d, W => by
    unfold m_nice
    split
    · rfl
    split
    · dsimp only; rw [fl_at (by decide), up_k _ (by decide)]
    · rw [nice_124 n, rep_at (by decide), up_k _ (by decide)]
theorem mks_n126 (ht : 1 ≤ w 124 μ.1 0) {g : Int} : 1 ≤ m_mks μ g w 126 μ.1 0 := by
  unfold m_mks m_mrgs
  rw [mrg_o (by decide)]
  unfold m_mk1
  rw [up_k _ (by decide), up_k _ (by decide), up_k _ (by decide), up_k _ (by decide), up_s]; exact ht
theorem hit_137 (h : m_hit μ lo hi c w) : 1 ≤ w 137 μ.1 0 := by
  have h3 := h.2.2
  apply Classical.byContradiction
  intro y
  rw [show (w 137 μ.1 0).toNat = 0 by omega] at h3
  exact absurd h3 (by show ¬ (0 : Int) < 0; decide)
theorem fdR_137 {b : Mm} : ∀ (n : Nat) (W : Mm), (m_fdR μ PL x b lo hi n W).1 ≠ -1 → 1 ≤ (m_fdR μ PL x b lo hi n W).2 137 μ.1 0
  | 0, W, h => absurd rfl h
  | n + 1, W, h => by
    unfold m_fdR at h ⊢
    split
    · next y => exact hit_137 y
    · next y =>
      rw [if_neg y] at h
      exact fdR_137 n _ h
theorem undoIn_0 (h : CHB p μ f (lvL p μ A) w A) (hR : RB μ S P M A) (hM : M ≤ 598) (hI : IVS μ A) (h9 : (o_undoIn μ (pl_ p) lo hi A).2 139 μ.1 0 = 0) : (o_undoIn μ (pl_ p) lo hi A).1 = (o_undoIn μ (pl_ p) lo hi A).2 126 μ.1 0 ∧ 1 ≤ (o_undoIn μ (pl_ p) lo hi A).1 := by
  have hA0 : CHB p μ f (lvL p μ (m_th μ 0 A)) w (m_th μ 0 A) := h.o9 hR hM
  have hR0 : RB μ S P M (m_th μ 0 A) := hR.o9
  have hT := hR0.2.1.2.2.2.1
  have h8 := th_137 (v := 0) hI.1.2.2.1
  have hTc := btc_th (v := 0) (μ := μ) hI.1.2.1
  obtain ⟨fd1, fd2, fd3⟩ := fdi_ok (lo := lo) (hi := hi) hA0.2.1.1.1 hT (by omega) h8 hTc
  revert h9
  unfold o_undoIn
  split
  · split
    · intro z; dsimp only at z; unfold m_th at z; rw [up_s] at z; exact absurd z (by decide)
    · next hg =>
      have hg0 : A 132 μ.1 0 = 0 := by have := hR.2.2.1.1; omega
      unfold m_ui1
      split
      · intro z
        have z' : up _ 139 μ.1 0 2 139 μ.1 0 = 0 := z
        rw [up_s] at z'; exact absurd z' (by decide)
      · next hf =>
        obtain ⟨F, hF⟩ : ∃ F, F = m_fdI μ (pl_ p) lo hi (m_th μ 0 A) := ⟨_, rfl⟩
        rw [← hF] at hf fd1 fd2 fd3 ⊢
        have h137 : 1 ≤ F.2 137 μ.1 0 := by rw [hF] at hf ⊢; exact fdR_137 _ _ hf
        have fe : ∀ {cc : Nat} {y i : Int}, cc ≠ 127 → cc ≠ 226 → cc ≠ 137 → cc ≠ 138 → cc ≠ 139 → (cc < 241 ∨ 246 < cc) → F.2 cc y i = A cc y i := fun z1 z2 z3 z4 z5 z6 => by
          rw [fd1 _ _ _ z1 z2 z3 z4 z5 z6]; exact up_k _ z5 _ _ _ _ _
        unfold m_ui2
        obtain ⟨W, hW⟩ : ∃ W, W = m_saves μ 2 (m_th μ 0 F.2) := ⟨_, rfl⟩
        rw [← hW]
        have we : ∀ {cc : Nat} {y i : Int}, (cc < 200 ∨ (210 < cc ∧ cc ≠ 214 ∧ cc ≠ 215)) → cc ≠ 139 → W cc y i = F.2 cc y i := fun z z5 => by
          rw [hW, saves_at z]; exact up_k _ z5 _ _ _ _ _
        have w137 : W 137 μ.1 0 = F.2 137 μ.1 0 := we (by decide) (by decide)
        have hz := hR.2.2.1.2.2.2.2 hg0
        unfold m_ui3
        split
        · intro z
          have z' : up _ 139 μ.1 0 2 139 μ.1 0 = 0 := z
          rw [up_s] at z'; exact absurd z' (by decide)
        · next ho =>
          have ha := opL_120 _ _ ho
          have hfr : ∀ {cc : Nat} {y i : Int}, (cc = 122 ∨ cc = 124 ∨ cc = 132 ∨ cc = 234) → (m_opL μ (pl_ p) (F.2 226 0 F.1) (W 137 μ.1 0).toNat W).2 cc y i = W cc y i := fun z => opL_fr z _ _
          obtain ⟨OL, hOL⟩ : ∃ OL, OL = m_opL μ (pl_ p) (F.2 226 0 F.1) (W 137 μ.1 0).toNat W := ⟨_, rfl⟩
          rw [← hOL] at ha hfr ho ⊢
          have e122 : OL.2 122 μ.1 0 = A 122 μ.1 0 := by rw [hfr (by decide), we (by decide) (by decide), fe (by decide) (by decide) (by decide) (by decide) (by decide) (by decide)]
          have e124 : OL.2 124 μ.1 0 = A 124 μ.1 0 := by rw [hfr (by decide), we (by decide) (by decide), fe (by decide) (by decide) (by decide) (by decide) (by decide) (by decide)]
          have e132 : OL.2 132 μ.1 0 = A 132 μ.1 0 := by rw [hfr (by decide), we (by decide) (by decide), fe (by decide) (by decide) (by decide) (by decide) (by decide) (by decide)]
          have e120 : W 120 μ.1 0 = A 120 μ.1 0 := by rw [we (by decide) (by decide), fe (by decide) (by decide) (by decide) (by decide) (by decide) (by decide)]
          have ht := hR.2.1.2.2.2.1.1.1
          unfold m_ends
          rw [if_neg (by omega)]
          unfold m_en2 m_ui4
          split
          · intro z
            have z' : up _ 139 μ.1 0 2 139 μ.1 0 = 0 := z
            rw [up_s] at z'; exact absurd z' (by decide)
          · intro _
            have hV : 1 ≤ (m_ntf μ OL.2).2 124 μ.1 0 := by
              have hb : bPo OL.2 := fun i i0 i1 => by
                rw [hfr (by decide), we (by decide) (by decide), fe (by decide) (by decide) (by decide) (by decide) (by decide) (by decide)]
                exact hR.2.1.2.2.2.2.1 i i0 i1
              obtain ⟨g, -, e, -⟩ := ntf_ok (μ := μ) (w := OL.2) hb
              rw [e]
              show 1 ≤ ux g (m_nice μ 8 1 OL.2).2 124 μ.1 0
              rw [ux_k (by decide), nice_124]; omega
            dsimp only
            rw [if_neg (show ¬ ((1 : Int) = 0) by decide)]
            dsimp only
            refine ⟨?_, mks_n126 hV⟩
            rw [up_k _ (by decide)]
            exact (up_k _ (by decide) _ _ _ _ _).symm
  · intro z
    have z' : up A 139 μ.1 0 1 139 μ.1 0 = 0 := z
    rw [up_s] at z'; exact absurd z' (by decide)
end UIC
