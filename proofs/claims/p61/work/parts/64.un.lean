/-! the pool holds characters; what a found change brings -/
theorem wg_gt (X V : BitVec 32) (hV : V.toNat < 256) : ∀ r r' : Nat, r < r' → r' < 4 → ((((X &&& ((255#32 <<< (8 * r)) ^^^ 4294967295#32)) ||| (V <<< (8 * r))).sshiftRight (8 * r')) &&& 255#32) = ((X.sshiftRight (8 * r')) &&& 255#32) := by
  intro r r' h1 h2
  have hr : r = 0 ∨ r = 1 ∨ r = 2 := by omega
  have hr' : r' = 1 ∨ r' = 2 ∨ r' = 3 := by omega
  have hV8 : ∀ i, 8 ≤ i → V.getLsbD i = false := fun i h => by
    show V.toNat.testBit i = false
    apply Nat.testBit_lt_two_pow
    calc V.toNat < 2 ^ 8 := hV
      _ ≤ 2 ^ i := Nat.pow_le_pow_right (by decide) h
  have hV9 : ∀ (i : Nat) (h : i < 32), 8 ≤ i → V[i] = false := fun i h h8 => by rw [← BitVec.getLsbD_eq_getElem]; exact hV8 i h8
  apply BitVec.eq_of_getLsbD_eq
  intro i hi
  by_cases h8 : i < 8
  · have h3 : i + 8 * r' < 32 := by omega
    simp only [BitVec.getLsbD_and, BitVec.getLsbD_or, BitVec.getLsbD_xor, BitVec.getLsbD_sshiftRight, BitVec.getLsbD_shiftLeft]
    rcases hr with rfl | rfl | rfl <;> rcases hr' with rfl | rfl | rfl <;> first | omega | skip
    all_goals
      have hi' : i = 0 ∨ i = 1 ∨ i = 2 ∨ i = 3 ∨ i = 4 ∨ i = 5 ∨ i = 6 ∨ i = 7 := by omega
      rcases hi' with rfl | rfl | rfl | rfl | rfl | rfl | rfl | rfl <;> simp [hV9]
  · have : (255#32).getLsbD i = false := by
      simp only [BitVec.getLsbD_ofNat]
      have : Nat.testBit 255 i = false := by
        apply Nat.testBit_lt_two_pow
        calc 255 < 2 ^ 8 := by decide
          _ ≤ 2 ^ i := Nat.pow_le_pow_right (by decide) (by omega)
      simp [this]
    simp only [BitVec.getLsbD_and, this, Bool.and_false]
theorem wget_wput_gt {x r r' v : Int} (h : 0 ≤ r ∧ r < r' ∧ r' < 4) (hv : 0 ≤ v ∧ v < 256) : wget (wput x r v) r' = wget x r' := by
  have e : (I v).toBitVec.toNat < 256 := by
    obtain ⟨n, rfl⟩ := Int.eq_ofNat_of_zero_le hv.1
    have : (I (n : Int)).toBitVec = BitVec.ofNat 32 n := by rw [← nI_I]; rfl
    rw [this, BitVec.toNat_ofNat]; omega
  rw [wget_bv (by omega), wget_bv (by omega), wput_bv (by omega), wg_gt _ _ e r.toNat r'.toNat (by omega) (by omega)]
theorem pby_pool_o {μ : MU} {v j : Int} {w : Mm} (hj : 0 ≤ j) (h : 0 ≤ w 121 μ.1 0) (hv : 0 ≤ v ∧ v < 256) (hn : j ≠ w 121 μ.1 0) : pby (m_pool μ v w) j = pby w j := by
  by_cases c : j < w 121 μ.1 0
  · exact pby_pool ⟨hj, c⟩
  · unfold pby m_pool
    rw [up_k _ (by decide), up_ii]
    split
    · next e => rw [← e, wget_wput_gt (by omega) hv]
    · rfl
theorem bPb.pool {μ : MU} {v : Int} {w : Mm} (h : bPb w) (h0 : 0 ≤ w 121 μ.1 0) (hv : 0 ≤ v ∧ v ≤ 126) : bPb (m_pool μ v w) := fun j hj => by
  by_cases c : j = w 121 μ.1 0
  · rw [c, pby_pool_s h0 (by omega)]; exact hv.2
  · rw [pby_pool_o hj h0 (by omega) c]; exact h j hj
theorem bPb.cong {w w' : Mm} (h : bPb w) (e : ∀ i, w' 213 0 i = w 213 0 i) : bPb w' := fun j hj => by rw [pby_cong (e _)]; exact h j hj
theorem bPb.poolN {μ : MU} {f : Int → Int} {w : Mm} (h : bPb w) (h0 : 0 ≤ w 121 μ.1 0) : ∀ n : Nat, (∀ i : Int, 0 ≤ i → i < n → 0 ≤ f i ∧ f i ≤ 126) → bPb (m_poolN μ f n w)
  | 0, _ => h
  | n + 1, hf => (bPb.poolN h h0 n fun i a b => hf i a (by omega)).pool (by rw [(poolN_120 n).2]; omega) (hf n (by omega) (by omega))
theorem bPb.ins {μ : MU} {q k : Int} {w : Mm} (h : bPb w) (hb : bB w) (h0 : 0 ≤ w 121 μ.1 0) (hk : 0 ≤ k ∧ k ≤ 400) : bPb (m_ins μ q k w) := by
  unfold m_ins
  refine bPb.poolN (h.cong fun i => ?_) ?_ _ fun i a b => ?_
  · rw [fl_at (by decide), step_at (by decide), opens_at (by decide)]
  · rw [fl_at (by decide), step_at (by decide), opens_at (by decide)]; exact h0
  · exact hb i a (by omega)
theorem bPb.opp {μ : MU} {PL : Int → List Int} {nd t : Int} {w : Mm} (h : bPb w) (h0 : 0 ≤ w 121 μ.1 0) (hb : bB (m_rem μ PL nd t w)) (e : ∀ i, m_rem μ PL nd t w 213 0 i = w 213 0 i) (e1 : m_rem μ PL nd t w 121 μ.1 0 = w 121 μ.1 0) (hk : 0 ≤ w 243 0 t ∧ w 243 0 t ≤ 400) : bPb (m_opp μ PL nd t w).2 := by
  have h1 : bPb (m_rem μ PL nd t w) := h.cong e
  unfold m_opp
  split
  · refine h.cong fun i => ?_
    show m_opN μ t _ _ _ _ 213 0 i = _
    rw [opN_at (by decide)]; unfold m_opD; rw [up_k _ (by decide), del_at (by decide)]
  · split
    · refine h1.cong fun i => ?_
      show m_opN μ t _ _ _ _ 213 0 i = _
      rw [opN_at (by decide)]; exact rep_at (by decide)
    · split
      · exact h
      · refine (h1.ins (μ := μ) (q := w 244 0 t) hb (by rw [e1]; exact h0) hk).cong fun i => ?_
        show m_opN μ t _ _ _ _ 213 0 i = _
        rw [opN_at (by decide)]; unfold m_opI; rw [up_k _ (by decide)]
theorem RK.cg {μ : MU} {S P M : Int} {w w' : Mm} (h : RK μ S P M w) (e : ∀ c a i, (122 ≤ c ∧ c ≤ 126) ∨ c = 128 ∨ (200 ≤ c ∧ c ≤ 210) ∨ (214 ≤ c ∧ c ≤ 225) ∨ c = 230 ∨ (234 ≤ c ∧ c ≤ 236) → w' c a i = w c a i) : RK μ S P M w' := by
  obtain ⟨g1, g2, g3, g4, g5, g6, g7⟩ := h
  refine ⟨g1.cong fun c a i x y z u v => e c a i (by omega), g2.cong fun c a i x y z u v => e c a i (by omega), g3.cong fun c a i x y => e c a i (by omega), ?_, g5.cong fun i => e _ _ _ (by decide), g6.cong fun i => e _ _ _ (by decide), g7.cong (fun i => e _ _ _ (by decide)) (fun i => e _ _ _ (by decide))⟩
  obtain ⟨t1, t2, t3, t4, t5, t6, t7⟩ := g4
  refine ⟨?_, ?_, ?_, ?_, ?_, ?_, fun k a b => ?_⟩
  · rw [e _ _ _ (by decide)]; exact t1
  · rw [e _ _ _ (by decide), e _ _ _ (by decide)]; exact t2
  · rw [e _ _ _ (by decide), e _ _ _ (by decide)]; exact t3
  · rw [e _ _ _ (by decide)]; exact t4
  · rw [e _ _ _ (by decide)]; exact t5
  · rw [e _ _ _ (by decide)]; exact t6
  · rw [e _ _ _ (by decide)] at b
    have := t7 k a b
    simp (disch := decide) only [e]
    exact this
theorem sumN_le {f g : Int → Int} : ∀ {n : Nat}, (∀ k : Int, 0 ≤ k → k < n → f k ≤ g k) → sumN f n ≤ sumN g n
  | 0, _ => Int.le_refl _
  | n + 1, h => by
    have h1 := sumN_le (f := f) (g := g) (n := n) (fun k a b => h k a (by omega))
    have h2 := h n (by omega) (by omega)
    show sumN f n + f n ≤ sumN g n + g n
    omega
/-- the ancestors of a node that is there are there -/
theorem anc_alive {μ : MU} {x M : Int} {w : Mm} (hT : TB μ M w) (hE : bEx μ w) (h0 : 0 ≤ x ∧ x < w 124 μ.1 0) (h1 : w 216 0 x = 1) : ∀ n : Nat, (n : Int) < m_pln w x → (0 ≤ m_anc w x n ∧ m_anc w x n ≤ x) ∧ w 216 0 (m_anc w x n) = 1 ∧ m_pln w (m_anc w x n) = m_pln w x - n
  | 0, _ => ⟨⟨h0.1, Int.le_refl _⟩, h1, by show m_pln w x = _; omega⟩
  | n + 1, hn => by
    obtain ⟨a1, a2, a3⟩ := anc_alive hT hE h0 h1 n (by omega)
    have hs := pln_s hT.pr (show 0 ≤ m_anc w x n ∧ m_anc w x n < w 124 μ.1 0 by omega)
    have hb := hT.2.2.2.2.2.2 (m_anc w x n) a1.1 (by omega)
    have hne : m_anc w x n ≠ 0 := by
      intro c
      rw [c] at hs hb a3
      rw [show w 217 0 0 = -1 by omega, pln_0] at hs
      omega
    have hq := hE.2.2.1 (m_anc w x n) (by omega) (by omega) a2
    show (0 ≤ w 217 0 (m_anc w x n) ∧ w 217 0 (m_anc w x n) ≤ x) ∧ w 216 0 (w 217 0 (m_anc w x n)) = 1 ∧ m_pln w (w 217 0 (m_anc w x n)) = _
    have hp := hb.2.2.1 (by omega)
    refine ⟨by omega, hq, by omega⟩
/-- a node's own steps, behind its parent's replay -/
theorem nd_ok {μ : MU} {PL : Int → List Int} {nd M : Int} {w : Mm} (hT : TB μ M w) (hn : 1 ≤ nd ∧ nd < w 124 μ.1 0) (h : RQ μ PL nd w) (s1 : SB 1 w) (s2 : bB w) (h6 : bPb w) : CHL 640 w (w 221 0 nd) (PL nd) ∧ (PL nd).length ≤ 640 ∧ LGL (nodeL w (PL nd)) (m_rpl μ PL (w 217 0 nd) w) := by
  have hb := hT.2.2.2.2.2.2 nd (by omega) hn.2
  have hs := pln_s hT.pr (show 0 ≤ nd ∧ nd < w 124 μ.1 0 by omega)
  have hp := pln_rng hT.pr _ (w 217 0 nd) (Nat.le_refl _) (by omega) (by omega)
  have hp1 := hp.2.2 (hb.2.2.1 hn.1)
  have hx := RSx_par (PL := PL) hT.pr (show 0 ≤ nd ∧ nd < w 124 μ.1 0 by omega) (by omega)
  obtain ⟨⟨k1, k2⟩, k3, k4, k5⟩ := h
  have k0 := k1 0 (by omega)
  have q0 := rp0_SB (μ := μ) (x := nd) s1 s2
  rw [hx] at k2 k3
  obtain ⟨g1, g2⟩ := (LGL_app _ _ _).mp k2
  refine ⟨k0.2.1, k0.2.2.1, ?_⟩
  have hz : ∀ (L : List (Int × Int)) (V : Mm), (∀ j, pby V j = pby w j) → BDp (w 123 μ.1 0) w L → BDp (w 123 μ.1 0) V L := fun L V e hL y hy => by rw [play_1 (w := V) (b := w) e]; exact hL y hy
  have hpl : ∀ (L : List (Int × Int)) (V : Mm) (j : Int), pby (m_playL L V) j = pby V j := fun L => by
    induction L with
    | nil => intro V j; rfl
    | cons u us ih => intro V j; show pby (m_playL us _) j = _; rw [ih, pby_play]
  have o := playL_eq (RSx PL (w 217 0 nd) w) (m_rp0 μ nd w) (m_rp0 μ (w 217 0 nd) w) rp0_eq (P := w 123 μ.1 0) (fun j a b => by rw [pby_rp0, pby_rp0]) (fun j a => by rw [pby_rp0]; exact h6 j a) q0.1 q0.2 g1 (hz _ _ (fun j => pby_rp0) fun y hy => k3 y (List.mem_append_left _ hy))
  have st : StP (m_rp0 μ nd w) (m_playL (RSx PL (w 217 0 nd) w) (m_rp0 μ nd w)) := StP.playL ⟨fun _ _ _ _ _ => rfl, q0⟩ g1
  exact (playL_eq (nodeL w (PL nd)) _ _ o.1 (P := w 123 μ.1 0) (fun j a b => by rw [hpl, hpl, pby_rp0, pby_rp0]) (fun j a => by rw [hpl, pby_rp0]; exact h6 j a) st.2.1 st.2.2 g2 (hz _ _ (fun j => by rw [hpl, pby_rp0]) fun y hy => k3 y (List.mem_append_right _ hy))).2
def m_fdI (μ : MU) (PL : Int → List Int) (lo hi : Int) (w : Mm) : Int × Mm := m_fdR μ PL (w 126 μ.1 0) w lo hi (m_pln w (w 126 μ.1 0) - 1).toNat (m_fin μ (w 126 μ.1 0) w)
theorem FRt.fdR {μ : MU} {PL : Int → List Int} {x lo hi M : Int} {b : Mm} (hT : TB μ M b) (hM : M ≤ 600) (hx : 0 ≤ x ∧ x < b 124 μ.1 0) (hPH : PHx PL x b) (hln : (RSx PL x b).length ≤ 30000) : ∀ (n : Nat) (W : Mm), (n : Int) ≤ m_pln b x - 1 → FRt (m_fin μ x b) W → (0 ≤ W 137 μ.1 0 ∧ W 137 μ.1 0 ≤ 8) → bTc 150010000 W → FRt (m_fin μ x b) (m_fdR μ PL x b lo hi n W).2 ∧ (0 ≤ (m_fdR μ PL x b lo hi n W).2 137 μ.1 0 ∧ (m_fdR μ PL x b lo hi n W).2 137 μ.1 0 ≤ 8) ∧ bTc 150010000 (m_fdR μ PL x b lo hi n W).2
  | 0, W, _, h1, h2, h3 => ⟨h1, h2, h3⟩
  | n + 1, W, hn, h1, h2, h3 => by
    have hlr : lnR PL x b (m_pln b x - 1).toNat ≤ 30000 := by unfold lnR; unfold RSx at hln; omega
    have hl0 : lnR PL x b 0 = 0 := rfl
    have hrg : ∀ a : Int, 1 ≤ a → a ≤ m_pln b x - 1 → ∀ y ∈ nodeW b (PL (m_fan b x a)), 0 ≤ y ∧ y < 16777216 := fun a a1 a2 => (hPH (m_pln b x - 1 - a).toNat (by omega)).2.1.rng
    have e5 := lnR_s (PL := PL) (x := x) (b := b) (n := n)
    have e6 := lnR_mono (PL := PL) (x := x) (b := b) (show n + 1 ≤ (m_pln b x - 1).toNat by omega)
    have e7 := lnR_mono (PL := PL) (x := x) (b := b) (show 0 ≤ n by omega)
    have hk := can_ok (μ := μ) (PL := PL) (x := x) (b := b) (i := (n : Int) + 1) h1 h2 h3 (hrg _ (by omega) (by omega)) (by omega)
    have hf : FRt (m_fin μ x b) (m_fol μ PL x b ((n : Int) + 1) (m_can μ PL x b ((n : Int) + 1) W)) ∧ (0 ≤ m_fol μ PL x b ((n : Int) + 1) (m_can μ PL x b ((n : Int) + 1) W) 137 μ.1 0 ∧ m_fol μ PL x b ((n : Int) + 1) (m_can μ PL x b ((n : Int) + 1) W) 137 μ.1 0 ≤ 8) ∧ bTc 150010000 (m_fol μ PL x b ((n : Int) + 1) (m_can μ PL x b ((n : Int) + 1) W)) := by
      unfold m_fol
      split
      · exact ⟨hk.1, hk.2.1, hk.2.2.1⟩
      · rename_i c
        have o := foP_ok (μ := μ) (PL := PL) (x := x) (b := b) (a := n + 1) hk.1 hk.2.1 (hk.2.2.2.2 c) (by omega) (m_pln b x - 1 - ((n : Int) + 1)).toNat (fun k hk' y hy => hrg (((n + 1 : Nat) : Int) + 1 + (k : Int)) (by omega) (by omega) y hy) (by rw [show n + 1 + (m_pln b x - 1 - ((n : Int) + 1)).toNat = (m_pln b x - 1).toNat by omega]; omega)
        exact ⟨o.1, by have := o.2.1; have h8 := hk.2.1; rw [← this] at h8; exact h8, o.2.2.1⟩
    simp only [m_fdR]
    split
    · exact hf
    · exact FRt.fdR hT hM hx hPH hln n _ (by omega) hf.1 hf.2.1 hf.2.2
