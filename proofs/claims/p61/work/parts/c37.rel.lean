/-! undoing a change: the three kinds of opposites -/
section OPQ
variable {p p2 : RP} {w w1 w' Wc W W0 W1 W2 A : Mm} {μ : MU} {f T n m t q k i S P M S2 P2 nd r y v b g c : Int} {x κ : Int → Int} {L : List Int}
theorem FTc.opp {k p n q : Int} {x : Int → Int} {c : Nat} (h : FTc w w1) : FTc w (ts_opp x q k p n w1 c) := fun K a j z1 z2 z3 z4 z5 z6 => by rw [ts_opp_k z2 z3 z4]; exact h K a j z1 z2 z3 z4 z5 z6
theorem FTg.opp {k p n q : Int} {c : Nat} (h : FTg w w1) (hX : ∀ i, 0 ≤ i → i < 8 → w 0 (txT w T i) 0 = 9) (hc : c ≤ 8) : FTg w (ts_opp (txT w T) q k p n w1 c) := fun K a j z1 z2 => by rw [ts_opp_a (fun m hm e => z1 (by rw [e]; exact hX m (by omega) (by omega)))]; exact h K a j z1 z2
/-- what is asked of the next opposite -/
theorem OPI.qf (h : OPI μ f κ S P n nd W0 (t + 1) p w W) (hH : OPH μ S P M n W0) (ht : 0 ≤ t ∧ t + 1 ≤ n) : (W 241 0 t = 0 ∨ W 241 0 t = 1 ∨ W 241 0 t = 2) ∧ (0 ≤ W 243 0 t ∧ W 243 0 t ≤ 400) ∧ (0 ≤ W 244 0 t ∧ W 244 0 t ≤ W 201 0 0 ∧ W 201 0 0 ≤ 400) ∧ (W 241 0 t = 0 → W 244 0 t + W 243 0 t ≤ W 201 0 0) ∧ (W 241 0 t = 2 → W 243 0 t = 1 ∧ W 244 0 t + 1 ≤ W 201 0 0) ∧ (0 ≤ W 242 0 t ∧ W 242 0 t + W 243 0 t ≤ 400) := by
  obtain ⟨⟨v1, v2, v3⟩, v4, v5, v6, v7⟩ := h.v hH (by omega)
  obtain ⟨hc, hT1, ⟨u1, u2, u3, u4, u5, u6, u7⟩, -⟩ := h
  obtain ⟨-, ⟨s4, s5, s6⟩, s7, -⟩ := hH
  obtain ⟨k1, ⟨k2, k3⟩, k4, k5⟩ := s7 t ht.1 (by omega)
  have e : ∀ c : Nat, c = 241 ∨ c = 242 ∨ c = 243 → W c 0 t = W0 c 0 t := fun c z => v4 c 0 t (by rcases z with rfl | rfl | rfl <;> decide)
  have tv := u4.1 t ht.1 (by omega)
  have ul := u5 t ht.1 (by omega)
  have l4 := v1.1.1
  dsimp only at tv
  rw [e 241 (by decide), e 242 (by decide), e 243 (by decide)]
  have l4' : 0 ≤ W 201 0 0 ∧ W 201 0 0 ≤ 400 := l4
  refine ⟨by omega, by omega, by omega, fun z => ?_, fun z => ?_, by omega⟩
  · rw [if_neg (by omega)] at ul; omega
  · have := k5 z
    rw [if_neg (by omega)] at ul; omega
theorem OPI.tr (h : OPI μ f κ S P n nd W0 (t + 1) p w W) (hH : OPH μ S P M n W0) (ht : 0 ≤ t ∧ t + 1 ≤ n) {g : Int} (hg : g = if W 241 0 t = 0 then 2 else 1) (hw1 : w1 = if W 241 0 t = 2 then w else ts_opp (txT w (w 47 f 0)) t g (W 244 0 t) (W 243 0 t) w t.toNat) :
    (FTc w w1 ∧ FTg w w1) ∧ CHK p μ f w1 W ∧ (∀ W2 : Mm, (∀ (c : Nat) (a i : Int), c = 241 ∨ c = 242 ∨ c = 243 ∨ c = 244 ∨ c = 245 ∨ c = 246 ∨ c = 122 → W2 c a i = W c a i) → (∀ i, 0 ≤ i → i < W 122 μ.1 0 → W2 212 0 i = W 212 0 i) → TRo p μ (txT w (w 47 f 0)) κ n t w1 (m_opN μ t (W 244 0 t) (W 243 0 t) t.toNat W2)) := by
  obtain ⟨q1, q2, q3, q4, q5, q6⟩ := h.qf hH ht
  obtain ⟨hc, hT1, hUI, ⟨hal, hnd⟩, hκ⟩ := h
  obtain ⟨-, ⟨s4, s5, s6⟩, -⟩ := hH
  obtain ⟨⟨x1, x2⟩, ⟨x3, x4, x5⟩, x6, x7⟩ := hc.1.1.1.2.2.2.2.2.2
  have hX : ∀ i, 0 ≤ i → i < 8 → w 0 (txT w (w 47 f 0) i) 0 = 9 := fun i i0 i1 => (x6 i i0 i1).1
  have hin : xinj (txT w (w 47 f 0)) := fun i j i0 i1 j0 j1 ij e => by
    have y1 : pc_ p (txT w (w 47 f 0) i) = 54 + i := (x6 i i0 i1).2
    have y2 : pc_ p (txT w (w 47 f 0) j) = 54 + j := (x6 j j0 j1).2
    rw [e] at y1; omega
  have hF : FTc w w1 ∧ FTg w w1 := by
    rw [hw1]; split
    · exact ⟨FTc.refl, FTg.refl⟩
    · exact ⟨FTc.refl.opp, FTg.refl.opp hX (by omega)⟩
  have e77 : w1 77 (w 47 f 0) 0 = w 77 (w 47 f 0) 0 := by
    rw [hw1]; split
    · rfl
    · exact ts_opp_k (by decide) (by decide) (by decide)
  refine ⟨hF, hc.f7 hF.1.f7 (fun k hk => ?_) (by rw [e77]; exact x7), fun W2 e1 e2 => ?_⟩
  · have e : ∀ {K : Nat} {a j : Int}, K = 0 ∨ K = 27 → w1 K a j = w K a j := fun z => hF.1 _ _ _ (by omega) (by omega) (by omega) (by omega) (by omega) (by omega)
    rw [e (K := 27) (by decide), e (by decide)]
    exact (hc.1.1.nd hk).2.2.2.1.2.2.2.2
  · rw [hw1]
    exact hT1.op hin ⟨ht.1, by omega, s6⟩ q1 ⟨rfl, q2.1⟩ e1 e2 hg
theorem OPI.k0 (h : OPI μ f κ S P n nd W0 (t + 1) p w W) (hH : OPH μ S P M n W0) (ht : 0 ≤ t ∧ t + 1 ≤ n) (h00 : w 0 0 0 = 0) (hk : W 241 0 t = 0) (hw1 : w1 = ts_opp (txT w (w 47 f 0)) t 2 (W 244 0 t) (W 243 0 t) w t.toNat)
    (hN : NCh w1 Wc r (w1 28 (w1 11 (w1 41 f 0) 0) 0) (W 244 0 t) (W 243 0 t)) (hy : 0 < y ∧ Wc 0 y 0 = 0) (hw' : w' = d_tj (w1 41 f 0) (W 244 0 t) (W 243 0 t) r y Wc (Wc 60 (w1 41 f 0) 0)) :
    (m_opp μ (pl_ p) nd t W).1 = 1 ∧ ∃ p', OPI μ f κ S P n nd W0 t p' w' (m_opp μ (pl_ p) nd t W).2 ∧ UPG f w w' ∧ pl_ p' = pl_ p := by
  obtain ⟨⟨v1, v2, v3⟩, v4, v5, v6, v7⟩ := h.v hH (by omega)
  obtain ⟨q1, q2, q3, q4, q5, q6⟩ := h.qf hH ht
  obtain ⟨hF, hc1, hTR⟩ := h.tr hH ht (g := 2) (w1 := w1) (by rw [if_pos hk]) (by rw [if_neg (by omega)]; exact hw1)
  have hq4 := q4 hk
  have hlv := hc1.1.2.2
  have e7 : m_del μ (W 244 0 t) (W 243 0 t) W 207 0 0 = W 207 0 0 := del_at (by decide)
  have eD : m_opD μ (W 244 0 t) (W 243 0 t) W = up (m_del μ (W 244 0 t) (W 243 0 t) W) 207 0 0 (dbF (W 207 0 0) (W 244 0 t) (W 243 0 t)) := by unfold m_opD; rw [e7]
  have hp := takeR hc1.1.1 v6 q2.1 ⟨q3.1, hq4⟩ hN hy
  rw [← hw', ← eD] at hp
  have hlo : LO W (m_opD μ (W 244 0 t) (W 243 0 t) W) := by
    unfold m_opD
    exact LO.u (LO.del LO.r ⟨q2.1, q3.2.2⟩ v1.f.2.1.2) (Or.inr ⟨by decide, by decide, by decide⟩)
  have hap : AP μ W (m_opD μ (W 244 0 t) (W 243 0 t) W) := by unfold m_opD; exact (AP.r.del).u (by decide)
  have hB2 := v1.opD ⟨q3.1, hq4⟩ q2.1
  have eW : m_opp μ (pl_ p) nd t W = (1, m_opN μ t (W 244 0 t) (W 243 0 t) t.toNat (m_opD μ (W 244 0 t) (W 243 0 t) W)) := by unfold m_opp; rw [if_pos hk]
  refine ⟨by rw [eW], h.end_ hH ht h00 hF.1 hF.2 hc1 v3 v5.2 hp hlo hap ⟨hB2.1, hB2.2.2.1⟩ (fun G' g1 g2 => ?_) (hTR _ (fun c a i z => ?_) (fun i i0 i1 => hap.2.2.1 i i0 (by omega))) (by omega) eW⟩
  · have h120 := v1.2.2.2.2
    have hd : m_opD μ (W 244 0 t) (W 243 0 t) W 120 μ.1 0 = W 120 μ.1 0 + 1 := by rw [eD, up_k _ (by decide), del_120]
    have hw : m_opD μ (W 244 0 t) (W 243 0 t) W 212 0 (W 120 μ.1 0) = 1 + 8 * W 244 0 t + 4096 * W 243 0 t := by rw [eD, up_k _ (by decide), del_212, if_pos rfl]
    have g3 := (g2 (W 120 μ.1 0) (Int.le_refl _) (by omega) (by rw [hw]; omega)).2
    have ez : wsz (1 + 8 * W 244 0 t + 4096 * W 243 0 t) = W 243 0 t := by unfold wsz; rw [if_neg (by omega)]; omega
    rw [hw, ez] at g3
    have l1 := hlv.del (q := W 244 0 t) (n := W 243 0 t) (G' := G') ⟨h120.2.1, by have := hH.1; have := h120.2.2; omega⟩ q3.2.2 ⟨q3.1, q2.1, hq4⟩ g1 (fun j j0 j1 => by rw [g3 j j0 j1]; congr 1; omega)
    rw [eD]
    exact l1.cg (l1.b0.2.2.2.cong fun i => up_k _ (by decide) _ _ _ _ _) (fun c a i z => up_k _ (by omega) _ _ _ _ _)
  · rcases z with rfl | rfl | rfl | rfl | rfl | rfl | rfl <;> exact hlo.2 _ _ _ (by decide) (by decide)
/-- the reference finds out what a step took away -/
theorem OPI.rm (h : OPI μ f κ S P n nd W0 (t + 1) p w W) (hH : OPH μ S P M n W0) (ht : 0 ≤ t ∧ t + 1 ≤ n) (hc1 : CHK p μ f w1 W) (hd : W 241 0 t = 1 ∨ W 241 0 t = 2) :
    (LB μ (S + 8) (P + 400) (m_rem μ (pl_ p) nd t W) ∧ RK μ S P M (m_rem μ (pl_ p) nd t W)) ∧ CHK p μ f w1 (m_rem μ (pl_ p) nd t W) ∧ (∀ (c : Nat) (a i : Int), (c < 200 ∨ 206 < c) → c ≠ 240 → c ≠ 127 → c ≠ 226 → m_rem μ (pl_ p) nd t W c a i = W c a i) ∧ (m_rem μ (pl_ p) nd t W 201 0 0 = W 201 0 0) ∧ (∀ j, 0 ≤ j → j < W 243 0 t → m_rem μ (pl_ p) nd t W 240 0 j = pg_ p (κ t) j) ∧ (w 36 (txT w (w 47 f 0) t) 0 = ps_ p (κ t) ∧ vSp (pc_ p) (ps_ p) (pg_ p) w1 W (κ t) ∧ W 241 0 t = W 212 0 (κ t) % 8 ∧ W 243 0 t = wsz (W 212 0 (κ t))) := by
  obtain ⟨⟨v1, v2, v3⟩, v4, v5, v6, v7⟩ := h.v hH (by omega)
  obtain ⟨q1, q2, q3, q4, q5, q6⟩ := h.qf hH ht
  obtain ⟨hc, hT1, hUI, ⟨hal, hnd⟩, hκ⟩ := h
  obtain ⟨⟨s1, s2, s3⟩, ⟨s4, s5, s6⟩, s7, s8, s9, s10, s11⟩ := hH
  have hTI := hc.1.2.1.1.1
  have hTB := v3.2.2.2.1
  obtain ⟨p1, p2', p3, p4, p5, p6⟩ := hTI.par hTB (by omega) v2 hc.1.2.2.b0.2.2.2 hc.1.2.2.b0.2.2.1 hal hnd
  obtain ⟨r1, r2, r3, r4, r5⟩ := rem_ok (t := t) v1 v2 (hTI.rq hTB (by omega) p4).1 p2' ⟨q6.1, q2.1, q6.2⟩
  obtain ⟨-, -, -, ⟨y1, y2, y3, y4, y5⟩⟩ := hT1 t ht.1 (by omega)
  have hsp := hc1.1.1.2.2.2 (κ t) y5.1 (by omega)
  refine ⟨⟨r1, r3.rk r2 v3⟩, hc1.nof ⟨fun c a i z1 z2 z3 _ z5 _ _ _ => r5 c a i (by omega) z5 z2 z3, fun c i z1 z2 z3 => ?_⟩ hTB (by omega) v2 v3.1.1 v1.1 r1.2.2.1, r5, r4 201 0 (by decide) (by decide) (by decide), rem_gone hc.1.2.1 hal hnd hκ ⟨ht.1, by omega⟩ y2 y3 y4 hd, y1, hsp, y2, y4⟩
  rcases z3 with z3 | z3
  · exact r4 c i z1 z2 z3
  · exact r3.2.1 c 0 i z1 z2 z3
theorem OPI.k1 (h : OPI μ f κ S P n nd W0 (t + 1) p w W) (hH : OPH μ S P M n W0) (ht : 0 ≤ t ∧ t + 1 ≤ n) (h00 : w 0 0 0 = 0) (hk : W 241 0 t = 1) (hfit : W 201 0 0 + W 243 0 t ≤ 400) (hw1 : w1 = ts_opp (txT w (w 47 f 0)) t 1 (W 244 0 t) (W 243 0 t) w t.toNat)
    (hb : b = w1 10 (w1 32 (ps_ p (κ t)) 0) 0) (hy : 0 < y ∧ w1 0 y 0 = 0) (hw' : w' = d_pj (w1 41 f 0) (W 244 0 t) b y w1 (w1 60 (w1 41 f 0) 0)) :
    (m_opp μ (pl_ p) nd t W).1 = 1 ∧ ∃ p', OPI μ f κ S P n nd W0 t p' w' (m_opp μ (pl_ p) nd t W).2 ∧ UPG f w w' ∧ pl_ p' = pl_ p := by
  obtain ⟨⟨v1, v2, v3⟩, v4, v5, v6, v7⟩ := h.v hH (by omega)
  obtain ⟨q1, q2, q3, q4, q5, q6⟩ := h.qf hH ht
  obtain ⟨hF, hc1, hTR⟩ := h.tr hH ht (g := 1) (w1 := w1) (by rw [if_neg (by omega)]) (by rw [if_neg (by omega)]; exact hw1)
  obtain ⟨⟨r1, r2⟩, hcr, r3, r4, r5, r6, r7, r8, r9⟩ := h.rm hH ht hc1 (Or.inl hk)
  obtain ⟨W1, hW1⟩ : ∃ W1, W1 = m_rem μ (pl_ p) nd t W := ⟨_, rfl⟩
  rw [← hW1] at r1 r2 hcr r3 r4 r5
  have hlv := hcr.1.2.2
  have hl := hlv.b0.1
  have hch := r7.2.2.2.2 (Or.inl (by omega))
  rw [← r9] at hch
  obtain ⟨⟨c1, c2⟩, ⟨c3, c4⟩, c5, c6⟩ := hch
  rw [← hb] at c3 c4 c5 c6
  have hf := r1.f
  have hlow := hcr.1.1.low.2.2.2.1
  have e7 : m_ins μ (W 244 0 t) (W 243 0 t) W1 207 0 0 = W1 207 0 0 := ins_at (by decide)
  have eI : m_opI μ (W 244 0 t) (W 243 0 t) W1 = up (m_ins μ (W 244 0 t) (W 243 0 t) W1) 207 0 0 (mvF (W1 207 0 0) (W 244 0 t) (W 243 0 t) 0) := by unfold m_opI; rw [e7]
  have k := RLm.put (b := b) (n := W 243 0 t) (q := W 244 0 t) (x := y) hcr.1.1 hl r1.1 ⟨r1.2.1.1, r1.2.1.2.1, r1.2.1.2.2.1⟩ ⟨c3, c4⟩ ⟨c5, q2.1⟩ (by rw [hlow, r4]; omega) (by rw [hlow, r4]; exact hfit) hy (fun j j0 j1 => by rw [c6 j j0 j1, r5 j j0 j1]) (by unfold mvF; rw [r4] at hf; split <;> omega)
  rw [← hw', ← eI] at k
  have hd : m_opI μ (W 244 0 t) (W 243 0 t) W1 120 μ.1 0 = W1 120 μ.1 0 + 1 := by rw [eI, up_k _ (by decide), ins_120]
  have hw : m_opI μ (W 244 0 t) (W 243 0 t) W1 212 0 (W1 120 μ.1 0) = 8 * W 244 0 t + 4096 * W 243 0 t := by rw [eI, up_k _ (by decide), ins_212, if_pos rfl]
  have hp := RPF.of1 k hd (fun g' _ z => by rw [hw] at z; omega)
  have hlo : LO W1 (m_opI μ (W 244 0 t) (W 243 0 t) W1) := by
    unfold m_opI
    exact LO.u (LO.ins LO.r ⟨q2.1, by rw [r4]; exact hfit⟩ (by rw [r4]; omega) hf.2.1.2) (Or.inr ⟨by decide, by decide, by decide⟩)
  have hap : AP μ W1 (m_opI μ (W 244 0 t) (W 243 0 t) W1) := by unfold m_opI; exact (AP.r.ins).u (by decide)
  have hB2 := r1.opI (q := W 244 0 t) (k := W 243 0 t) (by rw [r4]; omega) (by rw [r4]; omega)
  have e120 : W1 120 μ.1 0 = W 120 μ.1 0 := r3 _ _ _ (by decide) (by decide) (by decide) (by decide)
  have eW : m_opp μ (pl_ p) nd t W = (1, m_opN μ t (W 244 0 t) (W 243 0 t) t.toNat (m_opI μ (W 244 0 t) (W 243 0 t) W1)) := by unfold m_opp; rw [if_neg (by omega), if_neg (by omega), if_neg (by omega), hW1]
  refine ⟨by rw [eW], h.end_ hH ht h00 hF.1 hF.2 hcr r2 (by rw [r3 _ _ _ (by decide) (by decide) (by decide) (by decide), r3 _ _ _ (by decide) (by decide) (by decide) (by decide)]; exact v5.2) hp hlo hap ⟨hB2.1, hB2.2.2.1⟩ (fun G' g1 g2 => ?_) (hTR _ (fun c a i z => ?_) (fun i i0 i1 => by rw [hap.2.2.1 i i0 (by omega)]; exact r3 _ _ _ (by decide) (by decide) (by decide) (by decide))) (by omega) eW⟩
  · have h120 := r1.2.2.2.2
    have l1 := hlv.ins (q := W 244 0 t) (n := W 243 0 t) (G' := G') ⟨h120.2.1, by have := hH.1; have := h120.2.2; omega⟩ (by rw [r4]; omega) (by rw [r4]; omega) g1
    rw [eI]
    exact l1.cg (l1.b0.2.2.2.cong fun i => up_k _ (by decide) _ _ _ _ _) (fun c a i z => up_k _ (by omega) _ _ _ _ _)
  · rw [← r3 c a i (by omega) (by omega) (by omega) (by omega)]
    rcases z with rfl | rfl | rfl | rfl | rfl | rfl | rfl <;> exact hlo.2 _ _ _ (by decide) (by decide)
theorem OPI.k2 (h : OPI μ f κ S P n nd W0 (t + 1) p w W) (hH : OPH μ S P M n W0) (ht : 0 ≤ t ∧ t + 1 ≤ n) (h00 : w 0 0 0 = 0) (hk : W 241 0 t = 2) (hv : v = w 1 (w 10 (w 32 (ps_ p (κ t)) 0) 0) 0)
    (hN : NCh w Wc r (w 28 (w 11 (w 41 f 0) 0) 0) (W 244 0 t) 1) (hy : 0 < y ∧ Wc 0 y 0 = 0) (hw' : w' = d_rp (w 41 f 0) (W 244 0 t) v r y Wc) :
    (m_opp μ (pl_ p) nd t W).1 = 1 ∧ ∃ p', OPI μ f κ S P n nd W0 t p' w' (m_opp μ (pl_ p) nd t W).2 ∧ UPG f w w' ∧ pl_ p' = pl_ p := by
  obtain ⟨⟨v1, v2, v3⟩, v4, v5, v6, v7⟩ := h.v hH (by omega)
  obtain ⟨q1, q2, q3, q4, q5, q6⟩ := h.qf hH ht
  obtain ⟨hF, hc1, hTR⟩ := h.tr hH ht (g := 1) (w1 := w) (by rw [if_neg (by omega)]) (by rw [if_pos hk])
  obtain ⟨⟨r1, r2⟩, hcr, r3, r4, r5, r6, r7, r8, r9⟩ := h.rm hH ht hc1 (Or.inr hk)
  have q5' := q5 hk
  obtain ⟨W1, hW1⟩ : ∃ W1, W1 = m_rem μ (pl_ p) nd t W := ⟨_, rfl⟩
  rw [← hW1] at r1 r2 hcr r3 r4 r5
  have hlv := hcr.1.2.2
  have hl := hlv.b0.1
  have hch := r7.2.2.2.2 (Or.inr (by omega))
  rw [← r9] at hch
  obtain ⟨⟨c1, c2⟩, ⟨c3, c4⟩, c5, c6⟩ := hch
  have ev : v = W1 240 0 0 := by rw [hv, c6 0 (Int.le_refl _) (by omega), r5 0 (Int.le_refl _) (by omega)]
  have hvb := r1.2.2.1 0 (by decide) (by decide)
  rw [← ev] at hvb
  have hf := r1.f
  have hs := hcr.1.1.1.2.2.1.1.1
  have u0 : UPd (pc_ p) (fun _ _ => False) w Wc := NCh_u hN
  have hWc := hcr.1.1.fr0 hl u0
  have hg := NCh_v hN (by have := hs.2.1.2.1.1; omega) hcr.1.1.1.1
  have e41 : Wc 41 f 0 = w 41 f 0 := u0.1 _ _ _ (by have := hcr.1.1.1.2.1.1.1; omega) (fun z => z)
  have e67 := hWc.low.2.2.2.1
  have k := RLm.rp (g := r) (v := v) (q := W 244 0 t) (x := y) hWc hl (by rw [e67, r4]; omega) hvb.1 hy hg
  rw [e41, ← hw'] at k
  have hd : m_rep μ (W 244 0 t) v W1 120 μ.1 0 = W1 120 μ.1 0 + 1 := rep_120
  have hw : m_rep μ (W 244 0 t) v W1 212 0 (W1 120 μ.1 0) = 2 + 8 * W 244 0 t + 4096 * v := by rw [rep_212, if_pos rfl]
  have ez : wsz (2 + 8 * W 244 0 t + 4096 * v) = 1 := by unfold wsz; rw [if_pos (by omega)]
  have hp : RPF p μ f (lvL p μ W1) w W1 w' (m_rep μ (W 244 0 t) v W1) := (RPF.of1 k hd (fun g' hg' _ j j0 j1 => by
    rw [hw, ez] at j1
    rw [hg', hw, show (2 + 8 * W 244 0 t + 4096 * v) / 8 % 512 = W 244 0 t by omega]
    exact hcr.1.1.txt (by omega) (by rw [r4]; omega))).pre u0
  have hlo : LO W1 (m_rep μ (W 244 0 t) v W1) := LO.rep LO.r (by omega)
  have hap : AP μ W1 (m_rep μ (W 244 0 t) v W1) := AP.r.rep
  have hB2 := r1.rep (q := W 244 0 t) (c := v) hvb
  have e120 : W1 120 μ.1 0 = W 120 μ.1 0 := r3 _ _ _ (by decide) (by decide) (by decide) (by decide)
  have eW : m_opp μ (pl_ p) nd t W = (1, m_opN μ t (W 244 0 t) (W 243 0 t) t.toNat (m_rep μ (W 244 0 t) v W1)) := by unfold m_opp; rw [if_neg (by omega), if_pos hk, ← hW1, ev]
  refine ⟨by rw [eW], h.end_ hH ht h00 hF.1 hF.2 hcr r2 (by rw [r3 _ _ _ (by decide) (by decide) (by decide) (by decide), r3 _ _ _ (by decide) (by decide) (by decide) (by decide)]; exact v5.2) hp hlo hap ⟨hB2.1, hB2.2.2.1⟩ (fun G' g1 g2 => ?_) (hTR _ (fun c a i z => ?_) (fun i i0 i1 => by rw [hap.2.2.1 i i0 (by omega)]; exact r3 _ _ _ (by decide) (by decide) (by decide) (by decide))) (by omega) eW⟩
  · have h120 := r1.2.2.2.2
    have g3 := (g2 (W1 120 μ.1 0) (Int.le_refl _) (by omega) (by rw [hw]; omega)).2 0 (Int.le_refl _) (by rw [hw, ez]; decide)
    rw [hw, show (2 + 8 * W 244 0 t + 4096 * v) / 8 % 512 + 0 = W 244 0 t by omega] at g3
    exact hlv.rep (G' := G') ⟨h120.2.1, by have := hH.1; have := h120.2.2; omega⟩ (by rw [r4]; exact q3.2.2) (by rw [r4]; omega) hvb g1 g3
  · rw [← r3 c a i (by omega) (by omega) (by omega) (by omega)]
    rcases z with rfl | rfl | rfl | rfl | rfl | rfl | rfl <;> exact hlo.2 _ _ _ (by decide) (by decide)
end OPQ
