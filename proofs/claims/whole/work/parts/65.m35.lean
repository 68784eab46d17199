theorem up_same {w : Mm} {c k : Nat} {a i v : Int} (h : k ≠ c) {b j : Int} : up (up w c a i v) k b j (w k b j) = up w c a i v := by
  have := up_self (w := up w c a i v) (c := k) (a := b) (i := j)
  rw [up_k _ h] at this; exact this
def m_opL (μ : MU) (PL : Int → List Int) (nd : Int) : Nat → Mm → Int × Mm
  | 0, w => (1, w)
  | n + 1, w => if (m_opp μ PL nd n w).1 = 0 then (0, (m_opp μ PL nd n w).2) else m_opL μ PL nd n (m_opp μ PL nd n w).2
def m_ui3 (μ : MU) (p : Int × Mm) : Int × Mm := if p.1 = 0 then (0, m_rest μ 2 1 p.2) else m_ends μ 1 p.2
def m_ui4 (μ : MU) (e : Int × Mm) : Int × Mm := if e.1 = 0 then (0, m_th μ 2 e.2) else (e.2 126 μ.1 0, up (m_th μ 0 e.2) 129 μ.1 0 (-1))
def m_ui2 (μ : MU) (PL : Int → List Int) (nd : Int) (w : Mm) : Int × Mm := m_ui4 μ (m_ui3 μ (m_opL μ PL nd (w 137 μ.1 0).toNat w))
def m_ui1 (μ : MU) (PL : Int → List Int) (q : Int × Mm) : Int × Mm := if q.1 = -1 then (0, m_th μ 2 q.2) else m_ui2 μ PL (q.2 226 0 q.1) (m_saves μ 2 (m_th μ 0 q.2))
abbrev isR (lo hi : Int) (w : Mm) : Prop := (0 ≤ lo ∧ lo ≤ w 201 0 0) ∧ (lo ≤ hi ∧ hi ≤ w 201 0 0)
def o_undoIn (μ : MU) (PL : Int → List Int) (lo hi : Int) (w : Mm) : Int × Mm := if isR lo hi w then (if w 132 μ.1 0 = 1 then (0, m_th μ 2 w) else m_ui1 μ PL (m_fdI μ PL lo hi (m_th μ 0 w))) else (0, m_th μ 1 w)
/-- what the search for a change needs, and what it finds -/
def UN (μ : MU) (PL : Int → List Int) (w : Mm) : Prop := bEx μ w ∧ (∀ k, 0 ≤ k → k < w 124 μ.1 0 → w 216 0 k = 1 → RQ μ PL k w) ∧ bPb w ∧ (w 132 μ.1 0 = 0 → m_rpl μ PL (w 126 μ.1 0) w 201 0 1 = w 201 0 0) ∧ bTc 150010000 w ∧ (0 ≤ w 137 μ.1 0 ∧ w 137 μ.1 0 ≤ 8)
theorem TSm.t {μ : MU} {w w1 w2 : Mm} (h : TSm μ w w1) (g : TSm μ w1 w2) : TSm μ w w2 := by
  refine ⟨fun c a i x y => (g.1 c a i x y).trans (h.1 c a i x y), fun c x y => (g.2.1 c x y).trans (h.2.1 c x y), fun i a b => (g.2.2.1 i a (by rw [h.2.1 122 (by decide) (by decide)]; exact b)).trans (h.2.2.1 i a b), fun j a b => (g.2.2.2 j a (by rw [h.2.1 123 (by decide) (by decide)]; exact b)).trans (h.2.2.2 j a b)⟩
theorem UI.down {μ : MU} {S P N t : Int} {W0 W : Mm} (h : UI μ S P N W0 (t + 1) W) (ht : 0 ≤ t) : UI μ S P N W0 t W := by
  obtain ⟨a1, a2, a3, a4, a5, a6, a7⟩ := h
  have e := sumN_su (f := gI W0) ht
  have g := gI_nn (w := W0) t
  exact ⟨a1, a2, a3, a4.mono (by omega), fun i x y => a5 i x (by omega), by omega, by omega⟩
theorem UN.th {μ : MU} {PL : Int → List Int} {w : Mm} {k : Int} (h : UN μ PL w) (s1 : SB 1 w) (s2 : bB w) (s3 : 0 ≤ w 126 μ.1 0 ∧ w 126 μ.1 0 < w 124 μ.1 0) : UN μ PL (m_th μ k w) := by
  obtain ⟨h1, h2, h3, h4, h5, h6⟩ := h
  have e : ∀ c a i, c ≠ 139 → m_th μ k w c a i = w c a i := fun c a i hc => up_k _ hc _ _ _ _ _
  have h3' : bPb (m_th μ k w) := h3.cong fun i => e _ _ _ (by decide)
  have ts : TSm μ w (m_th μ k w) := ⟨fun c a i x y => e c a i (by omega), fun c x y => e c _ _ (by omega), fun i _ _ => e _ _ _ (by decide), fun j _ _ => pby_cong (e _ _ _ (by decide))⟩
  refine ⟨?_, fun j a b c => ?_, h3', fun g => ?_, fun t a b => ?_, ?_⟩
  · obtain ⟨b1, b2, b3, b4⟩ := h1
    refine ⟨?_, ?_, fun j a b c => ?_, ?_⟩
    · rw [e _ _ _ (by decide)]; exact b1
    · rw [e _ _ _ (by decide), e _ _ _ (by decide)]; exact b2
    · rw [e _ _ _ (by decide)] at b c
      rw [e _ _ _ (by decide), e _ _ _ (by decide)]; exact b3 j a b c
    · rw [e _ _ _ (by decide)]; exact b4
  · rw [e _ _ _ (by decide)] at b c
    exact ((h2 j a b c).app ts s1 s2 h3').1
  · rw [e _ _ _ (by decide)] at g
    rw [e 201 _ _ (by decide), e 126 _ _ (by decide), ← h4 g]
    exact ((h2 _ s3.1 s3.2 h1.2.1).app ts s1 s2 h3').2.1.1.symm
  · rw [e _ _ _ (by decide), e _ _ _ (by decide)]; exact h5 t a b
  · rw [e _ _ _ (by decide)]; exact h6
theorem un_start {μ : MU} {PL : Int → List Int} {S P M lo hi : Int} {w : Mm} (hB : RB μ S P M w) (hM : M ≤ 590) (hS : S ≤ 28900) (hU : UN μ PL w) (h0 : w 132 μ.1 0 = 0) (hr : (m_fdI μ PL lo hi w).1 ≠ -1) :
    (1 ≤ (m_fdI μ PL lo hi w).1 ∧ (m_fdI μ PL lo hi w).1 < 640) ∧ (1 ≤ (m_fdI μ PL lo hi w).2 137 μ.1 0 ∧ (m_fdI μ PL lo hi w).2 137 μ.1 0 ≤ 8) ∧
    (1 ≤ (m_fdI μ PL lo hi w).2 226 0 (m_fdI μ PL lo hi w).1 ∧ (m_fdI μ PL lo hi w).2 226 0 (m_fdI μ PL lo hi w).1 < w 124 μ.1 0 ∧ w 216 0 ((m_fdI μ PL lo hi w).2 226 0 (m_fdI μ PL lo hi w).1) = 1 ∧ w 216 0 (w 217 0 ((m_fdI μ PL lo hi w).2 226 0 (m_fdI μ PL lo hi w).1)) = 1) ∧
    UI μ S P ((m_fdI μ PL lo hi w).2 137 μ.1 0) (m_saves μ 2 (m_th μ 0 (m_fdI μ PL lo hi w).2)) ((m_fdI μ PL lo hi w).2 137 μ.1 0) (m_saves μ 2 (m_th μ 0 (m_fdI μ PL lo hi w).2)) ∧
    KS μ (m_saves μ 2 (m_th μ 0 (m_fdI μ PL lo hi w).2)) ∧
    sumN (gI (m_saves μ 2 (m_th μ 0 (m_fdI μ PL lo hi w).2))) ((m_fdI μ PL lo hi w).2 137 μ.1 0).toNat ≤ m_saves μ 2 (m_th μ 0 (m_fdI μ PL lo hi w).2) 201 0 0 ∧
    TSm μ w (m_saves μ 2 (m_th μ 0 (m_fdI μ PL lo hi w).2)) ∧ RK μ S P M (m_saves μ 2 (m_th μ 0 (m_fdI μ PL lo hi w).2)) ∧ bPb (m_saves μ 2 (m_th μ 0 (m_fdI μ PL lo hi w).2)) ∧
    (∀ c a i, c ≠ 127 → c ≠ 226 → c ≠ 137 → c ≠ 138 → c ≠ 139 → (c < 241 ∨ 246 < c) → (c < 200 ∨ (210 < c ∧ c ≠ 214 ∧ c ≠ 215)) → m_saves μ 2 (m_th μ 0 (m_fdI μ PL lo hi w).2) c a i = w c a i) := by
  obtain ⟨hL, hK, hZ, hY⟩ := hB
  obtain ⟨hE, hA, h6, hl, hTc, h8⟩ := hU
  have hl := hl h0
  have hT := hK.2.2.2.1
  have ht1 := hT.1
  have ht3 := hT.2.2.1
  obtain ⟨q1, q2, q3, q4⟩ := hA (w 126 μ.1 0) ht3.1 ht3.2 hE.2.1
  have q5 : (RSx PL (w 126 μ.1 0) w).length ≤ 30000 := by have := hT.2.2.2.2.1; omega
  have hx0 := pln_rng hT.pr _ (w 126 μ.1 0) (Nat.le_refl _) (by omega) (by omega)
  have hf := FRt.fdR (μ := μ) (PL := PL) (x := w 126 μ.1 0) (lo := lo) (hi := hi) hT (by omega) ht3 q1.1 q5 (m_pln w (w 126 μ.1 0) - 1).toNat (m_fin μ (w 126 μ.1 0) w) (by omega) (fun _ _ _ _ _ _ => rfl) (by rw [fin_at (by decide)]; exact h8) (fun t a b => by rw [fin_at (by decide), fin_at (by decide)]; exact hTc t a b)
  have hs1 := hK.2.2.1
  have hs2 := hL.2.2.1
  have r0 := rp0_SB (μ := μ) (x := w 126 μ.1 0) hs1 hs2
  have e201 : m_rp0 μ (w 126 μ.1 0) w 201 0 1 = 0 := by unfold m_rp0; rw [fin_at (by decide)]; unfold m_rini; rw [fl_at (by decide), fl_at (by decide), fl_at (by decide), up_s]
  have hln := LGL_LNL _ _ r0.1 r0.2 q1.2
  rw [e201] at hln
  have hnn : LNN PL (w 126 μ.1 0) w (m_pln w (w 126 μ.1 0) - 1).toNat := hln.1
  have hnl : lnN PL (w 126 μ.1 0) w (m_pln w (w 126 μ.1 0) - 1).toNat = w 201 0 0 := by rw [← hl]; exact hln.2.symm
  have hv := fdR_tv (μ := μ) (lo := lo) (hi := hi) (m_pln w (w 126 μ.1 0) - 1).toNat (m_fin μ (w 126 μ.1 0) w) (by omega) hnn hr
  rw [hnl] at hv
  have hr' : (m_fdI μ PL lo hi w).1 ≠ -1 := hr
  have hf : FRt (m_fin μ (w 126 μ.1 0) w) (m_fdI μ PL lo hi w).2 ∧ (0 ≤ (m_fdI μ PL lo hi w).2 137 μ.1 0 ∧ (m_fdI μ PL lo hi w).2 137 μ.1 0 ≤ 8) ∧ bTc 150010000 (m_fdI μ PL lo hi w).2 := hf
  have hv : (1 ≤ (m_fdI μ PL lo hi w).1 ∧ (m_fdI μ PL lo hi w).1 ≤ (m_pln w (w 126 μ.1 0) - 1).toNat) ∧ TVr (fun i => (m_fdI μ PL lo hi w).2 244 0 i) (fun i => (m_fdI μ PL lo hi w).2 245 0 i) ((m_fdI μ PL lo hi w).2 137 μ.1 0) (w 201 0 0) ∧ KS μ (m_fdI μ PL lo hi w).2 ∧ 1 ≤ (m_fdI μ PL lo hi w).2 137 μ.1 0 := hv
  generalize (m_fdI μ PL lo hi w).2 = V at hf hv ⊢
  generalize (m_fdI μ PL lo hi w).1 = r at hv hr' ⊢
  have e226 : V 226 0 r = m_anc w (w 126 μ.1 0) (m_pln w (w 126 μ.1 0) - 1 - r).toNat := by
    rw [hf.1 226 _ _ (by decide) (by decide) (by decide)]
    unfold m_fin
    simp only [fl, true_and]
    rw [if_pos (by omega)]
  have hal := anc_alive hT hE ht3 hE.2.1 (m_pln w (w 126 μ.1 0) - 1 - r).toNat (by omega)
  have hal2 := anc_alive hT hE ht3 hE.2.1 ((m_pln w (w 126 μ.1 0) - 1 - r).toNat + 1) (by omega)
  have hal3 : w 216 0 (w 217 0 (m_anc w (w 126 μ.1 0) (m_pln w (w 126 μ.1 0) - 1 - r).toNat)) = 1 := hal2.2.1
  have hal4 : 0 ≤ w 217 0 (m_anc w (w 126 μ.1 0) (m_pln w (w 126 μ.1 0) - 1 - r).toNat) := hal2.1.1
  have hb0 := hT.2.2.2.2.2.2 _ hal.1.1 (by omega)
  rw [← e226] at hal hal3 hal4 hb0
  have eV : ∀ c a i, c ≠ 127 → c ≠ 226 → c ≠ 137 → c ≠ 138 → (c < 241 ∨ 246 < c) → V c a i = w c a i := fun c a i y1 y2 y3 y4 y5 => by rw [hf.1 c a i y3 y4 y5]; exact fin_at ⟨y1, y2⟩
  have eU : ∀ c a i, c ≠ 127 → c ≠ 226 → c ≠ 137 → c ≠ 138 → c ≠ 139 → (c < 241 ∨ 246 < c) → m_th μ 0 V c a i = w c a i := fun c a i y1 y2 y3 y4 y6 y5 => by unfold m_th; rw [up_k _ y6]; exact eV c a i y1 y2 y3 y4 y5
  have eW : ∀ c a i, (c < 200 ∨ (210 < c ∧ c ≠ 214 ∧ c ≠ 215)) → m_saves μ 2 (m_th μ 0 V) c a i = m_th μ 0 V c a i := fun c a i h => saves_at h
  have eX : ∀ c a i, c ≠ 139 → m_th μ 0 V c a i = V c a i := fun c a i h => up_k _ h _ _ _ _ _
  have hLV : LB μ S P (m_th μ 0 V) := hL.cong (fun c a i x y z => eU c a i (by omega) (by omega) (by omega) (by omega) (by omega) (by omega)) (eU 120 _ _ (by decide) (by decide) (by decide) (by decide) (by decide) (by decide)) (eU 121 _ _ (by decide) (by decide) (by decide) (by decide) (by decide) (by decide))
  have hKV : RK μ S P M (m_th μ 0 V) := hK.cg fun c a i h => eU c a i (by omega) (by omega) (by omega) (by omega) (by omega) (by omega)
  have hLW := hLV.saves (a := 2) (by decide)
  have hKW := hKV.saves (a := 2) hLV (by decide)
  have e2 : m_saves μ 2 (m_th μ 0 V) 201 0 0 = w 201 0 0 := by rw [saves_201, if_neg (by decide)]; exact eU 201 _ _ (by decide) (by decide) (by decide) (by decide) (by decide) (by decide)
  have hKS : KS μ (m_saves μ 2 (m_th μ 0 V)) := fun i a b => by
    rw [eW 137 _ _ (by decide), eX 137 _ _ (by decide)] at b
    have := hv.2.2.1 i a b
    simp (disch := decide) only [eW, eX]
    exact this
  have hTV : TVr (fun i => m_saves μ 2 (m_th μ 0 V) 244 0 i) (fun i => m_saves μ 2 (m_th μ 0 V) 245 0 i) (V 137 μ.1 0) (m_saves μ 2 (m_th μ 0 V) 201 0 0) := by
    rw [e2]
    simp (disch := decide) only [eW, eX]
    exact hv.2.1
  refine ⟨by omega, by omega, ⟨?_, by omega, hal.2.1, hal3⟩, ⟨hLW.mono (by omega) (by omega), hKW.2.2.1, OF.r, hTV, fun i a b => ?_, ?_, ?_⟩, hKS, ?_, ?_, hKW, ?_, ?_⟩
  · by_cases c : V 226 0 r = 0
    · rw [c] at hb0 hal4; omega
    · omega
  · have := (hKS i a (by rw [eW 137 _ _ (by decide), eX 137 _ _ (by decide)]; exact b)).2.2.1
    exact this
  · have := hLW.f.2.2.2.1.2; omega
  · have := hLW.f.2.2.2.2.2; omega
  · refine Int.le_trans (sumN_le (g := fun i => m_saves μ 2 (m_th μ 0 V) 245 0 i - m_saves μ 2 (m_th μ 0 V) 244 0 i) fun i a b => ?_) (TVr.sum _ _ _ _ (by have := hLW.f.1; omega) (by rw [show (((V 137 μ.1 0).toNat : Nat) : Int) = V 137 μ.1 0 by omega]; exact hTV))
    have h1 := hKS i a (by rw [eW 137 _ _ (by decide), eX 137 _ _ (by decide)]; omega)
    have h2 := h1.2.2.1
    have h3 : 0 ≤ m_saves μ 2 (m_th μ 0 V) 244 0 i ∧ m_saves μ 2 (m_th μ 0 V) 244 0 i ≤ m_saves μ 2 (m_th μ 0 V) 245 0 i ∧ _ := hTV.1 i a (by omega)
    show gI _ i ≤ m_saves μ 2 (m_th μ 0 V) 245 0 i - m_saves μ 2 (m_th μ 0 V) 244 0 i
    unfold gI
    by_cases z : m_saves μ 2 (m_th μ 0 V) 241 0 i = 0 ∧ 0 ≤ m_saves μ 2 (m_th μ 0 V) 243 0 i
    · rw [if_pos z]; rw [if_neg (by omega)] at h2; omega
    · rw [if_neg z]; omega
  · refine ⟨fun c a i x y => ?_, fun c x y => ?_, fun i a b => ?_, fun j a b => pby_cong ?_⟩
    · rw [eW _ _ _ (by omega)]; exact eU c a i (by omega) (by omega) (by omega) (by omega) (by omega) (by omega)
    · rw [eW _ _ _ (by omega)]; exact eU c _ _ (by omega) (by omega) (by omega) (by omega) (by omega) (by omega)
    · rw [eW _ _ _ (by decide)]; exact eU _ _ _ (by decide) (by decide) (by decide) (by decide) (by decide) (by decide)
    · rw [eW _ _ _ (by decide)]; exact eU _ _ _ (by decide) (by decide) (by decide) (by decide) (by decide) (by decide)
  · exact h6.cong fun i => by rw [eW _ _ _ (by decide)]; exact eU _ _ _ (by decide) (by decide) (by decide) (by decide) (by decide) (by decide)
  · intro c a i y1 y2 y3 y4 y5 y6 y7
    rw [eW c a i y7]; exact eU c a i y1 y2 y3 y4 y5 y6
theorem dX13_undoIn_0 : decode cX13_undoIn 0 = .ok (.aload_n 0, 1) := by decide +kernel
theorem dX13_undoIn_1 : decode cX13_undoIn 1 = .ok (.iload_n 1, 1) := by decide +kernel
theorem dX13_undoIn_2 : decode cX13_undoIn 2 = .ok (.iconst 0, 1) := by decide +kernel
theorem dX13_undoIn_3 : decode cX13_undoIn 3 = .ok (.aload_n 0, 1) := by decide +kernel
theorem dX13_undoIn_4 : decode cX13_undoIn 4 = .ok (.getfield 13, 3) := by decide +kernel
theorem dX13_undoIn_7 : decode cX13_undoIn 7 = .ok (.iconst 0, 1) := by decide +kernel
theorem dX13_undoIn_8 : decode cX13_undoIn 8 = .ok (.iaload, 1) := by decide +kernel
theorem dX13_undoIn_9 : decode cX13_undoIn 9 = .ok (.invokestatic 174, 3) := by decide +kernel
theorem dX13_undoIn_12 : decode cX13_undoIn 12 = .ok (.ifCond .eq 17, 3) := by decide +kernel
theorem dX13_undoIn_15 : decode cX13_undoIn 15 = .ok (.iload_n 2, 1) := by decide +kernel
theorem dX13_undoIn_16 : decode cX13_undoIn 16 = .ok (.iload_n 1, 1) := by decide +kernel
theorem dX13_undoIn_17 : decode cX13_undoIn 17 = .ok (.aload_n 0, 1) := by decide +kernel
theorem dX13_undoIn_18 : decode cX13_undoIn 18 = .ok (.getfield 13, 3) := by decide +kernel
theorem dX13_undoIn_21 : decode cX13_undoIn 21 = .ok (.iconst 0, 1) := by decide +kernel
theorem dX13_undoIn_22 : decode cX13_undoIn 22 = .ok (.iaload, 1) := by decide +kernel
theorem dX13_undoIn_23 : decode cX13_undoIn 23 = .ok (.invokestatic 174, 3) := by decide +kernel
theorem dX13_undoIn_26 : decode cX13_undoIn 26 = .ok (.ifCond .ne 7, 3) := by decide +kernel
theorem dX13_undoIn_29 : decode cX13_undoIn 29 = .ok (.iconst 1, 1) := by decide +kernel
theorem dX13_undoIn_30 : decode cX13_undoIn 30 = .ok (.goto 16, 3) := by decide +kernel
theorem dX13_undoIn_33 : decode cX13_undoIn 33 = .ok (.aload_n 0, 1) := by decide +kernel
theorem dX13_undoIn_34 : decode cX13_undoIn 34 = .ok (.getfield 280, 3) := by decide +kernel
theorem dX13_undoIn_37 : decode cX13_undoIn 37 = .ok (.iconst 1, 1) := by decide +kernel
theorem dX13_undoIn_38 : decode cX13_undoIn 38 = .ok (.if_icmp .ne 7, 3) := by decide +kernel
theorem dX13_undoIn_41 : decode cX13_undoIn 41 = .ok (.iconst 2, 1) := by decide +kernel
theorem dX13_undoIn_42 : decode cX13_undoIn 42 = .ok (.goto 4, 3) := by decide +kernel
theorem dX13_undoIn_45 : decode cX13_undoIn 45 = .ok (.iconst 0, 1) := by decide +kernel
theorem dX13_undoIn_46 : decode cX13_undoIn 46 = .ok (.putfield 171, 3) := by decide +kernel
theorem dX13_undoIn_49 : decode cX13_undoIn 49 = .ok (.aload_n 0, 1) := by decide +kernel
theorem dX13_undoIn_50 : decode cX13_undoIn 50 = .ok (.getfield 171, 3) := by decide +kernel
theorem dX13_undoIn_53 : decode cX13_undoIn 53 = .ok (.ifCond .le 5, 3) := by decide +kernel
theorem dX13_undoIn_56 : decode cX13_undoIn 56 = .ok (.iconst 0, 1) := by decide +kernel
theorem dX13_undoIn_57 : decode cX13_undoIn 57 = .ok (.ireturn, 1) := by decide +kernel
theorem dX13_undoIn_58 : decode cX13_undoIn 58 = .ok (.aload_n 0, 1) := by decide +kernel
theorem dX13_undoIn_59 : decode cX13_undoIn 59 = .ok (.iload_n 1, 1) := by decide +kernel
theorem dX13_undoIn_60 : decode cX13_undoIn 60 = .ok (.iload_n 2, 1) := by decide +kernel
theorem dX13_undoIn_61 : decode cX13_undoIn 61 = .ok (.invokevirtual 426, 3) := by decide +kernel
theorem dX13_undoIn_64 : decode cX13_undoIn 64 = .ok (.istore_n 3, 1) := by decide +kernel
theorem dX13_undoIn_65 : decode cX13_undoIn 65 = .ok (.aload_n 0, 1) := by decide +kernel
theorem dX13_undoIn_66 : decode cX13_undoIn 66 = .ok (.iload_n 3, 1) := by decide +kernel
theorem dX13_undoIn_67 : decode cX13_undoIn 67 = .ok (.iconst (-1), 1) := by decide +kernel
theorem dX13_undoIn_68 : decode cX13_undoIn 68 = .ok (.if_icmp .ne 7, 3) := by decide +kernel
theorem dX13_undoIn_71 : decode cX13_undoIn 71 = .ok (.iconst 2, 1) := by decide +kernel
theorem dX13_undoIn_72 : decode cX13_undoIn 72 = .ok (.goto 4, 3) := by decide +kernel
theorem dX13_undoIn_75 : decode cX13_undoIn 75 = .ok (.iconst 0, 1) := by decide +kernel
theorem dX13_undoIn_76 : decode cX13_undoIn 76 = .ok (.putfield 171, 3) := by decide +kernel
theorem dX13_undoIn_79 : decode cX13_undoIn 79 = .ok (.aload_n 0, 1) := by decide +kernel
theorem dX13_undoIn_80 : decode cX13_undoIn 80 = .ok (.getfield 171, 3) := by decide +kernel
theorem dX13_undoIn_83 : decode cX13_undoIn 83 = .ok (.ifCond .le 5, 3) := by decide +kernel
theorem dX13_undoIn_86 : decode cX13_undoIn 86 = .ok (.iconst 0, 1) := by decide +kernel
theorem dX13_undoIn_87 : decode cX13_undoIn 87 = .ok (.ireturn, 1) := by decide +kernel
theorem dX13_undoIn_88 : decode cX13_undoIn 88 = .ok (.aload_n 0, 1) := by decide +kernel
theorem dX13_undoIn_89 : decode cX13_undoIn 89 = .ok (.getfield 96, 3) := by decide +kernel
theorem dX13_undoIn_92 : decode cX13_undoIn 92 = .ok (.iload_n 3, 1) := by decide +kernel
theorem dX13_undoIn_93 : decode cX13_undoIn 93 = .ok (.iaload, 1) := by decide +kernel
theorem dX13_undoIn_94 : decode cX13_undoIn 94 = .ok (.istore 4, 2) := by decide +kernel
theorem dX13_undoIn_96 : decode cX13_undoIn 96 = .ok (.aload_n 0, 1) := by decide +kernel
theorem dX13_undoIn_97 : decode cX13_undoIn 97 = .ok (.iconst 2, 1) := by decide +kernel
theorem dX13_undoIn_98 : decode cX13_undoIn 98 = .ok (.invokevirtual 343, 3) := by decide +kernel
theorem dX13_undoIn_101 : decode cX13_undoIn 101 = .ok (.iconst 1, 1) := by decide +kernel
theorem dX13_undoIn_102 : decode cX13_undoIn 102 = .ok (.istore 5, 2) := by decide +kernel
theorem dX13_undoIn_104 : decode cX13_undoIn 104 = .ok (.aload_n 0, 1) := by decide +kernel
theorem dX13_undoIn_105 : decode cX13_undoIn 105 = .ok (.getfield 410, 3) := by decide +kernel
theorem dX13_undoIn_108 : decode cX13_undoIn 108 = .ok (.iconst 1, 1) := by decide +kernel
theorem dX13_undoIn_109 : decode cX13_undoIn 109 = .ok (.isub, 1) := by decide +kernel
theorem dX13_undoIn_110 : decode cX13_undoIn 110 = .ok (.istore 6, 2) := by decide +kernel
theorem dX13_undoIn_112 : decode cX13_undoIn 112 = .ok (.iload 6, 2) := by decide +kernel
theorem dX13_undoIn_114 : decode cX13_undoIn 114 = .ok (.ifCond .lt 24, 3) := by decide +kernel
theorem dX13_undoIn_117 : decode cX13_undoIn 117 = .ok (.iload 5, 2) := by decide +kernel
theorem dX13_undoIn_119 : decode cX13_undoIn 119 = .ok (.ifCond .eq 19, 3) := by decide +kernel
theorem dX13_undoIn_122 : decode cX13_undoIn 122 = .ok (.aload_n 0, 1) := by decide +kernel
theorem dX13_undoIn_123 : decode cX13_undoIn 123 = .ok (.iload 4, 2) := by decide +kernel
theorem dX13_undoIn_125 : decode cX13_undoIn 125 = .ok (.iload 6, 2) := by decide +kernel
theorem dX13_undoIn_127 : decode cX13_undoIn 127 = .ok (.invokevirtual 429, 3) := by decide +kernel
theorem dX13_undoIn_130 : decode cX13_undoIn 130 = .ok (.istore 5, 2) := by decide +kernel
theorem dX13_undoIn_132 : decode cX13_undoIn 132 = .ok (.iinc 6 (-1), 3) := by decide +kernel
theorem dX13_undoIn_135 : decode cX13_undoIn 135 = .ok (.goto (-23), 3) := by decide +kernel
theorem dX13_undoIn_138 : decode cX13_undoIn 138 = .ok (.iload 5, 2) := by decide +kernel
theorem dX13_undoIn_140 : decode cX13_undoIn 140 = .ok (.ifCond .ne 9, 3) := by decide +kernel
theorem dX13_undoIn_143 : decode cX13_undoIn 143 = .ok (.aload_n 0, 1) := by decide +kernel
theorem dX13_undoIn_144 : decode cX13_undoIn 144 = .ok (.iconst 2, 1) := by decide +kernel
theorem dX13_undoIn_145 : decode cX13_undoIn 145 = .ok (.iconst 1, 1) := by decide +kernel
theorem dX13_undoIn_146 : decode cX13_undoIn 146 = .ok (.invokevirtual 287, 3) := by decide +kernel
theorem dX13_undoIn_149 : decode cX13_undoIn 149 = .ok (.aload_n 0, 1) := by decide +kernel
theorem dX13_undoIn_150 : decode cX13_undoIn 150 = .ok (.iload 5, 2) := by decide +kernel
theorem dX13_undoIn_152 : decode cX13_undoIn 152 = .ok (.ifCond .eq 11, 3) := by decide +kernel
theorem dX13_undoIn_155 : decode cX13_undoIn 155 = .ok (.aload_n 0, 1) := by decide +kernel
theorem dX13_undoIn_156 : decode cX13_undoIn 156 = .ok (.iconst 1, 1) := by decide +kernel
theorem dX13_undoIn_157 : decode cX13_undoIn 157 = .ok (.invokevirtual 352, 3) := by decide +kernel
theorem dX13_undoIn_160 : decode cX13_undoIn 160 = .ok (.ifCond .ne 7, 3) := by decide +kernel
theorem dX13_undoIn_163 : decode cX13_undoIn 163 = .ok (.iconst 2, 1) := by decide +kernel
theorem dX13_undoIn_164 : decode cX13_undoIn 164 = .ok (.goto 4, 3) := by decide +kernel
theorem dX13_undoIn_167 : decode cX13_undoIn 167 = .ok (.iconst 0, 1) := by decide +kernel
theorem dX13_undoIn_168 : decode cX13_undoIn 168 = .ok (.putfield 171, 3) := by decide +kernel
theorem dX13_undoIn_171 : decode cX13_undoIn 171 = .ok (.aload_n 0, 1) := by decide +kernel
theorem dX13_undoIn_172 : decode cX13_undoIn 172 = .ok (.aload_n 0, 1) := by decide +kernel
theorem dX13_undoIn_173 : decode cX13_undoIn 173 = .ok (.getfield 171, 3) := by decide +kernel
theorem dX13_undoIn_176 : decode cX13_undoIn 176 = .ok (.ifCond .ne 7, 3) := by decide +kernel
theorem dX13_undoIn_179 : decode cX13_undoIn 179 = .ok (.iconst (-1), 1) := by decide +kernel
theorem dX13_undoIn_180 : decode cX13_undoIn 180 = .ok (.goto 7, 3) := by decide +kernel
theorem dX13_undoIn_183 : decode cX13_undoIn 183 = .ok (.aload_n 0, 1) := by decide +kernel
theorem dX13_undoIn_184 : decode cX13_undoIn 184 = .ok (.getfield 105, 3) := by decide +kernel
theorem dX13_undoIn_187 : decode cX13_undoIn 187 = .ok (.putfield 105, 3) := by decide +kernel
theorem dX13_undoIn_190 : decode cX13_undoIn 190 = .ok (.aload_n 0, 1) := by decide +kernel
theorem dX13_undoIn_191 : decode cX13_undoIn 191 = .ok (.getfield 171, 3) := by decide +kernel
theorem dX13_undoIn_194 : decode cX13_undoIn 194 = .ok (.ifCond .ne 10, 3) := by decide +kernel
theorem dX13_undoIn_197 : decode cX13_undoIn 197 = .ok (.aload_n 0, 1) := by decide +kernel
theorem dX13_undoIn_198 : decode cX13_undoIn 198 = .ok (.getfield 258, 3) := by decide +kernel
theorem dX13_undoIn_201 : decode cX13_undoIn 201 = .ok (.goto 4, 3) := by decide +kernel
theorem dX13_undoIn_204 : decode cX13_undoIn 204 = .ok (.iconst 0, 1) := by decide +kernel
theorem dX13_undoIn_205 : decode cX13_undoIn 205 = .ok (.ireturn, 1) := by decide +kernel
set_option maxRecDepth 4000 in
theorem c_undoIn (γ : LC) (μ : MU) (w : Mm) (lo hi : Int) (PL : Int → List Int) (S P M : Int) (hlh : IR lo ∧ IR hi) (hU : UN μ PL w) (hR0 : RB μ S P M w) (hS : S ≤ 28900) (hP : P ≤ 500000) (hM : M ≤ 590) : CMi γ μ 7 mX13_undoIn [.int (I lo), .int (I hi)] w (fun r w' => r = (o_undoIn μ PL lo hi w).1 ∧ w' = (o_undoIn μ PL lo hi w).2) := by
  refine CMi_of rfl (by simp [rv_cat, Value.category]) rfl ?_
  rintro κ hO hF rfl hR
  have hD := hF.dp
  show X κ 0 0 w 0 [some (rv μ.1), some (.int (I lo)), some (.int (I hi)), none, none, none, none] []
  have JP46 : ∀ (z : Int), ((z = 1 ∧ ¬ isR lo hi w) ∨ (z = 2 ∧ isR lo hi w ∧ w 132 μ.1 0 = 1) ∨ (z = 0 ∧ isR lo hi w ∧ w 132 μ.1 0 ≠ 1)) → X κ 0 0 (w) 46 [some (rv μ.1), some (.int (I lo)), some (.int (I hi)), none, none, none, none] [.int (I z), rv μ.1] := by
    intro z hz
    refine pa_171 49 hO hR dX13_undoIn_46 rfl (by omega) (fun hR => ?_)
    refine X_aload_n 50 hO dX13_undoIn_49 rfl rfl ?_
    refine ga_171 53 hO hR dX13_undoIn_50 rfl (fun hi_50 => ?_)
    try simp (disch := decide) only [up_k, up_s, mvN_at] at hi_50 ⊢
    refine X_if_le 56 58 hO dX13_undoIn_53 rfl rfl (by omega) (fun hc_53 => ?_) (fun hc_53 => ?_)
    ·
      have ez : z = 0 := by omega
      subst ez
      have hC : isR lo hi w := by omega
      have h132 : w 132 μ.1 0 ≠ 1 := by omega
      have hg0 : w 132 μ.1 0 = 0 := by have := hR0.2.2.1.1; omega
      refine X_eqR hR (w2 := m_th μ 0 w) rfl (fun hR => ?_)
      have hR1 : RB μ S P M (m_th μ 0 w) := hR0.th
      have hU1 : UN μ PL (m_th μ 0 w) := hU.th hR0.2.1.2.2.1 hR0.1.2.2.1 hR0.2.1.2.2.2.1.2.2.1
      have hL1 := hR1.1
      have hK1 := hR1.2.1
      have hz1 := hR1.2.2.1
      have h0g : m_th μ 0 w 132 μ.1 0 = 0 := (up_k _ (by decide) _ _ _ _ _).trans hg0
      have hT1 := hK1.2.2.2.1
      have hcur := hT1.2.2.1
      have hqc := hU1.2.1 _ hcur.1 hcur.2 hU1.1.2.1
      have hqn : (RSx PL (m_th μ 0 w 126 μ.1 0) (m_th μ 0 w)).length ≤ 30000 := by have := hqc.2.2.2; have := hT1.2.2.2.2.1; omega
      refine X_aload_n 59 hO dX13_undoIn_58 rfl rfl ?_
      refine X_iload_n 60 hO dX13_undoIn_59 rfl rfl ?_
      refine X_iload_n 61 hO dX13_undoIn_60 rfl rfl ?_
      refine XM_callVi 64 hO hD hR lX13_426 [_, _] rfl dX13_undoIn_61 rfl (c_foundIn _ _ _ _ _ M PL hlh hT1 (by omega) hqc.1.1 hqn hU1.2.2.2.2.2 hU1.2.2.2.2.1) (by decide) (by simp only [List.map_cons, List.map_nil, rv_cat]; exact Nat.le_of_ble_eq_true rfl) (fun r_61 w_61 hr_61 hp_61 hR => ?_)
      have e1_61 : r_61 = (m_fdI μ PL lo hi (m_th μ 0 w)).1 := hp_61.1
      have e2_61 : w_61 = (m_fdI μ PL lo hi (m_th μ 0 w)).2 := hp_61.2
      clear hp_61
      subst e1_61
      subst e2_61
      refine X_istore_n 65 hO dX13_undoIn_64 rfl rfl ?_
      have JP76 : ∀ (z : Int), ((z = 2 ∧ (m_fdI μ PL lo hi (m_th μ 0 w)).1 = -1) ∨ (z = 0 ∧ (m_fdI μ PL lo hi (m_th μ 0 w)).1 ≠ -1)) → X κ 0 0 ((m_fdI μ PL lo hi (m_th μ 0 w)).2) 76 [some (rv μ.1), some (.int (I lo)), some (.int (I hi)), some (.int (I (m_fdI μ PL lo hi (m_th μ 0 w)).1)), none, none, none] [.int (I z), rv μ.1] := by
        intro z hz2
        refine pa_171 79 hO hR dX13_undoIn_76 rfl (by omega) (fun hR => ?_)
        refine X_aload_n 80 hO dX13_undoIn_79 rfl rfl ?_
        refine ga_171 83 hO hR dX13_undoIn_80 rfl (fun hi_80 => ?_)
        try simp (disch := decide) only [up_k, up_s, mvN_at] at hi_80 ⊢
        refine X_if_le 86 88 hO dX13_undoIn_83 rfl rfl (by omega) (fun hc_83 => ?_) (fun hc_83 => ?_)
        ·
          have ez2 : z = 0 := by omega
          subst ez2
          have hne : (m_fdI μ PL lo hi (m_th μ 0 w)).1 ≠ -1 := by omega
          have hst := un_start (lo := lo) (hi := hi) hR1 hM hS hU1 h0g hne
          obtain ⟨hrr, hN8, hnd, hUI0, hKS0, hG, hTS, hKW, hB60, hW0⟩ := hst
          have hb5 := hT1.2.2.2.2.2.2 ((m_fdI μ PL lo hi (m_th μ 0 w)).2 226 0 (m_fdI μ PL lo hi (m_th μ 0 w)).1) (by omega) hnd.2.1
          have hpar : 0 ≤ m_th μ 0 w 217 0 ((m_fdI μ PL lo hi (m_th μ 0 w)).2 226 0 (m_fdI μ PL lo hi (m_th μ 0 w)).1) ∧ m_th μ 0 w 217 0 ((m_fdI μ PL lo hi (m_th μ 0 w)).2 226 0 (m_fdI μ PL lo hi (m_th μ 0 w)).1) < m_th μ 0 w 124 μ.1 0 := by omega
          have e124 : m_th μ 0 w 124 μ.1 0 = w 124 μ.1 0 := up_k _ (by decide) _ _ _ _ _
          have h137 : (m_saves μ 2 (m_th μ 0 (m_fdI μ PL lo hi (m_th μ 0 w)).2)) 137 μ.1 0 = ((m_fdI μ PL lo hi (m_th μ 0 w)).2 137 μ.1 0) := (saves_at (by decide)).trans (up_k _ (by decide) _ _ _ _ _)
          have hl2 : 0 ≤ m_th μ 0 (m_fdI μ PL lo hi (m_th μ 0 w)).2 201 0 0 ∧ m_th μ 0 (m_fdI μ PL lo hi (m_th μ 0 w)).2 201 0 0 ≤ 400 := by have := hUI0.1.f.1; rw [saves_201, if_neg (by decide)] at this; exact this
          refine X_eqR hR (w2 := m_th μ 0 (m_fdI μ PL lo hi (m_th μ 0 w)).2) rfl (fun hR => ?_)
          refine X_aload_n 89 hO dX13_undoIn_88 rfl rfl ?_
          refine ga_96 92 hO hR dX13_undoIn_89 rfl ?_
          refine X_iload_n 93 hO dX13_undoIn_92 rfl rfl ?_
          refine ma_ld (L := 640) (c := 226) 94 hO hR rfl rfl rfl dX13_undoIn_93 rfl (by omega) (by omega) (fun hi_93 => ?_)
          try simp (disch := decide) only [up_k, up_s, mvN_at] at hi_93 ⊢
          rw [show m_th μ 0 (m_fdI μ PL lo hi (m_th μ 0 w)).2 226 0 (m_fdI μ PL lo hi (m_th μ 0 w)).1 = ((m_fdI μ PL lo hi (m_th μ 0 w)).2 226 0 (m_fdI μ PL lo hi (m_th μ 0 w)).1) from up_k _ (by decide) _ _ _ _ _] at hi_93 ⊢
          refine X_istore 96 hO dX13_undoIn_94 rfl rfl ?_
          refine X_aload_n 97 hO dX13_undoIn_96 rfl rfl ?_
          refine X_iconst 98 hO dX13_undoIn_97 rfl ?_
          refine XM_callVv 101 hO hD hR lX13_343 [_] rfl dX13_undoIn_98 rfl (c_saves _ _ _ 2 (by omega) hl2) (by decide) (by simp only [List.map_cons, List.map_nil, rv_cat]; exact Nat.le_of_ble_eq_true rfl) (fun w_98 hp_98 hR => ?_)
          subst hp_98
          refine X_iconst 102 hO dX13_undoIn_101 rfl ?_
          refine X_istore 104 hO dX13_undoIn_102 rfl rfl ?_
          refine X_aload_n 105 hO dX13_undoIn_104 rfl rfl ?_
          refine ga_410 108 hO hR dX13_undoIn_105 rfl (fun hi_105 => ?_)
          try simp (disch := decide) only [up_k, up_s, mvN_at] at hi_105 ⊢
          rw [h137] at hi_105 ⊢
          refine X_iconst 109 hO dX13_undoIn_108 rfl ?_
          refine X_isub 110 hO dX13_undoIn_109 rfl ?_
          refine X_istore 112 hO dX13_undoIn_110 rfl rfl ?_
          have LP112 : ∀ (n : Nat) (t c : Int) (W : Mm), (t + 1).toNat < n → (c = 0 ∨ c = 1) → (-1 ≤ t ∧ t + 1 ≤ ((m_fdI μ PL lo hi (m_th μ 0 w)).2 137 μ.1 0)) → (UI μ S P ((m_fdI μ PL lo hi (m_th μ 0 w)).2 137 μ.1 0) (m_saves μ 2 (m_th μ 0 (m_fdI μ PL lo hi (m_th μ 0 w)).2)) (t + 1) W) → (bPb W) → ((m_opL μ PL ((m_fdI μ PL lo hi (m_th μ 0 w)).2 226 0 (m_fdI μ PL lo hi (m_th μ 0 w)).1) ((m_fdI μ PL lo hi (m_th μ 0 w)).2 137 μ.1 0).toNat (m_saves μ 2 (m_th μ 0 (m_fdI μ PL lo hi (m_th μ 0 w)).2))) = if c = 0 then (0, W) else m_opL μ PL ((m_fdI μ PL lo hi (m_th μ 0 w)).2 226 0 (m_fdI μ PL lo hi (m_th μ 0 w)).1) (t + 1).toNat W) → RM (W) μ → X κ 0 0 (W) 112 [some (rv μ.1), some (.int (I lo)), some (.int (I hi)), some (.int (I (m_fdI μ PL lo hi (m_th μ 0 w)).1)), some (.int (I ((m_fdI μ PL lo hi (m_th μ 0 w)).2 226 0 (m_fdI μ PL lo hi (m_th μ 0 w)).1))), some (.int (I c)), some (.int (I t))] [] := by
            intro n
            induction n with
            | zero => intro t c W hm; exact absurd hm (Nat.not_lt_zero _)
            | succ n iho =>
              intro t c W hm hc01 ht hUI hB6 hEq hR
              obtain ⟨u1, u2, u3, u4, u5, u6, u7⟩ := id hUI
              have hpl := hUI.pool hG gI_nn
              obtain ⟨f1, f2, f3, f4, f5⟩ := u1.f
              have hRW : RK μ (S + 8) (P + 400) M W := (u3.rk u2 hKW).mono (by omega) (by omega)
              have hTSW : TSm μ (m_th μ 0 w) W := hTS.t (u3.ts (by rw [hW0 122 _ _ (by decide) (by decide) (by decide) (by decide) (by decide) (by decide) (by decide), hW0 120 _ _ (by decide) (by decide) (by decide) (by decide) (by decide) (by decide) (by decide), hW0 123 _ _ (by decide) (by decide) (by decide) (by decide) (by decide) (by decide) (by decide), hW0 121 _ _ (by decide) (by decide) (by decide) (by decide) (by decide) (by decide) (by decide)]; exact hz1.2.2.1))
              have eT : W 124 μ.1 0 = w 124 μ.1 0 := (hTSW.2.1 124 (by decide) (by decide)).trans (up_k _ (by decide) _ _ _ _ _)
              have e17 : W 217 0 ((m_fdI μ PL lo hi (m_th μ 0 w)).2 226 0 (m_fdI μ PL lo hi (m_th μ 0 w)).1) = m_th μ 0 w 217 0 ((m_fdI μ PL lo hi (m_th μ 0 w)).2 226 0 (m_fdI μ PL lo hi (m_th μ 0 w)).1) := hTSW.1 217 _ _ (by decide) (by decide)
              have hq1 := ((hU1.2.1 ((m_fdI μ PL lo hi (m_th μ 0 w)).2 226 0 (m_fdI μ PL lo hi (m_th μ 0 w)).1) (by omega) hnd.2.1 hnd.2.2.1).app hTSW hK1.2.2.1 hL1.2.2.1 hB6).1
              have hq2 := ((hU1.2.1 (m_th μ 0 w 217 0 ((m_fdI μ PL lo hi (m_th μ 0 w)).2 226 0 (m_fdI μ PL lo hi (m_th μ 0 w)).1)) hpar.1 hpar.2 hnd.2.2.2).app hTSW hK1.2.2.1 hL1.2.2.1 hB6).1
              rw [← e17] at hq2
              have hno := nd_ok hRW.2.2.2.1 (by rw [eT]; exact ⟨hnd.1, hnd.2.1⟩) hq1 u2 u1.2.2.1 hB6
              have JP138 : (t < 0 ∨ c = 0) → X κ 0 0 (W) 138 [some (rv μ.1), some (.int (I lo)), some (.int (I hi)), some (.int (I (m_fdI μ PL lo hi (m_th μ 0 w)).1)), some (.int (I ((m_fdI μ PL lo hi (m_th μ 0 w)).2 226 0 (m_fdI μ PL lo hi (m_th μ 0 w)).1))), some (.int (I c)), none] [] := by
                intro  hx
                have hEN : (m_ui3 μ (m_opL μ PL ((m_fdI μ PL lo hi (m_th μ 0 w)).2 226 0 (m_fdI μ PL lo hi (m_th μ 0 w)).1) ((m_fdI μ PL lo hi (m_th μ 0 w)).2 137 μ.1 0).toNat (m_saves μ 2 (m_th μ 0 (m_fdI μ PL lo hi (m_th μ 0 w)).2)))) = if c = 0 then (0, m_rest μ 2 1 W) else m_ends μ 1 W := by
                  rw [hEq]
                  by_cases c0 : c = 0
                  · rw [if_pos c0, if_pos c0]; unfold m_ui3; rw [if_pos rfl]
                  · rw [if_neg c0, if_neg c0, show (t + 1).toNat = 0 by omega]
                    show m_ui3 μ (1, W) = _
                    unfold m_ui3; rw [if_neg (show ¬ ((1 : Int) = 0) by decide)]
                have hz9 : W 122 μ.1 0 ≤ W 120 μ.1 0 := by
                  have a1 := u3.1 122 μ.1 0 (by decide)
                  have a2 := u3.2.2.1
                  have a3 := hW0 122 μ.1 0 (by decide) (by decide) (by decide) (by decide) (by decide) (by decide) (by decide)
                  have a4 := hW0 120 μ.1 0 (by decide) (by decide) (by decide) (by decide) (by decide) (by decide) (by decide)
                  have a5 := hz1.2.2.1
                  omega
                clear iho hEq
                have JP149 : ∀ (W3 : Mm), (W3 = if c = 0 then m_rest μ 2 1 W else W) → (RM W3 μ) → X κ 0 0 (W3) 149 [some (rv μ.1), some (.int (I lo)), some (.int (I hi)), some (.int (I (m_fdI μ PL lo hi (m_th μ 0 w)).1)), some (.int (I ((m_fdI μ PL lo hi (m_th μ 0 w)).2 226 0 (m_fdI μ PL lo hi (m_th μ 0 w)).1))), some (.int (I c)), none] [] := by
                  intro W3 hW3 hR
                  have JP168 : ∀ (z : Int) (W4 : Mm), ((z = 2 ∧ (m_ui3 μ (m_opL μ PL ((m_fdI μ PL lo hi (m_th μ 0 w)).2 226 0 (m_fdI μ PL lo hi (m_th μ 0 w)).1) ((m_fdI μ PL lo hi (m_th μ 0 w)).2 137 μ.1 0).toNat (m_saves μ 2 (m_th μ 0 (m_fdI μ PL lo hi (m_th μ 0 w)).2)))).1 = 0) ∨ (z = 0 ∧ (m_ui3 μ (m_opL μ PL ((m_fdI μ PL lo hi (m_th μ 0 w)).2 226 0 (m_fdI μ PL lo hi (m_th μ 0 w)).1) ((m_fdI μ PL lo hi (m_th μ 0 w)).2 137 μ.1 0).toNat (m_saves μ 2 (m_th μ 0 (m_fdI μ PL lo hi (m_th μ 0 w)).2)))).1 ≠ 0)) → (W4 = (m_ui3 μ (m_opL μ PL ((m_fdI μ PL lo hi (m_th μ 0 w)).2 226 0 (m_fdI μ PL lo hi (m_th μ 0 w)).1) ((m_fdI μ PL lo hi (m_th μ 0 w)).2 137 μ.1 0).toNat (m_saves μ 2 (m_th μ 0 (m_fdI μ PL lo hi (m_th μ 0 w)).2)))).2) → (RM W4 μ) → X κ 0 0 (W4) 168 [some (rv μ.1), some (.int (I lo)), some (.int (I hi)), none, none, none, none] [.int (I z), rv μ.1] := by
                    intro z W4 hz4 hW4 hR
                    refine pa_171 171 hO hR dX13_undoIn_168 rfl (by omega) (fun hR => ?_)
                    have JP187 : ∀ (v : Int), (v = if z = 0 then -1 else W4 129 μ.1 0) → (IR v) → X κ 0 0 (up W4 139 μ.1 0 z) 187 [some (rv μ.1), some (.int (I lo)), some (.int (I hi)), none, none, none, none] [.int (I v), rv μ.1] := by
                      intro v hv hvi
                      refine pa_105 190 hO hR dX13_undoIn_187 rfl (by omega) (fun hR => ?_)
                      have JP205 : ∀ (r : Int), (r = if z = 0 then W4 126 μ.1 0 else 0) → (IR r) → X κ 0 0 (up (up W4 139 μ.1 0 z) 129 μ.1 0 v) 205 [some (rv μ.1), some (.int (I lo)), some (.int (I hi)), none, none, none, none] [.int (I r)] := by
                        intro r hr hri
                        exact XM_iret hO hF hR rfl (by first | exact Or.inl rfl | exact Or.inr ⟨rfl, bi_01 _⟩ | exact Or.inr ⟨rfl, by omega⟩) dX13_undoIn_205 (by omega) (by rw [hr, hv]; unfold o_undoIn m_ui1 m_ui2 m_ui4; rw [if_pos hC, if_neg h132, if_neg hne, h137]; rcases hz4 with ⟨h1, h2⟩ | ⟨h1, h2⟩ <;> subst h1 <;> first | (rw [if_pos h2, if_neg (by decide), if_neg (by decide), hW4]; exact ⟨rfl, up_same (by decide)⟩) | (rw [if_neg h2, if_pos rfl, if_pos rfl, hW4]; exact ⟨rfl, rfl⟩))
                      refine X_aload_n 191 hO dX13_undoIn_190 rfl rfl ?_
                      refine ga_171 194 hO hR dX13_undoIn_191 rfl (fun hi_191 => ?_)
                      try simp (disch := decide) only [up_k, up_s, mvN_at] at hi_191 ⊢
                      refine X_if_ne 197 204 hO dX13_undoIn_194 rfl rfl (by omega) (fun hc_194 => ?_) (fun hc_194 => ?_)
                      ·
                        refine X_iconst 205 hO dX13_undoIn_204 rfl ?_
                        exact JP205 _ (by first | rw [if_pos (by omega)] | rw [if_neg (by omega)]) (by omega)
                      ·
                        refine X_aload_n 198 hO dX13_undoIn_197 rfl rfl ?_
                        refine ga_258 201 hO hR dX13_undoIn_198 rfl (fun hi_198 => ?_)
                        try simp (disch := decide) only [up_k, up_s, mvN_at] at hi_198 ⊢
                        refine X_goto hO dX13_undoIn_201 (tgt := 205) rfl ?_
                        exact JP205 _ (by first | rw [if_pos (by omega)] | rw [if_neg (by omega)]) (by omega)
                    refine X_aload_n 172 hO dX13_undoIn_171 rfl rfl ?_
                    refine X_aload_n 173 hO dX13_undoIn_172 rfl rfl ?_
                    refine ga_171 176 hO hR dX13_undoIn_173 rfl (fun hi_173 => ?_)
                    try simp (disch := decide) only [up_k, up_s, mvN_at] at hi_173 ⊢
                    refine X_if_ne 179 183 hO dX13_undoIn_176 rfl rfl (by omega) (fun hc_176 => ?_) (fun hc_176 => ?_)
                    ·
                      refine X_aload_n 184 hO dX13_undoIn_183 rfl rfl ?_
                      refine ga_105 187 hO hR dX13_undoIn_184 rfl (fun hi_184 => ?_)
                      try simp (disch := decide) only [up_k, up_s, mvN_at] at hi_184 ⊢
                      exact JP187 _ (by first | rw [if_pos (by omega)] | rw [if_neg (by omega)]) (by omega)
                    ·
                      refine X_iconst 180 hO dX13_undoIn_179 rfl ?_
                      refine X_goto hO dX13_undoIn_180 (tgt := 187) rfl ?_
                      exact JP187 _ (by first | rw [if_pos (by omega)] | rw [if_neg (by omega)]) (by omega)
                  refine X_aload_n 150 hO dX13_undoIn_149 rfl rfl ?_
                  refine X_iload 152 hO dX13_undoIn_150 rfl rfl ?_
                  refine X_if_eq 155 163 hO dX13_undoIn_152 rfl rfl (by omega) (fun hc_152 => ?_) (fun hc_152 => ?_)
                  ·
                    rw [if_pos hc_152] at hW3 hEN
                    subst hW3
                    refine X_iconst 164 hO dX13_undoIn_163 rfl ?_
                    refine X_goto hO dX13_undoIn_164 (tgt := 168) rfl ?_
                    exact X_wk (by simp only [lwk, lset, true_or, or_true, and_self]) (JP168 _ _ (by rw [hEN]; first | (left; exact ⟨rfl, by first | rfl | omega⟩) | (right; exact ⟨rfl, by omega⟩)) (by rw [hEN] <;> first | rfl | exact e2_157) hR)
                  ·
                    rw [if_neg hc_152] at hW3 hEN
                    subst hW3
                    refine X_aload_n 156 hO dX13_undoIn_155 rfl rfl ?_
                    refine X_iconst 157 hO dX13_undoIn_156 rfl ?_
                    refine XM_callVi 160 hO hD hR lX13_352 [_] rfl dX13_undoIn_157 rfl (c_ends _ _ _ 1 (S + 8) (P + 400) M (by omega) hz9 u1 hRW (by omega) (by omega) (by omega)) (by decide) (by simp only [List.map_cons, List.map_nil, rv_cat]; exact Nat.le_of_ble_eq_true rfl) (fun r_157 w_157 hr_157 hp_157 hR => ?_)
                    obtain ⟨e1_157, e2_157⟩ := hp_157
                    refine X_if_ne 163 167 hO dX13_undoIn_160 rfl rfl (by omega) (fun hc_160 => ?_) (fun hc_160 => ?_)
                    ·
                      try simp only [bi_0, bi_ne, ne_eq, Classical.not_not] at hc_160
                      refine X_iconst 168 hO dX13_undoIn_167 rfl ?_
                      exact X_wk (by simp only [lwk, lset, true_or, or_true, and_self]) (JP168 _ _ (by rw [hEN]; first | (left; exact ⟨rfl, by first | rfl | omega⟩) | (right; exact ⟨rfl, by omega⟩)) (by rw [hEN] <;> first | rfl | exact e2_157) hR)
                    ·
                      try simp only [bi_0, bi_ne, ne_eq, Classical.not_not] at hc_160
                      refine X_iconst 164 hO dX13_undoIn_163 rfl ?_
                      refine X_goto hO dX13_undoIn_164 (tgt := 168) rfl ?_
                      exact X_wk (by simp only [lwk, lset, true_or, or_true, and_self]) (JP168 _ _ (by rw [hEN]; first | (left; exact ⟨rfl, by first | rfl | omega⟩) | (right; exact ⟨rfl, by omega⟩)) (by rw [hEN] <;> first | rfl | exact e2_157) hR)
                refine X_iload 140 hO dX13_undoIn_138 rfl rfl ?_
                refine X_if_ne 143 149 hO dX13_undoIn_140 rfl rfl (by omega) (fun hc_140 => ?_) (fun hc_140 => ?_)
                ·
                  exact X_wk (by simp only [lwk, lset, true_or, or_true, and_self]) (JP149 _ (by first | rw [if_pos (by omega)] | rw [if_neg (by omega)]) hR)
                ·
                  refine X_aload_n 144 hO dX13_undoIn_143 rfl rfl ?_
                  refine X_iconst 145 hO dX13_undoIn_144 rfl ?_
                  refine X_iconst 146 hO dX13_undoIn_145 rfl ?_
                  refine XM_callVv 149 hO hD hR lX13_287 [_, _] rfl dX13_undoIn_146 rfl (c_restores _ _ _ 2 1 (by omega) (by omega) hRW.1.1.1) (by decide) (by simp only [List.map_cons, List.map_nil, rv_cat]; exact Nat.le_of_ble_eq_true rfl) (fun w_146 hp_146 hR => ?_)
                  subst hp_146
                  exact X_wk (by simp only [lwk, lset, true_or, or_true, and_self]) (JP149 _ (by first | rw [if_pos (by omega)] | rw [if_neg (by omega)]) hR)
              refine X_iload 114 hO dX13_undoIn_112 rfl rfl ?_
              refine X_if_lt 117 138 hO dX13_undoIn_114 rfl rfl (by omega) (fun hc_114 => ?_) (fun hc_114 => ?_)
              ·
                exact X_wk (by simp only [lwk, lset, true_or, or_true, and_self]) (JP138 (by omega))
              ·
                refine X_iload 119 hO dX13_undoIn_117 rfl rfl ?_
                refine X_if_eq 122 138 hO dX13_undoIn_119 rfl rfl (by omega) (fun hc_119 => ?_) (fun hc_119 => ?_)
                ·
                  exact X_wk (by simp only [lwk, lset, true_or, or_true, and_self]) (JP138 (by omega))
                ·
                  have hnd2 : 1 ≤ ((m_fdI μ PL lo hi (m_th μ 0 w)).2 226 0 (m_fdI μ PL lo hi (m_th μ 0 w)).1) ∧ ((m_fdI μ PL lo hi (m_th μ 0 w)).2 226 0 (m_fdI μ PL lo hi (m_th μ 0 w)).1) < W 124 μ.1 0 := by rw [eT]; exact ⟨hnd.1, hnd.2.1⟩
                  have hKt := hKS0 t (by omega) (by omega)
                  have e41 : ∀ c i, c = 241 ∨ c = 242 ∨ c = 243 → W c 0 i = (m_saves μ 2 (m_th μ 0 (m_fdI μ PL lo hi (m_th μ 0 w)).2)) c 0 i := fun c i h => u3.1 c 0 i (decide_eq_false (by omega))
                  have hu5 := u5 t (by omega) (by omega)
                  have hKt2 : (0 ≤ W 241 0 t ∧ W 241 0 t ≤ 2) ∧ ((0 ≤ W 242 0 t ∧ 0 ≤ W 243 0 t) ∧ W 242 0 t + W 243 0 t ≤ 400) ∧ (W 245 0 t - W 244 0 t = if W 241 0 t = 1 then 0 else W 243 0 t) ∧ (W 241 0 t = 2 → W 243 0 t = 1) := by
                    rw [e41 241 t (by decide), e41 242 t (by decide), e41 243 t (by decide)]
                    exact ⟨hKt.1, hKt.2.1, hu5, hKt.2.2.2⟩
                  have hopp := hUI.opp (PL := PL) (nd := ((m_fdI μ PL lo hi (m_th μ 0 w)).2 226 0 (m_fdI μ PL lo hi (m_th μ 0 w)).1)) (t := t) (by omega) h137 hKS0 hG gI_nn hq2.1 hno.2.2
                  have hrem := rem_ok (t := t) u1 u2 hq2.1 hno.2.2 (by omega)
                  have hB6o := hB6.opp (PL := PL) (nd := ((m_fdI μ PL lo hi (m_th μ 0 w)).2 226 0 (m_fdI μ PL lo hi (m_th μ 0 w)).1)) (t := t) (μ := μ) (by omega) hrem.1.2.2.1 (fun i => hrem.2.2.2.2 213 _ _ (by decide) (by decide) (by decide) (by decide)) (hrem.2.2.2.2 121 _ _ (by decide) (by decide) (by decide) (by decide)) (by omega)
                  refine X_aload_n 123 hO dX13_undoIn_122 rfl rfl ?_
                  refine X_iload 125 hO dX13_undoIn_123 rfl rfl ?_
                  refine X_iload 127 hO dX13_undoIn_125 rfl rfl ?_
                  refine XM_callVi 130 hO hD hR lX13_429 [_, _] rfl dX13_undoIn_127 rfl (c_opposes _ _ _ _ _ M (S + 8) (P + 400) PL u1 (by omega) (by omega) hRW.2.2.2.1 (by omega) hnd2 (by omega) u2 hq2.1 hno.1 hno.2.1 hno.2.2 hKt2 (fun o a b => u4.1 o a (by omega))) (by decide) (by simp only [List.map_cons, List.map_nil, rv_cat]; exact Nat.le_of_ble_eq_true rfl) (fun r_127 w_127 hr_127 hp_127 hR => ?_)
                  obtain ⟨e1_127, e2_127⟩ := hp_127
                  subst e1_127
                  subst e2_127
                  refine X_istore 132 hO dX13_undoIn_130 rfl rfl ?_
                  have hc2 : (m_opp μ PL ((m_fdI μ PL lo hi (m_th μ 0 w)).2 226 0 (m_fdI μ PL lo hi (m_th μ 0 w)).1) t W).1 = 0 ∨ (m_opp μ PL ((m_fdI μ PL lo hi (m_th μ 0 w)).2 226 0 (m_fdI μ PL lo hi (m_th μ 0 w)).1) t W).1 = 1 := by
                    rcases hopp with h | h
                    · exact Or.inl h.1
                    · exact Or.inr h.1
                  have hUI2 : UI μ S P ((m_fdI μ PL lo hi (m_th μ 0 w)).2 137 μ.1 0) (m_saves μ 2 (m_th μ 0 (m_fdI μ PL lo hi (m_th μ 0 w)).2)) (t + -1 + 1) (m_opp μ PL ((m_fdI μ PL lo hi (m_th μ 0 w)).2 226 0 (m_fdI μ PL lo hi (m_th μ 0 w)).1) t W).2 := by
                    rw [show t + -1 + 1 = t by omega]
                    rcases hopp with ⟨p1, p2⟩ | ⟨p1, p2⟩
                    · rw [p2]; exact hUI.down (by omega)
                    · exact p2
                  have hB62 : bPb (m_opp μ PL ((m_fdI μ PL lo hi (m_th μ 0 w)).2 226 0 (m_fdI μ PL lo hi (m_th μ 0 w)).1) t W).2 := hB6o
                  have hEq2 : (m_opL μ PL ((m_fdI μ PL lo hi (m_th μ 0 w)).2 226 0 (m_fdI μ PL lo hi (m_th μ 0 w)).1) ((m_fdI μ PL lo hi (m_th μ 0 w)).2 137 μ.1 0).toNat (m_saves μ 2 (m_th μ 0 (m_fdI μ PL lo hi (m_th μ 0 w)).2))) = if (m_opp μ PL ((m_fdI μ PL lo hi (m_th μ 0 w)).2 226 0 (m_fdI μ PL lo hi (m_th μ 0 w)).1) t W).1 = 0 then (0, (m_opp μ PL ((m_fdI μ PL lo hi (m_th μ 0 w)).2 226 0 (m_fdI μ PL lo hi (m_th μ 0 w)).1) t W).2) else m_opL μ PL ((m_fdI μ PL lo hi (m_th μ 0 w)).2 226 0 (m_fdI μ PL lo hi (m_th μ 0 w)).1) (t + -1 + 1).toNat (m_opp μ PL ((m_fdI μ PL lo hi (m_th μ 0 w)).2 226 0 (m_fdI μ PL lo hi (m_th μ 0 w)).1) t W).2 := by
                    rw [hEq, if_neg (by omega), show (t + 1).toNat = t.toNat + 1 by omega]
                    simp only [m_opL]
                    rw [show ((t.toNat : Nat) : Int) = t by omega, show (t + -1 + 1).toNat = t.toNat by omega]
                  refine X_iinc 135 hO dX13_undoIn_132 rfl rfl ?_
                  refine X_goto hO dX13_undoIn_135 (tgt := 112) rfl ?_
                  exact X_wk (by simp only [lwk, lset, true_or, or_true, and_self]) (iho (t + -1) _ _ (by omega) hc2 (by omega) hUI2 hB62 hEq2 hR)
          exact X_wk (by simp only [lwk, lset, true_or, or_true, and_self]) (LP112 _ (((m_fdI μ PL lo hi (m_th μ 0 w)).2 137 μ.1 0) - 1) 1 (m_saves μ 2 (m_th μ 0 (m_fdI μ PL lo hi (m_th μ 0 w)).2)) (Nat.lt_succ_self _) (Or.inr rfl) (by omega) (by rw [show ((m_fdI μ PL lo hi (m_th μ 0 w)).2 137 μ.1 0) - 1 + 1 = ((m_fdI μ PL lo hi (m_th μ 0 w)).2 137 μ.1 0) by omega]; exact hUI0) hB60 (by rw [if_neg (by decide), show ((m_fdI μ PL lo hi (m_th μ 0 w)).2 137 μ.1 0) - 1 + 1 = ((m_fdI μ PL lo hi (m_th μ 0 w)).2 137 μ.1 0) by omega]) hR)
        ·
          refine X_iconst 87 hO dX13_undoIn_86 rfl ?_
          exact XM_iret hO hF hR rfl (by first | exact Or.inl rfl | exact Or.inr ⟨rfl, bi_01 _⟩ | exact Or.inr ⟨rfl, by omega⟩) dX13_undoIn_87 (by omega) (by rcases hz2 with ⟨h1, h2⟩ | ⟨h1, h2⟩ <;> subst h1 <;> first | (exfalso; omega) | (unfold o_undoIn m_ui1; rw [if_pos hC, if_neg h132, if_pos h2]; exact ⟨rfl, rfl⟩))
      refine X_aload_n 66 hO dX13_undoIn_65 rfl rfl ?_
      refine X_iload_n 67 hO dX13_undoIn_66 rfl rfl ?_
      refine X_iconst 68 hO dX13_undoIn_67 rfl ?_
      refine X_icmp_ne 71 75 hO dX13_undoIn_68 rfl rfl (by omega) (by omega) (fun hc_68 => ?_) (fun hc_68 => ?_)
      ·
        refine X_iconst 76 hO dX13_undoIn_75 rfl ?_
        exact JP76 _ (by omega)
      ·
        refine X_iconst 72 hO dX13_undoIn_71 rfl ?_
        refine X_goto hO dX13_undoIn_72 (tgt := 76) rfl ?_
        exact JP76 _ (by omega)
    ·
      refine X_iconst 57 hO dX13_undoIn_56 rfl ?_
      exact XM_iret hO hF hR rfl (by first | exact Or.inl rfl | exact Or.inr ⟨rfl, bi_01 _⟩ | exact Or.inr ⟨rfl, by omega⟩) dX13_undoIn_57 (by omega) (by rcases hz with ⟨h1, h2⟩ | ⟨h1, h2, h3⟩ | ⟨h1, h2⟩ <;> subst h1 <;> first | (exfalso; omega) | (unfold o_undoIn; rw [if_neg h2]; exact ⟨rfl, rfl⟩) | (unfold o_undoIn; rw [if_pos h2, if_pos h3]; exact ⟨rfl, rfl⟩))
  refine X_aload_n 1 hO dX13_undoIn_0 rfl rfl ?_
  refine X_iload_n 2 hO dX13_undoIn_1 rfl rfl ?_
  refine X_iconst 3 hO dX13_undoIn_2 rfl ?_
  refine X_aload_n 4 hO dX13_undoIn_3 rfl rfl ?_
  refine ga_13 7 hO hR dX13_undoIn_4 rfl ?_
  refine X_iconst 8 hO dX13_undoIn_7 rfl ?_
  refine ma_ld (L := 4) (c := 201) 9 hO hR rfl rfl rfl dX13_undoIn_8 rfl (by omega) (by omega) (fun hi_8 => ?_)
  try simp (disch := decide) only [up_k, up_s, mvN_at] at hi_8 ⊢
  refine XM_callSi 12 hO hD lX13_174 [_, _, _] rfl dX13_undoIn_9 rfl (c_in _ _ _ _ _ (by omega) (by omega) (by omega)) (by decide) (by simp only [List.map_cons, List.map_nil, rv_cat]; exact Nat.le_of_ble_eq_true rfl) (fun r_9 hr_9 hp_9 => ?_)
  subst hp_9
  refine X_if_eq 15 29 hO dX13_undoIn_12 rfl rfl (by omega) (fun hc_12 => ?_) (fun hc_12 => ?_)
  ·
    try simp only [bi_0, bi_ne, ne_eq, Classical.not_not] at hc_12
    refine X_iconst 30 hO dX13_undoIn_29 rfl ?_
    refine X_goto hO dX13_undoIn_30 (tgt := 46) rfl ?_
    exact JP46 _ (by omega)
  ·
    try simp only [bi_0, bi_ne, ne_eq, Classical.not_not] at hc_12
    refine X_iload_n 16 hO dX13_undoIn_15 rfl rfl ?_
    refine X_iload_n 17 hO dX13_undoIn_16 rfl rfl ?_
    refine X_aload_n 18 hO dX13_undoIn_17 rfl rfl ?_
    refine ga_13 21 hO hR dX13_undoIn_18 rfl ?_
    refine X_iconst 22 hO dX13_undoIn_21 rfl ?_
    refine ma_ld (L := 4) (c := 201) 23 hO hR rfl rfl rfl dX13_undoIn_22 rfl (by omega) (by omega) (fun hi_22 => ?_)
    try simp (disch := decide) only [up_k, up_s, mvN_at] at hi_22 ⊢
    refine XM_callSi 26 hO hD lX13_174 [_, _, _] rfl dX13_undoIn_23 rfl (c_in _ _ _ _ _ (by omega) (by omega) (by omega)) (by decide) (by simp only [List.map_cons, List.map_nil, rv_cat]; exact Nat.le_of_ble_eq_true rfl) (fun r_23 hr_23 hp_23 => ?_)
    subst hp_23
    refine X_if_ne 29 33 hO dX13_undoIn_26 rfl rfl (by omega) (fun hc_26 => ?_) (fun hc_26 => ?_)
    ·
      try simp only [bi_0, bi_ne, ne_eq, Classical.not_not] at hc_26
      refine X_aload_n 34 hO dX13_undoIn_33 rfl rfl ?_
      refine ga_280 37 hO hR dX13_undoIn_34 rfl (fun hi_34 => ?_)
      try simp (disch := decide) only [up_k, up_s, mvN_at] at hi_34 ⊢
      refine X_iconst 38 hO dX13_undoIn_37 rfl ?_
      refine X_icmp_ne 41 45 hO dX13_undoIn_38 rfl rfl (by omega) (by omega) (fun hc_38 => ?_) (fun hc_38 => ?_)
      ·
        refine X_iconst 46 hO dX13_undoIn_45 rfl ?_
        exact JP46 _ (by omega)
      ·
        refine X_iconst 42 hO dX13_undoIn_41 rfl ?_
        refine X_goto hO dX13_undoIn_42 (tgt := 46) rfl ?_
        exact JP46 _ (by omega)
    ·
      try simp only [bi_0, bi_ne, ne_eq, Classical.not_not] at hc_26
      refine X_iconst 30 hO dX13_undoIn_29 rfl ?_
      refine X_goto hO dX13_undoIn_30 (tgt := 46) rfl ?_
      exact JP46 _ (by omega)
