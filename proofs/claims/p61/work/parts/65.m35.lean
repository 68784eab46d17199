theorem up_same {w : Mm} {c k : Nat} {a i v : Int} (h : k ≠ c) {b j : Int} : up (up w c a i v) k b j (w k b j) = up w c a i v := by
  have := up_self (w := up w c a i v) (c := k) (a := b) (i := j)
  rw [up_k _ h] at this; exact this
def m_opL (μ : MU) (PL : Int → List Int) (nd : Int) : Nat → Mm → Int × Mm
  | 0, w => (1, w)
  | n + 1, w => if (m_opp μ PL nd n w).1 = 0 then (0, (m_opp μ PL nd n w).2) else m_opL μ PL nd n (m_opp μ PL nd n w).2
def m_ui3 (μ : MU) (p : Int × Mm) : Int × Mm := if p.1 = 0 then (0, m_rest μ 2 1 p.2) else m_ends μ 1 p.2
def m_ui4 (μ : MU) (e : Int × Mm) : Int × Mm := if e.1 = 0 then (0, m_th μ 2 e.2) else (e.2 126 μ.1 0, up (m_th μ 0 e.2) 129 μ.1 0 (-1))
def m_ui2 (μ : MU) (PL : Int → List Int) (nd : Int) (w : Mm) : Int × Mm := m_ui4 μ (m_ui3 μ (m_opL μ PL nd (w 137 μ.1 0).toNat w))
def m_ui1 (μ : MU) (PL : Int → List Int) (q : Int × Mm) : Int × Mm := if q.1 = -1 then (0, m_th μ 2 q.2) else m_ui2 μ PL (q.2 226 0 q.1) (m_saves μ 2 (m_th μ 0 q.2))
abbrev isR (lo hi : Int) (w : Mm) : Prop := (0 ≤ lo ∧ lo ≤ w 201 0 0) ∧ (lo ≤ hi ∧ hi ≤ w 201 0 0)
def o_undoIn (μ : MU) (PL : Int → List Int) (lo hi : Int) (w : Mm) : Int × Mm := if isR lo hi w then (if w 132 μ.1 0 = 1 then (0, m_th μ 2 w) else m_ui1 μ PL (m_fdI μ PL lo hi (m_th μ 0 w))) else (0, m_th μ 1 w)
/-- what the search for a change needs, and what it finds -/
def UN (μ : MU) (PL : Int → List Int) (w : Mm) : Prop := bEx μ w ∧ (∀ k, 0 ≤ k → k < w 124 μ.1 0 → w 216 0 k = 1 → RQ μ PL k w) ∧ bPb w ∧ (w 132 μ.1 0 = 0 → m_rpl μ PL (w 126 μ.1 0) w 201 0 1 = w 201 0 0) ∧ bTc 150010000 w ∧ (0 ≤ w 137 μ.1 0 ∧ w 137 μ.1 0 ≤ 8)
theorem TSm.t {μ : MU} {w w1 w2 : Mm} (h : TSm μ w w1) (g : TSm μ w1 w2) : TSm μ w w2 := by
  refine ⟨fun c a i x y => (g.1 c a i x y).trans (h.1 c a i x y), fun c x y => (g.2.1 c x y).trans (h.2.1 c x y), fun i a b => (g.2.2.1 i a (by rw [h.2.1 122 (by decide) (by decide)]; exact b)).trans (h.2.2.1 i a b), fun j a b => (g.2.2.2 j a (by rw [h.2.1 123 (by decide) (by decide)]; exact b)).trans (h.2.2.2 j a b)⟩
theorem UI.down {μ : MU} {S P N t : Int} {W0 W : Mm} (h : UI μ S P N W0 (t + 1) W) (ht : 0 ≤ t) : UI μ S P N W0 t W := by
  obtain ⟨a1, a2, a3, a4, a5, a6, a7⟩ := h
  have e := sumN_su (f := gI W0) ht
  have g := gI_nn (w := W0) t
  exact ⟨a1, a2, a3, a4.mono (by omega), fun i x y => a5 i x (by omega), by omega, by omega⟩
theorem UN.th {μ : MU} {PL : Int → List Int} {w : Mm} {k : Int} (h : UN μ PL w) (s1 : SB 1 w) (s2 : bB w) (s3 : 0 ≤ w 126 μ.1 0 ∧ w 126 μ.1 0 < w 124 μ.1 0) : UN μ PL (m_th μ k w) := by
  obtain ⟨h1, h2, h3, h4, h5, h6⟩ := h
  have e : ∀ c a i, c ≠ 139 → m_th μ k w c a i = w c a i := fun c a i hc => up_k _ hc _ _ _ _ _
  have h3' : bPb (m_th μ k w) := h3.cong fun i => e _ _ _ (by decide)
  have ts : TSm μ w (m_th μ k w) := ⟨fun c a i x y => e c a i (by omega), fun c x y => e c _ _ (by omega), fun i _ _ => e _ _ _ (by decide), fun j _ _ => pby_cong (e _ _ _ (by decide))⟩
  refine ⟨?_, fun j a b c => ?_, h3', fun g => ?_, fun t a b => ?_, ?_⟩
  · obtain ⟨b1, b2, b3, b4⟩ := h1
    refine ⟨?_, ?_, fun j a b c => ?_, ?_⟩
    · rw [e _ _ _ (by decide)]; exact b1
    · rw [e _ _ _ (by decide), e _ _ _ (by decide)]; exact b2
    · rw [e _ _ _ (by decide)] at b c
      rw [e _ _ _ (by decide), e _ _ _ (by decide)]; exact b3 j a b c
    · rw [e _ _ _ (by decide)]; exact b4
  · rw [e _ _ _ (by decide)] at b c
    exact ((h2 j a b c).app ts s1 s2 h3').1
  · rw [e _ _ _ (by decide)] at g
    rw [e 201 _ _ (by decide), e 126 _ _ (by decide), ← h4 g]
    exact ((h2 _ s3.1 s3.2 h1.2.1).app ts s1 s2 h3').2.1.1.symm
  · rw [e _ _ _ (by decide), e _ _ _ (by decide)]; exact h5 t a b
  · rw [e _ _ _ (by decide)]; exact h6
theorem un_start {μ : MU} {PL : Int → List Int} {S P M lo hi : Int} {w : Mm} (hB : RB μ S P M w) (hM : M ≤ 590) (hS : S ≤ 28900) (hU : UN μ PL w) (h0 : w 132 μ.1 0 = 0) (hr : (m_fdI μ PL lo hi w).1 ≠ -1) :
    (1 ≤ (m_fdI μ PL lo hi w).1 ∧ (m_fdI μ PL lo hi w).1 < 640) ∧ (1 ≤ (m_fdI μ PL lo hi w).2 137 μ.1 0 ∧ (m_fdI μ PL lo hi w).2 137 μ.1 0 ≤ 8) ∧
    (1 ≤ (m_fdI μ PL lo hi w).2 226 0 (m_fdI μ PL lo hi w).1 ∧ (m_fdI μ PL lo hi w).2 226 0 (m_fdI μ PL lo hi w).1 < w 124 μ.1 0 ∧ w 216 0 ((m_fdI μ PL lo hi w).2 226 0 (m_fdI μ PL lo hi w).1) = 1 ∧ w 216 0 (w 217 0 ((m_fdI μ PL lo hi w).2 226 0 (m_fdI μ PL lo hi w).1)) = 1) ∧
    UI μ S P ((m_fdI μ PL lo hi w).2 137 μ.1 0) (m_saves μ 2 (m_th μ 0 (m_fdI μ PL lo hi w).2)) ((m_fdI μ PL lo hi w).2 137 μ.1 0) (m_saves μ 2 (m_th μ 0 (m_fdI μ PL lo hi w).2)) ∧
    KS μ (m_saves μ 2 (m_th μ 0 (m_fdI μ PL lo hi w).2)) ∧
    sumN (gI (m_saves μ 2 (m_th μ 0 (m_fdI μ PL lo hi w).2))) ((m_fdI μ PL lo hi w).2 137 μ.1 0).toNat ≤ m_saves μ 2 (m_th μ 0 (m_fdI μ PL lo hi w).2) 201 0 0 ∧
    TSm μ w (m_saves μ 2 (m_th μ 0 (m_fdI μ PL lo hi w).2)) ∧ RK μ S P M (m_saves μ 2 (m_th μ 0 (m_fdI μ PL lo hi w).2)) ∧ bPb (m_saves μ 2 (m_th μ 0 (m_fdI μ PL lo hi w).2)) ∧
    (∀ c a i, c ≠ 127 → c ≠ 226 → c ≠ 137 → c ≠ 138 → c ≠ 139 → (c < 241 ∨ 246 < c) → (c < 200 ∨ (210 < c ∧ c ≠ 214 ∧ c ≠ 215)) → m_saves μ 2 (m_th μ 0 (m_fdI μ PL lo hi w).2) c a i = w c a i) := by
  obtain ⟨hL, hK, hZ, hY⟩ := hB
  obtain ⟨hE, hA, h6, hl, hTc, h8⟩ := hU
  have hl := hl h0
  have hT := hK.2.2.2.1
  have ht1 := hT.1
  have ht3 := hT.2.2.1
  obtain ⟨q1, q2, q3, q4⟩ := hA (w 126 μ.1 0) ht3.1 ht3.2 hE.2.1
  have q5 : (RSx PL (w 126 μ.1 0) w).length ≤ 30000 := by have := hT.2.2.2.2.1; omega
  have hx0 := pln_rng hT.pr _ (w 126 μ.1 0) (Nat.le_refl _) (by omega) (by omega)
  have hf := FRt.fdR (μ := μ) (PL := PL) (x := w 126 μ.1 0) (lo := lo) (hi := hi) hT (by omega) ht3 q1.1 q5 (m_pln w (w 126 μ.1 0) - 1).toNat (m_fin μ (w 126 μ.1 0) w) (by omega) (fun _ _ _ _ _ _ => rfl) (by rw [fin_at (by decide)]; exact h8) (fun t a b => by rw [fin_at (by decide), fin_at (by decide)]; exact hTc t a b)
  have hs1 := hK.2.2.1
  have hs2 := hL.2.2.1
  have r0 := rp0_SB (μ := μ) (x := w 126 μ.1 0) hs1 hs2
  have e201 : m_rp0 μ (w 126 μ.1 0) w 201 0 1 = 0 := by unfold m_rp0; rw [fin_at (by decide)]; unfold m_rini; rw [fl_at (by decide), fl_at (by decide), fl_at (by decide), up_s]
  have hln := LGL_LNL _ _ r0.1 r0.2 q1.2
  rw [e201] at hln
  have hnn : LNN PL (w 126 μ.1 0) w (m_pln w (w 126 μ.1 0) - 1).toNat := hln.1
  have hnl : lnN PL (w 126 μ.1 0) w (m_pln w (w 126 μ.1 0) - 1).toNat = w 201 0 0 := by rw [← hl]; exact hln.2.symm
  have hv := fdR_tv (μ := μ) (lo := lo) (hi := hi) (m_pln w (w 126 μ.1 0) - 1).toNat (m_fin μ (w 126 μ.1 0) w) (by omega) hnn hr
  rw [hnl] at hv
  have hr' : (m_fdI μ PL lo hi w).1 ≠ -1 := hr
  have hf : FRt (m_fin μ (w 126 μ.1 0) w) (m_fdI μ PL lo hi w).2 ∧ (0 ≤ (m_fdI μ PL lo hi w).2 137 μ.1 0 ∧ (m_fdI μ PL lo hi w).2 137 μ.1 0 ≤ 8) ∧ bTc 150010000 (m_fdI μ PL lo hi w).2 := hf
  have hv : (1 ≤ (m_fdI μ PL lo hi w).1 ∧ (m_fdI μ PL lo hi w).1 ≤ (m_pln w (w 126 μ.1 0) - 1).toNat) ∧ TVr (fun i => (m_fdI μ PL lo hi w).2 244 0 i) (fun i => (m_fdI μ PL lo hi w).2 245 0 i) ((m_fdI μ PL lo hi w).2 137 μ.1 0) (w 201 0 0) ∧ KS μ (m_fdI μ PL lo hi w).2 ∧ 1 ≤ (m_fdI μ PL lo hi w).2 137 μ.1 0 := hv
  generalize (m_fdI μ PL lo hi w).2 = V at hf hv ⊢
  generalize (m_fdI μ PL lo hi w).1 = r at hv hr' ⊢
  have e226 : V 226 0 r = m_anc w (w 126 μ.1 0) (m_pln w (w 126 μ.1 0) - 1 - r).toNat := by
    rw [hf.1 226 _ _ (by decide) (by decide) (by decide)]
    unfold m_fin
    simp only [fl, true_and]
    rw [if_pos (by omega)]
  have hal := anc_alive hT hE ht3 hE.2.1 (m_pln w (w 126 μ.1 0) - 1 - r).toNat (by omega)
  have hal2 := anc_alive hT hE ht3 hE.2.1 ((m_pln w (w 126 μ.1 0) - 1 - r).toNat + 1) (by omega)
  have hal3 : w 216 0 (w 217 0 (m_anc w (w 126 μ.1 0) (m_pln w (w 126 μ.1 0) - 1 - r).toNat)) = 1 := hal2.2.1
  have hal4 : 0 ≤ w 217 0 (m_anc w (w 126 μ.1 0) (m_pln w (w 126 μ.1 0) - 1 - r).toNat) := hal2.1.1
  have hb0 := hT.2.2.2.2.2.2 _ hal.1.1 (by omega)
  rw [← e226] at hal hal3 hal4 hb0
  have eV : ∀ c a i, c ≠ 127 → c ≠ 226 → c ≠ 137 → c ≠ 138 → (c < 241 ∨ 246 < c) → V c a i = w c a i := fun c a i y1 y2 y3 y4 y5 => by rw [hf.1 c a i y3 y4 y5]; exact fin_at ⟨y1, y2⟩
  have eU : ∀ c a i, c ≠ 127 → c ≠ 226 → c ≠ 137 → c ≠ 138 → c ≠ 139 → (c < 241 ∨ 246 < c) → m_th μ 0 V c a i = w c a i := fun c a i y1 y2 y3 y4 y6 y5 => by unfold m_th; rw [up_k _ y6]; exact eV c a i y1 y2 y3 y4 y5
  have eW : ∀ c a i, (c < 200 ∨ (210 < c ∧ c ≠ 214 ∧ c ≠ 215)) → m_saves μ 2 (m_th μ 0 V) c a i = m_th μ 0 V c a i := fun c a i h => saves_at h
  have eX : ∀ c a i, c ≠ 139 → m_th μ 0 V c a i = V c a i := fun c a i h => up_k _ h _ _ _ _ _
  have hLV : LB μ S P (m_th μ 0 V) := hL.cong (fun c a i x y z => eU c a i (by omega) (by omega) (by omega) (by omega) (by omega) (by omega)) (eU 120 _ _ (by decide) (by decide) (by decide) (by decide) (by decide) (by decide)) (eU 121 _ _ (by decide) (by decide) (by decide) (by decide) (by decide) (by decide))
  have hKV : RK μ S P M (m_th μ 0 V) := hK.cg fun c a i h => eU c a i (by omega) (by omega) (by omega) (by omega) (by omega) (by omega)
  have hLW := hLV.saves (a := 2) (by decide)
  have hKW := hKV.saves (a := 2) hLV (by decide)
  have e2 : m_saves μ 2 (m_th μ 0 V) 201 0 0 = w 201 0 0 := by rw [saves_201, if_neg (by decide)]; exact eU 201 _ _ (by decide) (by decide) (by decide) (by decide) (by decide) (by decide)
  have hKS : KS μ (m_saves μ 2 (m_th μ 0 V)) := fun i a b => by
    rw [eW 137 _ _ (by decide), eX 137 _ _ (by decide)] at b
    have := hv.2.2.1 i a b
    simp (disch := decide) only [eW, eX]
    exact this
  have hTV : TVr (fun i => m_saves μ 2 (m_th μ 0 V) 244 0 i) (fun i => m_saves μ 2 (m_th μ 0 V) 245 0 i) (V 137 μ.1 0) (m_saves μ 2 (m_th μ 0 V) 201 0 0) := by
    rw [e2]
    simp (disch := decide) only [eW, eX]
    exact hv.2.1
  refine ⟨by omega, by omega, ⟨?_, by omega, hal.2.1, hal3⟩, ⟨hLW.mono (by omega) (by omega), hKW.2.2.1, OF.r, hTV, fun i a b => ?_, ?_, ?_⟩, hKS, ?_, ?_, hKW, ?_, ?_⟩
  · by_cases c : V 226 0 r = 0
    · rw [c] at hb0 hal4; omega
    · omega
  · have := (hKS i a (by rw [eW 137 _ _ (by decide), eX 137 _ _ (by decide)]; exact b)).2.2.1
    exact this
  · have := hLW.f.2.2.2.1.2; omega
  · have := hLW.f.2.2.2.2.2; omega
  · refine Int.le_trans (sumN_le (g := fun i => m_saves μ 2 (m_th μ 0 V) 245 0 i - m_saves μ 2 (m_th μ 0 V) 244 0 i) fun i a b => ?_) (TVr.sum _ _ _ _ (by have := hLW.f.1; omega) (by rw [show (((V 137 μ.1 0).toNat : Nat) : Int) = V 137 μ.1 0 by omega]; exact hTV))
    have h1 := hKS i a (by rw [eW 137 _ _ (by decide), eX 137 _ _ (by decide)]; omega)
    have h2 := h1.2.2.1
    have h3 : 0 ≤ m_saves μ 2 (m_th μ 0 V) 244 0 i ∧ m_saves μ 2 (m_th μ 0 V) 244 0 i ≤ m_saves μ 2 (m_th μ 0 V) 245 0 i ∧ _ := hTV.1 i a (by omega)
    show gI _ i ≤ m_saves μ 2 (m_th μ 0 V) 245 0 i - m_saves μ 2 (m_th μ 0 V) 244 0 i
    unfold gI
    by_cases z : m_saves μ 2 (m_th μ 0 V) 241 0 i = 0 ∧ 0 ≤ m_saves μ 2 (m_th μ 0 V) 243 0 i
    · rw [if_pos z]; rw [if_neg (by omega)] at h2; omega
    · rw [if_neg z]; omega
  · refine ⟨fun c a i x y => ?_, fun c x y => ?_, fun i a b => ?_, fun j a b => pby_cong ?_⟩
    · rw [eW _ _ _ (by omega)]; exact eU c a i (by omega) (by omega) (by omega) (by omega) (by omega) (by omega)
    · rw [eW _ _ _ (by omega)]; exact eU c _ _ (by omega) (by omega) (by omega) (by omega) (by omega) (by omega)
    · rw [eW _ _ _ (by decide)]; exact eU _ _ _ (by decide) (by decide) (by decide) (by decide) (by decide) (by decide)
    · rw [eW _ _ _ (by decide)]; exact eU _ _ _ (by decide) (by decide) (by decide) (by decide) (by decide) (by decide)
  · exact h6.cong fun i => by rw [eW _ _ _ (by decide)]; exact eU _ _ _ (by decide) (by decide) (by decide) (by decide) (by decide) (by decide)
  · intro c a i y1 y2 y3 y4 y5 y6 y7
    rw [eW c a i y7]; exact eU c a i y1 y2 y3 y4 y5 y6
