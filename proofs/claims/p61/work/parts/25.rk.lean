theorem bPo.cong {w w' : Mm} (h : bPo w) (e : ∀ i, w' 234 0 i = w 234 0 i) : bPo w' := fun i a b => by rw [e]; exact h i a b
theorem bOt.cong {w w' : Mm} (h : bOt w) (e : ∀ i, w' 230 0 i = w 230 0 i) : bOt w' := fun i a b => by rw [e]; exact h i a b
theorem bMc.cong {w w' : Mm} (h : bMc w) (e : ∀ i, w' 235 0 i = w 235 0 i) (e2 : ∀ i, w' 236 0 i = w 236 0 i) : bMc w' := by
  intro m a b
  have := h m a b
  rw [e2]
  refine ⟨this.1, fun k x y => ?_⟩
  rw [e, e, e]; exact this.2 k x y
theorem RK.lo {μ : MU} {S P M : Int} {w w' : Mm} (h : RK μ S P M w) (g : LO w w') : RK μ S P M w' := by
  obtain ⟨h1, h2, h3, h4, h5, h6, h7⟩ := h
  exact ⟨g.sv (by decide) h1, g.sv (by decide) h2, g.sb (by decide) h3, h4.lo g, h5.cong fun i => g.2 _ _ _ (by decide) (by decide), h6.cong fun i => g.2 _ _ _ (by decide) (by decide), h7.cong (fun i => g.2 _ _ _ (by decide) (by decide)) (fun i => g.2 _ _ _ (by decide) (by decide))⟩
theorem RK.mono {μ : MU} {S P S' P' M : Int} {w : Mm} (h : RK μ S P M w) (h1 : S ≤ S') (h2 : P ≤ P') : RK μ S' P' M w := ⟨h.1.mono h1 h2, h.2.1.mono h1 h2, h.2.2⟩
/-- all that is looked at stays -/
theorem RK.cong {μ : MU} {S P M : Int} {w w' : Mm} (h : RK μ S P M w) (e : ∀ c a i, (122 ≤ c ∧ c ≤ 128) ∨ (200 ≤ c ∧ c ≤ 210) ∨ (214 ≤ c ∧ c ≤ 225) ∨ c = 230 ∨ (234 ≤ c ∧ c ≤ 236) → w' c a i = w c a i) : RK μ S P M w' := by
  obtain ⟨h1, h2, h3, h4, h5, h6, h7⟩ := h
  exact ⟨h1.cong fun c a i _ _ _ _ _ => e _ _ _ (by omega), h2.cong fun c a i _ _ _ _ _ => e _ _ _ (by omega), h3.cong fun c a i _ _ => e _ _ _ (by omega), h4.cong fun c a i _ => e _ _ _ (by omega), h5.cong fun i => e _ _ _ (by omega), h6.cong fun i => e _ _ _ (by omega), h7.cong (fun i => e _ _ _ (by omega)) (fun i => e _ _ _ (by omega))⟩
theorem RK.up_o {μ : MU} {S P M : Int} {w : Mm} (h : RK μ S P M w) {c : Nat} {a i v : Int} (hc : c < 122 ∨ (128 < c ∧ c < 200) ∨ (210 < c ∧ c < 214) ∨ (225 < c ∧ c ≠ 230 ∧ c < 234) ∨ 236 < c) : RK μ S P M (up w c a i v) :=
  h.cong fun c' _ _ _ => up_k _ (by omega) _ _ _ _ _
theorem RK.saves {μ : MU} {S P M a : Int} {w : Mm} (h : RK μ S P M w) (hL : LB μ S P w) (ha : 1 ≤ a ∧ a ≠ 1) : RK μ S P M (m_saves μ a w) := by
  obtain ⟨h1, h2, h3, h4, h5, h6, h7⟩ := h
  refine ⟨h1.saves hL ha.1, h2.saves hL ha.1, ?_, h4.cong fun c a i _ => saves_at (by omega), h5.cong fun i => saves_at (by omega), h6.cong fun i => saves_at (by omega), h7.cong (fun i => saves_at (by omega)) (fun i => saves_at (by omega))⟩
  rw [saves_eq]
  exact (h3.cpy (T := fun _ => true) (a := a) (by omega) hL.1).cong fun c _ _ _ _ => by rw [up_k _ (by omega), up_k _ (by omega)]
theorem RK.rest {μ : MU} {S P M b all : Int} {w : Mm} (h : RK μ S P M w) (hb : b = 2 ∨ b = 3) : RK μ S P M (m_rest μ b all w) := by
  obtain ⟨h1, h2, h3, h4, h5, h6, h7⟩ := h
  have hb0 : SB b w := by rcases hb with rfl | rfl; exact h1.1; exact h2.1
  refine ⟨h1.rest hb0 (by decide), h2.rest hb0 (by decide), ?_, h4.cong fun c a i _ => rest_at (by omega), h5.cong fun i => rest_at (by omega), h6.cong fun i => rest_at (by omega), h7.cong (fun i => rest_at (by omega)) (fun i => rest_at (by omega))⟩
  rw [rest_eq]
  exact (h3.cpy (T := fun s => decide (all = 1 ∨ w 211 0 s = 1)) (a := 0) (by omega) hb0).cong fun c _ _ _ _ => by rw [up_k _ (by omega), up_k _ (by omega)]
theorem RK.sv {μ : MU} {S P M b : Int} {w : Mm} (h : RK μ S P M w) (hb : b = 2 ∨ b = 3) : SV S P b w := by
  rcases hb with rfl | rfl
  · exact h.1
  · exact h.2.1
/-! what notifying leaves alone -/
def LN (w w' : Mm) : Prop := (∀ a i, 400 ≤ i → w' 200 a i = w 200 a i) ∧ (∀ c a i, c ≠ 200 → c ≠ 212 → c ≠ 120 → c ≠ 232 → c ≠ 233 → c ≠ 234 → w' c a i = w c a i)
theorem LN.r {w : Mm} : LN w w := ⟨fun _ _ _ => rfl, fun _ _ _ _ _ _ _ _ _ => rfl⟩
theorem LN.t {w w1 w2 : Mm} (h : LN w w1) (g : LN w1 w2) : LN w w2 := ⟨fun a i x => (g.1 a i x).trans (h.1 a i x), fun c a i x1 x2 x3 x4 x5 x6 => (g.2 c a i x1 x2 x3 x4 x5 x6).trans (h.2 c a i x1 x2 x3 x4 x5 x6)⟩
theorem LN.up {w : Mm} {c : Nat} {a i v : Int} (h : c = 212 ∨ c = 120 ∨ c = 232 ∨ c = 233 ∨ c = 234 ∨ (c = 200 ∧ i < 400)) : LN w (up w c a i v) := by
  refine ⟨fun a' i' x => ?_, fun c' a' i' x1 x2 x3 x4 x5 x6 => up_k _ (by omega) _ _ _ _ _⟩
  by_cases e : c = 200
  · exact up_i _ _ _ _ _ _ (by omega)
  · exact up_k _ (by omega) _ _ _ _ _
theorem LN.fl {w : Mm} {lo n : Int} {f : Int → Int} : LN w (fl w 232 lo n f) :=
  ⟨fun a i _ => fl_at (by decide), fun c a i _ _ _ h _ _ => fl_at h⟩
theorem LN.rep {μ : MU} {q c : Int} {w : Mm} (hq : q < 400) : LN w (m_rep μ q c w) := by
  unfold m_rep m_step
  exact (LN.up (Or.inr (Or.inr (Or.inr (Or.inr (Or.inr ⟨rfl, hq⟩)))))).t ((LN.up (Or.inl rfl)).t (LN.up (Or.inr (Or.inl rfl))))
theorem LN.ux {f : Int → Int → Int} {w : Mm} : LN w (ux f w) := ⟨fun a i _ => ux_k (by decide), fun c a i _ _ _ _ _ h => ux_k h⟩
theorem ff_rng {w : Mm} : m_ff w = -1 ∨ (0 ≤ m_ff w ∧ m_ff w ≤ 2) := by
  by_cases h : m_ff w = -1
  · exact Or.inl h
  · obtain ⟨p, _, h2, _, _⟩ := ff_some h
    have := ord_rng p w; omega
theorem ff_pof {w : Mm} (h : m_ff w ≠ -1) : m_pof (w 229 0 (m_ff w)) w ≠ -1 := by
  obtain ⟨p, _, h2, h3, _⟩ := ff_some h
  unfold m_fd at h3; exact of_decide_eq_true h3
theorem LB.fl_o {μ : MU} {S P : Int} {w : Mm} (h : LB μ S P w) {c : Nat} {lo n : Int} {f : Int → Int} (hc : 211 < c ∧ c ≠ 240) : LB μ S P (fl w c lo n f) :=
  h.cong (fun c' _ _ _ _ _ => fl_at (by omega)) (fl_at (by omega)) (fl_at (by omega))
theorem LB.ux {μ : MU} {S P : Int} {w : Mm} (h : LB μ S P w) {f : Int → Int → Int} : LB μ S P (ux f w) :=
  h.cong (fun c' _ _ _ _ _ => ux_k (by omega)) (ux_k (by decide)) (ux_k (by decide))
theorem nice_ok {μ : MU} {P : Int} : ∀ (j : Nat) (d S : Int) (w : Mm), LB μ S P w → bOt w → LN w (m_nice μ j d w).2 ∧ LB μ (S + j) P (m_nice μ j d w).2 ∧ ((m_nice μ j d w).1 = 0 ∨ (m_nice μ j d w).1 = 1)
  | 0, d, S, w, h, _ => ⟨LN.r, h.mono (by omega) (by omega), Or.inr rfl⟩
  | j + 1, d, S, w, h, ho => by
    unfold m_nice
    split
    · exact ⟨LN.r, h.mono (by omega) (by omega), Or.inr rfl⟩
    · next hf =>
      split
      · refine ⟨LN.t (LN.up (by omega)) LN.fl, ?_, Or.inl rfl⟩
        exact LB.mono (LB.fl_o (LB.up_o h (by decide)) (by decide)) (by omega) (by omega)
      · have h1 := ff_rng (w := w)
        have h2 := ff_pof hf
        have h3 := pof_rng (w 229 0 (m_ff w)) w h.1.1.1
        have h4 := h.1.1.2
        have h5 := ho (m_ff w) (by omega) (by omega)
        have hL : LB μ (S + 1) P (m_rep μ (m_pof (w 229 0 (m_ff w)) w) (w 230 0 (m_ff w)) (up w 233 0 d (m_ff w))) := (LB.up_o h (by decide)).rep h5
        have hN : LN w (m_rep μ (m_pof (w 229 0 (m_ff w)) w) (w 230 0 (m_ff w)) (up w 233 0 d (m_ff w))) := LN.t (LN.up (by omega)) (LN.rep (by omega))
        obtain ⟨g1, g2, g3⟩ := nice_ok (μ := μ) j (d + 1) (S + 1) _ hL (ho.cong fun i => hN.2 _ _ _ (by decide) (by decide) (by decide) (by decide) (by decide) (by decide))
        exact ⟨hN.t g1, g2.mono (by omega) (by omega), g3⟩
theorem ntf_rk {μ : MU} {S P M : Int} {w : Mm} (hL : LB μ S P w) (hK : RK μ S P M w) : LN w (m_ntf μ w).2 ∧ LB μ (S + 8) P (m_ntf μ w).2 ∧ RK μ S P M (m_ntf μ w).2 ∧ ((m_ntf μ w).1 = 0 ∨ (m_ntf μ w).1 = 1) := by
  obtain ⟨g, _, h2, h3⟩ := ntf_ok (μ := μ) hK.2.2.2.2.1
  obtain ⟨n1, n2, n3⟩ := nice_ok (μ := μ) (P := P) 8 1 S w hL hK.2.2.2.2.2.1
  rw [h2]
  dsimp only
  have hN : LN w (ux g (m_nice μ 8 1 w).2) := n1.t LN.ux
  refine ⟨hN, n2.ux, ?_, n3⟩
  obtain ⟨k1, k2, k3, k4, k5, k6, k7⟩ := hK
  have e : ∀ c a i, c ≠ 200 → c ≠ 212 → c ≠ 120 → c ≠ 232 → c ≠ 233 → c ≠ 234 → ux g (m_nice μ 8 1 w).2 c a i = w c a i := hN.2
  have sb : ∀ s, 1 ≤ s → SB s w → SB s (ux g (m_nice μ 8 1 w).2) := fun s hs h => by
    obtain ⟨b1, b2, b3, b4, b5, b6⟩ := h
    refine ⟨?_, fun i a b => ?_, fun i a b => ?_, fun i a b => ?_, fun i a b => ?_, fun i a b => ?_⟩
    · unfold bL1; rw [e _ _ _ (by decide) (by decide) (by decide) (by decide) (by decide) (by decide)]; exact b1
    · rw [hN.1 _ _ (by omega)]; exact b2 i a b
    · rw [e _ _ _ (by decide) (by decide) (by decide) (by decide) (by decide) (by decide), e _ _ _ (by decide) (by decide) (by decide) (by decide) (by decide) (by decide), e _ _ _ (by decide) (by decide) (by decide) (by decide) (by decide) (by decide)]; exact b3 i a b
    · rw [e _ _ _ (by decide) (by decide) (by decide) (by decide) (by decide) (by decide)]; exact b4 i a b
    · rw [e _ _ _ (by decide) (by decide) (by decide) (by decide) (by decide) (by decide)]; exact b5 i a b
    · rw [e _ _ _ (by decide) (by decide) (by decide) (by decide) (by decide) (by decide)]; exact b6 i a b
  have sv : ∀ s, 1 ≤ s → SV S P s w → SV S P s (ux g (m_nice μ 8 1 w).2) := fun s hs h => by
    obtain ⟨b1, b2, b3, b4⟩ := h
    refine ⟨sb s hs b1, b2.cong (fun c a i _ _ => e _ _ _ (by omega) (by omega) (by omega) (by omega) (by omega) (by omega)) (e _ _ _ (by omega) (by omega) (by omega) (by omega) (by omega) (by omega)), ?_, ?_⟩
    · rw [e _ _ _ (by decide) (by decide) (by decide) (by decide) (by decide) (by decide)]; exact b3
    · rw [e _ _ _ (by decide) (by decide) (by decide) (by decide) (by decide) (by decide)]; exact b4
  exact ⟨sv 2 (by decide) k1, sv 3 (by decide) k2, sb 1 (by decide) k3, k4.cong fun c a i hc => e _ _ _ (by omega) (by omega) (by omega) (by omega) (by omega) (by omega), fun i a b => by rw [ux_at]; exact h3 i a b, k6.cong fun i => e _ _ _ (by decide) (by decide) (by decide) (by decide) (by decide) (by decide), k7.cong (fun i => e _ _ _ (by decide) (by decide) (by decide) (by decide) (by decide) (by decide)) (fun i => e _ _ _ (by decide) (by decide) (by decide) (by decide) (by decide) (by decide))⟩
/-! making a node -/
def mkK (c : Nat) : Bool := decide ((122 ≤ c ∧ c ≤ 126) ∨ (216 ≤ c ∧ c ≤ 225))
theorem mrg1_at {μ : MU} {x : Int} {w : Mm} {c : Nat} {a i : Int} (h : mkK c = false) : m_mrg1 μ x w c a i = w c a i := by
  have h := of_decide_eq_false h
  unfold m_mrg1
  rw [up_k _ (by omega), up_k _ (by omega), up_k _ (by omega), up_k _ (by omega), up_k _ (by omega), up_k _ (by omega)]
theorem mrg_at {μ : MU} {c : Nat} {a i : Int} (h : mkK c = false) : ∀ (n : Nat) (x : Int) (w : Mm), (m_mrg μ n x w).2 c a i = w c a i
  | 0, x, w => rfl
  | n + 1, x, w => by
    unfold m_mrg
    split
    · rfl
    · rw [mrg_at h n]; exact mrg1_at h
theorem mk1_at {μ : MU} {g : Int} {w : Mm} {c : Nat} {a i : Int} (h : mkK c = false) : m_mk1 μ g w c a i = w c a i := by
  have h := of_decide_eq_false h
  unfold m_mk1
  rw [up_k _ (by omega), up_k _ (by omega), up_k _ (by omega), up_k _ (by omega), up_k _ (by omega), up_k _ (by omega), up_k _ (by omega), up_k _ (by omega), up_k _ (by omega), up_k _ (by omega), up_k _ (by omega), up_k _ (by omega), up_k _ (by omega), up_k _ (by omega), up_k _ (by omega)]
theorem mks_at {μ : MU} {g : Int} {w : Mm} {c : Nat} {a i : Int} (h : mkK c = false) : m_mks μ g w c a i = w c a i := by
  unfold m_mks m_mrgs
  rw [mrg_at h]; exact mk1_at h
theorem LB.mkn {μ : MU} {S P g : Int} {w : Mm} (h : LB μ S P w) : LB μ S P (m_mks μ g w) :=
  h.cong (fun c a i _ _ _ => mks_at (decide_eq_false (by omega))) (mks_at (by decide)) (mks_at (by decide))
theorem RK.mks {μ : MU} {S P M g : Int} {w : Mm} (h : RK μ S P M w) (hg : 0 ≤ g ∧ g ≤ 3) (hs : w 122 μ.1 0 ≤ w 120 μ.1 0 ∧ w 120 μ.1 0 ≤ 30000) (hp : 0 ≤ w 121 μ.1 0 ∧ w 121 μ.1 0 ≤ 524288) (h7 : 0 ≤ w 207 0 0 ∧ w 207 0 0 ≤ 400) : RK μ S P (M + 1) (m_mks μ g w) := by
  obtain ⟨h1, h2, h3, h4, h5, h6, h7'⟩ := h
  refine ⟨h1.cong fun c a i _ _ _ _ _ => mks_at (decide_eq_false (by omega)), h2.cong fun c a i _ _ _ _ _ => mks_at (decide_eq_false (by omega)), h3.cong fun c a i _ _ => mks_at (decide_eq_false (by omega)), ?_, h5.cong fun i => mks_at (by decide), h6.cong fun i => mks_at (by decide), h7'.cong (fun i => mks_at (by decide)) (fun i => mks_at (by decide))⟩
  exact TB.mrg _ _ _ (h4.mk1 hg hs hp h7)
theorem mrg1_f {μ : MU} {x : Int} {w : Mm} {c : Nat} {a i : Int} (h : c ≠ 125 ∧ c < 200) : m_mrg1 μ x w c a i = w c a i := by
  unfold m_mrg1
  rw [up_k _ (by omega), up_k _ (by omega), up_k _ (by omega), up_k _ (by omega), up_k _ (by omega), up_k _ (by omega)]
theorem mrg_f {μ : MU} {c : Nat} {a i : Int} (h : c ≠ 125 ∧ c < 200) : ∀ (n : Nat) (x : Int) (w : Mm), (m_mrg μ n x w).2 c a i = w c a i
  | 0, x, w => rfl
  | n + 1, x, w => by
    unfold m_mrg
    split
    · rfl
    · rw [mrg_f h n]; exact mrg1_f h
theorem mks_122 {μ : MU} {g : Int} {w : Mm} : m_mks μ g w 122 μ.1 0 = w 120 μ.1 0 ∧ m_mks μ g w 123 μ.1 0 = w 121 μ.1 0 := by
  unfold m_mks m_mrgs
  rw [mrg_f (by decide), mrg_f (by decide)]
  unfold m_mk1
  constructor
  · rw [up_k _ (by decide), up_s]
  · rw [up_s]
theorem mks_126 {μ : MU} {g : Int} {w : Mm} : m_mks μ g w 126 μ.1 0 = w 124 μ.1 0 ∧ m_mks μ g w 124 μ.1 0 = w 124 μ.1 0 + 1 := by
  unfold m_mks m_mrgs
  rw [mrg_f (by decide), mrg_f (by decide)]
  unfold m_mk1
  simp (disch := decide) only [up_k, up_s, true_and]
/-- the end of a call -/
def m_en2 (μ : MU) (g : Int) (p : Int × Mm) : Int × Mm := if p.1 = 0 then (0, m_rest μ 2 1 p.2) else (1, m_mks μ g p.2)
def m_ends (μ : MU) (g : Int) (w : Mm) : Int × Mm := if w 132 μ.1 0 = 1 ∨ w 120 μ.1 0 = w 122 μ.1 0 then (1, w) else m_en2 μ g (m_ntf μ w)
theorem rep_120 {μ : MU} {q c : Int} {w : Mm} : m_rep μ q c w 120 μ.1 0 = w 120 μ.1 0 + 1 := by
  unfold m_rep m_step; rw [up_s, up_k _ (by decide)]
theorem nice_120 {μ : MU} : ∀ (j : Nat) (d : Int) (w : Mm), w 120 μ.1 0 ≤ (m_nice μ j d w).2 120 μ.1 0
  | 0, d, w => Int.le_refl _
  | j + 1, d, w => by
    unfold m_nice
    split
    · exact Int.le_refl _
    · split
      · dsimp only; rw [fl_at (by decide), up_k _ (by decide)]; exact Int.le_refl _
      · have := nice_120 (μ := μ) j (d + 1) (m_rep μ (m_pof (w 229 0 (m_ff w)) w) (w 230 0 (m_ff w)) (up w 233 0 d (m_ff w)))
        rw [rep_120, up_k _ (by decide)] at this
        omega
theorem ntf_120 {μ : MU} {S P M : Int} {w : Mm} (_ : LB μ S P w) (hK : RK μ S P M w) : w 120 μ.1 0 ≤ (m_ntf μ w).2 120 μ.1 0 := by
  obtain ⟨g, _, h2, _⟩ := ntf_ok (μ := μ) hK.2.2.2.2.1
  rw [h2]; dsimp only; rw [ux_k (by decide)]; exact nice_120 _ _ _
