/-- node x can be replayed -/
def RPk (μ : MU) (PL : Int → List Int) (x : Int) (w : Mm) : Prop := PHx PL x w ∧ LGL (RSx PL x w) (m_rp0 μ x w)
def RPA (μ : MU) (PL : Int → List Int) (w : Mm) : Prop := ∀ k, 0 ≤ k → k < w 124 μ.1 0 → w 216 0 k = 1 → RPk μ PL k w
def bEx (μ : MU) (w : Mm) : Prop := w 216 0 0 = 1 ∧ w 216 0 (w 126 μ.1 0) = 1 ∧ (∀ k, 1 ≤ k → k < w 124 μ.1 0 → w 216 0 k = 1 → w 216 0 (w 217 0 k) = 1) ∧ w 221 0 0 = -1
theorem PHx.cong {PL : Int → List Int} {x : Int} {b b' : Mm} (e : ∀ c a i, c = 212 ∨ c = 213 ∨ (217 ≤ c ∧ c ≤ 223) → b' c a i = b c a i) (h : PHx PL x b) : PHx PL x b' := by
  intro j hj
  rw [pln_cong (fun a i => e _ _ _ (by omega))] at hj
  have := h j hj
  rw [anc_cong (fun a i => e _ _ _ (by omega)), e 221 _ _ (by omega), nodeL_cong (fun c a i hc => e c a i (by omega))]
  exact ⟨this.1, this.2.1.cong (fun c a i hc => e c a i (by omega)), this.2.2⟩
theorem RSn.cong {PL : Int → List Int} {x : Int} {b b' : Mm} (e : ∀ c a i, c = 212 ∨ c = 213 ∨ (217 ≤ c ∧ c ≤ 223) → b' c a i = b c a i) : ∀ n, RSn PL x b' n = RSn PL x b n
  | 0 => rfl
  | n + 1 => by
    simp only [RSn]
    rw [RSn.cong e n, pln_cong (fun a i => e _ _ _ (by omega)), anc_cong (fun a i => e _ _ _ (by omega)), nodeL_cong (fun c a i hc => e c a i (by omega))]
theorem RSx.cong {PL : Int → List Int} {x : Int} {b b' : Mm} (e : ∀ c a i, c = 212 ∨ c = 213 ∨ (217 ≤ c ∧ c ≤ 223) → b' c a i = b c a i) : RSx PL x b' = RSx PL x b := by
  unfold RSx; rw [RSn.cong e, pln_cong (fun a i => e _ _ _ (by omega))]
theorem pat_rp0 {K : Nat → Bool} {w B : Mm} (hK : KA K) (h1 : K 127 = false) (μ : MU) (x : Int) : m_rp0 μ x (pat K w B) = pat K w (m_rp0 μ x B) := by
  have e1 : ∀ k, m_pln (m_rini (pat K w B)) k = m_pln (m_rini B) k := fun k => pln_cong (fun a i => by rw [rini_at (by decide), rini_at (by decide), pat_g (hK.h (by decide) (by decide))]) k
  have e2 : ∀ k n, m_anc (m_rini (pat K w B)) k n = m_anc (m_rini B) k n := fun k n => anc_cong (fun a i => by rw [rini_at (by decide), rini_at (by decide), pat_g (hK.h (by decide) (by decide))]) k n
  unfold m_rp0 m_fin
  simp only [e1, e2]
  unfold m_rini
  simp (disch := first | exact hK.h (by decide) (by decide) | exact h1) only [pat_up, pat_fl]
theorem RPk.pe {K : Nat → Bool} (hK : KA K) (h1 : K 127 = false) {μ : MU} {PL : Int → List Int} {x : Int} {w B : Mm} (h : PE K w B) (g : RPk μ PL x B) : RPk μ PL x w := by
  have e : ∀ c a i, c = 212 ∨ c = 213 ∨ (217 ≤ c ∧ c ≤ 223) → w c a i = B c a i := fun c a i hc => by rw [h c (hK.h (by omega) (by omega))]
  refine ⟨g.1.cong e, ?_⟩
  rw [RSx.cong e, h.eq, pat_rp0 hK h1]
  exact (pat_LGL hK _ _).mpr g.2
theorem RPk.up {μ : MU} {PL : Int → List Int} {x : Int} {w : Mm} (g : RPk μ PL x w) {c : Nat} {a i v : Int} (hc : c < 200 ∧ c ≠ 127) : RPk μ PL x (up w c a i v) :=
  g.pe (K := fun c' => decide (c' = c)) (fun c' h1 h2 => decide_eq_false (by omega)) (decide_eq_false (by omega)) fun c' h => by
    have := of_decide_eq_false h
    funext a' i'; exact up_k _ this _ _ _ _ _
theorem rpl_at {μ : MU} {PL : Int → List Int} {x : Int} {w : Mm} (h1 : SB 1 w) (h2 : bB w) (g : RPk μ PL x w) {c : Nat} {a i : Int} (h : (c < 200 ∨ 206 < c) ∧ c ≠ 240 ∧ c ≠ 127 ∧ c ≠ 226) : m_rpl μ PL x w c a i = w c a i := by
  have h00 : StP (m_rp0 μ x w) (m_rp0 μ x w) := ⟨fun _ _ _ _ _ => rfl, (SB.rini h1).cong fun c a i y z => by unfold m_rp0; exact fin_at (by omega), h2.cong fun i => by unfold m_rp0; rw [fin_at (by decide), rini_at (by decide)]⟩
  have := (h00.playL g.2).1 c a i h.1 h.2.1
  unfold m_rpl
  rw [this]; unfold m_rp0; rw [fin_at ⟨h.2.2.1, h.2.2.2⟩, rini_at (by omega)]
theorem rpl_st {μ : MU} {PL : Int → List Int} {x : Int} {w : Mm} (h1 : SB 1 w) (h2 : bB w) (g : RPk μ PL x w) : SB 1 (m_rpl μ PL x w) ∧ bB (m_rpl μ PL x w) ∧ F1 w (m_rpl μ PL x w) := by
  have h00 : StP (m_rp0 μ x w) (m_rp0 μ x w) := ⟨fun _ _ _ _ _ => rfl, (SB.rini h1).cong fun c a i y z => by unfold m_rp0; exact fin_at (by omega), h2.cong fun i => by unfold m_rp0; rw [fin_at (by decide), rini_at (by decide)]⟩
  have h3 := h00.playL g.2
  refine ⟨h3.2.1, h3.2.2, F1.t (F1.t (w1 := m_rini w) ?_ fun c a i x y z => by unfold m_rp0; exact fin_at (by omega)) (F1.playL h00.2.1 h00.2.2 g.2)⟩
  unfold m_rini
  refine F1.f (F1.f (F1.f (F1.u F1.r ?_) ?_) ?_) ?_ <;> (right; simp [st0])
def m_wks (μ : MU) (PL : Int → List Int) (x : Int) (w : Mm) : Mm := up (up (up (up (m_cpQ (fun s => decide (w 211 0 s = 1)) 5 0 1 (m_cpT 0 1 (m_rpl μ PL x w))) 207 0 0 (w 224 0 x)) 210 0 0 0) 126 μ.1 0 x) 129 μ.1 0 (-1)
theorem dX13_walks_0 : decode cX13_walks 0 = .ok (.aload_n 0, 1) := by decide +kernel
theorem dX13_walks_1 : decode cX13_walks 1 = .ok (.iload_n 1, 1) := by decide +kernel
theorem dX13_walks_2 : decode cX13_walks 2 = .ok (.invokevirtual 394, 3) := by decide +kernel
theorem dX13_walks_5 : decode cX13_walks 5 = .ok (.aload_n 0, 1) := by decide +kernel
theorem dX13_walks_6 : decode cX13_walks 6 = .ok (.iconst 0, 1) := by decide +kernel
theorem dX13_walks_7 : decode cX13_walks 7 = .ok (.iconst 1, 1) := by decide +kernel
theorem dX13_walks_8 : decode cX13_walks 8 = .ok (.invokevirtual 178, 3) := by decide +kernel
theorem dX13_walks_11 : decode cX13_walks 11 = .ok (.iconst 0, 1) := by decide +kernel
theorem dX13_walks_12 : decode cX13_walks 12 = .ok (.istore_n 2, 1) := by decide +kernel
theorem dX13_walks_13 : decode cX13_walks 13 = .ok (.iload_n 2, 1) := by decide +kernel
theorem dX13_walks_14 : decode cX13_walks 14 = .ok (.iconst 5, 1) := by decide +kernel
theorem dX13_walks_15 : decode cX13_walks 15 = .ok (.if_icmp .ge 26, 3) := by decide +kernel
theorem dX13_walks_18 : decode cX13_walks 18 = .ok (.aload_n 0, 1) := by decide +kernel
theorem dX13_walks_19 : decode cX13_walks 19 = .ok (.getfield 43, 3) := by decide +kernel
theorem dX13_walks_22 : decode cX13_walks 22 = .ok (.iload_n 2, 1) := by decide +kernel
theorem dX13_walks_23 : decode cX13_walks 23 = .ok (.iaload, 1) := by decide +kernel
theorem dX13_walks_24 : decode cX13_walks 24 = .ok (.iconst 1, 1) := by decide +kernel
theorem dX13_walks_25 : decode cX13_walks 25 = .ok (.if_icmp .ne 10, 3) := by decide +kernel
theorem dX13_walks_28 : decode cX13_walks 28 = .ok (.aload_n 0, 1) := by decide +kernel
theorem dX13_walks_29 : decode cX13_walks 29 = .ok (.iconst 0, 1) := by decide +kernel
theorem dX13_walks_30 : decode cX13_walks 30 = .ok (.iconst 1, 1) := by decide +kernel
theorem dX13_walks_31 : decode cX13_walks 31 = .ok (.iload_n 2, 1) := by decide +kernel
theorem dX13_walks_32 : decode cX13_walks 32 = .ok (.invokevirtual 185, 3) := by decide +kernel
theorem dX13_walks_35 : decode cX13_walks 35 = .ok (.iinc 2 1, 3) := by decide +kernel
theorem dX13_walks_38 : decode cX13_walks 38 = .ok (.goto (-25), 3) := by decide +kernel
theorem dX13_walks_41 : decode cX13_walks 41 = .ok (.aload_n 0, 1) := by decide +kernel
theorem dX13_walks_42 : decode cX13_walks 42 = .ok (.getfield 31, 3) := by decide +kernel
theorem dX13_walks_45 : decode cX13_walks 45 = .ok (.iconst 0, 1) := by decide +kernel
theorem dX13_walks_46 : decode cX13_walks 46 = .ok (.aload_n 0, 1) := by decide +kernel
theorem dX13_walks_47 : decode cX13_walks 47 = .ok (.getfield 90, 3) := by decide +kernel
theorem dX13_walks_50 : decode cX13_walks 50 = .ok (.iload_n 1, 1) := by decide +kernel
theorem dX13_walks_51 : decode cX13_walks 51 = .ok (.iaload, 1) := by decide +kernel
theorem dX13_walks_52 : decode cX13_walks 52 = .ok (.iastore, 1) := by decide +kernel
theorem dX13_walks_53 : decode cX13_walks 53 = .ok (.aload_n 0, 1) := by decide +kernel
theorem dX13_walks_54 : decode cX13_walks 54 = .ok (.getfield 40, 3) := by decide +kernel
theorem dX13_walks_57 : decode cX13_walks 57 = .ok (.iconst 0, 1) := by decide +kernel
theorem dX13_walks_58 : decode cX13_walks 58 = .ok (.iconst 0, 1) := by decide +kernel
theorem dX13_walks_59 : decode cX13_walks 59 = .ok (.iastore, 1) := by decide +kernel
theorem dX13_walks_60 : decode cX13_walks 60 = .ok (.aload_n 0, 1) := by decide +kernel
theorem dX13_walks_61 : decode cX13_walks 61 = .ok (.iload_n 1, 1) := by decide +kernel
theorem dX13_walks_62 : decode cX13_walks 62 = .ok (.putfield 258, 3) := by decide +kernel
theorem dX13_walks_65 : decode cX13_walks 65 = .ok (.aload_n 0, 1) := by decide +kernel
theorem dX13_walks_66 : decode cX13_walks 66 = .ok (.iconst (-1), 1) := by decide +kernel
theorem dX13_walks_67 : decode cX13_walks 67 = .ok (.putfield 105, 3) := by decide +kernel
theorem dX13_walks_70 : decode cX13_walks 70 = .ok (.return_, 1) := by decide +kernel
set_option maxRecDepth 4000 in
theorem c_walks (γ : LC) (μ : MU) (w : Mm) (x M : Int) (PL : Int → List Int) (hT : TB μ M w) (hM : M ≤ 600) (hx : 0 ≤ x ∧ x < w 124 μ.1 0) (hS1 : SB 1 w) (hB : bB w) (hV : 0 ≤ w 210 0 0 ∧ w 210 0 0 ≤ 4) (hE : bE w) (hRP : RPk μ PL x w) : CMv γ μ 5 mX13_walks [.int (I x)] w (fun w' => w' = m_wks μ PL x w) := by
  refine CMv_of rfl (by simp [rv_cat, Value.category]) rfl ?_
  rintro κ hO hF rfl hR
  have hD := hF.dp
  show X κ 0 0 w 0 [some (rv μ.1), some (.int (I x)), none] []
  have ht1 := hT.1
  have h224 := hT.2.2.2.2.2.2 x hx.1 hx.2
  obtain ⟨s1, s2, s3⟩ := rpl_st hS1 hB hRP
  have sl := s1.1
  unfold bL1 at sl
  have e211 : ∀ i, (m_rpl μ PL x w) 211 0 i = w 211 0 i := fun i => rpl_at hS1 hB hRP (by decide)
  have e224 : ∀ i, (m_rpl μ PL x w) 224 0 i = w 224 0 i := fun i => rpl_at hS1 hB hRP (by decide)
  refine X_aload_n 1 hO dX13_walks_0 rfl rfl ?_
  refine X_iload_n 2 hO dX13_walks_1 rfl rfl ?_
  refine XM_callVv 5 hO hD hR lX13_394 [_] rfl dX13_walks_2 rfl (c_replays _ _ _ _ M PL hT hM hx hS1 hB hV hE hRP.1 hRP.2) (by decide) (by simp only [List.map_cons, List.map_nil, rv_cat]; exact Nat.le_of_ble_eq_true rfl) (fun w_2 hp_2 hR => ?_)
  subst hp_2
  refine X_aload_n 6 hO dX13_walks_5 rfl rfl ?_
  refine X_iconst 7 hO dX13_walks_6 rfl ?_
  refine X_iconst 8 hO dX13_walks_7 rfl ?_
  refine XM_callVv 11 hO hD hR lX13_178 [_, _] rfl dX13_walks_8 rfl (c_copiesText _ _ _ _ _ (by omega) (by omega) (by omega) (by omega)) (by decide) (by simp only [List.map_cons, List.map_nil, rv_cat]; exact Nat.le_of_ble_eq_true rfl) (fun w_8 hp_8 hR => ?_)
  subst hp_8
  refine X_iconst 12 hO dX13_walks_11 rfl ?_
  refine X_istore_n 13 hO dX13_walks_12 rfl rfl ?_
  have LP13 : ∀ (n : Nat) (k : Int), (5 - k).toNat < n → (0 ≤ k ∧ k ≤ 5) → RM (m_cpQ (fun s => decide (w 211 0 s = 1)) k 0 1 (m_cpT 0 1 (m_rpl μ PL x w))) μ → X κ 0 0 (m_cpQ (fun s => decide (w 211 0 s = 1)) k 0 1 (m_cpT 0 1 (m_rpl μ PL x w))) 13 [some (rv μ.1), some (.int (I x)), some (.int (I k))] [] := by
    intro n
    induction n with
    | zero => intro k hm; exact absurd hm (Nat.not_lt_zero _)
    | succ n ih =>
      intro k hm hk hR
      have et : m_cpQ (fun s => decide (w 211 0 s = 1)) k 0 1 (m_cpT 0 1 (m_rpl μ PL x w)) 211 0 k = w 211 0 k := by rw [cpQ_at (by decide), cpT_at (by decide), e211]
      refine X_iload_n 14 hO dX13_walks_13 rfl rfl ?_
      refine X_iconst 15 hO dX13_walks_14 rfl ?_
      refine X_icmp_ge 18 41 hO dX13_walks_15 rfl rfl (by omega) (by omega) (fun hc_15 => ?_) (fun hc_15 => ?_)
      ·
        have e4 : k = 5 := by omega
        subst e4
        refine X_aload_n 42 hO dX13_walks_41 rfl rfl ?_
        refine ga_31 45 hO hR dX13_walks_42 rfl ?_
        refine X_iconst 46 hO dX13_walks_45 rfl ?_
        refine X_aload_n 47 hO dX13_walks_46 rfl rfl ?_
        refine ga_90 50 hO hR dX13_walks_47 rfl ?_
        refine X_iload_n 51 hO dX13_walks_50 rfl rfl ?_
        refine ma_ld (L := 640) (c := 224) 52 hO hR rfl rfl rfl dX13_walks_51 rfl (by omega) (by omega) (fun hi_51 => ?_)
        rw [cpQ_at (c := 224) (by decide), cpT_at (c := 224) (by decide), e224]
        refine ma_st (L := 4) (c := 207) 53 hO hR rfl rfl rfl dX13_walks_52 rfl (by omega) (by omega) (by omega) (fun hR => ?_)
        refine X_aload_n 54 hO dX13_walks_53 rfl rfl ?_
        refine ga_40 57 hO hR dX13_walks_54 rfl ?_
        refine X_iconst 58 hO dX13_walks_57 rfl ?_
        refine X_iconst 59 hO dX13_walks_58 rfl ?_
        refine ma_st (L := 4) (c := 210) 60 hO hR rfl rfl rfl dX13_walks_59 rfl (by omega) (by omega) (by omega) (fun hR => ?_)
        refine X_aload_n 61 hO dX13_walks_60 rfl rfl ?_
        refine X_iload_n 62 hO dX13_walks_61 rfl rfl ?_
        refine pa_258 65 hO hR dX13_walks_62 rfl (by omega) (fun hR => ?_)
        refine X_aload_n 66 hO dX13_walks_65 rfl rfl ?_
        refine X_iconst 67 hO dX13_walks_66 rfl ?_
        refine pa_105 70 hO hR dX13_walks_67 rfl (by omega) (fun hR => ?_)
        exact XM_vret hO hF hR rfl dX13_walks_70 rfl
      ·
        refine X_aload_n 19 hO dX13_walks_18 rfl rfl ?_
        refine ga_43 22 hO hR dX13_walks_19 rfl ?_
        refine X_iload_n 23 hO dX13_walks_22 rfl rfl ?_
        refine ma_ld (L := 5) (c := 211) 24 hO hR rfl rfl rfl dX13_walks_23 rfl (by omega) (by omega) (fun hi_23 => ?_)
        refine X_iconst 25 hO dX13_walks_24 rfl ?_
        refine X_icmp_ne 28 35 hO dX13_walks_25 rfl rfl (by omega) (by omega) (fun hc_25 => ?_) (fun hc_25 => ?_)
        ·
          refine X_iinc 38 hO dX13_walks_35 rfl rfl ?_
          refine X_goto hO dX13_walks_38 (tgt := 13) rfl ?_
          first
            | exact X_eqR hR (cpQ_do (by omega) (by omega) (decide_eq_true (by omega))) (fun hR => ih (k + 1) (by omega) (by omega) hR)
            | exact X_eqR hR (cpQ_skip (by omega) (by rw [decide_eq_true_iff]; omega)).symm (fun hR => ih (k + 1) (by omega) (by omega) hR)
        ·
          refine X_aload_n 29 hO dX13_walks_28 rfl rfl ?_
          refine X_iconst 30 hO dX13_walks_29 rfl ?_
          refine X_iconst 31 hO dX13_walks_30 rfl ?_
          refine X_iload_n 32 hO dX13_walks_31 rfl rfl ?_
          refine XM_callVv 35 hO hD hR lX13_185 [_, _, _] rfl dX13_walks_32 rfl (c_copiesStore _ _ _ _ _ _ (by omega) (by omega) (by omega) (by omega)) (by decide) (by simp only [List.map_cons, List.map_nil, rv_cat]; exact Nat.le_of_ble_eq_true rfl) (fun w_32 hp_32 hR => ?_)
          subst hp_32
          refine X_iinc 38 hO dX13_walks_35 rfl rfl ?_
          refine X_goto hO dX13_walks_38 (tgt := 13) rfl ?_
          first
            | exact X_eqR hR (cpQ_do (by omega) (by omega) (decide_eq_true (by omega))) (fun hR => ih (k + 1) (by omega) (by omega) hR)
            | exact X_eqR hR (cpQ_skip (by omega) (by rw [decide_eq_true_iff]; omega)).symm (fun hR => ih (k + 1) (by omega) (by omega) hR)
  exact X_eqR hR (cpQ_0 _ _ _ _).symm (fun hR => LP13 _ 0 (Nat.lt_succ_self _) (by omega) hR)
