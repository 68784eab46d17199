/-! the opposites, one after the other: what stays -/
def opK (c : Nat) : Bool := decide ((200 ≤ c ∧ c ≤ 210) ∨ c = 212 ∨ c = 213 ∨ c = 240 ∨ c = 120 ∨ c = 121 ∨ c = 127 ∨ c = 226 ∨ c = 138 ∨ c = 244 ∨ c = 245 ∨ c = 136)
def OF (μ : MU) (w w' : Mm) : Prop := (∀ c a i, opK c = false → w' c a i = w c a i) ∧ (∀ c a i, 200 ≤ c → c ≤ 210 → 2 * st0 c ≤ i → w' c a i = w c a i) ∧ AP μ w w'
theorem OF.r {μ : MU} {w : Mm} : OF μ w w := ⟨fun _ _ _ _ => rfl, fun _ _ _ _ _ _ => rfl, AP.r⟩
theorem OF.t {μ : MU} {w w1 w2 : Mm} (h : OF μ w w1) (g : OF μ w1 w2) : OF μ w w2 := ⟨fun c a i x => (g.1 c a i x).trans (h.1 c a i x), fun c a i x y z => (g.2.1 c a i x y z).trans (h.2.1 c a i x y z), h.2.2.t g.2.2⟩
theorem st0_pos (c : Nat) : 1 ≤ st0 c := by unfold st0; repeat (split; omega); omega
theorem OF.lo {μ : MU} {w w' : Mm} (h : LO w w') (g : AP μ w w') : OF μ w w' := by
  refine ⟨fun c a i hc => ?_, fun c a i x y z => ?_, g⟩
  · have hc := of_decide_eq_false hc
    refine h.2 c a i (by omega) ?_
    unfold LOk
    simp only [Bool.or_eq_false_iff, beq_eq_false_iff_ne, ne_eq]
    omega
  · have := st0_pos c
    exact h.1 c a i x y (by omega)
theorem OF.sb {μ : MU} {s : Int} {w w' : Mm} (h : OF μ w w') (hs : 2 ≤ s) (hB : SB s w) : SB s w' := by
  obtain ⟨h1, h2, h3, h4, h5, h6⟩ := hB
  have e : ∀ c a i, 200 ≤ c → c ≤ 210 → 2 * st0 c ≤ i → w' c a i = w c a i := h.2.1
  refine ⟨?_, fun i a b => ?_, fun i a b => ?_, fun i a b => ?_, fun i a b => ?_, fun i a b => ?_⟩
  · unfold bL1; rw [e _ _ _ (by decide) (by decide) (by simp [st0]; omega)]; exact h1
  · rw [e _ _ _ (by decide) (by decide) (by simp [st0]; omega)]; exact h2 i a b
  · rw [e _ _ _ (by decide) (by decide) (by simp [st0]; omega), e _ _ _ (by decide) (by decide) (by simp [st0]; omega), e _ _ _ (by decide) (by decide) (by simp [st0]; omega)]; exact h3 i a b
  · rw [e _ _ _ (by decide) (by decide) (by simp [st0]; omega)]; exact h4 i a b
  · rw [e _ _ _ (by decide) (by decide) (by simp [st0]; omega)]; exact h5 i a b
  · rw [e _ _ _ (by decide) (by decide) (by simp [st0]; omega)]; exact h6 i a b
theorem OF.sv {μ : MU} {S P s : Int} {w w' : Mm} (h : OF μ w w') (hs : 2 ≤ s) (hB : SV S P s w) : SV S P s w' := by
  have e : ∀ c a i, 200 ≤ c → c ≤ 210 → 2 * st0 c ≤ i → w' c a i = w c a i := h.2.1
  refine ⟨h.sb hs hB.1, ?_, ?_, ?_⟩
  · exact hB.2.1.cpo (e _ _ _ (by decide) (by decide) (by simp [st0]; omega)) (e _ _ _ (by decide) (by decide) (by simp [st0]; omega)) (fun i a b => e _ _ _ (by decide) (by decide) (by simp [st0]; omega)) (fun i a b => e _ _ _ (by decide) (by decide) (by simp [st0]; omega)) (e _ _ _ (by decide) (by decide) (by simp [st0]; omega))
  · rw [h.1 _ _ _ (by decide)]; exact hB.2.2.1
  · rw [h.1 _ _ _ (by decide)]; exact hB.2.2.2
theorem OF.tb {μ : MU} {M : Int} {w w' : Mm} (h : OF μ w w') (g : TB μ M w) : TB μ M w' := by
  obtain ⟨t1, t2, t3, t4, t5, t6, t7⟩ := g
  refine ⟨?_, ?_, ?_, ?_, ?_, ?_, fun k a b => ?_⟩
  · rw [h.1 _ _ _ (by decide)]; exact t1
  · rw [h.1 _ _ _ (by decide), h.1 _ _ _ (by decide)]; exact t2
  · rw [h.1 _ _ _ (by decide), h.1 _ _ _ (by decide)]; exact t3
  · rw [h.1 _ _ _ (by decide)]; exact t4
  · rw [h.1 _ _ _ (by decide)]; exact t5
  · rw [h.1 _ _ _ (by decide)]; exact t6
  · rw [h.1 _ _ _ (by decide)] at b
    have := t7 k a b
    simp (disch := decide) only [h.1]
    exact this
theorem OF.rk {μ : MU} {S P M : Int} {w w' : Mm} (h : OF μ w w') (h1 : SB 1 w') (g : RK μ S P M w) : RK μ S P M w' := by
  obtain ⟨g1, g2, g3, g4, g5, g6, g7⟩ := g
  exact ⟨h.sv (by decide) g1, h.sv (by decide) g2, h1, h.tb g4, g5.cong fun i => h.1 _ _ _ (by decide), g6.cong fun i => h.1 _ _ _ (by decide), g7.cong (fun i => h.1 _ _ _ (by decide)) (fun i => h.1 _ _ _ (by decide))⟩
theorem OF.ts {μ : MU} {w w' : Mm} (h : OF μ w w') (hz : w 122 μ.1 0 ≤ w 120 μ.1 0 ∧ w 123 μ.1 0 ≤ w 121 μ.1 0) : TSm μ w w' := by
  refine ⟨fun c a i x y => h.1 c a i (decide_eq_false (by omega)), fun c x y => h.1 c _ _ (decide_eq_false (by omega)), fun i a b => h.2.2.2.2.1 i a (by omega), fun j a b => h.2.2.2.2.2 j a (by omega)⟩
theorem LB.re {μ : MU} {S P S' P' : Int} {w : Mm} (h : LB μ S P w) (h1 : w 120 μ.1 0 ≤ S') (h2 : w 121 μ.1 0 ≤ P') : LB μ S' P' w := by
  obtain ⟨a, b, c, d, e⟩ := h
  exact ⟨a, b, c, d, ⟨e.1.1, h1⟩, ⟨e.2.1, h2⟩⟩
theorem SB.lo1 {w w' : Mm} (h : SB 1 w) (g : LO w w') : SB 1 w' := g.sb (by decide) h
theorem poolN_120 {μ : MU} {f : Int → Int} {w : Mm} : ∀ n, m_poolN μ f n w 120 μ.1 0 = w 120 μ.1 0 ∧ m_poolN μ f n w 121 μ.1 0 = w 121 μ.1 0 + n
  | 0 => ⟨rfl, by show w 121 μ.1 0 = _; omega⟩
  | n + 1 => by
    obtain ⟨h1, h2⟩ := poolN_120 (μ := μ) (f := f) (w := w) n
    simp only [m_poolN, m_pool]
    rw [up_k _ (by decide), up_k _ (by decide), up_s, h1, h2]
    exact ⟨rfl, by omega⟩
theorem ins_120 {μ : MU} {q k : Int} {w : Mm} : m_ins μ q k w 120 μ.1 0 = w 120 μ.1 0 + 1 := by
  unfold m_ins
  rw [(poolN_120 _).1, fl_at (by decide)]
  unfold m_step
  rw [up_s, opens_at (by decide)]
theorem ins_121 {μ : MU} {q k : Int} {w : Mm} (hk : 0 ≤ k) : m_ins μ q k w 121 μ.1 0 = w 121 μ.1 0 + k := by
  unfold m_ins
  rw [(poolN_120 _).2, fl_at (by decide)]
  unfold m_step
  simp (disch := decide) only [up_k]
  rw [opens_at (by decide)]; omega
theorem poolN_at3 {μ : MU} {f : Int → Int} {w : Mm} {c : Nat} {a i : Int} (h : c ≠ 213 ∧ c ≠ 121) : ∀ n, m_poolN μ f n w c a i = w c a i
  | 0 => rfl
  | n + 1 => by simp only [m_poolN, m_pool]; rw [up_k _ h.2, up_k _ h.1]; exact poolN_at3 h n
theorem ins_201 {μ : MU} {q k : Int} {w : Mm} : m_ins μ q k w 201 0 0 = w 201 0 0 + k := by
  unfold m_ins
  rw [poolN_at3 (by decide), fl_at (by decide)]
  unfold m_step
  simp (disch := decide) only [up_k]
  rw [opn_201, if_pos rfl]
theorem rem_ok {μ : MU} {PL : Int → List Int} {nd t S P : Int} {w : Mm} (hB : LB μ S P w) (h1 : SB 1 w) (hRP : RPk μ PL (w 217 0 nd) w) (hL : LGL (nodeL w (PL nd)) (m_rpl μ PL (w 217 0 nd) w)) (ht : 0 ≤ w 242 0 t ∧ 0 ≤ w 243 0 t ∧ w 242 0 t + w 243 0 t ≤ 400) : LB μ S P (m_rem μ PL nd t w) ∧ SB 1 (m_rem μ PL nd t w) ∧ OF μ w (m_rem μ PL nd t w) ∧ (∀ c i, 200 ≤ c → c ≤ 210 → i < st0 c → m_rem μ PL nd t w c 0 i = w c 0 i) ∧ (∀ c a i, (c < 200 ∨ 206 < c) → c ≠ 240 → c ≠ 127 → c ≠ 226 → m_rem μ PL nd t w c a i = w c a i) := by
  have hBb : bB w := hB.2.2.1
  have hr1 := rem1_ok (t := t) h1 hBb hRP hL
  have eR : ∀ c a i, (c < 200 ∨ 206 < c) → c ≠ 240 → c ≠ 127 → c ≠ 226 → m_rem μ PL nd t w c a i = w c a i := fun c a i y1 y2 y3 y4 => by unfold m_rem; rw [fl_at y2]; exact hr1.2.2.2 c a i y1 y2 y3 y4
  have eF : ∀ c a i, 200 ≤ c → c ≤ 206 → (i < st0 c ∨ 2 * st0 c ≤ i) → m_rem μ PL nd t w c a i = w c a i := fun c a i y1 y2 y3 => by unfold m_rem; rw [fl_at (by omega)]; exact hr1.2.2.1 c a i y1 y2 y3
  have hbf : bB (m_rem μ PL nd t w) := by
    intro i a b
    unfold m_rem
    simp only [fl, true_and]
    split
    · exact hr1.1.2.1 _ (by omega) (by omega)
    · exact hr1.2.1 i a b
  have e0 : ∀ c i, 200 ≤ c → c ≤ 210 → i < st0 c → m_rem μ PL nd t w c 0 i = w c 0 i := fun c i x y z => by
    by_cases k : c ≤ 206
    · exact eF c 0 i x k (Or.inl z)
    · exact eR c 0 i (by omega) (by omega) (by omega) (by omega)
  have s1 : SB 1 (m_rem μ PL nd t w) := hr1.1.cong fun c a i x y => by unfold m_rem; exact fl_at (by omega)
  have ap : AP μ w (m_rem μ PL nd t w) := AP.r.c fun c a i h => eR c a i (by omega) (by omega) (by omega) (by omega)
  have of : OF μ w (m_rem μ PL nd t w) := ⟨fun c a i hc => by
      have hc := of_decide_eq_false hc
      exact eR c a i (by omega) (by omega) (by omega) (by omega), fun c a i x y z => by
      by_cases k : c ≤ 206
      · exact eF c a i x k (Or.inr z)
      · exact eR c a i (by omega) (by omega) (by omega) (by omega), ap⟩
  refine ⟨?_, s1, of, e0, eR⟩
  obtain ⟨b1, b2, b3, b4, b5⟩ := hB
  obtain ⟨q1, q2, q3, q4, q5, q6⟩ := b1
  refine ⟨⟨?_, fun i a b => ?_, fun i a b => ?_, fun i a b => ?_, fun i a b => ?_, fun i a b => ?_⟩, ?_, hbf, fun i a b => ?_, ?_⟩
  · unfold bL1; rw [e0 201 _ (by decide) (by decide) (by decide)]; exact q1
  · rw [e0 200 _ (by decide) (by decide) (by simp [st0]; omega)]; exact q2 i a b
  · rw [e0 202 _ (by decide) (by decide) (by simp [st0]; omega), e0 201 _ (by decide) (by decide) (by decide), e0 203 _ (by decide) (by decide) (by simp [st0]; omega)]; exact q3 i a b
  · rw [e0 204 _ (by decide) (by decide) (by simp [st0]; omega)]; exact q4 i a b
  · rw [e0 205 _ (by decide) (by decide) (by simp [st0]; omega)]; exact q5 i a b
  · rw [e0 206 _ (by decide) (by decide) (by simp [st0]; omega)]; exact q6 i a b
  · exact b2.cong (fun c a i x y => eR c a i (by omega) (by omega) (by omega) (by omega)) (e0 201 _ (by decide) (by decide) (by decide))
  · rw [eR 211 _ _ (by decide) (by decide) (by decide) (by decide)]; exact b4 i a b
  · unfold bN; rw [eR 120 _ _ (by decide) (by decide) (by decide) (by decide), eR 121 _ _ (by decide) (by decide) (by decide) (by decide)]; exact b5
theorem op1_v {μ : MU} {t q k o : Int} {w : Mm} : (w 241 0 t = 0 → m_op1 μ t q k o w 244 0 o = mvA 1 q k (w 244 0 o) (w 245 0 o) ∧ m_op1 μ t q k o w 245 0 o = mvB 1 q k (w 244 0 o) (w 245 0 o)) ∧ (w 241 0 t = 1 → m_op1 μ t q k o w 244 0 o = opA q k (w 246 0 (8 * o + t)) (w 244 0 o) (w 245 0 o) ∧ m_op1 μ t q k o w 245 0 o = opB q k (w 246 0 (8 * o + t)) (w 244 0 o) (w 245 0 o)) ∧ (w 241 0 t = 2 → m_op1 μ t q k o w = w) := by
  refine ⟨fun h => ?_, fun h => ?_, fun h => ?_⟩
  · unfold m_op1
    rw [if_neg (by omega), if_neg (by omega), if_pos h]
    exact mov_v
  · unfold m_op1 opA opB
    by_cases c : w 244 0 o = q ∧ w 245 0 o = q
    · rw [if_pos ⟨h, c⟩, if_pos c, if_pos c]
      unfold m_opx
      simp (disch := decide) only [up_k, up_s]
      split <;> omega
    · rw [if_neg (by omega), if_neg (by omega), if_neg (by omega), if_neg c, if_neg c]
      exact mov_v
  · unfold m_op1
    rw [if_neg (by omega), if_pos h]
theorem opN_v {μ : MU} {t q k : Int} {w : Mm} : ∀ (n : Nat) (i : Int), 0 ≤ i → i < n → (w 241 0 t = 0 → m_opN μ t q k n w 244 0 i = mvA 1 q k (w 244 0 i) (w 245 0 i) ∧ m_opN μ t q k n w 245 0 i = mvB 1 q k (w 244 0 i) (w 245 0 i)) ∧ (w 241 0 t = 1 → m_opN μ t q k n w 244 0 i = opA q k (w 246 0 (8 * i + t)) (w 244 0 i) (w 245 0 i) ∧ m_opN μ t q k n w 245 0 i = opB q k (w 246 0 (8 * i + t)) (w 244 0 i) (w 245 0 i)) ∧ (w 241 0 t = 2 → m_opN μ t q k n w 244 0 i = w 244 0 i ∧ m_opN μ t q k n w 245 0 i = w 245 0 i)
  | 0, i, a, b => by omega
  | n + 1, i, a, b => by
    simp only [m_opN]
    by_cases c : i = n
    · subst c
      have z := op1_v (μ := μ) (t := t) (q := q) (k := k) (o := n) (w := m_opN μ t q k n w)
      rw [opN_at (c := 241) (by decide), opN_at (c := 246) (by decide), opN_o (Or.inl rfl) n (Int.le_refl _), opN_o (Or.inr rfl) n (Int.le_refl _)] at z
      exact ⟨z.1, z.2.1, fun h => by rw [z.2.2 h, opN_o (Or.inl rfl) n (Int.le_refl _), opN_o (Or.inr rfl) n (Int.le_refl _)]; exact ⟨rfl, rfl⟩⟩
    · rw [op1_o (Or.inl rfl) c, op1_o (Or.inr rfl) c]; exact opN_v n i a (by omega)
theorem LB.opN {μ : MU} {S P t q k : Int} {w : Mm} (h : LB μ S P w) {n : Nat} : LB μ S P (m_opN μ t q k n w) := h.cong (fun c a i x y z => opN_at (by omega) n) (opN_at (by decide) n) (opN_at (by decide) n)
theorem OF.opN {μ : MU} {t q k : Int} {w w1 : Mm} (h : OF μ w w1) {n : Nat} : OF μ w (m_opN μ t q k n w1) := h.t ⟨fun c a i hc => opN_at (by have := of_decide_eq_false hc; omega) n, fun c a i x y z => opN_at (by omega) n, AP.r.c fun c a i h => opN_at (by omega) n⟩
theorem LB.opD {μ : MU} {S P q k : Int} {w : Mm} (h : LB μ S P w) (hq : 0 ≤ q ∧ q + k ≤ w 201 0 0) (hk : 0 ≤ k) : LB μ (S + 1) P (m_opD μ q k w) := by
  obtain ⟨f1, f2, f3, f4, f5⟩ := h.f
  unfold m_opD
  refine (h.w.del hq hk).pt ?_
  rw [del_vF f2 hq.1 hk, del_vT f2 hq.2 hk, del_at (by decide)]
  unfold dbF
  refine ⟨?_, ?_⟩ <;> (repeat split) <;> omega
theorem LB.opI {μ : MU} {S P q k : Int} {w : Mm} (h : LB μ S P w) (hq : 0 ≤ q ∧ q ≤ w 201 0 0) (hk : 0 ≤ k ∧ w 201 0 0 + k ≤ 400) : LB μ (S + 1) (P + k) (m_opI μ q k w) := by
  obtain ⟨f1, f2, f3, f4, f5⟩ := h.f
  unfold m_opI
  refine (h.w.ins hq hk).pt ?_
  rw [ins_vF f2 hq.1, ins_vT f2 hq.2, ins_at (by decide)]
  unfold mvF
  refine ⟨?_, ?_⟩ <;> (repeat split) <;> omega
def gI (w : Mm) (i : Int) : Int := if w 241 0 i = 0 ∧ 0 ≤ w 243 0 i then w 243 0 i else 0
theorem gI_nn {w : Mm} (i : Int) : 0 ≤ gI w i := by unfold gI; split <;> omega
def UI (μ : MU) (S P N : Int) (W0 : Mm) (n : Int) (W : Mm) : Prop :=
  LB μ (S + 8) (P + 400) W ∧ SB 1 W ∧ OF μ W0 W ∧ TVr (fun i => W 244 0 i) (fun i => W 245 0 i) n (W 201 0 0) ∧
  (∀ i, 0 ≤ i → i < n → W 245 0 i - W 244 0 i = if W0 241 0 i = 1 then 0 else W0 243 0 i) ∧
  W 120 μ.1 0 ≤ S + (N - n) ∧ W 121 μ.1 0 + sumN (gI W0) n.toNat ≤ P + W 201 0 0 - W0 201 0 0 + sumN (gI W0) N.toNat
theorem UI.pool {μ : MU} {S P N n : Int} {W0 W : Mm} (h : UI μ S P N W0 n W) (hG : sumN (gI W0) N.toNat ≤ W0 201 0 0) (hg : ∀ i, 0 ≤ gI W0 i) : W 121 μ.1 0 ≤ P + 400 := by
  have h1 := h.1.f.1
  have h2 := h.2.2.2.2.2.2
  have h3 := sumN_nn hg n.toNat
  omega
theorem UI.opp {μ : MU} {PL : Int → List Int} {S P N nd t : Int} {W0 W : Mm} (h : UI μ S P N W0 (t + 1) W) (ht : 0 ≤ t ∧ t + 1 ≤ N ∧ N ≤ 8) (hN : W0 137 μ.1 0 = N) (hK : KS μ W0) (hG : sumN (gI W0) N.toNat ≤ W0 201 0 0) (hg : ∀ i, 0 ≤ gI W0 i) (hRP : RPk μ PL (W 217 0 nd) W) (hL : LGL (nodeL W (PL nd)) (m_rpl μ PL (W 217 0 nd) W)) : ((m_opp μ PL nd t W).1 = 0 ∧ (m_opp μ PL nd t W).2 = W) ∨ ((m_opp μ PL nd t W).1 = 1 ∧ UI μ S P N W0 t (m_opp μ PL nd t W).2) := by
  have hp := h.pool hG hg
  obtain ⟨h1, h2, h3, h4, h5, h6, h7⟩ := h
  obtain ⟨f1, f2, f3, f4, f5⟩ := h1.f
  have k0 := hK t ht.1 (by omega)
  have e1 : ∀ i, W 241 0 i = W0 241 0 i := fun i => h3.1 241 0 i (by decide)
  have e2 : ∀ i, W 242 0 i = W0 242 0 i := fun i => h3.1 242 0 i (by decide)
  have e3 : ∀ i, W 243 0 i = W0 243 0 i := fun i => h3.1 243 0 i (by decide)
  have e6 : ∀ i, W 246 0 i = W0 246 0 i := fun i => h3.1 246 0 i (by decide)
  have h5t := h5 t ht.1 (by omega)
  have h4t : 0 ≤ W 244 0 t ∧ W 244 0 t ≤ W 245 0 t ∧ W 245 0 t ≤ W 201 0 0 := h4.1 t ht.1 (by omega)
  have k01 := k0.1
  have hS : sumN (gI W0) (t + 1).toNat = sumN (gI W0) t.toNat + gI W0 t := sumN_su ht.1
  have hgt : gI W0 t = if W0 241 0 t = 0 then W0 243 0 t else 0 := by
    unfold gI
    by_cases c : W0 241 0 t = 0
    · rw [if_pos c, if_pos ⟨c, by omega⟩]
    · rw [if_neg c, if_neg (fun h => c h.1)]
  have mk : ∀ (W3 : Mm), LB μ (W 120 μ.1 0 + 1) (P + 400 + 400) W3 → SB 1 W3 → OF μ W W3 → (∀ i, W3 244 0 i = W 244 0 i ∧ W3 245 0 i = W 245 0 i) → W3 120 μ.1 0 = W 120 μ.1 0 + 1 → (W0 241 0 t = 0 → W3 201 0 0 = W 201 0 0 - W0 243 0 t ∧ W3 121 μ.1 0 = W 121 μ.1 0) → (W0 241 0 t = 1 → W3 201 0 0 = W 201 0 0 + W0 243 0 t ∧ W3 121 μ.1 0 = W 121 μ.1 0 + W0 243 0 t) → (W0 241 0 t = 2 → W3 201 0 0 = W 201 0 0 ∧ W3 121 μ.1 0 = W 121 μ.1 0) → UI μ S P N W0 t (m_opN μ t (W 244 0 t) (W 243 0 t) t.toNat W3) := by
    intro W3 g1 g2 g3 g4 g5 c0 c1 c2
    have hK3 : W3 241 0 t = W0 241 0 t := (g3.1 241 0 t (by decide)).trans (e1 t)
    have hv := fun i (a : 0 ≤ i) (b : i < t) => opN_v (μ := μ) (t := t) (q := W 244 0 t) (k := W 243 0 t) (w := W3) t.toNat i a (by omega)
    have z201 : m_opN μ t (W 244 0 t) (W 243 0 t) t.toNat W3 201 0 0 = W3 201 0 0 := opN_at (by decide) _
    have z120 : m_opN μ t (W 244 0 t) (W 243 0 t) t.toNat W3 120 μ.1 0 = W3 120 μ.1 0 := opN_at (by decide) _
    have z121 : m_opN μ t (W 244 0 t) (W 243 0 t) t.toNat W3 121 μ.1 0 = W3 121 μ.1 0 := opN_at (by decide) _
    have hpool : W3 121 μ.1 0 + sumN (gI W0) t.toNat ≤ P + W3 201 0 0 - W0 201 0 0 + sumN (gI W0) N.toNat := by
      rcases (show W0 241 0 t = 0 ∨ W0 241 0 t = 1 ∨ W0 241 0 t = 2 by omega) with c | c | c
      · obtain ⟨q1, q2⟩ := c0 c
        rw [if_pos c] at hgt; omega
      · obtain ⟨q1, q2⟩ := c1 c
        rw [if_neg (by omega)] at hgt; omega
      · obtain ⟨q1, q2⟩ := c2 c
        rw [if_neg (by omega)] at hgt; omega
    have hsn := sumN_nn hg t.toNat
    have hL3 : W3 201 0 0 ≤ 400 := g1.f.1.2
    have hTV : TVr (fun i => m_opN μ t (W 244 0 t) (W 243 0 t) t.toNat W3 244 0 i) (fun i => m_opN μ t (W 244 0 t) (W 243 0 t) t.toNat W3 245 0 i) t (W3 201 0 0) := by
      rcases (show W0 241 0 t = 0 ∨ W0 241 0 t = 1 ∨ W0 241 0 t = 2 by omega) with c | c | c
      · obtain ⟨q1, q2⟩ := c0 c
        rw [if_neg (by omega)] at h5t
        rw [q1, ← h5t]
        refine h4.del ht.1 (fun i a b => ?_) (fun i a b => ?_)
        · show m_opN μ t _ _ _ W3 244 0 i = _
          rw [((hv i a b).1 (hK3.trans c)).1, (g4 i).1, (g4 i).2, e3, h5t]
        · show m_opN μ t _ _ _ W3 245 0 i = _
          rw [((hv i a b).1 (hK3.trans c)).2, (g4 i).1, (g4 i).2, e3, h5t]
      · obtain ⟨q1, q2⟩ := c1 c
        rw [if_pos c] at h5t
        rw [q1]
        refine h4.ins (m := fun i => W3 246 0 (8 * i + t)) ht.1 (by omega) (by show W 244 0 t = W 245 0 t; omega) (fun i a b => ?_) (fun i a b => ?_)
        · show m_opN μ t _ _ _ W3 244 0 i = _
          rw [((hv i a b).2.1 (hK3.trans c)).1, (g4 i).1, (g4 i).2, e3]
        · show m_opN μ t _ _ _ W3 245 0 i = _
          rw [((hv i a b).2.1 (hK3.trans c)).2, (g4 i).1, (g4 i).2, e3]
      · obtain ⟨q1, q2⟩ := c2 c
        rw [q1]
        have h4m := h4.mono (m := t) (by omega)
        refine ⟨fun i a b => ?_, fun i j a b d => ?_⟩
        · show 0 ≤ m_opN μ t _ _ _ W3 244 0 i ∧ m_opN μ t _ _ _ W3 244 0 i ≤ m_opN μ t _ _ _ W3 245 0 i ∧ m_opN μ t _ _ _ W3 245 0 i ≤ _
          rw [((hv i a b).2.2 (hK3.trans c)).1, ((hv i a b).2.2 (hK3.trans c)).2, (g4 i).1, (g4 i).2]; exact h4m.1 i a b
        · show m_opN μ t _ _ _ W3 245 0 i ≤ m_opN μ t _ _ _ W3 244 0 j ∨ m_opN μ t _ _ _ W3 245 0 j ≤ m_opN μ t _ _ _ W3 244 0 i
          rw [((hv i a (by omega)).2.2 (hK3.trans c)).1, ((hv i a (by omega)).2.2 (hK3.trans c)).2, (g4 i).1, (g4 i).2, ((hv j (by omega) d).2.2 (hK3.trans c)).1, ((hv j (by omega) d).2.2 (hK3.trans c)).2, (g4 j).1, (g4 j).2]; exact h4m.2 i j a b d
    refine ⟨(g1.re (by omega) (by omega)).opN, g2.cong fun c a i x y => opN_at (by omega) _, (h3.t g3).opN, by rw [z201]; exact hTV, fun i a b => ?_, by rw [z120]; omega, by rw [z121, z201]; exact hpool⟩
    have h5i := h5 i a (by omega)
    rw [← h5i]
    rcases (show W0 241 0 t = 0 ∨ W0 241 0 t = 1 ∨ W0 241 0 t = 2 by omega) with c | c | c
    · rw [((hv i a b).1 (hK3.trans c)).1, ((hv i a b).1 (hK3.trans c)).2, (g4 i).1, (g4 i).2]; exact mvA_B
    · rw [((hv i a b).2.1 (hK3.trans c)).1, ((hv i a b).2.1 (hK3.trans c)).2, (g4 i).1, (g4 i).2]
      unfold opA opB
      split
      · split <;> omega
      · exact mvA_B
    · rw [((hv i a b).2.2 (hK3.trans c)).1, ((hv i a b).2.2 (hK3.trans c)).2, (g4 i).1, (g4 i).2]
  have hrm := rem_ok (t := t) h1 h2 hRP hL ⟨by rw [e2]; omega, by rw [e3]; omega, by rw [e2, e3]; omega⟩
  obtain ⟨r1, r2, r3, r4, r5⟩ := hrm
  have r201 : m_rem μ PL nd t W 201 0 0 = W 201 0 0 := r4 201 0 (by decide) (by decide) (by decide)
  have r120 : m_rem μ PL nd t W 120 μ.1 0 = W 120 μ.1 0 := r5 120 _ _ (by decide) (by decide) (by decide) (by decide)
  have r121 : m_rem μ PL nd t W 121 μ.1 0 = W 121 μ.1 0 := r5 121 _ _ (by decide) (by decide) (by decide) (by decide)
  have h1' := h1.re (S' := W 120 μ.1 0) (P' := P + 400) (Int.le_refl _) (by omega)
  have r1' := r1.re (S' := W 120 μ.1 0) (P' := P + 400) (by omega) (by omega)
  unfold m_opp
  by_cases c0 : W 241 0 t = 0
  · rw [if_pos c0]
    have cc : W0 241 0 t = 0 := by rw [← e1]; exact c0
    rw [if_neg (by omega)] at h5t
    have ek := e3 t
    refine Or.inr ⟨rfl, mk _ ((h1'.opD ⟨by omega, by omega⟩ (by omega)).mono (Int.le_refl _) (by omega)) (h2.lo1 (by unfold m_opD; exact (LO.r.del ⟨by omega, by omega⟩ f2.2).u (Or.inr (by decide)))) (OF.lo (by unfold m_opD; exact (LO.r.del ⟨by omega, by omega⟩ f2.2).u (Or.inr (by decide))) (by unfold m_opD; exact AP.r.del.u (by decide))) (fun i => ?_) ?_ (fun _ => ?_) (fun c => by omega) (fun c => by omega)⟩
    · unfold m_opD; rw [up_k _ (by decide), up_k _ (by decide), del_at (by decide), del_at (by decide)]; exact ⟨rfl, rfl⟩
    · unfold m_opD m_del m_step; simp (disch := decide) only [up_k, up_s, closes_at]
    · refine ⟨?_, ?_⟩
      · unfold m_opD m_del m_step; simp (disch := decide) only [up_k]
        rw [cls_201, if_pos rfl, ek]
      · unfold m_opD m_del m_step; simp (disch := decide) only [up_k, closes_at]
  · rw [if_neg c0]
    by_cases c2 : W 241 0 t = 2
    · rw [if_pos c2]
      have cc : W0 241 0 t = 2 := by rw [← e1]; exact c2
      rw [if_neg (by omega)] at h5t
      have hbf := r1.2.2.1 0 (by omega) (by omega)
      refine Or.inr ⟨rfl, mk _ ((r1'.rep hbf).mono (Int.le_refl _) (by omega)) (r2.lo1 (LO.r.rep (by omega))) (r3.t (OF.lo (LO.r.rep (by omega)) AP.r.rep)) (fun i => ?_) ?_ (fun c => by omega) (fun c => by omega) (fun _ => ?_)⟩
      · unfold m_rep m_step; simp (disch := decide) only [up_k]
        rw [r5 244 _ _ (by decide) (by decide) (by decide) (by decide), r5 245 _ _ (by decide) (by decide) (by decide) (by decide)]; exact ⟨rfl, rfl⟩
      · unfold m_rep m_step; simp (disch := decide) only [up_k, up_s]; rw [r120]
      · unfold m_rep m_step; simp (disch := decide) only [up_k]; exact ⟨r201, r121⟩
    · rw [if_neg c2]
      have cc : W0 241 0 t = 1 := by rw [e1 t] at c0 c2; omega
      rw [if_pos cc] at h5t
      have ek := e3 t
      by_cases c4 : W 201 0 0 + W 243 0 t > 400
      · rw [if_pos c4]; exact Or.inl ⟨rfl, rfl⟩
      · rw [if_neg c4]
        have hLO : LO (m_rem μ PL nd t W) (m_opI μ (W 244 0 t) (W 243 0 t) (m_rem μ PL nd t W)) := by
          unfold m_opI; exact (LO.r.ins ⟨by omega, by omega⟩ (by omega) (by rw [r5 210 _ _ (by decide) (by decide) (by decide) (by decide)]; exact f2.2)).u (Or.inr (by decide))
        refine Or.inr ⟨rfl, mk _ ((r1'.opI ⟨by omega, by omega⟩ ⟨by omega, by omega⟩).mono (Int.le_refl _) (by omega)) (r2.lo1 hLO) (r3.t (OF.lo hLO (by unfold m_opI; exact AP.r.ins.u (by decide)))) (fun i => ?_) ?_ (fun c => by omega) (fun _ => ?_) (fun c => by omega)⟩
        · unfold m_opI; rw [up_k _ (by decide), up_k _ (by decide), ins_at (by decide), ins_at (by decide), r5 244 _ _ (by decide) (by decide) (by decide) (by decide), r5 245 _ _ (by decide) (by decide) (by decide) (by decide)]; exact ⟨rfl, rfl⟩
        · unfold m_opI; rw [up_k _ (by decide), ins_120, r120]
        · unfold m_opI; rw [up_k _ (by decide), up_k _ (by decide), ins_201, ins_121 (by omega), r201, r121, ek]; exact ⟨rfl, rfl⟩
