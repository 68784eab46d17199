/-! the relation where traces and pointers down alone change; opposites move the traces -/
section F7S
variable {p : RP} {w w' w1 A W W1 : Mm} {μ : MU} {f T n m t q k i M : Int} {x κ : Int → Int} {L : List Int}
theorem RLm.f7 (h : RLm p μ f L w A) (e : FT7 w w') (h27 : N27 p μ A w') (h77 : 0 ≤ w' 77 (w 47 f 0) 0 ∧ w' 77 (w 47 f 0) 0 ≤ 8) : RLm p μ f L w' A := by
  have e0 : ∀ (K : Nat) (a j : Int), K ≠ 27 → K ≠ 36 → K ≠ 73 → K ≠ 74 → K ≠ 75 → K ≠ 76 → K ≠ 77 → w' K a j = w K a j := e
  obtain ⟨⟨c0, hS, hD, ⟨⟨t1, t2⟩, t3, t4⟩, hM, hTl, hTs⟩, hL, ⟨hV, hQ, hLc⟩, hSp⟩ := h
  refine ⟨⟨fun a ha => c0 a (by rw [← e 0 a 0 (by decide) (by decide) (by decide) (by decide) (by decide) (by decide) (by decide)]; exact ha), ?_, ?_, ⟨⟨?_, ?_⟩, t3, fun k k0 k1 k2 => ?_⟩, ?_, ?_, ?_⟩, ?_, ⟨?_, ?_, hLc⟩, fun k k0 k1 => ?_⟩
  · have h := hS
    unfold vSc at h ⊢
    simp (disch := decide) only [e0]; exact h
  · have h := hD
    unfold rDk sDk bDk sSt at h ⊢
    simp (disch := decide) only [e0]; exact h
  · have h := t1
    unfold sTr at h ⊢
    simp (disch := decide) only [e0]; exact h
  · have h := t2
    unfold vTr at h ⊢
    simp (disch := decide) only [e0]; exact h
  · obtain ⟨n1, n2, ⟨n3, n4⟩, ⟨d1, d2, d3, d4, d5⟩, n6⟩ := t4 k k0 k1 k2
    refine ⟨?_, ?_, ⟨?_, ?_⟩, ⟨?_, ?_, ?_, ?_, ?_⟩, n6⟩
    · simp (disch := decide) only [e0]; exact n1
    · unfold sSt vSt vTx vSr vCh at n2 ⊢
      simp (disch := decide) only [e0]; exact n2
    · simp (disch := decide) only [e0]; exact n3
    · rw [e 25 _ _ (by decide) (by decide) (by decide) (by decide) (by decide) (by decide) (by decide)]
      have g : ∀ {K : Nat} {a j : Int}, K = 0 ∨ K = 33 ∨ K = 34 ∨ K = 35 ∨ K = 68 ∨ K = 71 ∨ K = 72 → w' K a j = w K a j := fun z => e _ _ _ (by omega) (by omega) (by omega) (by omega) (by omega) (by omega) (by omega)
      exact n4.cg (g (by decide)) (g (by decide)) (g (by decide)) (g (by decide)) (fun x _ => ⟨g (by decide), g (by decide)⟩) (fun x _ => g (by decide))
    · simp (disch := decide) only [e0]; exact d1
    · simp (disch := decide) only [e0]; exact d2
    · simp (disch := decide) only [e0]; exact d3
    · simp (disch := decide) only [e0]; exact d4
    · exact h27 k ⟨⟨k0, k1⟩, k2⟩
  · have h := hM
    unfold vMs vMc MT at h ⊢
    simp (disch := decide) only [e0]; exact h
  · have h := hTl
    unfold sTl at h ⊢
    simp (disch := decide) only [e0]; exact h
  · obtain ⟨h1, h2, h3, h4⟩ := hTs
    refine ⟨?_, ?_, ?_, ?_⟩
    · simp (disch := decide) only [e0]; exact h1
    · simp (disch := decide) only [e0]; exact h2
    · simp (disch := decide) only [e0]; exact h3
    · rw [e 47 _ _ (by decide) (by decide) (by decide) (by decide) (by decide) (by decide) (by decide)]; exact h77
  · have h := hL
    unfold vLs LT at h ⊢
    simp (disch := decide) only [e0]; exact h
  · have h := hV
    unfold vDk vSt vTx vSr vCh at h ⊢
    simp (disch := decide) only [e0]; exact h
  · have g : ∀ {K : Nat} {a j : Int}, K = 0 ∨ K = 12 ∨ K = 41 ∨ K = 33 ∨ K = 34 ∨ K = 35 ∨ K = 68 ∨ K = 71 ∨ K = 72 → w' K a j = w K a j := fun z => e _ _ _ (by omega) (by omega) (by omega) (by omega) (by omega) (by omega) (by omega)
    rw [g (K := 41) (by decide), g (K := 12) (by decide)]
    exact hQ.cg (g (by decide)) (g (by decide)) (g (by decide)) (g (by decide)) (fun x _ => ⟨g (by decide), g (by decide)⟩) (fun x _ => g (by decide))
  · have h := hSp k k0 k1
    unfold vSp vCh at h ⊢
    simp (disch := decide) only [e0]; exact h
theorem CHB.f7 (h : CHB p μ f L w A) (e : FT7 w w') (h27 : N27 p μ A w') (h77 : 0 ≤ w' 77 (w 47 f 0) 0 ∧ w' 77 (w 47 f 0) 0 ≤ 8) : CHB p μ f L w' A := ⟨h.1.f7 e h27 h77, h.2⟩
theorem SVd.f7 {q a : Int} {L1 : List Int} (h : SVd p w A q a L1) (e : FT7 w w') : SVd p w' A q a L1 := by
  have e0 : ∀ (K : Nat) (a j : Int), K ≠ 27 → K ≠ 36 → K ≠ 73 → K ≠ 74 → K ≠ 75 → K ≠ 76 → K ≠ 77 → w' K a j = w K a j := e
  obtain ⟨h1, h2⟩ := h
  refine ⟨?_, ?_⟩
  · have h := h1
    unfold vDk vSt vTx vSr vCh at h ⊢
    simp (disch := decide) only [e0]; exact h
  · have g : ∀ {K : Nat} {a j : Int}, K = 0 ∨ K = 12 ∨ K = 34 ∨ K = 35 ∨ K = 68 ∨ K = 71 ∨ K = 72 → w' K a j = w K a j := fun z => e _ _ _ (by omega) (by omega) (by omega) (by omega) (by omega) (by omega) (by omega)
    obtain ⟨k1, k2, k3, k4, k5⟩ := h2
    rw [g (K := 12) (by decide)]
    refine ⟨by rw [g (by decide)]; exact k1, by rw [g (by decide)]; exact k2, by rw [g (by decide)]; exact k3, ?_, fun x hx => by rw [g (by decide)]; exact k5 x hx⟩
    rw [g (by decide), tcA_cg (w := w) (fun x _ => g (by decide))]
    exact k4
theorem CHK.f7 (h : CHK p μ f w A) (e : FT7 w w') (h27 : N27 p μ A w') (h77 : 0 ≤ w' 77 (w 47 f 0) 0 ∧ w' 77 (w 47 f 0) 0 ≤ 8) : CHK p μ f w' A := by
  obtain ⟨h1, ⟨h2, h3⟩, h4⟩ := h
  refine ⟨h1.f7 e h27 h77, ⟨?_, h3⟩, h4⟩
  rw [e 42 _ _ (by decide) (by decide) (by decide) (by decide) (by decide) (by decide) (by decide)]
  exact h2.f7 e
theorem FTc.f7 (h : FTc w w') : FT7 w w' := fun K a j _ z2 z3 z4 z5 z6 z7 => h K a j z2 z3 z4 z5 z6 z7
/-- traces of steps that are still to be undone -/
def TRo (p : RP) (μ : MU) (x κ : Int → Int) (n m : Int) (w W : Mm) : Prop := ∀ i, 0 ≤ i → i < m → (w 73 (x i) 0 = W 244 0 i ∧ w 74 (x i) 0 = W 245 0 i ∧ W 244 0 i ≤ W 245 0 i) ∧ (0 ≤ w 76 (x i) 0 ∧ w 76 (x i) 0 < 512) ∧ (∀ j, i < j → j < n → W 241 0 j = 1 → 1 ≤ W 243 0 j → (w 76 (x i) 0 / pw j % 2 = 1 ↔ W 246 0 (8 * i + j) = 1)) ∧ (w 36 (x i) 0 = ps_ p (κ i) ∧ W 241 0 i = W 212 0 (κ i) % 8 ∧ W 242 0 i = W 212 0 (κ i) / 8 % 512 ∧ W 243 0 i = wsz (W 212 0 (κ i)) ∧ (0 ≤ κ i ∧ κ i < W 122 μ.1 0))
theorem p1_v {X : Int} (hab : w 73 X 0 ≤ w 74 X 0) : ts_p1 X t 1 q k w 73 X 0 = opA q k (w 76 X 0 / pw t % 2) (w 73 X 0) (w 74 X 0) ∧ ts_p1 X t 1 q k w 74 X 0 = opB q k (w 76 X 0 / pw t % 2) (w 73 X 0) (w 74 X 0) ∧ ts_p1 X t 1 q k w 76 X 0 = w 76 X 0 ∧ ts_p1 X t 1 q k w 36 X 0 = w 36 X 0 := by
  refine ⟨?_, ?_, ts_p1_k (by decide) (by decide) (by decide), ts_p1_k (by decide) (by decide) (by decide)⟩
  all_goals
    unfold ts_p1
    first | unfold opA | unfold opB
    by_cases c : w 73 X 0 = q ∧ w 74 X 0 = q
    · rw [if_pos ⟨rfl, c⟩, if_pos c]
      by_cases c2 : w 76 X 0 / pw t % 2 = 1
      · rw [if_pos c2, if_pos c2]; unfold tr_shift; simp (disch := decide) only [up_k, up_s]
      · rw [if_neg c2, if_neg c2]
    · rw [if_neg (fun z => c z.2), if_neg c]
      have v := meet_v (w := w) (X := X) (q := q) (k := k) (d := 0) (by decide) hab
      first | exact v.1 | exact v.2.1
/-- the opposite of step t, first of an insertion -/
theorem TRo.op (h : TRo p μ x κ n (t + 1) w W) (hx : xinj x) (ht : 0 ≤ t ∧ t < n ∧ n ≤ 8) (hkd : W 241 0 t = 0 ∨ W 241 0 t = 1 ∨ W 241 0 t = 2) (hk : k = W 243 0 t ∧ 0 ≤ k) (e1 : ∀ (c : Nat) (a i : Int), c = 241 ∨ c = 242 ∨ c = 243 ∨ c = 244 ∨ c = 245 ∨ c = 246 ∨ c = 122 → W1 c a i = W c a i) (e2 : ∀ i, 0 ≤ i → i < W 122 μ.1 0 → W1 212 0 i = W 212 0 i) {g : Int} (hg : g = if W 241 0 t = 0 then 2 else 1) :
    TRo p μ x κ n t (if W 241 0 t = 2 then w else ts_opp x t g q k w t.toNat) (m_opN μ t q k t.toNat W1) := fun i i0 i1 => by
  obtain ⟨⟨a1, a2, a3⟩, a4, a5, ⟨a6, a7, a8, a9, a10⟩⟩ := h i i0 (by omega)
  have b241 : W1 241 0 t = W 241 0 t := e1 _ _ _ (by decide)
  have ov := opN_v (μ := μ) (t := t) (q := q) (k := k) (w := W1) t.toNat i i0 (by omega)
  have o : ∀ {c : Nat} {a j : Int}, c ≠ 138 ∧ c ≠ 244 ∧ c ≠ 245 ∧ c ≠ 246 → m_opN μ t q k t.toNat W1 c a j = W1 c a j := fun {c a j} z => by
    have key : ∀ m : Nat, m_opN μ t q k m W1 c a j = W1 c a j := fun m => by
      induction m with
      | zero => rfl
      | succ m ih =>
        simp only [m_opN]
        unfold m_op1
        split
        · unfold m_opx; rw [up_k _ (by omega), up_k _ (by omega)]; exact ih
        · split
          · exact ih
          · rw [mov_at z]; exact ih
    exact key _
  have o6 : ∀ {a j : Int}, m_opN μ t q k t.toNat W1 246 a j = W1 246 a j := fun {a j} => by
    have key : ∀ m : Nat, m_opN μ t q k m W1 246 a j = W1 246 a j := fun m => by
      induction m with
      | zero => rfl
      | succ m ih =>
        simp only [m_opN]
        unfold m_op1
        split
        · unfold m_opx; rw [up_k _ (by decide), up_k _ (by decide)]; exact ih
        · split
          · exact ih
          · rw [mov_246 (by split <;> omega)]; exact ih
    exact key _
  rw [b241, e1 244 _ _ (by decide), e1 245 _ _ (by decide), e1 246 _ _ (by decide)] at ov
  have base : ∀ Y : Mm, (Y 73 (x i) 0 = m_opN μ t q k t.toNat W1 244 0 i ∧ Y 74 (x i) 0 = m_opN μ t q k t.toNat W1 245 0 i ∧ m_opN μ t q k t.toNat W1 244 0 i ≤ m_opN μ t q k t.toNat W1 245 0 i) → Y 76 (x i) 0 = w 76 (x i) 0 → Y 36 (x i) 0 = w 36 (x i) 0 → (Y 73 (x i) 0 = m_opN μ t q k t.toNat W1 244 0 i ∧ Y 74 (x i) 0 = m_opN μ t q k t.toNat W1 245 0 i ∧ m_opN μ t q k t.toNat W1 244 0 i ≤ m_opN μ t q k t.toNat W1 245 0 i) ∧ (0 ≤ Y 76 (x i) 0 ∧ Y 76 (x i) 0 < 512) ∧ (∀ j, i < j → j < n → m_opN μ t q k t.toNat W1 241 0 j = 1 → 1 ≤ m_opN μ t q k t.toNat W1 243 0 j → (Y 76 (x i) 0 / pw j % 2 = 1 ↔ m_opN μ t q k t.toNat W1 246 0 (8 * i + j) = 1)) ∧ (Y 36 (x i) 0 = ps_ p (κ i) ∧ m_opN μ t q k t.toNat W1 241 0 i = m_opN μ t q k t.toNat W1 212 0 (κ i) % 8 ∧ m_opN μ t q k t.toNat W1 242 0 i = m_opN μ t q k t.toNat W1 212 0 (κ i) / 8 % 512 ∧ m_opN μ t q k t.toNat W1 243 0 i = wsz (m_opN μ t q k t.toNat W1 212 0 (κ i)) ∧ (0 ≤ κ i ∧ κ i < m_opN μ t q k t.toNat W1 122 μ.1 0)) := fun Y y1 y2 y3 => by
    refine ⟨y1, by rw [y2]; exact a4, fun j j0 j1 j2 j3 => ?_, ?_⟩
    · rw [o (by decide), e1 _ _ _ (by decide)] at j2 j3
      rw [y2, o6, e1 _ _ _ (by decide)]
      exact a5 j j0 j1 j2 j3
    · rw [y3, o (by decide), o (by decide), o (by decide), o (by decide), o (by decide), e1 241 _ _ (by decide), e1 242 _ _ (by decide), e1 243 _ _ (by decide), e1 122 _ _ (by decide), e2 _ a10.1 a10.2]
      exact ⟨a6, a7, a8, a9, a10⟩
  have ev : ∀ K : Nat, ts_opp x t g q k w t.toNat K (x i) 0 = ts_p1 (x i) t g q k w K (x i) 0 := fun K => by
    rw [opp_itr]
    have := itr_v (g := fun i W => ts_p1 (x i) t g q k W) (w := w) (lcl_p1 (x := x)) (i := i.toNat) (K := K) (c := t.toNat) (by omega) (hx.nat (by omega))
    rw [show ((i.toNat : Nat) : Int) = i by omega] at this
    exact this
  rcases hkd with hkd | hkd | hkd
  · rw [if_pos hkd] at hg
    rw [if_neg (by omega)]
    obtain ⟨o1, o2⟩ := ov.1 hkd
    have hp1 : ∀ K : Nat, ts_opp x t g q k w t.toNat K (x i) 0 = tr_meet (x i) (1 + 1) q k w K (x i) 0 := fun K => by
      rw [ev, hg]; unfold ts_p1; rw [if_neg (fun z => absurd z.1 (by decide))]; rfl
    obtain ⟨v1, v2, v3, v4, v5⟩ := meet_v (w := w) (X := x i) (q := q) (k := k) (d := 1) (by decide) (by omega)
    rw [a1, a2] at v1 v2
    have hab := mvA_B (d := 1) (q := q) (k := k) (a := W 244 0 i) (b := W 245 0 i)
    refine base _ ⟨by rw [hp1, v1, o1], by rw [hp1, v2, o2], by rw [o1, o2]; omega⟩ (by rw [hp1, v4]) (by rw [hp1, v5])
  · rw [if_neg (by omega)] at hg
    rw [if_neg (by omega)]
    obtain ⟨o1, o2⟩ := ov.2.1 hkd
    obtain ⟨v1, v2, v4, v5⟩ := p1_v (w := w) (X := x i) (t := t) (q := q) (k := k) (by omega)
    rw [a1, a2] at v1 v2
    have hbit : opA q k (w 76 (x i) 0 / pw t % 2) (W 244 0 i) (W 245 0 i) = opA q k (W 246 0 (8 * i + t)) (W 244 0 i) (W 245 0 i) ∧ opB q k (w 76 (x i) 0 / pw t % 2) (W 244 0 i) (W 245 0 i) = opB q k (W 246 0 (8 * i + t)) (W 244 0 i) (W 245 0 i) := by
      unfold opA opB
      by_cases c : W 244 0 i = q ∧ W 245 0 i = q
      · rw [if_pos c, if_pos c, if_pos c, if_pos c]
        by_cases ck : 1 ≤ k
        · have hb := a5 t (by omega) ht.2.1 hkd (by omega)
          by_cases c2 : W 246 0 (8 * i + t) = 1
          · rw [if_pos c2, if_pos c2, if_pos (hb.mpr c2), if_pos (hb.mpr c2)]; exact ⟨rfl, rfl⟩
          · rw [if_neg c2, if_neg c2, if_neg (fun z => c2 (hb.mp z)), if_neg (fun z => c2 (hb.mp z))]; exact ⟨rfl, rfl⟩
        · have k0 : k = 0 := by omega
          constructor <;> (repeat' split) <;> omega
      · rw [if_neg c, if_neg c, if_neg c, if_neg c]; exact ⟨rfl, rfl⟩
    have hle : opA q k (W 246 0 (8 * i + t)) (W 244 0 i) (W 245 0 i) ≤ opB q k (W 246 0 (8 * i + t)) (W 244 0 i) (W 245 0 i) := by
      unfold opA opB
      have hab := mvA_B (d := 0) (q := q) (k := k) (a := W 244 0 i) (b := W 245 0 i)
      by_cases c : W 244 0 i = q ∧ W 245 0 i = q
      · rw [if_pos c, if_pos c]; split <;> omega
      · rw [if_neg c, if_neg c]; omega
    rw [hg] at ev ⊢
    exact base _ ⟨by rw [ev, v1, o1, hbit.1], by rw [ev, v2, o2, hbit.2], by rw [o1, o2]; exact hle⟩ (by rw [ev, v4]) (by rw [ev, v5])
  · rw [if_pos hkd]
    obtain ⟨o1, o2⟩ := ov.2.2 hkd
    exact base w ⟨by rw [o1]; exact a1, by rw [o2]; exact a2, by rw [o1, o2]; exact a3⟩ rfl rfl
end F7S
