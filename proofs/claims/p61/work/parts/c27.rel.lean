/-! traces of the class and of the reference: the relation -/
def TRr (μ : MU) (x σ κ : Int → Int) (A : Mm) (n : Int) (w W : Mm) : Prop :=
  (∀ i, 0 ≤ i → i < n → (w 73 (x i) 0 = W 244 0 i ∧ w 74 (x i) 0 = W 245 0 i ∧ W 244 0 i ≤ W 245 0 i) ∧ (0 ≤ w 76 (x i) 0 ∧ w 76 (x i) 0 < pw n) ∧ (∀ j, i < j → j < n → W 241 0 j = 1 → 1 ≤ W 243 0 j → (w 76 (x i) 0 / pw j % 2 = 1 ↔ W 246 0 (8 * i + j) = 1)) ∧ (w 36 (x i) 0 = σ (κ i) ∧ W 241 0 i = A 212 0 (κ i) % 8 ∧ W 242 0 i = A 212 0 (κ i) / 8 % 512 ∧ W 243 0 i = wsz (A 212 0 (κ i)))) ∧
  ((∃ i, (0 ≤ i ∧ i < n) ∧ w 75 (x i) 0 ≠ 0) ↔ W 138 μ.1 0 ≠ 0) ∧ (W 137 μ.1 0 = n ∧ 0 ≤ n ∧ n ≤ 8)
def xinj (x : Int → Int) : Prop := ∀ i j, 0 ≤ i → i < 8 → 0 ≤ j → j < 8 → i ≠ j → x i ≠ x j
section TRS
variable {x σ κ : Int → Int} {w w' W A : Mm} {k n q d i j z y T : Int} {μ : MU}
theorem xinj.nat (h : xinj x) {c : Nat} (hc : c ≤ 8) : ∀ m m' : Nat, m < c → m' < c → m ≠ m' → x m ≠ x m' := fun m m' h1 h2 h3 => h m m' (by omega) (by omega) (by omega) (by omega) (by omega)
/-- all traces meet a step: each by itself -/
theorem met_all (h : TRr μ x σ κ A n w W) (hx : xinj x) (hd : 0 ≤ d ∧ d ≤ 2) (hi : 0 ≤ i ∧ i < n) : ts_met x (d + 1) q k w n.toNat 73 (x i) 0 = mvA d q k (W 244 0 i) (W 245 0 i) ∧ ts_met x (d + 1) q k w n.toNat 74 (x i) 0 = mvB d q k (W 244 0 i) (W 245 0 i) ∧ (ts_met x (d + 1) q k w n.toNat 75 (x i) 0 ≠ 0 ↔ w 75 (x i) 0 ≠ 0 ∨ cov d q k (W 244 0 i) (W 245 0 i)) ∧ ts_met x (d + 1) q k w n.toNat 76 (x i) 0 = w 76 (x i) 0 ∧ ts_met x (d + 1) q k w n.toNat 36 (x i) 0 = w 36 (x i) 0 := by
  obtain ⟨h1, -, -, hn0, hn8⟩ := h
  obtain ⟨⟨a1, a2, a3⟩, -⟩ := h1 i hi.1 hi.2
  have e : ∀ K : Nat, ts_met x (d + 1) q k w n.toNat K (x i) 0 = tr_meet (x i) (d + 1) q k w K (x i) 0 := fun K => by
    rw [met_itr]
    have := itr_v (g := fun i W => tr_meet (x i) (d + 1) q k W) (w := w) (lcl_meet (x := x)) (i := i.toNat) (K := K) (c := n.toNat) (by omega) (hx.nat (by omega))
    rw [show ((i.toNat : Nat) : Int) = i by omega] at this
    exact this
  have v := meet_v (w := w) (X := x i) (q := q) (k := k) hd (by rw [a1, a2]; exact a3)
  rw [a1, a2] at v
  rw [e, e, e, e, e]
  exact v
theorem own_all (h : TRr μ x σ κ A n w W) (hx : xinj x) (hd : 0 ≤ d ∧ d ≤ 2) (hi : 0 ≤ i ∧ i < n) : ts_own x n (d + 1) q k w n.toNat 73 (x i) 0 = mvA d q k (W 244 0 i) (W 245 0 i) ∧ ts_own x n (d + 1) q k w n.toNat 74 (x i) 0 = mvB d q k (W 244 0 i) (W 245 0 i) ∧ (ts_own x n (d + 1) q k w n.toNat 75 (x i) 0 ≠ 0 ↔ w 75 (x i) 0 ≠ 0 ∨ cov d q k (W 244 0 i) (W 245 0 i)) ∧ ts_own x n (d + 1) q k w n.toNat 76 (x i) 0 = (if mvA d q k (W 244 0 i) (W 245 0 i) < W 244 0 i then sbt (w 76 (x i) 0) n else w 76 (x i) 0) ∧ ts_own x n (d + 1) q k w n.toNat 36 (x i) 0 = w 36 (x i) 0 := by
  obtain ⟨h1, -, -, hn0, hn8⟩ := h
  obtain ⟨⟨a1, a2, a3⟩, -⟩ := h1 i hi.1 hi.2
  have e : ∀ K : Nat, ts_own x n (d + 1) q k w n.toNat K (x i) 0 = ts_o1 (x i) n (d + 1) q k w K (x i) 0 := fun K => by
    rw [own_itr]
    have := itr_v (g := fun i W => ts_o1 (x i) n (d + 1) q k W) (w := w) (lcl_own (x := x)) (i := i.toNat) (K := K) (c := n.toNat) (by omega) (hx.nat (by omega))
    rw [show ((i.toNat : Nat) : Int) = i by omega] at this
    exact this
  obtain ⟨v1, v2, v3, v4, v5⟩ := meet_v (w := w) (X := x i) (q := q) (k := k) hd (by rw [a1, a2]; exact a3)
  rw [a1, a2] at v1 v2 v3
  rw [e, e, e, e, e]
  unfold ts_o1
  rw [v1, a1, v4]
  split
  · refine ⟨by rw [up_k _ (by decide)]; exact v1, by rw [up_k _ (by decide)]; exact v2, by rw [up_k _ (by decide)]; exact v3, up_s _ _ _ _ _, by rw [up_k _ (by decide)]; exact v5⟩
  · exact ⟨v1, v2, v3, v4, v5⟩
theorem cov_all {P : Int → Prop} {f : Int → Int} (h : (∃ i, (0 ≤ i ∧ i < n) ∧ w 75 (x i) 0 ≠ 0) ↔ W 138 μ.1 0 ≠ 0) (h1 : ∀ i, 0 ≤ i → i < n → (f i ≠ 0 ↔ w 75 (x i) 0 ≠ 0 ∨ P i)) {v : Int} (hv : v = 0 ↔ W 138 μ.1 0 = 0 ∧ ∀ i, 0 ≤ i → i < n → ¬ P i) : (∃ i, (0 ≤ i ∧ i < n) ∧ f i ≠ 0) ↔ v ≠ 0 := by
  constructor
  · rintro ⟨i, hi, z⟩ hv0
    obtain ⟨c1, c2⟩ := hv.mp hv0
    rcases (h1 i hi.1 hi.2).mp z with y | y
    · exact absurd c1 (h.mp ⟨i, hi, y⟩)
    · exact c2 i hi.1 hi.2 y
  · intro hv0
    refine Classical.byContradiction fun hc => hv0 (hv.mpr ⟨?_, fun i i0 i1 hp => hc ⟨i, ⟨i0, i1⟩, (h1 i i0 i1).mpr (Or.inr hp)⟩⟩)
    refine Classical.byContradiction fun hc2 => ?_
    obtain ⟨i, hi, z⟩ := h.mpr hc2
    exact hc ⟨i, hi, (h1 i hi.1 hi.2).mpr (Or.inl z)⟩
/-- a step of a later change -/
theorem TRr.met (h : TRr μ x σ κ A n w W) (hx : xinj x) (hd : 0 ≤ d ∧ d ≤ 2) : TRr μ x σ κ A n (ts_met x (d + 1) q k w n.toNat) (m_mvN μ d q k (-1) (W 137 μ.1 0).toNat W) := by
  obtain ⟨h1, h2, h3, hn0, hn8⟩ := id h
  have hM := fun (i : Int) hi => met_all (q := q) (k := k) (i := i) h hx hd hi
  have eW := fun (i : Int) (i0 : 0 ≤ i) (i1 : i < n) => mvN_v (μ := μ) (d := d) (q := q) (k := k) (y := -1) (w := W) (W 137 μ.1 0).toNat i i0 (by omega)
  have eo : ∀ {c : Nat} {a i : Int}, c ≠ 138 ∧ c ≠ 244 ∧ c ≠ 245 ∧ c ≠ 246 → m_mvN μ d q k (-1) (W 137 μ.1 0).toNat W c a i = W c a i := fun z => mvN_at z _
  refine ⟨fun i i0 i1 => ?_, ?_, ?_, hn0, hn8⟩
  · obtain ⟨b1, b2, b3, b4, b5⟩ := hM i ⟨i0, i1⟩
    obtain ⟨⟨a1, a2, a3⟩, a4, a5, a6⟩ := h1 i i0 i1
    obtain ⟨c1, c2⟩ := eW i i0 i1
    have hab := mvA_B (d := d) (q := q) (k := k) (a := W 244 0 i) (b := W 245 0 i)
    rw [b1, b2, b4, b5, c1, c2, eo (by decide), eo (by decide), eo (by decide)]
    refine ⟨⟨rfl, rfl, by omega⟩, a4, fun j j0 j1 j2 j3 => ?_, a6⟩
    rw [eo (by decide)] at j2 j3
    rw [mvN_246v (by decide) (by omega) (by omega) hd _ (by omega), if_neg (fun z => absurd z.1.2 (by decide))]
    exact a5 j j0 j1 j2 j3
  · refine cov_all (P := fun i => cov d q k (W 244 0 i) (W 245 0 i)) h2 (fun i i0 i1 => (hM i ⟨i0, i1⟩).2.2.1) ?_
    rw [mvN_138]
    constructor
    · rintro ⟨z1, z2⟩; exact ⟨z1, fun i i0 i1 => z2 i i0 (by omega)⟩
    · rintro ⟨z1, z2⟩; exact ⟨z1, fun i i0 i1 => z2 i i0 (by omega)⟩
  · rw [eo (by decide)]; exact h3
/-- a step of the change itself -/
theorem TRr.own (h : TRr μ x σ κ A n w W) (hx : xinj x) (hn : n < 8) (hz : z = A 212 0 j) (hz2 : z % 8 ≤ 2) (hz0 : 0 ≤ z) (hy : y = σ j) (h68 : w 68 y 0 = z % 8 + 1) (h69 : w 69 y 0 = z / 8 % 512) (h70 : w 70 y 0 = wsz z) :
    TRr μ x σ (cset κ n j) A (n + 1) (up (tr_begin (x n) y (ts_own x n (z % 8 + 1) (z / 8 % 512) (wsz z) w n.toNat)) 77 T 0 (n + 1)) (m_trB μ z (W 137 μ.1 0) (m_trA μ z W)) := by
  obtain ⟨h1, h2, h3, hn0, hn8⟩ := id h
  have hd : 0 ≤ z % 8 ∧ z % 8 ≤ 2 := ⟨by omega, hz2⟩
  have hk0 : 0 ≤ wsz z := by unfold wsz; split <;> omega
  have hq0 : 0 ≤ z / 8 % 512 := by omega
  obtain ⟨d, ed⟩ : ∃ d, d = z % 8 := ⟨_, rfl⟩
  obtain ⟨q, eq⟩ : ∃ q, q = z / 8 % 512 := ⟨_, rfl⟩
  obtain ⟨k, ek⟩ : ∃ k, k = wsz z := ⟨_, rfl⟩
  rw [← ed] at h68 hd
  rw [← eq] at h69 hq0
  rw [← ek] at h70 hk0
  have hM := fun (i : Int) hi => own_all (q := q) (k := k) (i := i) h hx hd hi
  unfold m_trB m_trA
  rw [← ed, ← eq, ← ek, h3]
  obtain ⟨W1, hW1⟩ : ∃ W1, W1 = m_mvN μ d q k n n.toNat W := ⟨_, rfl⟩
  rw [← hW1]
  have eW : ∀ i, 0 ≤ i → i < n → W1 244 0 i = mvA d q k (W 244 0 i) (W 245 0 i) ∧ W1 245 0 i = mvB d q k (W 244 0 i) (W 245 0 i) := fun i i0 i1 => by rw [hW1]; exact mvN_v n.toNat i i0 (by omega)
  have eo : ∀ {c : Nat} {a i : Int}, c ≠ 138 ∧ c ≠ 244 ∧ c ≠ 245 ∧ c ≠ 246 → W1 c a i = W c a i := fun z => by rw [hW1]; exact mvN_at z _
  have e6 : ∀ s l, 0 ≤ s → s < n → 0 ≤ l → l < 8 → W1 246 0 (8 * s + l) = if d = 1 ∧ l = n then (if q + k ≤ W 244 0 s then 1 else 0) else W 246 0 (8 * s + l) := fun s l s0 s1 l0 l1 => by
    rw [hW1, mvN_246v (by omega) (by omega) ⟨l0, l1⟩ hd _ (by omega)]
    by_cases c : d = 1 ∧ l = n
    · rw [if_pos c, if_pos (show (d = 1 ∧ 0 ≤ n) ∧ s < ((n.toNat : Nat) : Int) ∧ l = n from ⟨⟨c.1, hn0⟩, by omega, c.2⟩)]
    · rw [if_neg c, if_neg (fun z => c ⟨z.1.1, z.2.2⟩)]
  obtain ⟨w1, hw1⟩ : ∃ w1, w1 = ts_own x n (d + 1) q k w n.toNat := ⟨_, rfl⟩
  rw [← hw1]
  rw [← hw1] at hM
  have e1 : ∀ K, K = 68 ∨ K = 69 ∨ K = 70 → w1 K y 0 = w K y 0 := fun K hK => by rw [hw1]; exact ts_own_k (by omega) (by omega) (by omega) (by omega)
  have bo : ∀ {K : Nat} {i : Int}, 0 ≤ i → i < n → K ≠ 77 → up (tr_begin (x n) y w1) 77 T 0 (n + 1) K (x i) 0 = w1 K (x i) 0 := fun {K i} i0 i1 hK => by
    have hxi := hx i n i0 (by omega) hn0 (by omega) (by omega)
    rw [up_k _ hK]; unfold tr_begin
    rw [up_a _ _ _ hxi, up_a _ _ _ hxi, up_a _ _ _ hxi, up_a _ _ _ hxi, up_a _ _ _ hxi]
  have sb : ∀ K, K = 68 ∨ K = 69 ∨ K = 70 → w1 K y 0 = w K y 0 := e1
  refine ⟨fun i i0 i1 => ?_, ?_, ?_, by omega, by omega⟩
  · by_cases c : i = n
    · subst c
      unfold tr_begin
      simp (disch := decide) only [up_k, up_s]
      rw [e1 68 (by decide), e1 69 (by decide), e1 70 (by decide), h68, h69, h70, show cset κ i j i = j from cset_s, ← hz, ← hy, ← ed, ← eq, ← ek]
      have hp := pw_le ⟨(i + 1).toNat, by omega⟩
      dsimp only at hp
      rw [show (((i + 1).toNat : Nat) : Int) = i + 1 by omega] at hp
      refine ⟨⟨(by first | trivial | rfl), ?_, ?_⟩, ⟨by decide, hp.1⟩, fun l l0 l1 => by omega, (by first | trivial | rfl), (by first | trivial | rfl), (by first | trivial | rfl), (by first | trivial | rfl)⟩
      · by_cases y1 : d = 1
        · rw [if_pos (by omega), if_pos y1]
        · rw [if_neg (by omega), if_neg y1]
      · by_cases y1 : d = 1
        · rw [if_pos y1]; exact Int.le_refl _
        · rw [if_neg y1]; omega
    · have i1' : i < n := by omega
      obtain ⟨b1, b2, b3, b4, b5⟩ := hM i ⟨i0, i1'⟩
      obtain ⟨⟨a1, a2, a3⟩, a4, a5, a6⟩ := h1 i i0 i1'
      obtain ⟨c1, c2⟩ := eW i i0 i1'
      have hab := mvA_B (d := d) (q := q) (k := k) (a := W 244 0 i) (b := W 245 0 i)
      have sv := sbt_v (c := n) (v := w 76 (x i) 0) ⟨hn0, hn⟩ a4
      rw [bo i0 i1' (by decide), bo i0 i1' (by decide), bo i0 i1' (by decide), bo i0 i1' (by decide), b1, b2, b4, b5, show cset κ n j i = κ i from cset_o c]
      simp (disch := first | decide | exact c) only [up_k, up_i]
      rw [c1, c2, eo (by decide), eo (by decide), eo (by decide)]
      refine ⟨⟨(by first | trivial | rfl), (by first | trivial | rfl), by omega⟩, ?_, fun l l0 l1 l2 l3 => ?_, a6⟩
      · split
        · exact ⟨sv.1.2.2, sv.1.1⟩
        · exact ⟨a4.1, sv.2.2.2⟩
      · rw [e6 i l i0 i1' (by omega) (by omega)]
        by_cases y1 : l = n
        · subst y1
          rw [up_s] at l2 l3
          rw [l2, mvA_1]
          by_cases y2 : q + k ≤ W 244 0 i
          · rw [if_pos y2, if_pos (by omega), if_pos ⟨rfl, rfl⟩, if_pos y2]
            exact ⟨fun _ => rfl, fun _ => sv.1.2.1⟩
          · rw [if_neg y2, if_neg (by omega), if_pos ⟨rfl, rfl⟩, if_neg y2, sv.2.2.1]
        · rw [up_i _ _ _ _ _ _ y1, eo (by decide)] at l2
          rw [up_i _ _ _ _ _ _ y1, up_k _ (by decide), up_k _ (by decide), eo (by decide)] at l3
          rw [if_neg (show ¬ (d = 1 ∧ l = n) from fun z => y1 z.2)]
          have := a5 l l0 (by omega) l2 l3
          split
          · rw [sv.2.1 l (by omega) (by omega)]; exact this
          · exact this
  · have q1 := cov_all (f := fun i => w1 75 (x i) 0) (P := fun i => cov d q k (W 244 0 i) (W 245 0 i)) h2 (fun i i0 i1 => (hM i ⟨i0, i1⟩).2.2.1) (v := W1 138 μ.1 0) (by
      rw [hW1, mvN_138]
      constructor
      · rintro ⟨z1, z2⟩; exact ⟨z1, fun i i0 i1 => z2 i i0 (by omega)⟩
      · rintro ⟨z1, z2⟩; exact ⟨z1, fun i i0 i1 => z2 i i0 (by omega)⟩)
    simp (disch := decide) only [up_k]
    rw [← q1]
    constructor
    · rintro ⟨i, hi, z⟩
      by_cases c : i = n
      · subst c
        unfold tr_begin at z
        simp (disch := decide) only [up_k, up_s] at z
        exact absurd rfl z
      · rw [← up_k (w := tr_begin (x n) y w1) (show (75 : Nat) ≠ 77 by decide) T 0 (n + 1) (x i) 0, bo hi.1 (by omega) (by decide)] at z
        exact ⟨i, ⟨hi.1, by omega⟩, z⟩
    · rintro ⟨i, hi, z⟩
      refine ⟨i, ⟨hi.1, by omega⟩, ?_⟩
      rw [← up_k (w := tr_begin (x n) y w1) (show (75 : Nat) ≠ 77 by decide) T 0 (n + 1) (x i) 0, bo hi.1 hi.2 (by decide)]; exact z
  · rw [up_s]
end TRS
