/-! what is appended leaves the nodes' steps as they were -/
theorem play1_nn {x t : Int} {b : Mm} (hx : 0 ≤ x) : 0 ≤ (m_play x t b).1 := by
  have hv : 0 ≤ x / 4096 := by omega
  unfold m_play m_ply
  split
  · exact hv
  · split
    · exact Int.le_refl _
    · split
      · exact Int.le_refl _
      · split
        · exact Int.le_refl _
        · split
          · exact Int.le_refl _
          · split
            · split <;> exact hv
            · show 0 ≤ (m_sto _ t b _).1 - t
              have := sto_ge (v := x / 4096) (t := t) (w := b) (pby b t).toNat
              omega
theorem plist_app2 {P lim : Int} {b b' : Mm} (hp : PAg P b b') (h2 : ∀ i, 0 ≤ i → i < lim → b' 212 0 i = b 212 0 i) : ∀ (n : Nat) (i t : Int), 0 ≤ i → i + n ≤ lim → 0 ≤ t → (∀ j, i ≤ j → j < i + n → 0 ≤ b 212 0 j) → BDp P b (plist b n i t) → plist b' n i t = plist b n i t
  | 0, _, _, _, _, _, _, _ => rfl
  | n + 1, i, t, hi, hl, ht, hw, hb => by
    have hx := hw i (Int.le_refl _) (by omega)
    have h1 := hb _ (show (b 212 0 i, t) ∈ plist b (n + 1) i t from List.mem_cons_self)
    have e1 : (m_play (b' 212 0 i) t b').1 = (m_play (b 212 0 i) t b).1 := by
      rw [h2 i hi (by omega)]; exact play1_eq hp ht h1
    have h3 := play1_nn (t := t) (b := b) hx
    simp only [plist]
    rw [e1, h2 i hi (by omega), plist_app2 hp h2 n (i + 1) _ (by omega) (by omega) (by omega) (fun j a c => hw j (by omega) (by omega)) (fun y hy => hb y (List.mem_cons_of_mem _ hy))]
theorem nodeL_app {P lim m : Int} {b b' : Mm} (hp : PAg P b b') (h2 : ∀ i, 0 ≤ i → i < lim → b' 212 0 i = b 212 0 i) : ∀ (ps : List Int) (p : Int), CHL m b p ps → (∀ c q, q ∈ ps → 218 ≤ c → c ≤ 220 → b' c 0 q = b c 0 q) → (∀ q ∈ ps, b 218 0 q + b 220 0 q ≤ lim) → BDp P b (nodeL b ps) → nodeL b' ps = nodeL b ps
  | [], _, _, _, _, _ => rfl
  | x :: xs, p, hC, e, hl, hb => by
    obtain ⟨h1, h3, h4, h5, h6, h7⟩ := hC
    have hx := hl x List.mem_cons_self
    simp only [nodeL]
    rw [e 218 x List.mem_cons_self (by decide) (by decide), e 219 x List.mem_cons_self (by decide) (by decide), e 220 x List.mem_cons_self (by decide) (by decide), plist_app2 hp h2 _ _ _ h4.1 (by omega) h5.1 (fun j a c => (h6 j a (by omega)).1) (fun y hy => hb y (List.mem_append_left _ hy)), nodeL_app hp h2 xs _ h7 (fun c q hq => e c q (List.mem_cons_of_mem _ hq)) (fun q hq => hl q (List.mem_cons_of_mem _ hq)) (fun y hy => hb y (List.mem_append_right _ hy))]
theorem CHL.app {lim m : Int} {b b' : Mm} (h2 : ∀ i, 0 ≤ i → i < lim → b' 212 0 i = b 212 0 i) : ∀ (ps : List Int) (p : Int), CHL m b p ps → (∀ c q, q ∈ ps → (218 ≤ c ∧ c ≤ 220) ∨ c = 223 → b' c 0 q = b c 0 q) → (∀ q ∈ ps, b 218 0 q + b 220 0 q ≤ lim) → CHL m b' p ps
  | [], _, h, _, _ => h
  | x :: xs, p, hC, e, hl => by
    obtain ⟨h1, h3, h4, h5, h6, h7⟩ := hC
    have hx := hl x List.mem_cons_self
    have e1 := e 218 x List.mem_cons_self (by decide)
    have e2 := e 219 x List.mem_cons_self (by decide)
    have e3 := e 220 x List.mem_cons_self (by decide)
    have e4 := e 223 x List.mem_cons_self (by decide)
    refine ⟨h1, h3, by rw [e1, e3]; exact h4, by rw [e2]; exact h5, fun i a c => ?_, ?_⟩
    · rw [e1] at a
      rw [e1, e3] at c
      rw [h2 i (by omega) (by omega)]; exact h6 i a c
    · rw [e4]; exact CHL.app h2 xs _ h7 (fun c q hq => e c q (List.mem_cons_of_mem _ hq)) (fun q hq => hl q (List.mem_cons_of_mem _ hq))
/-- node x can be replayed, out of what lies ahead of the loose steps -/
def RQ (μ : MU) (PL : Int → List Int) (x : Int) (w : Mm) : Prop := RPk μ PL x w ∧ BDp (w 123 μ.1 0) w (RSx PL x w) ∧ (∀ j : Nat, (j : Int) < m_pln w x - 1 → ∀ p ∈ PL (m_anc w x j), w 218 0 p + w 220 0 p ≤ w 122 μ.1 0) ∧ ((RSx PL x w).length : Int) ≤ w 122 μ.1 0
theorem RSn_sub {PL : Int → List Int} {x : Int} {b : Mm} : ∀ {n m : Nat}, n ≤ m → ∀ y ∈ RSn PL x b n, y ∈ RSn PL x b m := fun {n m} h => by
  induction m with
  | zero => have : n = 0 := by omega
            subst this; exact fun _ h => h
  | succ m ih =>
    by_cases c : n = m + 1
    · subst c; exact fun _ h => h
    · exact fun y hy => List.mem_append_left _ (ih (by omega) y hy)
theorem RSn_node {PL : Int → List Int} {x : Int} {b : Mm} {n : Nat} : ∀ y ∈ nodeL b (PL (m_anc b x (m_pln b x - 1 - ((n : Int) + 1)).toNat)), y ∈ RSn PL x b (n + 1) := fun y hy => List.mem_append_right _ hy
theorem rp0_eq {μ : MU} {x x' : Int} {w w' : Mm} : EQv TA 1 1 (m_rp0 μ x w) (m_rp0 μ x' w') := by
  have z : ∀ (y : Int) (v : Mm), m_rp0 μ y v 201 0 1 = 0 ∧ (∀ i, 0 ≤ i → i < 6 → m_rp0 μ y v 202 0 (6 * 1 + i) = -1) ∧ ∀ r, 0 ≤ r → r < 5 → m_rp0 μ y v 204 0 (5 * 1 + r) = 0 := fun y v => by
    refine ⟨?_, fun i a b => ?_, fun r a b => ?_⟩
    · unfold m_rp0; rw [fin_at (by decide)]; unfold m_rini; rw [fl_at (by decide), fl_at (by decide), fl_at (by decide), up_s]
    · unfold m_rp0; rw [fin_at (by decide)]; unfold m_rini; rw [fl_at (by decide), fl_at (by decide), fl_v, if_pos (by omega)]
    · unfold m_rp0; rw [fin_at (by decide)]; unfold m_rini; rw [fl_v, if_pos (by omega)]
  obtain ⟨a1, a2, a3⟩ := z x w
  obtain ⟨b1, b2, b3⟩ := z x' w'
  refine ⟨by rw [a1, b1], fun i p q => by rw [a1] at q; omega, fun i p q => ⟨by rw [a2 i p q, b2 i p q], fun c => absurd (a2 i p q) c⟩, fun r p q _ => ⟨by rw [a3 r p q, b3 r p q], fun e u v => by rw [a3 r p q] at v; omega⟩⟩
theorem rp0_SB {μ : MU} {x : Int} {w : Mm} (h1 : SB 1 w) (h2 : bB w) : SB 1 (m_rp0 μ x w) ∧ bB (m_rp0 μ x w) := ⟨(SB.rini h1).cong fun c a i y z => by unfold m_rp0; exact fin_at (by omega), h2.cong fun i => by unfold m_rp0; rw [fin_at (by decide), rini_at (by decide)]⟩
theorem pby_rp0 {μ : MU} {x j : Int} {w : Mm} : pby (m_rp0 μ x w) j = pby w j := pby_cong (by unfold m_rp0; rw [fin_at (by decide), rini_at (by decide)])
/-- tree as it was, steps and pool as they were ahead of the loose ones -/
def TSm (μ : MU) (w w' : Mm) : Prop := (∀ c a i, 216 ≤ c → c ≤ 225 → w' c a i = w c a i) ∧ (∀ c, 122 ≤ c → c ≤ 126 → w' c μ.1 0 = w c μ.1 0) ∧ (∀ i, 0 ≤ i → i < w 122 μ.1 0 → w' 212 0 i = w 212 0 i) ∧ PAg (w 123 μ.1 0) w w'
theorem RQ.app {μ : MU} {PL : Int → List Int} {x : Int} {w w' : Mm} (h : RQ μ PL x w) (t : TSm μ w w') (s1 : SB 1 w) (s2 : bB w) (h6 : bPb w') : RQ μ PL x w' ∧ EQv TA 1 1 (m_rpl μ PL x w) (m_rpl μ PL x w') ∧ RSx PL x w' = RSx PL x w := by
  obtain ⟨⟨hp, hg⟩, hb, hl, hn⟩ := h
  obtain ⟨t1, t2, t3, t4⟩ := t
  have e7 : ∀ a i, w' 217 a i = w 217 a i := fun a i => t1 _ _ _ (by decide) (by decide)
  have epl := pln_cong e7 x
  have ean := anc_cong e7 x
  have eR : ∀ n : Nat, (n : Int) ≤ m_pln w x - 1 → RSn PL x w' n = RSn PL x w n := fun n => by
    induction n with
    | zero => intro _; rfl
    | succ n ih =>
      intro hn'
      simp only [RSn]
      rw [ih (by omega), epl, ean]
      have hq := hp (m_pln w x - 1 - ((n : Int) + 1)).toNat (by omega)
      rw [nodeL_app t4 t3 _ _ hq.2.1 (fun c q _ a b => t1 c 0 q (by omega) (by omega)) (hl _ (by omega)) (fun y hy => hb y (RSn_sub (show n + 1 ≤ (m_pln w x - 1).toNat by omega) y (RSn_node y hy)))]
  have eX : RSx PL x w' = RSx PL x w := by
    unfold RSx; rw [epl]
    by_cases c : 0 ≤ m_pln w x - 1
    · exact eR _ (by omega)
    · rw [show (m_pln w x - 1).toNat = 0 by omega]; rfl
  have q0 := rp0_SB (μ := μ) (x := x) s1 s2
  have o := playL_eq (RSx PL x w) (m_rp0 μ x w) (m_rp0 μ x w') rp0_eq (P := w 123 μ.1 0) (fun j a b => by rw [pby_rp0, pby_rp0]; exact t4 j a b) (fun j a => by rw [pby_rp0]; exact h6 j a) q0.1 q0.2 hg (fun y hy => by
    rw [play_1 (w := m_rp0 μ x w) (b := w) (fun j => pby_rp0)]; exact hb y hy)
  refine ⟨⟨⟨fun j hj => ?_, by rw [eX]; exact o.2⟩, ?_, fun j hj p hq => ?_, by rw [eX, t2 122 (by decide) (by decide)]; exact hn⟩, ?_, eX⟩
  · rw [epl] at hj
    rw [ean]
    obtain ⟨a1, a2, a3, a4⟩ := hp j hj
    have hk : nodeL w' (PL (m_anc w x j)) = nodeL w (PL (m_anc w x j)) := by
      have e3 : (m_pln w x - 1 - (((m_pln w x - 1 - j - 1).toNat : Int) + 1)).toNat = j := by omega
      refine nodeL_app t4 t3 _ _ a2 (fun c q _ a b => t1 c 0 q (by omega) (by omega)) (hl _ hj) (fun y hy => hb y (RSn_sub (show (m_pln w x - 1 - j - 1).toNat + 1 ≤ (m_pln w x - 1).toNat by omega) y (RSn_node y ?_)))
      rw [e3]; exact hy
    rw [hk, t1 221 _ _ (by decide) (by decide)]
    exact ⟨a1, a2.app t3 _ _ (fun c q _ a => t1 c 0 q (by omega) (by omega)) (hl _ hj), a3, a4⟩
  · rw [eX, t2 123 (by decide) (by decide)]
    intro y hy
    by_cases c : y.1 < 0
    · have := hb y hy
      exfalso
      have hz : ∀ (L : List (Int × Int)) (V : Mm), LGL L V → ∀ z ∈ L, 0 ≤ z.1 := fun L => by
        induction L with
        | nil => intro V _ z hz; cases hz
        | cons u us ih =>
          intro V hV z hz
          rcases List.mem_cons.mp hz with rfl | hz
          · exact hV.1.1.1.1
          · exact ih _ hV.2 z hz
      have := hz _ _ hg y hy
      omega
    · have hz : ∀ (L : List (Int × Int)) (V : Mm), LGL L V → ∀ z ∈ L, 0 ≤ z.2 := fun L => by
        induction L with
        | nil => intro V _ z hz; cases hz
        | cons u us ih =>
          intro V hV z hz
          rcases List.mem_cons.mp hz with rfl | hz
          · have := hV.1.1.2.1; unfold LGs at this; exact this.1.1
          · exact ih _ hV.2 z hz
      rw [play1_eq t4 (hz _ _ hg y hy) (hb y hy)]; exact hb y hy
  · rw [ean] at hq
    rw [epl] at hj
    rw [t1 218 _ _ (by decide) (by decide), t1 220 _ _ (by decide) (by decide), t2 122 (by decide) (by decide)]
    exact hl j hj p hq
  · unfold m_rpl; rw [eX]; exact o.1
/-! lengths along a path -/
theorem play_201 {x t : Int} {w : Mm} (g : LG1 x t w) (h : SB 1 w) : okW x (w 201 0 1) ∧ (m_play x t w).2 201 0 1 = lnW x (w 201 0 1) := by
  obtain ⟨g0, gs, gc, gb⟩ := g
  have b1 : 0 ≤ w 201 0 1 ∧ w 201 0 1 ≤ 400 := h.1
  obtain ⟨t1, v1, p1, k0, k1, k2, k3, k4, k5, k6, k7⟩ := gs
  have hq : 0 ≤ x / 8 % 512 := by omega
  refine ⟨fun c => ?_, ?_⟩
  · unfold okS wsz
    split <;> omega
  · unfold m_play m_ply lnW lnA wsz
    by_cases c0 : x % 8 = 0
    · rw [if_pos c0, if_pos (by omega), if_neg (by omega), if_pos c0, if_neg (by omega)]
      dsimp only
      unfold m_opn1
      rw [fl_at (by decide), opn_201, if_pos rfl]
    · rw [if_neg c0]
      by_cases c1 : x % 8 = 1
      · rw [if_pos c1, if_pos (by omega), if_neg (by omega), if_neg (by omega), if_neg (by omega)]
        dsimp only
        rw [cls_201, if_pos rfl]
      · rw [if_neg c1]
        by_cases c2 : x % 8 = 2
        · rw [if_pos c2, if_pos (by omega), if_pos c2]
          dsimp only
          rw [up_k _ (by decide)]
        · rw [if_neg c2, if_neg (show ¬ x % 8 ≤ 2 by omega)]
          by_cases c3 : x % 8 = 3
          · rw [if_pos c3]
            simp (disch := decide) only [up_k]
          · rw [if_neg c3]
            by_cases c6 : x % 8 = 6
            · rw [if_pos c6]
              show m_trn 1 w 201 0 1 = _
              exact trn_at2 (by decide)
            · rw [if_neg c6]
              by_cases c4 : x % 8 ≠ 4
              · rw [if_pos c4]
                split
                · dsimp only
                  rw [psh_at2 (by decide), buf_at2 (by decide)]
                · dsimp only
                  rw [tak_at2 (by decide), up_k _ (by decide), buf_at2 (by decide)]
              · rw [if_neg c4]
                show (m_sto _ _ w _).2 201 0 1 = _
                exact sto_at (by decide) _
theorem LGL_LNL : ∀ (L : List (Int × Int)) (w : Mm), SB 1 w → bB w → LGL L w → LNL (L.map Prod.fst) (w 201 0 1) ∧ m_playL L w 201 0 1 = lnL (L.map Prod.fst) (w 201 0 1)
  | [], _, _, _, _ => ⟨trivial, rfl⟩
  | x :: xs, w, h, hb, g => by
    have o := play_201 g.1.1 h
    have s := h.play hb g.1.1 g.1.2
    have r := LGL_LNL xs _ s.1 s.2 g.2
    rw [o.2] at r
    exact ⟨⟨o.1, r.1⟩, r.2⟩
