/-! playing from states alike leads to states alike, where the pools agree ahead of a place -/
abbrev TA : Int → Prop := fun _ => True
def PAg (P : Int) (b b' : Mm) : Prop := ∀ j, 0 ≤ j → j < P → pby b' j = pby b j
def bPb (w : Mm) : Prop := ∀ j, 0 ≤ j → pby w j ≤ 126
theorem sto_mono {v t : Int} {w : Mm} : ∀ {n m : Nat}, n ≤ m → (m_sto v t w n).1 ≤ (m_sto v t w m).1 := fun {n m} h => by
  induction m with
  | zero => have : n = 0 := by omega
            subst this; exact Int.le_refl _
  | succ m ih =>
    by_cases c : n = m + 1
    · subst c; exact Int.le_refl _
    · have := ih (by omega)
      rw [sto_s]
      have := pby_rng (w := w) (j := (m_sto v t w m).1)
      omega
theorem sto_ge {v t : Int} {w : Mm} (n : Nat) : t + 1 ≤ (m_sto v t w n).1 := by
  have := sto_mono (v := v) (t := t) (w := w) (show 0 ≤ n by omega)
  rw [sto_z] at this; exact this
theorem sto1_eq {P v t : Int} {b b' : Mm} (h : PAg P b b') (ht : 0 ≤ t) : ∀ n : Nat, (m_sto v t b n).1 ≤ P → (m_sto v t b' n).1 = (m_sto v t b n).1
  | 0, _ => by rw [sto_z, sto_z]
  | n + 1, hn => by
    have h1 := sto_mono (v := v) (t := t) (w := b) (show n ≤ n + 1 by omega)
    have h2 := sto_ge (v := v) (t := t) (w := b) n
    have e := sto1_eq (v := v) h ht n (by omega)
    have h3 := pby_rng (w := b) (j := (m_sto v t b n).1)
    have h4 : (m_sto v t b (n + 1)).1 = (m_sto v t b n).1 + (pby b (m_sto v t b n).1 + 1) := sto_s
    rw [sto_s, e, h _ (by omega) (by omega), ← h4]
theorem play1_eq {P x t : Int} {b b' : Mm} (h : PAg P b b') (ht : 0 ≤ t) (hP : t + (m_play x t b).1 ≤ P) : (m_play x t b').1 = (m_play x t b).1 := by
  unfold m_play m_ply at hP ⊢
  by_cases c0 : x % 8 = 0
  · rw [if_pos c0, if_pos c0]
  · rw [if_neg c0, if_neg c0]
    by_cases c1 : x % 8 = 1
    · rw [if_pos c1, if_pos c1]
    · rw [if_neg c1, if_neg c1]
      by_cases c2 : x % 8 = 2
      · rw [if_pos c2, if_pos c2]
      · rw [if_neg c2, if_neg c2]
        by_cases c3 : x % 8 = 3
        · rw [if_pos c3, if_pos c3]
        · rw [if_neg c3, if_neg c3]
          by_cases c6 : x % 8 = 6
          · rw [if_pos c6, if_pos c6]
          · rw [if_neg c6, if_neg c6]
            by_cases c4 : x % 8 ≠ 4
            · rw [if_pos c4, if_pos c4]; split <;> rfl
            · rw [if_neg c4, if_neg c4]
              rw [if_neg c0, if_neg c1, if_neg c2, if_neg c3, if_neg c6, if_neg c4] at hP
              dsimp only at hP ⊢
              have h2 := sto_ge (v := x / 4096) (t := t) (w := b) (pby b t).toNat
              rw [h t ht (by omega), sto1_eq h ht _ (by omega)]
theorem sto_205 {v t : Int} {w : Mm} : ∀ (n : Nat) (j : Int), (m_sto v t w n).2 205 0 j = if 20 + 4 * v ≤ j ∧ j < 20 + 4 * v + n then pby w (m_sto v t w (j - (20 + 4 * v)).toNat).1 else w 205 0 j
  | 0, j => by
    rw [if_neg (by omega)]
    simp only [m_sto]; exact up_k _ (by decide) _ _ _ _ _
  | n + 1, j => by
    simp only [m_sto]
    rw [fl_at (by decide), up_ii, sto_205 n j]
    by_cases c : j = 20 + 4 * v + n
    · subst c
      rw [if_pos rfl, if_pos (by omega), show (20 + 4 * v + (n : Int) - (20 + 4 * v)).toNat = n by omega]
    · rw [if_neg c]
      by_cases c2 : 20 + 4 * v ≤ j ∧ j < 20 + 4 * v + n
      · rw [if_pos c2, if_pos (by omega)]
      · rw [if_neg c2, if_neg (by omega)]
theorem sto_206 {v t : Int} {w : Mm} (hs : ∀ n : Nat, (n : Int) < pby w t → pby w (m_sto v t w n).1 ≤ 20) : ∀ (n : Nat), (n : Int) ≤ pby w t → (∀ (e : Nat) (i : Int), e < n → 0 ≤ i → i < pby w (m_sto v t w e).1 → (m_sto v t w n).2 206 0 (400 + 80 * v + 20 * e + i) = pby w ((m_sto v t w e).1 + 1 + i)) ∧ ∀ j, (j < 400 + 80 * v ∨ 400 + 80 * v + 20 * n ≤ j) → (m_sto v t w n).2 206 0 j = w 206 0 j
  | 0, _ => ⟨fun e i h => by omega, fun j _ => by simp only [m_sto]; exact up_k _ (by decide) _ _ _ _ _⟩
  | n + 1, hn => by
    obtain ⟨i1, i2⟩ := sto_206 hs n (by omega)
    have hl := hs n (by omega)
    refine ⟨fun e i he a b => ?_, fun j hj => ?_⟩
    · simp only [m_sto]
      rw [fl_v, up_k _ (by decide)]
      by_cases c : e = n
      · subst c
        rw [if_pos (by omega), show 400 + 80 * v + 20 * (e : Int) + i - (400 + 80 * v + 20 * (e : Int)) = i by omega]
      · have := hs e (by omega)
        rw [if_neg (by omega)]
        exact i1 e i (by omega) a b
    · simp only [m_sto]
      rw [fl_v, up_k _ (by decide), if_neg (by omega)]
      exact i2 j (by omega)
theorem sto_204o {v t j : Int} {w : Mm} (h : j ≠ 5 + v) : ∀ n, (m_sto v t w n).2 204 0 j = w 204 0 j
  | 0 => by simp only [m_sto]; exact up_i _ _ _ _ _ _ h
  | n + 1 => by simp only [m_sto]; rw [fl_at (by decide), up_k _ (by decide)]; exact sto_204o h n
theorem EQv.sto {P v t : Int} {V V' : Mm} (h : EQv TA 1 1 V V') (hp : PAg P V V') (ht : 0 ≤ t) (hv : 0 ≤ v ∧ v ≤ 4) (hb : SB 1 V) (hs : pby V t ≤ 4 ∧ ∀ n : Nat, (n : Int) < pby V t → pby V (m_sto v t V n).1 ≤ 20) (hr : v ≠ 4 → pby V t ≤ 1) (hP : (m_sto v t V (pby V t).toNat).1 ≤ P) : EQv TA 1 1 (m_sto v t V (pby V t).toNat).2 (m_sto v t V' (pby V t).toNat).2 ∧ ∀ n : Nat, (n : Int) < pby V t → (m_sto v t V' n).1 = (m_sto v t V n).1 ∧ pby V' (m_sto v t V n).1 = pby V (m_sto v t V n).1 ∧ ∀ i, 0 ≤ i → i < pby V (m_sto v t V n).1 → pby V' ((m_sto v t V n).1 + 1 + i) = pby V ((m_sto v t V n).1 + 1 + i) := by
  have h0 := sto_ge (v := v) (t := t) (w := V) (pby V t).toNat
  have hpt := pby_rng (w := V) (j := t)
  have et : pby V' t = pby V t := hp t ht (by omega)
  have key : ∀ n : Nat, (n : Int) < pby V t → (m_sto v t V' n).1 = (m_sto v t V n).1 ∧ pby V' (m_sto v t V n).1 = pby V (m_sto v t V n).1 ∧ ∀ i, 0 ≤ i → i < pby V (m_sto v t V n).1 → pby V' ((m_sto v t V n).1 + 1 + i) = pby V ((m_sto v t V n).1 + 1 + i) := by
    intro n hn
    have h1 := sto_mono (v := v) (t := t) (w := V) (show n + 1 ≤ (pby V t).toNat by omega)
    rw [sto_s] at h1
    have h2 := pby_rng (w := V) (j := (m_sto v t V n).1)
    have h3 := sto_ge (v := v) (t := t) (w := V) n
    exact ⟨sto1_eq hp ht n (by omega), hp _ (by omega) (by omega), fun i a b => hp _ (by omega) (by omega)⟩
  refine ⟨?_, key⟩
  obtain ⟨h1, h2, h3, h4⟩ := h
  obtain ⟨b1, b2, b3, b4, b5, b6⟩ := hb
  have hs' : ∀ n : Nat, (n : Int) < pby V' t → pby V' (m_sto v t V' n).1 ≤ 20 := fun n hn => by
    rw [et] at hn
    have := key n hn
    rw [this.1, this.2.1]; exact hs.2 n hn
  have s6 := sto_206 hs.2 (pby V t).toNat (by omega)
  have s6' := sto_206 hs' (pby V t).toNat (by omega)
  refine ⟨?_, fun i a b => ?_, fun i a b => ?_, fun r a b _ => ?_⟩
  · rw [sto_at (by decide), sto_at (by decide)]; exact h1
  · rw [sto_at (by decide)] at b
    rw [sto_at (by decide), sto_at (by decide)]; exact h2 i a b
  · simp (disch := decide) only [sto_at]; exact h3 i a b
  · rw [show 5 * 1 + r = 5 + r by omega]
    by_cases c : r = v
    · subst c
      rw [sto_204, sto_204, et]
      refine ⟨rfl, fun e p q => ?_⟩
      have k := key e.toNat (by omega)
      rw [sto_205, sto_205, if_pos (by omega), if_pos (by omega), show (20 * 1 + 4 * r + e - (20 + 4 * r)).toNat = e.toNat by omega, k.1, k.2.1]
      refine ⟨rfl, fun i u x => ?_⟩
      have z := s6.1 e.toNat i (by omega) u x
      have z' := s6'.1 e.toNat i (by omega) u (by rw [k.1, k.2.1]; exact x)
      rw [show 400 + 80 * r + 20 * (e.toNat : Int) + i = 400 * 1 + 80 * r + 20 * e + i by omega] at z z'
      rw [z, z', k.1, k.2.2 i u x]
    · rw [sto_204o (by omega), sto_204o (by omega)]
      obtain ⟨g1, g2⟩ := h4 r a b trivial
      rw [show 5 * 1 + r = 5 + r by omega] at g1 g2
      have hc := b4 (5 + r) (by omega) (by omega)
      refine ⟨g1, fun e p q => ?_⟩
      obtain ⟨g3, g4⟩ := g2 e p q
      have he := b5 (20 * 1 + 4 * r + e) (by omega) (by omega)
      rw [sto_205, sto_205, if_neg (by omega), if_neg (by omega)]
      refine ⟨g3, fun i u x => ?_⟩
      rw [s6.2 _ (by omega), s6'.2 _ (by omega)]
      exact g4 i u x
theorem EQv.buf {T : Int → Prop} {s s' : Int} {V V' W W' : Mm} (h : EQv T s s' V V') (e : ∀ c i, 200 ≤ c → c ≤ 206 → W c 0 i = V c 0 i) (e' : ∀ c i, 200 ≤ c → c ≤ 206 → W' c 0 i = V' c 0 i) : EQv T s s' W W' := by
  obtain ⟨h1, h2, h3, h4⟩ := h
  simp only [EQv]
  simp (disch := decide) only [e, e']
  exact ⟨h1, h2, h3, h4⟩
theorem buf_at2 {v t : Int} {w : Mm} {c : Nat} {a i : Int} (h : c ≠ 240) : m_buf v t w c a i = w c a i := by unfold m_buf; exact fl_at h
theorem play_eq {P x t : Int} {V V' : Mm} (h : EQv TA 1 1 V V') (hp : PAg P V V') (h126 : bPb V') (g : LG1 x t V) (gr : LGr (x % 8) (x / 4096) t V) (hb : SB 1 V) (hP : t + (m_play x t V).1 ≤ P) : EQv TA 1 1 (m_play x t V).2 (m_play x t V').2 ∧ LG1 x t V' ∧ LGr (x % 8) (x / 4096) t V' := by
  obtain ⟨g0, gs, gc, gb⟩ := g
  have hq : 0 ≤ x / 8 % 512 := by omega
  obtain ⟨t1, v1, p1, k0, k1, k2, k3, k4, k5, k6, k7⟩ := id gs
  have ht : 0 ≤ t := t1.1
  have b1 : 0 ≤ V 201 0 1 ∧ V 201 0 1 ≤ 400 := hb.1
  have hc : ∀ i, 0 ≤ i → i < 5 → 0 ≤ V 204 0 (5 * 1 + i) ∧ V 204 0 (5 * 1 + i) ≤ 4 := fun i a b => by have := hb.2.2.2.1 (5 * 1 + i) (by omega) (by omega); omega
  have hr1 : ∀ i, 0 ≤ i → i < 4 → V 204 0 (5 * 1 + i) ≤ 1 := fun i a b => (hb.2.2.2.1 (5 * 1 + i) (by omega) (by omega)).2.2 (by omega)
  have hE : ∀ i, 0 ≤ i → i < 20 → V 205 0 (20 * 1 + i) ≤ 20 := fun i a b => (hb.2.2.2.2.1 (20 * 1 + i) (by omega) (by omega)).2
  have e1 := h.1
  have e9 : V 204 0 9 = V' 204 0 9 := (h.2.2.2 4 (by omega) (by omega) trivial).1
  have gs' : LGs (x % 8) (x / 8 % 512) (x / 4096) t V' := by
    unfold LGs
    rw [← e1, ← e9]; exact gs
  have gb' : LGb (x % 8) (x / 4096) t V' := fun _ i a _ => h126 _ (by omega)
  have key4 : x % 8 = 4 → EQv TA 1 1 (m_play x t V).2 (m_play x t V').2 ∧ LGc (x % 8) (x / 4096) t V' ∧ LGr (x % 8) (x / 4096) t V' := by
    intro c4
    have hP' : (m_sto (x / 4096) t V (pby V t).toNat).1 ≤ P := by
      unfold m_play m_ply at hP
      rw [if_neg (by omega), if_neg (by omega), if_neg (by omega), if_neg (by omega), if_neg (by omega), if_neg (by omega)] at hP
      dsimp only at hP
      omega
    have h0 := sto_ge (v := x / 4096) (t := t) (w := V) (pby V t).toNat
    have et : pby V' t = pby V t := hp t ht (by omega)
    have gg := gc c4
    have o := h.sto hp ht ⟨v1.1, k4 c4⟩ hb ⟨gg.1, fun n hn => (gg.2 n hn).1⟩ (fun hv => gr c4 hv) hP'
    refine ⟨?_, fun _ => ⟨by rw [et]; exact gg.1, fun n hn => ?_⟩, fun _ hv => by rw [et]; exact gr c4 hv⟩
    · unfold m_play m_ply
      simp only [if_neg (show ¬ x % 8 = 0 by omega), if_neg (show ¬ x % 8 = 1 by omega), if_neg (show ¬ x % 8 = 2 by omega), if_neg (show ¬ x % 8 = 3 by omega), if_neg (show ¬ x % 8 = 6 by omega), if_neg (show ¬ x % 8 ≠ 4 by omega)]
      rw [et]; exact o.1
    · rw [et] at hn
      have k := o.2 n hn
      have gn := gg.2 n hn
      rw [k.1, k.2.1]
      refine ⟨gn.1, fun i a b => ?_⟩
      rw [k.2.2 i a b]; exact gn.2 i a b
  by_cases c4 : x % 8 = 4
  · obtain ⟨o1, o2, o3⟩ := key4 c4
    exact ⟨o1, ⟨g0, gs', o2, gb'⟩, o3⟩
  · refine ⟨?_, ⟨g0, gs', fun c => absurd c c4, gb'⟩, fun c => absurd c c4⟩
    unfold m_play m_ply at hP ⊢
    by_cases c0 : x % 8 = 0
    · rw [if_pos c0, if_pos c0]
      rw [if_pos c0] at hP
      dsimp only at hP ⊢
      unfold m_opn1
      rw [show (400 : Int) + x / 8 % 512 = 400 * 1 + x / 8 % 512 by omega]
      exact h.opens ⟨hq, (k0 c0).1⟩ v1.1 (fun i a b => (hp _ (by omega) (by omega)).symm)
    · rw [if_neg c0] at hP
      rw [if_neg c0, if_neg c0]
      by_cases c1 : x % 8 = 1
      · rw [if_pos c1, if_pos c1]
        exact h.closes ⟨hq, k1 c1⟩ v1.1
      · rw [if_neg c1] at hP
        rw [if_neg c1, if_neg c1]
        by_cases c2 : x % 8 = 2
        · rw [if_pos c2, if_pos c2]
          dsimp only
          rw [show (400 : Int) + x / 8 % 512 = 400 * 1 + x / 8 % 512 by omega]
          exact h.put
        · rw [if_neg c2] at hP
          rw [if_neg c2, if_neg c2]
          by_cases c3 : x % 8 = 3
          · rw [if_pos c3, if_pos c3]
            dsimp only
            rw [show (6 : Int) + x / 4096 / 2 = 6 * 1 + x / 4096 / 2 by omega]
            exact h.mark (fun _ => rfl)
          · rw [if_neg c3] at hP
            rw [if_neg c3, if_neg c3]
            by_cases c6 : x % 8 = 6
            · rw [if_pos c6, if_pos c6]
              have := k6 c6
              exact h.trn (fun _ => by rw [show (5 : Int) * 1 + 4 = 9 by decide]; exact this) hc hr1 hE (by rw [show (5 : Int) * 1 + 4 = 9 by decide]; exact this) (by rw [show (5 : Int) * 1 + 4 = 9 by decide, ← e9]; exact this)
            · rw [if_neg c6, if_pos c4] at hP
              rw [if_neg c6, if_neg c6, if_pos c4, if_pos c4]
              have hbf : EQv TA 1 1 (m_buf (x / 4096) t V) (m_buf (x / 4096) t V') := h.buf (fun c i _ _ => buf_at2 (by omega)) (fun c i _ _ => buf_at2 (by omega))
              have hbb : t + x / 4096 ≤ P → ∀ i, 0 ≤ i → i < x / 4096 → m_buf (x / 4096) t V 240 0 i = m_buf (x / 4096) t V' 240 0 i := fun hPx i a b => by
                unfold m_buf
                rw [fl_v, fl_v, if_pos (by omega), if_pos (by omega)]
                exact (hp _ (by omega) (by omega)).symm
              by_cases c5 : x % 8 = 5
              · rw [if_pos c5] at hP
                rw [if_pos c5, if_pos c5]
                dsimp only at hP ⊢
                refine hbf.psh ⟨v1.1, k5 c5⟩ (fun i a b => by rw [buf_at2 (by decide)]; exact hc i a b) ?_ (fun i a b => by rw [buf_at2 (by decide)]; exact hr1 i a b) (fun i a b => by rw [buf_at2 (by decide)]; exact hE i a b) (hbb hP)
                rw [buf_at2 (by decide), show (5 : Int) * 1 + 4 = 9 by decide, ← e9]
                exact (hc 4 (by omega) (by omega)).2
              · rw [if_neg c5] at hP
                rw [if_neg c5, if_neg c5]
                dsimp only at hP ⊢
                have c7 : x % 8 = 7 := by omega
                rw [show (5 : Int) + x / 8 % 512 = 5 * 1 + x / 8 % 512 by omega]
                exact hbf.reg ⟨hq, (k7 c7).1⟩ ⟨v1.1, (k7 c7).2⟩ (fun i a b => by rw [buf_at2 (by decide)]; exact (hc i a b).2) (fun i a b => by rw [buf_at2 (by decide)]; exact hE i a b) (hbb hP)
/-- every step's place in the pool lies ahead of P -/
def BDp (P : Int) (b : Mm) (L : List (Int × Int)) : Prop := ∀ y ∈ L, y.2 + (m_play y.1 y.2 b).1 ≤ P
theorem pby_play {x t : Int} {w : Mm} {j : Int} : pby (m_play x t w).2 j = pby w j := pby_cong (play_at (by decide))
theorem playL_eq {P : Int} : ∀ (L : List (Int × Int)) (V V' : Mm), EQv TA 1 1 V V' → PAg P V V' → bPb V' → SB 1 V → bB V → LGL L V → BDp P V L → EQv TA 1 1 (m_playL L V) (m_playL L V') ∧ LGL L V'
  | [], _, _, h, _, _, _, _, _, _ => ⟨h, trivial⟩
  | x :: xs, V, V', h, hp, h6, hs, hbb, g, hb => by
    have o := play_eq h hp h6 g.1.1 g.1.2 hs (hb x List.mem_cons_self)
    have s := hs.play hbb g.1.1 g.1.2
    have r := playL_eq xs _ _ o.1 (fun j a b => by rw [pby_play, pby_play]; exact hp j a b) (fun j a => by rw [pby_play]; exact h6 j a) s.1 s.2 g.2 (fun y hy => by
      rw [play_1 (w := (m_play x.1 x.2 V).2) (b := V) (fun j => pby_play)]; exact hb y (List.mem_cons_of_mem _ hy))
    exact ⟨r.1, ⟨o.2.1, o.2.2⟩, r.2⟩
