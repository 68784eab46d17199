theorem X_ldc {κ : KC} {P S : Nat} {w : Mm} {pc : Nat} {ls : List (Option Value)} {st : List Value} {own : String} {cc : ByteArray} (np : Nat) (hO : Ok κ own cc) {ix : Nat} {z : Int} (hL : Jvm.Cond.constant own ix (I z) ∈ lwG) (d : decode cc pc = .ok (.ldc ix, 2)) (hn : np = pc + 2) (k : X κ P S w np ls (.int (I z) :: st)) : X κ P S w pc ls st := by
  subst hn
  intro H locs la a b h1 h2 h3 h4 h5 h6
  exact lv_ldc hO.1 hO.2.1 hO.2.2.2.1 (hO.w hL) d (k H locs la a b h1 h2 h3 h4 h5 h6)
/-! playing lists of steps -/
def LG1 (x t : Int) (w : Mm) : Prop := (0 ≤ x ∧ x < 16777216) ∧ LGs (x % 8) (x / 8 % 512) (x / 4096) t w ∧ LGc (x % 8) (x / 4096) t w ∧ LGb (x % 8) (x / 4096) t w
theorem play_at {x t : Int} {w : Mm} {c : Nat} {a i : Int} (h : (c < 200 ∨ 206 < c) ∧ c ≠ 240) : (m_play x t w).2 c a i = w c a i := by
  unfold m_play m_ply
  split
  · show m_opn1 _ _ _ w c a i = _
    unfold m_opn1
    rw [fl_at (by omega)]
    by_cases c8 : c = 208
    · subst c8
      by_cases ha : a = 0
      · subst ha; rw [opens_208, if_neg (by omega)]
      · simp only [m_opens, fl, up]; simp [ha]
    · by_cases c9 : c = 209
      · subst c9
        by_cases ha : a = 0
        · subst ha; rw [opens_209, if_neg (by omega)]
        · simp only [m_opens, fl, up]; simp [ha]
      · exact opens_at (by omega)
  · split
    · show m_closes _ _ _ w c a i = _
      by_cases c8 : c = 208
      · subst c8
        by_cases ha : a = 0
        · subst ha; rw [closes_208, if_neg (by omega)]
        · simp only [m_closes, fl, up]; simp [ha]
      · by_cases c9 : c = 209
        · subst c9
          by_cases ha : a = 0
          · subst ha; rw [closes_209, if_neg (by omega)]
          · simp only [m_closes, fl, up]; simp [ha]
        · exact closes_at (by omega)
    · split
      · exact up_k _ (by omega) _ _ _ _ _
      · split
        · show up (up w 202 0 _ _) 203 0 _ _ c a i = _
          rw [up_k _ (by omega), up_k _ (by omega)]
        · split
          · exact trn_at (by omega)
          · split
            · split
              · show m_psh 1 _ _ c a i = _
                rw [psh_at (by omega)]; exact fl_at (by omega)
              · show m_tak 1 _ 0 _ _ c a i = _
                rw [tak_at (by omega), up_k _ (by omega)]; exact fl_at (by omega)
            · exact sto_at (by omega) _
theorem SB.mkp {s i p : Int} {w : Mm} (h : SB s w) (hp : -1 ≤ p ∧ p ≤ w 201 0 s) {g : Int} (hg : g = 0 ∨ g = 1) : SB s (up (up w 202 0 i p) 203 0 i g) := h.mks hp hg
theorem SB.sto {v t : Int} {w : Mm} (h : SB 1 w) (hv : 0 ≤ v ∧ v ≤ 4) (ht : 0 ≤ pby w t ∧ pby w t ≤ 4) (h4 : v ≠ 4 → pby w t ≤ 1) (hc : ∀ n : Nat, (n : Int) < pby w t → pby w (m_sto v t w n).1 ≤ 20 ∧ ∀ i, 0 ≤ i → i < pby w (m_sto v t w n).1 → pby w ((m_sto v t w n).1 + 1 + i) ≤ 126) : ∀ n : Nat, (n : Int) ≤ pby w t → SB 1 (m_sto v t w n).2
  | 0, _ => by
    simp only [m_sto]
    by_cases c : v = 4
    · exact h.f204 ht (Or.inr ⟨1, by omega⟩)
    · exact h.f204 ht (Or.inl (h4 c))
  | n + 1, hn => by
    have h1 := SB.sto h hv ht h4 hc n (by omega)
    have h2 := hc n (by omega)
    have h3 := pby_rng (w := w) (j := (m_sto v t w n).1)
    simp only [m_sto]
    rw [up_fl1]
    refine (h1.f205 fun i a b c d => by omega).f206 fun i a b c d => ⟨(pby_rng).1, ?_⟩
    exact h2.2 _ (by omega) (by omega)
/-- a store that steps set: a register has one entry at most -/
def LGr (k v t : Int) (w : Mm) : Prop := k = 4 → v ≠ 4 → pby w t ≤ 1
theorem SB.play {x t : Int} {w : Mm} (h : SB 1 w) (hB : bB w) (g : LG1 x t w) (hr : LGr (x % 8) (x / 4096) t w) : SB 1 (m_play x t w).2 ∧ bB (m_play x t w).2 := by
  obtain ⟨g0, gs, gc, gb⟩ := g
  unfold LGs at gs
  obtain ⟨s1, s2, s3, k0, k1, k2, k3, k4, k5, k6, k7⟩ := gs
  have hL := h.1
  unfold bL1 at hL
  unfold m_play m_ply
  have hk8 : 0 ≤ x % 8 ∧ x % 8 < 8 := by omega
  generalize x % 8 = k at *
  generalize x / 8 % 512 = p at *
  generalize x / 4096 = v at *
  have hbuf : k ≠ 4 → v ≤ 400 → bB (m_buf v t w) := fun h4 hv => hB.ld fun i a b => ⟨pby_rng.1, gb h4 i a b⟩
  split
  · next h0 =>
    have := k0 h0
    refine ⟨(h.opens (by omega) (by omega)).txt fun i a b => ⟨pby_rng.1, gb (by omega) _ (by omega) (by omega)⟩, hB.cong fun i => ?_⟩
    show m_opn1 p v t w 240 0 i = _
    unfold m_opn1; rw [fl_at (by decide), opens_at (by decide)]
  · split
    · next h1 =>
      have := k1 h1
      show SB 1 (m_closes 1 p v w) ∧ bB (m_closes 1 p v w)
      exact ⟨h.closes (by omega) (by omega), hB.cong fun i => closes_at (by decide)⟩
    · split
      · next h2 =>
        have := k2 h2
        show SB 1 (up w 200 0 (400 + p) v) ∧ bB (up w 200 0 (400 + p) v)
        refine ⟨?_, hB.cong fun i => up_k _ (by decide) _ _ _ _ _⟩
        rw [up_fl1]; exact h.txt fun _ _ _ => by omega
      · split
        · next h3 =>
          have := k3 h3
          refine ⟨h.mkp (by split <;> omega) (by omega), hB.cong fun i => ?_⟩
          dsimp only
          rw [up_k _ (by decide), up_k _ (by decide)]
        · split
          · exact ⟨h.trn h hB, hB.trn h⟩
          · split
            · next h4 =>
              split
              · next h5 =>
                have := k5 h5
                have hb := hbuf h4 (by omega)
                have hc := h.2.2.2.1 9 (by decide) (by decide)
                exact ⟨SB.psh (h.f240) hb (by omega) (by show 0 ≤ fl w 240 0 v _ 204 0 9; rw [fl_at (by decide)]; omega), hb.psh⟩
              · next h5 =>
                by_cases h7 : k = 7
                · have := k7 h7
                  have hb := hbuf h4 (by omega)
                  have hb2 : bB (up (m_buf v t w) 204 0 (5 + p) 1) := hb.cong fun i => up_k _ (by decide) _ _ _ _ _
                  exact ⟨SB.tak ((h.f240).f204 (by decide) (Or.inl (by decide))) hb2 (by omega), hb2.tak⟩
                · exfalso; omega
            · next h4 =>
              have h4 : k = 4 := by omega
              have := k4 h4
              have hc := gc h4
              have hp := pby_rng (w := w) (j := t)
              exact ⟨SB.sto h (by omega) (by omega) (hr h4) hc.2 _ (by omega), hB.cong fun i => sto_at (by decide) _⟩
/-- legal, one after the other -/
def LGL : List (Int × Int) → Mm → Prop
  | [], _ => True
  | x :: xs, w => (LG1 x.1 x.2 w ∧ LGr (x.1 % 8) (x.1 / 4096) x.2 w) ∧ LGL xs (m_play x.1 x.2 w).2
def m_playL : List (Int × Int) → Mm → Mm
  | [], w => w
  | x :: xs, w => m_playL xs (m_play x.1 x.2 w).2
def plist (b : Mm) : Nat → Int → Int → List (Int × Int)
  | 0, _, _ => []
  | n + 1, i, t => (b 212 0 i, t) :: plist b n (i + 1) (t + (m_play (b 212 0 i) t b).1)
def nodeL (b : Mm) : List Int → List (Int × Int)
  | [] => []
  | p :: ps => plist b (b 220 0 p).toNat (b 218 0 p) (b 219 0 p) ++ nodeL b ps
/-- up to a number of text steps -/
def tkT (most : Int) : Int → List (Int × Int) → List (Int × Int)
  | _, [] => []
  | seen, x :: xs => if x.1 % 8 ≤ 2 then (if seen = most then [] else x :: tkT most (seen + 1) xs) else x :: tkT most seen xs
def CHL (m : Int) (b : Mm) : Int → List Int → Prop
  | p, [] => p = -1
  | p, x :: xs => p = x ∧ (1 ≤ x ∧ x < m) ∧ (0 ≤ b 218 0 x ∧ 0 ≤ b 220 0 x ∧ b 218 0 x + b 220 0 x ≤ 30000) ∧ (0 ≤ b 219 0 x ∧ b 219 0 x ≤ 520000) ∧ (∀ i, b 218 0 x ≤ i → i < b 218 0 x + b 220 0 x → 0 ≤ b 212 0 i ∧ b 212 0 i < 16777216) ∧ CHL m b (b 223 0 x) xs
/-- the world while a node is played: as it was but for state 1 and the buffer -/
def FRp (b w : Mm) : Prop := ∀ c a i, (c < 200 ∨ 206 < c) → c ≠ 240 → w c a i = b c a i
theorem FRp.play {b w : Mm} (h : FRp b w) {x t : Int} : FRp b (m_play x t w).2 := fun c a i h1 h2 => by rw [play_at ⟨h1, h2⟩]; exact h c a i h1 h2
theorem FRp.pby {b w : Mm} (h : FRp b w) {j : Int} : pby w j = pby b j := pby_cong (h _ _ _ (by decide) (by decide))
theorem sto_z {v t : Int} {w : Mm} : (m_sto v t w 0).1 = t + 1 := by simp only [m_sto]
theorem sto_s {v t : Int} {w : Mm} {n : Nat} : (m_sto v t w (n + 1)).1 = (m_sto v t w n).1 + (pby w (m_sto v t w n).1 + 1) := by simp only [m_sto]
theorem sto_1 {v t : Int} {w b : Mm} (h : ∀ j, pby w j = pby b j) : ∀ n, (m_sto v t w n).1 = (m_sto v t b n).1 := fun n => by
  induction n with
  | zero => rw [sto_z, sto_z]
  | succ n ih => rw [sto_s, sto_s, ih, h]
theorem play_1 {x t : Int} {w b : Mm} (h : ∀ j, pby w j = pby b j) : (m_play x t w).1 = (m_play x t b).1 := by
  unfold m_play m_ply
  rw [h]
  split
  · rfl
  · split
    · rfl
    · split
      · rfl
      · split
        · rfl
        · split
          · rfl
          · split
            · split <;> rfl
            · show (m_sto _ t w _).1 - t = (m_sto _ t b _).1 - t
              rw [sto_1 h]
theorem play_rng {x t : Int} {w : Mm} (g : LG1 x t w) : 0 ≤ (m_play x t w).1 ∧ (m_play x t w).1 ≤ 5000 := by
  obtain ⟨g0, gs, gc, gb⟩ := g
  unfold LGs at gs
  have hv := gs.2.1
  unfold m_play m_ply
  split
  · show 0 ≤ x / 4096 ∧ x / 4096 ≤ 5000; omega
  · split
    · show (0 : Int) ≤ 0 ∧ (0 : Int) ≤ 5000; decide
    · split
      · show (0 : Int) ≤ 0 ∧ (0 : Int) ≤ 5000; decide
      · split
        · show (0 : Int) ≤ 0 ∧ (0 : Int) ≤ 5000; decide
        · split
          · show (0 : Int) ≤ 0 ∧ (0 : Int) ≤ 5000; decide
          · split
            · split
              · show 0 ≤ x / 4096 ∧ x / 4096 ≤ 5000; omega
              · show 0 ≤ x / 4096 ∧ x / 4096 ≤ 5000; omega
            · next h4 =>
              have hc := gc (by omega)
              have hp := pby_rng (w := w) (j := t)
              have := sto_rng (v := x / 4096) (t := t) (w := w) (fun n hn => (hc.2 n hn).1) (pby w t).toNat (by omega)
              show 0 ≤ (m_sto (x / 4096) t w (pby w t).toNat).1 - t ∧ (m_sto (x / 4096) t w (pby w t).toNat).1 - t ≤ 5000
              omega
theorem plist_s {b : Mm} {n m : Nat} {i t : Int} (h : n = m + 1) : plist b n i t = (b 212 0 i, t) :: plist b m (i + 1) (t + (m_play (b 212 0 i) t b).1) := by subst h; rfl
theorem tkT_stop {most s : Int} {x : Int × Int} {xs : List (Int × Int)} (h : x.1 % 8 ≤ 2) (e : s = most) : tkT most s (x :: xs) = [] := by simp only [tkT]; rw [if_pos h, if_pos e]
theorem tkT_text {most s : Int} {x : Int × Int} {xs : List (Int × Int)} (h : x.1 % 8 ≤ 2) (e : s ≠ most) : tkT most s (x :: xs) = x :: tkT most (s + 1) xs := by simp only [tkT]; rw [if_pos h, if_neg e]
theorem tkT_oth {most s : Int} {x : Int × Int} {xs : List (Int × Int)} (h : ¬ x.1 % 8 ≤ 2) : tkT most s (x :: xs) = x :: tkT most s xs := by simp only [tkT]; rw [if_neg h]
def StP (b w : Mm) : Prop := FRp b w ∧ SB 1 w ∧ bB w
theorem StP.play {b w : Mm} (h : StP b w) {x t : Int} (g : LG1 x t w ∧ LGr (x % 8) (x / 4096) t w) : StP b (m_play x t w).2 := ⟨h.1.play, h.2.1.play h.2.2 g.1 g.2⟩
