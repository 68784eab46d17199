/-! locality: components that a function neither reads nor writes may come from another world -/
def pat (K : Nat → Bool) (w B : Mm) : Mm := fun c a i => if K c = true then w c a i else B c a i
theorem pat_g {K : Nat → Bool} {w B : Mm} {c : Nat} (h : K c = false) (a i : Int) : pat K w B c a i = B c a i := by simp only [pat]; rw [if_neg (by rw [h]; decide)]
theorem pat_up {K : Nat → Bool} {w B : Mm} {c : Nat} (h : K c = false) (a i v : Int) : up (pat K w B) c a i v = pat K w (up B c a i v) := by
  funext c' a' i'
  simp only [up, pat]
  by_cases e : c' = c
  · subst e
    rw [if_neg (show ¬ K c' = true by rw [h]; decide)]
    simp [h]
  · simp [e]
theorem pat_fl {K : Nat → Bool} {w B : Mm} {c : Nat} (h : K c = false) (lo n : Int) (f : Int → Int) : fl (pat K w B) c lo n f = pat K w (fl B c lo n f) := by
  funext c' a' i'
  simp only [fl, pat]
  by_cases e : c' = c
  · subst e
    rw [if_neg (show ¬ K c' = true by rw [h]; decide)]
    simp [h]
  · simp [e]
theorem pat_pby {K : Nat → Bool} {w B : Mm} (h : K 213 = false) (j : Int) : pby (pat K w B) j = pby B j := pby_cong (pat_g h _ _)
/-- the reference's arrays are not among them -/
def KA (K : Nat → Bool) : Prop := ∀ c, 200 ≤ c → c ≤ 246 → K c = false
theorem KA.h {K : Nat → Bool} (hK : KA K) {c : Nat} (h1 : 200 ≤ c) (h2 : c ≤ 246) : K c = false := hK c h1 h2
theorem pat_opens {K : Nat → Bool} {w B : Mm} (hK : KA K) (s q k : Int) : m_opens s q k (pat K w B) = pat K w (m_opens s q k B) := by
  unfold m_opens
  simp (disch := exact hK.h (by decide) (by decide)) only [pat_up, pat_fl, pat_g]
theorem pat_closes {K : Nat → Bool} {w B : Mm} (hK : KA K) (s q k : Int) : m_closes s q k (pat K w B) = pat K w (m_closes s q k B) := by
  unfold m_closes
  simp (disch := exact hK.h (by decide) (by decide)) only [pat_up, pat_fl, pat_g]
theorem pat_tak {K : Nat → Bool} {w B : Mm} (hK : KA K) (t s e k : Int) : m_tak t s e k (pat K w B) = pat K w (m_tak t s e k B) := by
  unfold m_tak
  simp (disch := exact hK.h (by decide) (by decide)) only [pat_up, pat_fl, pat_g]
theorem pat_psh {K : Nat → Bool} {w B : Mm} (hK : KA K) (t k : Int) : m_psh t k (pat K w B) = pat K w (m_psh t k B) := by
  unfold m_psh
  simp (disch := first | exact hK.h (by decide) (by decide) | exact hK) only [pat_up, pat_fl, pat_g, pat_tak]
theorem pat_trn {K : Nat → Bool} {w B : Mm} (hK : KA K) (t : Int) : m_trn t (pat K w B) = pat K w (m_trn t B) := by
  unfold m_trn
  simp (disch := first | exact hK.h (by decide) (by decide) | exact hK) only [pat_up, pat_fl, pat_g, pat_tak]
theorem pat_sto {K : Nat → Bool} {w B : Mm} (hK : KA K) (v t : Int) : ∀ n, (m_sto v t (pat K w B) n).1 = (m_sto v t B n).1 ∧ (m_sto v t (pat K w B) n).2 = pat K w (m_sto v t B n).2 := fun n => by
  induction n with
  | zero =>
    refine ⟨by rw [sto_z, sto_z], ?_⟩
    simp only [m_sto]
    simp (disch := exact hK.h (by decide) (by decide)) only [pat_up, pat_pby]
  | succ n ih =>
    have h1 := ih.1
    refine ⟨by rw [sto_s, sto_s, h1, pat_pby (hK.h (by decide) (by decide))], ?_⟩
    simp only [m_sto]
    rw [h1, ih.2]
    simp (disch := exact hK.h (by decide) (by decide)) only [pat_up, pat_fl, pat_pby]
theorem pat_play {K : Nat → Bool} {w B : Mm} (hK : KA K) (x t : Int) : (m_play x t (pat K w B)).1 = (m_play x t B).1 ∧ (m_play x t (pat K w B)).2 = pat K w (m_play x t B).2 := by
  refine ⟨play_1 fun j => pat_pby (hK.h (by decide) (by decide)) j, ?_⟩
  unfold m_play m_ply
  split
  · show m_opn1 _ _ _ _ = pat K w (m_opn1 _ _ _ _)
    unfold m_opn1
    simp (disch := first | exact hK.h (by decide) (by decide) | exact hK) only [pat_opens, pat_fl, pat_pby]
  · split
    · exact pat_closes hK _ _ _
    · split
      · exact pat_up (hK.h (by decide) (by decide)) _ _ _
      · split
        · dsimp only
          simp (disch := exact hK.h (by decide) (by decide)) only [pat_up]
        · split
          · exact pat_trn hK _
          · split
            · split
              · dsimp only
                unfold m_buf
                simp (disch := first | exact hK.h (by decide) (by decide) | exact hK) only [pat_fl, pat_pby, pat_psh]
              · dsimp only
                unfold m_buf
                simp (disch := first | exact hK.h (by decide) (by decide) | exact hK) only [pat_fl, pat_up, pat_pby, pat_tak]
            · dsimp only
              rw [pat_pby (hK.h (by decide) (by decide))]
              exact (pat_sto hK _ _ _).2
theorem pat_LG1 {K : Nat → Bool} {w B : Mm} (hK : KA K) (x t : Int) : LG1 x t (pat K w B) ↔ LG1 x t B := by
  unfold LG1 LGs LGc LGb
  have e1 : ∀ n, (m_sto (x / 4096) t (pat K w B) n).1 = (m_sto (x / 4096) t B n).1 := fun n => (pat_sto hK _ _ n).1
  simp (disch := exact hK.h (by decide) (by decide)) only [pat_g, pat_pby, e1]
theorem pat_LGL {K : Nat → Bool} {w : Mm} (hK : KA K) : ∀ (L : List (Int × Int)) (B : Mm), LGL L (pat K w B) ↔ LGL L B
  | [], _ => Iff.rfl
  | x :: xs, B => by
    simp only [LGL]
    rw [pat_LG1 hK, (pat_play hK x.1 x.2).2, pat_LGL hK xs]
    unfold LGr
    rw [pat_pby (hK.h (by decide) (by decide))]
theorem pat_playL {K : Nat → Bool} {w : Mm} (hK : KA K) : ∀ (L : List (Int × Int)) (B : Mm), m_playL L (pat K w B) = pat K w (m_playL L B)
  | [], _ => rfl
  | x :: xs, B => by
    simp only [m_playL]
    rw [(pat_play hK x.1 x.2).2, pat_playL hK xs]
/-- all the reference's components but those of K agree -/
def PE (K : Nat → Bool) (w B : Mm) : Prop := ∀ c, K c = false → w c = B c
theorem PE.eq {K : Nat → Bool} {w B : Mm} (h : PE K w B) : w = pat K w B := by
  funext c a i
  simp only [pat]
  split
  · rfl
  · next e => rw [h c (by simpa using e)]
theorem LGL.pe {K : Nat → Bool} (hK : KA K) {L : List (Int × Int)} {w B : Mm} (h : PE K w B) (g : LGL L B) : LGL L w := by
  rw [h.eq]; exact (pat_LGL hK L B).mpr g
/-! playing leaves the other states alone -/
def F1 (w w' : Mm) : Prop := ∀ c a i, 200 ≤ c → c ≤ 206 → (i < st0 c ∨ 2 * st0 c ≤ i) → w' c a i = w c a i
theorem F1.r {w : Mm} : F1 w w := fun _ _ _ _ _ _ => rfl
theorem F1.t {w w1 w2 : Mm} (h : F1 w w1) (g : F1 w1 w2) : F1 w w2 := fun c a i x y z => (g c a i x y z).trans (h c a i x y z)
theorem F1.u {w w1 : Mm} (h : F1 w w1) {c : Nat} {a i v : Int} (hc : 206 < c ∨ (st0 c ≤ i ∧ i < 2 * st0 c)) : F1 w (up w1 c a i v) := by
  refine h.t fun c' a' i' x y z => ?_
  simp only [up]
  split
  · next e => obtain ⟨rfl, rfl, rfl⟩ := e; omega
  · rfl
theorem F1.f {w w1 : Mm} (h : F1 w w1) {c : Nat} {lo n : Int} {f : Int → Int} (hc : 206 < c ∨ (st0 c ≤ lo ∧ lo + n ≤ 2 * st0 c)) : F1 w (fl w1 c lo n f) := by
  refine h.t fun c' a' i' x y z => ?_
  simp only [fl]
  split
  · next e => obtain ⟨rfl, rfl, e1, e2⟩ := e; omega
  · rfl
theorem F1.opens {q k : Int} {w : Mm} (hq : 0 ≤ q ∧ 0 ≤ k) (hk : w 201 0 1 + k ≤ 400) : F1 w (m_opens 1 q k w) := by
  unfold m_opens
  refine F1.f (F1.f (F1.f (F1.u (F1.f F1.r ?_) ?_) ?_) (Or.inl (by decide))) (Or.inl (by decide)) <;> (right; simp [st0]; try omega)
theorem F1.closes {q k : Int} {w : Mm} (hq : 0 ≤ q ∧ 0 ≤ k) (hk : w 201 0 1 ≤ 400) : F1 w (m_closes 1 q k w) := by
  unfold m_closes
  refine F1.f (F1.f (F1.f (F1.f (F1.u F1.r ?_) ?_) ?_) (Or.inl (by decide))) (Or.inl (by decide)) <;> (right; simp [st0]; try omega)
theorem F1.tak {s e k : Int} {w w1 : Mm} (h : F1 w w1) (hs : 0 ≤ s ∧ s ≤ 4 ∧ 0 ≤ e ∧ e ≤ 3 ∧ k ≤ 20) : F1 w (m_tak 1 s e k w1) := by
  unfold m_tak
  refine F1.f (F1.u h ?_) ?_ <;> (right; simp [st0]; omega)
theorem F1.psh {k : Int} {w w1 : Mm} (h : F1 w w1) (hk : k ≤ 20) (hc : 0 ≤ w1 204 0 9) : F1 w (m_psh 1 k w1) := by
  unfold m_psh
  have hc : 0 ≤ (if w1 204 0 (5 * 1 + 4) < 4 then w1 204 0 (5 * 1 + 4) + 1 else 4) ∧ (if w1 204 0 (5 * 1 + 4) < 4 then w1 204 0 (5 * 1 + 4) + 1 else 4) ≤ 4 := by
    rw [show (5 * 1 + 4 : Int) = 9 from rfl]; split <;> omega
  generalize (if w1 204 0 (5 * 1 + 4) < 4 then w1 204 0 (5 * 1 + 4) + 1 else 4) = c1 at hc ⊢
  dsimp only
  refine F1.tak (F1.f (F1.f (F1.u h ?_) ?_) ?_) (by omega) <;> (right; simp [st0]; try omega)
theorem F1.trn {w w1 : Mm} (h : F1 w w1) (hc : 1 ≤ w1 204 0 9 ∧ w1 204 0 9 ≤ 4) (hl : w1 205 0 36 ≤ 20) : F1 w (m_trn 1 w1) := by
  unfold m_trn
  dsimp only
  rw [show (5 * 1 + 4 : Int) = 9 from rfl, show (20 * 1 + 16 : Int) = 36 from rfl]
  refine F1.tak (F1.f (F1.f (F1.f h (Or.inl (by decide))) ?_) ?_) (by omega) <;> (right; simp [st0]; try omega)
theorem F1.sto {v t : Int} {w : Mm} (hv : 0 ≤ v ∧ v ≤ 4) (ht : pby w t ≤ 4) (h : ∀ n : Nat, (n : Int) < pby w t → pby w (m_sto v t w n).1 ≤ 20) : ∀ n : Nat, (n : Int) ≤ pby w t → F1 w (m_sto v t w n).2
  | 0, _ => by
    simp only [m_sto]
    refine F1.u F1.r ?_
    right; simp [st0]; omega
  | n + 1, hn => by
    have h2 := h n (by omega)
    simp only [m_sto]
    refine F1.f (F1.u (F1.sto hv ht h n (by omega)) ?_) ?_ <;> (right; simp [st0]; omega)
theorem F1.play {x t : Int} {w : Mm} (h : SB 1 w) (g : LG1 x t w) : F1 w (m_play x t w).2 := by
  obtain ⟨g0, gs, gc, gb⟩ := g
  unfold LGs at gs
  obtain ⟨s1, s2, s3, k0, k1, k2, k3, k4, k5, k6, k7⟩ := gs
  have hL := h.1
  unfold bL1 at hL
  have hc9 := h.2.2.2.1 9 (by decide) (by decide)
  have hl36 := h.2.2.2.2.1 36 (by decide) (by decide)
  have hk8 : 0 ≤ x % 8 ∧ x % 8 < 8 := by omega
  unfold m_play m_ply
  generalize x % 8 = k at *
  generalize x / 8 % 512 = p at *
  generalize x / 4096 = v at *
  split
  · next h0 =>
    have := k0 h0
    refine F1.f (F1.opens (by omega) (by omega)) ?_
    right; simp [st0]; omega
  · split
    · next h1 => have := k1 h1; exact F1.closes (by omega) (by omega)
    · split
      · next h2 =>
        have := k2 h2
        refine F1.u F1.r ?_
        right; simp [st0]; omega
      · split
        · next h3 =>
          have := k3 h3
          refine F1.u (F1.u F1.r ?_) ?_ <;> (right; simp [st0]; omega)
        · split
          · next h6 => exact F1.trn F1.r ⟨k6 h6, hc9.2.1⟩ hl36.2
          · split
            · next h4 =>
              split
              · next h5 =>
                have := k5 h5
                refine F1.psh (F1.f F1.r (Or.inl (by decide))) (by omega) ?_
                show 0 ≤ fl w 240 0 v _ 204 0 9
                rw [fl_at (by decide)]; omega
              · next h5 =>
                have h7 : k = 7 := by omega
                have := k7 h7
                refine F1.tak (F1.u (F1.f F1.r (Or.inl (by decide))) ?_) (by omega)
                right; simp [st0]; omega
            · next h4 =>
              have h4 : k = 4 := by omega
              have := k4 h4
              have hc := gc h4
              have hp := pby_rng (w := w) (j := t)
              exact F1.sto (by omega) (by omega) (fun n hn => (hc.2 n hn).1) _ (by omega)
theorem F1.playL {L : List (Int × Int)} : ∀ {w : Mm}, SB 1 w → bB w → LGL L w → F1 w (m_playL L w) := by
  induction L with
  | nil => exact fun _ _ _ => F1.r
  | cons x xs ih => exact fun h hB g => (F1.play h g.1.1).t (ih (h.play hB g.1.1 g.1.2).1 (h.play hB g.1.1 g.1.2).2 g.2)
