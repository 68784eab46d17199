/-! two states alike, as far as they are looked at -/
theorem fl_v {w : Mm} {c : Nat} {lo n : Int} {f : Int → Int} {i : Int} : fl w c lo n f c 0 i = if lo ≤ i ∧ i < lo + n then f i else w c 0 i := by
  simp only [fl, true_and]
def EQv (T : Int → Prop) (s s' : Int) (V V' : Mm) : Prop :=
  V 201 0 s = V' 201 0 s' ∧ (∀ i, 0 ≤ i → i < V 201 0 s → V 200 0 (400 * s + i) = V' 200 0 (400 * s' + i)) ∧
  (∀ i, 0 ≤ i → i < 6 → V 202 0 (6 * s + i) = V' 202 0 (6 * s' + i) ∧ (V 202 0 (6 * s + i) ≠ -1 → V 203 0 (6 * s + i) = V' 203 0 (6 * s' + i))) ∧
  (∀ r, 0 ≤ r → r < 5 → T r → V 204 0 (5 * s + r) = V' 204 0 (5 * s' + r) ∧ ∀ e, 0 ≤ e → e < V 204 0 (5 * s + r) → V 205 0 (20 * s + 4 * r + e) = V' 205 0 (20 * s' + 4 * r + e) ∧ ∀ i, 0 ≤ i → i < V 205 0 (20 * s + 4 * r + e) → V 206 0 (400 * s + 80 * r + 20 * e + i) = V' 206 0 (400 * s' + 80 * r + 20 * e + i))
theorem EQv.refl {T : Int → Prop} {s : Int} {V : Mm} : EQv T s s V V := ⟨rfl, fun _ _ _ => rfl, fun _ _ _ => ⟨rfl, fun _ => rfl⟩, fun _ _ _ _ => ⟨rfl, fun _ _ _ => ⟨rfl, fun _ _ _ => rfl⟩⟩⟩
theorem EQv.symm {T : Int → Prop} {s s' : Int} {V V' : Mm} (h : EQv T s s' V V') : EQv T s' s V' V := by
  obtain ⟨h1, h2, h3, h4⟩ := h
  refine ⟨h1.symm, fun i a b => (h2 i a (by omega)).symm, fun i a b => ⟨(h3 i a b).1.symm, fun c => ((h3 i a b).2 (by rw [(h3 i a b).1]; exact c)).symm⟩, fun r a b t => ⟨(h4 r a b t).1.symm, fun e x y => ?_⟩⟩
  obtain ⟨g1, g2⟩ := h4 r a b t
  obtain ⟨g3, g4⟩ := g2 e x (by omega)
  exact ⟨g3.symm, fun i p q => (g4 i p (by omega)).symm⟩
theorem EQv.trans {T : Int → Prop} {s s' s2 : Int} {V V' V2 : Mm} (h : EQv T s s' V V') (k : EQv T s' s2 V' V2) : EQv T s s2 V V2 := by
  obtain ⟨h1, h2, h3, h4⟩ := h
  obtain ⟨k1, k2, k3, k4⟩ := k
  refine ⟨h1.trans k1, fun i a b => (h2 i a b).trans (k2 i a (by omega)), fun i a b => ⟨(h3 i a b).1.trans (k3 i a b).1, fun c => ((h3 i a b).2 c).trans ((k3 i a b).2 (by rw [← (h3 i a b).1]; exact c))⟩, fun r a b t => ⟨(h4 r a b t).1.trans (k4 r a b t).1, fun e x y => ?_⟩⟩
  obtain ⟨g1, g2⟩ := h4 r a b t
  obtain ⟨g3, g4⟩ := g2 e x y
  obtain ⟨q1, q2⟩ := k4 r a b t
  obtain ⟨q3, q4⟩ := q2 e x (by omega)
  exact ⟨g3.trans q3, fun i p q => (g4 i p q).trans (q4 i p (by omega))⟩
theorem EQv.mono {T T' : Int → Prop} {s s' : Int} {V V' : Mm} (h : EQv T s s' V V') (ht : ∀ r, 0 ≤ r → r < 5 → T' r → T r) : EQv T' s s' V V' := ⟨h.1, h.2.1, h.2.2.1, fun r a b t => h.2.2.2 r a b (ht r a b t)⟩
/-- the worlds may differ where no state is looked at -/
theorem EQv.cong {T : Int → Prop} {s s' : Int} {V V' W W' : Mm} (h : EQv T s s' V V') (e : ∀ c i, 200 ≤ c → c ≤ 206 → st0 c * s ≤ i → i < st0 c * s + st0 c → W c 0 i = V c 0 i) (e' : ∀ c i, 200 ≤ c → c ≤ 206 → st0 c * s' ≤ i → i < st0 c * s' + st0 c → W' c 0 i = V' c 0 i) (hl : V 201 0 s ≤ 400) (hc : ∀ r, 0 ≤ r → r < 5 → V 204 0 (5 * s + r) ≤ 4) (hE : ∀ i, 0 ≤ i → i < 20 → V 205 0 (20 * s + i) ≤ 20) : EQv T s s' W W' := by
  obtain ⟨h1, h2, h3, h4⟩ := h
  have zz : st0 200 = 400 ∧ st0 201 = 1 ∧ st0 202 = 6 ∧ st0 203 = 6 ∧ st0 204 = 5 ∧ st0 205 = 20 ∧ st0 206 = 400 := by simp [st0]
  obtain ⟨z0, z1, z2, z3, z4, z5, z6⟩ := zz
  have e200a : ∀ i, 400 * s ≤ i → i < 400 * s + 400 → W 200 0 i = V 200 0 i := fun i a b => e 200 i (by decide) (by decide) (by rw [z0]; exact a) (by rw [z0]; exact b)
  have e202a : ∀ i, 6 * s ≤ i → i < 6 * s + 6 → W 202 0 i = V 202 0 i := fun i a b => e 202 i (by decide) (by decide) (by rw [z2]; exact a) (by rw [z2]; exact b)
  have e203a : ∀ i, 6 * s ≤ i → i < 6 * s + 6 → W 203 0 i = V 203 0 i := fun i a b => e 203 i (by decide) (by decide) (by rw [z3]; exact a) (by rw [z3]; exact b)
  have e204a : ∀ i, 5 * s ≤ i → i < 5 * s + 5 → W 204 0 i = V 204 0 i := fun i a b => e 204 i (by decide) (by decide) (by rw [z4]; exact a) (by rw [z4]; exact b)
  have e205a : ∀ i, 20 * s ≤ i → i < 20 * s + 20 → W 205 0 i = V 205 0 i := fun i a b => e 205 i (by decide) (by decide) (by rw [z5]; exact a) (by rw [z5]; exact b)
  have e206a : ∀ i, 400 * s ≤ i → i < 400 * s + 400 → W 206 0 i = V 206 0 i := fun i a b => e 206 i (by decide) (by decide) (by rw [z6]; exact a) (by rw [z6]; exact b)
  have e201a : ∀ i, 1 * s ≤ i → i < 1 * s + 1 → W 201 0 i = V 201 0 i := fun i a b => e 201 i (by decide) (by decide) (by rw [z1]; exact a) (by rw [z1]; exact b)
  have e200b : ∀ i, 400 * s' ≤ i → i < 400 * s' + 400 → W' 200 0 i = V' 200 0 i := fun i a b => e' 200 i (by decide) (by decide) (by rw [z0]; exact a) (by rw [z0]; exact b)
  have e202b : ∀ i, 6 * s' ≤ i → i < 6 * s' + 6 → W' 202 0 i = V' 202 0 i := fun i a b => e' 202 i (by decide) (by decide) (by rw [z2]; exact a) (by rw [z2]; exact b)
  have e203b : ∀ i, 6 * s' ≤ i → i < 6 * s' + 6 → W' 203 0 i = V' 203 0 i := fun i a b => e' 203 i (by decide) (by decide) (by rw [z3]; exact a) (by rw [z3]; exact b)
  have e204b : ∀ i, 5 * s' ≤ i → i < 5 * s' + 5 → W' 204 0 i = V' 204 0 i := fun i a b => e' 204 i (by decide) (by decide) (by rw [z4]; exact a) (by rw [z4]; exact b)
  have e205b : ∀ i, 20 * s' ≤ i → i < 20 * s' + 20 → W' 205 0 i = V' 205 0 i := fun i a b => e' 205 i (by decide) (by decide) (by rw [z5]; exact a) (by rw [z5]; exact b)
  have e206b : ∀ i, 400 * s' ≤ i → i < 400 * s' + 400 → W' 206 0 i = V' 206 0 i := fun i a b => e' 206 i (by decide) (by decide) (by rw [z6]; exact a) (by rw [z6]; exact b)
  have e201b : ∀ i, 1 * s' ≤ i → i < 1 * s' + 1 → W' 201 0 i = V' 201 0 i := fun i a b => e' 201 i (by decide) (by decide) (by rw [z1]; exact a) (by rw [z1]; exact b)
  clear e e'
  have e1 : W 201 0 s = V 201 0 s := e201a s (by omega) (by omega)
  have e1' : W' 201 0 s' = V' 201 0 s' := e201b s' (by omega) (by omega)
  refine ⟨by rw [e1, e1', h1], fun i a b => ?_, fun i a b => ?_, fun r a b t => ?_⟩
  · rw [e1] at b
    rw [e200a _ (by omega) (by omega), e200b _ (by omega) (by omega)]; exact h2 i a b
  · rw [e202a _ (by omega) (by omega), e202b _ (by omega) (by omega), e203a _ (by omega) (by omega), e203b _ (by omega) (by omega)]; exact h3 i a b
  · have ec := e204a (5 * s + r) (by omega) (by omega)
    have ec' := e204b (5 * s' + r) (by omega) (by omega)
    have hc := hc r a b
    obtain ⟨g1, g2⟩ := h4 r a b t
    refine ⟨by rw [ec, ec', g1], fun x p q => ?_⟩
    rw [ec] at q
    obtain ⟨g3, g4⟩ := g2 x p q
    have el := e205a (20 * s + 4 * r + x) (by omega) (by omega)
    have el' := e205b (20 * s' + 4 * r + x) (by omega) (by omega)
    have hE := hE (4 * r + x) (by omega) (by omega)
    rw [show 20 * s + (4 * r + x) = 20 * s + 4 * r + x by omega] at hE
    refine ⟨by rw [el, el', g3], fun i u v => ?_⟩
    rw [el] at v
    rw [e206a _ (by omega) (by omega), e206b _ (by omega) (by omega)]
    exact g4 i u v
/-! what the changes of a state leave -/
theorem opn_201 {s q k j : Int} {w : Mm} : m_opens s q k w 201 0 j = if j = s then w 201 0 s + k else w 201 0 j := by
  unfold m_opens
  try dsimp only
  rw [fl_at (by decide), fl_at (by decide), fl_at (by decide), up_ii]
  simp (disch := decide) only [fl_at]
theorem opn_200 {s q k j : Int} {w : Mm} : m_opens s q k w 200 0 j = if 400 * s + q + k ≤ j ∧ j < 400 * s + q + k + (w 201 0 s - q) then w 200 0 (j - k) else w 200 0 j := by
  unfold m_opens
  try dsimp only
  rw [fl_at (by decide), fl_at (by decide), fl_at (by decide), up_k _ (by decide), fl_v]
theorem opn_202 {s q k j : Int} {w : Mm} : m_opens s q k w 202 0 j = if 6 * s ≤ j ∧ j < 6 * s + 6 then (if w 202 0 j = -1 then -1 else mvF (w 202 0 j) q k (bi (w 203 0 j = 1))) else w 202 0 j := by
  unfold m_opens
  try dsimp only
  rw [fl_at (by decide), fl_at (by decide), fl_v]
  simp (disch := decide) only [fl_at, up_k]
theorem cls_201 {s q k j : Int} {w : Mm} : m_closes s q k w 201 0 j = if j = s then w 201 0 s - k else w 201 0 j := by
  unfold m_closes
  try dsimp only
  rw [fl_at (by decide), fl_at (by decide), fl_at (by decide), fl_at (by decide), up_ii]
theorem cls_200 {s q k j : Int} {w : Mm} : m_closes s q k w 200 0 j = if 400 * s + q ≤ j ∧ j < 400 * s + q + (w 201 0 s - k - q) then w 200 0 (j + k) else w 200 0 j := by
  unfold m_closes
  try dsimp only
  rw [fl_at (by decide), fl_at (by decide), fl_at (by decide), fl_v, up_k _ (by decide)]
theorem cls_202 {s q k j : Int} {w : Mm} : m_closes s q k w 202 0 j = if 6 * s ≤ j ∧ j < 6 * s + 6 then dbF (w 202 0 j) q k else w 202 0 j := by
  unfold m_closes
  try dsimp only
  rw [fl_at (by decide), fl_at (by decide), fl_v]
  simp (disch := decide) only [fl_at, up_k]
/-- characters are inserted in both -/
theorem EQv.opens {T : Int → Prop} {s s' q k : Int} {V V' : Mm} {f f' : Int → Int} (h : EQv T s s' V V') (hq : 0 ≤ q ∧ q ≤ V 201 0 s) (hk : 0 ≤ k) (hf : ∀ i, 0 ≤ i → i < k → f (400 * s + q + i) = f' (400 * s' + q + i)) : EQv T s s' (fl (m_opens s q k V) 200 (400 * s + q) k f) (fl (m_opens s' q k V') 200 (400 * s' + q) k f') := by
  obtain ⟨h1, h2, h3, h4⟩ := h
  have e1 : fl (m_opens s q k V) 200 (400 * s + q) k f 201 0 s = V 201 0 s + k := by rw [fl_at (by decide), opn_201, if_pos rfl]
  have e1' : fl (m_opens s' q k V') 200 (400 * s' + q) k f' 201 0 s' = V' 201 0 s' + k := by rw [fl_at (by decide), opn_201, if_pos rfl]
  refine ⟨by rw [e1, e1', h1], fun i a b => ?_, fun i a b => ?_, fun r a b t => ?_⟩
  · rw [e1] at b
    rw [fl_v, fl_v, opn_200, opn_200]
    by_cases c1 : q ≤ i ∧ i < q + k
    · (repeat (first | rw [if_pos (by omega)] | rw [if_neg (by omega)]))
      have := hf (i - q) (by omega) (by omega)
      rw [show 400 * s + q + (i - q) = 400 * s + i by omega, show 400 * s' + q + (i - q) = 400 * s' + i by omega] at this
      exact this
    · (repeat (first | rw [if_pos (by omega)] | rw [if_neg (by omega)]))
      by_cases c2 : i < q
      · (repeat (first | rw [if_pos (by omega)] | rw [if_neg (by omega)]))
        exact h2 i a (by omega)
      · (repeat (first | rw [if_pos (by omega)] | rw [if_neg (by omega)]))
        have := h2 (i - k) (by omega) (by omega)
        rw [show 400 * s + (i - k) = 400 * s + i - k by omega, show 400 * s' + (i - k) = 400 * s' + i - k by omega] at this
        exact this
  · rw [fl_at (by decide), fl_at (by decide), fl_at (by decide), fl_at (by decide), opn_202, opn_202, opens_at (by decide), opens_at (by decide)]
    obtain ⟨g1, g2⟩ := h3 i a b
    by_cases c : V 202 0 (6 * s + i) = -1
    · (repeat (first | rw [if_pos (by omega)] | rw [if_neg (by omega)]))
      exact ⟨rfl, fun x => absurd rfl x⟩
    · (repeat (first | rw [if_pos (by omega)] | rw [if_neg (by omega)]))
      rw [← g1, ← g2 c]; exact ⟨rfl, fun _ => rfl⟩
  · simp (disch := decide) only [fl_at, opens_at]
    exact h4 r a b t
theorem dbF_ne {p q k : Int} (hp : 0 ≤ p) (hq : 0 ≤ q) : dbF p q k ≠ -1 := by unfold dbF; split <;> (try split) <;> omega
theorem EQv.closes {T : Int → Prop} {s s' q k : Int} {V V' : Mm} (h : EQv T s s' V V') (hq : 0 ≤ q ∧ q + k ≤ V 201 0 s) (hk : 0 ≤ k) : EQv T s s' (m_closes s q k V) (m_closes s' q k V') := by
  obtain ⟨h1, h2, h3, h4⟩ := h
  have e1 : m_closes s q k V 201 0 s = V 201 0 s - k := by rw [cls_201, if_pos rfl]
  have e1' : m_closes s' q k V' 201 0 s' = V' 201 0 s' - k := by rw [cls_201, if_pos rfl]
  refine ⟨by rw [e1, e1', h1], fun i a b => ?_, fun i a b => ?_, fun r a b t => ?_⟩
  · rw [e1] at b
    rw [cls_200, cls_200]
    by_cases c2 : i < q
    · (repeat (first | rw [if_pos (by omega)] | rw [if_neg (by omega)]))
      exact h2 i a (by omega)
    · (repeat (first | rw [if_pos (by omega)] | rw [if_neg (by omega)]))
      have := h2 (i + k) (by omega) (by omega)
      rw [show 400 * s + (i + k) = 400 * s + i + k by omega, show 400 * s' + (i + k) = 400 * s' + i + k by omega] at this
      exact this
  · rw [cls_202, cls_202, closes_at (by decide), closes_at (by decide)]
    (repeat (first | rw [if_pos (by omega)] | rw [if_neg (by omega)]))
    obtain ⟨g1, g2⟩ := h3 i a b
    rw [← g1]
    refine ⟨rfl, fun x => g2 fun y => x ?_⟩
    rw [y]; unfold dbF; rw [if_neg (by omega)]
    (repeat (first | rw [if_pos (by omega)] | rw [if_neg (by omega)]))
  · simp (disch := decide) only [closes_at]
    exact h4 r a b t
theorem EQv.put {T : Int → Prop} {s s' q c : Int} {V V' : Mm} (h : EQv T s s' V V') : EQv T s s' (up V 200 0 (400 * s + q) c) (up V' 200 0 (400 * s' + q) c) := by
  obtain ⟨h1, h2, h3, h4⟩ := h
  refine ⟨?_, fun i a b => ?_, fun i a b => ?_, fun r a b t => ?_⟩
  · rw [up_k _ (by decide), up_k _ (by decide)]; exact h1
  · rw [up_k _ (by decide)] at b
    rw [up_ii, up_ii]
    by_cases e : i = q
    · (repeat (first | rw [if_pos (by omega)] | rw [if_neg (by omega)]))
    · (repeat (first | rw [if_pos (by omega)] | rw [if_neg (by omega)]))
      exact h2 i a b
  · simp (disch := decide) only [up_k]; exact h3 i a b
  · simp (disch := decide) only [up_k]; exact h4 r a b t
theorem EQv.mark {T : Int → Prop} {s s' m p g g' : Int} {V V' : Mm} (h : EQv T s s' V V') (hg : p ≠ -1 → g = g') : EQv T s s' (up (up V 202 0 (6 * s + m) p) 203 0 (6 * s + m) g) (up (up V' 202 0 (6 * s' + m) p) 203 0 (6 * s' + m) g') := by
  obtain ⟨h1, h2, h3, h4⟩ := h
  refine ⟨?_, fun i a b => ?_, fun i a b => ?_, fun r a b t => ?_⟩
  · simp (disch := decide) only [up_k]; exact h1
  · simp (disch := decide) only [up_k] at b ⊢; exact h2 i a b
  · simp (disch := decide) only [up_k, up_ii]
    by_cases e : i = m
    · (repeat (first | rw [if_pos (by omega)] | rw [if_neg (by omega)]))
      exact ⟨rfl, hg⟩
    · (repeat (first | rw [if_pos (by omega)] | rw [if_neg (by omega)]))
      exact h3 i a b
  · simp (disch := decide) only [up_k]; exact h4 r a b t
theorem tak_205 {t s e k j : Int} {w : Mm} : m_tak t s e k w 205 0 j = if j = 20 * t + 4 * s + e then k else w 205 0 j := by
  unfold m_tak; rw [fl_at (by decide), up_ii]
theorem tak_206 {t s e k j : Int} {w : Mm} : m_tak t s e k w 206 0 j = if 400 * t + 80 * s + 20 * e ≤ j ∧ j < 400 * t + 80 * s + 20 * e + k then w 240 0 (j - (400 * t + 80 * s + 20 * e)) else w 206 0 j := by
  unfold m_tak; rw [fl_v]; simp (disch := decide) only [up_k]
theorem tak_at2 {t s e k : Int} {w : Mm} {c : Nat} {a i : Int} (h : c ≠ 205 ∧ c ≠ 206) : m_tak t s e k w c a i = w c a i := by
  unfold m_tak; rw [fl_at h.2, up_k _ h.1]
/-- a register is set in both -/
theorem EQv.reg {T : Int → Prop} {s s' r k : Int} {V V' : Mm} (h : EQv T s s' V V') (hr : 0 ≤ r ∧ r ≤ 3) (hk : 0 ≤ k ∧ k ≤ 20) (hc : ∀ x, 0 ≤ x → x < 5 → V 204 0 (5 * s + x) ≤ 4) (hE : ∀ i, 0 ≤ i → i < 20 → V 205 0 (20 * s + i) ≤ 20) (hb : ∀ i, 0 ≤ i → i < k → V 240 0 i = V' 240 0 i) : EQv T s s' (m_tak s r 0 k (up V 204 0 (5 * s + r) 1)) (m_tak s' r 0 k (up V' 204 0 (5 * s' + r) 1)) := by
  obtain ⟨h1, h2, h3, h4⟩ := h
  refine ⟨?_, fun i a b => ?_, fun i a b => ?_, fun x a b t => ?_⟩
  · simp (disch := decide) only [tak_at2, up_k]; exact h1
  · simp (disch := decide) only [tak_at2, up_k] at b ⊢; exact h2 i a b
  · simp (disch := decide) only [tak_at2, up_k]; exact h3 i a b
  · simp (disch := decide) only [tak_at2, up_ii, tak_205, tak_206, up_k]
    by_cases e : x = r
    · subst e
      rw [if_pos rfl, if_pos rfl]
      refine ⟨rfl, fun y p q => ?_⟩
      have : y = 0 := by omega
      subst this
      (repeat (first | rw [if_pos (by omega)] | rw [if_neg (by omega)]))
      refine ⟨rfl, fun i u v => ?_⟩
      (repeat (first | rw [if_pos (by omega)] | rw [if_neg (by omega)]))
      have := hb i u v
      rw [show 400 * s + 80 * x + 20 * 0 + i - (400 * s + 80 * x + 20 * 0) = i by omega, show 400 * s' + 80 * x + 20 * 0 + i - (400 * s' + 80 * x + 20 * 0) = i by omega]
      exact this
    · (repeat (first | rw [if_pos (by omega)] | rw [if_neg (by omega)]))
      obtain ⟨g1, g2⟩ := h4 x a b t
      have hc := hc x a b
      refine ⟨g1, fun y p q => ?_⟩
      obtain ⟨g3, g4⟩ := g2 y p q
      have hE := hE (4 * x + y) (by omega) (by omega)
      rw [show 20 * s + (4 * x + y) = 20 * s + 4 * x + y by omega] at hE
      (repeat (first | rw [if_pos (by omega)] | rw [if_neg (by omega)]))
      refine ⟨g3, fun i u v => ?_⟩
      (repeat (first | rw [if_pos (by omega)] | rw [if_neg (by omega)]))
      exact g4 i u v
theorem psh_204 {t k j : Int} {w : Mm} : m_psh t k w 204 0 j = if j = 5 * t + 4 then (if w 204 0 (5 * t + 4) < 4 then w 204 0 (5 * t + 4) + 1 else 4) else w 204 0 j := by
  unfold m_psh
  try dsimp only
  rw [tak_at2 (by decide), fl_at (by decide), fl_at (by decide), up_ii]
theorem psh_205 {t k j : Int} {w : Mm} : m_psh t k w 205 0 j = if j = 20 * t + 4 * 4 + 0 then k else if 20 * t + 16 + 1 ≤ j ∧ j < 20 * t + 16 + 1 + ((if w 204 0 (5 * t + 4) < 4 then w 204 0 (5 * t + 4) + 1 else 4) - 1) then w 205 0 (j - 1) else w 205 0 j := by
  unfold m_psh
  try dsimp only
  rw [tak_205, fl_at (by decide), fl_v, up_k _ (by decide)]
  all_goals simp (disch := decide) only [up_k]
theorem psh_206 {t k j : Int} {w : Mm} : m_psh t k w 206 0 j = if 400 * t + 80 * 4 + 20 * 0 ≤ j ∧ j < 400 * t + 80 * 4 + 20 * 0 + k then w 240 0 (j - (400 * t + 80 * 4 + 20 * 0)) else if 400 * t + 320 + 20 ≤ j ∧ j < 400 * t + 320 + 20 + 20 * ((if w 204 0 (5 * t + 4) < 4 then w 204 0 (5 * t + 4) + 1 else 4) - 1) then w 206 0 (j - 20) else w 206 0 j := by
  unfold m_psh
  try dsimp only
  rw [tak_206, fl_v]
  all_goals simp (disch := decide) only [up_k, fl_at]
theorem psh_at2 {t k : Int} {w : Mm} {c : Nat} {a i : Int} (h : c ≠ 204 ∧ c ≠ 205 ∧ c ≠ 206) : m_psh t k w c a i = w c a i := by
  unfold m_psh
  try dsimp only
  rw [tak_at2 h.2, fl_at h.2.2, fl_at h.2.1, up_k _ h.1]
theorem EQv.psh {T : Int → Prop} {s s' k : Int} {V V' : Mm} (h : EQv T s s' V V') (hk : 0 ≤ k ∧ k ≤ 20) (hc : ∀ x, 0 ≤ x → x < 5 → 0 ≤ V 204 0 (5 * s + x) ∧ V 204 0 (5 * s + x) ≤ 4) (hc' : V' 204 0 (5 * s' + 4) ≤ 4) (hr : ∀ x, 0 ≤ x → x < 4 → V 204 0 (5 * s + x) ≤ 1) (hE : ∀ i, 0 ≤ i → i < 20 → V 205 0 (20 * s + i) ≤ 20) (hb : ∀ i, 0 ≤ i → i < k → V 240 0 i = V' 240 0 i) : EQv T s s' (m_psh s k V) (m_psh s' k V') := by
  obtain ⟨h1, h2, h3, h4⟩ := h
  refine ⟨?_, fun i a b => ?_, fun i a b => ?_, fun x a b t => ?_⟩
  · simp (disch := decide) only [psh_at2]; exact h1
  · simp (disch := decide) only [psh_at2] at b ⊢; exact h2 i a b
  · simp (disch := decide) only [psh_at2]; exact h3 i a b
  · obtain ⟨g1, g2⟩ := h4 x a b t
    have hcx := hc x a b
    rw [psh_204, psh_204]
    by_cases e : x = 4
    · subst e
      rw [if_pos rfl, if_pos rfl, ← g1]
      refine ⟨rfl, fun y p q => ?_⟩
      rw [psh_205, psh_205, ← g1]
      by_cases ey : y = 0
      · subst ey
        (repeat (first | rw [if_pos (by omega)] | rw [if_neg (by omega)]))
        refine ⟨rfl, fun i u v => ?_⟩
        rw [psh_206, psh_206]
        (repeat (first | rw [if_pos (by omega)] | rw [if_neg (by omega)]))
        have := hb i u v
        rw [show 400 * s + 80 * 4 + 20 * 0 + i - (400 * s + 80 * 4 + 20 * 0) = i by omega, show 400 * s' + 80 * 4 + 20 * 0 + i - (400 * s' + 80 * 4 + 20 * 0) = i by omega]
        exact this
      · have hq2 : y - 1 < V 204 0 (5 * s + 4) ∧ y ≤ 3 := by split at q <;> omega
        have hy1 : y < (if V 204 0 (5 * s + 4) < 4 then V 204 0 (5 * s + 4) + 1 else 4) := q
        obtain ⟨g3, g4⟩ := g2 (y - 1) (by omega) hq2.1
        have hE := hE (16 + (y - 1)) (by omega) (by omega)
        rw [show 20 * s + (16 + (y - 1)) = 20 * s + 4 * 4 + y - 1 by omega] at hE
        rw [show 20 * s + 4 * 4 + (y - 1) = 20 * s + 4 * 4 + y - 1 by omega, show 20 * s' + 4 * 4 + (y - 1) = 20 * s' + 4 * 4 + y - 1 by omega] at g3
        (repeat (first | rw [if_pos (by omega)] | rw [if_neg (by omega)]))
        refine ⟨g3, fun i u v => ?_⟩
        rw [psh_206, psh_206, ← g1]
        (repeat (first | rw [if_pos (by omega)] | rw [if_neg (by omega)]))
        have := g4 i u (by rw [show 20 * s + 4 * 4 + (y - 1) = 20 * s + 4 * 4 + y - 1 by omega]; exact v)
        rw [show 400 * s + 80 * 4 + 20 * (y - 1) + i = 400 * s + 80 * 4 + 20 * y + i - 20 by omega, show 400 * s' + 80 * 4 + 20 * (y - 1) + i = 400 * s' + 80 * 4 + 20 * y + i - 20 by omega] at this
        exact this
    · have hrx := hr x a (by omega)
      (repeat (first | rw [if_pos (by omega)] | rw [if_neg (by omega)]))
      refine ⟨g1, fun y p q => ?_⟩
      obtain ⟨g3, g4⟩ := g2 y p q
      have hE := hE (4 * x + y) (by omega) (by omega)
      rw [show 20 * s + (4 * x + y) = 20 * s + 4 * x + y by omega] at hE
      rw [psh_205, psh_205]
      (repeat (first | rw [if_pos (by omega)] | rw [if_neg (by omega)]))
      refine ⟨g3, fun i u v => ?_⟩
      rw [psh_206, psh_206]
      (repeat (first | rw [if_pos (by omega)] | rw [if_neg (by omega)]))
      exact g4 i u v
theorem trn_205 {t j : Int} {w : Mm} : m_trn t w 205 0 j = if j = 20 * t + 4 * 4 + (w 204 0 (5 * t + 4) - 1) then w 205 0 (20 * t + 16) else if 20 * t + 16 ≤ j ∧ j < 20 * t + 16 + (w 204 0 (5 * t + 4) - 1) then w 205 0 (j + 1) else w 205 0 j := by
  unfold m_trn
  try dsimp only
  rw [tak_205, fl_at (by decide), fl_v, fl_at (by decide)]
theorem trn_206 {t j : Int} {w : Mm} : m_trn t w 206 0 j = if 400 * t + 80 * 4 + 20 * (w 204 0 (5 * t + 4) - 1) ≤ j ∧ j < 400 * t + 80 * 4 + 20 * (w 204 0 (5 * t + 4) - 1) + w 205 0 (20 * t + 16) then (if 0 ≤ j - (400 * t + 80 * 4 + 20 * (w 204 0 (5 * t + 4) - 1)) ∧ j - (400 * t + 80 * 4 + 20 * (w 204 0 (5 * t + 4) - 1)) < 0 + 20 then w 206 0 (400 * t + 320 + (j - (400 * t + 80 * 4 + 20 * (w 204 0 (5 * t + 4) - 1)))) else w 240 0 (j - (400 * t + 80 * 4 + 20 * (w 204 0 (5 * t + 4) - 1)))) else if 400 * t + 320 ≤ j ∧ j < 400 * t + 320 + 20 * (w 204 0 (5 * t + 4) - 1) then w 206 0 (j + 20) else w 206 0 j := by
  unfold m_trn
  try dsimp only
  rw [tak_206, fl_v, fl_at (by decide), fl_at (by decide), fl_v, fl_at (by decide), fl_at (by decide)]
theorem trn_at2 {t : Int} {w : Mm} {c : Nat} {a i : Int} (h : c ≠ 240 ∧ c ≠ 205 ∧ c ≠ 206) : m_trn t w c a i = w c a i := by
  unfold m_trn
  try dsimp only
  rw [tak_at2 h.2, fl_at h.2.2, fl_at h.2.1, fl_at h.1]
theorem EQv.trn {T : Int → Prop} {s s' : Int} {V V' : Mm} (h : EQv T s s' V V') (h4c : T 4 → 1 ≤ V 204 0 (5 * s + 4)) (hc : ∀ x, 0 ≤ x → x < 5 → 0 ≤ V 204 0 (5 * s + x) ∧ V 204 0 (5 * s + x) ≤ 4) (hr : ∀ x, 0 ≤ x → x < 4 → V 204 0 (5 * s + x) ≤ 1) (hE : ∀ i, 0 ≤ i → i < 20 → V 205 0 (20 * s + i) ≤ 20) (h1v : 1 ≤ V 204 0 (5 * s + 4)) (h1v' : 1 ≤ V' 204 0 (5 * s' + 4)) : EQv T s s' (m_trn s V) (m_trn s' V') := by
  obtain ⟨h1, h2, h3, h4⟩ := h
  refine ⟨?_, fun i a b => ?_, fun i a b => ?_, fun x a b t => ?_⟩
  · simp (disch := decide) only [trn_at2]; exact h1
  · simp (disch := decide) only [trn_at2] at b ⊢; exact h2 i a b
  · simp (disch := decide) only [trn_at2]; exact h3 i a b
  · obtain ⟨g1, g2⟩ := h4 x a b t
    have hcx := hc x a b
    rw [trn_at2 (by decide), trn_at2 (by decide)]
    refine ⟨g1, fun y p q => ?_⟩
    by_cases e : x = 4
    · subst e
      rw [trn_205, trn_205, ← g1]
      by_cases ey : y = V 204 0 (5 * s + 4) - 1
      · obtain ⟨g3, g4⟩ := g2 0 (by omega) (by omega)
        have hE := hE 16 (by omega) (by omega)
        rw [show 20 * s + 4 * 4 + 0 = 20 * s + 16 by omega, show 20 * s' + 4 * 4 + 0 = 20 * s' + 16 by omega] at g3
        (repeat (first | rw [if_pos (by omega)] | rw [if_neg (by omega)]))
        refine ⟨g3, fun i u v => ?_⟩
        rw [trn_206, trn_206, ← g1]
        (repeat (first | rw [if_pos (by omega)] | rw [if_neg (by omega)]))
        have := g4 i u (by rw [show 20 * s + 4 * 4 + 0 = 20 * s + 16 by omega]; exact v)
        rw [show 400 * s + 80 * 4 + 20 * 0 + i = 400 * s + 320 + (400 * s + 80 * 4 + 20 * y + i - (400 * s + 80 * 4 + 20 * (V 204 0 (5 * s + 4) - 1))) by omega, show 400 * s' + 80 * 4 + 20 * 0 + i = 400 * s' + 320 + (400 * s' + 80 * 4 + 20 * y + i - (400 * s' + 80 * 4 + 20 * (V 204 0 (5 * s + 4) - 1))) by omega] at this
        exact this
      · obtain ⟨g3, g4⟩ := g2 (y + 1) (by omega) (by omega)
        have hE := hE (16 + (y + 1)) (by omega) (by omega)
        rw [show 20 * s + (16 + (y + 1)) = 20 * s + 4 * 4 + y + 1 by omega] at hE
        rw [show 20 * s + 4 * 4 + (y + 1) = 20 * s + 4 * 4 + y + 1 by omega, show 20 * s' + 4 * 4 + (y + 1) = 20 * s' + 4 * 4 + y + 1 by omega] at g3
        (repeat (first | rw [if_pos (by omega)] | rw [if_neg (by omega)]))
        refine ⟨g3, fun i u v => ?_⟩
        rw [trn_206, trn_206, ← g1]
        (repeat (first | rw [if_pos (by omega)] | rw [if_neg (by omega)]))
        have := g4 i u (by rw [show 20 * s + 4 * 4 + (y + 1) = 20 * s + 4 * 4 + y + 1 by omega]; exact v)
        rw [show 400 * s + 80 * 4 + 20 * (y + 1) + i = 400 * s + 80 * 4 + 20 * y + i + 20 by omega, show 400 * s' + 80 * 4 + 20 * (y + 1) + i = 400 * s' + 80 * 4 + 20 * y + i + 20 by omega] at this
        exact this
    · obtain ⟨g3, g4⟩ := g2 y p q
      have hrx := hr x a (by omega)
      have hE := hE (4 * x + y) (by omega) (by omega)
      rw [show 20 * s + (4 * x + y) = 20 * s + 4 * x + y by omega] at hE
      rw [trn_205, trn_205]
      (repeat (first | rw [if_pos (by omega)] | rw [if_neg (by omega)]))
      refine ⟨g3, fun i u v => ?_⟩
      rw [trn_206, trn_206]
      (repeat (first | rw [if_pos (by omega)] | rw [if_neg (by omega)]))
      exact g4 i u v
