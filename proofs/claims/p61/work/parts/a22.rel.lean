/-! LIV along the reference's own steps -/
section LVB
variable {μ : MU} {G G' : Int → Int → Int} {ρ A A' B V V' b b' : Mm} {P lim q n v k t p i s : Int}
theorem ply_of (hk : 0 ≤ k ∧ k < 8) (hp : 0 ≤ p ∧ p < 512) : m_play (k + 8 * p + 4096 * v) t V = m_ply k p v t V ∧ (k + 8 * p + 4096 * v) % 8 = k ∧ (k + 8 * p + 4096 * v) / 8 % 512 = p ∧ (k + 8 * p + 4096 * v) / 4096 = v := by
  have e1 : (k + 8 * p + 4096 * v) % 8 = k := by omega
  have e2 : (k + 8 * p + 4096 * v) / 8 % 512 = p := by omega
  have e3 : (k + 8 * p + 4096 * v) / 4096 = v := by omega
  refine ⟨?_, e1, e2, e3⟩
  unfold m_play; rw [e1, e2, e3]
theorem pN_121 {f : Int → Int} {w : Mm} : ∀ n : Nat, m_poolN μ f n w 121 μ.1 0 = w 121 μ.1 0 + n
  | 0 => by simp only [m_poolN]; omega
  | n + 1 => by
    simp only [m_poolN]
    unfold m_pool
    rw [up_s, pN_121 n]; omega
theorem pN_v {f : Int → Int} {w : Mm} (h0 : 0 ≤ w 121 μ.1 0) : ∀ n : Nat, (∀ i : Int, 0 ≤ i → i < n → 0 ≤ f i ∧ f i < 256) → ∀ i : Int, 0 ≤ i → i < n → pby (m_poolN μ f n w) (w 121 μ.1 0 + i) = f i
  | 0, _, i, a, b => by omega
  | n + 1, hf, i, a, b => by
    simp only [m_poolN]
    have e := pN_121 (μ := μ) (f := f) (w := w) n
    by_cases y : i = n
    · rw [y, ← e]; exact pby_pool_s (by rw [e]; omega) (hf n (by omega) (by omega))
    · rw [pby_pool (by rw [e]; omega)]
      exact pN_v h0 n (fun i a b => hf i a (by omega)) i a (by omega)
/-- what the pool and the buffer ask of a step -/
theorem LIV.b0 (h : LIV μ G ρ A) : (0 ≤ A 122 μ.1 0 ∧ A 122 μ.1 0 ≤ A 120 μ.1 0) ∧ 0 ≤ A 123 μ.1 0 ∧ bPb A ∧ bB A := ⟨h.1.2.2.2.1, h.1.2.2.2.2.1, h.1.2.2.1, h.1.2.1⟩
theorem LIV.rep (h : LIV μ G ρ A) (h121 : 0 ≤ A 121 μ.1 0 ∧ A 121 μ.1 0 ≤ 520000) (hl : A 201 0 0 ≤ 400) (hq : 0 ≤ q ∧ q < A 201 0 0) (hv : 0 ≤ v ∧ v ≤ 126) (hG : ∀ k, 0 ≤ k → k < A 120 μ.1 0 → G' k = G k) (hG' : G' (A 120 μ.1 0) 0 = A 200 0 q) : LIV μ G' ρ (m_rep μ q v A) := by
  have hap : AP μ A (m_rep μ q v A) := AP.rep AP.r
  have hw : m_rep μ q v A 212 0 (A 120 μ.1 0) = 2 + 8 * q + 4096 * v := by rw [rep_212, if_pos rfl]
  obtain ⟨-, e1, e2, e3⟩ := ply_of (k := 2) (p := q) (v := v) (t := 0) (V := A) (by decide) (by omega)
  refine h.app rep_120 (rep_o (by decide)) (rep_o (by decide)) hap.2.2.1 (fun j a b => hap.2.2.2 j a b) (fun i a b => by rw [rep_o (by decide)]; exact h.b0.2.2.2 i a b) (h.b0.2.2.1.cong fun i => rep_o (by decide)) (fun r => rep_o (by decide)) (fun V eV uV sV bV pV => ?_) hG (fun _ j j0 j1 => ?_)
  · rw [hw, (ply_of (by decide) (by omega)).1, e1, e3]
    have l1 := eV.1
    refine ⟨⟨⟨by omega, ?_, ?_, ?_⟩, ?_⟩, ?_, ?_, ?_⟩
    · rw [e1, e2, e3]
      exact ⟨by omega, by omega, by omega, fun z => absurd z (by decide), fun z => absurd z (by decide), fun _ => ⟨by omega, by omega⟩, fun z => absurd z (by decide), fun z => absurd z (by decide), fun z => absurd z (by decide), fun z => absurd z (by decide), fun z => absurd z (by decide)⟩
    · rw [e1]; exact fun z => absurd z (by decide)
    · rw [e3]; exact fun _ i i0 i1 => by rw [pV, pby_cong (rep_o (by decide))]; exact h.b0.2.2.1 _ (by omega)
    · exact fun z => absurd z (by decide)
    · have k := eV.put (q := q) (c := v)
      refine EQv.buf k (fun c i x y => ?_) (fun c i x y => ?_)
      · unfold m_ply; rw [if_neg (by decide), if_neg (by decide), if_pos rfl, show (400 : Int) * 1 + q = 400 + q by omega]
      · unfold m_rep; rw [step_at (by omega), show (400 : Int) * 0 + q = q by omega]
    · intro r r0 r1 r2
      unfold m_ply; rw [if_neg (by decide), if_neg (by decide), if_pos rfl]; dsimp only; rw [up_k _ (by decide)]; exact uV r r0 r1 r2
    · unfold m_ply; rw [if_neg (by decide), if_neg (by decide), if_pos rfl, rep_o (by decide)]; omega
  · rw [hw] at j1 ⊢
    have e4 : wsz (2 + 8 * q + 4096 * v) = 1 := by unfold wsz; rw [if_pos e1]
    rw [e4] at j1
    rw [show j = 0 by omega, e2, hG', Int.add_zero]
theorem LIV.del (h : LIV μ G ρ A) (h121 : 0 ≤ A 121 μ.1 0 ∧ A 121 μ.1 0 ≤ 520000) (hl : A 201 0 0 ≤ 400) (hq : 0 ≤ q ∧ 0 ≤ n ∧ q + n ≤ A 201 0 0) (hG : ∀ k, 0 ≤ k → k < A 120 μ.1 0 → G' k = G k) (hG' : ∀ j, 0 ≤ j → j < n → G' (A 120 μ.1 0) j = A 200 0 (q + j)) : LIV μ G' ρ (m_del μ q n A) := by
  have hap : AP μ A (m_del μ q n A) := AP.del AP.r
  have d0 : ∀ {c : Nat} {a i : Int}, c ≠ 212 → c ≠ 120 → (c < 200 ∨ (202 < c ∧ c < 208) ∨ 209 < c) → m_del μ q n A c a i = A c a i := fun x y z => by rw [del_o ⟨x, y⟩, closes_at z]
  have hw : m_del μ q n A 212 0 (A 120 μ.1 0) = 1 + 8 * q + 4096 * n := by rw [del_212, if_pos rfl]
  obtain ⟨-, e1, e2, e3⟩ := ply_of (k := 1) (p := q) (v := n) (t := 0) (V := A) (by decide) (by omega)
  refine h.app del_120 (d0 (by decide) (by decide) (by decide)) (d0 (by decide) (by decide) (by decide)) hap.2.2.1 (fun j a b => hap.2.2.2 j a b) (fun i a b => by rw [d0 (by decide) (by decide) (by decide)]; exact h.b0.2.2.2 i a b) (h.b0.2.2.1.cong fun i => d0 (by decide) (by decide) (by decide)) (fun r => d0 (by decide) (by decide) (by decide)) (fun V eV uV sV bV pV => ?_) hG (fun _ j j0 j1 => ?_)
  · rw [hw, (ply_of (by decide) (by omega)).1, e1, e3]
    have l1 := eV.1
    refine ⟨⟨⟨by omega, ?_, ?_, ?_⟩, ?_⟩, ?_, ?_, ?_⟩
    · rw [e1, e2, e3]
      exact ⟨by omega, by omega, by omega, fun z => absurd z (by decide), fun _ => by omega, fun z => absurd z (by decide), fun z => absurd z (by decide), fun z => absurd z (by decide), fun z => absurd z (by decide), fun z => absurd z (by decide), fun z => absurd z (by decide)⟩
    · rw [e1]; exact fun z => absurd z (by decide)
    · rw [e3]; exact fun _ i i0 i1 => by rw [pV, pby_cong (d0 (by decide) (by decide) (by decide))]; exact h.b0.2.2.1 _ (by omega)
    · exact fun z => absurd z (by decide)
    · have k := eV.closes (q := q) (k := n) ⟨hq.1, by omega⟩ hq.2.1
      refine EQv.buf k (fun c i x y => ?_) (fun c i x y => ?_)
      · unfold m_ply; rw [if_neg (by decide), if_pos rfl]
      · exact del_o (by omega)
    · intro r r0 r1 r2
      unfold m_ply; rw [if_neg (by decide), if_pos rfl]; dsimp only; rw [closes_at (by decide)]; exact uV r r0 r1 r2
    · unfold m_ply; rw [if_neg (by decide), if_pos rfl, d0 (by decide) (by decide) (by decide)]; omega
  · rw [hw] at j1 ⊢
    have e4 : wsz (1 + 8 * q + 4096 * n) = n := by unfold wsz; rw [if_neg (by omega)]; exact e3
    rw [e4] at j1
    rw [e2, hG' j j0 j1]
theorem LIV.ins (h : LIV μ G ρ A) (h121 : 0 ≤ A 121 μ.1 0 ∧ A 121 μ.1 0 ≤ 520000) (hq : 0 ≤ q ∧ q ≤ A 201 0 0) (hn : 0 ≤ n ∧ A 201 0 0 + n ≤ 400) (hG : ∀ k, 0 ≤ k → k < A 120 μ.1 0 → G' k = G k) : LIV μ G' ρ (m_ins μ q n A) := by
  have hap : AP μ A (m_ins μ q n A) := AP.ins AP.r
  have d0 : ∀ {c : Nat} {a i : Int}, c ≠ 200 → c ≠ 212 → c ≠ 120 → c ≠ 213 → c ≠ 121 → (c < 200 ∨ (202 < c ∧ c < 208) ∨ 209 < c) → m_ins μ q n A c a i = A c a i := fun x y z u v t => by rw [ins_o ⟨x, y, z, u, v⟩, opens_at t]
  have hw : m_ins μ q n A 212 0 (A 120 μ.1 0) = 0 + 8 * q + 4096 * n := by rw [ins_212, if_pos rfl]; omega
  obtain ⟨-, e1, e2, e3⟩ := ply_of (k := 0) (p := q) (v := n) (t := 0) (V := A) (by decide) (by omega)
  have hbp : bPb (m_ins μ q n A) := h.b0.2.2.1.ins h.b0.2.2.2 h121.1 (by omega)
  have hpv : ∀ i, 0 ≤ i → i < n → pby (m_ins μ q n A) (A 121 μ.1 0 + i) = A 240 0 i := fun i i0 i1 => by
    have e121 : (fl (m_step μ 0 q n (m_opens 0 q n A)) 200 q n (fun i => A 240 0 (i - q))) 121 μ.1 0 = A 121 μ.1 0 := by rw [fl_at (by decide), step_at (by decide), opens_at (by decide)]
    have := pN_v (μ := μ) (f := fun i => A 240 0 i) (w := fl (m_step μ 0 q n (m_opens 0 q n A)) 200 q n (fun i => A 240 0 (i - q))) (by rw [e121]; exact h121.1) n.toNat (fun i a b => by have := h.b0.2.2.2 i a (by omega); omega) i i0 (by omega)
    rw [e121] at this
    exact this
  refine h.app ins_120 (d0 (by decide) (by decide) (by decide) (by decide) (by decide) (by decide)) (d0 (by decide) (by decide) (by decide) (by decide) (by decide) (by decide)) hap.2.2.1 (fun j a b => hap.2.2.2 j a b) (fun i a b => by rw [d0 (by decide) (by decide) (by decide) (by decide) (by decide) (by decide)]; exact h.b0.2.2.2 i a b) hbp (fun r => d0 (by decide) (by decide) (by decide) (by decide) (by decide) (by decide)) (fun V eV uV sV bV pV => ?_) hG (fun hk => ?_)
  · rw [hw, (ply_of (by decide) (by omega)).1, e1, e3]
    have l1 := eV.1
    refine ⟨⟨⟨by omega, ?_, ?_, ?_⟩, ?_⟩, ?_, ?_, ?_⟩
    · rw [e1, e2, e3]
      exact ⟨by omega, by omega, by omega, fun _ => by omega, fun z => absurd z (by decide), fun z => absurd z (by decide), fun z => absurd z (by decide), fun z => absurd z (by decide), fun z => absurd z (by decide), fun z => absurd z (by decide), fun z => absurd z (by decide)⟩
    · rw [e1]; exact fun z => absurd z (by decide)
    · rw [e3]; exact fun _ i i0 i1 => by rw [pV]; exact hbp _ (by omega)
    · exact fun z => absurd z (by decide)
    · have k := eV.opens (q := q) (k := n) (f := fun i => pby V (A 121 μ.1 0 + (i - (400 + q)))) (f' := fun i => A 240 0 (i - q)) ⟨hq.1, by omega⟩ hn.1 (fun i i0 i1 => by
        rw [show (400 : Int) * 1 + q + i - (400 + q) = i by omega, show (400 : Int) * 0 + q + i - q = i by omega, pV, hpv i i0 i1])
      refine EQv.buf k (fun c i x y => ?_) (fun c i x y => ?_)
      · unfold m_ply m_opn1; rw [if_pos rfl, show (400 : Int) * 1 + q = 400 + q by omega]
      · rw [show (400 : Int) * 0 + q = q by omega]
        unfold m_ins
        rw [poolN_at (by omega)]
        by_cases yc : c = 200
        · subst yc; rw [fl_v, fl_v, step_at (by decide)]
        · rw [fl_at yc, fl_at yc, step_at (by omega)]
    · intro r r0 r1 r2
      unfold m_ply m_opn1; rw [if_pos rfl]; dsimp only; rw [fl_at (by decide), opens_at (by decide)]; exact uV r r0 r1 r2
    · unfold m_ply; rw [if_pos rfl, ins_121 hn.1]
  · rw [hw, e1] at hk; omega
theorem LIV.mkp (h : LIV μ G ρ A) (h121 : 0 ≤ A 121 μ.1 0 ∧ A 121 μ.1 0 ≤ 520000) (hpt : 0 ≤ A 207 0 0 ∧ A 207 0 0 ≤ A 201 0 0) (hl : A 201 0 0 ≤ 400) (hi : 0 ≤ i ∧ i < 6) (hb : v = 0 ∨ v = 1) (hG : ∀ k, 0 ≤ k → k < A 120 μ.1 0 → G' k = G k) : LIV μ G' ρ (m_mkp μ i v A) := by
  have hap : AP μ A (m_mkp μ i v A) := by unfold m_mkp; exact (((AP.r.u (by decide)).u (by decide)).u (by decide)).step
  have d0 : ∀ {c : Nat} {a j : Int}, c ≠ 212 → c ≠ 120 → c ≠ 202 → c ≠ 203 → c ≠ 136 → m_mkp μ i v A c a j = A c a j := fun z1 z2 z3 z4 z5 => by
    unfold m_mkp; rw [step_at ⟨z1, z2⟩, up_k _ z4, up_k _ z3, up_k _ z5]
  have hw : m_mkp μ i v A 212 0 (A 120 μ.1 0) = 3 + 8 * A 207 0 0 + 4096 * (2 * i + v) := by
    unfold m_mkp; rw [stp_212, up_k _ (by decide), up_k _ (by decide), up_k _ (by decide), if_pos rfl]
  obtain ⟨-, e1, e2, e3⟩ := ply_of (k := 3) (p := A 207 0 0) (v := 2 * i + v) (t := 0) (V := A) (by decide) (by omega)
  refine h.app (by unfold m_mkp; rw [stp_120, up_k _ (by decide), up_k _ (by decide), up_k _ (by decide)]) (d0 (by decide) (by decide) (by decide) (by decide) (by decide)) (d0 (by decide) (by decide) (by decide) (by decide) (by decide)) hap.2.2.1 (fun j a b => hap.2.2.2 j a b) (fun i a b => by rw [d0 (by decide) (by decide) (by decide) (by decide) (by decide)]; exact h.b0.2.2.2 i a b) (h.b0.2.2.1.cong fun i => d0 (by decide) (by decide) (by decide) (by decide) (by decide)) (fun r => d0 (by decide) (by decide) (by decide) (by decide) (by decide)) (fun V eV uV sV bV pV => ?_) hG (fun hk => ?_)
  · rw [hw, (ply_of (by decide) (by omega)).1, e1, e3]
    have l1 := eV.1
    have em : m_ply 3 (A 207 0 0) (2 * i + v) (A 121 μ.1 0) V = (0, up (up V 202 0 (6 * 1 + i) (A 207 0 0)) 203 0 (6 * 1 + i) v) := by
      unfold m_ply
      rw [if_neg (by decide), if_neg (by decide), if_neg (by decide), if_pos rfl, if_neg (by omega), show (2 * i + v) / 2 = i by omega, show (2 * i + v) % 2 = v by omega, show (6 : Int) * 1 + i = 6 + i by omega]
    rw [em]
    refine ⟨⟨⟨by omega, ?_, ?_, ?_⟩, ?_⟩, ?_, ?_, ?_⟩
    · rw [e1, e2, e3]
      exact ⟨by omega, by omega, by omega, fun z => absurd z (by decide), fun z => absurd z (by decide), fun z => absurd z (by decide), fun _ => ⟨by omega, Or.inr (by omega)⟩, fun z => absurd z (by decide), fun z => absurd z (by decide), fun z => absurd z (by decide), fun z => absurd z (by decide)⟩
    · rw [e1]; exact fun z => absurd z (by decide)
    · rw [e3]; exact fun _ j i0 i1 => by rw [pV, pby_cong (d0 (by decide) (by decide) (by decide) (by decide) (by decide))]; exact h.b0.2.2.1 _ (by omega)
    · exact fun z => absurd z (by decide)
    · have k := eV.mark (m := i) (p := A 207 0 0) (g := v) (g' := v) (fun _ => rfl)
      refine EQv.buf k (fun c j x y => rfl) (fun c j x y => ?_)
      unfold m_mkp
      rw [step_at (by omega), show (6 : Int) * 0 + i = i by omega]
      by_cases y3 : c = 203
      · subst y3
        by_cases y4 : j = i
        · rw [y4, up_s, up_s]
        · rw [up_i _ _ _ _ _ _ y4, up_i _ _ _ _ _ _ y4, up_k _ (by decide), up_i _ _ _ _ _ _ y4, up_i _ _ _ _ _ _ y4]
      · rw [up_k _ y3, up_k _ y3]
        by_cases y5 : c = 202
        · subst y5
          by_cases y4 : j = i
          · rw [y4, up_s, up_s]
          · rw [up_i _ _ _ _ _ _ y4, up_i _ _ _ _ _ _ y4, up_k _ (by decide)]
        · rw [up_k _ y5, up_k _ y5, up_k _ (by omega)]
    · intro r r0 r1 r2
      dsimp only; rw [up_k _ (by decide), up_k _ (by decide)]; exact uV r r0 r1 r2
    · rw [d0 (by decide) (by decide) (by decide) (by decide) (by decide)]; omega
  · rw [hw, e1] at hk; omega
theorem LIV.unm (h : LIV μ G ρ A) (h121 : 0 ≤ A 121 μ.1 0 ∧ A 121 μ.1 0 ≤ 520000) (hi : 0 ≤ i ∧ i < 6) (hG : ∀ k, 0 ≤ k → k < A 120 μ.1 0 → G' k = G k) : LIV μ G' ρ (m_unm μ i A) := by
  have hap : AP μ A (m_unm μ i A) := by unfold m_unm; exact ((AP.r.u (by decide)).u (by decide)).step
  have d0 : ∀ {c : Nat} {a j : Int}, c ≠ 212 → c ≠ 120 → c ≠ 202 → c ≠ 136 → m_unm μ i A c a j = A c a j := fun z1 z2 z3 z5 => by
    unfold m_unm; rw [step_at ⟨z1, z2⟩, up_k _ z3, up_k _ z5]
  have hw : m_unm μ i A 212 0 (A 120 μ.1 0) = 3 + 8 * 511 + 4096 * (2 * i) := by
    unfold m_unm; rw [stp_212, up_k _ (by decide), up_k _ (by decide), if_pos rfl]
  obtain ⟨-, e1, e2, e3⟩ := ply_of (k := 3) (p := 511) (v := 2 * i) (t := 0) (V := A) (by decide) (by decide)
  refine h.app (by unfold m_unm; rw [stp_120, up_k _ (by decide), up_k _ (by decide)]) (d0 (by decide) (by decide) (by decide) (by decide)) (d0 (by decide) (by decide) (by decide) (by decide)) hap.2.2.1 (fun j a b => hap.2.2.2 j a b) (fun i a b => by rw [d0 (by decide) (by decide) (by decide) (by decide)]; exact h.b0.2.2.2 i a b) (h.b0.2.2.1.cong fun i => d0 (by decide) (by decide) (by decide) (by decide)) (fun r => d0 (by decide) (by decide) (by decide) (by decide)) (fun V eV uV sV bV pV => ?_) hG (fun hk => ?_)
  · rw [hw, (ply_of (by decide) (by decide)).1, e1, e3]
    have em : m_ply 3 511 (2 * i) (A 121 μ.1 0) V = (0, up (up V 202 0 (6 * 1 + i) (-1)) 203 0 (6 * 1 + i) 0) := by
      unfold m_ply
      rw [if_neg (by decide), if_neg (by decide), if_neg (by decide), if_pos rfl, if_pos rfl, show 2 * i / 2 = i by omega, show 2 * i % 2 = 0 by omega, show (6 : Int) * 1 + i = 6 + i by omega]
    rw [em]
    refine ⟨⟨⟨by omega, ?_, ?_, ?_⟩, ?_⟩, ?_, ?_, ?_⟩
    · rw [e1, e2, e3]
      exact ⟨by omega, by omega, by omega, fun z => absurd z (by decide), fun z => absurd z (by decide), fun z => absurd z (by decide), fun _ => ⟨by omega, Or.inl rfl⟩, fun z => absurd z (by decide), fun z => absurd z (by decide), fun z => absurd z (by decide), fun z => absurd z (by decide)⟩
    · rw [e1]; exact fun z => absurd z (by decide)
    · rw [e3]; exact fun _ j i0 i1 => by rw [pV, pby_cong (d0 (by decide) (by decide) (by decide) (by decide))]; exact h.b0.2.2.1 _ (by omega)
    · exact fun z => absurd z (by decide)
    · have k := eV.mark (m := i) (p := -1) (g := 0) (g' := A 203 0 i) (fun z => absurd rfl z)
      refine EQv.buf k (fun c j x y => rfl) (fun c j x y => ?_)
      unfold m_unm
      rw [step_at (by omega), show (6 : Int) * 0 + i = i by omega]
      by_cases y3 : c = 203
      · subst y3
        rw [up_k _ (by decide), up_k _ (by decide)]
        by_cases y4 : j = i
        · rw [y4, up_s]
        · rw [up_i _ _ _ _ _ _ y4, up_k _ (by decide)]
      · rw [up_k _ y3]
        by_cases y5 : c = 202
        · subst y5
          by_cases y4 : j = i
          · rw [y4, up_s, up_s]
          · rw [up_i _ _ _ _ _ _ y4, up_i _ _ _ _ _ _ y4, up_k _ (by decide)]
        · rw [up_k _ y5, up_k _ y5, up_k _ (by omega)]
    · intro r r0 r1 r2
      dsimp only; rw [up_k _ (by decide), up_k _ (by decide)]; exact uV r r0 r1 r2
    · rw [d0 (by decide) (by decide) (by decide) (by decide)]; omega
  · rw [hw, e1] at hk; omega
end LVB
