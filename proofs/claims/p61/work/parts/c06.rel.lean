/-! a store is tracked: its contents are told by a step -/
section LVT
variable {μ : MU} {G G' : Int → Int → Int} {ρ A A' V V' W Z b b' : Mm} {P lim s t r : Int}
/-- where the entries of a store lie in the pool -/
def qT (A : Mm) (s t : Int) : Nat → Int
  | 0 => t + 1
  | n + 1 => qT A s t n + (A 205 0 (4 * s + n) + 1)
def tLn (A : Mm) (s : Int) : Prop := ∀ e, 0 ≤ e → e < 4 → (0 ≤ A 205 0 (4 * s + e) ∧ A 205 0 (4 * s + e) ≤ 20) ∧ ∀ i, 0 ≤ i → i < 20 → 0 ≤ A 206 0 (80 * s + 20 * e + i) ∧ A 206 0 (80 * s + 20 * e + i) ≤ 126
theorem qT_up (hl : tLn A s) : ∀ n : Nat, n ≤ 4 → t + 1 ≤ qT A s t n
  | 0, _ => Int.le_refl _
  | n + 1, h => by
    have := qT_up hl n (by omega)
    have := (hl n (by omega) (by omega)).1
    show t + 1 ≤ qT A s t n + (A 205 0 (4 * s + n) + 1)
    omega
theorem qT_mn (hl : tLn A s) {e : Nat} : ∀ n : Nat, e < n → n ≤ 4 → qT A s t e + A 205 0 (4 * s + e) + 1 ≤ qT A s t n
  | 0, h, _ => absurd h (Nat.not_lt_zero _)
  | n + 1, h, h4 => by
    show _ ≤ qT A s t n + (A 205 0 (4 * s + n) + 1)
    by_cases c : e = n
    · subst c; omega
    · have := qT_mn (e := e) hl n (by omega) (by omega)
      have := (hl n (by omega) (by omega)).1
      omega
theorem tel_v (hl : tLn A s) (ht : 0 ≤ t) (hz : Z 121 μ.1 0 = t + 1) (hb : bPb Z) : ∀ n : Nat, n ≤ 4 → m_tel μ s A n Z 121 μ.1 0 = qT A s t n ∧ AP μ Z (m_tel μ s A n Z) ∧ bPb (m_tel μ s A n Z) ∧ ∀ e : Nat, e < n → pby (m_tel μ s A n Z) (qT A s t e) = A 205 0 (4 * s + e) ∧ ∀ i, 0 ≤ i → i < A 205 0 (4 * s + e) → pby (m_tel μ s A n Z) (qT A s t e + 1 + i) = A 206 0 (80 * s + 20 * e + i)
  | 0, _ => ⟨hz, AP.r, hb, fun e h => absurd h (Nat.not_lt_zero _)⟩
  | n + 1, h4 => by
    obtain ⟨i1, i2, i3, i4⟩ := tel_v hl ht hz hb n (by omega)
    obtain ⟨ln, lc⟩ := hl n (by omega) (by omega)
    have q0 := qT_up (t := t) hl n (by omega)
    obtain ⟨W, hW⟩ : ∃ W, W = m_pool μ (A 205 0 (4 * s + n)) (m_tel μ s A n Z) := ⟨_, rfl⟩
    have eW : m_tel μ s A (n + 1) Z = m_pEn μ s n A W := by rw [hW]; rfl
    have w121 : W 121 μ.1 0 = qT A s t n + 1 := by rw [hW, pool_n, i1]
    have pW : AP μ (m_tel μ s A n Z) W := by rw [hW]; exact AP.r.pool
    have bW : bPb W := by rw [hW]; exact i3.pool (by omega) (by omega)
    have w0 : pby W (qT A s t n) = A 205 0 (4 * s + n) := by
      have k := pby_pool_s (μ := μ) (v := A 205 0 (4 * s + n)) (w := m_tel μ s A n Z) (by omega) (by omega)
      rw [i1] at k; rw [hW]; exact k
    have pE : AP μ W (m_pEn μ s n A W) := AP.r.pEn
    have bf : ∀ i : Int, 0 ≤ i → i < ((A 205 0 (4 * s + n)).toNat : Int) → 0 ≤ A 206 0 (80 * s + 20 * n + i) ∧ A 206 0 (80 * s + 20 * n + i) ≤ 126 := fun i a c => lc i a (by omega)
    have e121 : m_pEn μ s n A W 121 μ.1 0 = qT A s t n + (A 205 0 (4 * s + n) + 1) := by
      unfold m_pEn; rw [pN_121, w121]; omega
    refine ⟨by rw [eW]; exact e121, ?_, ?_, fun e he => ?_⟩
    · rw [eW]; exact (i2.t pW).t pE
    · rw [eW]; unfold m_pEn; exact bW.poolN (by omega) _ bf
    · rw [eW]
      by_cases c : e = n
      · subst c
        refine ⟨(pE.2.2.2 _ (by omega) (by omega)).trans w0, fun i a c => ?_⟩
        have k := pN_v (μ := μ) (f := fun i => A 206 0 (80 * s + 20 * e + i)) (w := W) (by omega) (A 205 0 (4 * s + e)).toNat (fun i a c => by have := bf i a c; omega) i a (by omega)
        rw [w121] at k
        exact k
      · obtain ⟨k1, k2⟩ := i4 e (by omega)
        have m0 := qT_up (t := t) hl e (by omega)
        have m1 := qT_mn (t := t) hl (e := e) n (by omega) (by omega)
        have l1 := (hl e (by omega) (by omega)).1
        refine ⟨?_, fun i a d => ?_⟩
        · rw [pE.2.2.2 _ (by omega) (by omega), pW.2.2.2 _ (by omega) (by omega)]; exact k1
        · rw [pE.2.2.2 _ (by omega) (by omega), pW.2.2.2 _ (by omega) (by omega)]; exact k2 i a d
/-- the store is told -/
theorem tells_v (hl : tLn A s) (h0 : 0 ≤ A 121 μ.1 0) (hc : 0 ≤ A 204 0 s ∧ A 204 0 s ≤ 4) (hb : bPb A) :
    m_tells μ s A 121 μ.1 0 = qT A s (A 121 μ.1 0) (A 204 0 s).toNat ∧ AP μ A (m_tells μ s A) ∧ bPb (m_tells μ s A) ∧ pby (m_tells μ s A) (A 121 μ.1 0) = A 204 0 s ∧ ∀ e : Nat, (e : Int) < A 204 0 s → pby (m_tells μ s A) (qT A s (A 121 μ.1 0) e) = A 205 0 (4 * s + e) ∧ ∀ i, 0 ≤ i → i < A 205 0 (4 * s + e) → pby (m_tells μ s A) (qT A s (A 121 μ.1 0) e + 1 + i) = A 206 0 (80 * s + 20 * e + i) := by
  obtain ⟨Z, hZ⟩ : ∃ Z, Z = m_pool μ (A 204 0 s) (m_step μ 4 0 s A) := ⟨_, rfl⟩
  have s121 : m_step μ 4 0 s A 121 μ.1 0 = A 121 μ.1 0 := step_at (by decide)
  have z121 : Z 121 μ.1 0 = A 121 μ.1 0 + 1 := by rw [hZ, pool_n, s121]
  have zb : bPb Z := by rw [hZ]; exact (hb.cong fun i => step_at (by decide)).pool (by omega) (by omega)
  have zp : AP μ A Z := by rw [hZ]; exact AP.r.step.pool
  have z0 : pby Z (A 121 μ.1 0) = A 204 0 s := by
    have k := pby_pool_s (μ := μ) (v := A 204 0 s) (w := m_step μ 4 0 s A) (by omega) (by omega)
    rw [s121] at k; rw [hZ]; exact k
  obtain ⟨k1, k2, k3, k4⟩ := tel_v (μ := μ) (Z := Z) (t := A 121 μ.1 0) hl h0 z121 zb (A 204 0 s).toNat (by omega)
  have e : m_tells μ s A = m_tel μ s A (A 204 0 s).toNat Z := by rw [hZ]; rfl
  rw [e]
  refine ⟨k1, zp.t k2, k3, (k2.2.2.2 _ h0 (by omega)).trans z0, fun e he => k4 e (by omega)⟩
theorem tel_212 {j : Int} {Z : Mm} : ∀ n : Nat, m_tel μ s A n Z 212 0 j = Z 212 0 j
  | 0 => rfl
  | n + 1 => by
    show m_pEn μ s n A (m_pool μ (A 205 0 (4 * s + n)) (m_tel μ s A n Z)) 212 0 j = _
    rw [pEn_at (by decide), pool_at (by decide)]; exact tel_212 n
theorem tells_212 {j : Int} (h : j ≤ A 120 μ.1 0) : m_tells μ s A 212 0 j = if j = A 120 μ.1 0 then 4 + 8 * 0 + 4096 * s else A 212 0 j := by
  have e : ∀ (n : Nat) (Z : Mm), m_tel μ s A n Z 212 0 j = Z 212 0 j := fun n Z => tel_212 n
  unfold m_tells
  rw [e]
  have e2 : m_pool μ (A 204 0 s) (m_step μ 4 0 s A) 212 0 j = m_step μ 4 0 s A 212 0 j := pool_at (by decide)
  rw [e2, stp_212]
theorem sto_q (hl : tLn A s) (hv : ∀ e : Nat, (e : Int) < A 204 0 s → pby V (qT A s t e) = A 205 0 (4 * s + e)) : ∀ n : Nat, (n : Int) ≤ A 204 0 s → (m_sto s t V n).1 = qT A s t n
  | 0, _ => sto_z
  | n + 1, h => by
    rw [sto_s, sto_q hl hv n (by omega), hv n (by omega)]; rfl
theorem LIV.appT (h : LIV μ G ρ A) (e120 : A' 120 μ.1 0 = A 120 μ.1 0 + 1) (e122 : A' 122 μ.1 0 = A 122 μ.1 0) (e123 : A' 123 μ.1 0 = A 123 μ.1 0) (h212 : ∀ j, 0 ≤ j → j < A 120 μ.1 0 → A' 212 0 j = A 212 0 j) (hp : PAg (A 121 μ.1 0) A A') (hb : bB A') (h6 : bPb A')
    (key : ∀ V, EQv (Tkd A) 1 0 V A → Unt A V → SB 1 V → bB V → (∀ j, pby V j = pby A' j) → (LG1 (A' 212 0 (A 120 μ.1 0)) (A 121 μ.1 0) V ∧ LGr (A' 212 0 (A 120 μ.1 0) % 8) (A' 212 0 (A 120 μ.1 0) / 4096) (A 121 μ.1 0) V) ∧ EQv (Tkd A') 1 0 (m_play (A' 212 0 (A 120 μ.1 0)) (A 121 μ.1 0) V).2 A' ∧ Unt A' (m_play (A' 212 0 (A 120 μ.1 0)) (A 121 μ.1 0) V).2 ∧ A 121 μ.1 0 + (m_play (A' 212 0 (A 120 μ.1 0)) (A 121 μ.1 0) V).1 = A' 121 μ.1 0)
    (hG : ∀ k, 0 ≤ k → k < A 120 μ.1 0 → G' k = G k) (hG' : A' 212 0 (A 120 μ.1 0) % 8 = 1 ∨ A' 212 0 (A 120 μ.1 0) % 8 = 2 → ∀ j, 0 ≤ j → j < wsz (A' 212 0 (A 120 μ.1 0)) → G' (A 120 μ.1 0) j = A 200 0 (A' 212 0 (A 120 μ.1 0) / 8 % 512 + j)) : LIV μ G' ρ A' := by
  obtain ⟨k1, k2, k3, k4, k5, k6, k7⟩ := h.old e122 e123 h212 hp hb h6 hG
  obtain ⟨⟨h1, h2, h3, ⟨h4, h5⟩, h7, h8⟩, ⟨g1, g2, g3⟩, g4, g5, g6⟩ := h
  have hn : A 122 μ.1 0 + (lvN μ A : Int) = A 120 μ.1 0 := by unfold lvN; omega
  have en : lvN μ A' = lvN μ A + 1 := by unfold lvN; rw [e120, e122]; omega
  have eL : LVl μ A' = LVl μ A ++ [(A' 212 0 (A 120 μ.1 0), A 121 μ.1 0)] := by
    unfold LVl at k1 ⊢
    rw [en, e122, e123, plist_snoc, k1, k2, hn]
  obtain ⟨V, hV⟩ : ∃ V, V = m_playL (LVl μ A) (SWp ρ A') := ⟨_, rfl⟩
  rw [← hV] at k4 k5
  have eVA : EQv (Tkd A) 1 0 V A := (k4.mono (fun _ _ _ _ => trivial)).symm.trans g4
  have uV : Unt A V := fun r r0 r1 r2 => by
    have q := (k4.2.2.2 r r0 r1 trivial).1
    rw [show (5 : Int) + r = 5 * 1 + r by omega, ← q, show (5 : Int) * 1 + r = 5 + r by omega]; exact g5 r r0 r1 r2
  have pV : ∀ j, pby V j = pby A' j := fun j => by rw [hV, pby_L, pby_SWp]
  obtain ⟨⟨m1, m2⟩, m3, m4, m5⟩ := key V eVA uV k5.1 k5.2 pV
  have e1 : (m_play (A' 212 0 (A 120 μ.1 0)) (A 121 μ.1 0) A').1 = (m_play (A' 212 0 (A 120 μ.1 0)) (A 121 μ.1 0) V).1 := (play_1 pV).symm
  have hx0 : 0 ≤ A' 212 0 (A 120 μ.1 0) := m1.1.1
  have e2 : m_playL (LVl μ A') (SWp ρ A') = (m_play (A' 212 0 (A 120 μ.1 0)) (A 121 μ.1 0) V).2 := by rw [eL, playL_app, ← hV]; rfl
  refine ⟨⟨h1, hb, h6, by rw [e122, e120]; omega, by rw [e123]; exact h7, fun j a b => ?_⟩, ⟨?_, fun y hy => ?_, ?_⟩, ?_, ?_, ?_⟩
  · rw [e122] at a; rw [e120] at b
    by_cases y : j = A 120 μ.1 0
    · rw [y]; exact hx0
    · rw [h212 j (by omega) (by omega)]; exact h8 j a (by omega)
  · rw [eL, LGL_app, ← hV]; exact ⟨k3, ⟨m1, m2⟩, trivial⟩
  · rw [eL] at hy
    have nn := play1_nn (t := A 121 μ.1 0) (b := A') hx0
    rcases List.mem_append.mp hy with hy | hy
    · have := k7 y hy; rw [e1] at nn; omega
    · rw [List.mem_singleton.mp hy]; show A 121 μ.1 0 + (m_play (A' 212 0 (A 120 μ.1 0)) (A 121 μ.1 0) A').1 ≤ _; rw [e1]; omega
  · have key : ∀ (n : Nat) (i t : Int), ptE A' (n + 1) i t = ptE A' n i t + (m_play (A' 212 0 (i + n)) (ptE A' n i t) A').1 := fun n => by
      induction n with
      | zero => intro i t; simp only [ptE]; rw [show i + ((0 : Nat) : Int) = i by omega]
      | succ n ih =>
        intro i t
        rw [show ptE A' (n + 1 + 1) i t = ptE A' (n + 1) (i + 1) (t + (m_play (A' 212 0 i) t A').1) from rfl, ih, show i + 1 + (n : Int) = i + ((n + 1 : Nat) : Int) by omega]
        rfl
    rw [en, e122, e123, key, k2, hn, e1]; exact m5
  · rw [e2]; exact m3
  · rw [e2]; exact m4
  · rw [en, e122, e123]
    refine GNl_snoc _ _ _ _ k6 (fun hk j j0 j1 => ?_)
    rw [hn] at hk j1 ⊢
    rw [show plist A' (lvN μ A) (A 122 μ.1 0) (A 123 μ.1 0) = LVl μ A from k1, ← hV, hG' hk j j0 j1]
    obtain ⟨g0, gs, -, -⟩ := m1
    obtain ⟨t1, v1, p1, q0, q1, q2, -⟩ := gs
    have hw : A' 212 0 (A 120 μ.1 0) / 8 % 512 + j < V 201 0 1 := by
      rcases hk with hk | hk
      · have := q1 hk; unfold wsz at j1; rw [if_neg (by omega)] at j1; omega
      · have := q2 hk; unfold wsz at j1; rw [if_pos hk] at j1; omega
    have q := eVA.2.1 (A' 212 0 (A 120 μ.1 0) / 8 % 512 + j) (by omega) hw
    rw [show (400 : Int) * 1 + (A' 212 0 (A 120 μ.1 0) / 8 % 512 + j) = 400 + A' 212 0 (A 120 μ.1 0) / 8 % 512 + j by omega, show (400 : Int) * 0 + (A' 212 0 (A 120 μ.1 0) / 8 % 512 + j) = A' 212 0 (A 120 μ.1 0) / 8 % 512 + j by omega] at q
    exact q
theorem LIV.tel (h : LIV μ G ρ A) (h121 : 0 ≤ A 121 μ.1 0 ∧ A 121 μ.1 0 ≤ 519900) (hSB : SB 0 A) (hs : 0 ≤ s ∧ s < 5) (hT : A 211 0 s ≠ 1) (hG : ∀ k, 0 ≤ k → k < A 120 μ.1 0 → G' k = G k) : LIV μ G' ρ (up (m_tells μ s A) 211 0 s 1) := by
  have hl : tLn A s := fun e e0 e1 => ⟨hSB.2.2.2.2.1 _ (by omega) (by omega), fun i i0 i1 => hSB.2.2.2.2.2 _ (by omega) (by omega)⟩
  have hc := hSB.2.2.2.1 s (by omega) (by omega)
  obtain ⟨v1, v2, v3, v4, v5⟩ := tells_v (μ := μ) hl h121.1 ⟨hc.1, hc.2.1⟩ h.b0.2.2.1
  obtain ⟨C, hC⟩ : ∃ C, C = m_tells μ s A := ⟨_, rfl⟩
  rw [← hC] at v1 v2 v3 v4 v5 ⊢
  have u0 : ∀ {c : Nat} {a i : Int}, c ≠ 211 → up C 211 0 s 1 c a i = C c a i := fun z => up_k _ z _ _ _ _ _
  have c0 : ∀ {c : Nat} {a i : Int}, c ≠ 212 → c ≠ 120 → c ≠ 213 → c ≠ 121 → C c a i = A c a i := fun z1 z2 z3 z4 => by rw [hC]; exact tells_at ⟨z1, z2, z3, z4⟩
  have e211 : ∀ r, up C 211 0 s 1 211 0 r = if r = s then 1 else A 211 0 r := fun r => by
    by_cases e : r = s
    · rw [if_pos e, e, up_s]
    · rw [if_neg e, up_i _ _ _ _ _ _ e, c0 (by decide) (by decide) (by decide) (by decide)]
  have hw : up C 211 0 s 1 212 0 (A 120 μ.1 0) = 4 + 8 * 0 + 4096 * s := by rw [u0 (by decide), hC, tells_212 (Int.le_refl _), if_pos rfl]
  have pu : ∀ j, pby (up C 211 0 s 1) j = pby C j := fun j => pby_up (by decide)
  have hq1 := qT_up (t := A 121 μ.1 0) hl (A 204 0 s).toNat (by omega)
  refine h.appT (by rw [u0 (by decide), hC, tells_120]) (by rw [u0 (by decide), c0 (by decide) (by decide) (by decide) (by decide)]) (by rw [u0 (by decide), c0 (by decide) (by decide) (by decide) (by decide)]) (fun j a b => by rw [u0 (by decide)]; exact v2.2.2.1 j a b) (fun j a b => (pu j).trans (v2.2.2.2 j a b)) (h.b0.2.2.2.cong fun i => by rw [u0 (by decide), c0 (by decide) (by decide) (by decide) (by decide)]) (v3.cong fun i => u0 (by decide)) (fun V eV uV sV bV pV => ?_) hG (fun hk => ?_)
  · rw [hw]
    obtain ⟨f1, f2, f3, f4⟩ := ply_of (k := 4) (p := 0) (v := s) (t := A 121 μ.1 0) (V := V) (by decide) (by decide)
    have pV' : ∀ j, pby V j = pby C j := fun j => (pV j).trans (pu j)
    have g0 : pby V (A 121 μ.1 0) = A 204 0 s := (pV' _).trans v4
    have g1 : ∀ e : Nat, (e : Int) < A 204 0 s → pby V (qT A s (A 121 μ.1 0) e) = A 205 0 (4 * s + e) := fun e he => (pV' _).trans (v5 e he).1
    have g2 := sto_q (V := V) hl g1
    have g3 : ∀ n : Nat, (n : Int) < A 204 0 s → pby V (m_sto s (A 121 μ.1 0) V n).1 = A 205 0 (4 * s + n) := fun n hn => by rw [g2 n (by omega)]; exact g1 n hn
    have g4 : ∀ (n : Nat) (i : Int), (n : Int) < A 204 0 s → 0 ≤ i → i < A 205 0 (4 * s + n) → pby V ((m_sto s (A 121 μ.1 0) V n).1 + 1 + i) = A 206 0 (80 * s + 20 * n + i) := fun n i hn a d => by rw [g2 n (by omega), pV']; exact (v5 n hn).2 i a d
    have g5 : ∀ n : Nat, (n : Int) < pby V (A 121 μ.1 0) → pby V (m_sto s (A 121 μ.1 0) V n).1 ≤ 20 := fun n hn => by rw [g0] at hn; rw [g3 n hn]; exact (hl n (by omega) (by omega)).1.2
    have hT0 : (A 204 0 s).toNat ≤ 4 := by omega
    have em : m_play (4 + 8 * 0 + 4096 * s) (A 121 μ.1 0) V = ((m_sto s (A 121 μ.1 0) V (A 204 0 s).toNat).1 - A 121 μ.1 0, (m_sto s (A 121 μ.1 0) V (A 204 0 s).toNat).2) := by
      rw [f1]; unfold m_ply
      rw [if_neg (by decide), if_neg (by decide), if_neg (by decide), if_neg (by decide), if_neg (by decide), if_neg (by decide), g0]
    rw [em]
    have h206 := sto_206 (v := s) (t := A 121 μ.1 0) (w := V) g5 (A 204 0 s).toNat (by rw [g0]; omega)
    refine ⟨⟨⟨by omega, ?_, ?_, ?_⟩, ?_⟩, ⟨?_, fun i i0 i1 => ?_, fun i i0 i1 => ⟨?_, fun _ => ?_⟩, fun r r0 r1 rT => ?_⟩, fun r r0 r1 r2 => ?_, ?_⟩
    · rw [f2, f3, f4]
      exact ⟨by omega, by omega, by omega, fun z => absurd z (by decide), fun z => absurd z (by decide), fun z => absurd z (by decide), fun z => absurd z (by decide), fun _ => by omega, fun z => absurd z (by decide), fun z => absurd z (by decide), fun z => absurd z (by decide)⟩
    · rw [f2, f4]
      refine fun _ => ⟨by rw [g0]; omega, fun n hn => ?_⟩
      rw [g0] at hn
      refine ⟨g5 n (by rw [g0]; exact hn), fun i a d => ?_⟩
      rw [g3 n hn] at d
      have := (hl n (by omega) (by omega)).1
      rw [g4 n i hn a d]; exact ((hl n (by omega) (by omega)).2 i a (by omega)).2
    · rw [f2]; exact fun z => absurd rfl z
    · rw [f2, f4]; exact fun _ z => by rw [g0]; exact hc.2.2 (by omega)
    · dsimp only
      rw [sto_at (by decide), u0 (by decide), c0 (by decide) (by decide) (by decide) (by decide)]; exact eV.1
    · dsimp only at i1 ⊢
      rw [sto_at (by decide)] at i1 ⊢
      rw [u0 (by decide), c0 (by decide) (by decide) (by decide) (by decide)]; exact eV.2.1 i i0 i1
    · dsimp only
      rw [sto_at (by decide), u0 (by decide), c0 (by decide) (by decide) (by decide) (by decide)]; exact (eV.2.2.1 i i0 i1).1
    · next hne =>
      dsimp only at hne ⊢
      rw [sto_at (by decide)] at hne
      rw [sto_at (by decide), u0 (by decide), c0 (by decide) (by decide) (by decide) (by decide)]; exact (eV.2.2.1 i i0 i1).2 hne
    · dsimp only
      have rT' : (if r = s then (1 : Int) else A 211 0 r) = 1 := by rw [← e211]; exact rT
      rw [u0 (by decide), c0 (by decide) (by decide) (by decide) (by decide)]
      by_cases e : r = s
      · subst e
        rw [show (5 : Int) * 1 + r = 5 + r by omega, show (5 : Int) * 0 + r = r by omega, sto_204, g0]
        refine ⟨rfl, fun e e0 e1 => ?_⟩
        obtain ⟨en, rfl⟩ : ∃ en : Nat, e = en := ⟨e.toNat, by omega⟩
        rw [u0 (by decide), c0 (by decide) (by decide) (by decide) (by decide), show (20 : Int) * 1 + 4 * r + en = 20 + 4 * r + en by omega, sto_205, if_pos (by omega), show (20 + 4 * r + (en : Int) - (20 + 4 * r)).toNat = en by omega, g3 en e1, show (20 : Int) * 0 + 4 * r + en = 4 * r + en by omega]
        refine ⟨rfl, fun i i0 i1 => ?_⟩
        rw [u0 (by decide), c0 (by decide) (by decide) (by decide) (by decide), show (400 : Int) * 1 + 80 * r + 20 * en + i = 400 + 80 * r + 20 * en + i by omega, h206.1 en i (by omega) i0 (by rw [g3 en e1]; exact i1), g4 en i e1 i0 i1, show (400 : Int) * 0 + 80 * r + 20 * en + i = 80 * r + 20 * en + i by omega]
      · rw [if_neg e] at rT'
        obtain ⟨q1, q2⟩ := eV.2.2.2 r r0 r1 rT'
        rw [sto_204o (by omega)]
        refine ⟨q1, fun e2 e0 e1 => ?_⟩
        obtain ⟨q3, q4⟩ := q2 e2 e0 e1
        have c5 := sV.2.2.2.1 (5 * 1 + r) (by omega) (by omega)
        have e24 : e2 < 4 ∧ (r ≠ 4 → e2 = 0) := ⟨by omega, fun z => by have := c5.2.2 (by omega); omega⟩
        have x5 : (m_sto s (A 121 μ.1 0) V (A 204 0 s).toNat).2 205 0 (20 * 1 + 4 * r + e2) = V 205 0 (20 * 1 + 4 * r + e2) := by rw [sto_205, if_neg (by omega)]
        rw [x5, u0 (by decide), c0 (by decide) (by decide) (by decide) (by decide)]
        refine ⟨q3, fun i i0 i1 => ?_⟩
        have l0 := sV.2.2.2.2.1 (20 * 1 + 4 * r + e2) (by omega) (by omega)
        rw [u0 (by decide), c0 (by decide) (by decide) (by decide) (by decide), h206.2 _ (by omega)]
        exact q4 i i0 i1
    · have r2' : ¬ (if r = s then (1 : Int) else A 211 0 r) = 1 := by rw [← e211]; exact r2
      by_cases e : r = s
      · rw [if_pos e] at r2'; exact absurd rfl r2'
      · rw [if_neg e] at r2'
        dsimp only
        rw [sto_204o (by omega)]; exact uV r r0 r1 r2'
    · rw [u0 (by decide), v1]
      dsimp only
      rw [g2 _ (by omega)]; omega
  · rw [hw] at hk; omega
end LVT
