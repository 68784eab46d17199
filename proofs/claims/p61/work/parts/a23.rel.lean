/-! LIV along the steps that set stores -/
section LVC
variable {μ : MU} {G G' : Int → Int → Int} {ρ A A' A1 A2 B Z V V' b b' : Mm} {P lim q n v k t p i s r : Int} {ch : Int → Int} {T : Int → Prop}
/-- worlds that differ in store r alone, which is not looked at -/
theorem EQv_but (hC : bC 0 A) (hE : bEl 0 A) (hT : ¬ T s) (hs : 0 ≤ s ∧ s < 5) (h1 : ∀ (c : Nat) (j : Int), 200 ≤ c → c ≤ 203 → A' c 0 j = A c 0 j) (h4 : ∀ j, j ≠ s → A' 204 0 j = A 204 0 j) (h5 : ∀ j, (j < 4 * s ∨ 4 * s + 4 ≤ j) → A' 205 0 j = A 205 0 j) (h6 : ∀ j, (j < 80 * s ∨ 80 * s + 80 ≤ j) → A' 206 0 j = A 206 0 j) : EQv T 0 0 A A' := by
  refine ⟨(h1 _ _ (by decide) (by decide)).symm, fun j _ _ => (h1 _ _ (by decide) (by decide)).symm, fun j _ _ => ⟨(h1 _ _ (by decide) (by decide)).symm, fun _ => (h1 _ _ (by decide) (by decide)).symm⟩, fun r r0 r1 hr => ?_⟩
  have hrs : r ≠ s := fun e => hT (by rw [← e]; exact hr)
  have c0 := hC (5 * 0 + r) (by omega) (by omega)
  refine ⟨(h4 _ (by omega)).symm, fun e e0 e1 => ?_⟩
  have e4 : e < 4 ∧ (r ≠ 4 → e = 0) := ⟨by omega, fun z => by have := c0.2.2 (by omega); omega⟩
  have l0 := hE (20 * 0 + 4 * r + e) (by omega) (by omega)
  refine ⟨(h5 _ (by omega)).symm, fun j j0 j1 => (h6 _ ?_).symm⟩
  omega
theorem LIV.cg (h : LIV μ G ρ A) (hb : bB A') (e : ∀ (c : Nat) (a i : Int), (120 ≤ c ∧ c ≤ 123) ∨ (200 ≤ c ∧ c ≤ 206) ∨ (211 ≤ c ∧ c ≤ 213) → A' c a i = A c a i) : LIV μ G ρ A' :=
  h.keep (e _ _ _ (by omega)) (e _ _ _ (by omega)) (e _ _ _ (by omega)) (e _ _ _ (by omega)) (fun j _ _ => e _ _ _ (by omega)) (fun j _ _ => pby_cong (e _ _ _ (by omega))) hb (h.b0.2.2.1.cong fun i => e _ _ _ (by omega)) (fun r => e _ _ _ (by omega)) (EQv.buf (V := A) (V' := A) EQv.refl (fun _ _ _ _ => rfl) (fun c i x y => e _ _ _ (by omega)))
/-- the ring turns, a step says so -/
theorem LIV.trn (h : LIV μ G ρ A) (h121 : 0 ≤ A 121 μ.1 0 ∧ A 121 μ.1 0 ≤ 520000) (hT : A 211 0 4 = 1) (h2 : 1 ≤ A 204 0 4) (hb : bB (m_step μ 6 0 0 (m_trn 0 A))) (hG : ∀ k, 0 ≤ k → k < A 120 μ.1 0 → G' k = G k) : LIV μ G' ρ (m_step μ 6 0 0 (m_trn 0 A)) := by
  have hap : AP μ A (m_step μ 6 0 0 (m_trn 0 A)) := AP.r.trn.step
  have d0 : ∀ {c : Nat} {a j : Int}, c ≠ 212 → c ≠ 120 → c ≠ 205 → c ≠ 206 → c ≠ 240 → m_step μ 6 0 0 (m_trn 0 A) c a j = A c a j := fun z1 z2 z3 z4 z5 => by rw [step_at ⟨z1, z2⟩, trn_at2 ⟨z5, z3, z4⟩]
  have hw : m_step μ 6 0 0 (m_trn 0 A) 212 0 (A 120 μ.1 0) = 6 + 8 * 0 + 4096 * 0 := by
    rw [stp_212, trn_at2 (by decide), if_pos rfl]
  refine h.app (by rw [stp_120, trn_at2 (by decide)]) (d0 (by decide) (by decide) (by decide) (by decide) (by decide)) (d0 (by decide) (by decide) (by decide) (by decide) (by decide)) hap.2.2.1 (fun j a b => hap.2.2.2 j a b) hb (h.b0.2.2.1.cong fun i => d0 (by decide) (by decide) (by decide) (by decide) (by decide)) (fun r => d0 (by decide) (by decide) (by decide) (by decide) (by decide)) (fun V eV uV sV bV pV => ?_) hG (fun hk => ?_)
  · rw [hw, (ply_of (by decide) (by decide)).1]
    have e4 : V 204 0 (5 * 1 + 4) = A 204 0 (5 * 0 + 4) := (eV.2.2.2 4 (by decide) (by decide) hT).1
    have e9 : V 204 0 9 = A 204 0 4 := e4
    have e5 : 1 ≤ V 204 0 (5 * 1 + 4) := by rw [e4, show (5 : Int) * 0 + 4 = 4 by decide]; exact h2
    have em : m_ply 6 0 0 (A 121 μ.1 0) V = (0, m_trn 1 V) := by
      unfold m_ply
      rw [if_neg (by decide), if_neg (by decide), if_neg (by decide), if_neg (by decide), if_pos rfl]
    rw [em]
    refine ⟨⟨⟨by decide, ?_, fun z => absurd z (by decide), ?_⟩, fun z => absurd z (by decide)⟩, ?_, ?_, ?_⟩
    · exact ⟨by omega, by decide, by decide, fun z => absurd z (by decide), fun z => absurd z (by decide), fun z => absurd z (by decide), fun z => absurd z (by decide), fun z => absurd z (by decide), fun z => absurd z (by decide), fun _ => by omega, fun z => absurd z (by decide)⟩
    · exact fun _ j i0 i1 => by rw [pV, pby_cong (d0 (by decide) (by decide) (by decide) (by decide) (by decide))]; exact h.b0.2.2.1 _ (by omega)
    · have hc : ∀ x, 0 ≤ x → x < 5 → 0 ≤ V 204 0 (5 * 1 + x) ∧ V 204 0 (5 * 1 + x) ≤ 4 := fun x a b => by have := sV.2.2.2.1 (5 * 1 + x) (by omega) (by omega); omega
      have hr1 : ∀ x, 0 ≤ x → x < 4 → V 204 0 (5 * 1 + x) ≤ 1 := fun x a b => (sV.2.2.2.1 (5 * 1 + x) (by omega) (by omega)).2.2 (by omega)
      have hE : ∀ i, 0 ≤ i → i < 20 → V 205 0 (20 * 1 + i) ≤ 20 := fun i a b => (sV.2.2.2.2.1 (20 * 1 + i) (by omega) (by omega)).2
      have k := eV.trn (fun _ => e5) hc hr1 hE e5 (by rw [show (5 : Int) * 0 + 4 = 4 by decide]; exact h2)
      exact EQv.buf k (fun c i x y => rfl) (fun c i x y => step_at (by omega))
    · intro r r0 r1 r2
      dsimp only; rw [trn_at2 (by decide)]; exact uV r r0 r1 r2
    · rw [d0 (by decide) (by decide) (by decide) (by decide) (by decide)]; dsimp only; omega
  · rw [hw] at hk; omega
/-- an entry is pushed, a step says so -/
theorem LIV.psh (h : LIV μ G ρ A) (h121 : 0 ≤ A 121 μ.1 0 ∧ A 121 μ.1 0 ≤ 520000) (hT : A 211 0 4 = 1) (hk : 0 ≤ k ∧ k ≤ 20) (hC : bC 0 A) (hZ : ∀ (c : Nat) (j : Int), 200 ≤ c → c ≤ 206 → Z c 0 j = A c 0 j) (hZ2 : ∀ j, 0 ≤ j → j < k → Z 240 0 j = ch j) (hA : ∀ (c : Nat) (j : Int), 200 ≤ c → c ≤ 206 → A' c 0 j = m_psh 0 k Z c 0 j)
    (e120 : A' 120 μ.1 0 = A 120 μ.1 0 + 1) (e121 : A' 121 μ.1 0 = A 121 μ.1 0 + k) (e122 : A' 122 μ.1 0 = A 122 μ.1 0) (e123 : A' 123 μ.1 0 = A 123 μ.1 0) (h212 : ∀ j, 0 ≤ j → j < A 120 μ.1 0 → A' 212 0 j = A 212 0 j) (hw : A' 212 0 (A 120 μ.1 0) = 5 + 8 * 0 + 4096 * k) (hp : PAg (A 121 μ.1 0) A A') (hpv : ∀ i, 0 ≤ i → i < k → pby A' (A 121 μ.1 0 + i) = ch i) (hb : bB A') (h6 : bPb A') (h211 : ∀ r, A' 211 0 r = A 211 0 r) (hG : ∀ k, 0 ≤ k → k < A 120 μ.1 0 → G' k = G k) : LIV μ G' ρ A' := by
  obtain ⟨-, e1, e2, e3⟩ := ply_of (k := 5) (p := 0) (v := k) (t := 0) (V := A) (by decide) (by decide)
  refine h.app e120 e122 e123 h212 hp hb h6 h211 (fun V eV uV sV bV pV => ?_) hG (fun hkk => ?_)
  · rw [hw, (ply_of (by decide) (by decide)).1, e1, e3]
    have em : m_ply 5 0 k (A 121 μ.1 0) V = (k, m_psh 1 k (m_buf k (A 121 μ.1 0) V)) := by
      unfold m_ply
      rw [if_neg (by decide), if_neg (by decide), if_neg (by decide), if_neg (by decide), if_neg (by decide), if_pos (by decide), if_pos rfl]
    rw [em]
    refine ⟨⟨⟨by omega, ?_, ?_, ?_⟩, ?_⟩, ?_, ?_, ?_⟩
    · rw [e1, e2, e3]
      exact ⟨by omega, by omega, by omega, fun z => absurd z (by decide), fun z => absurd z (by decide), fun z => absurd z (by decide), fun z => absurd z (by decide), fun z => absurd z (by decide), fun _ => hk.2, fun z => absurd z (by decide), fun z => absurd z (by decide)⟩
    · rw [e1]; exact fun z => absurd z (by decide)
    · rw [e3]; exact fun _ j i0 i1 => by rw [pV]; exact h6 _ (by omega)
    · exact fun z => absurd z (by decide)
    · have hb1 : ∀ (c : Nat) (a i : Int), c ≠ 240 → m_buf k (A 121 μ.1 0) V c a i = V c a i := fun c a i z => buf_at2 z
      have eV1 : EQv (Tkd A) 1 0 (m_buf k (A 121 μ.1 0) V) Z := EQv.buf eV (fun c i x y => hb1 c 0 i (by omega)) (fun c i x y => hZ c i x y)
      have hc : ∀ x, 0 ≤ x → x < 5 → 0 ≤ m_buf k (A 121 μ.1 0) V 204 0 (5 * 1 + x) ∧ m_buf k (A 121 μ.1 0) V 204 0 (5 * 1 + x) ≤ 4 := fun x a b => by rw [hb1 _ _ _ (by decide)]; have := sV.2.2.2.1 (5 * 1 + x) (by omega) (by omega); omega
      have hr1 : ∀ x, 0 ≤ x → x < 4 → m_buf k (A 121 μ.1 0) V 204 0 (5 * 1 + x) ≤ 1 := fun x a b => by rw [hb1 _ _ _ (by decide)]; exact (sV.2.2.2.1 (5 * 1 + x) (by omega) (by omega)).2.2 (by omega)
      have hE : ∀ i, 0 ≤ i → i < 20 → m_buf k (A 121 μ.1 0) V 205 0 (20 * 1 + i) ≤ 20 := fun i a b => by rw [hb1 _ _ _ (by decide)]; exact (sV.2.2.2.2.1 (20 * 1 + i) (by omega) (by omega)).2
      have q := eV1.psh hk hc (by rw [hZ _ _ (by decide) (by decide)]; have := hC (5 * 0 + 4) (by omega) (by omega); omega) hr1 hE (fun i i0 i1 => by
        unfold m_buf; rw [fl_v, if_pos (by omega), pV, hpv i i0 i1, hZ2 i i0 i1])
      exact EQv.buf q (fun c i x y => rfl) (fun c i x y => hA c i x y)
    · intro r r0 r1 r2
      have hr4 : r ≠ 4 := fun e => r2 (by rw [e]; exact hT)
      dsimp only; rw [psh_204, if_neg (by omega), buf_at2 (by decide)]; exact uV r r0 r1 r2
    · rw [e121]
  · rw [hw, e1] at hkk; omega
/-- a register is set, a step says so -/
theorem LIV.reg (h : LIV μ G ρ A) (h121 : 0 ≤ A 121 μ.1 0 ∧ A 121 μ.1 0 ≤ 520000) (hr : 0 ≤ r ∧ r ≤ 3) (hT : A 211 0 r = 1) (hk : 0 ≤ k ∧ k ≤ 20) (hZ : ∀ (c : Nat) (j : Int), 200 ≤ c → c ≤ 206 → Z c 0 j = A c 0 j) (hZ2 : ∀ j, 0 ≤ j → j < k → Z 240 0 j = ch j) (hA : ∀ (c : Nat) (j : Int), 200 ≤ c → c ≤ 206 → A' c 0 j = m_tak 0 r 0 k (up Z 204 0 (5 * 0 + r) 1) c 0 j)
    (e120 : A' 120 μ.1 0 = A 120 μ.1 0 + 1) (e121 : A' 121 μ.1 0 = A 121 μ.1 0 + k) (e122 : A' 122 μ.1 0 = A 122 μ.1 0) (e123 : A' 123 μ.1 0 = A 123 μ.1 0) (h212 : ∀ j, 0 ≤ j → j < A 120 μ.1 0 → A' 212 0 j = A 212 0 j) (hw : A' 212 0 (A 120 μ.1 0) = 7 + 8 * r + 4096 * k) (hp : PAg (A 121 μ.1 0) A A') (hpv : ∀ i, 0 ≤ i → i < k → pby A' (A 121 μ.1 0 + i) = ch i) (hb : bB A') (h6 : bPb A') (h211 : ∀ r, A' 211 0 r = A 211 0 r) (hG : ∀ k, 0 ≤ k → k < A 120 μ.1 0 → G' k = G k) : LIV μ G' ρ A' := by
  obtain ⟨-, e1, e2, e3⟩ := ply_of (k := 7) (p := r) (v := k) (t := 0) (V := A) (by decide) (by omega)
  refine h.app e120 e122 e123 h212 hp hb h6 h211 (fun V eV uV sV bV pV => ?_) hG (fun hkk => ?_)
  · rw [hw, (ply_of (by decide) (by omega)).1, e1, e3]
    have em : m_ply 7 r k (A 121 μ.1 0) V = (k, m_tak 1 r 0 k (up (m_buf k (A 121 μ.1 0) V) 204 0 (5 * 1 + r) 1)) := by
      unfold m_ply
      rw [if_neg (by decide), if_neg (by decide), if_neg (by decide), if_neg (by decide), if_neg (by decide), if_pos (by decide), if_neg (by decide), show (5 : Int) * 1 + r = 5 + r by omega]
    rw [em]
    refine ⟨⟨⟨by omega, ?_, ?_, ?_⟩, ?_⟩, ?_, ?_, ?_⟩
    · rw [e1, e2, e3]
      exact ⟨by omega, by omega, by omega, fun z => absurd z (by decide), fun z => absurd z (by decide), fun z => absurd z (by decide), fun z => absurd z (by decide), fun z => absurd z (by decide), fun z => absurd z (by decide), fun z => absurd z (by decide), fun _ => ⟨hr.2, hk.2⟩⟩
    · rw [e1]; exact fun z => absurd z (by decide)
    · rw [e3]; exact fun _ j i0 i1 => by rw [pV]; exact h6 _ (by omega)
    · exact fun z => absurd z (by decide)
    · have hb1 : ∀ (c : Nat) (a i : Int), c ≠ 240 → m_buf k (A 121 μ.1 0) V c a i = V c a i := fun c a i z => buf_at2 z
      have eV1 : EQv (Tkd A) 1 0 (m_buf k (A 121 μ.1 0) V) Z := EQv.buf eV (fun c i x y => hb1 c 0 i (by omega)) (fun c i x y => hZ c i x y)
      have hc : ∀ x, 0 ≤ x → x < 5 → m_buf k (A 121 μ.1 0) V 204 0 (5 * 1 + x) ≤ 4 := fun x a b => by rw [hb1 _ _ _ (by decide)]; have := sV.2.2.2.1 (5 * 1 + x) (by omega) (by omega); omega
      have hE : ∀ i, 0 ≤ i → i < 20 → m_buf k (A 121 μ.1 0) V 205 0 (20 * 1 + i) ≤ 20 := fun i a b => by rw [hb1 _ _ _ (by decide)]; exact (sV.2.2.2.2.1 (20 * 1 + i) (by omega) (by omega)).2
      have q := eV1.reg hr hk hc hE (fun i i0 i1 => by
        unfold m_buf; rw [fl_v, if_pos (by omega), pV, hpv i i0 i1, hZ2 i i0 i1])
      exact EQv.buf q (fun c i x y => rfl) (fun c i x y => hA c i x y)
    · intro r' r0 r1 r2
      have hr4 : r' ≠ r := fun e => r2 (by rw [e]; exact hT)
      dsimp only; rw [tak_at2 (by decide), up_i _ _ _ _ _ _ (by omega), buf_at2 (by decide)]; exact uV r' r0 r1 r2
    · rw [e121]
  · rw [hw, e1] at hkk; omega
end LVC
