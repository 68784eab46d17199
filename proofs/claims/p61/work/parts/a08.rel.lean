/-! the class fits the reference: stores -/
section RLT
variable {p : RP} {w W A A' : Mm} {μ : MU} {f q n b x lo v r g m i k s : Int} {c : Int → Int} {L : List Int} {gf : Int → Int}
/-- how many entries a store has, as the class counts them -/
theorem vSr.ecn (h : vSr c w s A i r) (h00 : w 0 0 0 = 0) (hr : 0 ≤ r) : m_ecn w s r = A 204 0 (5 * i + r) := by
  obtain ⟨h1, h2⟩ := h
  have hnz : ∀ e, 0 ≤ e → e < A 204 0 (5 * i + r) → w 3 (w 31 s 0) (r + e) ≠ 0 := fun e e0 e1 z => by
    have := ((h2 e e0 (by omega)).1 e1).1.1
    rw [z] at this; omega
  have hs : 0 ≤ m_slt r := by omega
  unfold m_ecn
  rcases fnd_spec (fun i => w 3 (w 31 s 0) i) 0 (m_slt r).toNat r with ⟨k1, k2⟩ | ⟨k1, k2, k3, k4⟩
  · rw [if_pos k1]
    by_cases y : A 204 0 (5 * i + r) < m_slt r
    · exact absurd ((h2 (A 204 0 (5 * i + r)) h1.1 y).2 (Int.le_refl _)) (k2 (r + A 204 0 (5 * i + r)) (by omega) (by omega))
    · omega
  · rw [if_neg (by omega)]
    have y1 : ¬ fnd (fun i => w 3 (w 31 s 0) i) 0 (m_slt r).toNat r - r < A 204 0 (5 * i + r) := fun y => by
      have := hnz _ (by omega) y
      rw [show r + (fnd (fun i => w 3 (w 31 s 0) i) 0 (m_slt r).toNat r - r) = fnd (fun i => w 3 (w 31 s 0) i) 0 (m_slt r).toNat r by omega] at this
      exact this k3
    have y2 : ¬ A 204 0 (5 * i + r) < fnd (fun i => w 3 (w 31 s 0) i) 0 (m_slt r).toNat r - r := fun y =>
      absurd ((h2 (A 204 0 (5 * i + r)) h1.1 (by omega)).2 (Int.le_refl _)) (k4 (r + A 204 0 (5 * i + r)) (by omega) (by omega))
    omega
/-- stores change -/
theorem RLm.sto (h : RLm p μ f L w A) (hl : 0 ≤ A 122 μ.1 0 ∧ A 122 μ.1 0 ≤ A 120 μ.1 0) (u : UPd (pc_ p) (fun b k => (b = 15 ∧ k = 3) ∨ (b = 1 ∧ k = 91)) w W) (e : ∀ (k : Nat) (a i : Int), k ≠ 3 → k ≠ 91 → W k a i = w k a i)
    (hA : ∀ (k : Nat) (a j : Int), k ≠ 136 → k ≠ 204 → k ≠ 205 → k ≠ 206 → k ≠ 240 → A' k a j = A k a j) (hv : ∀ r, 0 ≤ r → r < 5 → vSr (pc_ p) W (w 11 (w 41 f 0) 0) A' 0 r) : RLm p μ f L W A' := by
  obtain ⟨hO, hL, ⟨hV, hQ, hLc⟩, hSp⟩ := id h
  have hf := hO.2.1.1
  have hs := hO.2.2.1.1.1
  have hB := hO.2.2.1.1.2
  have hS := SDb.std (lo := A 122 μ.1 0) (b0 := 10) (Or.inl rfl)
  have u2 : UPd (pc_ p) (SDb 10 (A 122 μ.1 0)) w W := u.mono fun b k z => by unfold SDb; omega
  have ee : ∀ {k : Nat} {a i : Int}, k ≠ 3 → k ≠ 91 → W k a i = w k a i := fun z1 z2 => e _ _ _ z1 z2
  have hAg : AgO μ A A' := AgO.of fun c a i hc => hA _ _ _ (by omega) (by omega) (by omega) (by omega) (by omega)
  have g60 : W 60 (w 41 f 0) 0 = w 60 (w 41 f 0) 0 := ee (by decide) (by decide)
  have hV' : vDk (pc_ p) W (w 41 f 0) A' 0 := by
    obtain ⟨⟨⟨v1, v2, v3, v4⟩, v5⟩, v6, v7, v8⟩ := hV
    refine ⟨?_, ?_, ?_, fun j j0 j1 => ?_⟩
    · rw [ee (k := 11) (by decide) (by decide)]
      refine ⟨⟨?_, ?_, fun j j0 j1 => ?_, fun j j0 j1 => ?_⟩, hv⟩
      · rw [ee (by decide) (by decide), hA _ _ _ (by decide) (by decide) (by decide) (by decide) (by decide)]; exact v1
      · rw [ee (k := 28) (by decide) (by decide), ee (k := 67) (by decide) (by decide), ee (k := 2) (by decide) (by decide)]; exact v2
      · rw [ee (k := 67) (by decide) (by decide)] at j1
        rw [ee (k := 28) (by decide) (by decide), ee (k := 1) (by decide) (by decide), hA _ _ _ (by decide) (by decide) (by decide) (by decide) (by decide)]; exact v3 j j0 j1
      · rw [ee (k := 29) (by decide) (by decide), ee (k := 30) (by decide) (by decide), ee (k := 1) (by decide) (by decide), ee (k := 1) (by decide) (by decide), hA _ _ _ (by decide) (by decide) (by decide) (by decide) (by decide), hA _ _ _ (by decide) (by decide) (by decide) (by decide) (by decide)]; exact v4 j j0 j1
    · rw [ee (by decide) (by decide), hA _ _ _ (by decide) (by decide) (by decide) (by decide) (by decide)]; exact v6
    · rw [g60, hA _ _ _ (by decide) (by decide) (by decide) (by decide) (by decide)]; exact v7
    · rw [g60] at j1
      rw [ee (k := 13) (by decide) (by decide), ee (k := 14) (by decide) (by decide), ee (k := 1) (by decide) (by decide), ee (k := 1) (by decide) (by decide), hA _ _ _ (by decide) (by decide) (by decide) (by decide) (by decide), hA _ _ _ (by decide) (by decide) (by decide) (by decide) (by decide)]; exact v8 j j0 j1
  have hB' : bDk W (w 41 f 0) := by
    refine ⟨by rw [g60]; exact hB.1, by rw [ee (k := 61) (by decide) (by decide)]; exact hB.2.1, ?_, fun j j0 j1 => ?_⟩
    · rw [ee (k := 11) (by decide) (by decide), ee (k := 67) (by decide) (by decide)]; exact hB.2.2.1
    · rw [ee (k := 13) (by decide) (by decide), ee (k := 14) (by decide) (by decide), ee (k := 1) (by decide) (by decide), ee (k := 1) (by decide) (by decide)]; exact hB.2.2.2 j j0 j1
  refine ⟨hO.fr u2 CXt.refl hS hl.1 hAg hSp hl.2 (fun _ _ _ => rfl) (u2.c0 hO.1) (hO.2.2.1.live hf u2 CXt.refl hl.1 hB'), ?_, ?_, fun k k0 k1 => ?_⟩
  · rw [ee (k := 46) (by decide) (by decide)]; exact hL.fr u2 CXt.refl hS (fun k z => by unfold SDb at z; omega) hl.1 hAg (fun i => hA _ _ _ (by decide) (by decide) (by decide) (by decide) (by decide))
  · unfold rLv
    rw [ee (k := 41) (by decide) (by decide), ee (k := 12) (by decide) (by decide)]
    refine ⟨hV', hQ.cg (ee (by decide) (by decide)) (ee (by decide) (by decide)) (ee (by decide) (by decide)) (ee (by decide) (by decide)) (fun _ _ => ⟨ee (by decide) (by decide), ee (by decide) (by decide)⟩) (fun _ _ => ee (by decide) (by decide)), fun y hy => ?_⟩
    rw [hAg.1 122 (by decide) (by decide) (by decide)]; exact hLc y hy
  · rw [hA _ _ _ (by decide) (by decide) (by decide) (by decide) (by decide)] at k1
    exact (hSp k k0 k1).fr u2 CXt.refl (fun y hy z => by unfold SDb at z; omega) (fun y z => by unfold SDb at z; omega) (hA _ _ _ (by decide) (by decide) (by decide) (by decide) (by decide))
/-- one store of the live state, what it holds given place by place -/
theorem vSr.mk1 (u : UPd c (fun b k => (b = 15 ∧ k = 3) ∨ (b = 1 ∧ k = 91)) w W) (h1 : 0 ≤ A' 204 0 r ∧ A' 204 0 r ≤ m_slt r) (h2 : ∀ e, 0 ≤ e → e < m_slt r → (e < A' 204 0 r → vCh c w (W 3 (W 31 s 0) (r + e)) (A' 205 0 (4 * r + e)) (fun j => A' 206 0 (80 * r + 20 * e + j))) ∧ (A' 204 0 r ≤ e → W 3 (W 31 s 0) (r + e) = 0)) : vSr c W s A' 0 r := by
  unfold vSr
  rw [show (5 : Int) * 0 + r = r by omega]
  refine ⟨h1, fun e e0 e1 => ⟨fun y => ?_, (h2 e e0 e1).2⟩⟩
  rw [show (20 : Int) * 0 + 4 * r + e = 4 * r + e by omega]
  exact (((h2 e e0 e1).1 y).fr u CXt.refl (fun k z => by omega)).fc (fun j _ _ => by rw [show (400 : Int) * 0 + 80 * r + 20 * e + j = 80 * r + 20 * e + j by omega])
theorem vSr.at0 (h : vSr c w s A 0 r) : (0 ≤ A 204 0 r ∧ A 204 0 r ≤ m_slt r) ∧ ∀ e, 0 ≤ e → e < m_slt r → (e < A 204 0 r → vCh c w (w 3 (w 31 s 0) (r + e)) (A 205 0 (4 * r + e)) (fun j => A 206 0 (80 * r + 20 * e + j))) ∧ (A 204 0 r ≤ e → w 3 (w 31 s 0) (r + e) = 0) := by
  unfold vSr at h
  rw [show (5 : Int) * 0 + r = r by omega] at h
  refine ⟨h.1, fun e e0 e1 => ⟨fun y => ?_, (h.2 e e0 e1).2⟩⟩
  have := (h.2 e e0 e1).1 y
  rw [show (20 : Int) * 0 + 4 * r + e = 4 * r + e by omega] at this
  exact this.fc (fun j _ _ => by rw [show (400 : Int) * 0 + 80 * r + 20 * e + j = 80 * r + 20 * e + j by omega])
theorem m_slt4 : m_slt 4 = 4 := rfl
theorem m_slt1 (h : r ≠ 4) : m_slt r = 1 := if_neg h
/-- the ring turns -/
theorem RLm.ring (h : RLm p μ f L w A) (hl : 0 ≤ A 122 μ.1 0 ∧ A 122 μ.1 0 ≤ A 120 μ.1 0) (hE : bEl 0 A) (h00 : w 0 0 0 = 0) (h2 : 2 ≤ A 204 0 4) : RLm p μ f L (t_ring (w 11 (w 41 f 0) 0) w) (m_trn 0 A) := by
  obtain ⟨hO, hL, ⟨hV, hQ, hLc⟩, hSp⟩ := id h
  have hs := hO.2.2.1.1.1
  have hcn := (hV.1.2 4 (by decide) (by decide)).ecn h00 (by decide)
  rw [show (5 : Int) * 0 + 4 = 4 by decide] at hcn
  have e15 : pc_ p (w 31 (w 11 (w 41 f 0) 0) 0) = 15 := hs.2.1.2.2.2.2.2.2
  have u : UPd (pc_ p) (fun b k => (b = 15 ∧ k = 3) ∨ (b = 1 ∧ k = 91)) w (t_ring (w 11 (w 41 f 0) 0) w) := by
    unfold t_ring
    exact (UPd.refl.sF (by decide) (Or.inr (Or.inl ⟨e15, rfl⟩))).sU (by decide) (Or.inr (Or.inl ⟨e15, rfl⟩))
  refine h.sto hl u (fun k a i z1 z2 => t_ring_k z1) (fun k a j z1 z2 z3 z4 z5 => trn_at2 ⟨z5, z3, z4⟩) (fun r r0 r1 => vSr.mk1 u ?_ (fun e e0 e1 => ?_))
  · rw [trn_at2 (by decide)]; exact (hV.1.2 r r0 r1).at0.1
  · obtain ⟨k1, k2⟩ := (hV.1.2 r r0 r1).at0
    rw [t_ring_k (k := 31) (by decide), trn_at2 (c := 204) (by decide)]
    by_cases hr : r = 4
    · subst hr
      rw [m_slt4] at e1 k1 k2
      have eS : t_ring (w 11 (w 41 f 0) 0) w 3 (w 31 (w 11 (w 41 f 0) 0) 0) (4 + e) = if e = A 204 0 4 - 1 then w 3 (w 31 (w 11 (w 41 f 0) 0) 0) (4 + 0) else if e < A 204 0 4 - 1 then w 3 (w 31 (w 11 (w 41 f 0) 0) 0) (4 + (e + 1)) else w 3 (w 31 (w 11 (w 41 f 0) 0) 0) (4 + e) := by
        unfold t_ring
        rw [hcn, if_pos (show 0 < A 204 0 4 - 1 by omega)]
        by_cases y : e = A 204 0 4 - 1
        · rw [if_pos y, y, up_s]; rfl
        · rw [if_neg y, up_i _ _ _ _ _ _ (by omega), flA_v]
          by_cases y2 : e < A 204 0 4 - 1
          · rw [if_pos y2, if_pos (by omega), show 4 + e + 1 = 4 + (e + 1) by omega]
          · rw [if_neg y2, if_neg (by omega)]
      rw [eS]
      refine ⟨fun y => ?_, fun y => by rw [if_neg (by omega), if_neg (by omega)]; exact (k2 e e0 e1).2 y⟩
      rw [trn_205]
      by_cases y1 : e = A 204 0 4 - 1
      · have b0 := hE 16 (by decide) (by decide)
        have k3 := (k2 0 (by decide) (by decide)).1 (by omega)
        rw [if_pos y1, if_pos (show 4 * 4 + e = 20 * 0 + 4 * 4 + (A 204 0 (5 * 0 + 4) - 1) by rw [y1]; rfl)]
        refine (show vCh _ _ _ (A 205 0 (20 * 0 + 16)) _ from k3).fc (fun j j0 j1 => ?_)
        have j1 : j < A 205 0 16 := j1
        rw [trn_206, show (5 : Int) * 0 + 4 = 4 by decide, show (20 : Int) * 0 + 16 = 16 by decide, if_pos (by omega), if_pos (by omega)]
        congr 1; omega
      · have y2 : e < A 204 0 4 - 1 := by omega
        have k3 := (k2 (e + 1) (by omega) (by omega)).1 (by omega)
        rw [if_neg y1, if_pos y2, show (5 : Int) * 0 + 4 = 4 by decide, if_neg (by omega), if_pos (by omega), show 4 * 4 + e + 1 = 4 * 4 + (e + 1) by omega]
        have b0 := hE (4 * 4 + (e + 1)) (by omega) (by omega)
        refine k3.fc (fun j j0 j1 => ?_)
        rw [trn_206, show (5 : Int) * 0 + 4 = 4 by decide, if_neg (by omega), if_pos (by omega)]
        congr 1; omega
    · have e1' : e = 0 := by rw [m_slt1 hr] at e1; omega
      have eS : t_ring (w 11 (w 41 f 0) 0) w 3 (w 31 (w 11 (w 41 f 0) 0) 0) (r + e) = w 3 (w 31 (w 11 (w 41 f 0) 0) 0) (r + e) := by
        unfold t_ring
        rw [up_i _ _ _ _ _ _ (by rw [hcn]; split <;> omega), flA_n (by omega)]
      rw [eS]
      refine ⟨fun y => ?_, (k2 e e0 e1).2⟩
      rw [trn_205, show (5 : Int) * 0 + 4 = 4 by decide, if_neg (by omega), if_neg (by omega)]
      have b0 := hE (4 * r + e) (by omega) (by omega)
      refine ((k2 e e0 e1).1 y).fc (fun j j0 j1 => ?_)
      rw [trn_206, show (5 : Int) * 0 + 4 = 4 by decide, if_neg (by omega), if_neg (by omega)]
end RLT
