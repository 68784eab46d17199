/-! the class fits the reference: characters become an entry of a store -/
section RLU
variable {p : RP} {w W A A' B : Mm} {μ : MU} {f q n b x lo v r g m i k s : Int} {c : Int → Int} {L : List Int} {gf : Int → Int}
theorem RLm.psh (h : RLm p μ f L w A) (hl : 0 ≤ A 122 μ.1 0 ∧ A 122 μ.1 0 ≤ A 120 μ.1 0) (hE : bEl 0 A) (hg : vCh (pc_ p) w g k gf) (hk : 0 ≤ k ∧ k ≤ 20)
    (hB : ∀ (c : Nat) (j : Int), 204 ≤ c → c ≤ 206 → B c 0 j = A c 0 j) (hB2 : ∀ j, 0 ≤ j → j < k → B 240 0 j = gf j) (hA' : ∀ (c : Nat) (j : Int), 204 ≤ c → c ≤ 206 → A' c 0 j = m_psh 0 k B c 0 j) (hA : ∀ (k : Nat) (a j : Int), k ≠ 136 → k ≠ 204 → k ≠ 205 → k ≠ 206 → k ≠ 240 → A' k a j = A k a j) : RLm p μ f L (s_push (w 11 (w 41 f 0) 0) g w) A' := by
  obtain ⟨hO, hL, ⟨hV, hQ, hLc⟩, hSp⟩ := id h
  have hs := hO.2.2.1.1.1
  have e15 : pc_ p (w 31 (w 11 (w 41 f 0) 0) 0) = 15 := hs.2.1.2.2.2.2.2.2
  have u : UPd (pc_ p) (fun b k => (b = 15 ∧ k = 3) ∨ (b = 1 ∧ k = 91)) w (s_push (w 11 (w 41 f 0) 0) g w) := by
    unfold s_push
    exact (UPd.refl.sF (by decide) (Or.inr (Or.inl ⟨e15, rfl⟩))).sU (by decide) (Or.inr (Or.inl ⟨e15, rfl⟩))
  have hk3 : ∀ (k : Nat) (a i : Int), k ≠ 3 → s_push (w 11 (w 41 f 0) 0) g w k a i = w k a i := fun k a i z => by unfold s_push; rw [up_k _ z, flA_k z]
  have a4 : ∀ j, A' 204 0 j = if j = 4 then (if A 204 0 4 < 4 then A 204 0 4 + 1 else 4) else A 204 0 j := fun j => by
    rw [hA' _ _ (by decide) (by decide), psh_204, show (5 : Int) * 0 + 4 = 4 by decide, hB _ _ (by decide) (by decide), hB _ _ (by decide) (by decide)]
  obtain ⟨n', hn'⟩ : ∃ n', n' = (if A 204 0 4 < 4 then A 204 0 4 + 1 else 4) := ⟨_, rfl⟩
  have a5 : ∀ j, A' 205 0 j = if j = 16 then k else if 17 ≤ j ∧ j < 17 + (n' - 1) then A 205 0 (j - 1) else A 205 0 j := fun j => by
    rw [hA' _ _ (by decide) (by decide), psh_205, show (5 : Int) * 0 + 4 = 4 by decide, hB _ _ (by decide) (by decide), hB _ _ (by decide) (by decide), hB _ _ (by decide) (by decide), ← hn']
    rfl
  have a6 : ∀ j, A' 206 0 j = if 320 ≤ j ∧ j < 320 + k then B 240 0 (j - 320) else if 340 ≤ j ∧ j < 340 + 20 * (n' - 1) then A 206 0 (j - 20) else A 206 0 j := fun j => by
    rw [hA' _ _ (by decide) (by decide), psh_206, show (5 : Int) * 0 + 4 = 4 by decide, hB 204 _ (by decide) (by decide), hB 206 _ (by decide) (by decide), hB 206 _ (by decide) (by decide), ← hn']
    rfl
  have b4 := (hV.1.2 4 (by decide) (by decide)).at0.1
  rw [m_slt4] at b4
  refine h.sto hl u (fun k a i z1 z2 => hk3 k a i z1) hA (fun r r0 r1 => vSr.mk1 u ?_ (fun e e0 e1 => ?_))
  · have b5 := (hV.1.2 r r0 r1).at0.1
    rw [a4]
    by_cases y : r = 4
    · rw [if_pos y, y, m_slt4]; split <;> omega
    · rw [if_neg y]; exact b5
  · obtain ⟨k1, k2⟩ := (hV.1.2 r r0 r1).at0
    rw [hk3 31 _ _ (by decide), a4, a5]
    by_cases hr : r = 4
    · subst hr
      rw [m_slt4] at e1 k1 k2
      rw [if_pos rfl, ← hn']
      have eS : s_push (w 11 (w 41 f 0) 0) g w 3 (w 31 (w 11 (w 41 f 0) 0) 0) (4 + e) = if e = 0 then g else w 3 (w 31 (w 11 (w 41 f 0) 0) 0) (4 + (e - 1)) := by
        unfold s_push
        by_cases y : e = 0
        · rw [if_pos y, y]; exact up_s _ _ _ _ _
        · rw [if_neg y, up_i _ _ _ _ _ _ (by omega), flA_v, if_pos (by omega), show 4 + e - 1 = 4 + (e - 1) by omega]
      rw [eS]
      by_cases y : e = 0
      · rw [if_pos y, if_pos (by omega)]
        refine ⟨fun _ => hg.fc (fun j j0 j1 => ?_), fun y2 => ?_⟩
        · rw [a6, if_pos (by omega), show 80 * 4 + 20 * e + j - 320 = j by omega, hB2 j j0 j1]
        · have hn2 := hn'
          split at hn2 <;> omega
      · rw [if_neg y, if_neg (by omega)]
        have hn2 : n' ≤ A 204 0 4 + 1 := by rw [hn']; split <;> omega
        have hn3 : n' ≤ 4 := by rw [hn']; split <;> omega
        have hn4 : n' < 4 → n' = A 204 0 4 + 1 := by rw [hn']; split <;> omega
        refine ⟨fun y2 => ?_, fun y2 => (k2 (e - 1) (by omega) (by omega)).2 (by omega)⟩
        rw [if_pos (by omega), show 4 * 4 + e - 1 = 4 * 4 + (e - 1) by omega]
        have b0 := hE (4 * 4 + (e - 1)) (by omega) (by omega)
        refine ((k2 (e - 1) (by omega) (by omega)).1 (by omega)).fc (fun j j0 j1 => ?_)
        rw [a6, if_neg (by omega), if_pos (by omega), show 80 * 4 + 20 * e + j - 20 = 80 * 4 + 20 * (e - 1) + j by omega]
    · have e1' : e = 0 := by rw [m_slt1 hr] at e1; omega
      have eS : s_push (w 11 (w 41 f 0) 0) g w 3 (w 31 (w 11 (w 41 f 0) 0) 0) (r + e) = w 3 (w 31 (w 11 (w 41 f 0) 0) 0) (r + e) := by
        unfold s_push
        rw [up_i _ _ _ _ _ _ (by omega), flA_n (by omega)]
      rw [eS, if_neg hr, if_neg (by omega), if_neg (by omega)]
      have b0 := hE (4 * r + e) (by omega) (by omega)
      refine ⟨fun y => ((k2 e e0 e1).1 y).fc (fun j j0 j1 => ?_), (k2 e e0 e1).2⟩
      rw [a6, if_neg (by omega), if_neg (by omega)]
/-- a register is set -/
theorem RLm.reg (h : RLm p μ f L w A) (hl : 0 ≤ A 122 μ.1 0 ∧ A 122 μ.1 0 ≤ A 120 μ.1 0) (hE : bEl 0 A) (hg : vCh (pc_ p) w g k gf) (hk : 0 ≤ k ∧ k ≤ 20) (hr : 0 ≤ r ∧ r < 4)
    (a4 : ∀ j, A' 204 0 j = if j = r then 1 else A 204 0 j) (a5 : ∀ j, A' 205 0 j = if j = 4 * r then k else A 205 0 j) (a6 : ∀ j, A' 206 0 j = if 80 * r ≤ j ∧ j < 80 * r + k then gf (j - 80 * r) else A 206 0 j) (hA : ∀ (k : Nat) (a j : Int), k ≠ 136 → k ≠ 204 → k ≠ 205 → k ≠ 206 → k ≠ 240 → A' k a j = A k a j) : RLm p μ f L (up w 3 (w 31 (w 11 (w 41 f 0) 0) 0) r g) A' := by
  obtain ⟨hO, hL, ⟨hV, hQ, hLc⟩, hSp⟩ := id h
  have hs := hO.2.2.1.1.1
  have hf := hO.2.1.1
  have e15 : pc_ p (w 31 (w 11 (w 41 f 0) 0) 0) = 15 := hs.2.1.2.2.2.2.2.2
  have u : UPd (pc_ p) (fun b k => (b = 15 ∧ k = 3) ∨ (b = 1 ∧ k = 91)) w (up w 3 (w 31 (w 11 (w 41 f 0) 0) 0) r g) :=
    UPd.refl.sU (by decide) (Or.inr (Or.inl ⟨e15, rfl⟩))
  refine h.sto hl u (fun k a i z1 z2 => up_k _ z1 _ _ _ _ _) hA (fun r' r0 r1 => vSr.mk1 u ?_ (fun e e0 e1 => ?_))
  · have b5 := (hV.1.2 r' r0 r1).at0.1
    rw [a4]
    by_cases y : r' = r
    · rw [if_pos y]; unfold m_slt; split <;> omega
    · rw [if_neg y]; exact b5
  · obtain ⟨k1, k2⟩ := (hV.1.2 r' r0 r1).at0
    rw [up_k (k' := 31) _ (by decide), a4, a5]
    have hsl : m_slt r' = if r' = 4 then 4 else 1 := rfl
    have eS : up w 3 (w 31 (w 11 (w 41 f 0) 0) 0) r g 3 (w 31 (w 11 (w 41 f 0) 0) 0) (r' + e) = if r' = r then g else w 3 (w 31 (w 11 (w 41 f 0) 0) 0) (r' + e) := by
      by_cases y : r' = r
      · have : e = 0 := by rw [hsl, if_neg (by omega)] at e1; omega
        rw [if_pos y, show r' + e = r by omega, up_s]
      · have : r' + e ≠ r := by
          by_cases z : r' = 4
          · omega
          · rw [hsl, if_neg z] at e1; omega
        rw [if_neg y, up_i _ _ _ _ _ _ this]
    rw [eS]
    by_cases y : r' = r
    · have e0' : e = 0 := by rw [hsl, if_neg (by omega)] at e1; omega
      rw [if_pos y, if_pos y, if_pos (by omega)]
      refine ⟨fun _ => hg.fc (fun j j0 j1 => ?_), fun y2 => by omega⟩
      rw [a6, if_pos (by omega), show 80 * r' + 20 * e + j - 80 * r = j by omega]
    · have z1 : 4 * r' + e ≠ 4 * r := by
        by_cases z : r' = 4
        · omega
        · rw [hsl, if_neg z] at e1; omega
      have b0 := hE (4 * r' + e) (by omega) (by by_cases z : r' = 4 <;> (rw [hsl] at e1; simp [z] at e1; omega))
      rw [if_neg y, if_neg y, if_neg z1]
      refine ⟨fun y2 => ((k2 e e0 e1).1 y2).fc (fun j j0 j1 => ?_), (k2 e e0 e1).2⟩
      rw [a6, if_neg]
      by_cases z : r' = 4
      · omega
      · rw [hsl, if_neg z] at e1; omega
end RLU
