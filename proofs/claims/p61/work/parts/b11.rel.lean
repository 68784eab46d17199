/-! where a node's point stands: PTN, free of the lists of parts; the bounds after a walk -/
section PTN
variable {p : RP} {w A A' : Mm} {μ : MU} {f c k S P M v i s q x u : Int} {PL PL' : Int → List Int} {ρ : Int → Mm} {G : Int → Int → Int}
theorem CHL.uq {b : Mm} : ∀ {L L' : List Int} {m m' q : Int}, CHL m b q L → CHL m' b q L' → L = L'
  | [], [], _, _, _, _, _ => rfl
  | [], y :: ys, m, m', q, h, g => by
    have h1 : q = -1 := h
    obtain ⟨g1, g2, -⟩ := g
    omega
  | x :: xs, [], m, m', q, h, g => by
    have h1 : q = -1 := g
    obtain ⟨g1, g2, -⟩ := h
    omega
  | x :: xs, y :: ys, m, m', q, h, g => by
    obtain ⟨h1, -, -, -, -, h6⟩ := h
    obtain ⟨g1, -, -, -, -, g6⟩ := g
    have e : x = y := by rw [← h1, g1]
    subst e
    rw [CHL.uq h6 g6]
theorem TI.uq (h : TI μ PL A) (h' : TI μ PL' A) (hT : TB μ M A) : ∀ (n : Nat) (k : Int), k < n → alv μ A k → RSx PL k A = RSx PL' k A
  | 0, k, hk, ha => by have := ha.1; omega
  | n + 1, k, hk, ha => by
    by_cases k0 : k = 0
    · subst k0; rw [RSx_0 hT, RSx_0 hT]
    · have hk1 : 1 ≤ k ∧ k < A 124 μ.1 0 := by have := ha.1; omega
      have hp := hT.plp hk1
      have hap : alv μ A (A 217 0 k) := ⟨by omega, h.1.2.2.1 k hk1.1 hk1.2 ha.2⟩
      rw [hT.rsp hk1, hT.rsp hk1, TI.uq h h' hT n _ (by omega) hap, CHL.uq (h.2.2.1 k hk1.1 ha).1 (h'.2.2.1 k hk1.1 ha).1]
theorem TI.rpq (h : TI μ PL A) (h' : TI μ PL' A) (hT : TB μ M A) (ha : alv μ A k) : m_rpl μ PL k A = m_rpl μ PL' k A := by
  unfold m_rpl; rw [h.uq h' hT (k + 1).toNat k (by omega) ha]
/-- a node's point lies in its text -/
def PTN (μ : MU) (A : Mm) : Prop := ∀ PL, TI μ PL A → ∀ k, alv μ A k → A 224 0 k ≤ m_rpl μ PL k A 201 0 1
theorem PTN.of (h : TI μ PL A) (hT : TB μ M A) (g : ∀ k, alv μ A k → A 224 0 k ≤ m_rpl μ PL k A 201 0 1) : PTN μ A := fun PL' h' k ha => by
  rw [← h.rpq h' hT ha]; exact g k ha
theorem PTN.app (g : PTN μ A) (h : TX μ ρ G PL A) (hT : TB μ M A) (hT' : TB μ M A') (hM : M ≤ 600) (s1 : SB 1 A) (s2 : bB A) (hpb : bPb A) (t : TSx μ A A') (h6 : bPb A') : PTN μ A' := by
  refine PTN.of (h.app hT hM s1 s2 hpb t h6 (fun _ _ _ => rfl)).1.1 hT' fun k ha => ?_
  have hb := t.al2.mp ha
  have e := ((h.1.1.rq hT hM hb).app t.1 s1 s2 h6).2.1.1
  rw [t.1.1 224 _ _ (by decide) (by decide), ← e]
  exact g PL h.1.1 k hb
theorem RB.wks (h : RB μ S P M A) (g : RPk μ PL k A) (hk : 0 ≤ k ∧ k < A 124 μ.1 0) (hp : A 224 0 k ≤ m_rpl μ PL k A 201 0 1) : RB μ S P M (m_wks μ PL k A) := by
  have hR := h.rpl g
  have h224 := (h.2.1.2.2.2.1.2.2.2.2.2.2 k hk.1 hk.2).2.2.2.2.2.2.2.1
  have e : ∀ {c : Nat} {a i : Int}, (c < 200 ∨ 206 < c) ∧ c ≠ 240 ∧ c ≠ 127 ∧ c ≠ 226 → m_rpl μ PL k A c a i = A c a i := fun z => rpl_at h.2.1.2.2.1 h.1.2.2.1 g z
  obtain ⟨X, hX⟩ : ∃ X, X = m_rpl μ PL k A := ⟨_, rfl⟩
  rw [← hX] at hR hp
  obtain ⟨⟨l1, l2, l3, l4, l5⟩, ⟨k1, k2, k3, k4, k5, k6, k7⟩, z, y⟩ := hR
  have hw : m_wks μ PL k A = up (up (up (up (m_cpQ (fun s => decide (A 211 0 s = 1)) 5 0 1 (m_cpT 0 1 X)) 207 0 0 (A 224 0 k)) 210 0 0 0) 126 μ.1 0 k) 129 μ.1 0 (-1) := by rw [hX]; rfl
  have o : ∀ {c : Nat} {a i : Int}, (c < 200 ∨ 210 < c) ∧ c ≠ 126 ∧ c ≠ 129 → m_wks μ PL k A c a i = X c a i := fun z => by
    rw [hw, up_k _ (by omega), up_k _ (by omega), up_k _ (by omega), up_k _ (by omega), cpQ_at (by omega), cpT_at (by omega)]
  have s1 : ∀ s, SB s X → SB s (m_wks μ PL k A) := fun s q => ((q.cpT (Int.le_refl 0) k3).cpQ (k3.cpT (Int.le_refl 0) k3)).cong fun c a i c0 c1 => by
    rw [hw, up_k _ (by omega), up_k _ (by omega), up_k _ (by omega), up_k _ (by omega)]
  have e207 : ∀ j, m_wks μ PL k A 207 0 j = if j = 0 then A 224 0 k else X 207 0 j := fun j => by
    rw [hw, up_k _ (by decide), up_k _ (by decide), up_k _ (by decide), up_ii, cpQ_at (by omega), cpT_at (by omega)]
  have e210 : ∀ j, m_wks μ PL k A 210 0 j = if j = 0 then 0 else X 210 0 j := fun j => by
    rw [hw, up_k _ (by decide), up_k _ (by decide), up_ii, up_k _ (by decide), cpQ_at (by omega), cpT_at (by omega)]
  have e208 : ∀ (c : Nat) j, c = 208 ∨ c = 209 → m_wks μ PL k A c 0 j = X c 0 j := fun c j z => by
    rw [hw, up_k _ (by omega), up_k _ (by omega), up_k _ (by omega), up_k _ (by omega), cpQ_at (by omega), cpT_at (by omega)]
  have e201 : ∀ j, m_wks μ PL k A 201 0 j = if j = 0 then X 201 0 1 else X 201 0 j := fun j => by
    rw [hw, up_k _ (by decide), up_k _ (by decide), up_k _ (by decide), up_k _ (by decide), cpQ_at (by omega), cpT_201]
  have v1 : ∀ s, 2 ≤ s → VB s X → VB s (m_wks μ PL k A) := fun s hs q => by
    obtain ⟨q1, q2, q3, q4⟩ := q
    have f1 : m_wks μ PL k A 207 0 s = X 207 0 s := by rw [e207, if_neg (by omega)]
    have f2 : m_wks μ PL k A 210 0 s = X 210 0 s := by rw [e210, if_neg (by omega)]
    have f3 : m_wks μ PL k A 201 0 s = X 201 0 s := by rw [e201, if_neg (by omega)]
    refine ⟨?_, fun i a b => ?_, fun i a b => ?_, ?_⟩
    · unfold bV; rw [f2]; exact q1
    · rw [e208 _ _ (Or.inl rfl), e208 _ _ (Or.inr rfl)]; exact q2 i a b
    · rw [f2] at b
      rw [f2, f3, e208 _ _ (Or.inl rfl), e208 _ _ (Or.inr rfl), e208 208 _ (Or.inl rfl), e208 209 _ (Or.inr rfl)]; exact q3 i a b
    · unfold bP; rw [f1, f2, f3, e208 _ _ (Or.inl rfl), e208 _ _ (Or.inr rfl)]; exact q4
  have v0 : VB 0 (m_wks μ PL k A) := by
    have f1 : m_wks μ PL k A 207 0 0 = A 224 0 k := by rw [e207, if_pos rfl]
    have f2 : m_wks μ PL k A 210 0 0 = 0 := by rw [e210, if_pos rfl]
    have f3 : m_wks μ PL k A 201 0 0 = X 201 0 1 := by rw [e201, if_pos rfl]
    refine ⟨?_, fun i a b => ?_, fun i a b => ?_, ?_, ?_⟩
    · unfold bV; rw [f2]; decide
    · rw [e208 _ _ (Or.inl rfl), e208 _ _ (Or.inr rfl)]; exact l2.2.1 i a b
    · rw [f2] at b; omega
    · intro _; rw [f1, f3]; exact ⟨h224.1, hp⟩
    · intro b; exact absurd f2 b
  have e126 : m_wks μ PL k A 126 μ.1 0 = k := wks_126
  have e129 : m_wks μ PL k A 129 μ.1 0 = -1 := by rw [hw, up_s]
  have sv : ∀ s, 2 ≤ s → SV S P s X → SV S P s (m_wks μ PL k A) := fun s hs q => ⟨s1 s q.1, v1 s hs q.2.1, by rw [o (by decide)]; exact q.2.2.1, by rw [o (by decide)]; exact q.2.2.2⟩
  refine ⟨⟨s1 0 l1, v0, l3.cong fun i => o (by decide), l4.cong fun i => o (by decide), l5.cong (o (by decide)) (o (by decide))⟩, ⟨sv 2 (by omega) k1, sv 3 (by omega) k2, s1 1 k3, ?_, ?_, ?_, ?_⟩, ?_, ?_⟩
  · unfold TB bTn at k4 ⊢
    rw [e126]
    simp (disch := decide) only [o]
    refine ⟨k4.1, k4.2.1, ?_, k4.2.2.2⟩
    have : X 124 μ.1 0 = A 124 μ.1 0 := by rw [hX]; exact e (by decide)
    rw [this]; exact hk
  · unfold bPo at k5 ⊢
    simp (disch := decide) only [o]; exact k5
  · unfold bOt at k6 ⊢
    simp (disch := decide) only [o]; exact k6
  · unfold bMc at k7 ⊢
    simp (disch := decide) only [o]; exact k7
  · unfold bZ at z ⊢
    simp (disch := decide) only [o]; exact z
  · unfold bY; rw [e129]; exact fun z => absurd rfl z
end PTN
