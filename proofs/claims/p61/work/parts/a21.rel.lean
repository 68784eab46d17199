/-! LIV: the loose steps, played behind the current node's replay, lead to what is now; and what was taken away is what the text was -/
def SWp (ρ A : Mm) : Mm := fun c a i => if 200 ≤ c ∧ c ≤ 206 then ρ c a i else A c a i
def ptE (b : Mm) : Nat → Int → Int → Int
  | 0, _, t => t
  | n + 1, i, t => ptE b n (i + 1) (t + (m_play (b 212 0 i) t b).1)
def GNl (b : Mm) (G : Int → Int → Int) : Nat → Int → Int → Mm → Prop
  | 0, _, _, _ => True
  | n + 1, i, t, V => (b 212 0 i % 8 = 1 ∨ b 212 0 i % 8 = 2 → ∀ j, 0 ≤ j → j < wsz (b 212 0 i) → V 200 0 (400 + b 212 0 i / 8 % 512 + j) = G i j) ∧ GNl b G n (i + 1) (t + (m_play (b 212 0 i) t b).1) (m_play (b 212 0 i) t V).2
def lvN (μ : MU) (A : Mm) : Nat := (A 120 μ.1 0 - A 122 μ.1 0).toNat
def LVl (μ : MU) (A : Mm) : List (Int × Int) := plist A (lvN μ A) (A 122 μ.1 0) (A 123 μ.1 0)
abbrev Tkd (A : Mm) : Int → Prop := fun r => A 211 0 r = 1
/-- stores that are not tracked are empty in state 1 -/
def Unt (A V : Mm) : Prop := ∀ r, 0 ≤ r → r < 5 → A 211 0 r ≠ 1 → V 204 0 (5 + r) = 0
def LIV (μ : MU) (G : Int → Int → Int) (ρ A : Mm) : Prop :=
  (SB 1 ρ ∧ bB A ∧ bPb A ∧ (0 ≤ A 122 μ.1 0 ∧ A 122 μ.1 0 ≤ A 120 μ.1 0) ∧ 0 ≤ A 123 μ.1 0 ∧ ∀ j, A 122 μ.1 0 ≤ j → j < A 120 μ.1 0 → 0 ≤ A 212 0 j) ∧
  (LGL (LVl μ A) (SWp ρ A) ∧ BDp (A 121 μ.1 0) A (LVl μ A) ∧ ptE A (lvN μ A) (A 122 μ.1 0) (A 123 μ.1 0) = A 121 μ.1 0) ∧
  EQv (Tkd A) 1 0 (m_playL (LVl μ A) (SWp ρ A)) A ∧ Unt A (m_playL (LVl μ A) (SWp ρ A)) ∧ GNl A G (lvN μ A) (A 122 μ.1 0) (A 123 μ.1 0) (SWp ρ A)
section LVA
variable {μ : MU} {G G' : Int → Int → Int} {ρ A A' V V' b b' : Mm} {P lim : Int}
theorem SWp_s {c : Nat} {a i : Int} (h : 200 ≤ c ∧ c ≤ 206) : SWp ρ A c a i = ρ c a i := if_pos h
theorem SWp_o {c : Nat} {a i : Int} (h : ¬ (200 ≤ c ∧ c ≤ 206)) : SWp ρ A c a i = A c a i := if_neg h
theorem pby_SWp {j : Int} : pby (SWp ρ A) j = pby A j := pby_cong (SWp_o (by decide))
theorem plist_snoc : ∀ (n : Nat) (i t : Int), plist b (n + 1) i t = plist b n i t ++ [(b 212 0 (i + n), ptE b n i t)]
  | 0, i, t => by
    simp only [plist, ptE, List.nil_append]
    rw [show i + ((0 : Nat) : Int) = i by omega]
  | n + 1, i, t => by
    rw [plist_s (n := n + 1 + 1) (m := n + 1) rfl, plist_snoc n, plist_s (n := n + 1) (m := n) rfl]
    simp only [ptE, List.cons_append]
    rw [show i + 1 + (n : Int) = i + ((n + 1 : Nat) : Int) by omega]
theorem ptE_app2 (hp : PAg P b b') (h2 : ∀ i, 0 ≤ i → i < lim → b' 212 0 i = b 212 0 i) : ∀ (n : Nat) (i t : Int), 0 ≤ i → i + n ≤ lim → 0 ≤ t → (∀ j, i ≤ j → j < i + n → 0 ≤ b 212 0 j) → BDp P b (plist b n i t) → ptE b' n i t = ptE b n i t
  | 0, _, _, _, _, _, _, _ => rfl
  | n + 1, i, t, hi, hl, ht, hx, hb => by
    have e := play1_eq (x := b 212 0 i) hp ht (hb _ (by rw [plist_s (n := n + 1) (m := n) rfl]; exact List.mem_cons_self))
    simp only [ptE]
    rw [h2 i hi (by omega), e]
    have nn := play1_nn (t := t) (b := b) (hx i (by omega) (by omega))
    exact ptE_app2 hp h2 n (i + 1) _ (by omega) (by omega) (by omega) (fun j j0 j1 => hx j (by omega) (by omega)) (fun y hy => hb y (by rw [plist_s (n := n + 1) (m := n) rfl]; exact List.mem_cons_of_mem _ hy))
theorem GNl_eq (hp : PAg P b b') (h2 : ∀ i, 0 ≤ i → i < lim → b' 212 0 i = b 212 0 i) (hG : ∀ k, 0 ≤ k → k < lim → G' k = G k) : ∀ (n : Nat) (i t : Int) (V V' : Mm), 0 ≤ i → i + n ≤ lim → 0 ≤ t → (∀ j, i ≤ j → j < i + n → 0 ≤ b 212 0 j) → BDp P b (plist b n i t) → EQv TA 1 1 V V' → (∀ j, pby V j = pby b j) → (∀ j, pby V' j = pby b' j) → bPb b' → SB 1 V → bB V → LGL (plist b n i t) V → GNl b G n i t V → GNl b' G' n i t V'
  | 0, _, _, _, _, _, _, _, _, _, _, _, _, _, _, _, _, _ => trivial
  | n + 1, i, t, V, V', hi, hl, ht, hx, hb, hE, hv, hv', h126, hs, hbb, hg, hn => by
    have hb1 := hb (b 212 0 i, t) (by rw [plist_s (n := n + 1) (m := n) rfl]; exact List.mem_cons_self)
    have e := play1_eq (x := b 212 0 i) hp ht hb1
    have nn := play1_nn (t := t) (b := b) (hx i (by omega) (by omega))
    rw [plist_s (n := n + 1) (m := n) rfl] at hg
    have hpV : PAg P V V' := fun j a c => by rw [hv, hv']; exact hp j a c
    have o := play_eq hE hpV (fun j a => by rw [hv']; exact h126 j a) hg.1.1 hg.1.2 hs (by rw [play_1 hv]; exact hb1)
    have s := hs.play hbb hg.1.1 hg.1.2
    have w2 := h2 i hi (by omega)
    refine ⟨fun hk j j0 j1 => ?_, ?_⟩
    · rw [w2] at hk j1 ⊢
      rw [hG i hi (by omega), ← hn.1 hk j j0 j1]
      obtain ⟨g0, gs, -, -⟩ := hg.1.1
      obtain ⟨t1, v1, p1, k0, k1, k2, -⟩ := gs
      have hw : b 212 0 i / 8 % 512 + j < V 201 0 1 := by
        rcases hk with hk | hk
        · have := k1 hk; unfold wsz at j1; rw [if_neg (by omega)] at j1; omega
        · have := k2 hk; unfold wsz at j1; rw [if_pos hk] at j1; omega
      have q := hE.2.1 (b 212 0 i / 8 % 512 + j) (by omega) hw
      rw [show (400 : Int) * 1 + (b 212 0 i / 8 % 512 + j) = 400 + b 212 0 i / 8 % 512 + j by omega] at q
      exact q.symm
    · rw [w2, e]
      exact GNl_eq hp h2 hG n (i + 1) _ _ _ (by omega) (by omega) (by omega) (fun j j0 j1 => hx j (by omega) (by omega)) (fun y hy => hb y (by rw [plist_s (n := n + 1) (m := n) rfl]; exact List.mem_cons_of_mem _ hy)) o.1 (fun j => by rw [pby_play]; exact hv j) (fun j => by rw [pby_play]; exact hv' j) h126 s.1 s.2 hg.2 hn.2
theorem GNl_snoc : ∀ (n : Nat) (i t : Int) (V : Mm), GNl b G n i t V → (b 212 0 (i + n) % 8 = 1 ∨ b 212 0 (i + n) % 8 = 2 → ∀ j, 0 ≤ j → j < wsz (b 212 0 (i + n)) → m_playL (plist b n i t) V 200 0 (400 + b 212 0 (i + n) / 8 % 512 + j) = G (i + n) j) → GNl b G (n + 1) i t V
  | 0, i, t, V, _, h => by
    rw [show i + ((0 : Nat) : Int) = i by omega] at h
    exact ⟨h, trivial⟩
  | n + 1, i, t, V, g, h => by
    refine ⟨g.1, GNl_snoc n (i + 1) _ _ g.2 ?_⟩
    rw [show i + 1 + (n : Int) = i + ((n + 1 : Nat) : Int) by omega]
    exact h
theorem SB_L : ∀ (L : List (Int × Int)) (V : Mm), SB 1 V → bB V → LGL L V → SB 1 (m_playL L V) ∧ bB (m_playL L V)
  | [], _, h, k, _ => ⟨h, k⟩
  | x :: xs, V, h, k, g => by
    have s := h.play k g.1.1 g.1.2
    exact SB_L xs _ s.1 s.2 g.2
theorem pby_L : ∀ (L : List (Int × Int)) (V : Mm) (j : Int), pby (m_playL L V) j = pby V j
  | [], _, _ => rfl
  | x :: xs, V, j => by
    show pby (m_playL xs (m_play x.1 x.2 V).2) j = _
    rw [pby_L xs, pby_play]
/-- what is played on does not hang on the reference's other numbers -/
theorem LIV.old (h : LIV μ G ρ A) (e122 : A' 122 μ.1 0 = A 122 μ.1 0) (e123 : A' 123 μ.1 0 = A 123 μ.1 0) (h212 : ∀ j, 0 ≤ j → j < A 120 μ.1 0 → A' 212 0 j = A 212 0 j) (hp : PAg (A 121 μ.1 0) A A') (hb : bB A') (h6 : bPb A') (hG : ∀ k, 0 ≤ k → k < A 120 μ.1 0 → G' k = G k) :
    plist A' (lvN μ A) (A 122 μ.1 0) (A 123 μ.1 0) = LVl μ A ∧ ptE A' (lvN μ A) (A 122 μ.1 0) (A 123 μ.1 0) = A 121 μ.1 0 ∧ LGL (LVl μ A) (SWp ρ A') ∧ EQv TA 1 1 (m_playL (LVl μ A) (SWp ρ A)) (m_playL (LVl μ A) (SWp ρ A')) ∧ (SB 1 (m_playL (LVl μ A) (SWp ρ A')) ∧ bB (m_playL (LVl μ A) (SWp ρ A'))) ∧ GNl A' G' (lvN μ A) (A 122 μ.1 0) (A 123 μ.1 0) (SWp ρ A') ∧ BDp (A 121 μ.1 0) A' (LVl μ A) := by
  obtain ⟨⟨h1, h2, h3, ⟨h4, h5⟩, h7, h8⟩, ⟨g1, g2, g3⟩, -, -, g6⟩ := h
  have hn : A 122 μ.1 0 + (lvN μ A : Int) = A 120 μ.1 0 := by unfold lvN; omega
  have sb : ∀ X : Mm, SB 1 (SWp ρ X) := fun X => h1.cong fun c a i x y => SWp_s ⟨x, y⟩
  have bb : bB (SWp ρ A) := fun i x y => by rw [SWp_o (by decide)]; exact h2 i x y
  have bb' : bB (SWp ρ A') := fun i x y => by rw [SWp_o (by decide)]; exact hb i x y
  have eS : EQv TA 1 1 (SWp ρ A) (SWp ρ A') := EQv.buf (V := ρ) (V' := ρ) EQv.refl (fun c i x y => SWp_s ⟨x, y⟩) (fun c i x y => SWp_s ⟨x, y⟩)
  have pS : PAg (A 121 μ.1 0) (SWp ρ A) (SWp ρ A') := fun j x y => by rw [pby_SWp, pby_SWp]; exact hp j x y
  have bS : BDp (A 121 μ.1 0) (SWp ρ A) (LVl μ A) := fun y hy => by rw [play_1 (fun j => pby_SWp)]; exact g2 y hy
  have hx : ∀ j, A 122 μ.1 0 ≤ j → j < A 122 μ.1 0 + (lvN μ A : Int) → 0 ≤ A 212 0 j := fun j a b => h8 j a (by omega)
  have o := playL_eq (LVl μ A) (SWp ρ A) (SWp ρ A') eS pS (fun j x => by rw [pby_SWp]; exact h6 j x) (sb A) bb g1 bS
  have hl : plist A' (lvN μ A) (A 122 μ.1 0) (A 123 μ.1 0) = LVl μ A := plist_app2 hp (lim := A 120 μ.1 0) h212 _ _ _ h4 (by omega) h7 hx g2
  refine ⟨hl, ?_, o.2, o.1, SB_L _ _ (sb A') bb' o.2, ?_, fun y hy => ?_⟩
  · rw [ptE_app2 hp (lim := A 120 μ.1 0) h212 _ _ _ h4 (by omega) h7 hx g2]; exact g3
  · exact GNl_eq hp (lim := A 120 μ.1 0) h212 hG _ _ _ _ _ h4 (by omega) h7 hx g2 eS (fun j => pby_SWp) (fun j => pby_SWp) h6 (sb A) bb g1 g6
  · have hy2 : 0 ≤ y.2 := by
      have key : ∀ (n : Nat) (i t : Int), 0 ≤ t → (∀ j, i ≤ j → j < i + n → 0 ≤ A 212 0 j) → ∀ z ∈ plist A n i t, 0 ≤ z.2 := fun n => by
        induction n with
        | zero => intro i t _ _ z hz; exact absurd hz (List.not_mem_nil)
        | succ n ih =>
          intro i t ht hxx z hz
          rw [plist_s (n := n + 1) (m := n) rfl] at hz
          rcases List.mem_cons.mp hz with rfl | hz
          · exact ht
          · have nn := play1_nn (t := t) (b := A) (hxx i (by omega) (by omega))
            exact ih (i + 1) _ (by omega) (fun j a b => hxx j (by omega) (by omega)) z hz
      exact key _ _ _ h7 hx y hy
    rw [play1_eq hp hy2 (g2 y hy)]; exact g2 y hy
/-- nothing is appended -/
theorem LIV.keep (h : LIV μ G ρ A) (e120 : A' 120 μ.1 0 = A 120 μ.1 0) (e121 : A' 121 μ.1 0 = A 121 μ.1 0) (e122 : A' 122 μ.1 0 = A 122 μ.1 0) (e123 : A' 123 μ.1 0 = A 123 μ.1 0) (h212 : ∀ j, 0 ≤ j → j < A 120 μ.1 0 → A' 212 0 j = A 212 0 j) (hp : PAg (A 121 μ.1 0) A A') (hb : bB A') (h6 : bPb A') (h211 : ∀ r, A' 211 0 r = A 211 0 r) (hE : EQv (Tkd A) 0 0 A A') : LIV μ G ρ A' := by
  obtain ⟨k1, k2, k3, k4, k5, k6, k7⟩ := h.old e122 e123 h212 hp hb h6 (fun _ _ _ => rfl)
  obtain ⟨⟨h1, h2, h3, ⟨h4, h5⟩, h7, h8⟩, ⟨g1, g2, g3⟩, g4, g5, g6⟩ := h
  have en : lvN μ A' = lvN μ A := by unfold lvN; rw [e120, e122]
  have eL : LVl μ A' = LVl μ A := by unfold LVl at k1 ⊢; rw [en, e122, e123]; exact k1
  have hT : Tkd A' = Tkd A := by funext r; show (A' 211 0 r = 1) = (A 211 0 r = 1); rw [h211]
  refine ⟨⟨h1, hb, h6, by rw [e122, e120]; exact ⟨h4, h5⟩, by rw [e123]; exact h7, fun j a b => ?_⟩, ⟨by rw [eL]; exact k3, by rw [eL, e121]; exact k7, by rw [en, e122, e123, e121]; exact k2⟩, ?_, fun r r0 r1 r2 => ?_, by rw [en, e122, e123]; exact k6⟩
  · rw [e122] at a; rw [e120] at b; rw [h212 j (by omega) b]; exact h8 j a b
  · rw [eL, hT]
    exact ((k4.mono (fun _ _ _ _ => trivial)).symm.trans g4).trans hE
  · rw [h211] at r2
    have q := (k4.2.2.2 r r0 r1 trivial).1
    rw [eL, show (5 : Int) + r = 5 * 1 + r by omega, ← q, show (5 : Int) * 1 + r = 5 + r by omega]; exact g5 r r0 r1 r2
/-- a step is appended -/
theorem LIV.app (h : LIV μ G ρ A) (e120 : A' 120 μ.1 0 = A 120 μ.1 0 + 1) (e122 : A' 122 μ.1 0 = A 122 μ.1 0) (e123 : A' 123 μ.1 0 = A 123 μ.1 0) (h212 : ∀ j, 0 ≤ j → j < A 120 μ.1 0 → A' 212 0 j = A 212 0 j) (hp : PAg (A 121 μ.1 0) A A') (hb : bB A') (h6 : bPb A') (h211 : ∀ r, A' 211 0 r = A 211 0 r)
    (key : ∀ V, EQv (Tkd A) 1 0 V A → Unt A V → SB 1 V → bB V → (∀ j, pby V j = pby A' j) → (LG1 (A' 212 0 (A 120 μ.1 0)) (A 121 μ.1 0) V ∧ LGr (A' 212 0 (A 120 μ.1 0) % 8) (A' 212 0 (A 120 μ.1 0) / 4096) (A 121 μ.1 0) V) ∧ EQv (Tkd A) 1 0 (m_play (A' 212 0 (A 120 μ.1 0)) (A 121 μ.1 0) V).2 A' ∧ Unt A (m_play (A' 212 0 (A 120 μ.1 0)) (A 121 μ.1 0) V).2 ∧ A 121 μ.1 0 + (m_play (A' 212 0 (A 120 μ.1 0)) (A 121 μ.1 0) V).1 = A' 121 μ.1 0)
    (hG : ∀ k, 0 ≤ k → k < A 120 μ.1 0 → G' k = G k) (hG' : A' 212 0 (A 120 μ.1 0) % 8 = 1 ∨ A' 212 0 (A 120 μ.1 0) % 8 = 2 → ∀ j, 0 ≤ j → j < wsz (A' 212 0 (A 120 μ.1 0)) → G' (A 120 μ.1 0) j = A 200 0 (A' 212 0 (A 120 μ.1 0) / 8 % 512 + j)) : LIV μ G' ρ A' := by
  obtain ⟨k1, k2, k3, k4, k5, k6, k7⟩ := h.old e122 e123 h212 hp hb h6 hG
  obtain ⟨⟨h1, h2, h3, ⟨h4, h5⟩, h7, h8⟩, ⟨g1, g2, g3⟩, g4, g5, g6⟩ := h
  have hn : A 122 μ.1 0 + (lvN μ A : Int) = A 120 μ.1 0 := by unfold lvN; omega
  have en : lvN μ A' = lvN μ A + 1 := by unfold lvN; rw [e120, e122]; omega
  have eL : LVl μ A' = LVl μ A ++ [(A' 212 0 (A 120 μ.1 0), A 121 μ.1 0)] := by
    unfold LVl at k1 ⊢
    rw [en, e122, e123, plist_snoc, k1, k2, hn]
  obtain ⟨V, hV⟩ : ∃ V, V = m_playL (LVl μ A) (SWp ρ A') := ⟨_, rfl⟩
  rw [← hV] at k4 k5
  have eVA : EQv (Tkd A) 1 0 V A := (k4.mono (fun _ _ _ _ => trivial)).symm.trans g4
  have uV : Unt A V := fun r r0 r1 r2 => by
    have q := (k4.2.2.2 r r0 r1 trivial).1
    rw [show (5 : Int) + r = 5 * 1 + r by omega, ← q, show (5 : Int) * 1 + r = 5 + r by omega]; exact g5 r r0 r1 r2
  have pV : ∀ j, pby V j = pby A' j := fun j => by rw [hV, pby_L, pby_SWp]
  obtain ⟨⟨m1, m2⟩, m3, m4, m5⟩ := key V eVA uV k5.1 k5.2 pV
  have hT : Tkd A' = Tkd A := by funext r; show (A' 211 0 r = 1) = (A 211 0 r = 1); rw [h211]
  have e1 : (m_play (A' 212 0 (A 120 μ.1 0)) (A 121 μ.1 0) A').1 = (m_play (A' 212 0 (A 120 μ.1 0)) (A 121 μ.1 0) V).1 := (play_1 pV).symm
  have hx0 : 0 ≤ A' 212 0 (A 120 μ.1 0) := m1.1.1
  have e2 : m_playL (LVl μ A') (SWp ρ A') = (m_play (A' 212 0 (A 120 μ.1 0)) (A 121 μ.1 0) V).2 := by rw [eL, playL_app, ← hV]; rfl
  refine ⟨⟨h1, hb, h6, by rw [e122, e120]; omega, by rw [e123]; exact h7, fun j a b => ?_⟩, ⟨?_, fun y hy => ?_, ?_⟩, ?_, ?_, ?_⟩
  · rw [e122] at a; rw [e120] at b
    by_cases y : j = A 120 μ.1 0
    · rw [y]; exact hx0
    · rw [h212 j (by omega) (by omega)]; exact h8 j a (by omega)
  · rw [eL, LGL_app, ← hV]; exact ⟨k3, ⟨m1, m2⟩, trivial⟩
  · rw [eL] at hy
    have nn := play1_nn (t := A 121 μ.1 0) (b := A') hx0
    rcases List.mem_append.mp hy with hy | hy
    · have := k7 y hy; rw [e1] at nn; omega
    · rw [List.mem_singleton.mp hy]; show A 121 μ.1 0 + (m_play (A' 212 0 (A 120 μ.1 0)) (A 121 μ.1 0) A').1 ≤ _; rw [e1]; omega
  · have key : ∀ (n : Nat) (i t : Int), ptE A' (n + 1) i t = ptE A' n i t + (m_play (A' 212 0 (i + n)) (ptE A' n i t) A').1 := fun n => by
      induction n with
      | zero => intro i t; simp only [ptE]; rw [show i + ((0 : Nat) : Int) = i by omega]
      | succ n ih =>
        intro i t
        rw [show ptE A' (n + 1 + 1) i t = ptE A' (n + 1) (i + 1) (t + (m_play (A' 212 0 i) t A').1) from rfl, ih, show i + 1 + (n : Int) = i + ((n + 1 : Nat) : Int) by omega]
        rfl
    rw [en, e122, e123, key, k2, hn, e1]; exact m5
  · rw [e2, hT]; exact m3
  · rw [e2]; exact fun r r0 r1 r2 => m4 r r0 r1 (by rw [← h211]; exact r2)
  · rw [en, e122, e123]
    refine GNl_snoc _ _ _ _ k6 (fun hk j j0 j1 => ?_)
    rw [hn] at hk j1 ⊢
    rw [show plist A' (lvN μ A) (A 122 μ.1 0) (A 123 μ.1 0) = LVl μ A from k1, ← hV, hG' hk j j0 j1]
    obtain ⟨g0, gs, -, -⟩ := m1
    obtain ⟨t1, v1, p1, q0, q1, q2, -⟩ := gs
    have hw : A' 212 0 (A 120 μ.1 0) / 8 % 512 + j < V 201 0 1 := by
      rcases hk with hk | hk
      · have := q1 hk; unfold wsz at j1; rw [if_neg (by omega)] at j1; omega
      · have := q2 hk; unfold wsz at j1; rw [if_pos hk] at j1; omega
    have q := eVA.2.1 (A' 212 0 (A 120 μ.1 0) / 8 % 512 + j) (by omega) hw
    rw [show (400 : Int) * 1 + (A' 212 0 (A 120 μ.1 0) / 8 % 512 + j) = 400 + A' 212 0 (A 120 μ.1 0) / 8 % 512 + j by omega, show (400 : Int) * 0 + (A' 212 0 (A 120 μ.1 0) / 8 % 512 + j) = A' 212 0 (A 120 μ.1 0) / 8 % 512 + j by omega] at q
    exact q
end LVA
