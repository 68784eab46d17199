/-! a command's run in the class is the reference's: what each comes to -/
def PFR (p : RP) (μ : MU) (f : Int) (L : List Int) (w A : Mm) (c a b : Int) (r : Int) (w' : Mm) : Prop :=
  r = (m_does μ c a b A).1 ∧ RPF p μ f L w A w' (m_does μ c a b A).2 ∧ (r = 0 → w' 91 f 0 = (m_does μ c a b A).2 136 μ.1 0)
section PFS
variable {p : RP} {w W w0 w1 w2 w3 w' V A A' A0 A1 : Mm} {μ : MU} {f q n b x y lo v r g m i k s wd z a : Int} {c : Int → Int} {L : List Int} {gf : Int → Int}
theorem VB_f (h1 : bL1 0 A) (h : VB 0 A) : 0 ≤ A 207 0 0 ∧ A 207 0 0 ≤ A 201 0 0 ∧ (0 ≤ m_vF A ∧ m_vF A ≤ A 207 0 0) ∧ A 207 0 0 ≤ m_vT A ∧ m_vT A ≤ A 201 0 0 ∧ A 201 0 0 ≤ 400 := by
  obtain ⟨⟨v1, v2⟩, va, vn, vp1, vp2⟩ := h
  obtain ⟨l1, l2⟩ := h1
  unfold m_vF m_vT
  by_cases y : A 210 0 0 = 0
  · rw [if_pos y, if_pos y]
    have := vp1 y
    omega
  · rw [if_neg y, if_neg y]
    have k1 := vp2 y
    have k2 := va (4 * 0 + A 210 0 0 - 1) (by omega) (by omega)
    have k3 := vn (4 * 0 + A 210 0 0 - 1) (by omega) (by omega)
    rw [show (4 : Int) * 0 + A 210 0 0 - 1 = A 210 0 0 - 1 by omega] at k1 k2 k3
    omega
theorem fnd_cgr {h1 h2 : Int → Int} {c : Int} : ∀ (n : Nat) (i : Int), (∀ j, i ≤ j → j < i + n → h1 j = h2 j) → fnd h1 c n i = fnd h2 c n i
  | 0, _, _ => rfl
  | n + 1, i, h => by
    simp only [fnd]
    rw [h i (by omega) (by omega), fnd_cgr n (i + 1) (fun j a b => h j (by omega) (by omega))]
theorem lack_f {c a b : Int} (hc : c ≠ 2 ∧ c ≠ 5 ∧ c ≠ 8 ∧ c ≠ 1) : ¬ m_lack c a b A := fun h => by rcases h.1 with h | h | h | h <;> omega
theorem nch_u (h1 : 0 < r ∧ w 0 r 0 = 0) (h2 : 0 < q ∧ (newO w r 1) 0 q 0 = 0) (hc : ∀ a, w 0 a 0 = 0 → c a = 0) : UPd c (fun _ _ => False) w (up (up (newA (newO w r 1) q 20 1) 1 q 0 a) 10 r 0 q) ∧ vCh c (up (up (newA (newO w r 1) q 20 1) 1 q 0 a) 10 r 0 q) r 1 (fun _ => a) := by
  have hn : r ≠ q := fun e => by have := h2.2; rw [← e, newO_t] at this; omega
  have hq : w 0 q 0 = 0 := by have := h2.2; rwa [newO_o (Ne.symm hn)] at this
  have e10 : up (up (newA (newO w r 1) q 20 1) 1 q 0 a) 10 r 0 q 10 r 0 = q := up_s _ _ _ _ _
  refine ⟨(((UPd.refl.sO h1.1 h1.2).sA h2.1 hq).sU (by decide) (Or.inl hq)).sU (by decide) (Or.inl h1.2), ⟨?_, hc r h1.2⟩, ?_, ?_, fun j j0 j1 => ?_⟩
  · rw [up_k _ (by decide), up_k _ (by decide), newA_o hn, newO_t]
  · rw [e10, up_k _ (by decide), up_k _ (by decide), newA_t]; exact ⟨rfl, hc q hq⟩
  · rw [e10, up_k _ (by decide), up_k _ (by decide), newA_n]
  · rw [e10, show j = 0 by omega, up_k _ (by decide), up_s]
theorem pf_ins (h : RLm p μ f L w A) (hR : RBc μ L A) (ha : 0 ≤ a ∧ a ≤ 126) (u0 : UPd (pc_ p) (fun _ _ => False) w w0) (hg : vCh (pc_ p) w0 g 1 (fun _ => a)) (hg0 : g ≠ 0)
    (hp : (g = 0 ∧ r = 4 ∧ w' = w0) ∨ (g ≠ 0 ∧ ¬ (w0 2 (w0 10 g 0) 0 ≤ w0 2 (w0 28 (w0 11 (w0 41 f 0) 0) 0) 0 - w0 67 (w0 11 (w0 41 f 0) 0) 0) ∧ r = 5 ∧ w' = w0) ∨ (g ≠ 0 ∧ (w0 2 (w0 10 g 0) 0 ≤ w0 2 (w0 28 (w0 11 (w0 41 f 0) 0) 0) 0 - w0 67 (w0 11 (w0 41 f 0) 0) 0) ∧ r = 0 ∧ ∃ x, 0 < x ∧ w0 0 x 0 = 0 ∧ w' = g_put f g x w0)) : PFR p μ f L w A 0 a b r w' := by
  have h0 := h.fr0 hR.1 u0
  have hs0 := h0.1.2.2.1.1.1
  have e67 := h0.low.2.2.2.1
  have e2 := hs0.2.2.1
  have hv := VB_f hR.2.1.1 hR.2.2.1
  have hd : m_does μ 0 a b A = if A 201 0 0 = 400 then (5, A) else (0, m_insC μ a A) := by
    unfold m_does
    rw [if_neg (lack_f (by decide)), if_pos rfl]
  unfold PFR
  rw [hd]
  rcases hp with ⟨k, -, -⟩ | ⟨-, k1, k2, k3⟩ | ⟨-, k1, k2, x, x0, x1, k3⟩
  · exact absurd k hg0
  · rw [hg.2.2.1] at k1
    rw [if_pos (by omega), k2, k3]
    exact ⟨rfl, RPF.of0 h0 (u0.mono fun _ _ z => z.elim) rfl, fun z => absurd z (by decide)⟩
  · rw [hg.2.2.1] at k1
    rw [if_neg (by omega), k2, k3]
    have k := putR (n := 1) (x := x) (A0 := up A 240 0 0 a) h0 hR hg (by decide) (by omega) ⟨x0, x1⟩ (fun c b i z => up_k _ z _ _ _ _ _) (fun j j0 j1 => by rw [show j = 0 by omega, up_s]) ⟨hv.1, hv.2.1⟩
    refine ⟨rfl, k.pre u0, fun _ => ?_⟩
    show g_put f g x w0 91 f 0 = m_insC μ a A 136 μ.1 0
    unfold g_put m_insC m_pt
    rw [up_s, up_s, ins_201, up_k _ (by decide), hg.2.2.1, e67]
theorem pf_puts (h : RLm p μ f L w A) (hR : RBc μ L A) (hs : 0 ≤ s ∧ s < 5)
    (hp : (w 3 (w 31 (w 11 (w 41 f 0) 0) 0) s = 0 ∧ r = 4 ∧ w' = w) ∨ (w 3 (w 31 (w 11 (w 41 f 0) 0) 0) s ≠ 0 ∧ ¬ (w 2 (w 10 (w 3 (w 31 (w 11 (w 41 f 0) 0) 0) s) 0) 0 ≤ w 2 (w 28 (w 11 (w 41 f 0) 0) 0) 0 - w 67 (w 11 (w 41 f 0) 0) 0) ∧ r = 5 ∧ w' = w) ∨ (w 3 (w 31 (w 11 (w 41 f 0) 0) 0) s ≠ 0 ∧ (w 2 (w 10 (w 3 (w 31 (w 11 (w 41 f 0) 0) 0) s) 0) 0 ≤ w 2 (w 28 (w 11 (w 41 f 0) 0) 0) 0 - w 67 (w 11 (w 41 f 0) 0) 0) ∧ r = 0 ∧ ∃ x, 0 < x ∧ w 0 x 0 = 0 ∧ w' = g_put f (w 3 (w 31 (w 11 (w 41 f 0) 0) 0) s) x w)) (h00 : w 0 0 0 = 0) :
    r = (m_puts μ s A).1 ∧ RPF p μ f L w A w' (m_puts μ s A).2 ∧ (r = 0 → w' 91 f 0 = (m_puts μ s A).2 136 μ.1 0) := by
  have hs0 := h.1.2.2.1.1.1
  have e67 := h.low.2.2.2.1
  have e2 := hs0.2.2.1
  have hv := VB_f hR.2.1.1 hR.2.2.1
  have hE := hR.2.1.2.2.2.2.1 (4 * s) (by omega) (by omega)
  have hm0 : 0 < m_slt s := by unfold m_slt; split <;> omega
  obtain ⟨k1, k2⟩ := (h.2.2.1.1.1.2 s hs.1 hs.2).at0
  have k3 := k2 0 (Int.le_refl _) hm0
  rw [Int.add_zero, Int.add_zero, show 80 * s + 20 * 0 = 80 * s by omega] at k3
  have eld : ∀ (c : Nat) (b i : Int), c ≠ 240 → m_ld s A c b i = A c b i := fun c b i z => by unfold m_ld; exact fl_at z
  have hbuf := h.buf hR (A' := m_ld s A) (fun c a i z _ _ => eld c a i z)
  have e120 : m_ld s A 120 μ.1 0 = A 120 μ.1 0 := eld _ _ _ (by decide)
  unfold m_puts
  rw [eld 204 _ _ (by decide), eld 201 _ _ (by decide), eld 207 _ _ (by decide)]
  rcases hp with ⟨m1, m2, m3⟩ | ⟨m1, m2, m3, m4⟩ | ⟨m1, m2, m3, x, x0, x1, m4⟩
  · have hc : A 204 0 s = 0 := Classical.byContradiction fun hn => by
      have := (k3.1 (by omega)).1.1
      rw [m1] at this; omega
    rw [if_pos hc, m2, m3]
    exact ⟨rfl, RPF.of0 hbuf UPd.refl e120, fun z => absurd z (by decide)⟩
  · have hc : ¬ A 204 0 s = 0 := fun e => m1 (k3.2 (by omega))
    have hg := k3.1 (by omega)
    rw [hg.2.2.1] at m2
    rw [if_neg hc, if_pos (by omega), m3, m4]
    exact ⟨rfl, RPF.of0 hbuf UPd.refl e120, fun z => absurd z (by decide)⟩
  · have hc : ¬ A 204 0 s = 0 := fun e => m1 (k3.2 (by omega))
    have hg := k3.1 (by omega)
    rw [hg.2.2.1] at m2
    rw [if_neg hc, if_neg (by omega), m3, m4]
    have k := putR (n := A 205 0 (4 * s)) (x := x) (A0 := m_ld s A) h hR hg (by omega) (by omega) ⟨x0, x1⟩ (fun c b i z => eld c b i z) (fun j j0 j1 => by unfold m_ld; rw [fl_v, if_pos (by omega)]) ⟨hv.1, hv.2.1⟩
    refine ⟨rfl, k, fun _ => ?_⟩
    show g_put f _ x w 91 f 0 = m_pt μ _ _ 136 μ.1 0
    unfold g_put m_pt
    rw [up_s, up_s, ins_201, eld _ _ _ (by decide), hg.2.2.1, e67]
theorem pf_go (h : RLm p μ f L w A) (hR : RBc μ L A) (P : Prop) (e : Int) (he : e ≠ 0) (hP : P → 0 ≤ v ∧ v ≤ 400) (R : Int × Mm) (hR1 : P → R = (0, m_goto μ v A)) (hR2 : ¬ P → R = (e, A)) (hp : (P ∧ r = 0 ∧ w' = g_go f v w) ∨ (¬ P ∧ r = e ∧ w' = w)) : r = R.1 ∧ RPF p μ f L w A w' R.2 ∧ (r = 0 → w' 91 f 0 = R.2 136 μ.1 0) := by
  rcases hp with ⟨m1, m2, m3⟩ | ⟨m1, m2, m3⟩
  · rw [hR1 m1, m2, m3]
    exact ⟨rfl, goR h hR (hP m1), fun _ => by unfold g_go m_goto; rw [up_s]; exact (up_s _ _ _ _ _).symm⟩
  · rw [hR2 m1, m2, m3]
    exact ⟨rfl, RPF.refl h, fun z => absurd z he⟩
theorem pf_move (h : RLm p μ f L w A) (hR : RBc μ L A) (hp : (g_in w f (w 61 (w 41 f 0) 0 + a) ∧ r = 0 ∧ w' = g_go f (w 61 (w 41 f 0) 0 + a) w) ∨ (¬ g_in w f (w 61 (w 41 f 0) 0 + a) ∧ r = 1 ∧ w' = w)) : PFR p μ f L w A 3 a b r w' := by
  obtain ⟨l1, l2, l3, l4, l5⟩ := h.low
  have hv := VB_f hR.2.1.1 hR.2.2.1
  unfold PFR
  rw [l3] at hp
  have hd : m_does μ 3 a b A = if m_iV (A 207 0 0 + a) A then (0, m_goto μ (A 207 0 0 + a) A) else (1, A) := by
    unfold m_does
    rw [if_neg (lack_f (by decide)), if_neg (by decide), if_neg (by decide), if_neg (by decide), if_pos rfl]
  rw [hd]
  have hg : g_in w f (A 207 0 0 + a) ↔ m_iV (A 207 0 0 + a) A := by unfold g_in; rw [l1, l2]
  exact pf_go h hR (m_iV (A 207 0 0 + a) A) 1 (by decide) (fun z => by have z : m_vF A ≤ A 207 0 0 + a ∧ A 207 0 0 + a ≤ m_vT A := z; omega) _ (fun z => if_pos z) (fun z => if_neg z) (by rw [← hg]; exact hp)
theorem pf_jump (h : RLm p μ f L w A) (hR : RBc μ L A) (hi : 0 ≤ a ∧ a < 6) (hp : (g_in w f (w 1 (w 29 (w 11 (w 41 f 0) 0) 0) a) ∧ r = 0 ∧ w' = g_go f (w 1 (w 29 (w 11 (w 41 f 0) 0) 0) a) w) ∨ (¬ g_in w f (w 1 (w 29 (w 11 (w 41 f 0) 0) 0) a) ∧ r = 3 ∧ w' = w)) : PFR p μ f L w A 12 a b r w' := by
  obtain ⟨l1, l2, l3, l4, l5⟩ := h.low
  have hv := VB_f hR.2.1.1 hR.2.2.1
  unfold PFR
  rw [h.mrk hi.1 hi.2] at hp
  have hd : m_does μ 12 a b A = if A 202 0 a ≠ -1 ∧ m_iV (A 202 0 a) A then (0, m_goto μ (A 202 0 a) A) else (3, A) := by
    unfold m_does
    rw [if_neg (lack_f (by decide)), if_neg (by decide), if_neg (by decide), if_neg (by decide), if_neg (by decide), if_pos rfl]
  rw [hd]
  have hg : g_in w f (A 202 0 a) ↔ A 202 0 a ≠ -1 ∧ m_iV (A 202 0 a) A := by
    unfold g_in; rw [l1, l2]
    exact ⟨fun z => ⟨by omega, z⟩, fun z => z.2⟩
  exact pf_go h hR (A 202 0 a ≠ -1 ∧ m_iV (A 202 0 a) A) 3 (by decide) (fun z => by have z : m_vF A ≤ A 202 0 a ∧ A 202 0 a ≤ m_vT A := z.2; omega) _ (fun z => if_pos z) (fun z => if_neg z) (by rw [← hg]; exact hp)
theorem pf_sea (h : RLm p μ f L w A) (hR : RBc μ L A) (hp : (g_srch w f a = -1 ∧ r = 2 ∧ w' = w) ∨ (g_srch w f a ≠ -1 ∧ ((g_in w f (g_srch w f a + 1) ∧ r = 0 ∧ w' = g_go f (g_srch w f a + 1) w) ∨ (¬ g_in w f (g_srch w f a + 1) ∧ r = 2 ∧ w' = w)))) : PFR p μ f L w A 4 a b r w' := by
  obtain ⟨l1, l2, l3, l4, l5⟩ := h.low
  have hv := VB_f hR.2.1.1 hR.2.2.1
  have eg : g_srch w f a = fnd (fun i => A 200 0 i) a (m_vT A - A 207 0 0).toNat (A 207 0 0) := by
    unfold g_srch
    rw [l2, l3, l4]
    have e1 : (if 0 < A 207 0 0 then A 207 0 0 else 0) = A 207 0 0 := by split <;> omega
    have e2 : (if A 201 0 0 < m_vT A then A 201 0 0 else m_vT A) = m_vT A := by split <;> omega
    rw [e1, e2]
    exact fnd_cgr _ _ fun j j0 j1 => h.txt (by omega) (by omega)
  unfold PFR
  have hd : m_does μ 4 a b A = m_sea2 μ (g_srch w f a) A := by
    unfold m_does
    rw [if_neg (lack_f (by decide)), if_neg (by decide), if_neg (by decide), if_neg (by decide), if_neg (by decide), if_neg (by decide), if_neg (by decide)]
    unfold m_more
    rw [if_pos rfl, eg]; rfl
  rw [hd]
  unfold m_sea2
  rcases hp with ⟨m1, m2, m3⟩ | ⟨m1, hp⟩
  · rw [if_pos m1, m2, m3]; exact ⟨rfl, RPF.refl h, fun z => absurd z (by decide)⟩
  · rw [if_neg m1]
    have hin : g_in w f (g_srch w f a + 1) ∧ (0 ≤ g_srch w f a + 1 ∧ g_srch w f a + 1 ≤ 400) := by
      rcases fnd_spec (fun i => A 200 0 i) a (m_vT A - A 207 0 0).toNat (A 207 0 0) with ⟨k1, k2⟩ | ⟨k1, k2, k3, k4⟩
      · exact absurd (eg.trans k1) m1
      · unfold g_in; rw [l1, l2, eg]; omega
    rcases hp with ⟨n1, n2, n3⟩ | ⟨n1, -, -⟩
    · rw [n2, n3]
      exact ⟨rfl, goR h hR hin.2, fun _ => by unfold g_go; rw [up_s]; exact (up_s _ _ _ _ _).symm⟩
    · exact absurd hin.1 n1
end PFS
