/-! the relation along the commands that put, copy, overwrite, go -/
section RLD
variable {p : RP} {w W w0 w1 w2 w3 A A' A0 A1 : Mm} {μ : MU} {f q n b x y lo v r g m i k s wd z a : Int} {c : Int → Int} {L : List Int} {gf : Int → Int}
theorem RPF.of0 (h : RLm p μ f L w1 A1) (u : UPd (pc_ p) (SDb 10 (A 122 μ.1 0)) w w1) (h120 : A1 120 μ.1 0 = A 120 μ.1 0) : RPF p μ f L w A w1 A1 := by
  refine ⟨pc_ p, ps_ p, pg_ p, ?_, by omega, fun _ _ => ⟨rfl, rfl⟩, ⟨u, CXt.refl⟩, fun k a b => by omega⟩
  rw [h120, show (A 120 μ.1 0 - A 120 μ.1 0).toNat = 0 by omega]
  have h' : RLm (pU p (pc_ p) (ps_ p) (pg_ p)) μ f L w1 A1 := h
  simpa [rng] using h'
/-- the reference's buffer, and what it answers, change -/
theorem RLm.buf (h : RLm p μ f L w A) (hR : RBc μ L A) (e : ∀ (c : Nat) (a i : Int), c ≠ 240 → c ≠ 136 → c ≠ 139 → A' c a i = A c a i) : RLm p μ f L w A' :=
  h.cA hR.1 hR.2.1.2.2.2.2.1 (AgO.of fun c a i hc => e _ _ _ (by omega) (by omega) (by omega)) (fun i => e _ _ _ (by decide) (by decide) (by decide)) (e _ _ _ (by decide) (by decide) (by decide)) (fun k _ _ => e _ _ _ (by decide) (by decide) (by decide)) (fun c i a b _ _ => e _ _ _ (by omega) (by omega) (by omega))
theorem ans_u (hf : pc_ p f = 1) : UPd (pc_ p) (SDb 10 lo) w (up w 91 f 0 v) := UPd.refl.sU (by decide) (Or.inr (by rw [hf]; unfold SDb; omega))
theorem goR (h : RLm p μ f L w A) (hR : RBc μ L A) (hv : 0 ≤ v ∧ v ≤ 400) : RPF p μ f L w A (g_go f v w) (m_goto μ v A) := by
  refine RPF.of0 (h.go hR.1 hv) ?_ (by unfold m_goto; rw [up_k _ (by decide), up_k _ (by decide)])
  unfold g_go
  refine (UPd.refl.sU (by decide) (Or.inr ?_)).sU (by decide) (Or.inr ?_)
  · rw [h.1.2.2.1.1.1.1.2]; unfold SDb; omega
  · rw [h.1.2.1.1.2]; unfold SDb; omega
theorem putR (h : RLm p μ f L w A) (hR : RBc μ L A) (hg : vCh (pc_ p) w g n gf) (hn : 0 ≤ n ∧ n ≤ 400) (hfit : A 201 0 0 + n ≤ 400) (hx : 0 < x ∧ w 0 x 0 = 0) (hA0 : ∀ (c : Nat) (a i : Int), c ≠ 240 → A0 c a i = A c a i) (hA1 : ∀ j, 0 ≤ j → j < n → A0 240 0 j = gf j) (hpt : 0 ≤ A 207 0 0 ∧ A 207 0 0 ≤ A 201 0 0) :
    RPF p μ f L w A (g_put f g x w) (m_pt μ n (m_ins μ (A 207 0 0) n A0)) := by
  have hlow := h.low
  have h0 := h.buf hR (A' := A0) (fun c a i z _ _ => hA0 c a i z)
  obtain ⟨hl, hSB, hVB, hbB, hbT, hLn⟩ := hR
  have e : ∀ {c : Nat} {a i : Int}, c ≠ 240 → A0 c a i = A c a i := fun z => hA0 _ _ _ z
  have hl0 : 0 ≤ A0 122 μ.1 0 ∧ A0 122 μ.1 0 ≤ A0 120 μ.1 0 := by rw [e (by decide), e (by decide)]; exact hl
  have hSB0 : SB 0 A0 := hSB.cong fun c a i z1 z2 => hA0 _ _ _ (by omega)
  have hVW0 : VW 0 A0 := by
    refine ⟨?_, fun i z1 z2 => ?_, fun i z1 z2 => ?_⟩
    · unfold bV; rw [e (by decide)]; exact hVB.1
    · rw [e (by decide), e (by decide)]; exact hVB.2.1 i z1 z2
    · rw [e (c := 210) (by decide)] at z2 ⊢
      rw [e (c := 208) (by decide), e (c := 209) (by decide), e (c := 201) (by decide), e (c := 208) (by decide), e (c := 209) (by decide)]; exact hVB.2.2.1 i z1 z2
  have hs : mvF (A 207 0 0) (A 207 0 0) n 0 = A 207 0 0 := mvF_same
  have k := RLm.put (b := w 10 g 0) (n := n) (q := A 207 0 0) h0 hl0 hSB0 hVW0 ⟨hg.2.1.1, hg.2.1.2⟩ ⟨hg.2.2.1, hn.1⟩ (by rw [hlow.2.2.2.1]; exact hpt) (by rw [hlow.2.2.2.1]; exact hfit) hx (fun j j0 j1 => by rw [hA1 j j0 j1]; exact hg.2.2.2 j j0 j1) (by rw [e (c := 207) (by decide), hs]; have := hSB.1.2; omega)
  rw [e (c := 207) (by decide), hs] at k
  obtain ⟨c, σ, G, h1, h2, h3, h4, u1, hc1⟩ := k
  rw [e (c := 120) (by decide)] at h2 h3
  rw [e (c := 122) (by decide)] at u1
  have q := h.eqs hl.1 u1
  obtain ⟨w1, hw1⟩ : ∃ w1, w1 = d_pj (w 41 f 0) (A 207 0 0) (w 10 g 0) x w (w 60 (w 41 f 0) 0) := ⟨_, rfl⟩
  rw [← hw1] at h1 u1 q
  have hM : ∀ (cc : Nat), cc = 120 ∨ cc = 122 → (up (m_ins μ (A 207 0 0) n A0) 207 0 0 (A 207 0 0)) cc μ.1 0 = if cc = 120 then A 120 μ.1 0 + 1 else A 122 μ.1 0 := fun cc hcc => by
    rcases hcc with rfl | rfl
    · rw [if_pos rfl, up_k _ (by decide), ins_120, e (by decide)]
    · rw [if_neg (by decide), up_k _ (by decide), ins_o (by decide), opens_at (by decide), e (by decide)]
  have hl1 : 0 ≤ (up (m_ins μ (A 207 0 0) n A0) 207 0 0 (A 207 0 0)) 122 μ.1 0 ∧ (up (m_ins μ (A 207 0 0) n A0) 207 0 0 (A 207 0 0)) 122 μ.1 0 ≤ (up (m_ins μ (A 207 0 0) n A0) 207 0 0 (A 207 0 0)) 120 μ.1 0 := by
    rw [hM 122 (Or.inr rfl), hM 120 (Or.inl rfl), if_pos rfl, if_neg (by decide)]; omega
  have k2 := h1.pt (v := A 207 0 0 + n) hl1 (by omega)
  have k3 := k2.ans (r := w 67 (w 11 (w 41 f 0) 0) 0 + n) (v := A 201 0 0 + n) (by rw [up_k _ (by decide), up_k _ (by decide)]; exact hl1)
  rw [up_up, q.1 41 (by decide)] at k3
  have eA : up (up (m_ins μ (A 207 0 0) n A0) 207 0 0 (A 207 0 0 + n)) 136 μ.1 0 (A 201 0 0 + n) = m_pt μ n (m_ins μ (A 207 0 0) n A0) := by
    unfold m_pt
    rw [ins_o (c := 207) (by decide), opens_at (by decide), e (by decide), ins_201, e (by decide)]
  have ew : up (up w1 61 (w 41 f 0) 0 (A 207 0 0 + n)) 91 f 0 (w 67 (w 11 (w 41 f 0) 0) 0 + n) = g_put f g x w := by
    unfold g_put
    rw [hlow.2.2.1, hg.2.2.1, hw1]
  rw [eA, ew] at k3
  have hf1 : c f = 1 := (hc1 f (by have := h.1.2.1.1; omega)).trans h.1.2.1.1.2
  have hd1 : c (w 41 f 0) = 10 := (hc1 _ (by have := h.1.2.2.1.1.1.1.1; omega)).trans h.1.2.2.1.1.1.1.2
  have u2 : UPd c (SDb 10 (A 122 μ.1 0)) w1 (g_put f g x w) := by
    rw [← ew]
    refine (UPd.refl.sU (by decide) (Or.inr ?_)).sU (by decide) (Or.inr ?_)
    · rw [hd1]; unfold SDb; omega
    · rw [hf1]; unfold SDb; omega
  have ek : m_pt μ n (m_ins μ (A 207 0 0) n A0) 212 0 (A 120 μ.1 0) = 8 * A 207 0 0 + 4096 * n := by
    unfold m_pt; rw [up_k _ (by decide), up_k _ (by decide), ins_212, if_pos (by rw [e (by decide)])]
  refine RPF.of1 (P := fun _ => True) ⟨c, σ, G, k3, h2, h3, trivial, u1.trans hc1 u2, hc1⟩ ?_ (fun g' _ hk => ?_)
  · unfold m_pt; rw [up_k _ (by decide), up_k _ (by decide), ins_120, e (by decide)]
  · rw [ek] at hk; omega
/-- characters become a register's -/
theorem copR (h : RLm p μ f L w A) (hR : RBc μ L A) (hn : 0 ≤ n ∧ n ≤ 20) (hr : 0 ≤ r ∧ r < 4) (hq : 0 ≤ A 207 0 0 ∧ A 207 0 0 + n ≤ A 201 0 0) (hN : NCh (up w 91 f 0 z) W g (w 28 (w 11 (w 41 f 0) 0) 0) (A 207 0 0) n) :
    RPF p μ f L w A (up W 3 (w 31 (w 11 (w 41 f 0) 0) 0) r g) (m_copA μ r n A) := by
  have hf := h.1.2.1.1
  have hs := h.1.2.2.1.1.1
  have h1 := h.ans (r := z) (v := if A 204 0 r = 0 then 0 else A 205 0 (4 * r)) hR.1
  obtain ⟨hl, hSB, hVB, hbB, hbT, hLn⟩ := hR
  obtain ⟨A1, hA1⟩ : ∃ A1, A1 = up A 136 μ.1 0 (if A 204 0 r = 0 then 0 else A 205 0 (4 * r)) := ⟨_, rfl⟩
  rw [← hA1] at h1
  have e1 : ∀ {c : Nat} {a i : Int}, c ≠ 136 → A1 c a i = A c a i := fun z => by rw [hA1]; exact up_k _ z _ _ _ _ _
  have hl1 : 0 ≤ A1 122 μ.1 0 ∧ A1 122 μ.1 0 ≤ A1 120 μ.1 0 := by rw [e1 (by decide), e1 (by decide)]; exact hl
  have u0 : UPd (pc_ p) (fun _ _ => False) (up w 91 f 0 z) W := NCh_u hN
  have hW := h1.fr0 hl1 u0
  have hT := hs.2.1.2.1.1
  have hg := NCh_v hN (by rw [up_k _ (by decide)]; omega) h1.1.1
  have w91 : ∀ {k : Nat} {a i : Int}, k ≠ 91 → w 0 a 0 ≠ 0 → W k a i = w k a i := fun z1 z2 => by
    rw [u0.1 _ _ _ (by rw [up_k _ (by decide)]; exact z2) (fun z => z), up_k _ z1]
  have e41 : W 41 f 0 = w 41 f 0 := w91 (by decide) (by omega)
  have e11 : W 11 (w 41 f 0) 0 = w 11 (w 41 f 0) 0 := w91 (by decide) (by have := hs.1.1; omega)
  have e31 : W 31 (w 11 (w 41 f 0) 0) 0 = w 31 (w 11 (w 41 f 0) 0) 0 := w91 (by decide) (by have := hs.2.1.1.1; omega)
  have hE1 : bEl 0 A1 := fun i z1 z2 => by rw [e1 (by decide)]; exact hSB.2.2.2.2.1 i z1 z2
  have tx : ∀ j, 0 ≤ j → j < n → (up w 91 f 0 z) 1 (w 28 (w 11 (w 41 f 0) 0) 0) (A 207 0 0 + j) = A 200 0 (A 207 0 0 + j) := fun j j0 j1 => by
    rw [up_k _ (by decide)]; exact h.txt (by omega) (by omega)
  have rdE : ∀ (c : Nat) (a j : Int), c ≠ 240 → c ≠ 136 → c ≠ 204 → m_rd n (up (up A 136 μ.1 0 (if A 204 0 r = 0 then 0 else A 205 0 (4 * r))) 204 0 r 1) c a j = A c a j := fun c a j z1 z2 z3 => by
    unfold m_rd; rw [fl_at z1, up_k _ z3, up_k _ z2]
  have k := hW.reg (A' := m_copA μ r n A) (r := r) (k := n) hl1 hE1 hg hn hr (fun j => ?_) (fun j => ?_) (fun j => ?_) (fun c a j z1 z2 z3 z4 z5 => ?_)
  · rw [e41, e11, e31] at k
    refine RPF.of0 k ?_ ?_
    · refine ((ans_u hf.2).trans CXt.refl (u0.mono fun _ _ z => z.elim)).sU (by decide) (Or.inr ?_)
      rw [hs.2.1.2.2.2.2.2.2]; unfold SDb; omega
    · unfold m_copA; rw [tak_at2 (by decide), rdE _ _ _ (by decide) (by decide) (by decide)]
  · unfold m_copA
    rw [tak_at2 (by decide), e1 (by decide)]
    unfold m_rd
    rw [fl_at (by decide)]
    by_cases y : j = r
    · rw [if_pos y, y, up_s]
    · rw [if_neg y, up_i _ _ _ _ _ _ y, up_k _ (by decide)]
  · unfold m_copA
    rw [tak_205, rdE _ _ _ (by decide) (by decide) (by decide), e1 (by decide), show (20 : Int) * 0 + 4 * r + 0 = 4 * r by omega]
  · unfold m_copA
    rw [tak_206, rdE 206 _ _ (by decide) (by decide) (by decide), e1 (by decide), show (400 : Int) * 0 + 80 * r + 20 * 0 = 80 * r by omega]
    by_cases y : 80 * r ≤ j ∧ j < 80 * r + n
    · rw [if_pos y, if_pos y, tx _ (by omega) (by omega)]
      unfold m_rd
      rw [fl_v, if_pos (by omega), up_k _ (by decide), up_k _ (by decide), up_k _ (by decide), up_k _ (by decide)]
    · rw [if_neg y, if_neg y]
  · unfold m_copA
    rw [tak_at2 ⟨z3, z4⟩, rdE _ _ _ z5 z1 z2, e1 z1]
/-- the character behind the point is replaced -/
theorem ovrR (h : RLm p μ f L w A) (hR : RBc μ L A) (ha : 0 ≤ a) (hq : 0 ≤ A 207 0 0 ∧ A 207 0 0 < A 201 0 0) (hN : NCh (up w 91 f 0 z) W g (w 28 (w 11 (w 41 f 0) 0) 0) (A 207 0 0) 1) (hx : 0 < x ∧ W 0 x 0 = 0) :
    RPF p μ f L w A (up (d_rp (w 41 f 0) (A 207 0 0) a g x W) 61 (w 41 f 0) 0 (A 207 0 0 + 1)) (m_ovr μ a A) := by
  have hf := h.1.2.1.1
  have hs := h.1.2.2.1.1.1
  have hlow := h.low
  have h1 := h.ans (r := z) (v := A 200 0 (A 207 0 0)) hR.1
  obtain ⟨hl, hSB, hVB, hbB, hbT, hLn⟩ := hR
  have h22 := hSB.1.2
  obtain ⟨A1, hA1⟩ : ∃ A1, A1 = up A 136 μ.1 0 (A 200 0 (A 207 0 0)) := ⟨_, rfl⟩
  rw [← hA1] at h1
  have e1 : ∀ {c : Nat} {a i : Int}, c ≠ 136 → A1 c a i = A c a i := fun z => by rw [hA1]; exact up_k _ z _ _ _ _ _
  have hl1 : 0 ≤ A1 122 μ.1 0 ∧ A1 122 μ.1 0 ≤ A1 120 μ.1 0 := by rw [e1 (by decide), e1 (by decide)]; exact hl
  have u0 : UPd (pc_ p) (fun _ _ => False) (up w 91 f 0 z) W := NCh_u hN
  have hW := h1.fr0 hl1 u0
  have hT := hs.2.1.2.1.1
  have hg := NCh_v hN (by rw [up_k _ (by decide)]; omega) h1.1.1
  have w91 : ∀ {k : Nat} {a i : Int}, k ≠ 91 → w 0 a 0 ≠ 0 → W k a i = w k a i := fun z1 z2 => by
    rw [u0.1 _ _ _ (by rw [up_k _ (by decide)]; exact z2) (fun z => z), up_k _ z1]
  have e41 : W 41 f 0 = w 41 f 0 := w91 (by decide) (by omega)
  have e11 : W 11 (w 41 f 0) 0 = w 11 (w 41 f 0) 0 := w91 (by decide) (by have := hs.1.1; omega)
  have e67 : W 67 (w 11 (w 41 f 0) 0) 0 = w 67 (w 11 (w 41 f 0) 0) 0 := w91 (by decide) (by have := hs.2.1.1.1; omega)
  have k := hW.rp (q := A 207 0 0) (v := a) (x := x) (g := g) hl1 (by rw [e41, e11, e67, hlow.2.2.2.1]; exact hq) ha hx hg
  rw [e41] at k
  obtain ⟨c, σ, G, k1, k2, k3, k4, u1, hc1⟩ := k
  rw [e1 (by decide)] at k2 k3
  have k4 : G (A 120 μ.1 0) = fun j => up w 91 f 0 z 1 (w 28 (w 11 (w 41 f 0) 0) 0) (A 207 0 0 + j) := by rw [e1 (c := 120) (by decide)] at k4; exact k4
  rw [e1 (by decide)] at u1
  have q := hW.eqs hl.1 u1
  have hlR : 0 ≤ m_rep μ (A 207 0 0) a A1 122 μ.1 0 ∧ m_rep μ (A 207 0 0) a A1 122 μ.1 0 ≤ m_rep μ (A 207 0 0) a A1 120 μ.1 0 := by
    rw [rep_120, rep_o (by decide)]; omega
  have k5 := k1.pt (v := A 207 0 0 + 1) hlR (by omega)
  rw [q.1 41 (by decide), e41] at k5
  have eA : up (m_rep μ (A 207 0 0) a A1) 207 0 0 (A 207 0 0 + 1) = m_ovr μ a A := by
    unfold m_ovr m_ovrA
    rw [rep_o (by decide), up_k _ (by decide), hA1]
  rw [eA] at k5
  have hd1 : c (w 41 f 0) = 10 := (hc1 _ (by rw [w91 (by decide) (by have := hs.1.1; omega)]; have := hs.1.1; omega)).trans hs.1.2
  have k6 : RS1 p μ f L x W A (up (d_rp (w 41 f 0) (A 207 0 0) a g x W) 61 (w 41 f 0) 0 (A 207 0 0 + 1)) (m_ovr μ a A) (fun h => h = fun j => (up w 91 f 0 z) 1 (w 28 (w 11 (w 41 f 0) 0) 0) (A 207 0 0 + j)) :=
    ⟨c, σ, G, k5, k2, k3, k4, u1.sU (by decide) (Or.inr (by rw [show pc_ p (w 41 f 0) = 10 from hs.1.2]; unfold SDb; omega)), hc1⟩
  have ek : m_ovr μ a A 212 0 (A 120 μ.1 0) = 2 + 8 * A 207 0 0 + 4096 * a := by
    unfold m_ovr m_ovrA
    rw [up_k _ (by decide), rep_212, up_k _ (by decide), if_pos rfl]
  have k7 : RPF p μ f L W A (up (d_rp (w 41 f 0) (A 207 0 0) a g x W) 61 (w 41 f 0) 0 (A 207 0 0 + 1)) (m_ovr μ a A) := by
    refine RPF.of1 k6 ?_ (fun g' hg' _ j j0 j1 => ?_)
    · unfold m_ovr m_ovrA; rw [up_k _ (by decide), rep_120, up_k _ (by decide)]
    · rw [ek] at j1 ⊢
      have e2 : wsz (2 + 8 * A 207 0 0 + 4096 * a) = 1 := by unfold wsz; rw [if_pos (by omega)]
      rw [e2] at j1
      rw [hg', show (2 + 8 * A 207 0 0 + 4096 * a) / 8 % 512 = A 207 0 0 by omega]
      show (up w 91 f 0 z) 1 _ _ = _
      rw [up_k _ (by decide)]; exact h.txt (by omega) (by omega)
  obtain ⟨c', σ', G', m1, m2, m3, ⟨m4, m5⟩, m6⟩ := k7.pre u0
  exact ⟨c', σ', G', m1, m2, m3, ⟨(ans_u hf.2).trans CXt.refl m4, fun b hb => m5 b (by rw [up_k _ (by decide)]; exact hb)⟩, m6⟩
end RLD
