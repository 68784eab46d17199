/-! settling, where one store is tracked by the reference already -/
def K2 : Nat → Int → Bool := fun c _ => c == 211
theorem K2_ok {μ : MU} : KQc μ K2 := ⟨fun c _ _ h => by unfold K2; simpa using h, fun c h1 h2 => by unfold K2; simp; omega⟩
theorem pc211 {B X : Mm} {s z : Int} (h : ∀ a i, X 211 a i = B 211 a i) : pc K2 (up B 211 0 s z) X = up X 211 0 s z := by
  funext c a i
  by_cases e : c = 211
  · subst e
    have e1 : pc K2 (up B 211 0 s z) X 211 a i = up B 211 0 s z 211 a i := by unfold pc K2; simp
    rw [e1]
    simp only [up]
    split
    · rfl
    · exact (h a i).symm
  · rw [pc_g (by unfold K2; simpa using e), up_k _ e]
theorem up211 {B : Mm} {s z : Int} : up B 211 0 s z = pc K2 (up B 211 0 s z) B := (pc211 fun _ _ => rfl).symm
/-! settling: one round of the class's loop -/
def STu (p : RP) (μ : MU) (f : Int) (L : List Int) (w A ρ : Mm) (s z : Int) (N : Int × Mm) (j : Int) (wj : Mm) : Prop :=
  ∃ c σ G Aj, RLm (pU p c σ G) μ f (L ++ (rng j.toNat (A 120 μ.1 0)).map σ) wj Aj ∧ Aj 120 μ.1 0 = A 120 μ.1 0 + j ∧ (∀ k, k < A 120 μ.1 0 → σ k = ps_ p k ∧ G k = pg_ p k) ∧ (UPd (pc_ p) (SSe (A 122 μ.1 0)) w wj ∧ CXt w (pc_ p) c) ∧ (∀ k, 0 ≤ k → k < j → wj 1 (w 20 (w 46 f 0) 0) k = Aj 233 0 (k + 1)) ∧
    LIV μ G ρ (up Aj 211 0 s z) ∧ (LB μ 30000 520000 Aj ∧ AgO μ A Aj ∧ Aj 121 μ.1 0 = A 121 μ.1 0 ∧ (∀ i, Aj 232 0 i = A 232 0 i) ∧ (∀ k, 0 ≤ k → k < A 120 μ.1 0 → Aj 212 0 k = A 212 0 k) ∧ ∀ (c : Nat) (i : Int), (200 ≤ c ∧ c ≤ 210 ∧ st0 c ≤ i) ∨ c = 214 ∨ c = 215 → Aj c 0 i = A c 0 i) ∧
    (j < 8 → N = m_nice μ (8 - j).toNat (j + 1) Aj) ∧ (j = 8 → ∃ q v B, q < 400 ∧ Aj = m_rep μ q v B ∧ N = (0, fl B 232 0 8 (fun k => B 233 0 (k + 1))))
section STJ
variable {p : RP} {w W wj A : Mm} {μ : MU} {f q g x j l v s z : Int} {L : List Int} {ρ : Mm} {N : Int × Mm}
theorem STu.eqs (h : STu p μ f L w A ρ s z N j wj) (h0 : RLm p μ f L w A) (hl : 0 ≤ A 122 μ.1 0) : (∀ k : Nat, k ≠ 91 → wj k f 0 = w k f 0) ∧ (wj 11 (w 41 f 0) 0 = w 11 (w 41 f 0) 0 ∧ wj 12 (w 41 f 0) 0 = w 12 (w 41 f 0) 0) ∧ (wj 28 (w 11 (w 41 f 0) 0) 0 = w 28 (w 11 (w 41 f 0) 0) 0) ∧ (∀ k : Nat, k ≠ 1 → wj k (w 46 f 0) 0 = w k (w 46 f 0) 0) := by
  obtain ⟨c, σ, G, Aj, -, -, -, ⟨u, -⟩, -⟩ := h
  have hf := h0.1.2.1.1
  have hs := h0.1.2.2.1.1.1
  have n0 : ∀ k : Nat, 11 ≤ k → k ≤ 31 → ¬ SSe (A 122 μ.1 0) 10 k ∧ ¬ SSe (A 122 μ.1 0) (10 + 1) k := fun k x y => ⟨fun z => by unfold SSe SDb at z; omega, fun z => by unfold SSe SDb at z; omega⟩
  obtain ⟨-, k1, k2⟩ := hs.fr u CXt.refl n0
  have hL := h0.2.1.1
  exact ⟨fun k hk => ed_fr hf u SSe.std hl hk, ⟨k1.1, k1.2.1⟩, k2.1, fun k hk => u.g (by have := hL.1.1; omega) hL.2.1 (fun z => by unfold SSe SDb at z; omega)⟩
theorem STu.init (h : RLm p μ f L w A) (hLV : LIV μ (pg_ p) ρ (up A 211 0 s z)) (hB : LB μ 30000 520000 A) : STu p μ f L w A ρ s z (m_nice μ 8 1 A) 0 w := by
  refine ⟨pc_ p, ps_ p, pg_ p, A, ?_, by omega, fun _ _ => ⟨rfl, rfl⟩, ⟨UPd.refl, CXt.refl⟩, fun k a b => by omega, hLV, ⟨hB, AgO.refl, rfl, fun _ => rfl, fun _ _ _ => rfl, fun _ _ _ => rfl⟩, fun _ => rfl, fun z => by omega⟩
  have h' : RLm (pU p (pc_ p) (ps_ p) (pg_ p)) μ f L w A := h
  simpa [rng] using h'
theorem STu.next (h : STu p μ f L w A ρ s z N j wj) (h0 : RLm p μ f L w A) (hl : 0 ≤ A 122 μ.1 0 ∧ A 122 μ.1 0 ≤ A 120 μ.1 0) (hj : 0 ≤ j ∧ j < 8) (hS : A 120 μ.1 0 ≤ 29000) (hb28 : ∀ j, 0 ≤ j → j < 3 → A 228 0 j = 0 ∨ A 228 0 j = 1) (hb30 : bOt A)
    (e1 : l = l_ff wj (wj 46 f 0) (wj 11 (wj 41 f 0) 0) 3 0 (-1)) (e2 : l ≠ -1) (e3 : q = fnd (fun i => wj 1 (wj 28 (wj 11 (wj 41 f 0) 0) 0) i) (wj 1 (wj 16 (wj 46 f 0) 0) l) (wj 67 (wj 11 (wj 41 f 0) 0) 0).toNat 0) (e4 : v = wj 1 (wj 17 (wj 46 f 0) 0) l) (hN : NCh wj W g (wj 28 (wj 11 (wj 41 f 0) 0) 0) q 1) (hx : 0 < x ∧ W 0 x 0 = 0) :
    STu p μ f L w A ρ s z N (j + 1) (up (d_rp (wj 41 f 0) q v g x W) 1 (w 20 (w 46 f 0) 0) j l) := by
  have q0 := h.eqs h0 hl.1
  obtain ⟨c, σ, G, Aj, h1, h2, h3, ⟨hu, hc⟩, h4, h5, ⟨b1, b2, b3, b4, b5, b6⟩, h6, -⟩ := h
  have hlj : 0 ≤ Aj 122 μ.1 0 ∧ Aj 122 μ.1 0 ≤ Aj 120 μ.1 0 := by rw [b2.1 122 (by decide) (by decide) (by decide), h2]; omega
  have hb28j : ∀ j, 0 ≤ j → j < 3 → Aj 228 0 j = 0 ∨ Aj 228 0 j = 1 := fun j a b => by rw [b2.2 228 j (by omega)]; exact hb28 j a b
  have el : l = m_ff Aj := e1.trans (ff_eq h1 hb28j)
  have hff : 0 ≤ l ∧ l ≤ 2 := by rcases ff_rng (w := Aj) with k | k <;> omega
  have hv := h1.2.1.2.1 l hff.1 (by omega)
  have hlow := h1.low
  have eq : q = m_pof (Aj 229 0 l) Aj := by
    rw [e3, hv.2.1, hlow.2.2.2.1]
    unfold m_pof
    exact fnd_cgr _ _ fun i i0 i1 => h1.txt i0 (by omega)
  have hq1 : q ≠ -1 := by rw [eq, el]; exact ff_pof (by rw [← el]; exact e2)
  have hl201 := b1.1.1
  have hqr : 0 ≤ q ∧ q < Aj 201 0 0 := by
    rcases fnd_spec (fun i => Aj 200 0 i) (Aj 229 0 l) (Aj 201 0 0).toNat 0 with ⟨k1, -⟩ | ⟨k1, k2, -⟩
    · exact absurd (eq.trans k1) hq1
    · rw [eq]; unfold m_pof
      have hl201 : 0 ≤ Aj 201 0 0 ∧ Aj 201 0 0 ≤ 400 := hl201
      omega
  have ev : v = Aj 230 0 l := e4.trans hv.2.2.1
  have hvb : 0 ≤ v ∧ v ≤ 126 := by rw [ev, b2.2 230 l (by omega)]; exact hb30 l hff.1 (by omega)

  obtain ⟨B, hB⟩ : ∃ B, B = up Aj 233 0 (j + 1) l := ⟨_, rfl⟩
  have eB : ∀ {c : Nat} {a i : Int}, c ≠ 233 → B c a i = Aj c a i := fun z => by rw [hB]; exact up_k _ z _ _ _ _ _
  have h1B : RLm (pU p c σ G) μ f (L ++ (rng j.toNat (A 120 μ.1 0)).map σ) wj B := h1.cA hlj b1.1.2.2.2.2.1 (AgO.of fun c a i z => eB (by omega)) (fun i => eB (by decide)) (eB (by decide)) (fun k _ _ => eB (by decide)) (fun c i z1 z2 _ _ => eB (by omega))
  have hlB : 0 ≤ B 122 μ.1 0 ∧ B 122 μ.1 0 ≤ B 120 μ.1 0 := by rw [eB (by decide), eB (by decide)]; exact hlj
  have u0 : UPd c (fun _ _ => False) wj W := NCh_u hN
  have hs := h1.1.2.2.1.1.1
  have hW := h1B.fr0 hlB u0
  have hg := NCh_v hN (by have := hs.2.1.2.1.1; omega) h1.1.1
  have f41 : W 41 f 0 = wj 41 f 0 := u0.1 _ _ _ (by have := h1.1.2.1.1; omega) (fun z => z)
  have f11 : W 11 (wj 41 f 0) 0 = wj 11 (wj 41 f 0) 0 := u0.1 _ _ _ (by have := hs.1.1; omega) (fun z => z)
  have f67 : W 67 (wj 11 (wj 41 f 0) 0) 0 = wj 67 (wj 11 (wj 41 f 0) 0) 0 := u0.1 _ _ _ (by have := hs.2.1.1.1; omega) (fun z => z)
  have k := hW.rp (q := q) (v := v) (x := x) (g := g) hlB (by rw [f41, f11, f67, hlow.2.2.2.1]; exact hqr) hvb.1 hx hg
  rw [f41] at k
  obtain ⟨c2, σ2, G2, k1, k2, k3, k4, ku, kc⟩ := k
  rw [eB (by decide)] at k2 k3
  have k4 : G2 (Aj 120 μ.1 0) = fun j => wj 1 (wj 28 (wj 11 (wj 41 f 0) 0) 0) (q + j) := by rw [eB (c := 120) (by decide)] at k4; exact k4
  rw [eB (by decide), b2.1 122 (by decide) (by decide) (by decide)] at ku
  obtain ⟨A2, hA2⟩ : ∃ A2, A2 = m_rep μ q v B := ⟨_, rfl⟩
  rw [← hA2] at k1
  have a120 : A2 120 μ.1 0 = Aj 120 μ.1 0 + 1 := by rw [hA2, rep_120, eB (by decide)]
  have aO : ∀ {c : Nat} {a i : Int}, c ≠ 212 → c ≠ 120 → c ≠ 200 → c ≠ 233 → A2 c a i = Aj c a i := fun z1 z2 z3 z4 => by rw [hA2, rep_o ⟨z1, z2, z3⟩, eB z4]
  have hl2 : 0 ≤ A2 122 μ.1 0 ∧ A2 122 μ.1 0 ≤ A2 120 μ.1 0 := by rw [a120, aO (by decide) (by decide) (by decide) (by decide)]; omega

  have hL2 := k1.2.1
  have wf : ∀ k : Nat, k ≠ 91 → d_rp (wj 41 f 0) q v g x W k f 0 = wj k f 0 := fun k hk => by
    rw [ed_fr hW.1.2.1.1 ku (SDb.std (Or.inl rfl)) hl.1 hk]
    exact u0.1 _ _ _ (by have := h1.1.2.1.1; omega) (fun z => z)
  have w46 : d_rp (wj 41 f 0) q v g x W 46 f 0 = w 46 f 0 := (wf 46 (by decide)).trans (q0.1 46 (by decide))
  have hLw := h0.2.1.1
  have uL : ∀ k : Nat, k ≠ 1 → d_rp (wj 41 f 0) q v g x W k (w 46 f 0) 0 = w k (w 46 f 0) 0 := fun k hk => by
    have c45 : c (w 46 f 0) = 45 := (hc _ (by have := hLw.1.1; omega)).trans hLw.2.1
    have t1 : wj 0 (w 46 f 0) 0 = 3 := (q0.2.2.2 0 (by decide)).trans hLw.1.1
    have t2 : W 0 (w 46 f 0) 0 = 3 := u0.tag t1 (by decide)
    rw [ku.g (by omega) c45 (fun z => by unfold SDb at z; omega), u0.1 _ _ _ (by omega) (fun z => z)]
    exact q0.2.2.2 k hk
  have e20 : d_rp (wj 41 f 0) q v g x W 20 (w 46 f 0) 0 = w 20 (w 46 f 0) 0 := uL 20 (by decide)
  have e19 : d_rp (wj 41 f 0) q v g x W 19 (w 46 f 0) 0 = w 19 (w 46 f 0) 0 := uL 19 (by decide)
  rw [w46] at hL2
  obtain ⟨⟨hLT, x0, x1, x2, x3, x4, x5, x6⟩, v1, v2⟩ := hL2
  rw [e19] at v2 x5
  rw [e20] at x6
  have t20 : d_rp (wj 41 f 0) q v g x W 0 (w 20 (w 46 f 0) 0) 0 = 20 := by have := hLT.2.1.2.2.2.2.2; rwa [e20] at this
  have n1920 : w 19 (w 46 f 0) 0 ≠ w 20 (w 46 f 0) 0 := fun e => by
    have x5' : c2 (w 19 (w 46 f 0) 0) = 50 := x5
    have x6' : c2 (w 20 (w 46 f 0) 0) = 51 := x6
    rw [e] at x5'; omega
  have k5 : RLm (pU p c2 σ2 G2) μ f (L ++ (rng j.toNat (A 120 μ.1 0)).map σ ++ [x]) (up (d_rp (wj 41 f 0) q v g x W) 1 (w 20 (w 46 f 0) 0) j l) A2 :=
    k1.act hl2 (UPd.refl.sU (by decide) (Or.inr ⟨Or.inr x6, rfl⟩)) (fun a => up_k _ (by decide) _ _ _ _ _) AgO.refl rfl (fun _ _ _ => rfl) (fun _ _ _ _ => rfl) (fun i i0 i1 => by
      rw [w46, e19, up_a _ _ _ n1920]; exact v2 i i0 i1)
  have eL : L ++ (rng j.toNat (A 120 μ.1 0)).map σ ++ [x] = L ++ (rng (j + 1).toNat (A 120 μ.1 0)).map σ2 := by
    rw [show (j + 1).toNat = j.toNat + 1 by omega, rng_snoc, List.map_append, ← List.append_assoc]
    congr 1
    · congr 1
      exact List.map_congr_left fun i hi => ((k2 i (by have := rng_mem.mp hi; omega)).1).symm
    · simp only [List.map_cons, List.map_nil]
      rw [show A 120 μ.1 0 + (j.toNat : Int) = Aj 120 μ.1 0 by omega, k3]
  rw [eL] at k5
  have hLV2 : LIV μ G2 ρ (up A2 211 0 s z) := by
    have eU : ∀ {c : Nat} {a i : Int}, c ≠ 233 → up B 211 0 s z c a i = up Aj 211 0 s z c a i := fun y => by
      simp only [up]; split
      · rfl
      · exact eB y
    have eV : ∀ {c : Nat} {a i : Int}, c ≠ 211 → up B 211 0 s z c a i = B c a i := fun y => up_k _ y _ _ _ _ _
    have hB5 : LIV μ G ρ (up B 211 0 s z) := h5.cg (fun i a b => by rw [eU (by decide)]; exact h5.b0.2.2.2 i a b) (fun c a i z => eU (by omega))
    have eR : up A2 211 0 s z = m_rep μ q v (up B 211 0 s z) := by
      rw [hA2, up211 (B := B), lq_rep K2_ok, pc211 (B := B) (X := m_rep μ q v B) (fun a i => rep_o (by decide))]
    rw [eR]
    have h121 := b1.2.2.2.2.2
    refine hB5.rep (by rw [eV (by decide), eB (by decide)]; exact h121) (by rw [eV (by decide), eB (by decide)]; exact hl201.2) (by rw [eV (by decide), eB (by decide)]; exact hqr) hvb (fun k z1 z2 => ?_) ?_
    · rw [eV (by decide), eB (by decide)] at z2; exact (k2 k (by omega)).2
    · rw [eV (by decide), eB (by decide), eV (by decide), eB (by decide), k4]
      show wj 1 _ (q + 0) = _
      rw [Int.add_zero]; exact h1.txt hqr.1 hqr.2
  refine ⟨c2, σ2, G2, A2, k5, by rw [a120, h2]; omega, fun k hk => ?_, ⟨?_, ?_⟩, fun k z1 z2 => ?_, hLV2, ⟨?_, b2.trans (AgO.of fun c a i z => aO (by omega) (by omega) (by omega) (by omega)), (aO (by decide) (by decide) (by decide) (by decide)).trans b3, fun i => (aO (by decide) (by decide) (by decide) (by decide)).trans (b4 i), fun k z1 z2 => ?_, fun c i z => ?_⟩, fun hj8 => ?_, fun hj8 => ?_⟩
  · obtain ⟨m1, m2⟩ := k2 k (by omega)
    obtain ⟨n1, n2⟩ := h3 k hk
    exact ⟨m1.trans n1, m2.trans n2⟩
  · have ua : UPd (pc_ p) (SSe (A 122 μ.1 0)) w W := hu.trans hc (u0.mono fun _ _ z => z.elim)
    have hcW : CXt W c c2 := kc
    have ub : UPd (pc_ p) (SSe (A 122 μ.1 0)) w (d_rp (wj 41 f 0) q v g x W) := ua.trans hc ((ku.no91 fun a i h0 => by unfold d_rp; rw [up_k _ (by decide), k_step_k (fun e => h0 (by rw [e]; exact hx.2)) (by decide) (by decide) (by decide) (by decide) (by decide)]).mono fun b k z => Or.inl z)
    refine ub.sU (by decide) (Or.inr (Or.inr ⟨Or.inr ?_, rfl⟩))
    exact hLw.2.2.2.2.2.2.2
  · exact fun a ha => (kc a (by rw [u0.t (by rw [hu.t ha (Or.inl rfl)]; exact ha) (Or.inl rfl), hu.t ha (Or.inl rfl)]; exact ha)).trans (hc a ha)
  · have e233 : A2 233 0 (k + 1) = if k = j then l else Aj 233 0 (k + 1) := by
      rw [hA2, rep_o (by decide), hB]
      by_cases y : k = j
      · rw [if_pos y, y, up_s]
      · rw [if_neg y, up_i _ _ _ _ _ _ (by omega)]
    rw [e233]
    by_cases y : k = j
    · rw [if_pos y, y, up_s]
    · rw [if_neg y, up_i _ _ _ _ _ _ y]
      have c51 : c (w 20 (w 46 f 0) 0) = 51 := (hc _ (by have := hLw.1.2.1.2.2.2.2.2; omega)).trans hLw.2.2.2.2.2.2.2
      have t1 : wj 0 (w 20 (w 46 f 0) 0) 0 = 20 := hu.tag hLw.1.2.1.2.2.2.2.2 (by decide)
      have t2 : W 0 (w 20 (w 46 f 0) 0) 0 = 20 := u0.tag t1 (by decide)
      rw [ku.g (by omega) c51 (fun z => by unfold SDb at z; omega), u0.1 _ _ _ (by omega) (fun z => z)]
      exact h4 k z1 (by omega)
  · rw [hA2]
    have hh := (b1.cng (A' := B) fun c a i z => eB (by omega)).rep (q := q) (c := v) hvb
    exact ⟨hh.1, hh.2.1, hh.2.2.1, hh.2.2.2.1, ⟨by rw [← hA2, a120, h2]; omega, hh.2.2.2.2.2⟩⟩
  · rw [hA2, rep_212, eB (by decide), if_neg (by omega), eB (by decide)]; exact b5 k z1 z2
  · by_cases y : c = 200
    · subst y
      have z4 : (400 : Int) ≤ i := by
        rcases z with z | z | z
        · exact z.2.2
        · omega
        · omega
      have h400 : Aj 201 0 0 ≤ 400 := hl201.2
      rw [hA2, rep_200, if_neg (by omega), eB (by decide)]; exact b6 _ _ z
    · rw [hA2, rep_o (by omega), eB (by omega)]; exact b6 _ _ z
  · rw [h6 (by omega), show (8 - j).toNat = (8 - (j + 1)).toNat + 1 by omega]
    show (if m_ff Aj = -1 then (1, Aj) else if j + 1 = 8 then _ else m_nice μ (8 - (j + 1)).toNat (j + 1 + 1) (m_rep μ (m_pof (Aj 229 0 (m_ff Aj)) Aj) (Aj 230 0 (m_ff Aj)) (up Aj 233 0 (j + 1) (m_ff Aj)))) = _
    rw [if_neg (by rw [← el]; exact e2), if_neg (by omega), ← el, ← eq, ← ev, ← hB, ← hA2]
  · refine ⟨q, v, B, by have h400 : Aj 201 0 0 ≤ 400 := hl201.2; omega, hA2, ?_⟩
    rw [h6 (by omega), show (8 - j).toNat = 0 + 1 by omega]
    show (if m_ff Aj = -1 then (1, Aj) else if j + 1 = 8 then (0, fl (up Aj 233 0 (j + 1) (m_ff Aj)) 232 0 8 (fun k => up Aj 233 0 (j + 1) (m_ff Aj) 233 0 (k + 1))) else _) = _
    rw [if_neg (by rw [← el]; exact e2), if_pos hj8, ← el, ← hB]
end STJ
/-! settling: how the class's loop ends -/
def STv (p : RP) (μ : MU) (f : Int) (L : List Int) (w A ρ : Mm) (s z : Int) (N : Int × Mm) (w' : Mm) : Prop :=
  N.1 = 1 ∧ ∃ c σ G, RLm (pU p c σ G) μ f (L ++ (rng (N.2 120 μ.1 0 - A 120 μ.1 0).toNat (A 120 μ.1 0)).map σ) w' N.2 ∧ (A 120 μ.1 0 ≤ N.2 120 μ.1 0 ∧ N.2 120 μ.1 0 ≤ A 120 μ.1 0 + 8) ∧ (∀ k, k < A 120 μ.1 0 → σ k = ps_ p k ∧ G k = pg_ p k) ∧ (UPd (pc_ p) (SSe (A 122 μ.1 0)) w w' ∧ CXt w (pc_ p) c) ∧
    LIV μ G ρ (up N.2 211 0 s z) ∧ (LB μ 30000 520000 N.2 ∧ AgO μ A N.2 ∧ N.2 121 μ.1 0 = A 121 μ.1 0 ∧ (∀ i, N.2 232 0 i = A 232 0 i) ∧ (∀ k, 0 ≤ k → k < A 120 μ.1 0 → N.2 212 0 k = A 212 0 k) ∧ ∀ (c : Nat) (i : Int), (200 ≤ c ∧ c ≤ 210 ∧ st0 c ≤ i) ∨ c = 214 ∨ c = 215 → N.2 c 0 i = A c 0 i)
section STV
variable {p : RP} {w W wj A : Mm} {μ : MU} {f q g x j l v s z : Int} {L : List Int} {ρ : Mm} {N : Int × Mm}
theorem STu.none (h : STu p μ f L w A ρ s z N j wj) (hj : 0 ≤ j ∧ j < 8) (hb28 : ∀ j, 0 ≤ j → j < 3 → A 228 0 j = 0 ∨ A 228 0 j = 1) (e1 : l_ff wj (wj 46 f 0) (wj 11 (wj 41 f 0) 0) 3 0 (-1) = -1) : STv p μ f L w A ρ s z N wj := by
  obtain ⟨c, σ, G, Aj, h1, h2, h3, hu, h4, h5, ⟨b1, b2, b3, b4, b5, b6⟩, h6, -⟩ := h
  have el : m_ff Aj = -1 := (ff_eq h1 (fun j a b => by rw [b2.2 228 j (by omega)]; exact hb28 j a b)).symm.trans e1
  have eN : N = (1, Aj) := by
    rw [h6 (by omega), show (8 - j).toNat = (8 - (j + 1)).toNat + 1 by omega]
    show (if m_ff Aj = -1 then (1, Aj) else _) = _
    rw [if_pos el]
  rw [eN]
  refine ⟨rfl, c, σ, G, ?_, by show _ ≤ Aj 120 μ.1 0 ∧ Aj 120 μ.1 0 ≤ _; omega, h3, hu, h5, b1, b2, b3, b4, b5, b6⟩
  rw [show (Aj 120 μ.1 0 - A 120 μ.1 0).toNat = j.toNat by omega]; exact h1
theorem STu.done (h : STu p μ f L w A ρ s z N 8 wj) (h0 : RLm p μ f L w A) (hl : 0 ≤ A 122 μ.1 0 ∧ A 122 μ.1 0 ≤ A 120 μ.1 0) : STno p μ f L w A N (cpA wj (wj 20 (w 46 f 0) 0) (wj 19 (w 46 f 0) 0) 0 0 8) := by
  have q0 := h.eqs h0 hl.1
  obtain ⟨c, σ, G, Aj, h1, h2, h3, ⟨hu, hc⟩, h4, h5, ⟨b1, b2, b3, b4, b5, b6⟩, -, h6⟩ := h
  obtain ⟨q, v, B, hq4, hB, hN⟩ := h6 rfl
  have hLw := h0.2.1.1
  have e20 : wj 20 (w 46 f 0) 0 = w 20 (w 46 f 0) 0 := q0.2.2.2 20 (by decide)
  have e19 : wj 19 (w 46 f 0) 0 = w 19 (w 46 f 0) 0 := q0.2.2.2 19 (by decide)
  rw [e20, e19]
  have c50 : c (w 19 (w 46 f 0) 0) = 50 := (hc _ (by have := hLw.1.2.1.2.2.2.2.1; omega)).trans hLw.2.2.2.2.2.2.1
  have hlj : 0 ≤ Aj 122 μ.1 0 ∧ Aj 122 μ.1 0 ≤ Aj 120 μ.1 0 := by rw [b2.1 122 (by decide) (by decide) (by decide), h2]; omega
  obtain ⟨A9, hA9⟩ : ∃ A9, A9 = fl Aj 232 0 8 (fun k => Aj 233 0 (k + 1)) := ⟨_, rfl⟩
  have a9 : ∀ {c : Nat} {a i : Int}, c ≠ 232 → A9 c a i = Aj c a i := fun z => by rw [hA9, fl_at z]
  have hg : AgO μ Aj A9 := ⟨fun c _ _ _ => a9 (by omega), fun c i z => a9 (by omega)⟩
  have k := h1.act (A' := A9) (W := cpA wj (w 20 (w 46 f 0) 0) (w 19 (w 46 f 0) 0) 0 0 8) hlj (by
      unfold cpA; exact UPd.refl.sF (by decide) (Or.inr ⟨Or.inl c50, rfl⟩)) (fun a => cpA_k (by decide)) hg (a9 (by decide)) (fun k _ _ => a9 (by decide)) (fun c j z1 z2 => a9 (by omega)) (fun i i0 i1 => by
      rw [q0.1 46 (by decide), e19]
      unfold cpA
      rw [flA_v, if_pos (by omega), hA9, fl_v, if_pos (by omega), show i - 0 + 0 = i by omega]
      exact h4 i i0 i1)
  rw [hN]
  refine ⟨rfl, c, σ, G, A9, k, by rw [a9 (by decide), h2], h3, ⟨?_, hc⟩, ⟨b2.trans hg, b1.cng (fun c a i z => a9 (by omega)), fun c a i z1 z2 z3 => ?_, fun k z1 z2 => by rw [a9 (by decide)]; exact b5 k z1 z2, fun c i z => by rw [a9 (by omega)]; exact b6 c i z, fun i z => ?_, fun k z1 z2 => ?_⟩⟩
  · unfold cpA; exact hu.sF (by decide) (Or.inr (Or.inr ⟨Or.inl hLw.2.2.2.2.2.2.1, rfl⟩))
  · show A9 c a i = fl B 232 0 8 (fun k => B 233 0 (k + 1)) c a i
    rw [hA9, hB]
    by_cases y : c = 232
    · subst y
      have hf : (fun k => m_rep μ q v B 233 0 (k + 1)) = fun k => B 233 0 (k + 1) := by funext k; exact rep_o (by decide)
      rw [hf]
      unfold fl
      rw [rep_o (by decide)]
    · rw [fl_at y, fl_at y, rep_o ⟨z2, z3, z1⟩]
  · have hq' : Aj 201 0 0 ≤ 400 := b1.1.1.2
    have e200 : Aj 200 0 i = B 200 0 i := by rw [hB, rep_200, if_neg (by omega)]
    show A9 200 0 i = fl B 232 0 8 (fun k => B 233 0 (k + 1)) 200 0 i
    rw [a9 (by decide), fl_at (by decide)]; exact e200
  · show fl B 232 0 8 (fun k => B 233 0 (k + 1)) 212 0 k = _
    rw [fl_at (by decide), ← b5 k z1 z2, hB, rep_212]
    have h120 : Aj 120 μ.1 0 = B 120 μ.1 0 + 1 := by rw [hB, rep_120]
    rw [if_neg (by omega)]
/-- what a round of the loop meets -/
theorem STu.rng (h : STu p μ f L w A ρ s z N j wj) (hb28 : ∀ j, 0 ≤ j → j < 3 → A 228 0 j = 0 ∨ A 228 0 j = 1) (hb30 : bOt A) (e1 : l = l_ff wj (wj 46 f 0) (wj 11 (wj 41 f 0) 0) 3 0 (-1)) (e2 : l ≠ -1) (e3 : q = fnd (fun i => wj 1 (wj 28 (wj 11 (wj 41 f 0) 0) 0) i) (wj 1 (wj 16 (wj 46 f 0) 0) l) (wj 67 (wj 11 (wj 41 f 0) 0) 0).toNat 0) :
    (0 ≤ l ∧ l ≤ 2) ∧ (0 ≤ q ∧ q < wj 67 (wj 11 (wj 41 f 0) 0) 0) ∧ (0 ≤ wj 1 (wj 17 (wj 46 f 0) 0) l ∧ wj 1 (wj 17 (wj 46 f 0) 0) l ≤ 126) := by
  obtain ⟨c, σ, G, Aj, h1, h2, h3, hu, h4, h5, ⟨b1, b2, b3, b4, b5, b6⟩, h6, -⟩ := h
  have el : l = m_ff Aj := e1.trans (ff_eq h1 (fun j a b => by rw [b2.2 228 j (by omega)]; exact hb28 j a b))
  have hff : 0 ≤ l ∧ l ≤ 2 := by rcases ff_rng (w := Aj) with k | k <;> omega
  have hv := h1.2.1.2.1 l hff.1 (by omega)
  have hlow := h1.low
  have hb := b1.1.1
  have hb : 0 ≤ Aj 201 0 0 ∧ Aj 201 0 0 ≤ 400 := hb
  have eq : q = m_pof (Aj 229 0 l) Aj := by
    rw [e3, hv.2.1, hlow.2.2.2.1]
    unfold m_pof
    exact fnd_cgr _ _ fun i i0 i1 => h1.txt i0 (by omega)
  have hq1 : q ≠ -1 := by rw [eq, el]; exact ff_pof (by rw [← el]; exact e2)
  refine ⟨hff, ?_, ?_⟩
  · rcases fnd_spec (fun i => wj 1 (wj 28 (wj 11 (wj 41 f 0) 0) 0) i) (wj 1 (wj 16 (wj 46 f 0) 0) l) (wj 67 (wj 11 (wj 41 f 0) 0) 0).toNat 0 with ⟨k1, -⟩ | ⟨k1, k2, -⟩
    · exact absurd (e3.trans k1) hq1
    · rw [e3, hlow.2.2.2.1] at *; omega
  · rw [hv.2.2.1, b2.2 230 l (by omega)]; exact hb30 l hff.1 (by omega)
end STV
