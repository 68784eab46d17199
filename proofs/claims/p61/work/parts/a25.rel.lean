/-! LIV along every command -/
section LVE
variable {μ : MU} {G G' : Int → Int → Int} {ρ A A' A1 A2 B Z V V' b b' : Mm} {P lim q n v k t p i s r a c d bb : Int} {ch : Int → Int} {T : Int → Prop} {L : List Int}
theorem LIV.cop (h : LIV μ G ρ A) (h121 : 0 ≤ A 121 μ.1 0 ∧ A 121 μ.1 0 ≤ 519900) (hSB : SB 0 A) (hr : 0 ≤ r ∧ r ≤ 3) (hn : 1 ≤ n ∧ n ≤ 20) (hq : 0 ≤ A 207 0 0 ∧ A 207 0 0 + n ≤ A 201 0 0) (hb : bB (m_cop μ r n A)) (hG : ∀ k, 0 ≤ k → k < A 120 μ.1 0 → G' k = G k) : LIV μ G' ρ (m_cop μ r n A) := by
  have hl := hSB.1.2
  have h' := h.gc hG
  have c0 : ∀ {c : Nat} {b' j : Int}, c ≠ 204 → c ≠ 205 → c ≠ 206 → c ≠ 240 → c ≠ 136 → m_copA μ r n A c b' j = A c b' j := fun z1 z2 z3 z4 z5 => by
    unfold m_copA m_rd; rw [tak_at2 ⟨z2, z3⟩, fl_at z4, up_k _ z1, up_k _ z5]
  have rdE : ∀ {c : Nat} {b j : Int}, c ≠ 240 → c ≠ 136 → c ≠ 204 → m_rd n (up (up A 136 μ.1 0 (if A 204 0 r = 0 then 0 else A 205 0 (4 * r))) 204 0 r 1) c b j = A c b j := fun z1 z2 z3 => by
    unfold m_rd; rw [fl_at z1, up_k _ z3, up_k _ z2]
  have rd40 : ∀ j, 0 ≤ j → j < n → m_rd n (up (up A 136 μ.1 0 (if A 204 0 r = 0 then 0 else A 205 0 (4 * r))) 204 0 r 1) 240 0 j = A 200 0 (A 207 0 0 + j) := fun j j0 j1 => by
    unfold m_rd
    rw [fl_v, if_pos (by omega), up_k _ (by decide), up_k _ (by decide), up_k _ (by decide), up_k _ (by decide)]
  have hlen : m_copA μ r n A 205 0 (4 * r) = n := by
    unfold m_copA; rw [tak_205, if_pos (by omega)]
  have hchr : ∀ i, 0 ≤ i → i < n → m_copA μ r n A 206 0 (80 * r + i) = A 200 0 (A 207 0 0 + i) := fun i i0 i1 => by
    unfold m_copA
    rw [tak_206, if_pos (by omega), show 80 * r + i - (400 * 0 + 80 * r + 20 * 0) = i by omega, rd40 i i0 i1]
  have hch : ∀ i, 0 ≤ i → i < n → 0 ≤ A 200 0 (A 207 0 0 + i) ∧ A 200 0 (A 207 0 0 + i) ≤ 126 := fun i i0 i1 => hSB.2.1 _ (by omega) (by omega)
  have z : ∀ {c : Nat} {b' j : Int}, (c ≠ 204 ∧ c ≠ 205 ∧ c ≠ 206) ∧ c ≠ 240 ∧ c ≠ 136 → m_copA μ r n A c b' j = A c b' j := fun q => c0 q.1.1 q.1.2.1 q.1.2.2 q.2.1 q.2.2
  by_cases y : A 211 0 r = 1
  · have eK : m_cop μ r n A = m_psS μ 7 r n r (m_copA μ r n A) := by unfold m_cop; rw [if_pos (by rw [z (by decide)]; exact y)]
    have kc : ∀ i, 0 ≤ i → i < m_copA μ r n A 205 0 (4 * r) → 0 ≤ m_copA μ r n A 206 0 (80 * r + i) ∧ m_copA μ r n A 206 0 (80 * r + i) ≤ 126 := fun i i0 i1 => by rw [hlen] at i1; rw [hchr i i0 i1]; exact hch i i0 i1
    have k121 : m_copA μ r n A 121 μ.1 0 = A 121 μ.1 0 := z (by decide)
    have hap : AP μ (m_copA μ r n A) (m_psS μ 7 r n r (m_copA μ r n A)) := psS_AP
    rw [eK] at hb ⊢
    refine h'.reg (r := r) (k := n) (ch := fun j => A 200 0 (A 207 0 0 + j)) (Z := fun c a i => if c = 240 then m_rd n (up (up A 136 μ.1 0 (if A 204 0 r = 0 then 0 else A 205 0 (4 * r))) 204 0 r 1) c a i else A c a i) ⟨h121.1, by omega⟩ hr y ⟨by omega, hn.2⟩ (fun c j z1 z2 => if_neg (by omega)) (fun j j0 j1 => ?_) (fun c j z1 z2 => ?_) ?_ ?_ ?_ ?_ (fun j j0 j1 => ?_) ?_ (fun j j0 j1 => ?_) (fun i i0 i1 => ?_) hb ?_ (fun r => ?_) (fun _ _ _ => rfl)
    · rw [if_pos rfl]; exact rd40 j j0 j1
    · rw [psS_o (by omega)]
      unfold m_copA
      have hc : c = 204 ∨ c = 205 ∨ c = 206 ∨ (c ≠ 204 ∧ c ≠ 205 ∧ c ≠ 206) := by omega
      rcases hc with rfl | rfl | rfl | hc
      · rw [tak_at2 (by decide), tak_at2 (by decide)]
        unfold m_rd
        rw [fl_at (by decide), show (5 : Int) * 0 + r = r by omega]
        by_cases yj : j = r
        · rw [yj, up_s, up_s]
        · rw [up_i _ _ _ _ _ _ yj, up_i _ _ _ _ _ _ yj, up_k _ (by decide), if_neg (by decide)]
      · rw [tak_205, tak_205, rdE (by decide) (by decide) (by decide), up_k _ (by decide), if_neg (show ¬ (205 : Nat) = 240 by decide)]
      · rw [tak_206, tak_206, rdE (c := 206) (by decide) (by decide) (by decide), up_k _ (by decide), up_k _ (by decide), if_pos (rfl : (240 : Nat) = 240), if_neg (show ¬ (206 : Nat) = 240 by decide)]
      · rw [tak_at2 hc.2, tak_at2 hc.2, rdE (by omega) (by omega) hc.1, up_k _ hc.1, if_neg (by omega)]
    · rw [psS_120, z (by decide)]
    · rw [psS_121, hlen, k121]; omega
    · rw [psS_o (by decide), z (by decide)]
    · rw [psS_o (by decide), z (by decide)]
    · rw [psS_212, z (by decide), if_neg (by omega), z (by decide)]
    · rw [psS_212, z (by decide), if_pos rfl]
    · rw [hap.2.2.2 j j0 (by rw [k121]; exact j1), pby_cong (z (by decide))]
    · rw [← k121, psS_pv (by rw [k121]; exact h121.1) kc i i0 (by rw [hlen]; exact i1)]; exact hchr i i0 i1
    · exact psS_bP (h.b0.2.2.1.cong fun i => z (by decide)) (by rw [k121]; exact h121.1) kc
    · rw [psS_o (by decide), z (by decide)]
  · have eK : m_cop μ r n A = m_copA μ r n A := by unfold m_cop; rw [if_neg (by rw [z (by decide)]; exact y)]
    rw [eK] at hb ⊢
    refine h'.keep (z (by decide)) (z (by decide)) (z (by decide)) (z (by decide)) (fun j j0 j1 => z (by decide)) (fun j j0 j1 => pby_cong (z (by decide))) hb (h.b0.2.2.1.cong fun i => z (by decide)) (fun r => z (by decide)) (EQv_but (s := r) hSB.2.2.2.1 hSB.2.2.2.2.1 y (by omega) (fun c j z1 z2 => z (by omega)) (fun j zj => ?_) (fun j zj => ?_) (fun j zj => ?_))
    · unfold m_copA m_rd; rw [tak_at2 (by decide), fl_at (by decide), up_i _ _ _ _ _ _ zj, up_k _ (by decide)]
    · unfold m_copA; rw [tak_205, if_neg (by omega), rdE (by decide) (by decide) (by decide)]
    · unfold m_copA; rw [tak_206, if_neg (by omega), rdE (by decide) (by decide) (by decide)]
theorem LIV.rot (h : LIV μ G ρ A) (h121 : 0 ≤ A 121 μ.1 0 ∧ A 121 μ.1 0 ≤ 519900) (hSB : SB 0 A) (hb : bB (m_rots μ A).2) (hG : ∀ k, 0 ≤ k → k < A 120 μ.1 0 → G' k = G k) : LIV μ G' ρ (m_rots μ A).2 := by
  have h' := h.gc hG
  have r0 : ∀ {X : Mm} {c : Nat} {b j : Int}, c ≠ 136 → m_rs4 μ X c b j = X c b j := fun z => by unfold m_rs4; exact up_k _ z _ _ _ _ _
  have t0 : ∀ {c : Nat} {b j : Int}, c ≠ 240 ∧ c ≠ 205 ∧ c ≠ 206 → m_trn 0 A c b j = A c b j := fun z => trn_at2 z
  unfold m_rots at hb ⊢
  by_cases y : A 204 0 4 < 2
  · rw [if_pos y]; exact h'
  · rw [if_neg y] at hb ⊢
    by_cases y2 : A 211 0 4 = 1
    · rw [if_pos (by rw [t0 (by decide)]; exact y2)] at hb ⊢
      have hb2 : bB (m_step μ 6 0 0 (m_trn 0 A)) := fun i a b => by
        have q := hb i a b
        dsimp only at q
        rw [r0 (by decide)] at q; exact q
      exact (h'.trn ⟨h121.1, by omega⟩ y2 (by omega) hb2 (fun _ _ _ => rfl)).cg hb (fun c a i z => r0 (by omega))
    · rw [if_neg (by rw [t0 (by decide)]; exact y2)] at hb ⊢
      dsimp only at hb ⊢
      have hc := hSB.2.2.2.1 4 (by decide) (by decide)
      refine h'.keep ((r0 (by decide)).trans (t0 (by decide))) ((r0 (by decide)).trans (t0 (by decide))) ((r0 (by decide)).trans (t0 (by decide))) ((r0 (by decide)).trans (t0 (by decide))) (fun j j0 j1 => (r0 (by decide)).trans (t0 (by decide))) (fun j j0 j1 => pby_cong ((r0 (by decide)).trans (t0 (by decide)))) hb (h.b0.2.2.1.cong fun i => (r0 (by decide)).trans (t0 (by decide))) (fun r => (r0 (by decide)).trans (t0 (by decide))) (EQv_but (s := 4) hSB.2.2.2.1 hSB.2.2.2.2.1 y2 (by omega) (fun c j z1 z2 => (r0 (by omega)).trans (t0 (by omega))) (fun j zj => (r0 (by decide)).trans (t0 (by decide))) (fun j zj => ?_) (fun j zj => ?_))
      · rw [r0 (by decide), trn_205, show (5 : Int) * 0 + 4 = 4 by decide, if_neg (by omega), if_neg (by omega)]
      · have hE := hSB.2.2.2.2.1 16 (by decide) (by decide)
        rw [r0 (by decide), trn_206, show (5 : Int) * 0 + 4 = 4 by decide, show (20 : Int) * 0 + 16 = 16 by decide, if_neg (by omega), if_neg (by omega)]
theorem LIV.puts (h : LIV μ G ρ A) (h121 : 0 ≤ A 121 μ.1 0 ∧ A 121 μ.1 0 ≤ 519900) (hSB : SB 0 A) (hs : 0 ≤ s ∧ s < 5) (hpt : 0 ≤ A 207 0 0 ∧ A 207 0 0 ≤ A 201 0 0) (hG : ∀ k, 0 ≤ k → k < A 120 μ.1 0 → G' k = G k) : LIV μ G' ρ (m_puts μ s A).2 := by
  have h' := h.gc hG
  have hE := hSB.2.2.2.2.1 (4 * s) (by omega) (by omega)
  have e : ∀ {c : Nat} {b j : Int}, c ≠ 240 → m_ld s A c b j = A c b j := fun z => by unfold m_ld; exact fl_at z
  have hb : bB (m_ld s A) := fun i a b => by
    unfold m_ld; rw [fl_v]
    by_cases y : 0 ≤ i ∧ i < 0 + A 205 0 (4 * s)
    · rw [if_pos y]; exact hSB.2.2.2.2.2 _ (by omega) (by omega)
    · rw [if_neg y]; exact h.b0.2.2.2 i a b
  have h2 : LIV μ G' ρ (m_ld s A) := h'.cg hb (fun c a i z => e (by omega))
  unfold m_puts
  by_cases y : m_ld s A 204 0 s = 0
  · rw [if_pos y]; exact h2
  · rw [if_neg y]
    by_cases y2 : m_ld s A 201 0 0 + A 205 0 (4 * s) > 400
    · rw [if_pos y2]; exact h2
    · rw [if_neg y2]
      rw [e (by decide)] at y2
      have h3 := h2.ins (G' := G') (q := m_ld s A 207 0 0) (n := A 205 0 (4 * s)) (by rw [e (by decide)]; exact ⟨h121.1, by omega⟩) (by rw [e (by decide), e (by decide)]; exact hpt) (by rw [e (by decide)]; omega) (fun _ _ _ => rfl)
      refine h3.cg (fun i a b => ?_) (fun c a i z => ?_)
      · unfold m_pt; dsimp only; rw [up_k _ (by decide), up_k _ (by decide), ins_o (by decide), opens_at (by decide)]; exact hb i a b
      · unfold m_pt; dsimp only; rw [up_k _ (by omega), up_k _ (by omega)]
theorem LIV.does (h : LIV μ G ρ A) (h121 : 0 ≤ A 121 μ.1 0 ∧ A 121 μ.1 0 ≤ 519900) (hSB : SB 0 A) (hVB : VB 0 A) (hcv : CV c a bb) (hc : c ≤ 14) (hb : bB (m_does μ c a bb A).2) (hG : Gok μ G G' A (m_does μ c a bb A).2) : LIV μ G' ρ (m_does μ c a bb A).2 := by
  obtain ⟨v0, v1, ⟨v2, v3⟩, v4, v5, v6⟩ := VB_f hSB.1 hVB
  obtain ⟨g0, g1, g2, g3, g4, g5, g6, g7, g8, g9, g10⟩ := hcv
  have h' := h.gc hG.1
  have h9 : 0 ≤ A 121 μ.1 0 ∧ A 121 μ.1 0 ≤ 520000 := ⟨h121.1, by omega⟩
  by_cases hl : m_lack c a bb A
  · unfold m_does; rw [if_pos hl]; exact h'
  have hlk : (c = 2 ∨ c = 5 ∨ c = 8 ∨ c = 1) → A 207 0 0 + m_many c a bb ≤ m_vT A := fun z => by
    by_cases y : A 207 0 0 + m_many c a bb > m_vT A
    · exact absurd ⟨z, y⟩ hl
    · omega
  have hcs : c = 0 ∨ c = 1 ∨ c = 2 ∨ c = 3 ∨ c = 4 ∨ c = 5 ∨ c = 6 ∨ c = 7 ∨ c = 8 ∨ c = 9 ∨ c = 10 ∨ c = 11 ∨ c = 12 ∨ c = 13 ∨ c = 14 := by omega
  have fg : ∀ {P : Prop}, ¬ P → P → False := fun a b => a b
  rcases hcs with rfl | rfl | rfl | rfl | rfl | rfl | rfl | rfl | rfl | rfl | rfl | rfl | rfl | rfl | rfl
  · have e : m_does μ 0 a bb A = if A 201 0 0 = 400 then (5, A) else (0, m_insC μ a A) := by unfold m_does; rw [if_neg hl, if_pos rfl]
    rw [e] at hb ⊢
    by_cases y : A 201 0 0 = 400
    · rw [if_pos y]; exact h'
    · rw [if_neg y] at hb ⊢
      have ha := g3 (by decide)
      have b1 : bB (up A 240 0 0 a) := fun i x z => by
        by_cases q : i = 0
        · rw [q, up_s]; omega
        · rw [up_i _ _ _ _ _ _ q]; exact h.b0.2.2.2 i x z
      have h2 : LIV μ G' ρ (up A 240 0 0 a) := h'.cg b1 (fun c a i z => up_k _ (by omega) _ _ _ _ _)
      have h3 := h2.ins (G' := G') (q := A 207 0 0) (n := 1) (by rw [up_k _ (by decide)]; exact h9) (by rw [up_k _ (by decide)]; exact ⟨v0, v1⟩) (by rw [up_k _ (by decide)]; omega) (fun _ _ _ => rfl)
      exact h3.cg hb (fun c a i z => by show m_insC μ _ A c a i = _; unfold m_insC m_pt; rw [up_k _ (by omega), up_k _ (by omega)])
  · have e : m_does μ 1 a bb A = (0, m_ovr μ a A) := by unfold m_does; rw [if_neg hl, if_neg (by decide), if_pos rfl]
    rw [e] at hb hG ⊢
    have hb : bB (m_ovr μ a A) := hb
    have hG : Gok μ G G' A (m_ovr μ a A) := hG
    have ha := g3 (by decide)
    have hm := hlk (by decide)
    have hm1 : m_many 1 a bb = 1 := by unfold m_many; rw [if_neg (by decide), if_pos rfl]
    have h2 : LIV μ G ρ (up A 136 μ.1 0 (A 200 0 (A 207 0 0))) := h.cg (fun i x z => by rw [up_k _ (by decide)]; exact h.b0.2.2.2 i x z) (fun c a i z => up_k _ (by omega) _ _ _ _ _)
    have e1 : m_ovr μ a A 120 μ.1 0 = A 120 μ.1 0 + 1 := by unfold m_ovr m_ovrA; rw [up_k _ (by decide), rep_120, up_k _ (by decide)]
    have e2 : m_ovr μ a A 212 0 (A 120 μ.1 0) = 2 + 8 * A 207 0 0 + 4096 * a := by unfold m_ovr m_ovrA; rw [up_k _ (by decide), rep_212, up_k _ (by decide), if_pos rfl]
    have h3 := h2.rep (G' := G') (q := A 207 0 0) (v := a) (by rw [up_k _ (by decide)]; exact h9) (by rw [up_k _ (by decide)]; exact v6) (by rw [up_k _ (by decide)]; omega) ha (by rw [up_k _ (by decide)]; exact hG.1) (by
      rw [up_k _ (by decide), up_k _ (by decide)]
      have e3 : m_ovr μ a A 212 0 (A 120 μ.1 0) % 8 = 2 := by rw [e2]; omega
      have e4 : wsz (m_ovr μ a A 212 0 (A 120 μ.1 0)) = 1 := by unfold wsz; rw [if_pos e3]
      have := (hG.2 (A 120 μ.1 0) (Int.le_refl _) (by rw [e1]; omega) (Or.inr e3)).2 0 (by decide) (by rw [e4]; decide)
      rw [this]; show A 200 0 (m_ovr μ a A 212 0 (A 120 μ.1 0) / 8 % 512 + 0) = _
      rw [e2]; congr 1; omega)
    exact h3.cg hb (fun c a i z => by show m_ovr μ _ A c a i = _; unfold m_ovr m_ovrA; rw [up_k _ (by omega)])
  · have e : m_does μ 2 a bb A = (0, m_delC μ a A) := by unfold m_does; rw [if_neg hl, if_neg (by decide), if_neg (by decide), if_pos rfl]
    rw [e] at hb hG ⊢
    have hb : bB (m_delC μ a A) := hb
    have hG : Gok μ G G' A (m_delC μ a A) := hG
    have ha := g4 (by decide)
    have hm := hlk (by decide)
    have hm1 : m_many 2 a bb = a := by unfold m_many; rw [if_neg (by decide), if_neg (by decide)]
    rw [hm1] at hm
    have e1 : m_delC μ a A 120 μ.1 0 = A 120 μ.1 0 + 1 := by unfold m_delC; rw [up_k _ (by decide), del_120]
    have e2 : m_delC μ a A 212 0 (A 120 μ.1 0) = 1 + 8 * A 207 0 0 + 4096 * a := by unfold m_delC; rw [up_k _ (by decide), del_212, if_pos rfl]
    have e4 : wsz (1 + 8 * A 207 0 0 + 4096 * a) = a := by unfold wsz; rw [if_neg (by omega)]; omega
    have h3 := h.del (G' := G') (q := A 207 0 0) (n := a) h9 v6 ⟨v0, by omega, by omega⟩ hG.1 (fun j j0 j1 => by
      have e5 : m_delC μ a A 212 0 (A 120 μ.1 0) % 8 = 1 := by rw [e2]; omega
      have := (hG.2 (A 120 μ.1 0) (Int.le_refl _) (by rw [e1]; omega) (Or.inl e5)).2 j j0 (by rw [e2, e4]; exact j1)
      rw [this]; show A 200 0 (m_delC μ a A 212 0 (A 120 μ.1 0) / 8 % 512 + j) = _
      rw [e2]; congr 1; omega)
    exact h3.cg hb (fun c a i z => by show m_delC μ _ A c a i = _; unfold m_delC; rw [up_k _ (by omega)])
  · have e : m_does μ 3 a bb A = if m_iV (A 207 0 0 + a) A then (0, m_goto μ (A 207 0 0 + a) A) else (1, A) := by unfold m_does; rw [if_neg hl, if_neg (by decide), if_neg (by decide), if_neg (by decide), if_pos rfl]
    rw [e] at hb ⊢
    by_cases y : m_iV (A 207 0 0 + a) A
    · rw [if_pos y] at hb ⊢; exact h'.cg hb (fun c a i z => by unfold m_goto; dsimp only; rw [up_k _ (by omega), up_k _ (by omega)])
    · rw [if_neg y]; exact h'
  · have e : m_does μ 4 a bb A = m_sea μ a A := by
      unfold m_does
      rw [if_neg hl, if_neg (by decide), if_neg (by decide), if_neg (by decide), if_neg (by decide), if_neg (by decide), if_neg (by decide)]
      unfold m_more; rw [if_pos rfl]
    rw [e] at hb ⊢
    unfold m_sea m_sea2 at hb ⊢
    by_cases y : fnd (fun i => A 200 0 i) a (m_vT A - A 207 0 0).toNat (A 207 0 0) = -1
    · rw [if_pos y]; exact h'
    · rw [if_neg y] at hb ⊢; exact h'.cg hb (fun c a i z => by dsimp only; rw [up_k _ (by omega), up_k _ (by omega)])
  · have e : m_does μ 5 a bb A = (0, m_kil μ a A) := by
      unfold m_does
      rw [if_neg hl, if_neg (by decide), if_neg (by decide), if_neg (by decide), if_neg (by decide), if_neg (by decide), if_neg (by decide)]
      unfold m_more; rw [if_neg (by decide), if_pos rfl]
    rw [e] at hb hG ⊢
    have hm := hlk (by decide)
    have hm1 : m_many 5 a bb = a := by unfold m_many; rw [if_neg (by decide), if_neg (by decide)]
    rw [hm1] at hm
    exact h.kil h121 hSB (g4 (by decide)) ⟨v0, by omega⟩ hb hG
  · have e : m_does μ 6 a bb A = m_puts μ 4 A := by
      unfold m_does
      rw [if_neg hl, if_neg (by decide), if_neg (by decide), if_neg (by decide), if_neg (by decide), if_neg (by decide), if_neg (by decide)]
      unfold m_more; rw [if_neg (by decide), if_neg (by decide), if_pos rfl]
    rw [e]; exact h.puts h121 hSB (by decide) ⟨v0, v1⟩ hG.1
  · have e : m_does μ 7 a bb A = m_rots μ A := by
      unfold m_does
      rw [if_neg hl, if_neg (by decide), if_neg (by decide), if_neg (by decide), if_neg (by decide), if_neg (by decide), if_neg (by decide)]
      unfold m_more; rw [if_neg (by decide), if_neg (by decide), if_neg (by decide), if_pos rfl]
    rw [e] at hb ⊢; exact h.rot h121 hSB hb hG.1
  · have e : m_does μ 8 a bb A = (0, m_cop μ a bb A) := by
      unfold m_does
      rw [if_neg hl, if_neg (by decide), if_neg (by decide), if_neg (by decide), if_neg (by decide), if_neg (by decide), if_neg (by decide)]
      unfold m_more; rw [if_neg (by decide), if_neg (by decide), if_neg (by decide), if_neg (by decide), if_pos rfl]
    rw [e] at hb ⊢
    have hm := hlk (by decide)
    have hm1 : m_many 8 a bb = bb := by unfold m_many; rw [if_pos rfl]
    rw [hm1] at hm
    exact h.cop h121 hSB (g6 (by decide)) (g7 (by decide)) ⟨v0, by omega⟩ hb hG.1
  · have e : m_does μ 9 a bb A = m_puts μ a A := by
      unfold m_does
      rw [if_neg hl, if_neg (by decide), if_neg (by decide), if_neg (by decide), if_neg (by decide), if_neg (by decide), if_neg (by decide)]
      unfold m_more; rw [if_neg (by decide), if_neg (by decide), if_neg (by decide), if_neg (by decide), if_neg (by decide), if_pos rfl]
    have ha := g6 (by decide)
    rw [e]; exact h.puts h121 hSB (by omega) ⟨v0, v1⟩ hG.1
  · have e : m_does μ 10 a bb A = (0, m_mkp μ a bb A) := by
      unfold m_does
      rw [if_neg hl, if_neg (by decide), if_neg (by decide), if_neg (by decide), if_neg (by decide), if_neg (by decide), if_neg (by decide)]
      unfold m_more; rw [if_neg (by decide), if_neg (by decide), if_neg (by decide), if_neg (by decide), if_neg (by decide), if_neg (by decide), if_pos rfl]
    have ha := g8 (by decide)
    rw [e]; exact h.mkp h9 ⟨v0, v1⟩ v6 (by omega) (g9 rfl) hG.1
  · have e : m_does μ 11 a bb A = m_clr μ a A := by
      unfold m_does
      rw [if_neg hl, if_neg (by decide), if_neg (by decide), if_neg (by decide), if_neg (by decide), if_neg (by decide), if_neg (by decide)]
      unfold m_more; rw [if_neg (by decide), if_neg (by decide), if_neg (by decide), if_neg (by decide), if_neg (by decide), if_neg (by decide), if_neg (by decide), if_pos rfl]
    have ha := g8 (by decide)
    rw [e]; unfold m_clr
    by_cases y : A 202 0 a = -1
    · rw [if_pos y]; exact h'
    · rw [if_neg y]; exact h.unm h9 (by omega) hG.1
  · have e : m_does μ 12 a bb A = if A 202 0 a ≠ -1 ∧ m_iV (A 202 0 a) A then (0, m_goto μ (A 202 0 a) A) else (3, A) := by unfold m_does; rw [if_neg hl, if_neg (by decide), if_neg (by decide), if_neg (by decide), if_neg (by decide), if_pos rfl]
    rw [e] at hb ⊢
    by_cases y : A 202 0 a ≠ -1 ∧ m_iV (A 202 0 a) A
    · rw [if_pos y] at hb ⊢; exact h'.cg hb (fun c a i z => by unfold m_goto; dsimp only; rw [up_k _ (by omega), up_k _ (by omega)])
    · rw [if_neg y]; exact h'
  · have e : m_does μ 13 a bb A = m_nar μ a A := by
      unfold m_does
      rw [if_neg hl, if_neg (by decide), if_neg (by decide), if_neg (by decide), if_neg (by decide), if_neg (by decide), if_neg (by decide)]
      unfold m_more; rw [if_neg (by decide), if_neg (by decide), if_neg (by decide), if_neg (by decide), if_neg (by decide), if_neg (by decide), if_neg (by decide), if_neg (by decide)]
    rw [e] at hb ⊢
    unfold m_nar at hb ⊢
    by_cases y : ¬ (A 202 0 a ≠ -1 ∧ m_vF A ≤ A 202 0 a ∧ A 202 0 a ≤ m_vT A)
    · rw [if_pos y]; exact h'
    · rw [if_neg y] at hb ⊢
      by_cases y2 : A 210 0 0 = 4
      · rw [if_pos y2]; exact h'
      · rw [if_neg y2] at hb ⊢; exact h'.cg hb (fun c a i z => by unfold m_nar1; dsimp only; rw [up_k _ (by omega), up_k _ (by omega), up_k _ (by omega), up_k _ (by omega)])
  · have e : m_does μ 14 a bb A = if A 210 0 0 = 0 then (6, A) else (0, m_wid μ A) := by unfold m_does; rw [if_neg hl, if_neg (by decide), if_neg (by decide), if_neg (by decide), if_neg (by decide), if_neg (by decide), if_pos rfl]
    rw [e] at hb ⊢
    by_cases y : A 210 0 0 = 0
    · rw [if_pos y]; exact h'
    · rw [if_neg y] at hb ⊢; exact h'.cg hb (fun c a i z => by unfold m_wid; dsimp only; rw [up_k _ (by omega), up_k _ (by omega)])
end LVE
