/-! the same, asking only what the first appended step took: such an account exists -/
section GK1
variable {μ : MU} {G G' : Int → Int → Int} {ρ A A' A1 A2 B Z V V' b b' : Mm} {P lim q n v k t p i s r a c d bb : Int} {ch : Int → Int} {T : Int → Prop} {L : List Int}
def Gok1 (μ : MU) (G G' : Int → Int → Int) (A A' : Mm) : Prop :=
  (∀ k, 0 ≤ k → k < A 120 μ.1 0 → G' k = G k) ∧ (A 120 μ.1 0 < A' 120 μ.1 0 → A' 212 0 (A 120 μ.1 0) % 8 = 1 ∨ A' 212 0 (A 120 μ.1 0) % 8 = 2 → True ∧ ∀ j, 0 ≤ j → j < wsz (A' 212 0 (A 120 μ.1 0)) → G' (A 120 μ.1 0) j = A 200 0 (A' 212 0 (A 120 μ.1 0) / 8 % 512 + j))
theorem LIV.kil1 (h : LIV μ G ρ A) (h121 : 0 ≤ A 121 μ.1 0 ∧ A 121 μ.1 0 ≤ 519900) (hSB : SB 0 A) (hn : 1 ≤ n ∧ n ≤ 20) (hq : 0 ≤ A 207 0 0 ∧ A 207 0 0 + n ≤ A 201 0 0) (hb : bB (m_kil μ n A)) (hG : Gok1 μ G G' A (m_kil μ n A)) : LIV μ G' ρ (m_kil μ n A) := by
  have hl := hSB.1.2
  have hX : ∀ {c : Nat} {b j : Int}, c ≠ 204 → c ≠ 205 → c ≠ 206 → c ≠ 240 → m_psh 0 n (m_rd n A) c b j = A c b j := fun z1 z2 z3 z4 => by rw [psh_at2 ⟨z1, z2, z3⟩]; unfold m_rd; rw [fl_at z4]
  have rdE : ∀ {c : Nat} {b j : Int}, c ≠ 240 → m_rd n A c b j = A c b j := fun z => by unfold m_rd; rw [fl_at z]
  have k0 : ∀ {c : Nat} {b j : Int}, (c < 200 ∨ 209 < c) → c ≠ 212 → c ≠ 120 → c ≠ 240 → m_kilA μ n A c b j = A c b j := fun z1 z2 z3 z4 => by
    unfold m_kilA; rw [del_o ⟨z2, z3⟩, closes_at (by omega), hX (by omega) (by omega) (by omega) z4]
  have r0 : ∀ {X : Mm} {c : Nat} {b j : Int}, c ≠ 136 → m_rs4 μ X c b j = X c b j := fun z => by unfold m_rs4; exact up_k _ z _ _ _ _ _
  have e207 : m_psh 0 n (m_rd n A) 207 0 0 = A 207 0 0 := hX (by decide) (by decide) (by decide) (by decide)
  have kA : m_kilA μ n A = m_del μ (A 207 0 0) n (m_psh 0 n (m_rd n A)) := by unfold m_kilA; rw [e207]
  have k120 : m_kilA μ n A 120 μ.1 0 = A 120 μ.1 0 + 1 := by rw [kA, del_120, hX (by decide) (by decide) (by decide) (by decide)]
  have k212 : ∀ j, m_kilA μ n A 212 0 j = if j = A 120 μ.1 0 then 1 + 8 * A 207 0 0 + 4096 * n else A 212 0 j := fun j => by
    rw [kA, del_212, hX (by decide) (by decide) (by decide) (by decide), hX (by decide) (by decide) (by decide) (by decide)]
  have k45 : ∀ {c : Nat} {j : Int}, 204 ≤ c → c ≤ 206 → m_kilA μ n A c 0 j = m_psh 0 n (m_rd n A) c 0 j := fun z1 z2 => by rw [kA, del_o (by omega), closes_at (by omega)]
  have k203 : ∀ (c : Nat) (j : Int), 200 ≤ c → c ≤ 203 → m_kilA μ n A c 0 j = m_del μ (A 207 0 0) n A c 0 j := fun c j z1 z2 => by
    rw [kA, del_o (by omega), del_o (by omega)]
    exact cls_cg (fun k j a b d e f => hX d e f (by omega)) c j z1 (by omega) (by omega) (by omega) (by omega)
  have d0 : ∀ {c : Nat} {a i : Int}, c ≠ 212 → c ≠ 120 → (c < 200 ∨ (202 < c ∧ c < 208) ∨ 209 < c) → m_del μ (A 207 0 0) n A c a i = A c a i := fun x y z => by rw [del_o ⟨x, y⟩, closes_at z]
  have kl120 : A 120 μ.1 0 + 1 ≤ m_kil μ n A 120 μ.1 0 := by
    unfold m_kil; rw [r0 (by decide)]
    by_cases y : m_kilA μ n A 211 0 4 = 1
    · rw [if_pos y, psS_120, k120]; omega
    · rw [if_neg y, k120]; omega
  have kl212 : m_kil μ n A 212 0 (A 120 μ.1 0) = 1 + 8 * A 207 0 0 + 4096 * n := by
    unfold m_kil; rw [r0 (by decide)]
    by_cases y : m_kilA μ n A 211 0 4 = 1
    · rw [if_pos y, psS_212, k120, if_neg (by omega), k212, if_pos rfl]
    · rw [if_neg y, k212, if_pos rfl]
  have e2 : wsz (1 + 8 * A 207 0 0 + 4096 * n) = n := by unfold wsz; rw [if_neg (by omega)]; omega
  have hB1 : LIV μ G' ρ (m_del μ (A 207 0 0) n A) := h.del ⟨h121.1, by omega⟩ hl ⟨hq.1, by omega, hq.2⟩ hG.1 (fun j j0 j1 => by
    have := (hG.2 (by omega) (by rw [kl212]; omega)).2 j j0 (by rw [kl212, e2]; exact j1)
    rw [this, kl212, show (1 + 8 * A 207 0 0 + 4096 * n) / 8 % 512 = A 207 0 0 by omega])
  have hlen : m_kilA μ n A 205 0 (4 * 4) = n := by
    rw [k45 (by decide) (by decide), psh_205, if_pos (by decide)]
  have hchr : ∀ i, 0 ≤ i → i < n → m_kilA μ n A 206 0 (80 * 4 + i) = A 200 0 (A 207 0 0 + i) := fun i i0 i1 => by
    rw [k45 (by decide) (by decide), psh_206, if_pos (by omega)]
    unfold m_rd
    rw [fl_v, if_pos (by omega), show 80 * 4 + i - (400 * 0 + 80 * 4 + 20 * 0) = i by omega]
  have hch : ∀ i, 0 ≤ i → i < n → 0 ≤ A 200 0 (A 207 0 0 + i) ∧ A 200 0 (A 207 0 0 + i) ≤ 126 := fun i i0 i1 => hSB.2.1 _ (by omega) (by omega)
  by_cases y : A 211 0 4 = 1
  · have yk : m_kilA μ n A 211 0 4 = 1 := by rw [k0 (by decide) (by decide) (by decide) (by decide)]; exact y
    have eK : m_kil μ n A = m_rs4 μ (m_psS μ 5 0 n 4 (m_kilA μ n A)) := by unfold m_kil; rw [if_pos yk]
    have kc : ∀ i, 0 ≤ i → i < m_kilA μ n A 205 0 (4 * 4) → 0 ≤ m_kilA μ n A 206 0 (80 * 4 + i) ∧ m_kilA μ n A 206 0 (80 * 4 + i) ≤ 126 := fun i i0 i1 => by rw [hlen] at i1; rw [hchr i i0 i1]; exact hch i i0 i1
    have k121 : m_kilA μ n A 121 μ.1 0 = A 121 μ.1 0 := k0 (by decide) (by decide) (by decide) (by decide)
    have hpr : ∀ {X : Mm} {j : Int}, pby (m_rs4 μ X) j = pby X j := pby_cong (r0 (by decide))
    have hap : AP μ (m_kilA μ n A) (m_psS μ 5 0 n 4 (m_kilA μ n A)) := psS_AP
    rw [eK] at hb ⊢
    refine hB1.psh (k := n) (ch := fun j => A 200 0 (A 207 0 0 + j)) (Z := fun c a i => if c = 240 then m_rd n A c a i else m_del μ (A 207 0 0) n A c a i) (by rw [d0 (by decide) (by decide) (by decide)]; omega) (by rw [d0 (by decide) (by decide) (by decide)]; exact y) ⟨by omega, hn.2⟩ (fun i z1 z2 => by rw [d0 (by decide) (by decide) (by decide)]; exact hSB.2.2.2.1 i z1 z2) (fun c j z1 z2 => if_neg (by omega)) (fun j j0 j1 => ?_) (fun c j z1 z2 => ?_) ?_ ?_ ?_ ?_ (fun j j0 j1 => ?_) ?_ (fun j j0 j1 => ?_) (fun i i0 i1 => ?_) hb ?_ (fun r => ?_) (fun _ _ _ => rfl)
    · rw [if_pos rfl]; unfold m_rd; rw [fl_v, if_pos (by omega)]
    · rw [r0 (by omega), psS_o (by omega)]
      by_cases y4 : 204 ≤ c
      · rw [k45 y4 z2]
        have zz : ∀ {c : Nat} {j : Int}, 204 ≤ c → c ≤ 206 → (if c = 240 then m_rd n A c 0 j else m_del μ (A 207 0 0) n A c 0 j) = m_rd n A c 0 j := fun u1 u2 => by rw [if_neg (by omega), d0 (by omega) (by omega) (by omega), rdE (by omega)]
        have hc : c = 204 ∨ c = 205 ∨ c = 206 := by omega
        rcases hc with rfl | rfl | rfl
        · rw [psh_204, psh_204]; simp only [zz (c := 204) (by decide) (by decide)]
        · rw [psh_205, psh_205]; simp only [zz (c := 204) (by decide) (by decide), zz (c := 205) (by decide) (by decide)]
        · rw [psh_206, psh_206]; simp only [zz (c := 204) (by decide) (by decide), zz (c := 206) (by decide) (by decide), if_true]
      · rw [k203 c j z1 (by omega), psh_at2 (by omega), if_neg (by omega)]
    · rw [r0 (by decide), psS_120, k120, del_120]
    · rw [r0 (by decide), psS_121, hlen, k121, d0 (by decide) (by decide) (by decide)]; omega
    · rw [r0 (by decide), psS_o (by decide), k0 (by decide) (by decide) (by decide) (by decide), d0 (by decide) (by decide) (by decide)]
    · rw [r0 (by decide), psS_o (by decide), k0 (by decide) (by decide) (by decide) (by decide), d0 (by decide) (by decide) (by decide)]
    · rw [del_120] at j1
      rw [r0 (by decide), psS_212, k120, if_neg (by omega), k212, del_212]
    · rw [r0 (by decide), psS_212, k120, del_120, if_pos rfl]
    · rw [d0 (by decide) (by decide) (by decide)] at j1
      rw [hpr, hap.2.2.2 j j0 (by rw [k121]; exact j1)]
      rw [pby_cong (k0 (by decide) (by decide) (by decide) (by decide)), pby_cong (d0 (by decide) (by decide) (by decide))]
    · rw [hpr, d0 (by decide) (by decide) (by decide), ← k121, psS_pv (by rw [k121]; exact h121.1) kc i i0 (by rw [hlen]; exact i1)]
      exact hchr i i0 i1
    · exact (psS_bP (h.b0.2.2.1.cong fun i => k0 (by decide) (by decide) (by decide) (by decide)) (by rw [k121]; exact h121.1) kc).cong fun i => r0 (by decide)
    · rw [r0 (by decide), psS_o (by decide), k0 (by decide) (by decide) (by decide) (by decide), d0 (by decide) (by decide) (by decide)]
  · have yk : ¬ m_kilA μ n A 211 0 4 = 1 := by rw [k0 (by decide) (by decide) (by decide) (by decide)]; exact y
    have eK : m_kil μ n A = m_rs4 μ (m_kilA μ n A) := by unfold m_kil; rw [if_neg yk]
    rw [eK] at hb ⊢
    refine hB1.keep ?_ ?_ ?_ ?_ (fun j j0 j1 => ?_) (fun j j0 j1 => ?_) hb (h.b0.2.2.1.cong fun i => ?_) (fun r => ?_) (EQv_but (s := 4) (fun i z1 z2 => by rw [d0 (by decide) (by decide) (by decide)]; exact hSB.2.2.2.1 i z1 z2) (fun i z1 z2 => by rw [d0 (by decide) (by decide) (by decide)]; exact hSB.2.2.2.2.1 i z1 z2) (by show ¬ m_del μ (A 207 0 0) n A 211 0 4 = 1; rw [d0 (by decide) (by decide) (by decide)]; exact y) (by decide) (fun c j z1 z2 => ?_) (fun j z => ?_) (fun j z => ?_) (fun j z => ?_))
    · rw [r0 (by decide), k120, del_120]
    · rw [r0 (by decide), k0 (by decide) (by decide) (by decide) (by decide), d0 (by decide) (by decide) (by decide)]
    · rw [r0 (by decide), k0 (by decide) (by decide) (by decide) (by decide), d0 (by decide) (by decide) (by decide)]
    · rw [r0 (by decide), k0 (by decide) (by decide) (by decide) (by decide), d0 (by decide) (by decide) (by decide)]
    · rw [r0 (by decide), k212, del_212]
    · exact (pby_cong ((r0 (by decide)).trans (k0 (by decide) (by decide) (by decide) (by decide)))).trans (pby_cong (d0 (by decide) (by decide) (by decide))).symm
    · rw [r0 (by decide), k0 (by decide) (by decide) (by decide) (by decide)]
    · rw [r0 (by decide), k0 (by decide) (by decide) (by decide) (by decide), d0 (by decide) (by decide) (by decide)]
    · rw [r0 (by omega)]; exact k203 c j z1 z2
    · rw [r0 (by decide), k45 (by decide) (by decide), psh_204, if_neg (by omega), rdE (by decide), d0 (by decide) (by decide) (by decide)]
    · have hn4 : (if m_rd n A 204 0 (5 * 0 + 4) < 4 then m_rd n A 204 0 (5 * 0 + 4) + 1 else 4) ≤ 4 := by split <;> omega
      rw [r0 (by decide), k45 (by decide) (by decide), psh_205, if_neg (by omega), if_neg (by omega), rdE (by decide), d0 (by decide) (by decide) (by decide)]
    · have hn4 : (if m_rd n A 204 0 (5 * 0 + 4) < 4 then m_rd n A 204 0 (5 * 0 + 4) + 1 else 4) ≤ 4 := by split <;> omega
      rw [r0 (by decide), k45 (by decide) (by decide), psh_206, if_neg (by omega), if_neg (by omega), rdE (by decide), d0 (by decide) (by decide) (by decide)]
theorem LIV.does1 (h : LIV μ G ρ A) (h121 : 0 ≤ A 121 μ.1 0 ∧ A 121 μ.1 0 ≤ 519900) (hSB : SB 0 A) (hVB : VB 0 A) (hcv : CV c a bb) (hc : c ≤ 14) (hb : bB (m_does μ c a bb A).2) (hG : Gok1 μ G G' A (m_does μ c a bb A).2) : LIV μ G' ρ (m_does μ c a bb A).2 := by
  obtain ⟨v0, v1, ⟨v2, v3⟩, v4, v5, v6⟩ := VB_f hSB.1 hVB
  obtain ⟨g0, g1, g2, g3, g4, g5, g6, g7, g8, g9, g10⟩ := hcv
  have h' := h.gc hG.1
  have h9 : 0 ≤ A 121 μ.1 0 ∧ A 121 μ.1 0 ≤ 520000 := ⟨h121.1, by omega⟩
  by_cases hl : m_lack c a bb A
  · unfold m_does; rw [if_pos hl]; exact h'
  have hlk : (c = 2 ∨ c = 5 ∨ c = 8 ∨ c = 1) → A 207 0 0 + m_many c a bb ≤ m_vT A := fun z => by
    by_cases y : A 207 0 0 + m_many c a bb > m_vT A
    · exact absurd ⟨z, y⟩ hl
    · omega
  have hcs : c = 0 ∨ c = 1 ∨ c = 2 ∨ c = 3 ∨ c = 4 ∨ c = 5 ∨ c = 6 ∨ c = 7 ∨ c = 8 ∨ c = 9 ∨ c = 10 ∨ c = 11 ∨ c = 12 ∨ c = 13 ∨ c = 14 := by omega
  have fg : ∀ {P : Prop}, ¬ P → P → False := fun a b => a b
  rcases hcs with rfl | rfl | rfl | rfl | rfl | rfl | rfl | rfl | rfl | rfl | rfl | rfl | rfl | rfl | rfl
  · have e : m_does μ 0 a bb A = if A 201 0 0 = 400 then (5, A) else (0, m_insC μ a A) := by unfold m_does; rw [if_neg hl, if_pos rfl]
    rw [e] at hb ⊢
    by_cases y : A 201 0 0 = 400
    · rw [if_pos y]; exact h'
    · rw [if_neg y] at hb ⊢
      have ha := g3 (by decide)
      have b1 : bB (up A 240 0 0 a) := fun i x z => by
        by_cases q : i = 0
        · rw [q, up_s]; omega
        · rw [up_i _ _ _ _ _ _ q]; exact h.b0.2.2.2 i x z
      have h2 : LIV μ G' ρ (up A 240 0 0 a) := h'.cg b1 (fun c a i z => up_k _ (by omega) _ _ _ _ _)
      have h3 := h2.ins (G' := G') (q := A 207 0 0) (n := 1) (by rw [up_k _ (by decide)]; exact h9) (by rw [up_k _ (by decide)]; exact ⟨v0, v1⟩) (by rw [up_k _ (by decide)]; omega) (fun _ _ _ => rfl)
      exact h3.cg hb (fun c a i z => by show m_insC μ _ A c a i = _; unfold m_insC m_pt; rw [up_k _ (by omega), up_k _ (by omega)])
  · have e : m_does μ 1 a bb A = (0, m_ovr μ a A) := by unfold m_does; rw [if_neg hl, if_neg (by decide), if_pos rfl]
    rw [e] at hb hG ⊢
    have hb : bB (m_ovr μ a A) := hb
    have hG : Gok1 μ G G' A (m_ovr μ a A) := hG
    have ha := g3 (by decide)
    have hm := hlk (by decide)
    have hm1 : m_many 1 a bb = 1 := by unfold m_many; rw [if_neg (by decide), if_pos rfl]
    have h2 : LIV μ G ρ (up A 136 μ.1 0 (A 200 0 (A 207 0 0))) := h.cg (fun i x z => by rw [up_k _ (by decide)]; exact h.b0.2.2.2 i x z) (fun c a i z => up_k _ (by omega) _ _ _ _ _)
    have e1 : m_ovr μ a A 120 μ.1 0 = A 120 μ.1 0 + 1 := by unfold m_ovr m_ovrA; rw [up_k _ (by decide), rep_120, up_k _ (by decide)]
    have e2 : m_ovr μ a A 212 0 (A 120 μ.1 0) = 2 + 8 * A 207 0 0 + 4096 * a := by unfold m_ovr m_ovrA; rw [up_k _ (by decide), rep_212, up_k _ (by decide), if_pos rfl]
    have h3 := h2.rep (G' := G') (q := A 207 0 0) (v := a) (by rw [up_k _ (by decide)]; exact h9) (by rw [up_k _ (by decide)]; exact v6) (by rw [up_k _ (by decide)]; omega) ha (by rw [up_k _ (by decide)]; exact hG.1) (by
      rw [up_k _ (by decide), up_k _ (by decide)]
      have e3 : m_ovr μ a A 212 0 (A 120 μ.1 0) % 8 = 2 := by rw [e2]; omega
      have e4 : wsz (m_ovr μ a A 212 0 (A 120 μ.1 0)) = 1 := by unfold wsz; rw [if_pos e3]
      have := (hG.2 (by rw [e1]; omega) (Or.inr e3)).2 0 (by decide) (by rw [e4]; decide)
      rw [this]; show A 200 0 (m_ovr μ a A 212 0 (A 120 μ.1 0) / 8 % 512 + 0) = _
      rw [e2]; congr 1; omega)
    exact h3.cg hb (fun c a i z => by show m_ovr μ _ A c a i = _; unfold m_ovr m_ovrA; rw [up_k _ (by omega)])
  · have e : m_does μ 2 a bb A = (0, m_delC μ a A) := by unfold m_does; rw [if_neg hl, if_neg (by decide), if_neg (by decide), if_pos rfl]
    rw [e] at hb hG ⊢
    have hb : bB (m_delC μ a A) := hb
    have hG : Gok1 μ G G' A (m_delC μ a A) := hG
    have ha := g4 (by decide)
    have hm := hlk (by decide)
    have hm1 : m_many 2 a bb = a := by unfold m_many; rw [if_neg (by decide), if_neg (by decide)]
    rw [hm1] at hm
    have e1 : m_delC μ a A 120 μ.1 0 = A 120 μ.1 0 + 1 := by unfold m_delC; rw [up_k _ (by decide), del_120]
    have e2 : m_delC μ a A 212 0 (A 120 μ.1 0) = 1 + 8 * A 207 0 0 + 4096 * a := by unfold m_delC; rw [up_k _ (by decide), del_212, if_pos rfl]
    have e4 : wsz (1 + 8 * A 207 0 0 + 4096 * a) = a := by unfold wsz; rw [if_neg (by omega)]; omega
    have h3 := h.del (G' := G') (q := A 207 0 0) (n := a) h9 v6 ⟨v0, by omega, by omega⟩ hG.1 (fun j j0 j1 => by
      have e5 : m_delC μ a A 212 0 (A 120 μ.1 0) % 8 = 1 := by rw [e2]; omega
      have := (hG.2 (by rw [e1]; omega) (Or.inl e5)).2 j j0 (by rw [e2, e4]; exact j1)
      rw [this]; show A 200 0 (m_delC μ a A 212 0 (A 120 μ.1 0) / 8 % 512 + j) = _
      rw [e2]; congr 1; omega)
    exact h3.cg hb (fun c a i z => by show m_delC μ _ A c a i = _; unfold m_delC; rw [up_k _ (by omega)])
  · have e : m_does μ 3 a bb A = if m_iV (A 207 0 0 + a) A then (0, m_goto μ (A 207 0 0 + a) A) else (1, A) := by unfold m_does; rw [if_neg hl, if_neg (by decide), if_neg (by decide), if_neg (by decide), if_pos rfl]
    rw [e] at hb ⊢
    by_cases y : m_iV (A 207 0 0 + a) A
    · rw [if_pos y] at hb ⊢; exact h'.cg hb (fun c a i z => by unfold m_goto; dsimp only; rw [up_k _ (by omega), up_k _ (by omega)])
    · rw [if_neg y]; exact h'
  · have e : m_does μ 4 a bb A = m_sea μ a A := by
      unfold m_does
      rw [if_neg hl, if_neg (by decide), if_neg (by decide), if_neg (by decide), if_neg (by decide), if_neg (by decide), if_neg (by decide)]
      unfold m_more; rw [if_pos rfl]
    rw [e] at hb ⊢
    unfold m_sea m_sea2 at hb ⊢
    by_cases y : fnd (fun i => A 200 0 i) a (m_vT A - A 207 0 0).toNat (A 207 0 0) = -1
    · rw [if_pos y]; exact h'
    · rw [if_neg y] at hb ⊢; exact h'.cg hb (fun c a i z => by dsimp only; rw [up_k _ (by omega), up_k _ (by omega)])
  · have e : m_does μ 5 a bb A = (0, m_kil μ a A) := by
      unfold m_does
      rw [if_neg hl, if_neg (by decide), if_neg (by decide), if_neg (by decide), if_neg (by decide), if_neg (by decide), if_neg (by decide)]
      unfold m_more; rw [if_neg (by decide), if_pos rfl]
    rw [e] at hb hG ⊢
    have hm := hlk (by decide)
    have hm1 : m_many 5 a bb = a := by unfold m_many; rw [if_neg (by decide), if_neg (by decide)]
    rw [hm1] at hm
    exact h.kil1 h121 hSB (g4 (by decide)) ⟨v0, by omega⟩ hb hG
  · have e : m_does μ 6 a bb A = m_puts μ 4 A := by
      unfold m_does
      rw [if_neg hl, if_neg (by decide), if_neg (by decide), if_neg (by decide), if_neg (by decide), if_neg (by decide), if_neg (by decide)]
      unfold m_more; rw [if_neg (by decide), if_neg (by decide), if_pos rfl]
    rw [e]; exact h.puts h121 hSB (by decide) ⟨v0, v1⟩ hG.1
  · have e : m_does μ 7 a bb A = m_rots μ A := by
      unfold m_does
      rw [if_neg hl, if_neg (by decide), if_neg (by decide), if_neg (by decide), if_neg (by decide), if_neg (by decide), if_neg (by decide)]
      unfold m_more; rw [if_neg (by decide), if_neg (by decide), if_neg (by decide), if_pos rfl]
    rw [e] at hb ⊢; exact h.rot h121 hSB hb hG.1
  · have e : m_does μ 8 a bb A = (0, m_cop μ a bb A) := by
      unfold m_does
      rw [if_neg hl, if_neg (by decide), if_neg (by decide), if_neg (by decide), if_neg (by decide), if_neg (by decide), if_neg (by decide)]
      unfold m_more; rw [if_neg (by decide), if_neg (by decide), if_neg (by decide), if_neg (by decide), if_pos rfl]
    rw [e] at hb ⊢
    have hm := hlk (by decide)
    have hm1 : m_many 8 a bb = bb := by unfold m_many; rw [if_pos rfl]
    rw [hm1] at hm
    exact h.cop h121 hSB (g6 (by decide)) (g7 (by decide)) ⟨v0, by omega⟩ hb hG.1
  · have e : m_does μ 9 a bb A = m_puts μ a A := by
      unfold m_does
      rw [if_neg hl, if_neg (by decide), if_neg (by decide), if_neg (by decide), if_neg (by decide), if_neg (by decide), if_neg (by decide)]
      unfold m_more; rw [if_neg (by decide), if_neg (by decide), if_neg (by decide), if_neg (by decide), if_neg (by decide), if_pos rfl]
    have ha := g6 (by decide)
    rw [e]; exact h.puts h121 hSB (by omega) ⟨v0, v1⟩ hG.1
  · have e : m_does μ 10 a bb A = (0, m_mkp μ a bb A) := by
      unfold m_does
      rw [if_neg hl, if_neg (by decide), if_neg (by decide), if_neg (by decide), if_neg (by decide), if_neg (by decide), if_neg (by decide)]
      unfold m_more; rw [if_neg (by decide), if_neg (by decide), if_neg (by decide), if_neg (by decide), if_neg (by decide), if_neg (by decide), if_pos rfl]
    have ha := g8 (by decide)
    rw [e]; exact h.mkp h9 ⟨v0, v1⟩ v6 (by omega) (g9 rfl) hG.1
  · have e : m_does μ 11 a bb A = m_clr μ a A := by
      unfold m_does
      rw [if_neg hl, if_neg (by decide), if_neg (by decide), if_neg (by decide), if_neg (by decide), if_neg (by decide), if_neg (by decide)]
      unfold m_more; rw [if_neg (by decide), if_neg (by decide), if_neg (by decide), if_neg (by decide), if_neg (by decide), if_neg (by decide), if_neg (by decide), if_pos rfl]
    have ha := g8 (by decide)
    rw [e]; unfold m_clr
    by_cases y : A 202 0 a = -1
    · rw [if_pos y]; exact h'
    · rw [if_neg y]; exact h.unm h9 (by omega) hG.1
  · have e : m_does μ 12 a bb A = if A 202 0 a ≠ -1 ∧ m_iV (A 202 0 a) A then (0, m_goto μ (A 202 0 a) A) else (3, A) := by unfold m_does; rw [if_neg hl, if_neg (by decide), if_neg (by decide), if_neg (by decide), if_neg (by decide), if_pos rfl]
    rw [e] at hb ⊢
    by_cases y : A 202 0 a ≠ -1 ∧ m_iV (A 202 0 a) A
    · rw [if_pos y] at hb ⊢; exact h'.cg hb (fun c a i z => by unfold m_goto; dsimp only; rw [up_k _ (by omega), up_k _ (by omega)])
    · rw [if_neg y]; exact h'
  · have e : m_does μ 13 a bb A = m_nar μ a A := by
      unfold m_does
      rw [if_neg hl, if_neg (by decide), if_neg (by decide), if_neg (by decide), if_neg (by decide), if_neg (by decide), if_neg (by decide)]
      unfold m_more; rw [if_neg (by decide), if_neg (by decide), if_neg (by decide), if_neg (by decide), if_neg (by decide), if_neg (by decide), if_neg (by decide), if_neg (by decide)]
    rw [e] at hb ⊢
    unfold m_nar at hb ⊢
    by_cases y : ¬ (A 202 0 a ≠ -1 ∧ m_vF A ≤ A 202 0 a ∧ A 202 0 a ≤ m_vT A)
    · rw [if_pos y]; exact h'
    · rw [if_neg y] at hb ⊢
      by_cases y2 : A 210 0 0 = 4
      · rw [if_pos y2]; exact h'
      · rw [if_neg y2] at hb ⊢; exact h'.cg hb (fun c a i z => by unfold m_nar1; dsimp only; rw [up_k _ (by omega), up_k _ (by omega), up_k _ (by omega), up_k _ (by omega)])
  · have e : m_does μ 14 a bb A = if A 210 0 0 = 0 then (6, A) else (0, m_wid μ A) := by unfold m_does; rw [if_neg hl, if_neg (by decide), if_neg (by decide), if_neg (by decide), if_neg (by decide), if_neg (by decide), if_pos rfl]
    rw [e] at hb ⊢
    by_cases y : A 210 0 0 = 0
    · rw [if_pos y]; exact h'
    · rw [if_neg y] at hb ⊢; exact h'.cg hb (fun c a i z => by unfold m_wid; dsimp only; rw [up_k _ (by omega), up_k _ (by omega)])
theorem LIV.dos (h : LIV μ G ρ A) (h121 : 0 ≤ A 121 μ.1 0 ∧ A 121 μ.1 0 ≤ 519900) (hSB : SB 0 A) (hVB : VB 0 A) (hcv : CV c a bb) (hc : c ≤ 14) (hb : bB (m_does μ c a bb A).2) : ∃ G', LIV μ G' ρ (m_does μ c a bb A).2 ∧ ∀ k, 0 ≤ k → k < A 120 μ.1 0 → G' k = G k := by
  obtain ⟨G', hG⟩ : ∃ G' : Int → Int → Int, G' = fun k j => if k = A 120 μ.1 0 then A 200 0 ((m_does μ c a bb A).2 212 0 (A 120 μ.1 0) / 8 % 512 + j) else G k j := ⟨_, rfl⟩
  have g : ∀ k, 0 ≤ k → k < A 120 μ.1 0 → G' k = G k := fun k k0 k1 => by
    funext j; rw [hG]; show (if _ then _ else _) = _; rw [if_neg (by omega)]
  refine ⟨G', h.does1 h121 hSB hVB hcv hc hb ⟨g, fun _ _ => ⟨trivial, fun j _ _ => ?_⟩⟩, g⟩
  rw [hG]; show (if _ then _ else _) = _; rw [if_pos rfl]
end GK1
