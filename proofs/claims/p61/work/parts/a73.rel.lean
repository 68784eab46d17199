/-! a node is made: the reference's side -/
def PLk (PL : Int → List Int) (n : Int) : Int → List Int := fun k => if k = n then [n] else PL k
def RHk (ρ : Int → Mm) (n : Int) (V : Mm) : Int → Mm := fun k => if k = n then V else ρ k
section MKN
variable {μ : MU} {M n k g q P i j : Int} {A A' b b' V V' : Mm} {PL : Int → List Int} {ρ : Int → Mm} {G G' : Int → Int → Int} {T : Int → Prop}
theorem mk1_n {c : Nat} (h : c < 122 ∨ (126 < c ∧ c < 216) ∨ 225 < c) {a i : Int} : m_mk1 μ g A c a i = A c a i := by
  unfold m_mk1
  rw [up_k _ (by omega), up_k _ (by omega), up_k _ (by omega), up_k _ (by omega), up_k _ (by omega), up_k _ (by omega), up_k _ (by omega), up_k _ (by omega), up_k _ (by omega), up_k _ (by omega), up_k _ (by omega), up_k _ (by omega), up_k _ (by omega), up_k _ (by omega), up_k _ (by omega)]
theorem mk1_o {c : Nat} (h : 216 ≤ c ∧ c ≤ 225) {i : Int} (hi : i ≠ A 124 μ.1 0) : m_mk1 μ g A c 0 i = A c 0 i := by
  unfold m_mk1
  rw [up_k _ (by omega), up_k _ (by omega), up_k _ (by omega), up_k _ (by omega), up_k _ (by omega), up_i _ _ _ _ _ _ hi, up_i _ _ _ _ _ _ hi, up_i _ _ _ _ _ _ hi, up_i _ _ _ _ _ _ hi, up_i _ _ _ _ _ _ hi, up_i _ _ _ _ _ _ hi, up_i _ _ _ _ _ _ hi, up_i _ _ _ _ _ _ hi, up_i _ _ _ _ _ _ hi, up_i _ _ _ _ _ _ hi]
theorem mk1_v : m_mk1 μ g A 216 0 (A 124 μ.1 0) = 1 ∧ m_mk1 μ g A 217 0 (A 124 μ.1 0) = A 126 μ.1 0 ∧ m_mk1 μ g A 218 0 (A 124 μ.1 0) = A 122 μ.1 0 ∧ m_mk1 μ g A 219 0 (A 124 μ.1 0) = A 123 μ.1 0 ∧ m_mk1 μ g A 220 0 (A 124 μ.1 0) = A 120 μ.1 0 - A 122 μ.1 0 ∧ m_mk1 μ g A 221 0 (A 124 μ.1 0) = A 124 μ.1 0 ∧ m_mk1 μ g A 222 0 (A 124 μ.1 0) = A 124 μ.1 0 ∧ m_mk1 μ g A 223 0 (A 124 μ.1 0) = -1 ∧ m_mk1 μ g A 224 0 (A 124 μ.1 0) = A 207 0 0 ∧ m_mk1 μ g A 225 0 (A 124 μ.1 0) = g := by
  unfold m_mk1
  refine ⟨?_, ?_, ?_, ?_, ?_, ?_, ?_, ?_, ?_, ?_⟩ <;> simp (disch := decide) only [up_k, up_s]
theorem mk1_m : m_mk1 μ g A 126 μ.1 0 = A 124 μ.1 0 ∧ m_mk1 μ g A 124 μ.1 0 = A 124 μ.1 0 + 1 ∧ m_mk1 μ g A 125 μ.1 0 = A 125 μ.1 0 + 1 ∧ m_mk1 μ g A 122 μ.1 0 = A 120 μ.1 0 ∧ m_mk1 μ g A 123 μ.1 0 = A 121 μ.1 0 := by
  unfold m_mk1
  refine ⟨?_, ?_, ?_, ?_, ?_⟩ <;> simp (disch := decide) only [up_k, up_s]
theorem mk1_pby (j : Int) : pby (m_mk1 μ g A) j = pby A j := by unfold pby; rw [mk1_n (by decide)]
theorem alv_mk (h : 1 ≤ A 124 μ.1 0) : alv μ (m_mk1 μ g A) k ↔ alv μ A k ∨ k = A 124 μ.1 0 := by
  unfold alv
  rw [mk1_m.2.1]
  by_cases c : k = A 124 μ.1 0
  · rw [c, mk1_v.1]; exact ⟨fun _ => Or.inr rfl, fun _ => ⟨by omega, rfl⟩⟩
  · rw [mk1_o (by decide) c]; exact ⟨fun z => Or.inl ⟨by omega, z.2⟩, fun z => ⟨by have := z.resolve_right c; omega, (z.resolve_right c).2⟩⟩
theorem EQv.sw {ρ : Mm} : EQv T 1 1 (SWp ρ A) ρ := EQv.buf EQv.refl (fun c i h1 h2 => SWp_s ⟨h1, h2⟩) (fun _ _ _ _ => rfl)
theorem LGL_rng : ∀ (L : List (Int × Int)) (V : Mm), LGL L V → ∀ y ∈ L, 0 ≤ y.1 ∧ y.1 < 16777216
  | [], _, _, y, hy => absurd hy List.not_mem_nil
  | x :: xs, V, h, y, hy => by
    rcases List.mem_cons.mp hy with rfl | hy
    · exact h.1.1.1
    · exact LGL_rng xs _ h.2 y hy
theorem plist_mem : ∀ (n : Nat) (i t j : Int), i ≤ j → j < i + n → ∃ t', (b 212 0 j, t') ∈ plist b n i t
  | 0, _, _, _, h1, h2 => by omega
  | n + 1, i, t, j, h1, h2 => by
    by_cases c : j = i
    · exact ⟨t, by rw [c]; exact List.mem_cons_self⟩
    · obtain ⟨t', h⟩ := plist_mem n (i + 1) (t + (m_play (b 212 0 i) t b).1) j (by omega) (by omega)
      exact ⟨t', List.mem_cons_of_mem _ h⟩
theorem plist_len : ∀ (n : Nat) (i t : Int), (plist b n i t).length = n
  | 0, _, _ => rfl
  | n + 1, i, t => by show (plist b n _ _).length + 1 = _; rw [plist_len n]
theorem PLk_o {n k : Int} (h : k ≠ n) : PLk PL n k = PL k := by unfold PLk; rw [if_neg h]
theorem PLk_s {n : Int} : PLk PL n n = [n] := by unfold PLk; rw [if_pos rfl]
theorem RHk_o {n k : Int} (h : k ≠ n) : RHk ρ n V k = ρ k := by unfold RHk; rw [if_neg h]
theorem RHk_s {n : Int} : RHk ρ n V n = V := by unfold RHk; rw [if_pos rfl]
/-- what is asked where a node is made -/
def MKo (μ : MU) (M : Int) (ρ : Int → Mm) (G : Int → Int → Int) (PL : Int → List Int) (A : Mm) : Prop := TX μ ρ G PL A ∧ LIV μ G (ρ (A 126 μ.1 0)) A ∧ TB μ M A ∧ M ≤ 599 ∧ SB 1 A ∧ (A 120 μ.1 0 ≤ 30000 ∧ A 123 μ.1 0 ≤ 520000 ∧ A 123 μ.1 0 ≤ A 121 μ.1 0)
theorem mk_RSo (h : MKo μ M ρ G PL A) (hTb : TB μ (M + 1) (m_mk1 μ g A)) : ∀ (m : Nat) (k : Int), k < m → alv μ A k → RSx (PLk PL (A 124 μ.1 0)) k (m_mk1 μ g A) = RSx PL k A
  | 0, k, hk, ha => by have := ha.1; omega
  | m + 1, k, hk, ha => by
    obtain ⟨h1, h2, h3, h4, h5, h6⟩ := id h
    have hkn : k ≠ A 124 μ.1 0 := by have := ha.1; omega
    by_cases c0 : k = 0
    · subst c0; rw [RSx_0 h3, RSx_0 hTb]
    · have hk1 : 1 ≤ k ∧ k < A 124 μ.1 0 := by have := ha.1; omega
      rw [hTb.rsp ⟨hk1.1, by rw [mk1_m.2.1]; omega⟩, h3.rsp hk1, mk1_o (by decide) hkn, PLk_o hkn]
      have hpk := h3.plp hk1
      have hn := h1.1.1.2.2.1 k hk1.1 ha
      have hr := (h1.1.1.2.2.2.1 k ha).2.1
      rw [h3.rsp hk1] at hr
      rw [mk_RSo h hTb m _ (by omega) ⟨⟨by omega, by omega⟩, h1.1.1.1.2.2.1 k hk1.1 hk1.2 ha.2⟩,
        nodeL_app (P := A 123 μ.1 0) (lim := A 122 μ.1 0) (fun j _ _ => mk1_pby j) (fun i _ _ => mk1_n (by decide)) _ _ hn.1 (fun c q hq c1 c2 => mk1_o ⟨by omega, by omega⟩ (by have := (h1.1.1.lt h3 ha q hq).2; omega)) hn.2.2.2.2 (fun y hy => hr y (List.mem_append_right _ hy))]
theorem mk_RSn (h : MKo μ M ρ G PL A) (hTb : TB μ (M + 1) (m_mk1 μ g A)) : RSx (PLk PL (A 124 μ.1 0)) (A 124 μ.1 0) (m_mk1 μ g A) = RSx PL (A 126 μ.1 0) A ++ LVl μ A := by
  obtain ⟨h1, h2, h3, h4, h5, h6⟩ := id h
  have h124 := h3.1
  have hcur := h1.1.1.1.cur h3
  rw [hTb.rsp ⟨h124.1, by rw [mk1_m.2.1]; omega⟩, mk1_v.2.1, mk_RSo h hTb (A 126 μ.1 0 + 1).toNat _ (by have := hcur.1; omega) hcur, PLk_s]
  congr 1
  show plist _ _ _ _ ++ nodeL _ [] = _
  show plist _ _ _ _ ++ [] = _
  rw [List.append_nil, mk1_v.2.2.1, mk1_v.2.2.2.1, mk1_v.2.2.2.2.1, plist_cong (b := A) (fun c a i hc => mk1_n (by omega))]
  rfl
/-- the new node's replay -/
theorem mk_rpl (h : MKo μ M ρ G PL A) (hTb : TB μ (M + 1) (m_mk1 μ g A)) :
    (∀ k, alv μ A k → EQv TA 1 1 (m_rpl μ PL k A) (m_rpl μ (PLk PL (A 124 μ.1 0)) k (m_mk1 μ g A)) ∧ RLo μ (PLk PL (A 124 μ.1 0)) (m_mk1 μ g A) k) ∧
    (EQv TA 1 1 (m_playL (LVl μ A) (SWp (ρ (A 126 μ.1 0)) A)) (m_rpl μ (PLk PL (A 124 μ.1 0)) (A 124 μ.1 0) (m_mk1 μ g A)) ∧ RLo μ (PLk PL (A 124 μ.1 0)) (m_mk1 μ g A) (A 124 μ.1 0)) ∧
    (EQv TA 1 1 (SWp (ρ (A 126 μ.1 0)) A) (m_rpl μ (PLk PL (A 124 μ.1 0)) (A 126 μ.1 0) (m_mk1 μ g A)) ∧ (SB 1 (SWp (ρ (A 126 μ.1 0)) A) ∧ bB (SWp (ρ (A 126 μ.1 0)) A))) := by
  obtain ⟨h1, h2, h3, h4, h5, h6⟩ := id h
  obtain ⟨⟨l1, l2, l3, l4, l5, l6⟩, ⟨l7, l8, l9⟩, l10, l11, l12⟩ := id h2
  have hcur := h1.1.1.1.cur h3
  have hpb : ∀ j, 0 ≤ j → pby (m_mk1 μ g A) j ≤ 126 := fun j a => by rw [mk1_pby]; exact l3 j a
  have hold : ∀ k, alv μ A k → EQv TA 1 1 (m_rpl μ PL k A) (m_rpl μ (PLk PL (A 124 μ.1 0)) k (m_mk1 μ g A)) ∧ RLo μ (PLk PL (A 124 μ.1 0)) (m_mk1 μ g A) k := fun k ha => by
    obtain ⟨r1, r2, r3⟩ := h1.1.1.2.2.2.1 k ha
    have o := rpl_mv (A' := m_mk1 μ g A) (k' := k) h5 l2 hpb (fun j _ _ => mk1_pby j) r1 r2
    have eR := mk_RSo h hTb (k + 1).toNat k (by have := ha.1; omega) ha
    unfold m_rpl RLo
    rw [eR, mk1_m.2.2.2.1, mk1_m.2.2.2.2]
    exact ⟨o.1, o.2, fun y hy => Int.le_trans (r2.mv mk1_pby y hy) h6.2.2, by omega⟩
  have hsw : SB 1 (SWp (ρ (A 126 μ.1 0)) A) ∧ bB (SWp (ρ (A 126 μ.1 0)) A) := ⟨l1.cong (fun c a i y z => SWp_s ⟨by omega, by omega⟩), l2.cong (fun i => SWp_o (by decide))⟩
  have e0 : EQv TA 1 1 (SWp (ρ (A 126 μ.1 0)) A) (m_rpl μ (PLk PL (A 124 μ.1 0)) (A 126 μ.1 0) (m_mk1 μ g A)) := (EQv.sw.trans (h1.2 _ hcur).1.1).trans (hold _ hcur).1
  refine ⟨hold, ?_, e0, hsw⟩
  obtain ⟨r1, r2, r3⟩ := h1.1.1.2.2.2.1 _ hcur
  have o := rpl_mv (A' := m_mk1 μ g A) (k' := A 124 μ.1 0) h5 l2 hpb (fun j _ _ => mk1_pby j) r1 r2
  have e1 : EQv TA 1 1 (SWp (ρ (A 126 μ.1 0)) A) (m_playL (RSx PL (A 126 μ.1 0) A) (m_rp0 μ (A 124 μ.1 0) (m_mk1 μ g A))) := (EQv.sw.trans (h1.2 _ hcur).1.1).trans o.1
  have pV : ∀ j, pby (m_playL (RSx PL (A 126 μ.1 0) A) (m_rp0 μ (A 124 μ.1 0) (m_mk1 μ g A))) j = pby A j := fun j => by rw [pby_L, pby_rp0, mk1_pby]
  have p := playL_eq (P := A 121 μ.1 0) (LVl μ A) _ _ e1 (fun j _ _ => by rw [pV, pby_SWp]) (fun j a => by rw [pV]; exact l3 j a) hsw.1 hsw.2 l7 (l8.mv fun j => pby_SWp)
  unfold m_rpl RLo
  rw [mk_RSn h hTb, playL_app, LGL_app, mk1_m.2.2.2.1, mk1_m.2.2.2.2]
  refine ⟨p.1, ⟨o.2, p.2⟩, fun y hy => ?_, ?_⟩
  · rcases List.mem_append.mp hy with z | z
    · exact Int.le_trans (r2.mv mk1_pby y z) h6.2.2
    · exact l8.mv mk1_pby y z
  · rw [List.length_append]
    have : (LVl μ A).length = lvN μ A := plist_len _ _ _
    unfold lvN at this
    omega
theorem TX.mk1 (h : MKo μ M ρ G PL A) (hTb : TB μ (M + 1) (m_mk1 μ g A)) : TX μ (RHk ρ (A 124 μ.1 0) (m_playL (LVl μ A) (SWp (ρ (A 126 μ.1 0)) A))) G (PLk PL (A 124 μ.1 0)) (m_mk1 μ g A) ∧ LIV μ G (m_playL (LVl μ A) (SWp (ρ (A 126 μ.1 0)) A)) (m_mk1 μ g A) := by
  obtain ⟨h1, h2, h3, h4, h5, h6⟩ := id h
  obtain ⟨⟨l1, l2, l3, l4, l5, l6⟩, ⟨l7, l8, l9⟩, l10, l11, l12⟩ := id h2
  obtain ⟨⟨⟨hE, hP0, hN, hR, hDJ, hPR⟩, hBK⟩, hX⟩ := id h1
  have hI := h1.1.1
  obtain ⟨e0, e1, e2, e3⟩ := id hE
  have h124 := h3.1
  have hcur := hE.cur h3
  obtain ⟨m1, m2, m3⟩ := mk_rpl h hTb
  obtain ⟨v216, v217, v218, v219, v220, v221, v222, v223, v224, v225⟩ := mk1_v (μ := μ) (g := g) (A := A)
  obtain ⟨v126, v124, v125, v122, v123⟩ := mk1_m (μ := μ) (g := g) (A := A)
  have hlo : ∀ k, alv μ A k → k ≠ A 124 μ.1 0 := fun k ha => by have := ha.1; omega
  have h6' : bPb (m_mk1 μ g A) := fun j a => by rw [mk1_pby]; exact l3 j a
  have hb' : bB (m_mk1 μ g A) := l2.cong fun i => mk1_n (by decide)
  have hnew : (SB 1 (m_playL (LVl μ A) (SWp (ρ (A 126 μ.1 0)) A))) := (SB_L _ _ m3.2.1 m3.2.2 l7).1
  have e126 : alv μ (m_mk1 μ g A) (A 126 μ.1 0) := (alv_mk h124.1).mpr (Or.inl hcur)
  refine ⟨⟨⟨⟨⟨?_, ?_, fun k k0 k1 k2 => ?_, ?_⟩, ?_, fun k k0 ha => ?_, fun k ha => ?_, fun k k' q ha ha' hq hq' => ?_, ?_⟩, fun j j0 j1 => ?_⟩, fun k ha => ?_⟩, ?_⟩
  · rw [mk1_o (by decide) (by omega)]; exact e0
  · rw [v126]; exact v216
  · have ha := (alv_mk (g := g) h124.1).mp ⟨⟨by omega, k1⟩, k2⟩
    rcases ha with ha | ha
    · have hpk := h3.plp (k := k) ⟨k0, ha.1.2⟩
      rw [mk1_o (by decide) (hlo k ha), mk1_o (by decide) (by omega)]
      exact e2 k k0 ha.1.2 ha.2
    · rw [ha, v217, mk1_o (by decide) (by have := hcur.1; omega)]; exact hcur.2
  · rw [mk1_o (by decide) (by omega)]; exact e3
  · rw [PLk_o (by omega)]; exact hP0
  · rcases (alv_mk h124.1).mp ha with hb | hb
    · have hkn := hlo k hb
      obtain ⟨n1, ⟨N, n2, n3⟩, n4, n5, n6⟩ := hN k k0 hb
      have hlt := hI.lt h3 hb
      unfold NKd
      rw [PLk_o hkn, mk1_o (by decide) hkn, mk1_o (by decide) hkn, mk1_o (by decide) hkn, v122]
      refine ⟨CHL.app (lim := A 122 μ.1 0) (fun i _ _ => mk1_n (by decide)) _ _ n1 (fun c q hq hc => mk1_o (by omega) (by have := (hlt q hq).2; omega)) n6, ⟨N, n2, fun q hq => ?_⟩, n4, n5, fun q hq => ?_⟩
      · rw [mk1_o (by decide) (by have := (hlt q (by rw [n2]; exact List.mem_append_left _ hq)).2; omega)]; exact n3 q hq
      · have := (hlt q hq).2
        rw [mk1_o (by decide) (by omega), mk1_o (by decide) (by omega)]; have := n6 q hq; omega
    · subst hb
      unfold NKd
      rw [PLk_s, v221, v222, v217, v122]
      refine ⟨⟨rfl, ⟨h124.1, by omega⟩, ?_, ?_, fun i i0 i1 => ?_, v223⟩, ⟨[], rfl, fun q hq => absurd hq List.not_mem_nil⟩, rfl, ?_, fun q hq => ?_⟩
      · rw [v218, v220]; omega
      · rw [v219]; omega
      · rw [v218] at i0 i1
        rw [v220] at i1
        rw [mk1_n (by decide)]
        obtain ⟨t', ht⟩ := plist_mem (b := A) (lvN μ A) (A 122 μ.1 0) (A 123 μ.1 0) i i0 (by unfold lvN; omega)
        exact LGL_rng _ _ l7 _ ht
      · have := hcur.1
        show (1 : Int) ≤ _; omega
      · rw [List.mem_singleton] at hq
        subst hq
        rw [v218, v220]; omega
  · rcases (alv_mk h124.1).mp ha with hb | hb
    · exact (m1 k hb).2
    · subst hb; exact m2.2
  · rcases (alv_mk h124.1).mp ha with hb | hb
    · have hkn := hlo k hb
      rw [PLk_o hkn] at hq
      have hlt := (hI.lt h3 hb q hq).2
      rcases (alv_mk h124.1).mp ha' with hb' | hb'
      · rw [PLk_o (hlo k' hb')] at hq'
        exact hDJ k k' q hb hb' hq hq'
      · rw [hb', PLk_s, List.mem_singleton] at hq'; omega
    · rcases (alv_mk h124.1).mp ha' with hb' | hb'
      · rw [hb, PLk_s, List.mem_singleton] at hq
        rw [PLk_o (hlo k' hb')] at hq'
        have hlt := (hI.lt h3 hb' q hq').2
        omega
      · rw [hb, hb']
  · unfold PRT
    rw [v124, v122]
    refine ⟨fun q q0 q1 => ?_, fun q q' q0 q1 q2 => ?_⟩
    · by_cases c : q = A 124 μ.1 0
      · rw [c, v218, v220]; omega
      · rw [mk1_o (by decide) c, mk1_o (by decide) c]; have := hPR.1 q q0 (by omega); omega
    · have hqn : q ≠ A 124 μ.1 0 := by omega
      rw [mk1_o (by decide) hqn, mk1_o (by decide) hqn]
      by_cases c : q' = A 124 μ.1 0
      · rw [c, v218]; exact (hPR.1 q q0 (by omega)).2
      · rw [mk1_o (by decide) c]; exact hPR.2 q q' q0 q1 (by omega)
  · rw [mk1_n (by decide)]
    exact (hBK j j0 j1).imp id fun z => (alv_mk h124.1).mpr (Or.inl z)
  · have hU : ∀ V, Unt A V → Unt (m_mk1 μ g A) V := fun V hV r r0 r1 r2 => hV r r0 r1 (by rw [mk1_n (by decide)] at r2; exact r2)
    rcases (alv_mk h124.1).mp ha with hb | hb
    · have hkn := hlo k hb
      obtain ⟨⟨x1, x2, x3⟩, x4⟩ := hX k hb
      rw [RHk_o hkn]
      refine ⟨⟨x1.trans (m1 k hb).1, x2, hU _ x3⟩, fun hk => ?_⟩
      obtain ⟨p1, p2, p3, p4, p5, p6⟩ := hI.par h3 (by omega) h5 l2 l3 hb hk
      rw [PLk_o hkn, mk1_o (by decide) hkn]
      exact GNo_eq (P := A 123 μ.1 0) (lim := A 122 μ.1 0) (fun j _ _ => mk1_pby j) (fun i _ _ => mk1_n (by decide)) (fun _ _ _ => rfl) h6' (PL k) _ _ _ (hN k hk hb).1 (fun c q hq c1 c2 => mk1_o ⟨by omega, by omega⟩ (by have := (hI.lt h3 hb q hq).2; omega)) p6 p3 (m1 _ p4).1 pby_rpl pby_rpl p5.1 p5.2 p2 (x4 hk)
    · subst hb
      rw [RHk_s]
      refine ⟨⟨m2.1, hnew, hU _ l11⟩, fun _ => ?_⟩
      rw [PLk_s, v217]
      refine ⟨?_, trivial⟩
      rw [v218, v219, v220]
      exact GNl_eq (P := A 121 μ.1 0) (lim := A 120 μ.1 0) (fun j _ _ => mk1_pby j) (fun i _ _ => mk1_n (by decide)) (fun _ _ _ => rfl) _ _ _ _ _ l4.1 (by omega) l5 (fun j j0 j1 => l6 j j0 (by omega)) l8 m3.1 (fun j => pby_SWp) pby_rpl h6' m3.2.1 m3.2.2 l7 l12
  · have hz : lvN μ (m_mk1 μ g A) = 0 := by unfold lvN; rw [v122, mk1_n (by decide)]; omega
    have hL : LVl μ (m_mk1 μ g A) = [] := by unfold LVl; rw [hz]; rfl
    refine ⟨⟨hnew, hb', h6', ?_, ?_, fun j j0 j1 => ?_⟩, ⟨?_, ?_, ?_⟩, ?_, ?_, ?_⟩
    · rw [v122, mk1_n (by decide)]; omega
    · rw [v123]; omega
    · rw [v122] at j0; rw [mk1_n (by decide)] at j1; omega
    · rw [hL]; trivial
    · rw [hL]; exact fun y hy => absurd hy List.not_mem_nil
    · rw [hz]; show m_mk1 μ g A 123 μ.1 0 = m_mk1 μ g A 121 μ.1 0; rw [v123, mk1_n (by decide)]
    · rw [hL]
      show EQv _ 1 0 (SWp _ _) _
      refine (EQv.sw.trans (l10.mono fun r _ _ z => ?_)).trans (EQv.buf EQv.refl (fun c i c1 c2 => rfl) (fun c i c1 c2 => mk1_n (by omega)))
      have z : m_mk1 μ g A 211 0 r = 1 := z
      show A 211 0 r = 1
      rw [mk1_n (by decide)] at z; exact z
    · rw [hL]
      intro r r0 r1 r2
      rw [mk1_n (by decide)] at r2
      show SWp _ _ 204 0 (5 + r) = 0
      rw [SWp_s (by decide)]; exact l11 r r0 r1 r2
    · rw [hz]; trivial
end MKN
