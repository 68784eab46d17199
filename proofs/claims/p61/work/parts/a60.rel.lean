/-! a merge keeps the tree's facts -/
section MRH
variable {μ : MU} {M x y k p z q m P k' : Int} {A A' b b' : Mm} {PL : Int → List Int} {i j : Int}
theorem CHL_o (h2 : ∀ i, b' 212 0 i = b 212 0 i) (e : ∀ (c : Nat) (x : Int), 218 ≤ c → c ≤ 220 → b' c 0 x = b c 0 x) (e3 : ∀ x, x ≠ z → b' 223 0 x = b 223 0 x) : ∀ (Q : List Int) (p : Int), CHL m b p Q → z ∉ Q → CHL m b' p Q
  | [], _, h, _ => h
  | x :: xs, p, ⟨h1, h3, h4, h5, h6, h7⟩, hz => by
    have hx : x ≠ z := fun e => hz (by rw [e]; exact List.mem_cons_self)
    refine ⟨h1, h3, ?_, ?_, fun i i0 i1 => ?_, ?_⟩
    · rw [e 218 x (by decide) (by decide), e 220 x (by decide) (by decide)]; exact h4
    · rw [e 219 x (by decide) (by decide)]; exact h5
    · rw [e 218 x (by decide) (by decide)] at i0 i1
      rw [e 220 x (by decide) (by decide)] at i1
      rw [h2]; exact h6 i i0 i1
    · rw [e3 x hx]; exact CHL_o h2 e e3 xs _ h7 (fun h => hz (List.mem_cons_of_mem _ h))
theorem CHL_join (h2 : ∀ i, b' 212 0 i = b 212 0 i) (e : ∀ (c : Nat) (x : Int), 218 ≤ c → c ≤ 220 → b' c 0 x = b c 0 x) (e3 : ∀ x, x ≠ z → b' 223 0 x = b 223 0 x) (ez : b' 223 0 z = q) {Q : List Int} (hQ : CHL m b q Q) (hz : z ∉ Q) : ∀ (N : List Int) (p : Int), CHL m b p (N ++ [z]) → z ∉ N → CHL m b' p (N ++ [z] ++ Q)
  | [], p, ⟨h1, h3, h4, h5, h6, _⟩, _ => by
    refine ⟨h1, h3, ?_, ?_, fun i i0 i1 => ?_, ?_⟩
    · rw [e 218 z (by decide) (by decide), e 220 z (by decide) (by decide)]; exact h4
    · rw [e 219 z (by decide) (by decide)]; exact h5
    · rw [e 218 z (by decide) (by decide)] at i0 i1
      rw [e 220 z (by decide) (by decide)] at i1
      rw [h2]; exact h6 i i0 i1
    · rw [ez]; exact CHL_o h2 e e3 Q q hQ hz
  | x :: xs, p, ⟨h1, h3, h4, h5, h6, h7⟩, hn => by
    have hx : x ≠ z := fun e => hn (by rw [e]; exact List.mem_cons_self)
    refine ⟨h1, h3, ?_, ?_, fun i i0 i1 => ?_, ?_⟩
    · rw [e 218 x (by decide) (by decide), e 220 x (by decide) (by decide)]; exact h4
    · rw [e 219 x (by decide) (by decide)]; exact h5
    · rw [e 218 x (by decide) (by decide)] at i0 i1
      rw [e 220 x (by decide) (by decide)] at i1
      rw [h2]; exact h6 i i0 i1
    · rw [e3 x hx]; exact CHL_join h2 e e3 ez hQ hz xs _ h7 (fun h => hn (List.mem_cons_of_mem _ h))
theorem nodeL_ap2 : ∀ X Y : List Int, nodeL b (X ++ Y) = nodeL b X ++ nodeL b Y
  | [], _ => rfl
  | x :: xs, Y => by
    show _ ++ nodeL b (xs ++ Y) = (_ ++ nodeL b xs) ++ _
    rw [nodeL_ap2 xs Y, List.append_assoc]
theorem BDp.mv {L : List (Int × Int)} (h : BDp P b L) (e : ∀ j, pby b' j = pby b j) : BDp P b' L := fun y hy => by rw [play_1 (w := b') (b := b) e]; exact h y hy
/-- a replay hangs on its words alone -/
theorem rpl_mv {L : List (Int × Int)} (s1 : SB 1 A) (s2 : bB A) (h6 : bPb A') (hp : PAg P A A') (g : LGL L (m_rp0 μ k A)) (hb : BDp P A L) : EQv TA 1 1 (m_playL L (m_rp0 μ k A)) (m_playL L (m_rp0 μ k' A')) ∧ LGL L (m_rp0 μ k' A') := by
  have q0 := rp0_SB (μ := μ) (x := k) s1 s2
  exact playL_eq L _ _ rp0_eq (P := P) (fun j a b => by rw [pby_rp0, pby_rp0]; exact hp j a b) (fun j a => by rw [pby_rp0]; exact h6 j a) q0.1 q0.2 g (hb.mv fun j => pby_rp0)
def PLm (PL : Int → List Int) (x y : Int) : Int → List Int := fun k => if k = y then PL x ++ PL y else PL k
theorem alv_mrg (g : MGx μ A x y) : alv μ (m_mrg1 μ x A) k ↔ alv μ A k ∧ k ≠ x := by
  unfold alv
  rw [mrg1_o (by decide), mrg1_216]
  by_cases c : k = x
  · rw [if_pos c]; exact ⟨fun h => absurd h.2 (by decide), fun h => absurd c h.2⟩
  · rw [if_neg c]; exact ⟨fun h => ⟨h, c⟩, fun h => h.1⟩
theorem mrg_nodeL (L : List Int) : nodeL (m_mrg1 μ x A) L = nodeL A L := nodeL_cong (fun c a i h => mrg1_o (by omega)) L
theorem mrg_pby (j : Int) : pby (m_mrg1 μ x A) j = pby A j := by unfold pby; rw [mrg1_o (by decide)]
theorem RSx_mrg (h : TI μ PL A) (hT : TB μ M A) (g : MGx μ A x y) (hTb : TB μ M (m_mrg1 μ x A)) : ∀ (n : Nat) (k : Int), k < n → alv μ (m_mrg1 μ x A) k → RSx (PLm PL x y) k (m_mrg1 μ x A) = RSx PL k A
  | 0, k, hk, ha => by have := ha.1; omega
  | n + 1, k, hk, ha => by
    have hb := (alv_mrg g).mp ha
    obtain ⟨⟨a1, a2, a3⟩, ⟨b1, b2, b3⟩, b4, b5, b6⟩ := id g
    by_cases c0 : k = 0
    · subst c0; rw [RSx_0 hT, RSx_0 hTb]
    · have hk1 : 1 ≤ k ∧ k < A 124 μ.1 0 := by have := hb.1.1; omega
      have hk2 : 1 ≤ k ∧ k < m_mrg1 μ x A 124 μ.1 0 := by rw [mrg1_o (by decide)]; exact hk1
      rw [hTb.rsp hk2, hT.rsp hk1, mrg_nodeL, mrg1_217]
      by_cases cy : k = y
      · rw [if_pos (by rw [cy]; exact b5)]
        have e : PLm PL x y k = PL x ++ PL k := by unfold PLm; rw [if_pos cy, cy]
        have hpx := hT.plp (k := x) ⟨a1, by omega⟩
        have hax : alv μ (m_mrg1 μ x A) (A 217 0 x) := (alv_mrg g).mpr ⟨⟨⟨by omega, by omega⟩, h.1.2.2.1 x a1 (by omega) b1⟩, by omega⟩
        rw [RSx_mrg h hT g hTb n _ (by omega) hax, e, nodeL_ap2, show A 217 0 k = x by rw [cy]; exact b3, hT.rsp ⟨a1, by omega⟩, List.append_assoc]
      · rw [if_neg (by rw [← b5]; exact cy)]
        have e : PLm PL x y k = PL k := by unfold PLm; rw [if_neg cy]
        have hpk := hT.plp hk1
        have hne : A 217 0 k ≠ x := fun z => cy (g.one hk1 hb.1.2 z)
        have hax : alv μ (m_mrg1 μ x A) (A 217 0 k) := (alv_mrg g).mpr ⟨⟨⟨by omega, by omega⟩, h.1.2.2.1 k hk1.1 hk1.2 hb.1.2⟩, hne⟩
        rw [RSx_mrg h hT g hTb n _ (by omega) hax, e]
theorem TI.mrg1 (h : TI μ PL A) (hT : TB μ M A) (g : MGx μ A x y) (hTb : TB μ M (m_mrg1 μ x A)) (s1 : SB 1 A) (s2 : bB A) (h6 : bPb A) :
    TI μ (PLm PL x y) (m_mrg1 μ x A) ∧ ∀ k, alv μ (m_mrg1 μ x A) k → RSx (PLm PL x y) k (m_mrg1 μ x A) = RSx PL k A ∧ EQv TA 1 1 (m_rpl μ PL k A) (m_rpl μ (PLm PL x y) k (m_mrg1 μ x A)) := by
  have hRS := fun k => RSx_mrg h hT g hTb (k + 1).toNat k (by omega)
  obtain ⟨hE, h0, hN, hR, hDJ, hPR⟩ := id h
  obtain ⟨e0, e1, e2, e3⟩ := id hE
  obtain ⟨⟨a1, a2, a3⟩, ⟨b1, b2, b3⟩, b4, b5, b6⟩ := id g
  obtain ⟨nx1, ⟨Mx, nx2, nx3⟩, nx4, nx5, nx6⟩ := hN x a1 ⟨⟨by omega, by omega⟩, b1⟩
  obtain ⟨ny1, ⟨My, ny2, ny3⟩, ny4, ny5, ny6⟩ := hN y (by omega) ⟨⟨by omega, by omega⟩, b2⟩
  have hxM : x ∉ Mx := fun z => by have := nx3 x z; omega
  have hxy : x ∉ PL y := fun z => by
    rw [ny2] at z
    rcases List.mem_append.mp z with z | z
    · have := ny3 x z; omega
    · rw [List.mem_singleton] at z; omega
  have o1 : ∀ (c : Nat) (q : Int), 218 ≤ c → c ≤ 220 → m_mrg1 μ x A c 0 q = A c 0 q := fun c q c1 c2 => mrg1_o (by omega)
  have o2 : ∀ i, m_mrg1 μ x A 212 0 i = A 212 0 i := fun i => mrg1_o (by decide)
  have o3 : ∀ q, q ≠ x → m_mrg1 μ x A 223 0 q = A 223 0 q := fun q hq => by rw [mrg1_223, nx4, if_neg hq]
  have hmv : ∀ k, alv μ (m_mrg1 μ x A) k → EQv TA 1 1 (m_rpl μ PL k A) (m_rpl μ (PLm PL x y) k (m_mrg1 μ x A)) ∧ RLo μ (PLm PL x y) (m_mrg1 μ x A) k := fun k ha => by
    obtain ⟨r1, r2, r3⟩ := hR k ((alv_mrg g).mp ha).1
    have o := rpl_mv (A' := m_mrg1 μ x A) (k' := k) s1 s2 (fun j a => by rw [mrg_pby]; exact h6 j a) (fun j _ _ => mrg_pby j) r1 r2
    unfold m_rpl RLo
    rw [hRS k ha]
    exact ⟨o.1, o.2, by rw [mrg1_o (by decide)]; exact r2.mv mrg_pby, by rw [mrg1_o (by decide)]; exact r3⟩
  refine ⟨⟨⟨?_, ?_, fun k k0 k1 k2 => ?_, ?_⟩, ?_, fun k k0 ha => ?_, fun k ha => (hmv k ha).2, fun k k' q ha ha' hq hq' => ?_, ?_⟩, fun k ha => ⟨hRS k ha, (hmv k ha).1⟩⟩
  · rw [mrg1_216, if_neg (by omega)]; exact e0
  · rw [mrg1_216, mrg1_o (by decide), if_neg (fun z => b6.1 z.symm)]; exact e1
  · rw [mrg1_o (by decide)] at k1
    have hb := (alv_mrg g).mp ⟨⟨by omega, by rw [mrg1_o (by decide)]; exact k1⟩, k2⟩
    rw [mrg1_217, mrg1_216]
    by_cases cy : k = m_nwst μ x A
    · rw [if_pos cy, if_neg (by have := hT.plp (k := x) ⟨a1, by omega⟩; omega)]
      exact e2 x a1 (by omega) b1
    · rw [if_neg cy, if_neg (fun z => cy (by rw [← b5]; exact g.one ⟨k0, k1⟩ hb.1.2 z))]
      exact e2 k k0 k1 hb.1.2
  · rw [mrg1_221, if_neg (by omega)]; exact e3
  · unfold PLm; rw [if_neg (by omega)]; exact h0
  · have hb := (alv_mrg g).mp ha
    unfold NKd
    by_cases cy : k = y
    · subst cy
      have e : PLm PL x k k = Mx ++ [x] ++ PL k := by unfold PLm; rw [if_pos rfl, nx2]
      rw [e]
      refine ⟨?_, ⟨Mx ++ [x] ++ My, by rw [ny2, List.append_assoc, List.append_assoc, List.append_assoc], fun q hq => ?_⟩, by rw [mrg1_o (by decide)]; exact ny4, ?_, fun q hq => ?_⟩
      · rw [mrg1_221, if_pos b5]
        exact CHL_join o2 o1 o3 (by rw [mrg1_223, nx4, if_pos rfl, ← b5]) ny1 hxy Mx _ (by rw [← nx2]; exact nx1) hxM
      · rw [mrg1_216]
        by_cases cq : q = x
        · rw [if_pos cq]
        · rw [if_neg cq]
          rcases List.mem_append.mp hq with z | z
          · rcases List.mem_append.mp z with z | z
            · exact nx3 q z
            · rw [List.mem_singleton] at z; exact absurd z cq
          · exact ny3 q z
      · rw [mrg1_217, if_pos b5, ← nx2, List.length_append]; omega
      · rw [o1 218 q (by decide) (by decide), o1 220 q (by decide) (by decide), mrg1_o (by decide)]
        rcases List.mem_append.mp hq with z | z
        · exact nx6 q (by rw [nx2]; exact z)
        · exact ny6 q z
    · obtain ⟨n1, ⟨Mk, n2, n3⟩, n4, n5, n6⟩ := hN k k0 hb.1
      have e : PLm PL x y k = PL k := by unfold PLm; rw [if_neg cy]
      rw [e]
      have hxk : x ∉ PL k := fun z => by
        rw [n2] at z
        rcases List.mem_append.mp z with z | z
        · have := n3 x z; omega
        · rw [List.mem_singleton] at z; exact hb.2 z.symm
      refine ⟨?_, ⟨Mk, n2, fun q hq => ?_⟩, by rw [mrg1_o (by decide)]; exact n4, ?_, fun q hq => ?_⟩
      · rw [mrg1_221, if_neg (by rw [← b5]; exact cy)]; exact CHL_o o2 o1 o3 _ _ n1 hxk
      · rw [mrg1_216]
        split
        · rfl
        · exact n3 q hq
      · rw [mrg1_217, if_neg (by rw [← b5]; exact cy)]; exact n5
      · rw [o1 218 q (by decide) (by decide), o1 220 q (by decide) (by decide), mrg1_o (by decide)]; exact n6 q hq
  · have key : ∀ k, alv μ (m_mrg1 μ x A) k → q ∈ PLm PL x y k → ∃ k0, alv μ A k0 ∧ q ∈ PL k0 ∧ (k0 = k ∨ (k0 = x ∧ k = y)) := fun k ha hq => by
      have hb := (alv_mrg g).mp ha
      unfold PLm at hq
      by_cases c : k = y
      · rw [if_pos c] at hq
        rcases List.mem_append.mp hq with z | z
        · exact ⟨x, ⟨⟨by omega, by omega⟩, b1⟩, z, Or.inr ⟨rfl, c⟩⟩
        · exact ⟨y, ⟨⟨by omega, by omega⟩, b2⟩, z, Or.inl c.symm⟩
      · rw [if_neg c] at hq
        exact ⟨k, hb.1, hq, Or.inl rfl⟩
    obtain ⟨k1, u1, u2, u3⟩ := key k ha hq
    obtain ⟨k2, v1, v2, v3⟩ := key k' ha' hq'
    have hk := hDJ k1 k2 q u1 v1 u2 v2
    have n1 := ((alv_mrg g).mp ha).2
    have n2 := ((alv_mrg g).mp ha').2
    omega
  · unfold PRT
    rw [mrg1_o (by decide), mrg1_o (by decide)]
    exact ⟨fun q q0 q1 => by rw [o1 218 q (by decide) (by decide), o1 220 q (by decide) (by decide)]; exact hPR.1 q q0 q1, fun q q' q0 q1 q2 => by rw [o1 218 q (by decide) (by decide), o1 220 q (by decide) (by decide), o1 218 q' (by decide) (by decide)]; exact hPR.2 q q' q0 q1 q2⟩
end MRH
