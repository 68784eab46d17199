/-! going to a node -/
section GTN
variable {p : RP} {w w1 w2 w' W A A' B : Mm} {μ : MU} {f k M S P x : Int} {L : List Int} {PL : Int → List Int} {ρ : Int → Mm} {G : Int → Int → Int} {c : Int → Int}
/-- the current node is another, all else the same -/
theorem TX.cur (h : TX μ ρ G PL A) (hT : TB μ M A) (hM : M ≤ 600) (s1 : SB 1 A) (s2 : bB A) (hpb : bPb A) (e : ∀ (c : Nat) (a i : Int), c ≠ 126 → A' c a i = A c a i) (ha : alv μ A (A' 126 μ.1 0)) : TX μ ρ G PL A' := by
  obtain ⟨⟨⟨hE, hP0, hN, hR, hDJ, hPR⟩, hBK⟩, hX⟩ := id h
  have hI := h.1.1
  have al : ∀ k, alv μ A' k ↔ alv μ A k := fun k => by unfold alv; rw [e 124 _ _ (by decide), e 216 _ _ (by decide)]
  have eR : ∀ k, RSx PL k A' = RSx PL k A := fun k => RSx.cong fun c a i z => e c a i (by omega)
  have epb : ∀ j, pby A' j = pby A j := fun j => pby_cong (e _ _ _ (by decide))
  have h6 : bPb A' := hpb.cong fun i => e _ _ _ (by decide)
  have mv : ∀ k, alv μ A k → EQv TA 1 1 (m_rpl μ PL k A) (m_rpl μ PL k A') ∧ LGL (RSx PL k A') (m_rp0 μ k A') := fun k hk => by
    obtain ⟨r1, r2, r3⟩ := hR k hk
    have o := rpl_mv (A' := A') (k' := k) s1 s2 h6 (fun j _ _ => epb j) r1 r2
    unfold m_rpl
    rw [eR]; exact o
  refine ⟨⟨⟨?_, hP0, fun k k0 hk => ?_, fun k hk => ?_, fun k k' q hk hk' => hDJ k k' q ((al k).mp hk) ((al k').mp hk'), ?_⟩, fun j j0 j1 => ?_⟩, fun k hk => ?_⟩
  · obtain ⟨e0, e1, e2, e3⟩ := id hE
    refine ⟨by rw [e _ _ _ (by decide)]; exact e0, by rw [e 216 _ _ (by decide)]; exact ha.2, fun k k0 k1 k2 => ?_, by rw [e _ _ _ (by decide)]; exact e3⟩
    rw [e 124 _ _ (by decide)] at k1
    rw [e 216 _ _ (by decide)] at k2
    rw [e 217 _ _ (by decide), e 216 _ _ (by decide)]
    exact e2 k k0 k1 k2
  · have hb := (al k).mp hk
    obtain ⟨n1, ⟨N, n2, n3⟩, n4, n5, n6⟩ := hN k k0 hb
    unfold NKd
    rw [e 221 _ _ (by decide), e 222 _ _ (by decide), e 217 _ _ (by decide), e 122 _ _ (by decide)]
    refine ⟨n1.cong fun c a i z => e c a i (by omega), ⟨N, n2, fun q hq => by rw [e _ _ _ (by decide)]; exact n3 q hq⟩, n4, n5, fun q hq => ?_⟩
    rw [e 218 _ _ (by decide), e 220 _ _ (by decide)]; exact n6 q hq
  · have hb := (al k).mp hk
    obtain ⟨r1, r2, r3⟩ := hR k hb
    refine ⟨(mv k hb).2, ?_, ?_⟩
    · rw [eR, e 123 _ _ (by decide)]; exact r2.mv epb
    · rw [eR, e 122 _ _ (by decide)]; exact r3
  · unfold PRT
    rw [e 124 _ _ (by decide), e 122 _ _ (by decide)]
    refine ⟨fun q q0 q1 => ?_, fun q q' q0 q1 q2 => ?_⟩
    · rw [e 218 _ _ (by decide), e 220 _ _ (by decide)]; exact hPR.1 q q0 q1
    · rw [e 218 0 q (by decide), e 220 _ _ (by decide), e 218 0 q' (by decide)]; exact hPR.2 q q' q0 q1 q2
  · rw [e 227 _ _ (by decide)]
    exact (hBK j j0 j1).imp id (al _).mpr
  · have hb := (al k).mp hk
    obtain ⟨⟨x1, x2, x3⟩, x4⟩ := hX k hb
    refine ⟨⟨x1.trans (mv k hb).1, x2, fun r r0 r1 r2 => x3 r r0 r1 (by rw [e 211 _ _ (by decide)] at r2; exact r2)⟩, fun hk => ?_⟩
    obtain ⟨p1, p2, p3, p4, p5, p6⟩ := hI.par hT hM s1 s2 hpb hb hk
    rw [e 217 _ _ (by decide)]
    exact GNo_eq (P := A 123 μ.1 0) (lim := A 122 μ.1 0) (fun j _ _ => epb j) (fun i _ _ => e _ _ _ (by decide)) (fun _ _ _ => rfl) h6 (PL k) _ _ _ (hN k hk hb).1 (fun c q _ c1 c2 => e c _ _ (by omega)) p6 p3 (mv _ p4).1 pby_rpl pby_rpl p5.1 p5.2 p2 (x4 hk)
/-- what the reference has after going -/
theorem wks_EQ (s1 : SB 1 A) (s2 : bB A) (hQ : RQ μ PL k A) :
    (EQv (fun r => A 211 0 r = 1) 1 0 (m_rpl μ PL k A) (m_wks μ PL k A)) ∧
    ∀ (k' : Nat) (j : Int), 200 ≤ k' → k' ≤ 206 → m_wks μ PL k A k' 0 j = m_cpy (fun s => decide (A 211 0 s = 1)) 0 1 (m_rpl μ PL k A) k' 0 j := by
  obtain ⟨r1, r2, r3⟩ := rpl_st (μ := μ) s1 s2 hQ.1
  have key : ∀ (k' : Nat) (j : Int), 200 ≤ k' → k' ≤ 206 → m_wks μ PL k A k' 0 j = m_cpy (fun s => decide (A 211 0 s = 1)) 0 1 (m_rpl μ PL k A) k' 0 j := fun k' j z1 z2 => by
    unfold m_wks m_cpy m_cpQ
    rw [up_k _ (by omega), up_k _ (by omega), up_k _ (by omega), up_k _ (by omega)]
    rw [cpP_at (by omega), cpP_at (by omega), cpP_at (by omega), cpP_at (by omega)]
  refine ⟨?_, key⟩
  have hl := r1.1
  unfold bL1 at hl
  refine ⟨?_, fun i i0 i1 => ?_, fun i i0 i1 => ?_, fun r r0 r1' hr => ?_⟩
  · rw [key _ _ (by decide) (by decide), cpy_201, if_pos rfl]
  · rw [key _ _ (by decide) (by decide), cpy_200, if_pos (by omega)]; congr 1; omega
  · rw [key _ _ (by decide) (by decide), key _ _ (by decide) (by decide), cpy_202, cpy_203, if_pos (by omega), if_pos (by omega)]
    rw [show 6 * 0 + i - 6 * 0 + 6 * 1 = 6 * 1 + i by omega]
    exact ⟨rfl, fun _ => rfl⟩
  · have c4 := r1.2.2.2.1 (5 * 1 + r) (by omega) (by omega)
    have e4 : m_wks μ PL k A 204 0 (5 * 0 + r) = m_rpl μ PL k A 204 0 (5 * 1 + r) := by
      rw [key _ _ (by decide) (by decide), cpy_204, if_pos ⟨by omega, by omega, decide_eq_true (by rw [show 5 * 0 + r - 5 * 0 = r by omega]; exact hr)⟩]; congr 1; omega
    refine ⟨e4.symm, fun x x0 x1 => ?_⟩
    have x4 : x ≤ 3 := by omega
    have c5 := r1.2.2.2.2.1 (20 * 1 + 4 * r + x) (by omega) (by omega)
    have e5 : m_wks μ PL k A 205 0 (20 * 0 + 4 * r + x) = m_rpl μ PL k A 205 0 (20 * 1 + 4 * r + x) := by
      rw [key _ _ (by decide) (by decide), cpy_205, if_pos ⟨by omega, by omega, decide_eq_true (by rw [show (20 * 0 + 4 * r + x - 20 * 0) / 4 = r by omega]; exact hr)⟩]; congr 1; omega
    refine ⟨e5.symm, fun j j0 j1 => ?_⟩
    rw [key _ _ (by decide) (by decide), cpy_206, if_pos ⟨by omega, by omega, decide_eq_true (by rw [show (400 * 0 + 80 * r + 20 * x + j - 400 * 0) / 80 = r by omega]; exact hr)⟩]; congr 1; omega
/-- the live desk's state is another: the relation but for its steps -/
theorem RLm.tks (h : RLm p μ f L w A) (hl : 0 ≤ A 122 μ.1 0 ∧ A 122 μ.1 0 ≤ A 120 μ.1 0) (u : UPd (pc_ p) (SDb 10 (A 122 μ.1 0)) w W) (h0 : ∀ a, W 0 a 0 = 0 → w 0 a 0 = 0) (hb : bDk W (w 41 f 0)) (hA : AgO μ A A') (h232 : ∀ i, A' 232 0 i = A 232 0 i) (e120 : A' 120 μ.1 0 = A 120 μ.1 0) (h212 : ∀ k, 0 ≤ k → k < A 120 μ.1 0 → A' 212 0 k = A 212 0 k)
    (hv : vDk (pc_ p) W (w 41 f 0) A' 0) (hQ : vQs W (w 12 (w 41 f 0) 0) L) (e12 : W 12 (w 41 f 0) 0 = w 12 (w 41 f 0) 0) : RLm p μ f L W A' := by
  obtain ⟨hO, hLs, ⟨hV, hQ0, hLc⟩, hSp⟩ := id h
  have hf := hO.2.1.1
  have hst : ∀ b k, SDb 10 (A 122 μ.1 0) b k → STd (A 122 μ.1 0) b k := SDb.std (Or.inl rfl)
  have e41 : W 41 f 0 = w 41 f 0 := ed_fr hf u hst hl.1 (by decide)
  have e46 : W 46 f 0 = w 46 f 0 := ed_fr hf u hst hl.1 (by decide)
  have no0 : ∀ k : Nat, ¬ SDb 10 (A 122 μ.1 0) 0 k := fun k z => by unfold SDb at z; omega
  refine ⟨hO.fr (c' := pc_ p) (σ' := ps_ p) (G' := pg_ p) u CXt.refl hst hl.1 hA hSp hl.2 (fun _ _ _ => rfl) (fun x hx => hO.1 x (h0 x hx)) (hO.2.2.1.liv hf hl.1 u hb), ?_, ?_, fun k k0 k1 => ?_⟩
  · rw [e46]; exact hLs.fr u CXt.refl hst (fun k z => by unfold SDb at z; omega) hl.1 hA h232
  · unfold rLv
    rw [e41, e12, hA.1 122 (by decide) (by decide) (by decide)]
    exact ⟨hv, hQ, hLc⟩
  · rw [e120] at k1
    exact (hSp k k0 k1).fr u CXt.refl (fun y hy z => by unfold SDb at z; omega) no0 (h212 k k0 k1)
end GTN
