/-! queries that read a node, and what the reference replays for them -/
section QRN
variable {γ : LC} {p : RP} {w A : Mm} {μ : MU} {f c k S P M r v i : Int} {L : List Int}
theorem CHB.rpl (h : CHB p μ f (lvL p μ A) w A) (hT : TB μ M A) (hM : M ≤ 600) (s1 : SB 1 A) (s0 : SB 0 A) (ha : alv μ A k) : CHB p μ f (lvL p μ (m_rpl μ (pl_ p) k A)) w (m_rpl μ (pl_ p) k A) := by
  have hb := h.2.2.b0
  have hQ := h.2.1.1.1.rq hT hM ha
  obtain ⟨R1, R2, R3⟩ := rpl_st (μ := μ) s1 hb.2.2.2 hQ.1
  have e : ∀ {c : Nat} {a i : Int}, (c < 200 ∨ 206 < c) ∧ c ≠ 240 ∧ c ≠ 127 ∧ c ≠ 226 → m_rpl μ (pl_ p) k A c a i = A c a i := fun z => rpl_at s1 hb.2.2.2 hQ.1 z
  have eL : lvL p μ (m_rpl μ (pl_ p) k A) = lvL p μ A := by unfold lvL; rw [e (by decide), e (by decide)]
  have h6 : bPb (m_rpl μ (pl_ p) k A) := hb.2.2.1.cong fun i => e (by decide)
  have hRL : RLm p μ f (lvL p μ A) w (m_rpl μ (pl_ p) k A) := by
    refine h.1.cA hb.1 s0.2.2.2.2.1 (AgO.of fun c a i z => e (by omega)) (fun i => e (by decide)) (e (by decide)) (fun j _ _ => e (by decide)) (fun c i x y i0 i1 => ?_)
    by_cases z : c ≤ 206
    · exact R3 c 0 i x z (Or.inl i1)
    · exact e (by omega)
  refine ⟨by rw [eL]; exact hRL, h.2.1.app hT hM s1 hb.2.2.2 hb.2.2.1 (TSx.of (fun c a i z => e (by omega)) (fun i _ _ => e (by decide)) (fun j _ _ => pby_cong (e (by decide)))) h6 (fun _ _ _ => rfl), ?_⟩
  · rw [e (c := 126) (by decide)]
    exact h.2.2.keep (e (by decide)) (e (by decide)) (e (by decide)) (e (by decide)) (fun j _ _ => e (by decide)) (fun j _ _ => pby_cong (e (by decide))) R2 h6 (fun r => e (by decide)) ((EQv.s0 s0.2.2.2.2.1 s0.2.2.2.1 s0.1 fun k' i z1 z2 i0 i1 => R3 k' 0 i z1 z2 (Or.inl i1)).mono fun _ _ _ _ => trivial)
theorem nodeOf_e (h : CHB p μ f (lvL p μ A) w A) (hT : TB μ M A) (n : Int) : nodeOf w f n = if isN μ n A then pn_ p n else 0 := h.1.fnd hT n
theorem isN_al {n : Int} (z : isN μ n A) : alv μ A n := ⟨by omega, z.2⟩
theorem nodeOf_n (h : CHB p μ f (lvL p μ A) w A) (hWI : WI w) (hT : TB μ M A) (n : Int) : nodeOf w f n ≠ 0 ↔ isN μ n A := by
  rw [nodeOf_e h hT]
  constructor
  · intro z
    apply Classical.byContradiction
    intro y; rw [if_neg y] at z; exact z rfl
  · intro z
    rw [if_pos z]
    have := h.1.pos hWI (isN_al z); omega
theorem ndt_of (h : CHB p μ f (lvL p μ A) w A) (hT : TB μ M A) (ha : alv μ A k) : NDt w (pn_ p k) := by
  have tN := h.1.nd ha
  refine ⟨tN.2.1.1.toST, tN.2.1.2.1.toSZ, tN.2.1.2.toSE, tN.2.2.1.1.1, ?_⟩
  rw [tN.2.2.2.1.1]
  by_cases z : A 217 0 k = -1
  · exact Or.inl (if_pos z)
  · rw [if_neg z]
    have k0 : k ≠ 0 := fun e => z (by rw [e]; exact hT.p0)
    exact Or.inr (h.1.tg5 (hT.par h.2.1.1.1.1 ha k0).1).1
theorem hN_of (h : CHB p μ f (lvL p μ A) w A) (hWI : WI w) (hT : TB μ M A) (n : Int) : nodeOf w f n ≠ 0 → NDt w (nodeOf w f n) := fun z => by
  have hn := (nodeOf_n h hWI hT n).mp z
  rw [nodeOf_e h hT, if_pos hn]; exact ndt_of h hT (isN_al hn)
theorem trt_of (h : CHB p μ f (lvL p μ A) w A) (hWI : WI w) (hT : TB μ M A) : TRt w (w 45 f 0) := h.1.toTR hWI hT h.2.1.1.1.1 h.2.1.1.2
theorem nb_of (h : CHB p μ f (lvL p μ A) w A) (hWI : WI w) (ha : alv μ A k) : nb w (pn_ p k) = k := by
  unfold nb; rw [if_neg (by have := h.1.pos hWI ha; omega)]; exact (h.1.tg5 ha).2
theorem q_parentOf (h : CHB p μ f (lvL p μ A) w A) (hWI : WI w) (hR : RB μ S P M A) (hM : M ≤ 598) (hc : IR c) : KI γ 8 mX12_parentOf [rv f, .int (I c)] w 1 6 (QP μ f w (o_parentOf μ c A)) (QX1 μ f w (o_parentOf μ c A) "java/lang/IndexOutOfBoundsException") := by
  have hT := hR.2.1.2.2.2.1
  have nn := nodeOf_n h hWI hT c
  refine (kX12_parentOf9 γ w f c h.1.toF.1 (trt_of h hWI hT) (hN_of h hWI hT c) hc).imp (fun r w' z => ?_) (fun E w' z => ?_)
  · obtain ⟨z1, z2, z3⟩ := z
    have hn := nn.mp z1
    rw [z3]; unfold o_parentOf m_ti; rw [if_pos hn, if_pos hn]
    refine h.q0 hR hM ?_
    have ha := isN_al hn
    rw [z2, nodeOf_e h hT, if_pos hn, (h.1.nd ha).2.2.2.1.1]
    by_cases y : A 217 0 c = -1
    · rw [if_pos y, y]; rfl
    · rw [if_neg y]
      have k0 : c ≠ 0 := fun e => y (by rw [e]; exact hT.p0)
      exact nb_of h hWI (hT.par h.2.1.1.1.1 ha k0).1
  · obtain ⟨z1, z2, z3⟩ := z
    have hn : ¬ isN μ c A := fun y => nn.mpr y z2
    rw [z3, z1]; unfold o_parentOf m_ti; rw [if_neg hn, if_neg hn]
    exact h.q1 hR hM _
theorem szL_len (hl : ∀ q ∈ L, 0 ≤ A 220 0 q) : ((ixN A L).length : Int) = szL A L := by
  induction L with
  | nil => rfl
  | cons x xs ih =>
    have h0 := hl x List.mem_cons_self
    simp only [ixN, szL, List.length_append, rng_len]
    rw [← ih (fun q hq => hl q (List.mem_cons_of_mem _ hq))]
    omega
theorem q_stepsOf (h : CHB p μ f (lvL p μ A) w A) (hWI : WI w) (hR : RB μ S P M A) (hM : M ≤ 598) (hc : IR c) : KI γ 8 mX12_stepsOf [rv f, .int (I c)] w 1 6 (QP μ f w (o_stepsOf μ (pl_ p) c A)) (QX1 μ f w (o_stepsOf μ (pl_ p) c A) "java/lang/IndexOutOfBoundsException") := by
  have hT := hR.2.1.2.2.2.1
  have nn := nodeOf_n h hWI hT c
  refine (kX12_stepsOf9 γ w f c h.1.toF.1 (trt_of h hWI hT) (hN_of h hWI hT c) hc).imp (fun r w' z => ?_) (fun E w' z => ?_)
  · obtain ⟨z1, z2, z3⟩ := z
    have hn := nn.mp z1
    rw [z3]; unfold o_stepsOf m_ti; rw [if_pos hn, if_pos hn]
    refine h.q0 hR hM ?_
    have ha := isN_al hn
    rw [z2, nodeOf_e h hT, if_pos hn, (h.1.nd ha).2.2.1.2.2.2.1, List.length_map]
    refine szL_len fun q hq => ?_
    have hq' := h.2.1.1.1.lt hT ha q hq
    exact (h.2.1.1.1.prt.1 q hq'.1 hq'.2).1.2
  · obtain ⟨z1, z2, z3⟩ := z
    have hn : ¬ isN μ c A := fun y => nn.mpr y z2
    rw [z3, z1]; unfold o_stepsOf m_ti; rw [if_neg hn, if_neg hn]
    exact h.q1 hR hM _
/-- a query that the reference answers by a replay -/
theorem CHB.qr (h : CHB p μ f (lvL p μ A) w A) (hR : RB μ S P M A) (hM : M ≤ 598) (ha : alv μ A k) {u : Int} : CHB p μ f (lvL p μ (m_rpl μ (pl_ p) k (up A 139 μ.1 0 u))) w (m_rpl μ (pl_ p) k (up A 139 μ.1 0 u)) ∧ m_rpl μ (pl_ p) k (up A 139 μ.1 0 u) 139 μ.1 0 = u ∧ EQv TA 1 1 (pr_ p k) (m_rpl μ (pl_ p) k (up A 139 μ.1 0 u)) ∧ (TB μ M (m_rpl μ (pl_ p) k (up A 139 μ.1 0 u)) ∧ SB 1 (m_rpl μ (pl_ p) k (up A 139 μ.1 0 u))) := by
  have h9 := h.o9 (v := u) hR hM
  have hR9 : RB μ S P M (up A 139 μ.1 0 u) := hR.o9
  have ha9 : alv μ (up A 139 μ.1 0 u) k := by unfold alv; rw [up_k _ (by decide), up_k _ (by decide)]; exact ha
  have hT9 := hR9.2.1.2.2.2.1
  have hQ := h9.2.1.1.1.rq hT9 (by omega) ha9
  have e : ∀ {c : Nat} {a i : Int}, (c < 200 ∨ 206 < c) ∧ c ≠ 240 ∧ c ≠ 127 ∧ c ≠ 226 → m_rpl μ (pl_ p) k (up A 139 μ.1 0 u) c a i = (up A 139 μ.1 0 u) c a i := fun z => rpl_at hR9.2.1.2.2.1 h9.2.2.b0.2.2.2 hQ.1 z
  refine ⟨h9.rpl hT9 (by omega) hR9.2.1.2.2.1 hR9.1.1 ha9, by rw [e (by decide), up_s], (h9.2.1.2 k ha9).1.1, ?_, (rpl_st hR9.2.1.2.2.1 h9.2.2.b0.2.2.2 hQ.1).1⟩
  have q := hT9
  unfold TB bTn at q ⊢
  simp (disch := decide) only [e]; exact q
theorem q_lengthByReplay (h : CHB p μ f (lvL p μ A) w A) (hWI : WI w) (hR : RB μ S P M A) (hM : M ≤ 598) (hc : IR c) : KI γ 8 mX12_lengthByReplay [rv f, .int (I c)] w 1 6 (QP μ f w (o_lengthByReplay μ (pl_ p) c A)) (QX1 μ f w (o_lengthByReplay μ (pl_ p) c A) "java/lang/IndexOutOfBoundsException") := by
  have hT := hR.2.1.2.2.2.1
  have nn := nodeOf_n h hWI hT c
  refine (kX12_lengthByReplay9 γ w f c h.1.toF.1 (trt_of h hWI hT) (hN_of h hWI hT c) hc).imp (fun r w' z => ?_) (fun E w' z => ?_)
  · obtain ⟨z1, z2, z3⟩ := z
    have hn := nn.mp z1
    have ha := isN_al hn
    obtain ⟨q1, q2, q3, -⟩ := h.qr hR hM ha (u := 0)
    rw [z3]; unfold o_lengthByReplay m_ti; rw [if_pos hn, if_pos hn]
    refine ⟨?_, q2, p, q1, UPG.refl⟩
    rw [z2, nodeOf_e h hT, if_pos hn, (h.1.nd ha).2.1.2.1.1]
    exact q3.1
  · obtain ⟨z1, z2, z3⟩ := z
    have hn : ¬ isN μ c A := fun y => nn.mpr y z2
    rw [z3, z1]; unfold o_lengthByReplay m_ti; rw [if_neg hn, if_neg hn]
    exact h.q1 hR hM _
theorem q_charByReplay (h : CHB p μ f (lvL p μ A) w A) (hWI : WI w) (hR : RB μ S P M A) (hM : M ≤ 598) (hc : IR c) (hi : IR i) : KI γ 8 mX12_charByReplay [rv f, .int (I c), .int (I i)] w 2 12 (QP μ f w (o_charByReplay μ (pl_ p) c i A)) (QX1 μ f w (o_charByReplay μ (pl_ p) c i A) "java/lang/IndexOutOfBoundsException") := by
  have hT := hR.2.1.2.2.2.1
  have nn := nodeOf_n h hWI hT c
  refine (kX12_charByReplay9 γ w f c i h.1.toF.1 (trt_of h hWI hT) (hN_of h hWI hT c) hc hi).imp (fun r w' z => ?_) (fun E w' z => ?_)
  · obtain ⟨⟨z1, z4⟩, z2, z3⟩ := z
    have hn := nn.mp z1
    have ha := isN_al hn
    obtain ⟨q1, q2, q3, q4, q5⟩ := h.qr hR hM ha (u := 0)
    have vN := (h.1.nd ha).2.1.2
    rw [nodeOf_e h hT, if_pos hn] at z2 z4
    have z5 := z4.2
    rw [vN.1.1, q3.1] at z5
    rw [z3]; unfold o_charByReplay m_ti m_th; rw [if_pos hn, if_pos hn, if_pos (by omega)]
    refine ⟨?_, up_s _ _ _ _ _, p, q1.o34 q4 (by omega) q5 (by decide), UPG.refl⟩
    rw [z2, vN.1.2.2.1 i z4.1 z4.2, q3.2.1 i z4.1 (by rw [q3.1]; exact z5), show (400 : Int) * 1 + i = 400 + i by omega]
  · obtain ⟨z1, z2, z3⟩ := z
    by_cases hn : isN μ c A
    · have ha := isN_al hn
      obtain ⟨q1, q2, q3, q4, q5⟩ := h.qr hR hM ha (u := 0)
      have vN := (h.1.nd ha).2.1.2
      have z4 : ¬ (0 ≤ i ∧ i < w 67 (w 24 (nodeOf w f c) 0) 0) := fun y => z2 ⟨nn.mpr hn, y⟩
      rw [nodeOf_e h hT, if_pos hn, vN.1.1, q3.1] at z4
      rw [z3, z1]; unfold o_charByReplay m_ti m_th; rw [if_pos hn, if_pos hn, if_neg (by omega)]
      exact ⟨rfl, up_s _ _ _ _ _, p, q1.o34 q4 (by omega) q5 (by decide), UPG.refl⟩
    · rw [z3, z1]; unfold o_charByReplay m_ti; rw [if_neg hn, if_neg hn]
      exact h.q1 hR hM _
theorem q_markByReplay (h : CHB p μ f (lvL p μ A) w A) (hWI : WI w) (hR : RB μ S P M A) (hM : M ≤ 598) (hc : IR c) (hi : IR i) : KI γ 8 mX12_markByReplay [rv f, .int (I c), .int (I i)] w 2 12 (QP μ f w (o_markByReplay μ (pl_ p) c i A)) (QX1 μ f w (o_markByReplay μ (pl_ p) c i A) "java/lang/IndexOutOfBoundsException") := by
  have hT := hR.2.1.2.2.2.1
  have nn := nodeOf_n h hWI hT c
  refine (kX12_markByReplay9 γ w f c i h.1.toF.1 (trt_of h hWI hT) (hN_of h hWI hT c) hc hi).imp (fun r w' z => ?_) (fun E w' z => ?_)
  · obtain ⟨⟨z1, z4⟩, z2, z3⟩ := z
    have hn := nn.mp z1
    have ha := isN_al hn
    obtain ⟨q1, q2, q3, -⟩ := h.qr hR hM ha (u := 0)
    rw [nodeOf_e h hT, if_pos hn] at z2
    rw [z3]; unfold o_markByReplay m_th; rw [if_pos ⟨hn, by omega, by omega⟩]
    refine ⟨?_, q2, p, q1, UPG.refl⟩
    rw [z2, ((h.1.nd ha).2.1.2.1.2.2.2 i z4.1 z4.2).1, (q3.2.2.1 i z4.1 z4.2).1, show (6 : Int) * 1 + i = 6 + i by omega]
  · obtain ⟨z1, z2, z3⟩ := z
    have hn : ¬ (isN μ c A ∧ 0 ≤ i ∧ i ≤ 5) := fun y => z2 ⟨nn.mpr y.1, by omega, by omega⟩
    rw [z3, z1]; unfold o_markByReplay m_th; rw [if_neg hn]
    exact h.q1 hR hM _
end QRN
