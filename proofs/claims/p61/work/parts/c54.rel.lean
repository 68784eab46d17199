/-! IVS and PTX where a listener refused what was typed; after insert -/
section TYN
variable {p : RP} {w A : Mm} {μ : MU} {f c S P M p0 v0 : Int}
theorem typ_no (h : CHB p μ f (lvL p μ A) w A) (hIV : IVS μ A) (hR : RB μ S P M A) (hS : S ≤ 28900) (hP : P ≤ 500000) (hM : M ≤ 598) (g : PTN μ A) (hC : isC c) (hty : m_cty μ c A) (nf : ¬ m_full μ A) (hl : A 201 0 0 < 400) (hTY : TYb μ A p0 v0)
    (nq : (m_ntf μ (m_ex1 μ c (m_saves μ 2 (up A 139 μ.1 0 0)))).1 = 0) : IVS μ (o_insert μ c A).2 ∧ PTX μ (o_insert μ c A).2 := by
  have hR0 : RB μ S P M (up A 139 μ.1 0 0) := hR.o9
  have hc : 0 ≤ c ∧ c ≤ 126 := by omega
  have hcv : CV 0 c 0 := by unfold CV; omega
  have u9 : ∀ {cc : Nat} {x i : Int}, cc ≠ 139 → up A 139 μ.1 0 0 cc x i = A cc x i := fun z => up_k _ z _ _ _ _ _
  have hl0 : up A 139 μ.1 0 0 201 0 0 < 400 := by rw [u9 (by decide)]; exact hl
  have fr := fun (cc : Nat) (a i : Int) => ex_fr (cc := cc) (a := a) (i := i) hR0 hc hl0
  have hT1 := hTY.sav (v := 0)
  obtain ⟨⟨t1, t2⟩, ⟨t3, t4, t5, t6, t7⟩, t8, ⟨t9, t10, t11⟩, t12, t13⟩ := id hT1
  have hb1 := (cal_pre hR0).2.1.2.2.2.2.1
  obtain ⟨p1, p2, p3⟩ := cal_pre hR0
  have tA := ((TLn.o9 (v := 0) h hR hM g).1).sav (by omega)
  have s201 : m_saves μ 2 (up A 139 μ.1 0 0) 201 0 0 = A 201 0 0 := by rw [saves_eq, up_k _ (by decide), up_k _ (by decide), cpy_201, if_neg (by decide), u9 (by decide)]
  have l1 : m_saves μ 2 (up A 139 μ.1 0 0) 201 0 0 < 400 := by omega
  have hd : m_does μ 0 c 0 (m_saves μ 2 (up A 139 μ.1 0 0)) = (0, m_insC μ c (m_saves μ 2 (up A 139 μ.1 0 0))) := by rw [does_0, if_neg (by omega)]
  have tB := tA.does (by omega) (by omega) hcv (by decide)
  obtain ⟨-, ⟨b3, b4⟩, b5, b6, b7⟩ := cal_b hR0 hcv (by decide)
  rw [hd] at tB b3 b4
  dsimp only at tB b3 b4
  obtain ⟨en1, hSH⟩ := ex_ntf (c := c) (A1 := m_saves μ 2 (up A 139 μ.1 0 0)) hb1 b4
  have h220 : (m_ntf μ (m_ex1 μ c (m_saves μ 2 (up A 139 μ.1 0 0)))).2 220 0 ((m_ntf μ (m_ex1 μ c (m_saves μ 2 (up A 139 μ.1 0 0)))).2 126 μ.1 0) = 1 := by
    rw [fr 126 _ _ (by decide), fr 220 _ _ (by decide)]; exact t5
  obtain ⟨-, -, -, x4, -⟩ := ext_b hR0 hS hP hc hl0 (by rw [u9 (by decide), u9 (by decide)]; exact ⟨hty.2.1, hty.2.2.1⟩) h220
  obtain ⟨ex4, y1, y2⟩ := x4 nq
  have hLO := LO.ex1 (μ := μ) (c := c) p1 l1
  have nE := ntf_rk (p1.ex1 hc l1) ((p2.lo hLO).mono (S' := S) (P' := P + 1) (by omega) (by omega))
  have lA : m_ex1 μ c (m_saves μ 2 (up A 139 μ.1 0 0)) 120 μ.1 0 = m_saves μ 2 (up A 139 μ.1 0 0) 120 μ.1 0 := ex1_at (by decide)
  have hap := AP.ntf (μ := μ) (w := m_ex1 μ c (m_saves μ 2 (up A 139 μ.1 0 0))) (fun i i0 i1 => by rw [ex1_at (by decide)]; exact hb1 i i0 i1)
  have eA : ∀ {cc : Nat} {x i : Int}, cc ≠ 139 → cc < 200 ∨ (210 < cc ∧ cc ≠ 214 ∧ cc ≠ 215) → m_saves μ 2 (up A 139 μ.1 0 0) cc x i = A cc x i := fun z y => by rw [saves_at y, up_k _ z]
  have e120 : m_saves μ 2 (up A 139 μ.1 0 0) 120 μ.1 0 = A 120 μ.1 0 := eA (by decide) (by decide)
  have r207 : (m_ntf μ (m_ex1 μ c (m_saves μ 2 (up A 139 μ.1 0 0)))).2 207 0 2 = A 207 0 0 := by
    rw [nE.1.2 _ _ _ (by decide) (by decide) (by decide) (by decide) (by decide) (by decide), hLO.1 207 _ _ (by decide) (by decide) (by decide), saves_eq, up_k _ (by decide), up_k _ (by decide), cpy_207, if_pos rfl, u9 (by decide)]
  have r214 : (m_ntf μ (m_ex1 μ c (m_saves μ 2 (up A 139 μ.1 0 0)))).2 214 0 2 = A 120 μ.1 0 := by rw [fr 214 _ _ (by decide), saves_214.1, u9 (by decide)]
  have r215 : (m_ntf μ (m_ex1 μ c (m_saves μ 2 (up A 139 μ.1 0 0)))).2 215 0 2 = A 121 μ.1 0 := by rw [fr 215 _ _ (by decide), saves_214.2, u9 (by decide)]
  have r212 : ∀ i, 0 ≤ i → i < A 120 μ.1 0 → i ≠ A 120 μ.1 0 - 1 → (m_ntf μ (m_ex1 μ c (m_saves μ 2 (up A 139 μ.1 0 0)))).2 212 0 i = A 212 0 i := fun i i0 i1 i2 => by
    rw [hap.2.2.1 i i0 (by rw [lA]; omega)]
    unfold m_ex1
    rw [pool_at (by decide), up_i _ _ _ _ _ _ (by omega), up_k _ (by decide), up_k _ (by decide), opens_at (by decide), eA (by decide) (by decide)]
  have x121 : A 121 μ.1 0 ≤ m_ex1 μ c (m_saves μ 2 (up A 139 μ.1 0 0)) 121 μ.1 0 := by
    unfold m_ex1
    have q := (AP.pool (v := c) (AP.r (μ := μ) (w := up (up (up (m_opens 0 (m_saves μ 2 (up A 139 μ.1 0 0) 207 0 0) 1 (m_saves μ 2 (up A 139 μ.1 0 0))) 200 0 (m_saves μ 2 (up A 139 μ.1 0 0) 207 0 0) c) 207 0 0 (m_saves μ 2 (up A 139 μ.1 0 0) 207 0 0 + 1)) 212 0 (m_saves μ 2 (up A 139 μ.1 0 0) 120 μ.1 0 - 1) (m_saves μ 2 (up A 139 μ.1 0 0) 212 0 (m_saves μ 2 (up A 139 μ.1 0 0) 120 μ.1 0 - 1) + 4096)))).2.1
    rw [up_k _ (by decide), up_k _ (by decide), up_k _ (by decide), opens_at (by decide), eA (by decide) (by decide)] at q
    exact q
  have xpb : ∀ j, 0 ≤ j → j < A 121 μ.1 0 → pby (m_ex1 μ c (m_saves μ 2 (up A 139 μ.1 0 0))) j = pby A j := fun j j0 j1 => by
    have q := (AP.pool (v := c) (AP.r (μ := μ) (w := up (up (up (m_opens 0 (m_saves μ 2 (up A 139 μ.1 0 0) 207 0 0) 1 (m_saves μ 2 (up A 139 μ.1 0 0))) 200 0 (m_saves μ 2 (up A 139 μ.1 0 0) 207 0 0) c) 207 0 0 (m_saves μ 2 (up A 139 μ.1 0 0) 207 0 0 + 1)) 212 0 (m_saves μ 2 (up A 139 μ.1 0 0) 120 μ.1 0 - 1) (m_saves μ 2 (up A 139 μ.1 0 0) 212 0 (m_saves μ 2 (up A 139 μ.1 0 0) 120 μ.1 0 - 1) + 4096)))).2.2.2 j j0 (by rw [up_k _ (by decide), up_k _ (by decide), up_k _ (by decide), opens_at (by decide), eA (by decide) (by decide)]; exact j1)
    refine q.trans (pby_cong ?_)
    rw [up_k _ (by decide), up_k _ (by decide), up_k _ (by decide), opens_at (by decide), eA (by decide) (by decide)]
  have h6 : bPb (m_ntf μ (m_ex1 μ c (m_saves μ 2 (up A 139 μ.1 0 0)))).2 := tB.x.2.2.2.2.cong fun i => by
    rw [← (ntf_rk b3 b4).1.2 213 0 i (by decide) (by decide) (by decide) (by decide) (by decide) (by decide)]
    exact hSH.1 (by decide) (by decide) (by decide) (by decide) (by decide)
  have rA : ∀ {cc : Nat} {x i : Int}, (cc < 200 ∨ (210 < cc ∧ cc ≠ 214 ∧ cc ≠ 215)) ∧ cc ≠ 139 ∧ cc ≠ 120 ∧ cc ≠ 121 ∧ cc ≠ 212 ∧ cc ≠ 213 ∧ cc ≠ 232 ∧ cc ≠ 233 ∧ cc ≠ 234 → (m_ntf μ (m_ex1 μ c (m_saves μ 2 (up A 139 μ.1 0 0)))).2 cc x i = A cc x i := fun z => by
    rw [fr _ _ _ (by omega), eA (by omega) (by omega)]
  rw [ex4] at y1
  have ef : m_in1 μ c (m_ext μ c (up A 139 μ.1 0 0)) = (0, up (m_ex3 μ (m_saves μ 2 (up A 139 μ.1 0 0) 212 0 (m_saves μ 2 (up A 139 μ.1 0 0) 120 μ.1 0 - 1)) (m_rest μ 2 1 (m_ntf μ (m_ex1 μ c (m_saves μ 2 (up A 139 μ.1 0 0)))).2)) 139 μ.1 0 2) := by
    rw [ex4]; unfold m_in1; rw [if_pos rfl]
  rw [ins_T hC hty nf hl, ef]
  dsimp only at y1 ⊢
  have hz := hR.2.2.1.2.2.1
  obtain ⟨last, hla⟩ : ∃ last, last = m_saves μ 2 (up A 139 μ.1 0 0) 212 0 (m_saves μ 2 (up A 139 μ.1 0 0) 120 μ.1 0 - 1) := ⟨_, rfl⟩
  have hla2 : last = A 212 0 (A 120 μ.1 0 - 1) := by rw [hla, e120]; exact eA (by decide) (by decide)
  rw [← hla] at y1 ⊢
  clear hla ex4 ef x4
  obtain ⟨R, hRd⟩ : ∃ R, R = (m_ntf μ (m_ex1 μ c (m_saves μ 2 (up A 139 μ.1 0 0)))).2 := ⟨_, rfl⟩
  have hpb : ∀ j, 0 ≤ j → j < A 121 μ.1 0 → pby R j = pby A j := fun j j0 j1 => by
    rw [hRd, hap.2.2.2 j j0 (by omega)]; exact xpb j j0 j1
  rw [← hRd] at r207 r214 r215 r212 h6 rA y1 ⊢
  have q120 : m_rest μ 2 1 R 120 μ.1 0 = A 120 μ.1 0 := by rw [rest_120.1]; exact r214
  have e : ∀ {cc : Nat} {x i : Int}, (cc < 200 ∨ (210 < cc ∧ cc ≠ 214 ∧ cc ≠ 215)) ∧ cc ≠ 139 ∧ cc ≠ 120 ∧ cc ≠ 121 ∧ cc ≠ 212 ∧ cc ≠ 213 ∧ cc ≠ 232 ∧ cc ≠ 233 ∧ cc ≠ 234 → up (m_ex3 μ last (m_rest μ 2 1 R)) 139 μ.1 0 2 cc x i = A cc x i := fun z => by
    unfold m_ex3
    rw [up_k _ (by omega), up_k _ (by omega), rest_at (by omega)]; exact rA z
  have e212 : ∀ i, 0 ≤ i → i < A 120 μ.1 0 → up (m_ex3 μ last (m_rest μ 2 1 R)) 139 μ.1 0 2 212 0 i = A 212 0 i := fun i i0 i1 => by
    unfold m_ex3
    rw [up_k _ (by decide), q120]
    by_cases z : i = A 120 μ.1 0 - 1
    · rw [z, up_s]; exact hla2
    · rw [up_i _ _ _ _ _ _ z, rest_at (by decide)]; exact r212 i i0 i1 z
  refine ⟨⟨hIV.1.cg fun cc y i z => e (by omega), hIV.2.tg hR.2.2.2 ⟨fun cc z => ?_, fun cc i z1 z2 => e (by omega), e212, ?_⟩⟩, ?_⟩
  · by_cases c0 : cc = 120
    · subst c0; unfold m_ex3; rw [up_k _ (by decide), up_k _ (by decide)]; exact q120
    · by_cases c1 : cc = 121
      · subst c1; unfold m_ex3; rw [up_k _ (by decide), up_k _ (by decide), rest_120.2]; exact r215
      · exact e (by omega)
  · unfold m_ex3; rw [up_k _ (by decide), up_k _ (by decide), rest_eq, up_k _ (by decide), up_k _ (by decide), cpy_207, if_pos rfl]; exact r207
  · refine PTX.app (M := M + 1) ⟨g, _, _, _, h.2.1⟩ (hR.mono (Int.le_refl S) (Int.le_refl P) (by omega)).2.1.2.2.2.1 (y1.cong fun cc a i q => up_k _ (by omega) _ _ _ _ _) (by omega) hR.2.1.2.2.1 hR.1.2.2.1 h.2.2.1.2.2.1 (TSx.of (fun cc a i q => e (by omega)) (fun i i0 i1 => e212 i i0 (by omega)) (fun j j0 j1 => ?_)) (h6.cong fun i => ?_)
    · refine (pby_cong ?_).trans (hpb j j0 (by omega))
      unfold m_ex3; rw [up_k _ (by decide), up_k _ (by decide), rest_at (by decide)]
    · unfold m_ex3; rw [up_k _ (by decide), up_k _ (by decide), rest_at (by decide)]
theorem ins_ok (h : CHB p μ f (lvL p μ A) w A) (hIV : IVS μ A) (hR : RB μ S P M A) (hS : S ≤ 28900) (hP : P ≤ 500000) (hM : M ≤ 598) (g : PTN μ A) : IVS μ (o_insert μ c A).2 ∧ PTX μ (o_insert μ c A).2 := by
  by_cases hC : isC c
  · by_cases hT : m_cty μ c A ∧ ¬ m_full μ A ∧ A 201 0 0 < 400
    · obtain ⟨-, p0, v0, hTY⟩ := hIV.2 hT.1.2.2.1
      have hR0 : RB μ S P M (up A 139 μ.1 0 0) := hR.o9
      have u9 : ∀ {cc : Nat} {x i : Int}, cc ≠ 139 → up A 139 μ.1 0 0 cc x i = A cc x i := fun z => up_k _ z _ _ _ _ _
      have hl0 : up A 139 μ.1 0 0 201 0 0 < 400 := by rw [u9 (by decide)]; exact hT.2.2
      have s201 : m_saves μ 2 (up A 139 μ.1 0 0) 201 0 0 = A 201 0 0 := by rw [saves_eq, up_k _ (by decide), up_k _ (by decide), cpy_201, if_neg (by decide), u9 (by decide)]
      have l1 : m_saves μ 2 (up A 139 μ.1 0 0) 201 0 0 < 400 := by have := hT.2.2; omega
      obtain ⟨p1, p2, p3⟩ := cal_pre hR0
      have hc : 0 ≤ c ∧ c ≤ 126 := by omega
      rcases (ntf_rk (p1.ex1 hc l1) ((p2.lo (LO.ex1 p1 l1)).mono (S' := S) (P' := P + 1) (by omega) (by omega))).2.2.2 with q | q
      · exact typ_no h hIV hR hS hP hM g hC hT.1 hT.2.1 hT.2.2 hTY q
      · exact typ_ok h hIV hR hS hP hM g hC hT.1 hT.2.1 hT.2.2 hTY q
    · exact ⟨IVo_insert_nt h hIV hR hS hP hM hC hT, PTo_insert_nt h hR hS hP hM g hC hT⟩
  · have e : o_insert μ c A = (0, m_ti μ (isC c) A) := by unfold o_insert; rw [if_neg hC]
    rw [e]
    exact ⟨hIV.o9 hR, h.p9 hR hM g⟩
end TYN
