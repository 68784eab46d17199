/-! PTX and IVS after typing -/
section TYI
variable {p : RP} {w A A1 V R Ay B : Mm} {μ : MU} {f c S P M n0 p0 v0 : Int} {PL : Int → List Int} {ρ : Int → Mm} {G : Int → Int → Int}
theorem PTN.ext (g : PTN μ V) (h : EXo μ M ρ G PL V R Ay n0 p0 v0) (hT : TB μ M V) (h207 : V 207 0 0 ≤ V 201 0 0) : PTX μ Ay := by
  have hx := (TX.ext h).1
  have hV : TX μ ρ G PL V := h.1.1
  have hLV : LIV μ G (ρ (V 126 μ.1 0)) V := h.1.2.1
  have hTb : TB μ (M + 1) Ay := h.2.2.2.2.2.2
  have hA := h.2.2.2.2.2.1
  refine ⟨(PTN.ro hx hTb).mpr fun k ha => ?_, _, _, _, hx⟩
  have ha' : alv μ V k := by
    unfold alv at ha ⊢
    rw [h.o (by decide) (by decide), h.o (by decide) (by decide)] at ha
    exact ha
  unfold RHk
  by_cases z : k = V 126 μ.1 0
  · rw [if_pos z, hLV.2.2.1.1, hA, up_k _ (by decide), up_k _ (by decide), z, up_s]
    exact h207
  · rw [if_neg z]
    have e : Ay 224 0 k = V 224 0 k := by
      rw [hA, up_k _ (by decide), up_k _ (by decide), up_i _ _ _ _ _ _ z, up_k _ (by decide)]
      exact h.2.1.1 (by decide) (by decide) (by decide) (by decide) (by decide)
    rw [e]
    exact (PTN.ro hV hT).mp g k ha'
theorem MKo_ntf (t : TLn μ S P M A) (hS : S ≤ 29992) (hP : P ≤ 520000) (hM : M ≤ 599) (h1 : (m_ntf μ A).1 = 1) : ∃ ρ G PL, MKo μ M ρ G PL (m_ntf μ A).2 ∧ PTN μ (m_ntf μ A).2 := by
  obtain ⟨ρ, G, PL, hTX, hLV, ⟨hB, hK⟩, z, hl2⟩ := t
  have hl : 0 ≤ A 122 μ.1 0 ∧ A 122 μ.1 0 ≤ A 120 μ.1 0 := hLV.b0.1
  obtain ⟨hN, hB', hK', h01⟩ := ntf_rk hB hK
  obtain ⟨hts, hap⟩ := ntf_ts hB hK hl.2 hl2
  have hT := hK.2.2.2.1
  have hT' := hK'.2.2.2.1
  have e : ∀ (c : Nat) (a i : Int), c ≠ 200 → c ≠ 212 → c ≠ 120 → c ≠ 232 → c ≠ 233 → c ≠ 234 → (m_ntf μ A).2 c a i = A c a i := hN.2
  have hp6' : bPb (m_ntf μ A).2 := hLV.b0.2.2.1.cong fun i => by rw [e _ _ _ (by decide) (by decide) (by decide) (by decide) (by decide) (by decide)]
  have e126 : (m_ntf μ A).2 126 μ.1 0 = A 126 μ.1 0 := hts.1.2.1 126 (by decide) (by decide)
  have hOt := hK.2.2.2.2.2.1
  obtain ⟨G', g1, g2⟩ := hLV.ntf hK.2.2.2.2.1 (by omega) ⟨hB.2.2.2.2.2.1, by have := hB.2.2.2.2.2.2; omega⟩ hB.1.1 hOt h1
  have hX := hTX.app (G' := G') hT (by omega) hK.2.2.1 hB.2.2.1 hLV.b0.2.2.1 hts hp6' (fun k k0 k1 => g2 k k0 (by omega))
  have e122 : (m_ntf μ A).2 122 μ.1 0 = A 122 μ.1 0 := hts.1.2.1 122 (by decide) (by decide)
  have e123 : (m_ntf μ A).2 123 μ.1 0 = A 123 μ.1 0 := hts.1.2.1 123 (by decide) (by decide)
  have b1 := hB'.2.2.2.2.1
  have b2 := hB'.2.2.2.2.2
  have b3 := hap.1
  have b4 := hap.2.1
  exact ⟨ρ, G', PL, ⟨hX, by rw [e126]; exact g1, hT', hM, hK'.2.2.1, by omega, by rw [e123]; have := hB.2.2.2.2.2.2; omega, by rw [e123]; omega⟩, z.app hTX hT hT' (by omega) hK.2.2.1 hB.2.2.1 hLV.b0.2.2.1 hts hp6'⟩
/-- typing went on -/
theorem typ_ok (h : CHB p μ f (lvL p μ A) w A) (hIV : IVS μ A) (hR : RB μ S P M A) (hS : S ≤ 28900) (hP : P ≤ 500000) (hM : M ≤ 598) (g : PTN μ A) (hC : isC c) (hty : m_cty μ c A) (nf : ¬ m_full μ A) (hl : A 201 0 0 < 400) (hTY : TYb μ A p0 v0)
    (nq : (m_ntf μ (m_ex1 μ c (m_saves μ 2 (up A 139 μ.1 0 0)))).1 = 1) : IVS μ (o_insert μ c A).2 ∧ PTX μ (o_insert μ c A).2 := by
  have hR0 : RB μ S P M (up A 139 μ.1 0 0) := hR.o9
  have hc : 0 ≤ c ∧ c ≤ 126 := by omega
  have hcv : CV 0 c 0 := by unfold CV; omega
  have u9 : ∀ {cc : Nat} {x i : Int}, cc ≠ 139 → up A 139 μ.1 0 0 cc x i = A cc x i := fun z => up_k _ z _ _ _ _ _
  have hl0 : up A 139 μ.1 0 0 201 0 0 < 400 := by rw [u9 (by decide)]; exact hl
  have fr := fun (cc : Nat) (a i : Int) => ex_fr (cc := cc) (a := a) (i := i) hR0 hc hl0
  have hT1 := hTY.sav (v := 0)
  obtain ⟨⟨t1, t2⟩, ⟨t3, t4, t5, t6, t7⟩, t8, ⟨t9, t10, t11⟩, t12, t13⟩ := id hT1
  have hb1 := (cal_pre hR0).2.1.2.2.2.2.1
  have tA := ((TLn.o9 (v := 0) h hR hM g).1).sav (by omega)
  have s201 : m_saves μ 2 (up A 139 μ.1 0 0) 201 0 0 = A 201 0 0 := by rw [saves_eq, up_k _ (by decide), up_k _ (by decide), cpy_201, if_neg (by decide), u9 (by decide)]
  have hd : m_does μ 0 c 0 (m_saves μ 2 (up A 139 μ.1 0 0)) = (0, m_insC μ c (m_saves μ 2 (up A 139 μ.1 0 0))) := by rw [does_0, if_neg (by omega)]
  have tB := tA.does (by omega) (by omega) hcv (by decide)
  obtain ⟨⟨p1, p2⟩, ⟨b3, b4⟩, b5, b6, b7⟩ := cal_b hR0 hcv (by decide)
  rw [hd] at tB b3 b4
  dsimp only at tB b3 b4
  obtain ⟨en1, hSH⟩ := ex_ntf (c := c) (A1 := m_saves μ 2 (up A 139 μ.1 0 0)) hb1 b4
  have h220 : (m_ntf μ (m_ex1 μ c (m_saves μ 2 (up A 139 μ.1 0 0)))).2 220 0 ((m_ntf μ (m_ex1 μ c (m_saves μ 2 (up A 139 μ.1 0 0)))).2 126 μ.1 0) = 1 := by
    rw [fr 126 _ _ (by decide), fr 220 _ _ (by decide)]; exact t5
  obtain ⟨x1, -, -, -, x5⟩ := ext_b hR0 hS hP hc hl0 (by rw [u9 (by decide), u9 (by decide)]; exact ⟨hty.2.1, hty.2.2.1⟩) h220
  obtain ⟨⟨y1, y2⟩, y3, y4⟩ := x1 nq
  have ex5 := x5 nq
  obtain ⟨ρ, G, PL, hMK, hPN⟩ := MKo_ntf tB (by omega) (by omega) (by omega) (by rw [← en1]; exact nq)
  have l207 := VB_f p1.1.1 p1.2.1
  have hEX := EXo.mk hT1 (by omega) hb1 b3 b4 hMK y1
  have nV := (ntf_rk b3 b4).2.1
  have zP := hPN.ext hEX hMK.2.2.1 (VB_f nV.1.1 nV.2.1).2.1
  have lA : m_ex1 μ c (m_saves μ 2 (up A 139 μ.1 0 0)) 120 μ.1 0 = m_saves μ 2 (up A 139 μ.1 0 0) 120 μ.1 0 := ex1_at (by decide)
  have i207 : (m_ntf μ (m_insC μ c (m_saves μ 2 (up A 139 μ.1 0 0)))).2 207 0 0 = m_saves μ 2 (up A 139 μ.1 0 0) 207 0 0 + 1 := by
    rw [(ntf_rk b3 b4).1.2 _ _ _ (by decide) (by decide) (by decide) (by decide) (by decide) (by decide), insC_207]
  have i121 : (m_ntf μ (m_insC μ c (m_saves μ 2 (up A 139 μ.1 0 0)))).2 121 μ.1 0 = m_saves μ 2 (up A 139 μ.1 0 0) 121 μ.1 0 + 1 := by
    rw [(ntf_rk b3 b4).1.2 _ _ _ (by decide) (by decide) (by decide) (by decide) (by decide) (by decide), insC_121]
  have r207 : (m_ntf μ (m_ex1 μ c (m_saves μ 2 (up A 139 μ.1 0 0)))).2 207 0 0 = m_saves μ 2 (up A 139 μ.1 0 0) 207 0 0 + 1 := by
    rw [← i207]; exact hSH.1 (by decide) (by decide) (by decide) (by decide) (by decide)
  have r121 : (m_ntf μ (m_ex1 μ c (m_saves μ 2 (up A 139 μ.1 0 0)))).2 121 μ.1 0 = m_saves μ 2 (up A 139 μ.1 0 0) 121 μ.1 0 + 1 := by
    rw [← i121]; exact hSH.1 (by decide) (by decide) (by decide) (by decide) (by decide)
  have hR1 := hSH.2.1.2
  have l120 : 1 ≤ m_saves μ 2 (up A 139 μ.1 0 0) 120 μ.1 0 := by
    rw [saves_at (by decide), u9 (by decide)]; exact (hR.2.2.2 hty.2.2.1).1
  have r212 : (m_ntf μ (m_ex1 μ c (m_saves μ 2 (up A 139 μ.1 0 0)))).2 212 0 (m_saves μ 2 (up A 139 μ.1 0 0) 120 μ.1 0 - 1) = m_saves μ 2 (up A 139 μ.1 0 0) 212 0 (m_saves μ 2 (up A 139 μ.1 0 0) 120 μ.1 0 - 1) + 4096 := by
    rw [(AP.ntf (μ := μ) (w := m_ex1 μ c (m_saves μ 2 (up A 139 μ.1 0 0))) (fun i i0 i1 => by rw [ex1_at (by decide)]; exact hb1 i i0 i1)).2.2.1 _ (by omega) (by rw [lA]; omega)]
    unfold m_ex1
    rw [pool_at (by decide), up_s]
  have eA : ∀ {cc : Nat} {x i : Int}, cc ≠ 139 → cc < 200 ∨ (210 < cc ∧ cc ≠ 214 ∧ cc ≠ 215) → m_saves μ 2 (up A 139 μ.1 0 0) cc x i = A cc x i := fun z y => by rw [saves_at y, up_k _ z]
  rw [ins_T hC hty nf hl]
  have ef : m_in1 μ c (m_ext μ c (up A 139 μ.1 0 0)) = m_in3 μ c (up (m_rec μ 0 c 0 (up (up (exA μ (m_saves μ 2 (up A 139 μ.1 0 0) 120 μ.1 0) (m_ntf μ (m_ex1 μ c (m_saves μ 2 (up A 139 μ.1 0 0)))).2) 139 μ.1 0 0) 129 μ.1 0 (-1))) 129 μ.1 0 (if (m_ntf μ (m_ex1 μ c (m_saves μ 2 (up A 139 μ.1 0 0)))).2 120 μ.1 0 = m_saves μ 2 (up A 139 μ.1 0 0) 120 μ.1 0 then (m_ntf μ (m_ex1 μ c (m_saves μ 2 (up A 139 μ.1 0 0)))).2 126 μ.1 0 else -1)) := by
    rw [ex5, in1_ok h220]
  rw [ef]
  have h6 : bPb (exA μ (m_saves μ 2 (up A 139 μ.1 0 0) 120 μ.1 0) (m_ntf μ (m_ex1 μ c (m_saves μ 2 (up A 139 μ.1 0 0)))).2) := (hEX.1.2.1.b0.2.2.1).cong fun i => hEX.o (by decide) (by decide)
  obtain ⟨R, hRd⟩ : ∃ R, R = (m_ntf μ (m_ex1 μ c (m_saves μ 2 (up A 139 μ.1 0 0)))).2 := ⟨_, rfl⟩
  obtain ⟨A1, hA1⟩ : ∃ A1, A1 = m_saves μ 2 (up A 139 μ.1 0 0) := ⟨_, rfl⟩
  rw [← hRd] at fr h220 y1 y2 y3 y4 zP hR1 r207 r121 r212 h6 ⊢
  rw [← hA1] at fr y1 y2 y3 y4 zP hR1 r207 r121 r212 h6 eA t1 t2 t3 t4 t5 t6 t7 t8 t11 t12 t13 l120 ⊢
  have r126 : R 126 μ.1 0 = A1 126 μ.1 0 := fr _ _ _ (by decide)
  have ea : ∀ {cc : Nat} {x i : Int}, cc ≠ 220 → cc ≠ 224 → cc ≠ 122 → cc ≠ 123 → exA μ (A1 120 μ.1 0) R cc x i = R cc x i := fun z1 z2 z3 z4 => by unfold exA; rw [up_k _ z4, up_k _ z3, up_k _ z2, up_k _ z1]
  have a220 : ∀ q, exA μ (A1 120 μ.1 0) R 220 0 q = if q = R 126 μ.1 0 then 1 + (R 120 μ.1 0 - A1 120 μ.1 0) else R 220 0 q := fun q => by
    unfold exA
    rw [up_k _ (by decide), up_k _ (by decide), up_k _ (by decide)]
    by_cases z : q = R 126 μ.1 0
    · rw [if_pos z, z, up_s]
    · rw [if_neg z, up_i _ _ _ _ _ _ z]
  have a122 : exA μ (A1 120 μ.1 0) R 122 μ.1 0 = R 120 μ.1 0 := by unfold exA; rw [up_k _ (by decide), up_s]
  have a123 : exA μ (A1 120 μ.1 0) R 123 μ.1 0 = R 121 μ.1 0 := by unfold exA; rw [up_s]
  obtain ⟨K, hK9⟩ : ∃ K, K = (if R 120 μ.1 0 = A1 120 μ.1 0 then R 126 μ.1 0 else -1) := ⟨_, rfl⟩
  rw [← hK9]
  have ef2 : ∀ {cc : Nat} {y i : Int}, cc ≠ 235 ∧ cc ≠ 236 ∧ cc ≠ 139 ∧ cc ≠ 129 ∧ cc ≠ 130 ∧ cc ≠ 131 → (m_in3 μ c (up (m_rec μ 0 c 0 (up (up (exA μ (A1 120 μ.1 0) R) 139 μ.1 0 0) 129 μ.1 0 (-1))) 129 μ.1 0 K)).2 cc y i = exA μ (A1 120 μ.1 0) R cc y i := fun {cc y i} z => by
    show up (up (up (m_rec μ 0 c 0 (up (up (exA μ (A1 120 μ.1 0) R) 139 μ.1 0 0) 129 μ.1 0 (-1))) 129 μ.1 0 K) 130 μ.1 0 0) 131 μ.1 0 c cc y i = _
    rw [up_k _ z.2.2.2.2.2, up_k _ z.2.2.2.2.1, up_k _ z.2.2.2.1, INS_ca3 ⟨z.1, z.2.1, z.2.2.1, z.2.2.2.1⟩]
  have e9 : (m_in3 μ c (up (m_rec μ 0 c 0 (up (up (exA μ (A1 120 μ.1 0) R) 139 μ.1 0 0) 129 μ.1 0 (-1))) 129 μ.1 0 K)).2 129 μ.1 0 = K := by
    show up (up (up _ 129 μ.1 0 K) 130 μ.1 0 0) 131 μ.1 0 c 129 μ.1 0 = K
    rw [up_k _ (by decide), up_k _ (by decide), up_s]
  have rA : ∀ {cc : Nat} {x i : Int}, (cc < 200 ∨ (210 < cc ∧ cc ≠ 214 ∧ cc ≠ 215)) ∧ cc ≠ 139 ∧ cc ≠ 120 ∧ cc ≠ 121 ∧ cc ≠ 212 ∧ cc ≠ 213 ∧ cc ≠ 232 ∧ cc ≠ 233 ∧ cc ≠ 234 → R cc x i = A cc x i := fun z => by
    rw [fr _ _ _ (by omega), eA (by omega) (by omega)]
  obtain ⟨n1, n2, n3, n4⟩ := hIV.1
  have hnX : IVn μ (exA μ (A1 120 μ.1 0) R) := by
    refine ⟨fun q q0 q1 => ?_, fun t a b => ?_, ?_, fun j j0 j1 => ?_⟩
    · rw [a220]
      split
      · omega
      · rw [rA (by decide)]
        rw [ea (by decide) (by decide) (by decide) (by decide), rA (by decide)] at q1
        exact n1 q q0 q1
    · rw [ea (cc := 244) (by decide) (by decide) (by decide) (by decide), ea (cc := 245) (by decide) (by decide) (by decide) (by decide), rA (cc := 244) (by decide), rA (cc := 245) (by decide)]; exact n2 t a b
    · rw [ea (by decide) (by decide) (by decide) (by decide), rA (by decide)]; exact n3
    · rw [ea (by decide) (by decide) (by decide) (by decide), rA (by decide)]; exact n4 j j0 j1
  refine ⟨⟨hnX.cg fun cc y i z => ef2 (by omega), fun z => ?_⟩, zP.fld y1 (by omega) y3 y2 h6 (fun cc y i z => ef2 (by omega))⟩
  rw [e9] at z ⊢
  by_cases zz : R 120 μ.1 0 = A1 120 μ.1 0
  · rw [if_pos zz] at hK9
    have e219 : R 219 0 (R 126 μ.1 0) = A1 219 0 (A1 126 μ.1 0) := by rw [r126]; exact fr _ _ _ (by decide)
    have e218 : R 218 0 (R 126 μ.1 0) = A1 218 0 (A1 126 μ.1 0) := by rw [r126]; exact fr _ _ _ (by decide)
    have e221 : R 221 0 (R 126 μ.1 0) = A1 126 μ.1 0 := by rw [r126, fr _ _ _ (by decide)]; exact t3
    have e223 : R 223 0 (R 126 μ.1 0) = -1 := by rw [r126, fr _ _ _ (by decide)]; exact t4
    have e124 : R 124 μ.1 0 = A1 124 μ.1 0 := fr _ _ _ (by decide)
    refine ⟨⟨?_, ?_⟩, p0, v0 + 1, ?_⟩
    · rw [ef2 (by decide), ea (by decide) (by decide) (by decide) (by decide), rA (by decide)]; exact hty.1
    · rw [ef2 (by decide), ea (by decide) (by decide) (by decide) (by decide)]; exact hK9
    · unfold TYb
      simp (disch := decide) only [ef2, ea, a220, a122, a123]
      rw [if_pos trivial, e221, e223, e218, e219, e124, zz, r207, r121, r212, r126]
      refine ⟨⟨?_, ?_⟩, ⟨?_, ?_, ?_, ?_, ?_⟩, ?_, ⟨?_, ?_, ?_⟩, ?_, ?_⟩ <;> first | trivial | omega
  · rw [if_neg zz] at hK9
    exact absurd hK9 z
end TYI
