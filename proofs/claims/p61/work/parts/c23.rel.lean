/-! insert: both ways lead to where the command is noted -/
section INK
variable {p : RP} {w w' w5 A A1 A3 B N X R Y : Mm} {μ : MU} {f c n k v S P M S' P' M'' p0 v0 : Int} {L : List Int} {ρ : Int → Mm} {G : Int → Int → Int} {PL : Int → List Int}
theorem mrgNE {i : Int} : ∀ (k : Nat) (j : Int) (B : Mm), (m_mrg μ k j B).2 220 0 i = B 220 0 i ∧ (m_mrg μ k j B).2 124 μ.1 0 = B 124 μ.1 0
  | 0, _, _ => ⟨rfl, rfl⟩
  | k + 1, j, B => by
    unfold m_mrg
    split
    · exact ⟨rfl, rfl⟩
    · obtain ⟨h1, h2⟩ := mrgNE (i := i) k (j + 1) (m_mrg1 μ (m_nxt μ B) B)
      rw [h1, h2]; exact ⟨mrg1_o (by decide), mrg1_o (by decide)⟩
theorem NE.cg (h : NE μ A) (e1 : B 124 μ.1 0 = A 124 μ.1 0) (e2 : ∀ q, B 220 0 q = A 220 0 q) : NE μ B := fun q q0 q1 => by rw [e2]; exact h q q0 (by rw [← e1]; exact q1)
theorem NE.mks {g : Int} (h : NE μ A) (hs : A 122 μ.1 0 < A 120 μ.1 0) : NE μ (m_mks μ g A) := fun q q0 q1 => by
  unfold m_mks m_mrgs at q1 ⊢
  rw [(mrgNE _ _ _).1]
  rw [(mrgNE (i := q) _ _ _).2, mk1_m.2.1] at q1
  by_cases c : q = A 124 μ.1 0
  · rw [c, mk1_v.2.2.2.2.1]; omega
  · rw [mk1_o (by decide) c]; exact h q q0 (by omega)
theorem insC_136 : m_insC μ c A 136 μ.1 0 = m_insC μ c A 201 0 0 := by
  unfold m_insC m_pt
  rw [up_s, up_k _ (show (201 : Nat) ≠ 136 by decide), up_k _ (show (201 : Nat) ≠ 207 by decide)]
theorem INJ.nt (hRB : RB μ S P M A) (hS : S ≤ 28900) (hP : P ≤ 500000) (hM : M ≤ 598) (hNE : NE μ A) (hC : isC c) (hT : ¬ (m_cty μ c A ∧ ¬ m_full μ A ∧ A 201 0 0 < 400)) (nf : ¬ m_full μ A)
    (hd : (m_does μ 0 c 0 (m_saves μ 2 (up A 139 μ.1 0 0))) = (0, m_insC μ c (m_saves μ 2 (up A 139 μ.1 0 0)))) (hTX : ∀ k, 1 ≤ k → alv μ (m_insC μ c (m_saves μ 2 (up A 139 μ.1 0 0))) k → m_insC μ c (m_saves μ 2 (up A 139 μ.1 0 0)) 222 0 k = k)
    (hE : m_ends μ 0 (m_insC μ c (m_saves μ 2 (up A 139 μ.1 0 0))) = (1, A3)) (h : CHB p μ f (lvL p μ A3) w5 A3) (hg : UPG f w w5) (h91 : w5 91 f 0 = m_insC μ c (m_saves μ 2 (up A 139 μ.1 0 0)) 136 μ.1 0) : INJ μ f c w A w5 := by
  have hR0 : RB μ S P M (up A 139 μ.1 0 0) := hRB.o9
  have hcv : CV 0 c 0 := by unfold CV; omega
  obtain ⟨-, ⟨b3, b4⟩, z1, b6, b7⟩ := cal_b hR0 hcv (by decide)
  have u9 : ∀ {cc : Nat} {x i : Int}, cc ≠ 139 → up A 139 μ.1 0 0 cc x i = A cc x i := fun z => up_k _ z _ _ _ _ _
  have nf0 : ¬ m_full μ (up A 139 μ.1 0 0) := by unfold m_full; rw [u9 (by decide), u9 (by decide)]; exact nf
  have ecal := cal_go (sort := 2) nf0 (by rw [hd])
  rw [hd] at ecal b3 b4 b6 b7
  dsimp only at ecal b3 b4 b6 b7
  obtain ⟨B, hB⟩ : ∃ B, B = m_insC μ c (m_saves μ 2 (up A 139 μ.1 0 0)) := ⟨_, rfl⟩
  rw [← hB] at hTX hE ecal b3 b4 b6 b7 h91
  have e0 : ∀ {cc : Nat} {x i : Int}, cc < 120 ∨ (122 ≤ cc ∧ cc ≤ 135) ∨ (216 ≤ cc ∧ cc ≤ 236) → B cc x i = A cc x i := fun z => by rw [hB, insC_at (by omega), saves_at (by omega), u9 (by omega)]
  have b120 : B 120 μ.1 0 = A 120 μ.1 0 + 1 := by rw [hB, insC_120.1, saves_at (by decide), u9 (by decide)]
  have h120 := hRB.2.2.1.2.2.1.1
  have hlt : B 122 μ.1 0 < B 120 μ.1 0 := by rw [e0 (by decide), b120]; omega
  have eok := ends_ok (g := 0) b3 b4 (by omega) (by decide) (by omega) (by omega)
  rw [hE] at eok ecal
  obtain ⟨o1, o2, o3⟩ := eok
  dsimp only at o1 o2 o3
  have ec : (m_cal μ 0 c 0 2 (up A 139 μ.1 0 0)).2 = m_rec μ 0 c 0 (up (up A3 139 μ.1 0 0) 129 μ.1 0 (-1)) := by rw [ecal]; unfold m_ca2; rw [if_neg (show ¬ (((1 : Int), A3).1 = 0) from by show ¬ ((1 : Int) = 0); decide)]; rfl
  have hz236 := (hRB.2.1.2.2.2.2.2.2 4 (by decide) (by decide)).1
  have key : w5 91 f 0 = A3 201 0 0 ∧ ((if A3 124 μ.1 0 > A 124 μ.1 0 ∧ A3 220 0 (A3 126 μ.1 0) = 1 ∧ A3 225 0 (A3 126 μ.1 0) = 0 then A3 126 μ.1 0 else -1) ≠ -1 ↔ (A3 132 μ.1 0 = 0 ∧ (ixN A3 (pl_ p (A3 126 μ.1 0))).length = 1)) := by
    by_cases h132 : B 132 μ.1 0 = 1 ∨ B 120 μ.1 0 = B 122 μ.1 0
    · rw [ends_0 h132] at hE
      have e3 : A3 = B := by injection hE with _ q; exact q.symm
      rw [e3]
      refine ⟨by rw [h91, hB, insC_136], ?_⟩
      rw [if_neg (by rw [e0 (by decide)]; omega)]
      refine ⟨fun z => absurd rfl z, fun z => ?_⟩
      omega
    · have h0 : B 132 μ.1 0 = 0 := by
        have := hRB.2.2.1.1
        rw [e0 (by decide)] at h132 ⊢
        omega
      have hn : (m_ntf μ B).1 = 1 := by
        rcases (ntf_rk b3 b4).2.2.2 with q | q
        · rw [ends_2 h0 (by omega) q] at hE; injection hE with q2; exact absurd q2 (by decide)
        · exact q
      rw [ends_1 h0 (by omega) hn] at hE
      have e3 : A3 = m_mks μ 0 (m_ntf μ B).2 := by injection hE with _ q; exact q.symm
      obtain ⟨nN, nB, nK, -⟩ := ntf_rk b3 b4
      have nx : ∀ {c : Nat} {a i : Int}, c ≠ 200 → c ≠ 212 → c ≠ 120 → c ≠ 232 → c ≠ 233 → c ≠ 234 → (m_ntf μ B).2 c a i = B c a i := fun z1 z2 z3 z4 z5 z6 => nN.2 _ _ _ z1 z2 z3 z4 z5 z6
      have n120 := ntf_120 b3 b4
      have f := nB.f
      obtain ⟨N, hN⟩ : ∃ N, N = (m_ntf μ B).2 := ⟨_, rfl⟩
      rw [← hN] at e3 nB nK nx n120 f
      have nl : N 122 μ.1 0 < N 120 μ.1 0 := by rw [nx (by decide) (by decide) (by decide) (by decide) (by decide) (by decide)]; omega
      have hTb : TB μ (M + 1) (m_mk1 μ 0 N) := nK.2.2.2.1.mk1 (by decide) (by have := nB.2.2.2.2.1; omega) (by have := nB.2.2.2.2.2; omega) (by have := nB.2.1.2.2.2; unfold bP at this; have := nB.1.1; have := f; omega)
      have hMI := MIx.mks (μ := μ) (A := N) (fun k k0 ka => by
        rw [nx (by decide) (by decide) (by decide) (by decide) (by decide) (by decide)]
        unfold alv at ka
        rw [nx (by decide) (by decide) (by decide) (by decide) (by decide) (by decide), nx (by decide) (by decide) (by decide) (by decide) (by decide) (by decide)] at ka
        exact hTX k k0 ka) nK.2.2.2.1 hTb
      rw [← e3] at hMI
      have hne : NE μ A3 := by
        rw [e3]
        exact NE.mks (hNE.cg (by rw [nx (by decide) (by decide) (by decide) (by decide) (by decide) (by decide), e0 (by decide)]) (fun q => by rw [nx (by decide) (by decide) (by decide) (by decide) (by decide) (by decide), e0 (by decide)])) nl
      have a124 : A3 124 μ.1 0 = N 124 μ.1 0 + 1 := by rw [e3]; unfold m_mks m_mrgs; rw [(mrgNE (i := 0) _ _ _).2, mk1_m.2.1]
      have n124 : N 124 μ.1 0 = A 124 μ.1 0 := by rw [nx (by decide) (by decide) (by decide) (by decide) (by decide) (by decide), e0 (by decide)]
      have hcur := h.2.1.1.1.1.cur o2.2.2.2.1
      have h1n : 1 ≤ N 124 μ.1 0 := hMI.1.2
      have ct := h.2.1.cnt o2.2.2.2.1 (n := N 124 μ.1 0) hMI.2.2.2 (by rw [← hMI.1.1]; exact hcur) h1n hne
      have a201 : A3 201 0 0 = B 201 0 0 := by
        rw [e3]; unfold m_mks m_mrgs
        rw [mrg_o (by decide), mk1_n (by decide), nx (by decide) (by decide) (by decide) (by decide) (by decide) (by decide)]
      refine ⟨by rw [h91, a201, hB, insC_136], ?_⟩
      rw [hMI.1.1, o3 132 _ _ (by decide), ct]
      by_cases z : A3 220 0 (N 124 μ.1 0) = 1 ∧ A3 225 0 (N 124 μ.1 0) = 0
      · rw [if_pos ⟨by omega, z⟩]; exact ⟨fun _ => ⟨h0, z⟩, fun _ => by omega⟩
      · rw [if_neg (fun y => z y.2)]; exact ⟨fun y => absurd rfl y, fun y => absurd y.2 z⟩
  refine ⟨p, A3, (if A3 124 μ.1 0 > A 124 μ.1 0 ∧ A3 220 0 (A3 126 μ.1 0) = 1 ∧ A3 225 0 (A3 126 μ.1 0) = 0 then A3 126 μ.1 0 else -1), M + 1, ⟨h, hg⟩, ⟨o2.2.2.2.1, by omega, o2.2.2.1⟩, fun y => ?_, key.1, ?_, key.2⟩
  · rw [o3 133 _ _ (by decide), b7 _ _ _ (by decide), u9 (by decide)] at y
    rw [o3 236 _ _ (by decide), b7 _ _ _ (by decide), u9 (by decide)]
    have : ¬ (A 236 0 4 = 16) := fun z => nf ⟨y, z⟩
    omega
  · rw [ins_NT hC hT, ec, in2_ok]
/-- what the reference's typing leaves alone -/
theorem ex_fr (hR : RB μ S P M A) (hc : 0 ≤ c ∧ c ≤ 126) (hl : A 201 0 0 < 400) {cc : Nat} {a i : Int} (h : (cc < 200 ∨ (202 < cc ∧ cc < 207) ∨ 209 < cc) ∧ cc ≠ 120 ∧ cc ≠ 121 ∧ cc ≠ 212 ∧ cc ≠ 213 ∧ cc ≠ 232 ∧ cc ≠ 233 ∧ cc ≠ 234) : (m_ntf μ (m_ex1 μ c (m_saves μ 2 A))).2 cc a i = m_saves μ 2 A cc a i := by
  obtain ⟨p1, p2, p3⟩ := cal_pre hR
  have l1 : m_saves μ 2 A 201 0 0 < 400 := by rw [saves_eq, up_k _ (by decide), up_k _ (by decide), cpy_201, if_neg (by decide)]; exact hl
  rw [(ntf_rk (p1.ex1 hc l1) ((p2.lo (LO.ex1 p1 l1)).mono (S' := S) (P' := P + 1) (by omega) (by omega))).1.2 _ _ _ (by omega) (by omega) (by omega) (by omega) (by omega) (by omega), ex1_at (by omega)]
theorem INJ.ty (hRB : RB μ S P M A) (hS : S ≤ 28900) (hP : P ≤ 500000) (hM : M ≤ 598) (hC : isC c) (hty : m_cty μ c A) (nf : ¬ m_full μ A) (hl : A 201 0 0 < 400) (hTY : TYb μ A p0 v0)
    (hK : RK μ S' P' M'' (m_insC μ c (m_saves μ 2 (up A 139 μ.1 0 0)))) (hN201 : (m_ntf μ (m_insC μ c (m_saves μ 2 (up A 139 μ.1 0 0)))).2 201 0 0 = m_insC μ c (m_saves μ 2 (up A 139 μ.1 0 0)) 201 0 0)
    (nq : (m_ntf μ (m_ex1 μ c (m_saves μ 2 (up A 139 μ.1 0 0)))).1 = 1)
    (h : CHB p μ f (lvL p μ (exA μ (m_saves μ 2 (up A 139 μ.1 0 0) 120 μ.1 0) (m_ntf μ (m_ex1 μ c (m_saves μ 2 (up A 139 μ.1 0 0)))).2)) w5 (exA μ (m_saves μ 2 (up A 139 μ.1 0 0) 120 μ.1 0) (m_ntf μ (m_ex1 μ c (m_saves μ 2 (up A 139 μ.1 0 0)))).2)) (hg : UPG f w w5) (h91 : w5 91 f 0 = m_insC μ c (m_saves μ 2 (up A 139 μ.1 0 0)) 136 μ.1 0) : INJ μ f c w A w5 := by
  have hR0 : RB μ S P M (up A 139 μ.1 0 0) := hRB.o9
  have hc : 0 ≤ c ∧ c ≤ 126 := by omega
  have u9 : ∀ {cc : Nat} {x i : Int}, cc ≠ 139 → up A 139 μ.1 0 0 cc x i = A cc x i := fun z => up_k _ z _ _ _ _ _
  have hl0 : up A 139 μ.1 0 0 201 0 0 < 400 := by rw [u9 (by decide)]; exact hl
  have fr := fun (cc : Nat) (a i : Int) => ex_fr (cc := cc) (a := a) (i := i) hR0 hc hl0
  have hT1 := hTY.sav (v := 0)
  obtain ⟨⟨t1, t2⟩, ⟨t3, t4, t5, t6, t7⟩, -⟩ := id hT1
  obtain ⟨-, hSH⟩ := ex_ntf (c := c) (A1 := m_saves μ 2 (up A 139 μ.1 0 0)) (cal_pre hR0).2.1.2.2.2.2.1 hK
  have h220 : (m_ntf μ (m_ex1 μ c (m_saves μ 2 (up A 139 μ.1 0 0)))).2 220 0 ((m_ntf μ (m_ex1 μ c (m_saves μ 2 (up A 139 μ.1 0 0)))).2 126 μ.1 0) = 1 := by
    rw [fr 126 _ _ (by decide), fr 220 _ _ (by decide)]; exact t5
  obtain ⟨x1, -, -, -, x5⟩ := ext_b hR0 hS hP hc hl0 (by rw [u9 (by decide), u9 (by decide)]; exact ⟨hty.2.1, hty.2.2.1⟩) h220
  obtain ⟨⟨y1, y2⟩, y3, y4⟩ := x1 nq
  have ex5 := x5 nq
  obtain ⟨R, hR⟩ : ∃ R, R = (m_ntf μ (m_ex1 μ c (m_saves μ 2 (up A 139 μ.1 0 0)))).2 := ⟨_, rfl⟩
  obtain ⟨n0, hn0⟩ : ∃ n0, n0 = m_saves μ 2 (up A 139 μ.1 0 0) 120 μ.1 0 := ⟨_, rfl⟩
  rw [← hR] at fr h220 y1 y2 y3 y4 ex5 h hSH
  rw [← hn0] at y1 y2 y3 y4 ex5 h hSH
  have r126 : R 126 μ.1 0 = m_saves μ 2 (up A 139 μ.1 0 0) 126 μ.1 0 := fr _ _ _ (by decide)
  have ea : ∀ {cc : Nat} {x i : Int}, cc ≠ 220 → cc ≠ 224 → cc ≠ 122 → cc ≠ 123 → exA μ n0 R cc x i = R cc x i := fun z1 z2 z3 z4 => by unfold exA; rw [up_k _ z4, up_k _ z3, up_k _ z2, up_k _ z1]
  have a126 : exA μ n0 R 126 μ.1 0 = R 126 μ.1 0 := ea (by decide) (by decide) (by decide) (by decide)
  have a220 : exA μ n0 R 220 0 (R 126 μ.1 0) = 1 + (R 120 μ.1 0 - n0) := by unfold exA; rw [up_k _ (by decide), up_k _ (by decide), up_k _ (by decide), up_s]
  have hcur := h.2.1.1.1.1.cur y1
  have hPL : pl_ p (exA μ n0 R 126 μ.1 0) = [R 126 μ.1 0] := by
    rw [a126] at hcur ⊢
    refine h.2.1.one hcur (by omega) ?_ ?_
    · rw [ea (by decide) (by decide) (by decide) (by decide), fr _ _ _ (by decide), r126]; exact t3
    · rw [ea (by decide) (by decide) (by decide) (by decide), fr _ _ _ (by decide), r126]; exact t4
  have hlen : (ixN (exA μ n0 R) (pl_ p (exA μ n0 R 126 μ.1 0))).length = (1 + (R 120 μ.1 0 - n0)).toNat := by
    rw [hPL]
    show (rng _ _ ++ []).length = _
    rw [List.append_nil, rng_len, a220]
  have hR1 := hSH.2.1.2
  have r201 : R 201 0 0 = (m_ntf μ (m_insC μ c (m_saves μ 2 (up A 139 μ.1 0 0)))).2 201 0 0 := hSH.1 (by decide) (by decide) (by decide) (by decide) (by decide)
  have hz236 := (hRB.2.1.2.2.2.2.2.2 4 (by decide) (by decide)).1
  refine ⟨p, exA μ n0 R, (if R 120 μ.1 0 = n0 then R 126 μ.1 0 else -1), M + 1, ⟨h, hg⟩, ⟨y1, by omega, y3⟩, fun y => ?_, ?_, ?_, ?_⟩
  · rw [y4 133 _ _ (by decide), u9 (by decide)] at y
    rw [y4 236 _ _ (by decide), u9 (by decide)]
    have : ¬ (A 236 0 4 = 16) := fun z => nf ⟨y, z⟩
    omega
  · rw [ea (by decide) (by decide) (by decide) (by decide), r201, hN201, h91, insC_136]
  · rw [ins_T hC hty nf hl, ex5, in1_ok h220]
  · rw [hlen, y4 132 _ _ (by decide), u9 (by decide)]
    have h0 := hty.1
    by_cases z : R 120 μ.1 0 = n0
    · rw [if_pos z]; exact ⟨fun _ => ⟨h0, by omega⟩, fun _ => by omega⟩
    · rw [if_neg z]; exact ⟨fun y => absurd rfl y, fun y => by omega⟩
end INK
