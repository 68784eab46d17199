/-! IVS and PTX after an insertion that is not typing -/
section INS
variable {p : RP} {w A X N B : Mm} {μ : MU} {f c S P M v p0 : Int}
theorem insC_207 : m_insC μ c A 207 0 0 = A 207 0 0 + 1 := by
  unfold m_insC m_pt
  rw [up_k _ (by decide), up_s, ins_at (by decide), up_k _ (by decide)]
theorem insC_121 : m_insC μ c A 121 μ.1 0 = A 121 μ.1 0 + 1 := by
  unfold m_insC m_pt
  rw [up_k _ (by decide), up_k _ (by decide), ins_121 (by decide), up_k _ (by decide)]
theorem mks_at2 {g : Int} {cc : Nat} {y i : Int} (h : cc ≠ 125 ∧ (cc < 122 ∨ (126 < cc ∧ cc < 216) ∨ 225 < cc)) : m_mks μ g A cc y i = A cc y i := by
  unfold m_mks m_mrgs; rw [mrg_o (by omega), mk1_n (by omega)]
theorem mks_new : m_mks μ 0 A 126 μ.1 0 = A 124 μ.1 0 ∧ m_mks μ 0 A 124 μ.1 0 = A 124 μ.1 0 + 1 ∧ m_mks μ 0 A 122 μ.1 0 = A 120 μ.1 0 ∧ m_mks μ 0 A 123 μ.1 0 = A 121 μ.1 0 ∧ m_mks μ 0 A 218 0 (A 124 μ.1 0) = A 122 μ.1 0 ∧ m_mks μ 0 A 219 0 (A 124 μ.1 0) = A 123 μ.1 0 ∧ m_mks μ 0 A 220 0 (A 124 μ.1 0) = A 120 μ.1 0 - A 122 μ.1 0 := by
  obtain ⟨m216, m217, m218, m219, m220, m221, m222, m223, m224, m225⟩ := mk1_v (μ := μ) (g := 0) (A := A)
  obtain ⟨m126, m124, m125, m122, m123⟩ := mk1_m (μ := μ) (g := 0) (A := A)
  unfold m_mks m_mrgs
  refine ⟨?_, ?_, ?_, ?_, ?_, ?_, ?_⟩
  · rw [mrg_o (by decide)]; exact m126
  · rw [mrg_o (by decide)]; exact m124
  · rw [mrg_o (by decide)]; exact m122
  · rw [mrg_o (by decide)]; exact m123
  · rw [mrg_220 (by decide)]; exact m218
  · rw [mrg_220 (by decide)]; exact m219
  · rw [mrg_220 (by decide)]; exact m220
/-- the new node is one insertion -/
theorem tyb_new (hB : LB μ S P B) (hK : RK μ S P M B) (h222 : ∀ k, 1 ≤ k → alv μ B k → B 222 0 k = k) (h120 : B 120 μ.1 0 = B 122 μ.1 0 + 1) (h121 : B 121 μ.1 0 = B 123 μ.1 0 + 1) (h212 : B 212 0 (B 122 μ.1 0) = 0 + 8 * p0 + 4096 * 1) (h207 : p0 + 1 = B 207 0 0) (hp : 0 ≤ p0) (hM : M ≤ 599) (hS : S ≤ 29900) (hP : P ≤ 520000)
    (z1 : m_mks μ 0 (m_ntf μ B).2 220 0 (m_mks μ 0 (m_ntf μ B).2 126 μ.1 0) = 1) (z2 : m_mks μ 0 (m_ntf μ B).2 225 0 (m_mks μ 0 (m_ntf μ B).2 126 μ.1 0) = 0) : TYb μ (m_mks μ 0 (m_ntf μ B).2) p0 1 := by
  obtain ⟨nN, nB, nK, -⟩ := ntf_rk hB hK
  have lA := AP.ntf (μ := μ) hK.2.2.2.2.1
  have nx : ∀ {c : Nat} {a i : Int}, c ≠ 200 ∧ c ≠ 212 ∧ c ≠ 120 ∧ (c < 232 ∨ 234 < c) → (m_ntf μ B).2 c a i = B c a i := fun z => nN.2 _ _ _ (by omega) (by omega) (by omega) (by omega) (by omega) (by omega)
  obtain ⟨a1, a2, a3, a4, a5, a6, a7⟩ := mks_new (μ := μ) (A := (m_ntf μ B).2)
  have n122 := nx (c := 122) (a := μ.1) (i := 0) (by decide)
  have n123 := nx (c := 123) (a := μ.1) (i := 0) (by decide)
  have n121 := nx (c := 121) (a := μ.1) (i := 0) (by decide)
  have l120 := ntf_120 hB hK
  have f := nB.f
  have hTb : TB μ (M + 1) (m_mk1 μ 0 (m_ntf μ B).2) := nK.2.2.2.1.mk1 (by decide) (by have := nB.2.2.2.2.1; have := ntf_120 hB hK; have := hB.2.2.2.2.1; omega) (by have := nB.2.2.2.2.2; omega) (by have := nB.2.1.2.2.2; unfold bP at this; have := nB.1.1; have := f; omega)
  have hMI := MIx.mks (μ := μ) (A := (m_ntf μ B).2) (fun k k0 ka => by
    rw [nx (by decide)]
    unfold alv at ka
    rw [nx (by decide), nx (by decide)] at ka
    exact h222 k k0 ka) nK.2.2.2.1 hTb
  rw [a1, a7] at z1
  rw [a1] at z2
  obtain ⟨i1, i2⟩ : m_mks μ 0 (m_ntf μ B).2 221 0 ((m_ntf μ B).2 124 μ.1 0) = (m_ntf μ B).2 124 μ.1 0 ∧ m_mks μ 0 (m_ntf μ B).2 223 0 ((m_ntf μ B).2 124 μ.1 0) = -1 := by
    rcases hMI.2.2.2 with q | q
    · exact q.2
    · exact absurd z2 q.1
  have h1n := hMI.1.2
  have x120 : m_mks μ 0 (m_ntf μ B).2 120 μ.1 0 = (m_ntf μ B).2 120 μ.1 0 := mks_at2 (by decide)
  have x121 : m_mks μ 0 (m_ntf μ B).2 121 μ.1 0 = (m_ntf μ B).2 121 μ.1 0 := mks_at2 (by decide)
  have e120 : (m_ntf μ B).2 120 μ.1 0 - 1 = B 122 μ.1 0 := by omega
  have x212 : m_mks μ 0 (m_ntf μ B).2 212 0 (B 122 μ.1 0) = 0 + 8 * p0 + 4096 * 1 := by
    rw [mks_at2 (by decide), lA.2.2.1 _ (by have := hK.2.2.2.1.2.2.2.2.1; omega) (by omega)]; exact h212
  have x207 : m_mks μ 0 (m_ntf μ B).2 207 0 0 = B 207 0 0 := by rw [mks_at2 (by decide)]; exact nx (by decide)
  unfold TYb
  rw [a1, a2, a3, a4, x120, x121, a5, a6, a7, i1, i2, x207, e120, x212]
  exact ⟨⟨h1n, rfl⟩, ⟨rfl, rfl, by omega, by omega, rfl⟩, rfl, ⟨hp, by decide, by omega⟩, by omega, rfl⟩
theorem INS_ca3 {Y : Mm} {cc : Nat} {y i x a b : Int} (h : cc ≠ 235 ∧ cc ≠ 236 ∧ cc ≠ 139 ∧ cc ≠ 129) : m_rec μ x a b (up (up Y 139 μ.1 0 0) 129 μ.1 0 (-1)) cc y i = Y cc y i := by
  rw [rec_at ⟨h.1, h.2.1⟩, up_k _ h.2.2.2, up_k _ h.2.2.1]
theorem IVo_insert_nt (h : CHB p μ f (lvL p μ A) w A) (hIV : IVS μ A) (hR : RB μ S P M A) (hS : S ≤ 28900) (hP : P ≤ 500000) (hM : M ≤ 598) (hC : isC c) (hT : ¬ (m_cty μ c A ∧ ¬ m_full μ A ∧ A 201 0 0 < 400)) : IVS μ (o_insert μ c A).2 := by
  have hR0 : RB μ S P M (up A 139 μ.1 0 0) := hR.o9
  have hcv : CV 0 c 0 := by unfold CV; omega
  have q := (hIV.o9 hR (v := 0)).cal hR0 (by omega) (by omega) hcv (by decide) (sort := 2)
  have u9 : ∀ {cc : Nat} {x i : Int}, cc ≠ 139 → up A 139 μ.1 0 0 cc x i = A cc x i := fun z => up_k _ z _ _ _ _ _
  rw [ins_NT hC hT]
  obtain ⟨X, hX⟩ : ∃ X, X = (m_cal μ 0 c 0 2 (up A 139 μ.1 0 0)).2 := ⟨_, rfl⟩
  rw [← hX] at q ⊢
  unfold m_in2
  split
  · exact q
  · rename_i z0
    have ef : ∀ (K : Int), ∀ {cc : Nat} {y i : Int}, cc ≠ 129 ∧ cc ≠ 130 ∧ cc ≠ 131 → (m_in3 μ c (up X 129 μ.1 0 K)).2 cc y i = X cc y i := fun K {cc y i} z => by
      show up (up (up X 129 μ.1 0 K) 130 μ.1 0 0) 131 μ.1 0 c cc y i = _
      rw [up_k _ z.2.2, up_k _ z.2.1, up_k _ z.1]
    have e9 : ∀ (K : Int), (m_in3 μ c (up X 129 μ.1 0 K)).2 129 μ.1 0 = K := fun K => by
      show up (up (up X 129 μ.1 0 K) 130 μ.1 0 0) 131 μ.1 0 c 129 μ.1 0 = K
      rw [up_k _ (by decide), up_k _ (by decide), up_s]
    by_cases zk : X 124 μ.1 0 > A 124 μ.1 0 ∧ X 220 0 (X 126 μ.1 0) = 1 ∧ X 225 0 (X 126 μ.1 0) = 0
    · rw [if_pos zk]
      refine ⟨q.1.cg fun cc y i z => ef _ (by omega), fun _ => ?_⟩
      have nf : ¬ m_full μ (up A 139 μ.1 0 0) := fun z => by
        rw [cal_full z] at hX
        rw [hX] at z0
        exact z0 (by show up _ 139 μ.1 0 2 139 μ.1 0 > 0; rw [up_s]; decide)
      obtain ⟨⟨p1, p2⟩, ⟨b3, b4⟩, b5, b6, b7⟩ := cal_b hR0 hcv (by decide)
      have hd : (m_does μ 0 c 0 (m_saves μ 2 (up A 139 μ.1 0 0))).1 = 0 := by
        apply Classical.byContradiction
        intro y
        rw [cal_ref nf y] at hX
        rw [hX] at z0
        exact z0 (by show up _ 139 μ.1 0 2 139 μ.1 0 > 0; rw [up_s]; decide)
      have hI := ins0 (μ := μ) (c := c) (w := m_saves μ 2 (up A 139 μ.1 0 0)) (by omega)
      have ecal := cal_go (sort := 2) nf hd
      rw [hI] at ecal b3 b4 b6 b7
      dsimp only at ecal b3 b4 b6 b7
      have e0 : ∀ {cc : Nat} {x i : Int}, cc < 120 ∨ (122 ≤ cc ∧ cc ≤ 135) ∨ (216 ≤ cc ∧ cc ≤ 236) → m_insC μ c (m_saves μ 2 (up A 139 μ.1 0 0)) cc x i = A cc x i := fun z => by rw [insC_at (by omega), saves_at (by omega), u9 (by omega)]
      have b120 : m_insC μ c (m_saves μ 2 (up A 139 μ.1 0 0)) 120 μ.1 0 = A 120 μ.1 0 + 1 := by rw [insC_120.1, saves_at (by decide), u9 (by decide)]
      have b121 : m_insC μ c (m_saves μ 2 (up A 139 μ.1 0 0)) 121 μ.1 0 = A 121 μ.1 0 + 1 := by rw [insC_121, saves_at (by decide), u9 (by decide)]
      have s207 : m_saves μ 2 (up A 139 μ.1 0 0) 207 0 0 = A 207 0 0 := by rw [saves_eq, up_k _ (by decide), up_k _ (by decide), cpy_207, if_neg (by decide), u9 (by decide)]
      have b207 : m_insC μ c (m_saves μ 2 (up A 139 μ.1 0 0)) 207 0 0 = A 207 0 0 + 1 := by rw [insC_207, s207]
      have b212 : m_insC μ c (m_saves μ 2 (up A 139 μ.1 0 0)) 212 0 (A 120 μ.1 0) = 0 + 8 * A 207 0 0 + 4096 * 1 := by
        have i2 := (insC_120 (μ := μ) (c := c) (w := m_saves μ 2 (up A 139 μ.1 0 0))).2
        rw [saves_at (by decide), u9 (by decide), s207] at i2
        exact i2
      obtain ⟨B, hB⟩ : ∃ B, B = m_insC μ c (m_saves μ 2 (up A 139 μ.1 0 0)) := ⟨_, rfl⟩
      rw [← hB] at ecal b3 b4 b6 b7 e0 b120 b121 b207 b212
      have h120 := hR.2.2.1.2.2.1.1
      rcases ends_cases μ 0 B with ⟨e, -⟩ | ⟨e, -⟩ | ⟨e, y1, y2, y3⟩
      · rw [e] at ecal
        have eX : X = m_rec μ 0 c 0 (up (up B 139 μ.1 0 0) 129 μ.1 0 (-1)) := by rw [hX, ecal]; unfold m_ca2; rw [if_neg (show ¬ (((1 : Int), B).1 = 0) from by show ¬ ((1 : Int) = 0); decide)]; rfl
        have z1 := zk.1
        rw [eX, INS_ca3 (by decide), e0 (by decide)] at z1
        omega
      · rw [e] at ecal
        have eX : X = up (m_rest μ 2 1 (m_ntf μ B).2) 139 μ.1 0 2 := by rw [hX, ecal]; unfold m_ca2; rw [if_pos rfl]
        rw [eX, up_s] at z0
        exact absurd (by decide) z0
      · rw [e] at ecal
        have eX : X = m_rec μ 0 c 0 (up (up (m_mks μ 0 (m_ntf μ B).2) 139 μ.1 0 0) 129 μ.1 0 (-1)) := by rw [hX, ecal]; unfold m_ca2; rw [if_neg (show ¬ (((1 : Int), m_mks μ 0 (m_ntf μ B).2).1 = 0) from by show ¬ ((1 : Int) = 0); decide)]; rfl
        have ex : ∀ {cc : Nat} {y i : Int}, cc ≠ 235 ∧ cc ≠ 236 ∧ cc ≠ 139 ∧ cc ≠ 129 → X cc y i = m_mks μ 0 (m_ntf μ B).2 cc y i := fun z => by rw [eX, INS_ca3 z]
        have h132 : A 132 μ.1 0 = 0 := by
          have := hR.2.2.1.1
          rw [e0 (by decide)] at y2; omega
        have l122 := hR.2.2.1.2.2.2.2 h132
        have l123 : A 123 μ.1 0 = A 121 μ.1 0 := by
          have e3 := h.2.2.2.1.2.2
          rw [show lvN μ A = 0 by unfold lvN; omega] at e3
          exact e3
        have f207 : 0 ≤ A 207 0 0 := by have := hR.1.f; have := hR.1.2.1.2.2.2; unfold bP at this; omega
        have zk1 := zk.2.1
        have zk2 := zk.2.2
        rw [ex (cc := 220) (by decide), ex (cc := 126) (by decide)] at zk1
        rw [ex (cc := 225) (by decide), ex (cc := 126) (by decide)] at zk2
        have hty := tyb_new (p0 := A 207 0 0) b3 b4 (fun k k0 ka => by
          rw [e0 (by decide)]
          unfold alv at ka
          rw [e0 (by decide), e0 (by decide)] at ka
          exact (h.2.1.1.1.2.2.1 k k0 ka).2.2.1) (by rw [e0 (cc := 122) (by decide)]; omega) (by rw [e0 (cc := 123) (by decide)]; omega) (by rw [e0 (cc := 122) (by decide), l122]; exact b212) (by omega) f207 (by omega) (by omega) (by omega) zk1 zk2
        have nN := (ntf_rk b3 b4).1
        refine ⟨⟨?_, ?_⟩, A 207 0 0, 1, ?_⟩
        · rw [ef _ (by decide), ex (by decide), mks_at2 (by decide), nN.2 _ _ _ (by decide) (by decide) (by decide) (by decide) (by decide) (by decide), e0 (by decide)]; exact h132
        · rw [e9, ef _ (by decide)]
        · unfold TYb at hty ⊢
          simp (disch := decide) only [ef, ex]
          exact hty
    · rw [if_neg zk]
      exact q.1.off (fun cc y i z => ef _ (by omega)) (e9 _)
end INS
