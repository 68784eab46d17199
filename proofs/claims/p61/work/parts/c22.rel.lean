/-! insert: what it comes to, from where its change is made -/
section INJs
variable {p : RP} {w w' w5 A A1 A3 B B5 N X R Y : Mm} {μ : MU} {f c n k v S P M M' K had x a b : Int} {L : List Int} {ρ : Int → Mm} {G : Int → Int → Int} {PL : Int → List Int}
theorem bi_iff {p q : Prop} [Decidable p] [Decidable q] (h : p ↔ q) : bi p = bi q := by
  unfold bi
  by_cases z : p
  · rw [if_pos z, if_pos (h.mp z)]
  · rw [if_neg z, if_neg (fun y => z (h.mpr y))]
theorem does_0 : m_does μ 0 c 0 A = if A 201 0 0 = 400 then (5, A) else (0, m_insC μ c A) := by
  unfold m_does m_lack
  rw [if_neg (by omega), if_pos rfl]
theorem rec_u9 : m_rec μ x a b (up Y 129 μ.1 0 v) = up (m_rec μ x a b Y) 129 μ.1 0 v := by
  unfold m_rec m_rec1
  rw [up_k _ (show (133 : Nat) ≠ 129 by decide), up_k _ (show (236 : Nat) ≠ 129 by decide)]
  split
  · rw [up_comm (c := 129) (c' := 235) (Or.inl (by decide)), up_comm (c := 129) (c' := 235) (Or.inl (by decide)), up_comm (c := 129) (c' := 235) (Or.inl (by decide)), up_comm (c := 129) (c' := 236) (Or.inl (by decide))]
  · rfl
theorem ins_NT (hC : isC c) (h : ¬ (m_cty μ c A ∧ ¬ m_full μ A ∧ A 201 0 0 < 400)) : o_insert μ c A = m_in2 μ c (A 124 μ.1 0) (m_cal μ 0 c 0 2 (up A 139 μ.1 0 0)).2 := by
  have e : m_ti μ (isC c) A = up A 139 μ.1 0 0 := by unfold m_ti; rw [if_pos hC]
  unfold o_insert
  rw [if_pos hC, e]
  by_cases h1 : m_cty μ c A
  · rw [if_pos h1]
    by_cases h2 : m_full μ A
    · rw [if_pos h2]
    · rw [if_neg h2, if_neg (fun z => h ⟨h1, h2, z⟩)]
  · rw [if_neg h1]
theorem ins_T (hC : isC c) (h1 : m_cty μ c A) (h2 : ¬ m_full μ A) (h3 : A 201 0 0 < 400) : o_insert μ c A = m_in1 μ c (m_ext μ c (up A 139 μ.1 0 0)) := by
  have e : m_ti μ (isC c) A = up A 139 μ.1 0 0 := by unfold m_ti; rw [if_pos hC]
  unfold o_insert
  rw [if_pos hC, if_pos h1, if_neg h2, if_pos h3, e]
theorem in2_ok : m_in2 μ c had (m_rec μ 0 c 0 (up (up A3 139 μ.1 0 0) 129 μ.1 0 (-1))) = m_in3 μ c (up (m_rec μ 0 c 0 (up (up A3 139 μ.1 0 0) 129 μ.1 0 (-1))) 129 μ.1 0 (if A3 124 μ.1 0 > had ∧ A3 220 0 (A3 126 μ.1 0) = 1 ∧ A3 225 0 (A3 126 μ.1 0) = 0 then A3 126 μ.1 0 else -1)) := by
  have e : ∀ (cc : Nat) (x i : Int), cc ≠ 235 ∧ cc ≠ 236 ∧ cc ≠ 139 ∧ cc ≠ 129 → m_rec μ 0 c 0 (up (up A3 139 μ.1 0 0) 129 μ.1 0 (-1)) cc x i = A3 cc x i := fun cc x i z => by rw [rec_at ⟨z.1, z.2.1⟩, up_k _ z.2.2.2, up_k _ z.2.2.1]
  unfold m_in2
  rw [if_neg (by rw [rec_at (by decide), up_k _ (by decide), up_s]; decide), e 124 _ _ (by decide), e 126 _ _ (by decide), e 220 _ _ (by decide), e 225 _ _ (by decide)]
theorem in1_ok (h : R 220 0 (R 126 μ.1 0) = 1) : m_in1 μ c (1, m_ex2 μ had R) = m_in3 μ c (up (m_rec μ 0 c 0 (up (up (exA μ had R) 139 μ.1 0 0) 129 μ.1 0 (-1))) 129 μ.1 0 (if R 120 μ.1 0 = had then R 126 μ.1 0 else -1)) := by
  have e : m_ex2 μ had R = up (exA μ had R) 129 μ.1 0 (if R 120 μ.1 0 = had then R 126 μ.1 0 else -1) := by unfold m_ex2 exA; rw [h]
  unfold m_in1
  rw [if_neg (show ¬ ((1 : Int) = 0) by decide)]
  show m_in3 μ c (m_rec μ 0 c 0 (up (m_ex2 μ had R) 139 μ.1 0 0)) = _
  rw [e, up_comm (c := 129) (c' := 139) (Or.inl (by decide)), rec_u9, rec_u9, up_up]
/-- what was found out when the typing goes on -/
theorem ext_b (hR : RB μ S P M A) (hS : S ≤ 28900) (hP : P ≤ 500000) (hc : 0 ≤ c ∧ c ≤ 126) (hl : A 201 0 0 < 400) (hty : A 129 μ.1 0 = A 126 μ.1 0 ∧ A 129 μ.1 0 ≠ -1) (h220 : (m_ntf μ (m_ex1 μ c (m_saves μ 2 A))).2 220 0 ((m_ntf μ (m_ex1 μ c (m_saves μ 2 A))).2 126 μ.1 0) = 1) :
    ((m_ntf μ (m_ex1 μ c (m_saves μ 2 A))).1 = 1 → (TB μ (M + 1) (exA μ (m_saves μ 2 A 120 μ.1 0) (m_ntf μ (m_ex1 μ c (m_saves μ 2 A))).2) ∧ bB (exA μ (m_saves μ 2 A 120 μ.1 0) (m_ntf μ (m_ex1 μ c (m_saves μ 2 A))).2)) ∧ SB 1 (exA μ (m_saves μ 2 A 120 μ.1 0) (m_ntf μ (m_ex1 μ c (m_saves μ 2 A))).2) ∧ ∀ (c' : Nat) (x i : Int), c' = 132 ∨ c' = 133 ∨ c' = 236 → exA μ (m_saves μ 2 A 120 μ.1 0) (m_ntf μ (m_ex1 μ c (m_saves μ 2 A))).2 c' x i = A c' x i) ∧
    ((m_ntf μ (m_ex1 μ c (m_saves μ 2 A))).1 = 0 ∨ (m_ntf μ (m_ex1 μ c (m_saves μ 2 A))).1 = 1) ∧ bB (m_rest μ 2 1 (m_ntf μ (m_ex1 μ c (m_saves μ 2 A))).2) ∧
    ((m_ntf μ (m_ex1 μ c (m_saves μ 2 A))).1 = 0 → m_ext μ c A = (0, m_ex3 μ (m_saves μ 2 A 212 0 (m_saves μ 2 A 120 μ.1 0 - 1)) (m_rest μ 2 1 (m_ntf μ (m_ex1 μ c (m_saves μ 2 A))).2)) ∧ TB μ (M + 1) (m_ext μ c A).2 ∧ SB 1 (m_ext μ c A).2) ∧
    ((m_ntf μ (m_ex1 μ c (m_saves μ 2 A))).1 = 1 → m_ext μ c A = (1, m_ex2 μ (m_saves μ 2 A 120 μ.1 0) (m_ntf μ (m_ex1 μ c (m_saves μ 2 A))).2)) := by
  obtain ⟨h1, h2, h3⟩ := RB.ext hc hl hty hR hS hP
  obtain ⟨EX, hE⟩ : ∃ EX, EX = m_ntf μ (m_ex1 μ c (m_saves μ 2 A)) := ⟨_, rfl⟩
  have e : m_ext μ c A = m_ex4 μ (m_saves μ 2 A 120 μ.1 0) (m_saves μ 2 A 212 0 (m_saves μ 2 A 120 μ.1 0 - 1)) EX := by rw [hE]; rfl
  rw [← hE] at h220 ⊢
  have q0 : EX.1 = 0 → m_ext μ c A = (0, m_ex3 μ (m_saves μ 2 A 212 0 (m_saves μ 2 A 120 μ.1 0 - 1)) (m_rest μ 2 1 EX.2)) := fun z => by rw [e]; unfold m_ex4; rw [if_pos z]
  have q1 : EX.1 ≠ 0 → m_ext μ c A = (1, m_ex2 μ (m_saves μ 2 A 120 μ.1 0) EX.2) := fun z => by rw [e]; unfold m_ex4; rw [if_neg z]
  have hb : bB (m_rest μ 2 1 EX.2) := by
    by_cases z : EX.1 = 0
    · have := h1.1.2.2.1
      rw [q0 z] at this
      refine this.cong fun i => ?_
      show _ = m_ex3 μ (m_saves μ 2 A 212 0 (m_saves μ 2 A 120 μ.1 0 - 1)) (m_rest μ 2 1 EX.2) 240 0 i
      unfold m_ex3
      rw [up_k _ (by decide)]
    · have := h1.1.2.2.1
      rw [q1 z] at this
      refine this.cong fun i => ?_
      show _ = m_ex2 μ (m_saves μ 2 A 120 μ.1 0) EX.2 240 0 i
      unfold m_ex2
      rw [rest_at (by decide), up_k _ (by decide), up_k _ (by decide), up_k _ (by decide), up_k _ (by decide), up_k _ (by decide)]
  have ee : ∀ {c' : Nat} {x i : Int}, c' ≠ 129 → exA μ (m_saves μ 2 A 120 μ.1 0) EX.2 c' x i = m_ex2 μ (m_saves μ 2 A 120 μ.1 0) EX.2 c' x i := fun z => by
    unfold m_ex2 exA
    rw [up_k _ z, h220]
  have h01 : EX.1 = 0 ∨ EX.1 = 1 := by
    obtain ⟨g, -, h2, -⟩ := ntf_ok (μ := μ) (w := m_ex1 μ c (m_saves μ 2 A)) (fun i i0 i1 => by rw [ex1_at (by decide)]; exact (cal_pre hR).2.1.2.2.2.2.1 i i0 i1)
    obtain ⟨p1, p2, p3⟩ := cal_pre hR
    have l1 : m_saves μ 2 A 201 0 0 < 400 := by rw [saves_eq, up_k _ (by decide), up_k _ (by decide), cpy_201, if_neg (by decide)]; exact hl
    rw [hE]
    exact (ntf_rk (p1.ex1 hc l1) ((p2.lo (LO.ex1 p1 l1)).mono (S' := S) (P' := P + 1) (by omega) (by omega))).2.2.2
  refine ⟨fun z => ?_, h01, hb, fun z => ⟨q0 z, h1.2.1.2.2.2.1, h1.2.1.2.2.1⟩, fun z => q1 (by omega)⟩
  have qq := q1 (by omega)
  rw [qq] at h1 h2
  refine ⟨⟨h1.2.1.2.2.2.1.cong fun c a i y => ee (by omega), h1.1.2.2.1.cong fun i => ee (by decide)⟩, h1.2.1.2.2.1.cong fun c a i y1 y2 => ee (by omega), fun c' x i y => ?_⟩
  rw [ee (by omega)]
  exact h2 c' x i (by rcases y with rfl | rfl | rfl <;> decide) (by omega) (by omega) (by omega) (by omega) (by omega) (by omega)
/-- the editor stands where the call's beginning was kept -/
theorem TYb.sav {p0 v0 : Int} (h : TYb μ A p0 v0) : TYb μ (m_saves μ 2 (up A 139 μ.1 0 v)) p0 v0 := by
  have e : ∀ {c : Nat} {x i : Int}, c ≠ 139 → c < 200 ∨ (210 < c ∧ c ≠ 214 ∧ c ≠ 215) → m_saves μ 2 (up A 139 μ.1 0 v) c x i = A c x i := fun z y => by rw [saves_at y, up_k _ z]
  have e7 : m_saves μ 2 (up A 139 μ.1 0 v) 207 0 0 = A 207 0 0 := by rw [saves_eq, up_k _ (by decide), up_k _ (by decide), cpy_207, if_neg (by decide), up_k _ (by decide)]
  unfold TYb at h ⊢
  rw [e7]
  simp (disch := decide) only [e]
  exact h
/-- what stands where the command is noted -/
def INJ (μ : MU) (f c : Int) (w A w5 : Mm) : Prop := ∃ p5 B5 K M', (CHB p5 μ f (lvL p5 μ B5) w5 B5 ∧ UPG f w w5) ∧ (TB μ M' B5 ∧ M' ≤ 600 ∧ SB 1 B5) ∧ (B5 133 μ.1 0 ≠ -1 → B5 236 0 4 < 16) ∧ w5 91 f 0 = B5 201 0 0 ∧ o_insert μ c A = m_in3 μ c (up (m_rec μ 0 c 0 (up (up B5 139 μ.1 0 0) 129 μ.1 0 (-1))) 129 μ.1 0 K) ∧ (K ≠ -1 ↔ (B5 132 μ.1 0 = 0 ∧ (ixN B5 (pl_ p5 (B5 126 μ.1 0))).length = 1))
theorem CHB.cnt (h : CHB p μ f L w A) (hT : TB μ M A) : (w 0 f 0 = 13 ∧ w 0 (w 45 f 0) 0 = 11 ∧ w 0 (w 40 (w 45 f 0) 0) 0 = 5 ∧ w 0 (w 25 (w 40 (w 45 f 0) 0) 0) 0 = 8) ∧ w 71 (w 25 (w 40 (w 45 f 0) 0) 0) 0 = ((ixN A (pl_ p (A 126 μ.1 0))).length : Int) ∧ w 87 f 0 = A 132 μ.1 0 := by
  obtain ⟨hr, hTX, -⟩ := h
  have hcur := hTX.1.1.1.cur hT
  obtain ⟨-, ⟨t1, t2⟩, -, -⟩ := RLm.spl.mp hr
  have e40 := t2.2.2.2.1
  rw [e40]
  obtain ⟨z1, z2, -⟩ := vNd.z.mp (hr.nd hcur)
  refine ⟨⟨hr.toF.1, t1.1.1, z1.1.1.1, z1.2.2.1.1⟩, ?_, hr.1.2.1.2.2.2.2.1⟩
  rw [z2.2.2.1, List.length_map]
theorem CHB.fin (h : CHB p μ f (lvL p μ A) w A) (hT : TB μ M A) (hM : M ≤ 600) (s1 : SB 1 A) (hv : v = bi (K ≠ -1)) : RES μ f w (up (up (up w 88 f 0 v) 89 f 0 c) 90 f 0 0) (up (up (up A 129 μ.1 0 K) 130 μ.1 0 0) 131 μ.1 0 c) := by
  have t2 := h.1.1.2.2.2.2.2.1.1
  have t1 := h.1.toF.1
  refine ⟨p, h.sc hT hM s1 (fun k a i z => by rw [up_k _ (by omega), up_k _ (by omega), up_k _ (by omega)]) (fun c a i z => by rw [up_k _ (by omega), up_k _ (by omega), up_k _ (by omega)]) ?_, h.1.E86 fun k a i z => ?_⟩
  · obtain ⟨s1, ⟨s2, s3, s4⟩, s5, s6, s7, s8, s9, s10⟩ := h.1.1.2.1
    unfold vSc
    simp (disch := decide) only [up_k, up_s]
    exact ⟨s1, ⟨s2, s3, s4⟩, s5, s6, s7, hv, by first | trivial | rfl | decide, by first | trivial | rfl | decide⟩
  · by_cases y : a = f
    · rw [up_k _ (by omega), up_k _ (by omega), up_k _ (by omega)]
    · rw [up_a _ _ _ y, up_a _ _ _ y, up_a _ _ _ y]
end INJs
