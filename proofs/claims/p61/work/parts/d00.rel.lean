/-! p61: what stands between the law's calls; the reference is a world of its own, nothing of it lies on the heap -/
section LJ0
variable {p : RP} {w w' A B : Mm} {μ : MU} {f S P M S' P' M' : Int}
def LJ (μ : MU) (f S P M : Int) (w A : Mm) : Prop := (∃ p, CHB p μ f (lvL p μ A) w A) ∧ vTl μ w A f ∧ RB μ S P M A ∧ PTX μ A ∧ IVS μ A
theorem LJ.nx (h : LJ μ f S P M w A) (r : RES μ f w w' B) (hR : RB μ S' P' M' B) (z : PTX μ B) (i : IVS μ B) (e : F34 μ A B) : LJ μ f S' P' M' w' B := by
  obtain ⟨-, h2, -, -, -⟩ := h
  obtain ⟨p', r1, r2⟩ := r
  exact ⟨⟨p', r1⟩, h2.h r2.h (e 134 (Or.inl rfl)) (e 135 (Or.inr rfl)), hR, z, i⟩
theorem LJ.nxv (r : RESv μ f w w' B) (hR : RB μ S' P' M' B) (z : PTX μ B) (i : IVS μ B) : LJ μ f S' P' M' w' B := by
  obtain ⟨p', r1, hv, r2, -⟩ := r
  exact ⟨⟨p', r1⟩, hv, hR, z, i⟩
end LJ0
/-! the queries: what they answer, the world as it was -/
section YQ
variable {γ : LC} {p : RP} {w A : Mm} {μ : MU} {f c k S P M r v i q e : Int}
theorem y_length (h : CHB p μ f (lvL p μ A) w A) : KI γ 1 mX12_length [rv f] w 0 0 (fun r w' => r = A 201 0 0 ∧ w' = w) NX :=
  (kX12_length γ w f h.1.toF.2.1).imp (fun r w' z => ⟨z.1.trans h.1.low.2.2.2.1, z.2⟩) (fun _ _ z => z)
theorem y_point (h : CHB p μ f (lvL p μ A) w A) : KI γ 1 mX12_point [rv f] w 0 0 (fun r w' => r = A 207 0 0 ∧ w' = w) NX :=
  (kX12_point γ w f h.1.toF.2.1).imp (fun r w' z => ⟨z.1.trans h.1.low.2.2.1, z.2⟩) (fun _ _ z => z)
theorem y_viewStart (h : CHB p μ f (lvL p μ A) w A) : KI γ 2 mX12_viewStart [rv f] w 0 0 (fun r w' => r = m_vF A ∧ w' = w) NX :=
  (kX12_viewStart γ w f h.1.toF.1 (q_dvb h).1 (q_dvb h).2).imp (fun r w' z => ⟨z.1.trans h.1.low.1, z.2⟩) (fun _ _ z => z)
theorem y_viewEnd (h : CHB p μ f (lvL p μ A) w A) : KI γ 2 mX12_viewEnd [rv f] w 0 0 (fun r w' => r = m_vT A ∧ w' = w) NX :=
  (kX12_viewEnd γ w f h.1.toF.1 (q_dvb h).1 (q_dvb h).2).imp (fun r w' z => ⟨z.1.trans h.1.low.2.1, z.2⟩) (fun _ _ z => z)
theorem y_lines (h : CHB p μ f (lvL p μ A) w A) : KI γ 2 mX12_lines [rv f] w 0 0 (fun r w' => r = m_fee (A 201 0 0) A + 1 ∧ w' = w) NX :=
  (kX12_lines γ w f h.1.toF.2.1 h.1.lvs.2.1).imp (fun r w' z => by
    obtain ⟨z1, z2⟩ := z
    exact ⟨by rw [z1, h.1.low.2.2.2.1, fee_eq h (Int.le_refl _)], z2⟩) (fun _ _ z => z)
theorem y_charAt (h : CHB p μ f (lvL p μ A) w A) (hc : IR c) (hb : 0 ≤ c ∧ c < A 201 0 0) : KI γ 7 mX12_charAt [rv f, .int (I c)] w 1 6 (fun r w' => r = A 200 0 c ∧ w' = w) NX :=
  (kX12_charAt γ w f c h.1.toF.2.1 h.1.lvs.2.1 hc).imp (fun r w' z => by
    obtain ⟨z1, z2, z3⟩ := z
    exact ⟨z2.trans (h.1.txt hb.1 hb.2), z3⟩) (fun E w' z => by
    obtain ⟨z1, z2, z3⟩ := z
    rw [h.1.low.2.2.2.1] at z2
    exact z2 hb)
theorem y_lineOf (h : CHB p μ f (lvL p μ A) w A) (hc : IR c) (hb : 0 ≤ c ∧ c ≤ A 201 0 0) : KI γ 7 mX12_lineOf [rv f, .int (I c)] w 1 6 (fun r w' => r = m_fee c A ∧ w' = w) NX :=
  (kX12_lineOf γ w f c h.1.toF.2.1 h.1.lvs.2.1 hc).imp (fun r w' z => by
    obtain ⟨z1, z2, z3⟩ := z
    exact ⟨by rw [z2, fee_eq h hb.2], z3⟩) (fun E w' z => by
    obtain ⟨z1, z2, z3⟩ := z
    rw [h.1.low.2.2.2.1] at z2
    exact z2 ⟨hb.1, by omega⟩)
theorem y_markAt (h : CHB p μ f (lvL p μ A) w A) (hc : 0 ≤ c ∧ c ≤ 5) : KI γ 7 mX12_markAt [rv f, .int (I c)] w 1 6 (fun r w' => r = A 202 0 c ∧ w' = w) NX :=
  (kX12_markAt γ w f c h.1.toF.2.1 h.1.lvs.1 (by omega)).imp (fun r w' z => by
    obtain ⟨z1, z2, z3⟩ := z
    exact ⟨z2.trans (h.1.mrk z1.1 z1.2), z3⟩) (fun E w' z => by
    obtain ⟨z1, z2, z3⟩ := z
    exact z2 ⟨hc.1, by omega⟩)
theorem y_now (h : CHB p μ f (lvL p μ A) w A) (hR : RB μ S P M A) : KI γ 1 mX12_now [rv f] w 0 0 (fun r w' => r = A 126 μ.1 0 ∧ w' = w) NX :=
  (kX12_now γ w f h.1.toF.1 (h.cur hR.2.1.2.2.2.1).2.1 (h.cur hR.2.1.2.2.2.1).2.2).imp (fun r w' z => ⟨z.1.trans (h.cur hR.2.1.2.2.2.1).1, z.2⟩) (fun _ _ z => z)
theorem y_nodes (h : CHB p μ f (lvL p μ A) w A) (hWI : WI w) (hR : RB μ S P M A) : KI γ 2 mX12_nodes [rv f] w 0 0 (fun r w' => r = A 125 μ.1 0 ∧ w' = w) NX :=
  (kX12_nodes γ w f h.1.toF.1 (h.1.toTR hWI hR.2.1.2.2.2.1 h.2.1.1.1.1 h.2.1.1.2)).imp (fun r w' z => ⟨z.1.trans h.1.1.2.2.2.1.1.2.1.1, z.2⟩) (fun _ _ z => z)
theorem y_failureReason (h : CHB p μ f (lvL p μ A) w A) (hV : vTl μ w A f) : KI γ 1 mX12_failureReason [rv f] w 0 0 (fun r w' => r = A 134 μ.1 0 ∧ w' = w) NX :=
  (kX12_failureReason γ w f h.1.toF.1 h.1.1.2.2.2.2.2.1.1).imp (fun r w' z => ⟨z.1.trans hV.1, z.2⟩) (fun _ _ z => z)
theorem y_failureCommand (h : CHB p μ f (lvL p μ A) w A) (hV : vTl μ w A f) : KI γ 1 mX12_failureCommand [rv f] w 0 0 (fun r w' => r = A 135 μ.1 0 ∧ w' = w) NX :=
  (kX12_failureCommand γ w f h.1.toF.1 h.1.1.2.2.2.2.2.1.1).imp (fun r w' z => ⟨z.1.trans hV.2, z.2⟩) (fun _ _ z => z)
theorem y_parentOf (h : CHB p μ f (lvL p μ A) w A) (hWI : WI w) (hR : RB μ S P M A) (hM : M ≤ 598) (hc : IR c) : KI γ 8 mX12_parentOf [rv f, .int (I c)] w 1 6 (fun r w' => isN μ c A ∧ r = A 217 0 c ∧ w' = w) (fun E w' => E = "java/lang/IndexOutOfBoundsException" ∧ ¬ isN μ c A ∧ w' = w) := by
  have hT := hR.2.1.2.2.2.1
  have nn := nodeOf_n h hWI hT c
  refine (kX12_parentOf9 γ w f c h.1.toF.1 (trt_of h hWI hT) (hN_of h hWI hT c) hc).imp (fun r w' z => ?_) (fun E w' z => ?_)
  · obtain ⟨z1, z2, z3⟩ := z
    have hn := nn.mp z1
    refine ⟨hn, ?_, z3⟩
    have ha := isN_al hn
    rw [z2, nodeOf_e h hT, if_pos hn, (h.1.nd ha).2.2.2.1.1]
    by_cases y : A 217 0 c = -1
    · rw [if_pos y, y]; rfl
    · rw [if_neg y]
      have k0 : c ≠ 0 := fun e => y (by rw [e]; exact hT.p0)
      exact nb_of h hWI (hT.par h.2.1.1.1.1 ha k0).1
  · obtain ⟨z1, z2, z3⟩ := z
    exact ⟨z1, fun y => nn.mpr y z2, z3⟩
theorem y_stepsOf (h : CHB p μ f (lvL p μ A) w A) (hWI : WI w) (hR : RB μ S P M A) (hc : IR c) (hn : isN μ c A) : KI γ 8 mX12_stepsOf [rv f, .int (I c)] w 1 6 (fun r w' => r = szL A (pl_ p c) ∧ w' = w) NX := by
  have hT := hR.2.1.2.2.2.1
  have nn := nodeOf_n h hWI hT c
  refine (kX12_stepsOf9 γ w f c h.1.toF.1 (trt_of h hWI hT) (hN_of h hWI hT c) hc).imp (fun r w' z => ?_) (fun E w' z => ?_)
  · obtain ⟨z1, z2, z3⟩ := z
    have ha := isN_al hn
    refine ⟨?_, z3⟩
    rw [z2, nodeOf_e h hT, if_pos hn, (h.1.nd ha).2.2.1.2.2.2.1, List.length_map]
    refine szL_len fun q hq => ?_
    have hq' := h.2.1.1.1.lt hT ha q hq
    exact (h.2.1.1.1.prt.1 q hq'.1 hq'.2).1.2
  · obtain ⟨z1, z2, z3⟩ := z
    exact nn.mpr hn z2
theorem y_bookmarkAt (h : CHB p μ f (lvL p μ A) w A) (hWI : WI w) (hR : RB μ S P M A) (hM : M ≤ 598) (hc : 0 ≤ c ∧ c ≤ 4) : KI γ 7 mX12_bookmarkAt [rv f, .int (I c)] w 1 6 (fun r w' => r = A 227 0 c ∧ w' = w) NX := by
  have hT := hR.2.1.2.2.2.1
  have v6 := h.1.1.2.2.2.1.1.2.2.2.1
  have hb5 : ∀ i, 0 ≤ i → i < 5 → w 3 (w 39 (w 45 f 0) 0) i = 0 ∨ w 0 (w 3 (w 39 (w 45 f 0) 0) i) 0 = 5 := fun i i0 i1 => by
    rw [v6 i i0 i1]
    rcases h.2.1.1.2 i i0 i1 with z | z
    · exact Or.inl (if_pos z)
    · rw [if_neg (by have := z.1; omega)]; exact Or.inr (h.1.tg5 z).1
  refine (kX12_bookmarkAt γ w f c h.1.toF.1 (trt_of h hWI hT) hb5 (by omega)).imp (fun r w' z => ?_) (fun E w' z => ?_)
  · obtain ⟨z1, z2, z3⟩ := z
    refine ⟨?_, z3⟩
    rw [z2, v6 c z1.1 z1.2]
    rcases h.2.1.1.2 c z1.1 z1.2 with y | y
    · rw [if_pos y, y]; rfl
    · rw [if_neg (by have := y.1; omega)]; exact nb_of h hWI y
  · obtain ⟨z1, z2, z3⟩ := z
    exact z2 ⟨hc.1, by omega⟩
theorem y_entries (h : CHB p μ f (lvL p μ A) w A) (hWI : WI w) (hc : 0 ≤ c ∧ c ≤ 4) : KI γ 7 mX12_entries [rv f, .int (I c)] w 1 6 (fun r w' => r = A 204 0 c ∧ w' = w) NX :=
  (kX12_entries γ w f c h.1.toF.2.1 h.1.lvs.1 (by omega)).imp (fun r w' z => by
    obtain ⟨z1, z2, z3⟩ := z
    refine ⟨?_, z3⟩
    rw [z2, (h.1.2.2.1.1.1.2 c z1.1 z1.2).ecn (w00 hWI) z1.1, show (5 : Int) * 0 + c = c by omega]) (fun E w' z => by
    obtain ⟨z1, z2, z3⟩ := z
    exact z2 ⟨hc.1, by omega⟩)
theorem y_entryLength (h : CHB p μ f (lvL p μ A) w A) (hWI : WI w) (hR : RB μ S P M A) (hq : IR q) (he : IR e) (hp : isE q e A) : KI γ 8 mX12_entryLength [rv f, .int (I q), .int (I e)] w 2 12 (fun r w' => r = A 205 0 (4 * q + e) ∧ w' = w) NX := by
  have ec : 0 ≤ q → q < 5 → m_ecn w (w 11 (w 41 f 0) 0) q = A 204 0 q := fun q0 q1 => by
    rw [(h.1.2.2.1.1.1.2 q q0 q1).ecn (w00 hWI) q0, show (5 : Int) * 0 + q = q by omega]
  refine (kX12_entryLength9 γ w f q e h.1.toF.2.1 h.1.lvs.1 (q_ent h hWI hR q) hq he).imp (fun r w' z => ?_) (fun E w' z => ?_)
  · obtain ⟨z1, z2, z3⟩ := z
    have z4 := z1.2.2.2
    rw [ec z1.1 z1.2.1] at z4
    have hm : m_slt q ≤ 4 ∧ (q < 4 → m_slt q = 1) := by unfold m_slt; split <;> omega
    have hv := h.1.2.2.1.1.1.2 q z1.1 z1.2.1
    have h5 := hv.1
    rw [show (5 : Int) * 0 + q = q by omega] at h5
    have hu := ((hv.2 e z1.2.2.1 (by omega)).1 (by rw [show (5 : Int) * 0 + q = q by omega]; exact z4)).2.2.1
    exact ⟨by rw [z2, hu, show (20 : Int) * 0 + 4 * q + e = 4 * q + e by omega], z3⟩
  · obtain ⟨z1, z2, z3⟩ := z
    exact z2 ⟨by omega, by omega, by omega, by rw [ec (by omega) (by omega)]; omega⟩
theorem y_lineStart (h : CHB p μ f (lvL p μ A) w A) (hR : RB μ S P M A) (hM : M ≤ 598) (hc : IR c) (hb : 0 ≤ c ∧ c ≤ m_fee (A 201 0 0) A) : KI γ 7 mX12_lineStart [rv f, .int (I c)] w 1 6 (fun r w' => ((0 ≤ r ∧ r ≤ A 201 0 0) ∧ m_fee r A = c) ∧ w' = w) NX := by
  have h67 := h.1.low.2.2.2.1
  refine (kX12_lineStart γ w f c h.1.toF.2.1 h.1.lvs.2.1 h.1.lvs.1 hc).imp (fun r w' z => ?_) (fun E w' z => ?_)
  · obtain ⟨z1, z2, z3⟩ := z
    have hF := lst_fee h.1.lvs.2.1 c.toNat (by omega)
    obtain ⟨b0, b1⟩ := l_st_b h.1.lvs.2.1 c.toNat
    rw [h67] at b1
    obtain ⟨F1, -⟩ := hF
    rw [fee_eq h b1] at F1
    refine ⟨⟨by rw [z2]; exact ⟨b0, b1⟩, ?_⟩, z3⟩
    rw [z2, F1]; omega
  · obtain ⟨z1, z2, z3⟩ := z
    rw [h67, fee_eq h (Int.le_refl _)] at z2
    exact z2 ⟨hb.1, by omega⟩
end YQ
/-! what the current node keeps is what is now, without an open group -/
section YN
variable {γ : LC} {p : RP} {w A : Mm} {μ : MU} {f c k S P M r v i q e : Int}
theorem now_fit (h : CHB p μ f (lvL p μ A) w A) (hR : RB μ S P M A) (hg : A 132 μ.1 0 = 0) : EQv (Tkd A) 1 0 (pr_ p (A 126 μ.1 0)) A ∧ ∀ r, 0 ≤ r → r < 5 → A 211 0 r ≠ 1 → pr_ p (A 126 μ.1 0) 204 0 (5 + r) = 0 := by
  have hz := hR.2.2.1.2.2.2.2 hg
  obtain ⟨-, -, h3, h4, -⟩ := h.2.2
  have hN : lvN μ A = 0 := by unfold lvN; omega
  have hL : LVl μ A = [] := by unfold LVl; rw [hN]; rfl
  rw [hL] at h3 h4
  refine ⟨?_, fun r r0 r1 r2 => ?_⟩
  · have q : EQv (Tkd A) 1 0 (SWp (pr_ p (A 126 μ.1 0)) A) A := h3
    unfold EQv at q ⊢
    simp (disch := decide) only [SWp_s] at q
    exact q
  · have q := h4 r r0 r1 r2
    have q' : SWp (pr_ p (A 126 μ.1 0)) A 204 0 (5 + r) = 0 := q
    rwa [SWp_s (by decide)] at q'
theorem now_n (h : CHB p μ f (lvL p μ A) w A) (hR : RB μ S P M A) : isN μ (A 126 μ.1 0) A := by
  have hT := hR.2.1.2.2.2.1
  exact ⟨⟨hT.2.2.1.1, by have := hT.2.2.1.2; omega⟩, h.2.1.1.1.1.2.1⟩
theorem now_ir (h : CHB p μ f (lvL p μ A) w A) (hR : RB μ S P M A) (hM : M ≤ 598) : IR (A 126 μ.1 0) := by
  have hT := hR.2.1.2.2.2.1
  have h1 := hT.1.2; have h2 := hT.2.2.1
  omega
theorem y_lengthByReplay (h : CHB p μ f (lvL p μ A) w A) (hWI : WI w) (hR : RB μ S P M A) (hM : M ≤ 598) (hg : A 132 μ.1 0 = 0) : KI γ 8 mX12_lengthByReplay [rv f, .int (I (A 126 μ.1 0))] w 1 6 (fun r w' => r = A 201 0 0 ∧ w' = w) NX := by
  have hT := hR.2.1.2.2.2.1
  have nn := nodeOf_n h hWI hT (A 126 μ.1 0)
  have hn := now_n h hR
  refine (kX12_lengthByReplay9 γ w f _ h.1.toF.1 (trt_of h hWI hT) (hN_of h hWI hT _) (now_ir h hR hM)).imp (fun r w' z => ?_) (fun E w' z => ?_)
  · obtain ⟨z1, z2, z3⟩ := z
    refine ⟨?_, z3⟩
    rw [z2, nodeOf_e h hT, if_pos hn, (h.1.nd (isN_al hn)).2.1.2.1.1]
    exact (now_fit h hR hg).1.1
  · exact nn.mpr hn z.2.1
theorem y_charByReplay (h : CHB p μ f (lvL p μ A) w A) (hWI : WI w) (hR : RB μ S P M A) (hM : M ≤ 598) (hg : A 132 μ.1 0 = 0) (hi : 0 ≤ i ∧ i < A 201 0 0) : KI γ 8 mX12_charByReplay [rv f, .int (I (A 126 μ.1 0)), .int (I i)] w 2 12 (fun r w' => r = A 200 0 i ∧ w' = w) NX := by
  have hT := hR.2.1.2.2.2.1
  have nn := nodeOf_n h hWI hT (A 126 μ.1 0)
  have hn := now_n h hR
  have vN := (h.1.nd (isN_al hn)).2.1.2
  have eq := (now_fit h hR hg).1
  have hl := hR.1.1.1
  refine (kX12_charByReplay9 γ w f _ i h.1.toF.1 (trt_of h hWI hT) (hN_of h hWI hT _) (now_ir h hR hM) (by unfold bL1 at hl; omega)).imp (fun r w' z => ?_) (fun E w' z => ?_)
  · obtain ⟨⟨z1, z4⟩, z2, z3⟩ := z
    rw [nodeOf_e h hT, if_pos hn] at z2 z4
    refine ⟨?_, z3⟩
    rw [z2, vN.1.2.2.1 i z4.1 z4.2]
    have q := eq.2.1 i hi.1 (by rw [eq.1]; exact hi.2)
    rw [show (400 : Int) * 0 + i = i by omega] at q
    exact q
  · obtain ⟨z1, z2, z3⟩ := z
    exact z2 ⟨nn.mpr hn, hi.1, by rw [nodeOf_e h hT, if_pos hn, vN.1.1]; rw [eq.1]; exact hi.2⟩
theorem y_markByReplay (h : CHB p μ f (lvL p μ A) w A) (hWI : WI w) (hR : RB μ S P M A) (hM : M ≤ 598) (hg : A 132 μ.1 0 = 0) (hi : 0 ≤ i ∧ i ≤ 5) : KI γ 8 mX12_markByReplay [rv f, .int (I (A 126 μ.1 0)), .int (I i)] w 2 12 (fun r w' => r = A 202 0 i ∧ w' = w) NX := by
  have hT := hR.2.1.2.2.2.1
  have nn := nodeOf_n h hWI hT (A 126 μ.1 0)
  have hn := now_n h hR
  have eq := (now_fit h hR hg).1
  refine (kX12_markByReplay9 γ w f _ i h.1.toF.1 (trt_of h hWI hT) (hN_of h hWI hT _) (now_ir h hR hM) (by omega)).imp (fun r w' z => ?_) (fun E w' z => ?_)
  · obtain ⟨⟨z1, z4⟩, z2, z3⟩ := z
    rw [nodeOf_e h hT, if_pos hn] at z2
    refine ⟨?_, z3⟩
    rw [z2, ((h.1.nd (isN_al hn)).2.1.2.1.2.2.2 i z4.1 z4.2).1]
    have q := (eq.2.2.1 i hi.1 (by omega)).1
    rw [show (6 : Int) * 0 + i = i by omega] at q
    exact q
  · exact z.2.1 ⟨nn.mpr hn, hi.1, by omega⟩
theorem y_storedByReplay (h : CHB p μ f (lvL p μ A) w A) (hWI : WI w) (hR : RB μ S P M A) (hM : M ≤ 598) (hg : A 132 μ.1 0 = 0) (hq : 0 ≤ q ∧ q ≤ 4) : KI γ 8 mX12_storedByReplay [rv f, .int (I (A 126 μ.1 0)), .int (I q)] w 2 12 (fun r w' => r = (if A 211 0 q = 1 then sumN (fun e => A 205 0 (4 * q + e)) (A 204 0 q).toNat else 0) ∧ w' = w) NX := by
  have hT := hR.2.1.2.2.2.1
  have nn := nodeOf_n h hWI hT (A 126 μ.1 0)
  have hn := now_n h hR
  have ha := isN_al hn
  have q0 : 0 ≤ q := hq.1
  have q1 : q < 5 := by omega
  have hb : ∀ q, 0 ≤ q ∧ q < 5 → ∀ e, 0 ≤ e → e < m_slt q → 0 ≤ pr_ p (A 126 μ.1 0) 205 0 (20 * 1 + 4 * q + e) ∧ pr_ p (A 126 μ.1 0) 205 0 (20 * 1 + 4 * q + e) ≤ 20 := fun q hq e e0 e1 => by
    have hm : m_slt q ≤ 4 ∧ (q < 4 → m_slt q = 1) := by unfold m_slt; split <;> omega
    exact (h.2.1.2 _ ha).1.2.1.2.2.2.2.1 _ (by omega) (by omega)
  refine (kX12_storedByReplay γ w f _ q h.1.toF.1 (trt_of h hWI hT) (hN_of h hWI hT _) (now_ir h hR hM) (fun z => ?_) (by omega)).imp (fun r w' z => ?_) (fun E w' z => ?_)
  · rw [nodeOf_e h hT, if_pos hn]
    exact fun q0 q1 => ((h.1.nd ha).2.1.2.2 q q0 q1).ent (w00 hWI) ⟨q0, q1⟩ (hb q ⟨q0, q1⟩)
  · obtain ⟨z1, z2, z3⟩ := z
    rw [nodeOf_e h hT, if_pos hn] at z2
    obtain ⟨k1, k2, k3⟩ := ((h.1.nd ha).2.1.2.2 q q0 q1).ent2 (w00 hWI) ⟨q0, q1⟩ (hb q ⟨q0, q1⟩)
    rw [k1, sumN_cong (g := fun e => pr_ p (A 126 μ.1 0) 205 0 (20 * 1 + 4 * q + e)) (fun e e0 e1 => (k3 e e0 (by omega)).1)] at z2
    refine ⟨?_, z3⟩
    obtain ⟨eq, eu⟩ := now_fit h hR hg
    by_cases y : A 211 0 q = 1
    · obtain ⟨f1, f2⟩ := eq.2.2.2 q q0 q1 y
      rw [show (5 : Int) * 0 + q = q by omega] at f1
      rw [if_pos y, z2, f1]
      refine sumN_cong fun e e0 e1 => ?_
      have f3 := (f2 e e0 (by rw [f1]; omega)).1
      rw [show (20 : Int) * 0 + 4 * q + e = 4 * q + e by omega] at f3
      exact f3
    · have f1 := eu q q0 q1 y
      rw [if_neg y, z2, show (5 : Int) * 1 + q = 5 + q by omega, f1]; rfl
  · exact z.2.1 ⟨nn.mpr hn, hq.1, by omega⟩
end YN
