/-! a contract's end in other words; queries that read the live desk, the tree's numbers, the trial -/
theorem MX.imp {γ : LC} {d P S : Nat} {mr : MR} {args : List Value} {w : Mm} {Post Post' : Option Value → Mm → Prop} {PX PX' : String → Mm → Prop} (h : MX γ d mr args w P S Post PX) (h1 : ∀ v w', Post v w' → Post' v w') (h2 : ∀ E w', PX E w' → PX' E w') : MX γ d mr args w P S Post' PX' := by
  intro p e ha hc hk s m args below hf happ hP hK
  obtain ⟨n, o, q1, q2, q3, q4⟩ := h p e ha hc hk s m args below hf happ hP hK
  refine ⟨n, o, q1, q2, q3, ?_⟩
  rcases q4 with ⟨⟨v, w', e1, e2, e3⟩, e4⟩ | ⟨q, e1, E, ce, L, ⟨w', x1, x2⟩, x3⟩
  · exact Or.inl ⟨⟨v, w', e1, h1 _ _ e2, e3⟩, e4⟩
  · exact Or.inr ⟨q, e1, E, ce, L, ⟨w', h2 _ _ x1, x2⟩, x3⟩
theorem KI.imp {γ : LC} {d P S : Nat} {mr : MR} {args : List Value} {w : Mm} {Post Post' : Int → Mm → Prop} {PX PX' : String → Mm → Prop} (h : KI γ d mr args w P S Post PX) (h1 : ∀ r w', Post r w' → Post' r w') (h2 : ∀ E w', PX E w' → PX' E w') : KI γ d mr args w P S Post' PX' :=
  MX.imp h (fun v w' ⟨r, e1, e2, e3⟩ => ⟨r, e1, e2, h1 _ _ e3⟩) h2
/-- what a call that answers comes to, and one that may throw the number n -/
def QP (μ : MU) (f : Int) (w : Mm) (q : Int × Mm) (r : Int) (w' : Mm) : Prop := r = q.1 ∧ q.2 139 μ.1 0 = 0 ∧ RES μ f w w' q.2
def QX1 (μ : MU) (f : Int) (w : Mm) (q : Int × Mm) (E0 : String) (E : String) (w' : Mm) : Prop := E = E0 ∧ q.2 139 μ.1 0 = 1 ∧ RES μ f w w' q.2
section QRS
variable {γ : LC} {p : RP} {w A : Mm} {μ : MU} {f c S P M r v : Int} {E : String} {Q : Prop}
theorem CHB.q0 (h : CHB p μ f (lvL p μ A) w A) (hR : RB μ S P M A) (hM : M ≤ 598) (hr : r = v) : QP μ f w (v, up A 139 μ.1 0 0) r w := ⟨hr, up_s _ _ _ _ _, h.r9 hR hM⟩
theorem CHB.q1 (h : CHB p μ f (lvL p μ A) w A) (hR : RB μ S P M A) (hM : M ≤ 598) (E0 : String) : QX1 μ f w (v, up A 139 μ.1 0 1) E0 E0 w := ⟨rfl, up_s _ _ _ _ _, h.r9 hR hM⟩
theorem fee_eq (h : CHB p μ f (lvL p μ A) w A) {n : Int} (hn : n ≤ A 201 0 0) : sumN (fun i => bi (w 1 (w 28 (w 11 (w 41 f 0) 0) 0) i = 10)) n.toNat = m_fee n A := by
  unfold m_fee
  exact sumN_cong fun k k0 k1 => by rw [h.1.txt k0 (by omega)]
theorem q_length (h : CHB p μ f (lvL p μ A) w A) (hR : RB μ S P M A) (hM : M ≤ 598) : KI γ 1 mX12_length [rv f] w 0 0 (QP μ f w (o_length μ A)) NX :=
  (kX12_length γ w f h.1.toF.2.1).imp (fun r w' z => by rw [z.2]; exact h.q0 hR hM (by rw [z.1]; exact h.1.low.2.2.2.1)) (fun _ _ z => z)
theorem q_point (h : CHB p μ f (lvL p μ A) w A) (hR : RB μ S P M A) (hM : M ≤ 598) : KI γ 1 mX12_point [rv f] w 0 0 (QP μ f w (o_point μ A)) NX :=
  (kX12_point γ w f h.1.toF.2.1).imp (fun r w' z => by rw [z.2]; exact h.q0 hR hM (by rw [z.1]; exact h.1.low.2.2.1)) (fun _ _ z => z)
theorem q_charAt (h : CHB p μ f (lvL p μ A) w A) (hR : RB μ S P M A) (hM : M ≤ 598) (hc : IR c) : KI γ 7 mX12_charAt [rv f, .int (I c)] w 1 6 (QP μ f w (o_charAt μ c A)) (QX1 μ f w (o_charAt μ c A) "java/lang/IndexOutOfBoundsException") :=
  (kX12_charAt γ w f c h.1.toF.2.1 h.1.lvs.2.1 hc).imp (fun r w' z => by
    obtain ⟨z1, z2, z3⟩ := z
    rw [h.1.low.2.2.2.1] at z1
    rw [z3]; unfold o_charAt; rw [if_pos (by omega)]
    exact h.q0 hR hM (by rw [z2]; exact h.1.txt z1.1 z1.2)) (fun E w' z => by
    obtain ⟨z1, z2, z3⟩ := z
    rw [h.1.low.2.2.2.1] at z2
    rw [z3, z1]; unfold o_charAt; rw [if_neg (by omega)]
    exact h.q1 hR hM _)
theorem q_lines (h : CHB p μ f (lvL p μ A) w A) (hR : RB μ S P M A) (hM : M ≤ 598) : KI γ 2 mX12_lines [rv f] w 0 0 (QP μ f w (o_lines μ A)) NX :=
  (kX12_lines γ w f h.1.toF.2.1 h.1.lvs.2.1).imp (fun r w' z => by
    obtain ⟨z1, z2⟩ := z
    rw [z2]
    exact h.q0 hR hM (by rw [z1, h.1.low.2.2.2.1, fee_eq h (Int.le_refl _)])) (fun _ _ z => z)
theorem q_lineOf (h : CHB p μ f (lvL p μ A) w A) (hR : RB μ S P M A) (hM : M ≤ 598) (hc : IR c) : KI γ 7 mX12_lineOf [rv f, .int (I c)] w 1 6 (QP μ f w (o_lineOf μ c A)) (QX1 μ f w (o_lineOf μ c A) "java/lang/IndexOutOfBoundsException") :=
  (kX12_lineOf γ w f c h.1.toF.2.1 h.1.lvs.2.1 hc).imp (fun r w' z => by
    obtain ⟨z1, z2, z3⟩ := z
    rw [h.1.low.2.2.2.1] at z1
    rw [z3]; unfold o_lineOf; rw [if_pos (by omega)]
    exact h.q0 hR hM (by rw [z2, fee_eq h (by omega)])) (fun E w' z => by
    obtain ⟨z1, z2, z3⟩ := z
    rw [h.1.low.2.2.2.1] at z2
    rw [z3, z1]; unfold o_lineOf; rw [if_neg (by omega)]
    exact h.q1 hR hM _)
theorem q_markAt (h : CHB p μ f (lvL p μ A) w A) (hR : RB μ S P M A) (hM : M ≤ 598) (hc : IR c) : KI γ 7 mX12_markAt [rv f, .int (I c)] w 1 6 (QP μ f w (o_markAt μ c A)) (QX1 μ f w (o_markAt μ c A) "java/lang/IndexOutOfBoundsException") :=
  (kX12_markAt γ w f c h.1.toF.2.1 h.1.lvs.1 hc).imp (fun r w' z => by
    obtain ⟨z1, z2, z3⟩ := z
    have hp : 0 ≤ c ∧ c ≤ 5 := by omega
    rw [z3]; unfold o_markAt m_ti; rw [if_pos hp, if_pos hp]
    exact h.q0 hR hM (by rw [z2]; exact h.1.mrk z1.1 z1.2)) (fun E w' z => by
    obtain ⟨z1, z2, z3⟩ := z
    have hp : ¬ (0 ≤ c ∧ c ≤ 5) := by omega
    rw [z3, z1]; unfold o_markAt m_ti; rw [if_neg hp, if_neg hp]
    exact h.q1 hR hM _)
theorem q_dvb (h : CHB p μ f (lvL p μ A) w A) : DTl w (w 41 f 0) ∧ DVb w (w 41 f 0) := by
  refine ⟨h.1.1.2.2.1.1.1.toDTl h.1.1.2.2.1.1.2, fun i i0 i1 => ?_⟩
  have := h.1.1.2.2.1.1.2.2.2.2 i i0 i1; omega
theorem q_viewStart (h : CHB p μ f (lvL p μ A) w A) (hR : RB μ S P M A) (hM : M ≤ 598) : KI γ 2 mX12_viewStart [rv f] w 0 0 (QP μ f w (o_viewStart μ A)) NX :=
  (kX12_viewStart γ w f h.1.toF.1 (q_dvb h).1 (q_dvb h).2).imp (fun r w' z => by rw [z.2]; exact h.q0 hR hM (by rw [z.1]; exact h.1.low.1)) (fun _ _ z => z)
theorem q_viewEnd (h : CHB p μ f (lvL p μ A) w A) (hR : RB μ S P M A) (hM : M ≤ 598) : KI γ 2 mX12_viewEnd [rv f] w 0 0 (QP μ f w (o_viewEnd μ A)) NX :=
  (kX12_viewEnd γ w f h.1.toF.1 (q_dvb h).1 (q_dvb h).2).imp (fun r w' z => by rw [z.2]; exact h.q0 hR hM (by rw [z.1]; exact h.1.low.2.1)) (fun _ _ z => z)
theorem q_now (h : CHB p μ f (lvL p μ A) w A) (hR : RB μ S P M A) (hM : M ≤ 598) : KI γ 1 mX12_now [rv f] w 0 0 (QP μ f w (o_now μ A)) NX :=
  (kX12_now γ w f h.1.toF.1 (h.cur hR.2.1.2.2.2.1).2.1 (h.cur hR.2.1.2.2.2.1).2.2).imp (fun r w' z => by rw [z.2]; exact h.q0 hR hM (by rw [z.1]; exact (h.cur hR.2.1.2.2.2.1).1)) (fun _ _ z => z)
theorem q_nodes (h : CHB p μ f (lvL p μ A) w A) (hWI : WI w) (hR : RB μ S P M A) (hM : M ≤ 598) : KI γ 2 mX12_nodes [rv f] w 0 0 (QP μ f w (o_nodes μ A)) NX :=
  (kX12_nodes γ w f h.1.toF.1 (h.1.toTR hWI hR.2.1.2.2.2.1 h.2.1.1.1.1 h.2.1.1.2)).imp (fun r w' z => by rw [z.2]; exact h.q0 hR hM (by rw [z.1]; exact h.1.1.2.2.2.1.1.2.1.1)) (fun _ _ z => z)
theorem q_failureReason (h : CHB p μ f (lvL p μ A) w A) (hV : vTl μ w A f) (hR : RB μ S P M A) (hM : M ≤ 598) : KI γ 1 mX12_failureReason [rv f] w 0 0 (QP μ f w (o_failureReason μ A)) NX :=
  (kX12_failureReason γ w f h.1.toF.1 h.1.1.2.2.2.2.2.1.1).imp (fun r w' z => by rw [z.2]; exact h.q0 hR hM (by rw [z.1]; exact hV.1)) (fun _ _ z => z)
theorem q_failureCommand (h : CHB p μ f (lvL p μ A) w A) (hV : vTl μ w A f) (hR : RB μ S P M A) (hM : M ≤ 598) : KI γ 1 mX12_failureCommand [rv f] w 0 0 (QP μ f w (o_failureCommand μ A)) NX :=
  (kX12_failureCommand γ w f h.1.toF.1 h.1.1.2.2.2.2.2.1.1).imp (fun r w' z => by rw [z.2]; exact h.q0 hR hM (by rw [z.1]; exact hV.2)) (fun _ _ z => z)
end QRS
