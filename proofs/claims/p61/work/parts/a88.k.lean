/-! a checkpoint that is called outside a run -/
section CKP
variable {p : RP} {w w' A : Mm} {μ : MU} {f S P M v a b x : Int} {L : List Int}
theorem rec_129 : m_rec μ x a b (up A 129 μ.1 0 v) = up (m_rec μ x a b A) 129 μ.1 0 v := by
  unfold m_rec m_rec1
  rw [up_k _ (by decide), up_k _ (by decide)]
  split
  · rw [up_comm (c := 129) (c' := 235) (Or.inl (by decide)), up_comm (c := 129) (c' := 235) (Or.inl (by decide)), up_comm (c := 129) (c' := 235) (Or.inl (by decide)), up_comm (c := 129) (c' := 236) (Or.inl (by decide))]
  · rfl
theorem RLm.savun (h : RLm p μ f L w (m_saves μ 2 A)) (hl : 0 ≤ A 122 μ.1 0 ∧ A 122 μ.1 0 ≤ A 120 μ.1 0) (hSB : SB 0 A) (hSB1 : SB 0 (m_saves μ 2 A)) : RLm p μ f L w A := by
  have e : ∀ {c : Nat} {x i : Int}, c < 200 ∨ (210 < c ∧ c ≠ 214 ∧ c ≠ 215) → A c x i = m_saves μ 2 A c x i := fun z => (saves_at z).symm
  refine h.cA (by rw [← e (by decide), ← e (by decide)]; exact hl) hSB1.2.2.2.2.1 (AgO.of fun c a i z => e (by omega)) (fun i => e (by decide)) (e (by decide)) (fun k _ _ => e (by decide)) (fun k i x y i0 i1 => ?_)
  rw [saves_cpy k i x (by omega)]
  exact (cpy_o ⟨x, by omega⟩ (Or.inl (by omega)) hSB.1.2).symm
end CKP
set_option maxRecDepth 4000 in
theorem kX12_call17 (γ : LC) (w : Mm) (f : Int) (p : RP) (μ : MU) (A : Mm) (S P M : Int) (h : CHB p μ f (lvL p μ A) w A) (hRB : RB μ S P M A) (hS : S ≤ 28900) (hP : P ≤ 500000) (hM : M ≤ 598) (hb28 : ∀ j, 0 ≤ j → j < 3 → A 228 0 j = 0 ∨ A 228 0 j = 1) : KI γ 13 mX12_call [rv f, .int (I 17), .int (I 0), .int (I 0)] w (45) (3100) (fun r w' => (o_checkpoint μ A) 139 μ.1 0 = 0 ∧ RES μ f w w' (o_checkpoint μ A)) (fun E w' => E = "java/lang/IllegalStateException" ∧ (o_checkpoint μ A) 139 μ.1 0 = 1 ∧ RES μ f w w' (o_checkpoint μ A)) := by
  refine MX_of rfl rfl (by simp [rv_cat, int_cat]) rfl ?_
  rintro κ hO hF rfl
  have hD := hF.dp
  show X κ (45) (3100) w 0 [some (rv f), some (.int (I 17)), some (.int (I 0)), some (.int (I 0))] []
  refine X_wi fun hWI => ?_
  obtain ⟨hr, hTX, hLV⟩ := id h
  obtain ⟨t0, hFB, t2, -⟩ := hr.toF
  obtain ⟨hB0, hK0, hZ0, hY0⟩ := id hRB
  have hT := hK0.2.2.2.1
  have hl : 0 ≤ A 122 μ.1 0 ∧ A 122 μ.1 0 ≤ A 120 μ.1 0 := hLV.b0.1
  have h120 := hB0.2.2.2.2.1
  have hSB := hB0.1
  have hLn : ((lvL p μ A).length : Int) ≤ 30000 := by unfold lvL; rw [List.length_map, rng_len]; omega
  obtain ⟨b1, b2, b5⟩ := cal_pre hRB
  have hz1 := hZ0.1
  have hz5 := hZ0.2.2.2.2
  have hz236 := hK0.2.2.2.2.2.2
  have e1 : ∀ {c : Nat} {x i : Int}, c < 200 ∨ (210 < c ∧ c ≠ 214 ∧ c ≠ 215) → m_saves μ 2 A c x i = A c x i := fun z => saves_at z
  have hR1 : RBc μ (lvL p μ A) (m_saves μ 2 A) := ⟨by rw [e1 (by decide), e1 (by decide)]; exact hl, b1.1, b1.2.1, b1.2.2.1, b1.2.2.2.1, hLn⟩
  refine X_aload_n 1 hO dX12_call_0 rfl rfl ?_
  refine X_kVv (t := 13) 4 hO hD lX12_73 rfl (by decide) [] rfl dX12_call_1 rfl (by first | assumption | omega | (simp (disch := first | decide | assumption | omega) only [up_k, up_s, up_a, up_i, flA_k, flA_a, flA_n, cpA_k, cpA_a, newO_o, newA_o, newO_t, newA_t, newA_n, cpQ_k, cpQ_a] <;> first | assumption | omega)) (kX12_prepare _ _ _ p μ (lvL p μ A) A hr hl hSB.2.2.2.2.1 hSB.1.2 (by omega)) (by decide) (by simp [rv_cat, int_cat]) (by first | decide | exact Nat.zero_le _ | omega) (by first | decide | exact Nat.zero_le _ | omega) (fun w_1 hp_1 => ?_) (fun E w_ hx_ => (XE_out hO hF (by
  obtain ⟨x1, x2, x3⟩ := hx_
  have hf : m_full μ A := ⟨x2.1, by
    have := x2.2
    have := hz236; unfold bMc at this
    have := this 4 (by decide) (by decide)
    omega⟩
  have eo : o_checkpoint μ A = m_th μ 1 A := by unfold o_checkpoint; rw [if_pos hf]
  rw [eo, x3]
  exact ⟨x1, up_s _ _ _ _ _, h.r9 hRB hM⟩)))
  obtain ⟨nf, r1, r2, r3⟩ := hp_1
  have c13 : w_1 0 f 0 = 13 := r1.toF.1
  have nf' : ¬ m_full μ A := fun z => nf ⟨z.1, by have := z.2; omega⟩
  have g1 : UPG f w w_1 := r3.toG hr.1.2.1.1 hr.1.2.2.2.2.2.1 (fun k z1 z => by unfold SDb at z; omega) (fun k z => by unfold SDb at z; omega)
  have q1 : RLm p μ f (lvL p μ A) w_1 A := r1.savun hl hSB b1.1
  have k1 : CHB p μ f (lvL p μ A) w_1 A := ⟨q1, hTX, hLV⟩
  refine X_aload_n 5 hO dX12_call_4 rfl rfl ?_
  refine X_iload_n 6 hO dX12_call_5 rfl rfl ?_
  refine X_iload_n 7 hO dX12_call_6 rfl rfl ?_
  refine X_iload_n 8 hO dX12_call_7 rfl rfl ?_
  refine X_kVv (t := 13) 11 hO hD lX12_76 rfl (by decide) [_, _, _] rfl dX12_call_8 rfl (by first | assumption | omega | (simp (disch := first | decide | assumption | omega) only [up_k, up_s, up_a, up_i, flA_k, flA_a, flA_n, cpA_k, cpA_a, newO_o, newA_o, newO_t, newA_t, newA_n, cpQ_k, cpQ_a] <;> first | assumption | omega)) (kX12_performOrRefuse _ _ _ _ _ _ p μ (lvL p μ A) (m_saves μ 2 A) r1 hR1 (by decide) (by decide) (by decide) (fun z => absurd z (by decide))) (by decide) (by simp [rv_cat, int_cat]) (by first | decide | exact Nat.zero_le _ | omega) (by first | decide | exact Nat.zero_le _ | omega) (fun w_8 hp_8 => ?_) (fun E w_ hx_ => (XE_out hO hF (by have := hx_.2.1; omega)))
  obtain ew8 := hp_8.2 (by decide)
  subst w_8
  have e87 : w_1 87 f 0 = A 132 μ.1 0 := q1.1.2.1.2.2.2.2.1
  have hr87 : w_1 87 f 0 = 0 ∨ w_1 87 f 0 = 1 := by rw [e87]; exact hz1
  have hm8 : MT w_1 (w_1 49 f 0) := q1.1.2.2.2.2.1.2.2.1.1
  have eo : o_checkpoint μ A = m_rec μ 16 0 0 (up (up A 139 μ.1 0 0) 129 μ.1 0 (-1)) := by unfold o_checkpoint; rw [if_neg nf', rec_129]; rfl
  have done : ∀ (w4 : Mm), w4 = (if w_1 86 f 0 = -1 then up w_1 88 f 0 0 else c_app (w_1 49 f 0) 17 0 0 (up w_1 88 f 0 0)) → (o_checkpoint μ A) 139 μ.1 0 = 0 ∧ RES μ f w w4 (o_checkpoint μ A) ∧ w4 0 f 0 = 13 := fun w4 y5 => by
    have n := k1.note (x := 16) (a := 0) (b := 0) (k := 0) (w' := w4) hT (by omega) hK0.2.2.1 (by
      intro z; have : ¬ (A 236 0 4 = 16) := fun y => nf' ⟨z, y⟩
      have := nf; omega) (by rw [y5]; rfl)
    rw [eo]
    exact ⟨by rw [rec_at (by decide), up_k _ (by decide), up_s], ⟨p, n.1, g1.trans n.2.1⟩, n.1.1.toF.1⟩
  refine X_aload_n 12 hO dX12_call_11 rfl rfl ?_
  refine gX12_87 15 hO dX12_call_12 rfl (by first | assumption | omega | (simp (disch := first | decide | assumption | omega) only [up_k, up_s, up_a, up_i, flA_k, flA_a, flA_n, cpA_k, cpA_a, newO_o, newA_o, newO_t, newA_t, newA_n, cpQ_k, cpQ_a] <;> first | assumption | omega)) (fun hi_12 => ?_)
  try simp (disch := first | decide | assumption | omega) only [up_k, up_s, up_a, up_i, flA_k, flA_a, flA_n, cpA_k, cpA_a, newO_o, newA_o, newO_t, newA_t, newA_n, cpQ_k, cpQ_a] at hi_12 ⊢
  refine X_if_ne 18 23 hO dX12_call_15 rfl rfl (by omega) (fun hc_15 => ?_) (fun hc_15 => ?_)
  ·
    try simp only [bi_0, bi_ne, ne_eq, Classical.not_not] at hc_15
    refine X_aload_n 24 hO dX12_call_23 rfl rfl ?_
    refine X_iload_n 25 hO dX12_call_24 rfl rfl ?_
    refine X_iload_n 26 hO dX12_call_25 rfl rfl ?_
    refine X_iload_n 27 hO dX12_call_26 rfl rfl ?_
    refine X_kVv (t := 13) 30 hO hD lX12_95 rfl (by decide) [_, _, _] rfl dX12_call_27 rfl (by first | assumption | omega | (simp (disch := first | decide | assumption | omega) only [up_k, up_s, up_a, up_i, flA_k, flA_a, flA_n, cpA_k, cpA_a, newO_o, newA_o, newO_t, newA_t, newA_n, cpQ_k, cpQ_a] <;> first | assumption | omega)) (kX12_noteCommand _ _ _ _ _ _ (by assumption) (by assumption) (by decide) (by decide) (by decide)) (by decide) (by simp [rv_cat, int_cat]) (by first | decide | exact Nat.zero_le _ | omega) (by first | decide | exact Nat.zero_le _ | omega) (fun w_27 hp_27 => ?_) (fun E w_ hx_ => hx_.elim)
    obtain ⟨x7, x8, x9⟩ := done _ hp_27
    refine X_aload_n 31 hO dX12_call_30 rfl rfl ?_
    refine gX12_122 34 hO dX12_call_31 rfl (by first | assumption | omega | (simp (disch := first | decide | assumption | omega) only [up_k, up_s, up_a, up_i, flA_k, flA_a, flA_n, cpA_k, cpA_a, newO_o, newA_o, newO_t, newA_t, newA_n, cpQ_k, cpQ_a] <;> first | assumption | omega)) (fun hi_31 => ?_)
    try simp (disch := first | decide | assumption | omega) only [up_k, up_s, up_a, up_i, flA_k, flA_a, flA_n, cpA_k, cpA_a, newO_o, newA_o, newO_t, newA_t, newA_n, cpQ_k, cpQ_a] at hi_31 ⊢
    exact X_iret hO hF rfl (by first | exact Or.inl rfl | exact Or.inr ⟨rfl, bi_01 _⟩ | exact Or.inr ⟨rfl, by omega⟩) dX12_call_34 ⟨_, rfl, (by omega), ⟨x7, x8⟩⟩
  ·
    try simp only [bi_0, bi_ne, ne_eq, Classical.not_not] at hc_15
    refine X_aload_n 19 hO dX12_call_18 rfl rfl ?_
    refine X_iconst 20 hO dX12_call_19 rfl ?_
    refine X_kVv (t := 13) 23 hO hD lX12_91 rfl (by decide) [_] rfl dX12_call_20 rfl (by first | assumption | omega | (simp (disch := first | decide | assumption | omega) only [up_k, up_s, up_a, up_i, flA_k, flA_a, flA_n, cpA_k, cpA_a, newO_o, newA_o, newO_t, newA_t, newA_n, cpQ_k, cpQ_a] <;> first | assumption | omega)) (kX12_makeChange _ _ _ 0 p μ (m_saves μ 2 A) S P M (CHB.sav h hT (by omega) hK0.2.2.1 hSB r1) b1 b2 (by omega) (by omega) hM (by rw [e1 (by decide), e1 (by decide)]; exact hZ0.2.2.1.2) (fun j j0 j1 => by rw [e1 (by decide)]; exact hb28 j j0 j1) (Or.inl rfl) ((CHK.ini h hT (by omega) hK0.2.2.1 hSB r1 (by rw [ed_fr hr.1.2.1.1 r3 (SDb.std (Or.inr (Or.inl rfl))) hl.1 (by decide)]; exact r2)).kpb b2.1.1) (CHK.ini h hT (by omega) hK0.2.2.1 hSB r1 (by rw [ed_fr hr.1.2.1.1 r3 (SDb.std (Or.inr (Or.inl rfl))) hl.1 (by decide)]; exact r2)).2.2 (CHK.ini h hT (by omega) hK0.2.2.1 hSB r1 (by rw [ed_fr hr.1.2.1.1 r3 (SDb.std (Or.inr (Or.inl rfl))) hl.1 (by decide)]; exact r2)).2.1.2.2) (by decide) (by simp [rv_cat, int_cat]) (by first | decide | exact Nat.zero_le _ | omega) (by first | decide | exact Nat.zero_le _ | omega) (fun w_20 hp_20 => ?_) (fun E w_ hx_ => (XE_out hO hF (by
  have hz0 : A 122 μ.1 0 = A 120 μ.1 0 := hz5 (by omega)
  have z := hx_.2.1
  rw [e1 (by decide), e1 (by decide)] at z
  exact absurd hz0.symm z)))
    have hz0 : A 122 μ.1 0 = A 120 μ.1 0 := hz5 (by omega)
    rw [e1 (by decide), e1 (by decide)] at hp_20
    have ew20 := (hp_20.resolve_right (fun z => z.1 hz0.symm)).2
    subst w_20
    refine X_aload_n 24 hO dX12_call_23 rfl rfl ?_
    refine X_iload_n 25 hO dX12_call_24 rfl rfl ?_
    refine X_iload_n 26 hO dX12_call_25 rfl rfl ?_
    refine X_iload_n 27 hO dX12_call_26 rfl rfl ?_
    refine X_kVv (t := 13) 30 hO hD lX12_95 rfl (by decide) [_, _, _] rfl dX12_call_27 rfl (by first | assumption | omega | (simp (disch := first | decide | assumption | omega) only [up_k, up_s, up_a, up_i, flA_k, flA_a, flA_n, cpA_k, cpA_a, newO_o, newA_o, newO_t, newA_t, newA_n, cpQ_k, cpQ_a] <;> first | assumption | omega)) (kX12_noteCommand _ _ _ _ _ _ (by assumption) (by assumption) (by decide) (by decide) (by decide)) (by decide) (by simp [rv_cat, int_cat]) (by first | decide | exact Nat.zero_le _ | omega) (by first | decide | exact Nat.zero_le _ | omega) (fun w_27 hp_27 => ?_) (fun E w_ hx_ => hx_.elim)
    obtain ⟨x7, x8, x9⟩ := done _ hp_27
    refine X_aload_n 31 hO dX12_call_30 rfl rfl ?_
    refine gX12_122 34 hO dX12_call_31 rfl (by first | assumption | omega | (simp (disch := first | decide | assumption | omega) only [up_k, up_s, up_a, up_i, flA_k, flA_a, flA_n, cpA_k, cpA_a, newO_o, newA_o, newO_t, newA_t, newA_n, cpQ_k, cpQ_a] <;> first | assumption | omega)) (fun hi_31 => ?_)
    try simp (disch := first | decide | assumption | omega) only [up_k, up_s, up_a, up_i, flA_k, flA_a, flA_n, cpA_k, cpA_a, newO_o, newA_o, newO_t, newA_t, newA_n, cpQ_k, cpQ_a] at hi_31 ⊢
    exact X_iret hO hF rfl (by first | exact Or.inl rfl | exact Or.inr ⟨rfl, bi_01 _⟩ | exact Or.inr ⟨rfl, by omega⟩) dX12_call_34 ⟨_, rfl, (by omega), ⟨x7, x8⟩⟩
