/-! each call of the law: the class's, then what the reference's will give -/
def QMi (γ : LC) (μ : MU) (f o n : Int) (mR : MR) (As : List Value) (k r : Int) (w' : Mm) : Prop := ∃ B, MID μ f o n w' B ∧ B 139 μ.1 0 = k ∧ ∃ d, d ≤ 10 ∧ ∀ x, MX γ d mR (rv μ.1 :: As) (up w' 4 o 0 x) 0 0 (PI μ (fun r' w'' => r' = r ∧ w'' = pc (KLw μ) (up w' 4 o 0 x) B)) NX
def QMv (γ : LC) (μ : MU) (f o n : Int) (mR : MR) (As : List Value) (k : Int) (w' : Mm) : Prop := ∃ B, MID μ f o n w' B ∧ B 139 μ.1 0 = k ∧ ∃ d, d ≤ 10 ∧ MX γ d mR (rv μ.1 :: As) w' 0 0 (PV μ (fun w'' => w'' = pc (KLw μ) w' B)) NX
section LOP
variable {γ : LC} {p : RP} {w w' A B : Mm} {μ : MU} {f o n k : Int} {S P M : Int}
theorem RFc.cv (hf : RFc μ w' A) {p : Mm → Prop} (h : p (pc (KLw μ) w' A)) : p w' := Eq.mpr (congrArg p hf) h
theorem RFc.up4 {x i : Int} (h6 : RFc μ w A) : RFc μ (up w 4 o i x) A := by
  unfold RFc at h6 ⊢
  funext c a j
  have e := congrFun (congrFun (congrFun h6 c) a) j
  unfold pc at e ⊢
  by_cases z : KLw μ c a = true
  · rw [if_pos z]
  · rw [if_neg z] at e ⊢
    rw [up_k _ (fun y => z (by rw [y]; exact KLw_lt (by decide)))]
    exact e
theorem QMi.mk {ox : Mm → Int × Mm} {mR : MR} {As : List Value} {d : Nat} (hd : d ≤ 10) (hm : MID μ f o n w' (ox A).2) (hf : RFc μ w' A) (lq : ∀ W, ox (pc (KLw μ) W A) = pcP (KLw μ) W (ox A)) (hR : RM w' μ) (hc : ∀ W, RFc μ W A → CMi γ μ d mR As W (fun r w'' => r = (ox W).1 ∧ w'' = (ox W).2)) (hk : (ox A).2 139 μ.1 0 = k) : QMi γ μ f o n mR As k (ox A).1 w' := by
  refine ⟨_, hm, hk, d, hd, fun x => ?_⟩
  have hfx : RFc μ (up w' 4 o 0 x) A := hf.up4
  have hf' : up w' 4 o 0 x = pc (KLw μ) (up w' 4 o 0 x) A := hfx
  have e : ox (up w' 4 o 0 x) = pcP (KLw μ) (up w' 4 o 0 x) (ox A) := (congrArg ox hf').trans (lq _)
  have h := hc _ hfx hR.up4
  rw [e] at h
  exact h
theorem QMv.mk {ov : Mm → Mm} {mR : MR} {As : List Value} {d : Nat} (hd : d ≤ 10) (hm : MID μ f o n w' (ov A)) (hf : RFc μ w' A) (lq : ∀ W, ov (pc (KLw μ) W A) = pc (KLw μ) W (ov A)) (hR : RM w' μ) (hc : ∀ W, RFc μ W A → CMv γ μ d mR As W (fun w'' => w'' = ov W)) (hk : ov A 139 μ.1 0 = k) : QMv γ μ f o n mR As k w' := by
  have hf' : w' = pc (KLw μ) w' A := hf
  have e : ov w' = pc (KLw μ) w' (ov A) := (congrArg ov hf').trans (lq _)
  have h := hc _ hf hR
  rw [e] at h
  exact ⟨_, hm, hk, d, hd, h⟩
theorem RM.upt (h : RM w μ) (u : UPT w w') : RM w' μ := by
  have h0 : w 0 μ.1 0 ≠ 0 := by rw [h.1]; decide
  refine ⟨(u.1 0 _ 0 h0 (Or.inl rfl)).trans h.1, fun j hj => ?_⟩
  obtain ⟨z1, z2, z3⟩ := h.2 j hj
  have h1 : w 0 (μ.2 j) 0 ≠ 0 := by rw [z2]; omega
  exact ⟨(u.1 _ _ 0 h0 (Or.inr (Or.inr (by omega)))).trans z1, (u.1 0 _ 0 h1 (Or.inl rfl)).trans z2, (u.1 2 _ 0 h1 (Or.inr (Or.inl rfl))).trans z3⟩
theorem OUT.upt (h : OUT o w) (u : UPT w w') : OUT o w' := by
  have h0 : w 0 o 0 ≠ 0 := by rw [h.1]; decide
  exact ⟨(u.1 0 _ 0 h0 (Or.inl rfl)).trans h.1, (u.1 2 _ 0 h0 (Or.inr (Or.inl rfl))).trans h.2⟩
theorem MID.of (hI : LIn μ f (56 * n) (600 * n) (1 + n) w A) (hR : RM w μ) (hO : OUT o w) (r : RES μ f w w' B) (hB : RB μ (56 * n + 56) (600 * n + 600) (1 + n + 1) B) (z : PTX μ B) (i : IVS μ B) (e : F34 μ A B) : MID μ f o n w' B ∧ RFc μ w' A ∧ RM w' μ := by
  have q := hI.nx r hB z i (e 134 (Or.inl rfl)) (e 135 (Or.inr rfl))
  obtain ⟨p', r1, u⟩ := r
  have hR' := hR.upt u.1
  refine ⟨⟨?_, hR', hO.upt u.1⟩, q.2, hR'⟩
  rw [show 56 * (n + 1) = 56 * n + 56 by omega, show 600 * (n + 1) = 600 * n + 600 by omega, show 1 + (n + 1) = 1 + n + 1 by omega]
  exact q.1
theorem MID.ofv (hI : LIn μ f (56 * n) (600 * n) (1 + n) w A) (hR : RM w μ) (hO : OUT o w) (r : RESv μ f w w' B) (hB : RB μ (56 * n + 56) (600 * n + 600) (1 + n + 1) B) (z : PTX μ B) (i : IVS μ B) : MID μ f o n w' B ∧ RFc μ w' A ∧ RM w' μ := by
  have q := hI.nxv r hB z i
  obtain ⟨p', r1, hv, u, -⟩ := r
  have hR' := hR.upt u
  refine ⟨⟨?_, hR', hO.upt u⟩, q.2, hR'⟩
  rw [show 56 * (n + 1) = 56 * n + 56 by omega, show 600 * (n + 1) = 600 * n + 600 by omega, show 1 + (n + 1) = 1 + n + 1 by omega]
  exact q.1
theorem CHL.nn {m : Int} {b : Mm} : ∀ {ps : List Int} {p : Int}, CHL m b p ps → ∀ q ∈ ps, 0 ≤ b 220 0 q
  | [], _, _, q, hq => by cases hq
  | x :: xs, p, h, q, hq => by
    rcases List.mem_cons.mp hq with e | e
    · rw [e]; exact h.2.2.1.2.1
    · exact CHL.nn h.2.2.2.2.2 q e
theorem szL_ok {c : Int} (hC : CHB p μ f (lvL p μ A) w A) (hB : RB μ S P M A) (hM : M ≤ 598) : (fun V : Mm => isN μ c V → szL V (pl_ p c) ≤ 2000000) (pc (KLw μ) w' A) := by
  intro z
  rw [lq_szL KLw_ok]
  have z' : isN μ c A := by
    unfold isN at z ⊢
    rw [pcm (by decide), pc0 (by decide)] at z
    exact z
  have hT := hB.2.1.2.2.2.1
  have hTI := hC.2.1.1.1
  have ha := isN_al z'
  by_cases e : c = 0
  · rw [e, hTI.2.1]; show (0 : Int) ≤ 2000000; decide
  · have hk := hTI.2.2.1 c (by omega) ha
    have hr := (hTI.2.2.2.1 c ha).2.2
    rw [hT.rsp ⟨by omega, by omega⟩, List.length_append] at hr
    have hl : ∀ q ∈ pl_ p c, 0 ≤ A 220 0 q := fun q hq => hk.1.nn q hq
    have h1 := szL_len hl
    rw [ixN_len] at h1
    have h2 := hT.2.2.2.2.1
    omega
end LOP
set_option maxRecDepth 4000 in
theorem c_stepsOf2 (γ : LC) (μ : MU) (w : Mm) (PL : Int → List Int) (c : Int) (S P M : Int) (hc : IR c) (hRA : RPA μ PL w) (hEx : bEx μ w) (hP0 : PL 0 = []) (hSz : isN μ c w → szL w (PL c) ≤ 2000000) (hR0 : RB μ S P M w) (hS : S ≤ 28900) (hP : P ≤ 500000) (hM : M ≤ 590) : CMi γ μ 3 mX13_stepsOf [.int (I c)] w (fun r w' => r = (o_stepsOf μ PL c w).1 ∧ w' = (o_stepsOf μ PL c w).2) := by
  refine CMi_of rfl (by simp [rv_cat, Value.category]) rfl ?_
  rintro κ hO hF rfl hR
  have hD := hF.dp
  show X κ 0 0 w 0 [some (rv μ.1), some (.int (I c)), none, none] []
  have hTB := hR0.2.1.2.2.2.1
  have hp := hTB.pr
  have hp1 : ∀ j, 1 ≤ j → j < w 124 μ.1 0 → 0 ≤ w 217 0 j := fun j a b => (hTB.2.2.2.2.2.2 j (by omega) b).2.2.1 a
  have hch : isN μ c w → CHL 640 w (w 221 0 c) (PL c) := fun h => by
    by_cases e : c = 0
    · rw [e, hP0]; exact hEx.2.2.2
    · exact ((hRA c (by omega) (by omega) h.2).ch (pln_one hp hp1 (by omega) e)).1
  have hL := hR0.1
  obtain ⟨f1, f2, f3, f4, f5⟩ := hR0.1.f
  obtain ⟨t1, t2, t3, t4, t5, t6, t7⟩ := hR0.2.1.2.2.2.1
  refine X_iconst 1 hO dX13_stepsOf_0 rfl ?_
  refine X_istore_n 2 hO dX13_stepsOf_1 rfl rfl ?_
  refine X_aload_n 3 hO dX13_stepsOf_2 rfl rfl ?_
  refine X_iload_n 4 hO dX13_stepsOf_3 rfl rfl ?_
  refine XM_callVi 7 hO hD hR lX13_442 [_] rfl dX13_stepsOf_4 rfl (c_hasNode _ _ _ _ _ _ _ (by omega) hR0 hS hP hM) (by decide) (by simp only [List.map_cons, List.map_nil, rv_cat]; exact Nat.le_of_ble_eq_true rfl) (fun r_4 w_4 hr_4 hp_4 hR => ?_)
  obtain ⟨e1_4, e2_4⟩ := hp_4
  subst e1_4
  subst e2_4
  have JP20 : ∀ (p : Int) (L : List Int), (CHL 640 w p L) → (szL w L = if isN μ c w then szL w (PL c) else 0) → (szL w L ≤ 2000000) → (RM (m_ti μ (isN μ c w) w) μ) → X κ 0 0 (m_ti μ (isN μ c w) w) 20 [some (rv μ.1), some (.int (I c)), some (.int (I 0)), none] [.int (I p)] := by
    intro p L hCL hLt hLs hR
    refine X_istore_n 21 hO dX13_stepsOf_20 rfl rfl ?_
    have LP21 : ∀ (n : Nat) (ps : List Int) (p n0 : Int), ps.length < n → (CHL 640 w p ps) → (n0 + szL w ps = szL w L ∧ 0 ≤ n0) → (0 ≤ szL w ps) → RM (m_ti μ (isN μ c w) w) μ → X κ 0 0 (m_ti μ (isN μ c w) w) 21 [some (rv μ.1), some (.int (I c)), some (.int (I n0)), some (.int (I p))] [] := by
      intro n
      induction n with
      | zero => intro ps p n0 hm; exact absurd hm (Nat.not_lt_zero _)
      | succ n ih =>
        intro ps p n0 hm hCp hn hnn hR
        have hpr : -1 ≤ p ∧ p < 640 := by
          cases ps with
          | nil => have h1 : p = -1 := hCp; omega
          | cons q qs => have h1 := hCp.1; have h2 := hCp.2.1; omega
        refine X_iload_n 22 hO dX13_stepsOf_21 rfl rfl ?_
        refine X_iconst 23 hO dX13_stepsOf_22 rfl ?_
        refine X_icmp_eq 26 45 hO dX13_stepsOf_23 rfl rfl (by omega) (by omega) (fun hc_23 => ?_) (fun hc_23 => ?_)
        ·
          have hps : ps = [] := by
            cases ps with
            | nil => rfl
            | cons q qs => exfalso; have := hCp.1; have := hCp.2.1; omega
          subst hps
          have hz0 : szL w [] = 0 := rfl
          refine X_iload_n 46 hO dX13_stepsOf_45 rfl rfl ?_
          exact XM_iret hO hF hR rfl (by first | exact Or.inl rfl | exact Or.inr ⟨rfl, bi_01 _⟩ | exact Or.inr ⟨rfl, by omega⟩) dX13_stepsOf_46 (by first | assumption | omega | exact I_rng _) (by unfold o_stepsOf; by_cases hcc : isN μ c w; (rw [if_pos hcc] at hLt ⊢; exact ⟨by dsimp only; omega, rfl⟩); (rw [if_neg hcc] at hLt ⊢; exact ⟨by dsimp only; omega, rfl⟩))
        ·
          cases ps with
          | nil => exact absurd hCp (by assumption)
          | cons q qs =>
          obtain ⟨hC1, hC2, hC3, hC4, hC5, hC6⟩ := hCp
          subst hC1
          have hqn := szL_nn hC6
          have hq1 : szL w (p :: qs) = w 220 0 p + szL w qs := rfl
          refine X_iload_n 27 hO dX13_stepsOf_26 rfl rfl ?_
          refine X_aload_n 28 hO dX13_stepsOf_27 rfl rfl ?_
          refine ga_78 31 hO hR dX13_stepsOf_28 rfl ?_
          refine X_iload_n 32 hO dX13_stepsOf_31 rfl rfl ?_
          refine ma_ld (L := 640) (c := 220) 33 hO hR rfl rfl rfl dX13_stepsOf_32 rfl (by omega) (by omega) (fun hi_32 => ?_)
          try simp (disch := decide) only [up_k, up_s, step_at, pool_at, poolN_at, opens_at, closes_at, fl_at, del_at, ins_at, rep_at, psh_at, trn_at, tak_at, pEn_at, cpQ_at, cpP_at, cpT_at, ti_at, th_at, rec_at, saves_at] at hi_32 ⊢
          refine X_iadd 34 hO dX13_stepsOf_33 rfl ?_
          refine X_istore_n 35 hO dX13_stepsOf_34 rfl rfl ?_
          refine X_aload_n 36 hO dX13_stepsOf_35 rfl rfl ?_
          refine ga_87 39 hO hR dX13_stepsOf_36 rfl ?_
          refine X_iload_n 40 hO dX13_stepsOf_39 rfl rfl ?_
          refine ma_ld (L := 640) (c := 223) 41 hO hR rfl rfl rfl dX13_stepsOf_40 rfl (by omega) (by omega) (fun hi_40 => ?_)
          try simp (disch := decide) only [up_k, up_s, step_at, pool_at, poolN_at, opens_at, closes_at, fl_at, del_at, ins_at, rep_at, psh_at, trn_at, tak_at, pEn_at, cpQ_at, cpP_at, cpT_at, ti_at, th_at, rec_at, saves_at] at hi_40 ⊢
          refine X_istore_n 42 hO dX13_stepsOf_41 rfl rfl ?_
          refine X_goto hO dX13_stepsOf_42 (tgt := 21) rfl ?_
          exact ih qs _ _ (by simp only [List.length_cons] at hm; omega) hC6 (by omega) hqn hR
    exact LP21 _ L p 0 (Nat.lt_succ_self _) hCL (by omega) (szL_nn hCL) hR
  refine X_if_eq 10 19 hO dX13_stepsOf_7 rfl rfl (by omega) (fun hc_7 => ?_) (fun hc_7 => ?_)
  ·
    try simp only [bi_0, bi_ne, ne_eq, Classical.not_not] at hc_7
    refine X_iconst 20 hO dX13_stepsOf_19 rfl ?_
    (first | exact JP20 _ [] rfl (by rw [if_neg (by omega)]; rfl) (by show (0 : Int) ≤ 2000000; decide) hR | exact JP20 _ (PL c) (hch (by omega)) (by rw [if_pos (by omega)]) (hSz (by omega)) hR)
  ·
    try simp only [bi_0, bi_ne, ne_eq, Classical.not_not] at hc_7
    refine X_aload_n 11 hO dX13_stepsOf_10 rfl rfl ?_
    refine ga_81 14 hO hR dX13_stepsOf_11 rfl ?_
    refine X_iload_n 15 hO dX13_stepsOf_14 rfl rfl ?_
    refine ma_ld (L := 640) (c := 221) 16 hO hR rfl rfl rfl dX13_stepsOf_15 rfl (by omega) (by omega) (fun hi_15 => ?_)
    try simp (disch := decide) only [up_k, up_s, step_at, pool_at, poolN_at, opens_at, closes_at, fl_at, del_at, ins_at, rep_at, psh_at, trn_at, tak_at, pEn_at, cpQ_at, cpP_at, cpT_at, ti_at, th_at, rec_at, saves_at] at hi_15 ⊢
    refine X_goto hO dX13_stepsOf_16 (tgt := 20) rfl ?_
    (first | exact JP20 _ [] rfl (by rw [if_neg (by omega)]; rfl) (by show (0 : Int) ≤ 2000000; decide) hR | exact JP20 _ (PL c) (hch (by omega)) (by rw [if_pos (by omega)]) (hSz (by omega)) hR)

