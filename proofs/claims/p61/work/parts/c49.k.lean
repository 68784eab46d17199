/-! a run, with the tree's points -/
set_option maxRecDepth 4000 in
theorem kX12_run2 (γ : LC) (w : Mm) (f m k : Int) (p : RP) (μ : MU) (A : Mm) (S P M : Int) (h : CHB p μ f (lvL p μ A) w A) (hV : vTl μ w A f) (hRB : RB μ S P M A) (hS : S ≤ 28900) (hP : P ≤ 500000) (hM : M ≤ 598) (hb28 : ∀ j, 0 ≤ j → j < 3 → A 228 0 j = 0 ∨ A 228 0 j = 1) (hm : IR m) (hk : IR k) (hPN : PTN μ A) : KI γ 20 mX12_run [rv f, .int (I m), .int (I k)] w (175) (13300) (fun r w' => r = (o_run μ m k A).1 ∧ (o_run μ m k A).2 139 μ.1 0 = 0 ∧ RESv μ f w w' (o_run μ m k A).2 ∧ PTX μ (o_run μ m k A).2) (fun E w' => ((E = "java/lang/IndexOutOfBoundsException" ∧ (o_run μ m k A).2 139 μ.1 0 = 1) ∨ (E = "java/lang/IllegalArgumentException" ∧ (o_run μ m k A).2 139 μ.1 0 = 2) ∨ (E = "java/lang/IllegalStateException" ∧ (o_run μ m k A).2 139 μ.1 0 = 3)) ∧ RESv μ f w w' (o_run μ m k A).2 ∧ PTX μ (o_run μ m k A).2) := by
  refine MX_of rfl rfl (by simp [rv_cat, int_cat]) rfl ?_
  rintro κ hO hF rfl
  have hD := hF.dp
  show X κ (175) (13300) w 0 [some (rv f), some (.int (I m)), some (.int (I k))] []
  have h9 := h.o9 (v := 0) hRB hM
  have hR9 : RB μ S P M (up A 139 μ.1 0 0) := hRB.o9
  obtain ⟨hr, hTX, hLV⟩ := id h9
  obtain ⟨t0, hFB, t2, -⟩ := hr.toF
  obtain ⟨hB0, hK0, hZ0, hY0⟩ := id hR9
  have hT := hK0.2.2.2.1
  have hl := hLV.b0.1
  have h120 := hB0.2.2.2.2.1
  have hSB := hB0.1
  have hLn : ((lvL p μ (up A 139 μ.1 0 0)).length : Int) ≤ 30000 := by unfold lvL; rw [List.length_map, rng_len]; omega
  obtain ⟨b1, b2, b5⟩ := cal_pre hR9
  have hz1 : A 132 μ.1 0 = 0 ∨ A 132 μ.1 0 = 1 := hRB.2.2.1.1
  have hz236 := hRB.2.1.2.2.2.2.2.2
  refine X_iload_n 1 hO dX12_run_0 rfl rfl ?_
  refine X_iconst 2 hO dX12_run_1 rfl ?_
  refine X_kSv 5 hO hD lX12_132 [_, _] rfl dX12_run_2 rfl (kX12_requireIndex _ _ _ _ (by omega) (by omega)) (by decide) (by simp [rv_cat, int_cat]) (by first | decide | exact Nat.zero_le _ | omega) (by first | decide | exact Nat.zero_le _ | omega) (fun w_2 hp_2 => ?_) (fun E w_ hx_ => (XE_out hO hF (by
  obtain ⟨x1, x2, x3⟩ := hx_
  have hn : ¬ (0 ≤ m ∧ m ≤ 3) := by omega
  have eo : o_run μ m k A = (0, m_th μ 1 A) := by unfold o_run; rw [if_neg hn]
  rw [eo, x3]
  exact ⟨Or.inl ⟨x1, up_s _ _ _ _ _⟩, h.rv9 hRB hM hV, h.p9 hRB hM hPN⟩)))
  obtain ⟨e1_2, e2_2⟩ := hp_2
  subst w_2
  have hm0 : 0 ≤ m ∧ m ≤ 3 := by omega
  refine X_iload_n 6 hO dX12_run_5 rfl rfl ?_
  refine X_iconst 7 hO dX12_run_6 rfl ?_
  refine X_bipush 9 hO dX12_run_7 rfl (by decide) ?_
  refine X_kSv 12 hO hD lX12_129 [_, _, _] rfl dX12_run_9 rfl (kX12_requireRange _ _ _ _ _ (by omega) (by omega) (by omega)) (by decide) (by simp [rv_cat, int_cat]) (by first | decide | exact Nat.zero_le _ | omega) (by first | decide | exact Nat.zero_le _ | omega) (fun w_9 hp_9 => ?_) (fun E w_ hx_ => (XE_out hO hF (by
  obtain ⟨x1, x2, x3⟩ := hx_
  have hn : ¬ (1 ≤ k ∧ k ≤ 10) := by omega
  have eo : o_run μ m k A = (0, m_th μ 2 A) := by unfold o_run; rw [if_pos hm0, if_neg hn]
  rw [eo, x3]
  exact ⟨Or.inr (Or.inl ⟨x1, up_s _ _ _ _ _⟩), h.rv9 hRB hM hV, h.p9 hRB hM hPN⟩)))
  obtain ⟨e1_9, e2_9⟩ := hp_9
  subst w_9
  have hk0 : 1 ≤ k ∧ k ≤ 10 := by omega
  refine X_aload_n 13 hO dX12_run_12 rfl rfl ?_
  refine X_kVv (t := 13) 16 hO hD lX12_73 rfl (by decide) [] rfl dX12_run_13 rfl (by first | assumption | omega | (simp (disch := first | decide | assumption | omega) only [up_k, up_s, up_a, up_i, flA_k, flA_a, flA_n, cpA_k, cpA_a, newO_o, newA_o, newO_t, newA_t, newA_n, cpQ_k, cpQ_a] <;> first | assumption | omega)) (kX12_prepare _ _ _ p μ (lvL p μ (up A 139 μ.1 0 0)) (up A 139 μ.1 0 0) hr hl hSB.2.2.2.2.1 hSB.1.2 (by omega)) (by decide) (by simp [rv_cat, int_cat]) (by first | decide | exact Nat.zero_le _ | omega) (by first | decide | exact Nat.zero_le _ | omega) (fun w_13 hp_13 => ?_) (fun E w_ hx_ => (XE_out hO hF (by
  obtain ⟨x1, x2, x3⟩ := hx_
  rw [up_k _ (by decide), up_k _ (by decide)] at x2
  have hf : m_full μ A := ⟨x2.1, by
    have := x2.2
    have := hz236; unfold bMc at this
    have := this 4 (by decide) (by decide)
    omega⟩
  have eo : o_run μ m k A = (0, m_th μ 3 A) := by unfold o_run; rw [if_pos hm0, if_pos hk0, if_pos hf]
  rw [eo, x3]
  exact ⟨Or.inr (Or.inr ⟨x1, up_s _ _ _ _ _⟩), h.rv9 hRB hM hV, h.p9 hRB hM hPN⟩)))
  obtain ⟨nf, r1, r2, r3⟩ := hp_13
  rw [up_k _ (by decide), up_k _ (by decide)] at nf
  have nf' : ¬ m_full μ A := fun z => nf ⟨z.1, by have := z.2; omega⟩
  have f42 : w_13 42 f 0 = w 42 f 0 := ed_fr hr.1.2.1.1 r3 (SDb.std (Or.inr (Or.inl rfl))) hl.1 (by decide)
  have g1 : UPG f w w_13 := r3.toG hr.1.2.1.1 hr.1.2.2.2.2.2.1 (fun k z1 z => by unfold SDb at z; omega) (fun k z => by unfold SDb at z; omega)
  have k1 : CHK p μ f w_13 (m_saves μ 2 (up A 139 μ.1 0 0)) := CHK.ini ⟨hr, hTX, hLV⟩ hT (by omega) hK0.2.2.1 hSB r1 (by rw [f42]; exact r2)
  obtain ⟨rA, rB, rC, rD⟩ := rnW_ok hRB hm0 hk0
  obtain ⟨A2, hA2⟩ : ∃ A2, A2 = m_saves μ 2 (up A 139 μ.1 0 0) := ⟨_, rfl⟩
  have eW : m_rnW μ A = m_saves μ 3 A2 := by rw [hA2]; rfl
  rw [eW] at rB rC rD
  obtain ⟨R, hRd⟩ : ∃ R, R = m_grR μ m k (m_saves μ 3 A2) := ⟨_, rfl⟩
  rw [← hRd] at rC rD
  have eo : o_run μ m k A = m_rn1 μ m k (A 134 μ.1 0) (A 135 μ.1 0) (m_gen μ R) := by unfold o_run; rw [if_pos hm0, if_pos hk0, if_neg nf', eW, ← hRd]
  rw [← hA2] at k1 b1 b2 b5
  obtain ⟨nn, hRT⟩ := RE.top rC
  obtain ⟨q34, q34'⟩ := hRT.r34 rB (by decide) (fun z => Bool.noConfusion z)
  have hs34 : m_gst μ m k (m_saves μ 3 A2) 134 μ.1 0 = 0 ∧ m_gst μ m k (m_saves μ 3 A2) 135 μ.1 0 = -1 := by unfold m_gst; exact ⟨by rw [up_k _ (by decide), up_s], by rw [up_s]⟩
  rw [hs34.1, hs34.2] at q34
  obtain ⟨⟨lG, gG⟩, gF, gt, gr⟩ := id rD
  have gs := gG.2.2.2.2
  have gz : A2 122 μ.1 0 ≤ A2 120 μ.1 0 := k1.1.2.2.b0.1.2
  have gz0 : 0 ≤ A2 122 μ.1 0 := k1.1.2.2.b0.1.1
  have gok := gen_ok rD (by rw [saves_at (by decide), saves_at (by decide)]; exact gz)
  have b123 : A2 123 μ.1 0 ≤ A2 121 μ.1 0 := by rw [b5 _ _ _ (by decide), b5 _ _ _ (by decide)]; exact hZ0.2.2.1.2
  have gb := GFb.of gF b1.1.1.2 gG.2.1.2.1.1.1.2
  have hq3 : sqD w_13 f (w_13 43 f 0) 30 3 := Or.inr ⟨rfl, rfl, rfl⟩
  have hLn3 : ((lvL p μ A2).length : Int) ≤ 30000 := by unfold lvL; rw [List.length_map, rng_len, b5 _ _ _ (by decide), b5 _ _ _ (by decide)]; omega
  obtain ⟨hDA, h67⟩ := k1.1.1.DAs hq3 (by omega)
  have c13 : w_13 0 f 0 = 13 := k1.1.1.toF.1
  have c43 : w_13 0 (w_13 43 f 0) 0 = 2 := (k1.1.1.1.2.2.1.sq hq3).1.1.1
  have c41 : w_13 0 (w_13 41 f 0) 0 = 2 := k1.1.1.toF.2.2.1
  refine X_aload_n 17 hO dX12_run_16 rfl rfl ?_
  refine gX12_19 20 hO dX12_run_17 rfl (by first | assumption | omega | (simp (disch := first | decide | assumption | omega) only [up_k, up_s, up_a, up_i, flA_k, flA_a, flA_n, cpA_k, cpA_a, newO_o, newA_o, newO_t, newA_t, newA_n, cpQ_k, cpQ_a] <;> first | assumption | omega)) ?_
  try simp (disch := first | decide | assumption | omega) only [up_k, up_s, up_a, up_i, flA_k, flA_a, flA_n, cpA_k, cpA_a, newO_o, newA_o, newO_t, newA_t, newA_n, cpQ_k, cpQ_a]
  refine X_aload_n 21 hO dX12_run_20 rfl rfl ?_
  refine gX12_10 24 hO dX12_run_21 rfl (by first | assumption | omega | (simp (disch := first | decide | assumption | omega) only [up_k, up_s, up_a, up_i, flA_k, flA_a, flA_n, cpA_k, cpA_a, newO_o, newA_o, newO_t, newA_t, newA_n, cpQ_k, cpQ_a] <;> first | assumption | omega)) ?_
  try simp (disch := first | decide | assumption | omega) only [up_k, up_s, up_a, up_i, flA_k, flA_a, flA_n, cpA_k, cpA_a, newO_o, newA_o, newO_t, newA_t, newA_n, cpQ_k, cpQ_a]
  refine X_kVv (t := 2) 27 hO hD lX12_136 rfl (by decide) [_] rfl dX12_run_24 rfl (by first | assumption | omega | (simp (disch := first | decide | assumption | omega) only [up_k, up_s, up_a, up_i, flA_k, flA_a, flA_n, cpA_k, cpA_a, newO_o, newA_o, newO_t, newA_t, newA_n, cpQ_k, cpQ_a] <;> first | assumption | omega)) (kX1_takeAll _ _ _ _ 400 hDA (by omega)) (by decide) (by simp [rv_cat, int_cat]) (by first | decide | exact Nat.zero_le _ | omega) (by first | decide | exact Nat.zero_le _ | omega) (fun w_24 hp_24 => ?_) (fun E w_ hx_ => hx_.elim)
  have x1 := RNX.ini (ρ := pr_ p (A2 126 μ.1 0)) (S := S) (P := P) k1.1.1 k1.1.2.2 b1 hp_24
  have c13b : w_24 0 f 0 = 13 := x1.1.toF.1
  have c50 : w_24 0 (w_24 50 f 0) 0 = 12 := x1.1.1.2.2.2.2.2.1.1
  refine X_aload_n 28 hO dX12_run_27 rfl rfl ?_
  refine gX12_61 31 hO dX12_run_28 rfl (by first | assumption | omega | (simp (disch := first | decide | assumption | omega) only [up_k, up_s, up_a, up_i, flA_k, flA_a, flA_n, cpA_k, cpA_a, newO_o, newA_o, newO_t, newA_t, newA_n, cpQ_k, cpQ_a] <;> first | assumption | omega)) ?_
  try simp (disch := first | decide | assumption | omega) only [up_k, up_s, up_a, up_i, flA_k, flA_a, flA_n, cpA_k, cpA_a, newO_o, newA_o, newO_t, newA_t, newA_n, cpQ_k, cpQ_a]
  refine X_kVv (t := 12) 34 hO hD lX12_140 rfl (by decide) [] rfl dX12_run_31 rfl (by first | assumption | omega | (simp (disch := first | decide | assumption | omega) only [up_k, up_s, up_a, up_i, flA_k, flA_a, flA_n, cpA_k, cpA_a, newO_o, newA_o, newO_t, newA_t, newA_n, cpQ_k, cpQ_a] <;> first | assumption | omega)) (kX11_begin _ _ _ c50) (by decide) (by simp [rv_cat, int_cat]) (by first | decide | exact Nat.zero_le _ | omega) (by first | decide | exact Nat.zero_le _ | omega) (fun w_31 hp_31 => ?_) (fun E w_ hx_ => hx_.elim)
  have x2 := RNX.beg (m := m) (k := k) x1 (b1.saves (by decide)).1.2.2.2.2.1 rB.2.1.2.1.1 hp_31
  have c13c : w_31 0 f 0 = 13 := x2.1.toF.1
  have hgm : m_gst μ m k (m_saves μ 3 A2) 237 0 1 = m ∧ m_gst μ m k (m_saves μ 3 A2) 238 0 1 = k ∧ m_gst μ m k (m_saves μ 3 A2) 239 0 1 = 0 := by
    unfold m_gst
    refine ⟨?_, ?_, ?_⟩
    · rw [up_k _ (by decide), up_k _ (by decide), up_k _ (by decide), up_k _ (by decide), up_s]
    · rw [up_k _ (by decide), up_k _ (by decide), up_k _ (by decide), up_s]
    · rw [up_k _ (by decide), up_k _ (by decide), up_s]
  refine X_aload_n 35 hO dX12_run_34 rfl rfl ?_
  refine X_iload_n 36 hO dX12_run_35 rfl rfl ?_
  refine X_iload_n 37 hO dX12_run_36 rfl rfl ?_
  refine X_iconst 38 hO dX12_run_37 rfl ?_
  refine X_kVi (t := 13) 41 hO hD lX12_143 rfl (by decide) [_, _, _] rfl dX12_run_38 rfl (by first | assumption | omega | (simp (disch := first | decide | assumption | omega) only [up_k, up_s, up_a, up_i, flA_k, flA_a, flA_n, cpA_k, cpA_a, newO_o, newA_o, newO_t, newA_t, newA_n, cpQ_k, cpQ_a] <;> first | assumption | omega)) (krn_ok nn _ _ f m k 1 p μ (pr_ p (A2 126 μ.1 0)) w_13 A2 _ _ 0 0 R.1 R.2.1 R.2.2.1 0 (-1) S P M ⟨_, _, _, x2⟩ rB (by decide) ⟨hS, hP⟩ hgm.1 hgm.2.1 hgm.2.2 hRT) (by decide) (by simp [rv_cat, int_cat]) (by first | decide | exact Nat.zero_le _ | omega) (by first | decide | exact Nat.zero_le _ | omega) (fun r_38 w_38 hr_38 hp_38 => ?_) (fun E w_ hx_ => hx_.elim)
  obtain ⟨er38, c9, s9, G9, x3⟩ := hp_38
  have c13d : w_38 0 f 0 = 13 := x3.1.toF.1
  obtain ⟨B, hBd⟩ : ∃ B, B = (m_gen μ R).2 := ⟨_, rfl⟩
  obtain ⟨told, htd⟩ : ∃ told, told = (m_gen μ R).1 := ⟨_, rfl⟩
  have c41d : w_38 0 (w_38 41 f 0) 0 = 2 := x3.1.toF.2.2.1
  have hq3d : sqD w_38 f (w_38 43 f 0) 30 3 := Or.inr ⟨rfl, rfl, rfl⟩
  have hu3 := x3.2.2.2.2.1.1
  have uf3 : ∀ (w9 : Mm), UPd (pc_ p) (SRn (A2 122 μ.1 0)) w_13 w9 → UPT w_13 w9 ∧ (∀ k : Nat, k < 86 → w9 k f 0 = w_13 k f 0) ∧ ∀ k : Nat, k = 84 ∨ k = 85 → w9 k (w_13 50 f 0) 0 = w_13 k (w_13 50 f 0) 0 := fun w9 u => ⟨u.toT, fun k hk => u.g (by omega) k1.1.1.1.2.1.1.2 (fun z => by unfold SRn SDb at z; omega), fun k hk => u.g (by have := k1.1.1.1.2.2.2.2.2.1.1; omega) k1.1.1.1.2.2.2.2.2.1.2 (fun z => by unfold SRn SDb at z; omega)⟩
  have JP59 : ∀ (w2 : Mm), (RNj μ f w B told w2) → X κ 36 2200 (w2) 59 [some (rv f), some (.int (I m)), some (.int (I k))] [] := by
    intro w2 hj
    obtain ⟨⟨p2, k6⟩, j2, j3, j4⟩ := id hj
    rw [← hBd] at gok
    rw [← htd] at gok
    have c13e : w2 0 f 0 = 13 := k6.1.1.toF.1
    have e87 : w2 87 f 0 = B 132 μ.1 0 := k6.1.1.1.2.1.2.2.2.2.1
    have e132 : B 132 μ.1 0 = A 132 μ.1 0 := by rw [gok.2.2.2.1 _ _ _ (by decide), saves_at (by decide), b5 _ _ _ (by decide), up_k _ (by decide)]
    have gAP : AP μ A2 B := by
      rw [hBd]; unfold m_gen; split
      · exact gb.2.2.2.2
      · exact gb.1.2.2.2
    have gB121 : A2 123 μ.1 0 ≤ B 121 μ.1 0 := by have := gAP.2.1; omega
    have eok := ends_ok (g := 0) gok.1 gok.2.1 gok.2.2.1 (by decide) (by omega) (by omega)
    have hpbB := k6.1.2.2.1.2.2.1
    have eB : ∀ {c : Nat} {y i : Int}, (122 ≤ c ∧ c ≤ 126) ∨ c = 211 ∨ (216 ≤ c ∧ c ≤ 225) ∨ c = 227 → B c y i = A c y i := fun z => by
      rw [gok.2.2.2.1 _ _ _ (by unfold gfK; exact decide_eq_false (by omega)), saves_at (by omega), b5 _ _ _ (by omega), up_k _ (by omega)]
    have b120 := h.2.2.1.2.2.2.1
    have e1200 : A2 120 μ.1 0 = A 120 μ.1 0 := by rw [b5 _ _ _ (by decide), up_k _ (by decide)]
    have e1210 : A2 121 μ.1 0 = A 121 μ.1 0 := by rw [b5 _ _ _ (by decide), up_k _ (by decide)]
    have e1230 : A2 123 μ.1 0 = A 123 μ.1 0 := by rw [b5 _ _ _ (by decide), up_k _ (by decide)]
    have l123 := hRB.2.2.1.2.2.1.2
    have zB : PTX μ B := PTX.app ⟨hPN, _, _, _, h.2.1⟩ hRB.2.1.2.2.2.1 gok.2.1.2.2.2.1 (by omega) hRB.2.1.2.2.1 hRB.1.2.2.1 h.2.2.1.2.2.1 (TSx.of (fun c a i q => eB (by omega)) (fun i i0 i1 => by rw [gAP.2.2.1 i i0 (by omega), b5 _ _ _ (by decide), up_k _ (by decide)]) (fun j j0 j1 => (gAP.2.2.2 j j0 (by omega)).trans (pby_cong (by rw [b5 _ _ _ (by decide), up_k _ (by decide)])))) hpbB
    have hPE := TLn.ends (g := 0) ⟨_, _, _, k6.1.2.1, k6.1.2.2, ⟨gok.1, gok.2.1⟩, zB.1, by rw [eB (c := 123) (by decide), ← e1230]; exact gB121⟩ (by omega) (by omega) (by omega) (by decide)
    refine X_aload_n 60 hO dX12_run_59 rfl rfl ?_
    have JP71 : ∀ (w3 A3 : Mm), (RNk μ f w B told w3 A3) → X κ 0 0 (w3) 71 [some (rv f), some (.int (I m)), some (.int (I k))] [] := by
      intro w3 A3 hkA
      obtain ⟨y1, ⟨p3, y2⟩, j2, j3, j4⟩ := hkA
      have eok2 := eok
      rw [y1] at eok2
      have hPE2 := hPE
      rw [y1] at hPE2
      obtain ⟨o1, o2, o3⟩ := eok2
      dsimp only at o1 o2 o3 hPE2
      have c13f : w3 0 f 0 = 13 := y2.1.toF.1
      have hm8 : MT w3 (w3 49 f 0) := y2.1.1.2.2.2.2.1.2.2.1.1
      have ec : o_run μ m k A = (told, m_rec μ 15 m k (up A3 129 μ.1 0 (-1))) := by
        rw [eo]; unfold m_rn1; rw [← hBd, ← htd, y1]; unfold m_rn2; rw [if_neg (show ¬ (((1 : Int), A3).1 = 0) from by show ¬ ((1 : Int) = 0); decide)]
      refine X_aload_n 72 hO dX12_run_71 rfl rfl ?_
      refine X_bipush 74 hO dX12_run_72 rfl (by decide) ?_
      refine X_iload_n 75 hO dX12_run_74 rfl rfl ?_
      refine X_iload_n 76 hO dX12_run_75 rfl rfl ?_
      refine X_kVv (t := 13) 79 hO hD lX12_95 rfl (by decide) [_, _, _] rfl dX12_run_76 rfl (by first | assumption | omega | (simp (disch := first | decide | assumption | omega) only [up_k, up_s, up_a, up_i, flA_k, flA_a, flA_n, cpA_k, cpA_a, newO_o, newA_o, newO_t, newA_t, newA_n, cpQ_k, cpQ_a] <;> first | assumption | omega)) (kX12_noteCommand _ _ _ _ _ _ c13f hm8 (by decide) hm hk) (by decide) (by simp [rv_cat, int_cat]) (by first | decide | exact Nat.zero_le _ | omega) (by first | decide | exact Nat.zero_le _ | omega) (fun w_76 hp_76 => ?_) (fun E w_ hx_ => hx_.elim)
      have n := y2.note (x := 15) (a := m) (b := k) (k := 0) (w' := w_76) o2.2.2.2.1 (by omega) o2.2.2.1 (by
        rw [o3 _ _ _ (by decide), o3 _ _ _ (by decide), gok.2.2.2.1 _ _ _ (by decide), gok.2.2.2.1 _ _ _ (by decide), saves_at (by decide), saves_at (by decide), b5 _ _ _ (by decide), b5 _ _ _ (by decide), up_k _ (by decide), up_k _ (by decide)]
        intro z; have : ¬ (A 236 0 4 = 16) := fun y => nf' ⟨z, y⟩
        have := nf; omega) (by rw [hp_76]; rfl)
      have e139 : A3 139 μ.1 0 = 0 := by rw [o3 _ _ _ (by decide), gok.2.2.2.1 _ _ _ (by decide), saves_at (by decide), b5 _ _ _ (by decide), up_s]
      rw [up_sv e139] at n
      have c13g : w_76 0 f 0 = 13 := n.1.1.toF.1
      have c50g : w_76 0 (w_76 50 f 0) 0 = 12 := n.1.1.1.2.2.2.2.2.1.1
      have g76 := n.2.1.2.2
      rw [j2.2.1 50 (by decide)] at g76
      have f50 : w_76 50 f 0 = w 50 f 0 := by rw [n.2.1.2.1 50 (by decide), j2.2.1 50 (by decide)]
      refine X_aload_n 80 hO dX12_run_79 rfl rfl ?_
      refine gX12_61 83 hO dX12_run_80 rfl (by first | assumption | omega | (simp (disch := first | decide | assumption | omega) only [up_k, up_s, up_a, up_i, flA_k, flA_a, flA_n, cpA_k, cpA_a, newO_o, newA_o, newO_t, newA_t, newA_n, cpQ_k, cpQ_a] <;> first | assumption | omega)) ?_
      try simp (disch := first | decide | assumption | omega) only [up_k, up_s, up_a, up_i, flA_k, flA_a, flA_n, cpA_k, cpA_a, newO_o, newA_o, newO_t, newA_t, newA_n, cpQ_k, cpQ_a]
      refine X_kVv (t := 12) 86 hO hD lX12_151 rfl (by decide) [] rfl dX12_run_83 rfl (by first | assumption | omega | (simp (disch := first | decide | assumption | omega) only [up_k, up_s, up_a, up_i, flA_k, flA_a, flA_n, cpA_k, cpA_a, newO_o, newA_o, newO_t, newA_t, newA_n, cpQ_k, cpQ_a] <;> first | assumption | omega)) (kX11_publish _ _ _ c50g) (by decide) (by simp [rv_cat, int_cat]) (by first | decide | exact Nat.zero_le _ | omega) (by first | decide | exact Nat.zero_le _ | omega) (fun w_83 hp_83 => ?_) (fun E w_ hx_ => hx_.elim)
      obtain ⟨z1, ⟨z2, z3⟩, z4, z5⟩ := n.1.pub hp_83
      have c13h : w_83 0 f 0 = 13 := z1.1.toF.1
      have c50h : w_83 0 (w_83 50 f 0) 0 = 12 := z1.1.1.2.2.2.2.2.1.1
      have fin : RESv μ f w w_83 (m_rec μ 15 m k (up A3 129 μ.1 0 (-1))) := by
        refine ⟨_, z1, ⟨?_, ?_⟩, (j2.trans n.2.1.h).1.trans z2, fun k hk => ?_⟩
        · rw [z4, f50, g76, j3.1, rec_at (by decide), up_k _ (by decide), o3 _ _ _ (by decide)]
        · rw [z5, f50, g76, j3.2, rec_at (by decide), up_k _ (by decide), o3 _ _ _ (by decide)]
        · by_cases y : k < 84
          · rw [z3 k y, n.2.1.2.1 k hk, j2.2.1 k hk]
          · rw [hp_83]
            have tl := n.1.1.1.2.2.2.2.2.1.1
            rw [up_a _ _ _ (fun z => by rw [← z] at tl; omega), up_a _ _ _ (fun z => by rw [← z] at tl; omega), n.2.1.2.1 k hk, j2.2.1 k hk]
      have f50h : w_83 50 f 0 = w 50 f 0 := by rw [z3 50 (by decide), f50]
      have r80 : w_83 80 (w_83 50 f 0) 0 = w3 80 (w 50 f 0) 0 := by rw [f50h, z3 80 (by decide), g76]
      have r81 : w_83 81 (w_83 50 f 0) 0 = w3 81 (w 50 f 0) 0 := by rw [f50h, z3 81 (by decide), g76]
      have r82 : w_83 82 (w_83 50 f 0) 0 = w3 82 (w 50 f 0) 0 := by rw [f50h, z3 82 (by decide), g76]
      refine X_aload_n 87 hO dX12_run_86 rfl rfl ?_
      refine gX12_61 90 hO dX12_run_87 rfl (by first | assumption | omega | (simp (disch := first | decide | assumption | omega) only [up_k, up_s, up_a, up_i, flA_k, flA_a, flA_n, cpA_k, cpA_a, newO_o, newA_o, newO_t, newA_t, newA_n, cpQ_k, cpQ_a] <;> first | assumption | omega)) ?_
      try simp (disch := first | decide | assumption | omega) only [up_k, up_s, up_a, up_i, flA_k, flA_a, flA_n, cpA_k, cpA_a, newO_o, newA_o, newO_t, newA_t, newA_n, cpQ_k, cpQ_a]
      refine gX12_154 93 hO dX12_run_90 rfl (by first | assumption | omega | (simp (disch := first | decide | assumption | omega) only [up_k, up_s, up_a, up_i, flA_k, flA_a, flA_n, cpA_k, cpA_a, newO_o, newA_o, newO_t, newA_t, newA_n, cpQ_k, cpQ_a] <;> first | assumption | omega)) (fun hi_90 => ?_)
      try simp (disch := first | decide | assumption | omega) only [up_k, up_s, up_a, up_i, flA_k, flA_a, flA_n, cpA_k, cpA_a, newO_o, newA_o, newO_t, newA_t, newA_n, cpQ_k, cpQ_a] at hi_90 ⊢
      refine X_if_ne 96 106 hO dX12_run_93 rfl rfl (by omega) (fun hc_93 => ?_) (fun hc_93 => ?_)
      ·
        refine X_aload_n 107 hO dX12_run_106 rfl rfl ?_
        refine gX12_61 110 hO dX12_run_107 rfl (by first | assumption | omega | (simp (disch := first | decide | assumption | omega) only [up_k, up_s, up_a, up_i, flA_k, flA_a, flA_n, cpA_k, cpA_a, newO_o, newA_o, newO_t, newA_t, newA_n, cpQ_k, cpQ_a] <;> first | assumption | omega)) ?_
        try simp (disch := first | decide | assumption | omega) only [up_k, up_s, up_a, up_i, flA_k, flA_a, flA_n, cpA_k, cpA_a, newO_o, newA_o, newO_t, newA_t, newA_n, cpQ_k, cpQ_a]
        refine gX12_160 113 hO dX12_run_110 rfl (by first | assumption | omega | (simp (disch := first | decide | assumption | omega) only [up_k, up_s, up_a, up_i, flA_k, flA_a, flA_n, cpA_k, cpA_a, newO_o, newA_o, newO_t, newA_t, newA_n, cpQ_k, cpQ_a] <;> first | assumption | omega)) (fun hi_110 => ?_)
        try simp (disch := first | decide | assumption | omega) only [up_k, up_s, up_a, up_i, flA_k, flA_a, flA_n, cpA_k, cpA_a, newO_o, newA_o, newO_t, newA_t, newA_n, cpQ_k, cpQ_a] at hi_110 ⊢
        exact X_iret hO hF rfl (by first | exact Or.inl rfl | exact Or.inr ⟨rfl, bi_01 _⟩ | exact Or.inr ⟨rfl, by omega⟩) dX12_run_113 ⟨_, rfl, (by omega), (by
  rw [ec]
  refine ⟨?_, ?_, fin, hPE2.fld o2.2.2.2.1 (by omega) o2.2.2.1 o1.2.2.1 (hpbB.cong fun i => o3 _ _ _ (by decide)) (fun c a i q => by dsimp only; rw [rec_at (by omega), up_k _ (by omega)])⟩
  · show _ = told
    rw [← j4]
    first
    | rw [if_pos (by omega)]; exact r80
    | rw [if_neg (by omega)]; exact r81
  · show m_rec μ 15 m k (up A3 129 μ.1 0 (-1)) 139 μ.1 0 = 0
    rw [rec_at (by decide), up_k _ (by decide)]; exact e139)⟩
      ·
        refine X_aload_n 97 hO dX12_run_96 rfl rfl ?_
        refine gX12_61 100 hO dX12_run_97 rfl (by first | assumption | omega | (simp (disch := first | decide | assumption | omega) only [up_k, up_s, up_a, up_i, flA_k, flA_a, flA_n, cpA_k, cpA_a, newO_o, newA_o, newO_t, newA_t, newA_n, cpQ_k, cpQ_a] <;> first | assumption | omega)) ?_
        try simp (disch := first | decide | assumption | omega) only [up_k, up_s, up_a, up_i, flA_k, flA_a, flA_n, cpA_k, cpA_a, newO_o, newA_o, newO_t, newA_t, newA_n, cpQ_k, cpQ_a]
        refine gX12_157 103 hO dX12_run_100 rfl (by first | assumption | omega | (simp (disch := first | decide | assumption | omega) only [up_k, up_s, up_a, up_i, flA_k, flA_a, flA_n, cpA_k, cpA_a, newO_o, newA_o, newO_t, newA_t, newA_n, cpQ_k, cpQ_a] <;> first | assumption | omega)) (fun hi_100 => ?_)
        try simp (disch := first | decide | assumption | omega) only [up_k, up_s, up_a, up_i, flA_k, flA_a, flA_n, cpA_k, cpA_a, newO_o, newA_o, newO_t, newA_t, newA_n, cpQ_k, cpQ_a] at hi_100 ⊢
        refine X_goto hO dX12_run_103 (tgt := 113) rfl ?_
        exact X_iret hO hF rfl (by first | exact Or.inl rfl | exact Or.inr ⟨rfl, bi_01 _⟩ | exact Or.inr ⟨rfl, by omega⟩) dX12_run_113 ⟨_, rfl, (by omega), (by
  rw [ec]
  refine ⟨?_, ?_, fin, hPE2.fld o2.2.2.2.1 (by omega) o2.2.2.1 o1.2.2.1 (hpbB.cong fun i => o3 _ _ _ (by decide)) (fun c a i q => by dsimp only; rw [rec_at (by omega), up_k _ (by omega)])⟩
  · show _ = told
    rw [← j4]
    first
    | rw [if_pos (by omega)]; exact r80
    | rw [if_neg (by omega)]; exact r81
  · show m_rec μ 15 m k (up A3 129 μ.1 0 (-1)) 139 μ.1 0 = 0
    rw [rec_at (by decide), up_k _ (by decide)]; exact e139)⟩
    refine gX12_87 63 hO dX12_run_60 rfl (by first | assumption | omega | (simp (disch := first | decide | assumption | omega) only [up_k, up_s, up_a, up_i, flA_k, flA_a, flA_n, cpA_k, cpA_a, newO_o, newA_o, newO_t, newA_t, newA_n, cpQ_k, cpQ_a] <;> first | assumption | omega)) (fun hi_60 => ?_)
    try simp (disch := first | decide | assumption | omega) only [up_k, up_s, up_a, up_i, flA_k, flA_a, flA_n, cpA_k, cpA_a, newO_o, newA_o, newO_t, newA_t, newA_n, cpQ_k, cpQ_a] at hi_60 ⊢
    refine X_if_ne 66 71 hO dX12_run_63 rfl rfl (by omega) (fun hc_63 => ?_) (fun hc_63 => ?_)
    ·
      try simp only [bi_0, bi_ne, ne_eq, Classical.not_not] at hc_63
      first | exact X_mono (Nat.zero_le _) (Nat.zero_le _) (JP71 _ _ hkA) | exact X_mono (Nat.zero_le _) (Nat.zero_le _) (JP71 _ B ⟨ends_0 (Or.inl (by omega)), ⟨p2, k6.1⟩, j2, j3, j4⟩)
    ·
      try simp only [bi_0, bi_ne, ne_eq, Classical.not_not] at hc_63
      refine X_aload_n 67 hO dX12_run_66 rfl rfl ?_
      refine X_iconst 68 hO dX12_run_67 rfl ?_
      refine X_kVv (t := 13) 71 hO hD lX12_91 rfl (by decide) [_] rfl dX12_run_68 rfl (by first | assumption | omega | (simp (disch := first | decide | assumption | omega) only [up_k, up_s, up_a, up_i, flA_k, flA_a, flA_n, cpA_k, cpA_a, newO_o, newA_o, newO_t, newA_t, newA_n, cpQ_k, cpQ_a] <;> first | assumption | omega)) (kX12_makeChange _ _ _ 0 p2 μ B (S + 48) (P + 480) M k6.1 gok.1 gok.2.1 (by omega) (by omega) hM (by rw [gok.2.2.2.1 _ _ _ (by decide), saves_at (by decide)]; exact gB121) (fun j j0 j1 => by rw [gok.2.2.2.1 _ _ _ (by decide), saves_at (by decide), b5 _ _ _ (by decide), up_k _ (by decide)]; exact hb28 j j0 j1) (Or.inl rfl) (k6.kpb gok.2.1.1.1) k6.2.2 k6.2.1.2.2) (by decide) (by simp [rv_cat, int_cat]) (by first | decide | exact Nat.zero_le _ | omega) (by first | decide | exact Nat.zero_le _ | omega) (fun w_68 hp_68 => ?_) (fun E w_ hx_ => (XE_out hO hF (by
  obtain ⟨x1, x2, x3, p3, x4, x5⟩ := hx_
  have h132 : B 132 μ.1 0 = 0 := by omega
  have y1 := ends_2 (g := 0) h132 x2 x3
  rw [y1] at eok hPE
  obtain ⟨o1, o2, o3⟩ := eok
  dsimp only at o1 o2 o3 hPE
  have ec : o_run μ m k A = (0, up (up (up (m_rest μ 2 1 (m_ntf μ B).2) 134 μ.1 0 (A 134 μ.1 0)) 135 μ.1 0 (A 135 μ.1 0)) 139 μ.1 0 3) := by
    rw [eo]; unfold m_rn1; rw [← hBd, ← htd, y1]; unfold m_rn2; rw [if_pos rfl]
  rw [ec]
  have q4 := x4.o34 (v := A 134 μ.1 0) o2.2.2.2.1 (by omega) o2.2.2.1 (c := 134) (a := μ.1) (i := 0) (by decide)
  have T4 := o2.2.2.2.1.cong (w' := up (m_rest μ 2 1 (m_ntf μ B).2) 134 μ.1 0 (A 134 μ.1 0)) fun c a i z => up_k _ (by omega) _ _ _ _ _
  have S4 := o2.2.2.1.cong (w' := up (m_rest μ 2 1 (m_ntf μ B).2) 134 μ.1 0 (A 134 μ.1 0)) fun c a i y z => up_k _ (by omega) _ _ _ _ _
  have q5 := q4.o34 (v := A 135 μ.1 0) T4 (by omega) S4 (c := 135) (a := μ.1) (i := 0) (by decide)
  have T5 := T4.cong (w' := up (up (m_rest μ 2 1 (m_ntf μ B).2) 134 μ.1 0 (A 134 μ.1 0)) 135 μ.1 0 (A 135 μ.1 0)) fun c a i z => up_k _ (by omega) _ _ _ _ _
  have S5 := S4.cong (w' := up (up (m_rest μ 2 1 (m_ntf μ B).2) 134 μ.1 0 (A 134 μ.1 0)) 135 μ.1 0 (A 135 μ.1 0)) fun c a i y z => up_k _ (by omega) _ _ _ _ _
  have q6 := q5.o34 (v := 3) T5 (by omega) S5 (c := 139) (a := μ.1) (i := 0) (by decide)
  have uu := j2.trans x5.h
  refine ⟨Or.inr (Or.inr ⟨x1, up_s _ _ _ _ _⟩), ⟨p3, q6, hV.h uu ?_ ?_, uu.1, uu.2.1⟩, hPE.fld o2.2.2.2.1 (by omega) o2.2.2.1 o1.2.2.1 (hpbB.cong fun i => o3 _ _ _ (by decide)) (fun c a i q => by dsimp only; rw [up_k _ (by omega), up_k _ (by omega), up_k _ (by omega)])⟩
  · show up (up (up _ 134 μ.1 0 (A 134 μ.1 0)) 135 μ.1 0 (A 135 μ.1 0)) 139 μ.1 0 3 134 μ.1 0 = _; rw [up_k _ (by decide), up_k _ (by decide), up_s]
  · show up (up (up _ 134 μ.1 0 (A 134 μ.1 0)) 135 μ.1 0 (A 135 μ.1 0)) 139 μ.1 0 3 135 μ.1 0 = _; rw [up_k _ (by decide), up_s])))
      have h132 : B 132 μ.1 0 = 0 := by omega
      have hkk : ∃ A3, RNk μ f w B told w_68 A3 := by
        rcases hp_68 with ⟨y1, y2⟩ | ⟨y1, y2, p3, y3, y4⟩
        · rw [y2]; exact ⟨B, ends_0 (Or.inr y1), ⟨p2, k6.1⟩, j2, j3, j4⟩
        · have e50'' := j2.2.1 50 (by decide)
          have yk := y4.2.2
          rw [e50''] at yk
          refine ⟨_, ends_1 h132 y1 y2, ⟨p3, y3⟩, j2.trans y4.gg.h, by rw [yk, yk]; exact j3, by rw [yk, yk, yk]; exact j4⟩
      obtain ⟨A3, hkA⟩ := hkk
      first | exact X_mono (Nat.zero_le _) (Nat.zero_le _) (JP71 _ _ hkA) | exact X_mono (Nat.zero_le _) (Nat.zero_le _) (JP71 _ B ⟨ends_0 (Or.inl (by omega)), ⟨p2, k6.1⟩, j2, j3, j4⟩)
  refine X_if_ne 44 59 hO dX12_run_41 rfl rfl (by omega) (fun hc_41 => ?_) (fun hc_41 => ?_)
  ·
    try simp only [bi_0, bi_ne, ne_eq, Classical.not_not] at hc_41
    have hrz : R.2.2.1 = 0 := by
      apply Classical.byContradiction
      intro z; rw [if_neg z] at er38; omega
    have hgen : m_gen μ R = (R.1, R.2.2.2) := by unfold m_gen; rw [if_neg (by omega)]
    have eBB : B = R.2.2.2 := by rw [hBd, hgen]
    have k5 : CHK (pU p c9 s9 G9) μ f w_38 B := by
      rw [eBB]
      exact k1.big b2.2.2.2.1 (by omega) b2.2.2.1 b2.1.1 b123 gb.1 x3.1 x3.2.1.1 hu3 x3.2.2.2.2.1.2 x3.2.2.2.2.2.1
    have hj : RNj μ f w B told w_38 := RNj.of ⟨_, k5⟩ g1.h (uf3 _ hu3).1 (uf3 _ hu3).2.1 (uf3 _ hu3).2.2 x3.2.2.2.1.1 x3.2.2.2.1.2.1 x3.2.2.2.1.2.2.1 x3.2.2.2.1.2.2.2 (by rw [if_pos hrz, eBB]; exact (q34 hrz).1.symm) (by rw [if_pos hrz, eBB]; exact (q34 hrz).2.symm) (by rw [if_pos hrz, if_pos rfl, htd, hgen])
    exact X_mono (by omega) (by omega) (JP59 _ hj)
  ·
    try simp only [bi_0, bi_ne, ne_eq, Classical.not_not] at hc_41
    have hs9 := x3.2.2.1.1
    have hl9 := x3.2.1.1.b0.1
    have h39 := x3.2.2.1.2.1
    obtain ⟨hDAd, h67d⟩ := x3.1.DAl hq3d hs9 (by unfold lvK; rw [List.length_map, rng_len]; have := gG.1.2.2.2.2.1; omega)
    have htrd := x3.1.toTr.1
    have hts30 : w_38 44 f 0 ≠ w_38 30 (w_38 11 (w_38 41 f 0) 0) 0 := ne_c x3.1.1.2.1.2.1.2.2 x3.1.1.2.2.1.1.1.2.1.2.2.2.1.2.2 (by decide)
    have c43d : w_38 0 (w_38 43 f 0) 0 = 2 := (x3.1.1.2.2.1.sq hq3d).1.1.1
    refine X_aload_n 45 hO dX12_run_44 rfl rfl ?_
    refine gX12_10 48 hO dX12_run_45 rfl (by first | assumption | omega | (simp (disch := first | decide | assumption | omega) only [up_k, up_s, up_a, up_i, flA_k, flA_a, flA_n, cpA_k, cpA_a, newO_o, newA_o, newO_t, newA_t, newA_n, cpQ_k, cpQ_a] <;> first | assumption | omega)) ?_
    try simp (disch := first | decide | assumption | omega) only [up_k, up_s, up_a, up_i, flA_k, flA_a, flA_n, cpA_k, cpA_a, newO_o, newA_o, newO_t, newA_t, newA_n, cpQ_k, cpQ_a]
    refine X_aload_n 49 hO dX12_run_48 rfl rfl ?_
    refine gX12_19 52 hO dX12_run_49 rfl (by first | assumption | omega | (simp (disch := first | decide | assumption | omega) only [up_k, up_s, up_a, up_i, flA_k, flA_a, flA_n, cpA_k, cpA_a, newO_o, newA_o, newO_t, newA_t, newA_n, cpQ_k, cpQ_a] <;> first | assumption | omega)) ?_
    try simp (disch := first | decide | assumption | omega) only [up_k, up_s, up_a, up_i, flA_k, flA_a, flA_n, cpA_k, cpA_a, newO_o, newA_o, newO_t, newA_t, newA_n, cpQ_k, cpQ_a]
    refine X_aload_n 53 hO dX12_run_52 rfl rfl ?_
    refine gX12_22 56 hO dX12_run_53 rfl (by first | assumption | omega | (simp (disch := first | decide | assumption | omega) only [up_k, up_s, up_a, up_i, flA_k, flA_a, flA_n, cpA_k, cpA_a, newO_o, newA_o, newO_t, newA_t, newA_n, cpQ_k, cpQ_a] <;> first | assumption | omega)) ?_
    try simp (disch := first | decide | assumption | omega) only [up_k, up_s, up_a, up_i, flA_k, flA_a, flA_n, cpA_k, cpA_a, newO_o, newA_o, newO_t, newA_t, newA_n, cpQ_k, cpQ_a]
    refine X_kVv (t := 2) 59 hO hD lX12_147 rfl (by decide) [_, _] rfl dX12_run_56 rfl (by first | assumption | omega | (simp (disch := first | decide | assumption | omega) only [up_k, up_s, up_a, up_i, flA_k, flA_a, flA_n, cpA_k, cpA_a, newO_o, newA_o, newO_t, newA_t, newA_n, cpQ_k, cpQ_a] <;> first | assumption | omega)) (kX1_takeBack _ _ _ _ _ 400 hDAd h67d htrd hts30) (by decide) (by simp [rv_cat, int_cat]) (by first | decide | exact Nat.zero_le _ | omega) (by first | decide | exact Nat.zero_le _ | omega) (fun w_56 hp_56 => ?_) (fun E w_ hx_ => hx_.elim)
    have z1 := x3.bck gG.1 gG.2.1.2.1.1 hp_56
    have hrn : R.2.2.1 ≠ 0 := by intro z; rw [if_pos z] at er38; omega
    have hgen : m_gen μ R = (R.2.1, m_rest μ 3 0 R.2.2.2) := by unfold m_gen; rw [if_pos (by omega)]
    have eBB : B = m_rest μ 3 0 R.2.2.2 := by rw [hBd, hgen]
    have k5 : CHK (pU p c9 s9 G9) μ f w_56 B := by
      rw [eBB]
      exact k1.big b2.2.2.2.1 (by omega) b2.2.2.1 b2.1.1 b123 gb.2 z1.1 z1.2.1 z1.2.2 x3.2.2.2.2.1.2 x3.2.2.2.2.2.1
    have g80 : ∀ k : Nat, 80 ≤ k → k ≤ 83 → ∀ a, w_38 0 a 0 ≠ 0 → w_56 k a 0 = w_38 k a 0 := fun k k0 k1 a ha => by
      obtain ⟨W, hW, e56⟩ := hp_56
      rw [e56, q_ext_k (by omega), d_copy_k (by omega), t_tk_k (by omega), TM_k hW (by omega) (by omega) (fun z => by omega) ha]
    have e50' : w_56 50 f 0 = w_38 50 f 0 := by
      have u1 := (uf3 _ z1.2.2).2.1 50 (by decide)
      have u2 := (uf3 _ hu3).2.1 50 (by decide)
      rw [u1, u2]
    have c50d : w_38 0 (w_38 50 f 0) 0 ≠ 0 := by have := x3.1.1.2.2.2.2.2.1.1; omega
    have hj : RNj μ f w B told w_56 := RNj.of (s9 := R.1) (t9 := R.2.1) (u9 := if R.2.2.1 = 0 then 0 else R.2.2.1) (v9 := if R.2.2.1 = 0 then -1 else R.2.2.2 135 μ.1 0) ⟨_, k5⟩ g1.h (uf3 _ z1.2.2).1 (uf3 _ z1.2.2).2.1 (uf3 _ z1.2.2).2.2 (by rw [e50', g80 80 (by decide) (by decide) _ c50d]; exact x3.2.2.2.1.1) (by rw [e50', g80 81 (by decide) (by decide) _ c50d]; exact x3.2.2.2.1.2.1) (by rw [e50', g80 82 (by decide) (by decide) _ c50d]; exact x3.2.2.2.1.2.2.1) (by rw [e50', g80 83 (by decide) (by decide) _ c50d]; exact x3.2.2.2.1.2.2.2) (by rw [if_neg hrn, eBB, rest_at (by decide), q34' hrn]) (by rw [if_neg hrn, eBB, rest_at (by decide)]) (by rw [if_neg hrn, if_neg hrn, htd, hgen])
    exact X_mono (by omega) (by omega) (JP59 _ hj)
