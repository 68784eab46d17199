/-! undoIn in the class -/
def T34 (_ : MU) (A B : Mm) : Prop := ∀ cc : Nat, (132 ≤ cc ∧ cc ≤ 135) ∨ cc = 227 → ∀ aa ii : Int, B cc aa ii = A cc aa ii
theorem T34.to {μ : MU} {A B X : Mm} (h : T34 μ A B) (e : ∀ cc : Nat, (132 ≤ cc ∧ cc ≤ 135) ∨ cc = 227 → ∀ aa ii : Int, X cc aa ii = B cc aa ii) : T34 μ A X := fun cc z aa ii => (e cc z aa ii).trans (h cc z aa ii)
theorem TB.cong7 {μ : MU} {M : Int} {w w' : Mm} (h : TB μ M w) (e : ∀ (c : Nat) (a i : Int), ((122 ≤ c ∧ c ≤ 128) ∧ c ≠ 127) ∨ (216 ≤ c ∧ c ≤ 225) → w' c a i = w c a i) : TB μ M w' := by
  have hB : TB μ M (fun c a i => if c = 127 then w c a i else w' c a i) := h.cong fun c a i z => by
    show (if c = 127 then w c a i else w' c a i) = w c a i
    by_cases y : c = 127
    · rw [if_pos y]
    · rw [if_neg y]; exact e c a i (by omega)
  simpa [TB, bTn] using hB
theorem btc_th {N v : Int} {μ : MU} {V : Mm} (h : bTc N V) : bTc N (up V 139 μ.1 0 v) := fun t a b => by rw [up_k _ (by decide), up_k _ (by decide)]; exact h t a b
theorem th_137 {v : Int} {μ : MU} {V : Mm} (h : 0 ≤ V 137 μ.1 0 ∧ V 137 μ.1 0 ≤ 8) : 0 ≤ up V 139 μ.1 0 v 137 μ.1 0 ∧ up V 139 μ.1 0 v 137 μ.1 0 ≤ 8 := by rw [up_k _ (by decide)]; exact h
theorem RB.fdv {μ : MU} {S P M : Int} {A V : Mm} (h : RB μ S P M A) (fd : FDV A V) : RB μ (S + 56) (P + 600) (M + 1) V := by
  have e : ∀ {c : Nat} {y i : Int}, c ≠ 127 → c ≠ 226 → c ≠ 137 → c ≠ 138 → c ≠ 139 → (c < 241 ∨ 246 < c) → V c y i = A c y i := fun z1 z2 z3 z4 z5 z6 => fd _ _ _ z1 z2 z3 z4 z5 z6
  obtain ⟨hL, hK, hZ, hY⟩ := h
  refine RB.mono (S := S) (P := P) (M := M) ⟨?_, ?_, ?_, ?_⟩ (by omega) (by omega) (by omega)
  · exact hL.cong (fun c a i z1 z2 z3 => e (by omega) (by omega) (by omega) (by omega) (by omega) (by omega)) (e (by decide) (by decide) (by decide) (by decide) (by decide) (by decide)) (e (by decide) (by decide) (by decide) (by decide) (by decide) (by decide))
  · have hK2 := hK
    obtain ⟨k1, k2, k3, k4, k5, k6, k7⟩ := hK
    refine ⟨k1.cong fun c a i z1 z2 z3 z4 z5 => e (by omega) (by omega) (by omega) (by omega) (by omega) (by omega), k2.cong fun c a i z1 z2 z3 z4 z5 => e (by omega) (by omega) (by omega) (by omega) (by omega) (by omega), k3.cong fun c a i z1 z2 => e (by omega) (by omega) (by omega) (by omega) (by omega) (by omega), k4.cong7 fun c a i z => e (by omega) (by omega) (by omega) (by omega) (by omega) (by omega), ?_, ?_, ?_⟩
    · intro i; have q := k5 i; revert q; simp (disch := decide) only [e]; exact id
    · intro i; have q := k6 i; revert q; simp (disch := decide) only [e]; exact id
    · intro i; have q := k7 i; revert q; simp (disch := decide) only [e]; exact id
  · unfold bZ at hZ ⊢; simp (disch := decide) only [e]; exact hZ
  · unfold bY at hY ⊢; simp (disch := decide) only [e]; exact hY
theorem fdi_226 {μ : MU} {PL : Int → List Int} {lo hi M : Int} {A : Mm} (hTX : TI μ PL A) (hT : TB μ M A) (hM : M ≤ 600) (h8 : 0 ≤ A 137 μ.1 0 ∧ A 137 μ.1 0 ≤ 8) (hTc : bTc 150010000 A) {r : Int} (h0 : 0 ≤ r ∧ r < m_pln A (A 126 μ.1 0)) : (m_fdI μ PL lo hi A).2 226 0 r = m_fan A (A 126 μ.1 0) r := by
  have hcur := hTX.1.cur hT
  obtain ⟨q1, q2, q3, q4⟩ := hTX.rq hT hM hcur
  have q5 : (RSx PL (A 126 μ.1 0) A).length ≤ 30000 := by have := hT.2.2.2.2.1; omega
  have ht1 := hT.1
  have ht3 := hT.2.2.1
  have hx0 := pln_rng hT.pr _ (A 126 μ.1 0) (Nat.le_refl _) (by omega) (by omega)
  have hf := FRt.fdR (μ := μ) (PL := PL) (x := A 126 μ.1 0) (lo := lo) (hi := hi) hT (by omega) hT.2.2.1 q1.1 q5 (m_pln A (A 126 μ.1 0) - 1).toNat (m_fin μ (A 126 μ.1 0) A) (by omega) (fun _ _ _ _ _ _ => rfl) (by rw [fin_at (by decide)]; exact h8) (fun t a b => by rw [fin_at (by decide), fin_at (by decide)]; exact hTc t a b)
  have e := hf.1 226 0 r (by decide) (by decide) (by decide)
  have e' : (m_fdI μ PL lo hi A).2 226 0 r = m_fin μ (A 126 μ.1 0) A 226 0 r := e
  rw [e']
  unfold m_fin m_fan
  simp only [fl, true_and]
  rw [if_pos (by omega)]
/-- where the opposites begin -/
theorem opi_ini {p : RP} {μ : MU} {f S P M lo hi a n : Int} {kp : Int → Int} {A w w1 w2 : Mm} (hr : RLm p μ f (lvL p μ A) w A) (hTX : TI μ (pl_ p) A) (hRB : RB μ S P M A) (hS : S ≤ 28900) (hP : P ≤ 500000) (hM : M ≤ 590) (hUN : UN μ (pl_ p) A) (h132 : A 132 μ.1 0 = 0) (ha : 1 ≤ a ∧ a ≤ fpl μ A) (hfa : (m_fdI μ (pl_ p) lo hi A).1 = a) (hTr : TRr μ (txT w (w 47 f 0)) (ps_ p) kp A n w1 (m_fdI μ (pl_ p) lo hi A).2) (hκ : (rng n.toNat 0).map kp = (ixN A (pl_ p (m_fan A (fcu μ A) a))).filter (txS A)) (e7 : FT7 w w1) (hr1 : RLm p μ f (lvL p μ A) w1 A) (u : UPd (pc_ p) (SDb 20 (A 122 μ.1 0)) w1 w2) (e47 : w2 47 f 0 = w 47 f 0) (hk : CHK p μ f w2 (m_saves μ 2 (m_th μ 0 (m_fdI μ (pl_ p) lo hi A).2))) :
    OPI μ f kp S P n ((m_fdI μ (pl_ p) lo hi A).2 226 0 a) (m_saves μ 2 (m_th μ 0 (m_fdI μ (pl_ p) lo hi A).2)) n p w2 (m_saves μ 2 (m_th μ 0 (m_fdI μ (pl_ p) lo hi A).2)) ∧ OPH μ S P M n (m_saves μ 2 (m_th μ 0 (m_fdI μ (pl_ p) lo hi A).2)) ∧ w2 77 (w2 47 f 0) 0 = w1 77 (w 47 f 0) 0 := by
  obtain ⟨y1, y2, y3, y4, y5, y6, y7, y8, y9, y10⟩ := un_start (lo := lo) (hi := hi) hRB hM hS hUN h132 (by omega)
  have hT := hRB.2.1.2.2.2.1
  have e226 := fdi_226 (lo := lo) (hi := hi) hTX hT (by omega) hUN.2.2.2.2.2 hUN.2.2.2.2.1 (r := a) ⟨by omega, by unfold fpl fcu at ha; omega⟩
  rw [hfa] at y3
  have hn : (m_fdI μ (pl_ p) lo hi A).2 137 μ.1 0 = n := hTr.2.2.1
  have hn8 := hTr.2.2.2
  rw [hn] at y2 y4 y6
  obtain ⟨W0, hW0⟩ : ∃ W0, W0 = m_saves μ 2 (m_th μ 0 (m_fdI μ (pl_ p) lo hi A).2) := ⟨_, rfl⟩
  have e0 : ∀ {c : Nat} {x i : Int}, c < 200 ∨ (210 < c ∧ c ≠ 214 ∧ c ≠ 215) → c ≠ 139 → W0 c x i = (m_fdI μ (pl_ p) lo hi A).2 c x i := fun z z2 => by rw [hW0, saves_at z]; exact up_k _ z2 _ _ _ _ _
  rw [← hW0] at y4 y5 y6 y7 y8 y9 y10 hk ⊢
  obtain ⟨nd, hnd⟩ : ∃ nd, nd = (m_fdI μ (pl_ p) lo hi A).2 226 0 a := ⟨_, rfl⟩
  rw [← hnd] at y3 e226 ⊢
  have end_ : nd = m_fan A (fcu μ A) a := e226
  rw [← end_] at hκ
  have f0 : ∀ {c : Nat} {x i : Int}, c = 120 ∨ c = 121 ∨ c = 122 ∨ c = 123 ∨ c = 124 ∨ c = 212 ∨ (216 ≤ c ∧ c ≤ 225) → W0 c x i = A c x i := fun z => y10 _ _ _ (by omega) (by omega) (by omega) (by omega) (by omega) (by omega) (by omega)
  have hal : alv μ A nd := ⟨⟨by omega, y3.2.1⟩, y3.2.2.1⟩
  have hkr : ∀ i, 0 ≤ i → i < n → 0 ≤ kp i ∧ kp i < W0 122 μ.1 0 := fun i i0 i1 => by
    have hm : kp i ∈ (rng n.toNat 0).map kp := List.mem_map.mpr ⟨i, rng_mem.mpr (by omega), rfl⟩
    rw [hκ] at hm
    rw [f0 (by decide)]
    exact hr.ixr hal (List.mem_filter.mp hm).1
  obtain ⟨⟨x1, x2⟩, ⟨x3, x4, x5⟩, x6, x7⟩ := hr1.1.2.2.2.2.2.2
  have e47b : w1 47 f 0 = w 47 f 0 := e7 47 f 0 (by decide) (by decide) (by decide) (by decide) (by decide) (by decide) (by decide)
  rw [e47b] at x1 x2 x3 x4 x5 x6 x7
  have e37 : w2 37 (w 47 f 0) 0 = w1 37 (w 47 f 0) 0 := u.g (by omega) x2 (fun z => by unfold SDb at z; omega)
  have e37b : w1 37 (w 47 f 0) 0 = w 37 (w 47 f 0) 0 := e7 37 _ 0 (by decide) (by decide) (by decide) (by decide) (by decide) (by decide) (by decide)
  have ex : txT w2 (w2 47 f 0) = txT w (w 47 f 0) := by
    funext i
    show w2 3 (w2 37 (w2 47 f 0) 0) i = w 3 (w 37 (w 47 f 0) 0) i
    rw [e47, e37, u.g (a := w1 37 (w 47 f 0) 0) (k := 3) (i := i) (by omega) x5 (fun z => by unfold SDb at z; omega), e37b]
    exact e7 3 _ i (by decide) (by decide) (by decide) (by decide) (by decide) (by decide) (by decide)
  have x6' : ∀ i, 0 ≤ i → i < 8 → w1 0 (txT w (w 47 f 0) i) 0 = 9 ∧ pc_ p (txT w (w 47 f 0) i) = 54 + i := fun i i0 i1 => by
    have := x6 i i0 i1
    rw [e37b, e7 3 _ i (by decide) (by decide) (by decide) (by decide) (by decide) (by decide) (by decide)] at this
    exact this
  refine ⟨⟨hk, ?_, y4, ⟨⟨⟨by omega, by rw [f0 (by decide)]; exact y3.2.1⟩, by rw [f0 (by decide)]; exact y3.2.2.1⟩, y3.1⟩, ?_⟩, ⟨⟨hS, hP, by omega⟩, ⟨by rw [e0 (by decide) (by decide)]; exact hn, y2.1, y2.2⟩, y5, y6, y8, ?_⟩, ?_⟩
  · rw [ex]
    refine hTr.tro (fun i i0 i1 => ?_) (fun c i z => e0 (by omega) (by omega)) (fun k _ _ => f0 (by decide)) hkr
    obtain ⟨z1, z2⟩ := x6' i i0 (by omega)
    exact ⟨u.g (by omega) z2 (fun z => by unfold SDb at z; omega), u.g (by omega) z2 (fun z => by unfold SDb at z; omega), u.g (by omega) z2 (fun z => by unfold SDb at z; omega), u.g (by omega) z2 (fun z => by unfold SDb at z; omega)⟩
  · rw [hκ, ixN_cgm _ fun q _ => ⟨f0 (c := 218) (by decide), f0 (c := 220) (by decide)⟩]
    refine List.filter_congr fun k _ => ?_
    unfold txS
    rw [f0 (c := 212) (by decide)]
  · rw [f0 (c := 122) (by decide), f0 (c := 120) (by decide), f0 (c := 123) (by decide), f0 (c := 121) (by decide)]
    exact hRB.2.2.1.2.2.1
  · rw [e47]
    exact u.g (by omega) x2 (fun z => by unfold SDb at z; omega)
theorem dX12_undoIn_0 : decode cX12_undoIn 0 = .ok (.iload_n 1, 1) := by decide +kernel
theorem dX12_undoIn_1 : decode cX12_undoIn 1 = .ok (.iconst 0, 1) := by decide +kernel
theorem dX12_undoIn_2 : decode cX12_undoIn 2 = .ok (.aload_n 0, 1) := by decide +kernel
theorem dX12_undoIn_3 : decode cX12_undoIn 3 = .ok (.getfield 10, 3) := by decide +kernel
theorem dX12_undoIn_6 : decode cX12_undoIn 6 = .ok (.getfield 223, 3) := by decide +kernel
theorem dX12_undoIn_9 : decode cX12_undoIn 9 = .ok (.getfield 227, 3) := by decide +kernel
theorem dX12_undoIn_12 : decode cX12_undoIn 12 = .ok (.invokestatic 129, 3) := by decide +kernel
theorem dX12_undoIn_15 : decode cX12_undoIn 15 = .ok (.iload_n 2, 1) := by decide +kernel
theorem dX12_undoIn_16 : decode cX12_undoIn 16 = .ok (.iload_n 1, 1) := by decide +kernel
theorem dX12_undoIn_17 : decode cX12_undoIn 17 = .ok (.aload_n 0, 1) := by decide +kernel
theorem dX12_undoIn_18 : decode cX12_undoIn 18 = .ok (.getfield 10, 3) := by decide +kernel
theorem dX12_undoIn_21 : decode cX12_undoIn 21 = .ok (.getfield 223, 3) := by decide +kernel
theorem dX12_undoIn_24 : decode cX12_undoIn 24 = .ok (.getfield 227, 3) := by decide +kernel
theorem dX12_undoIn_27 : decode cX12_undoIn 27 = .ok (.invokestatic 129, 3) := by decide +kernel
theorem dX12_undoIn_30 : decode cX12_undoIn 30 = .ok (.aload_n 0, 1) := by decide +kernel
theorem dX12_undoIn_31 : decode cX12_undoIn 31 = .ok (.invokevirtual 201, 3) := by decide +kernel
theorem dX12_undoIn_34 : decode cX12_undoIn 34 = .ok (.aload_n 0, 1) := by decide +kernel
theorem dX12_undoIn_35 : decode cX12_undoIn 35 = .ok (.getfield 43, 3) := by decide +kernel
theorem dX12_undoIn_38 : decode cX12_undoIn 38 = .ok (.aload_n 0, 1) := by decide +kernel
theorem dX12_undoIn_39 : decode cX12_undoIn 39 = .ok (.getfield 29, 3) := by decide +kernel
theorem dX12_undoIn_42 : decode cX12_undoIn 42 = .ok (.getfield 98, 3) := by decide +kernel
theorem dX12_undoIn_45 : decode cX12_undoIn 45 = .ok (.iload_n 1, 1) := by decide +kernel
theorem dX12_undoIn_46 : decode cX12_undoIn 46 = .ok (.iload_n 2, 1) := by decide +kernel
theorem dX12_undoIn_47 : decode cX12_undoIn 47 = .ok (.invokevirtual 232, 3) := by decide +kernel
theorem dX12_undoIn_50 : decode cX12_undoIn 50 = .ok (.ifCond .ne 13, 3) := by decide +kernel
theorem dX12_undoIn_53 : decode cX12_undoIn 53 = .ok (.new 163, 3) := by decide +kernel
theorem dX12_undoIn_56 : decode cX12_undoIn 56 = .ok (.dup, 1) := by decide +kernel
theorem dX12_undoIn_57 : decode cX12_undoIn 57 = .ok (.ldc 236, 2) := by decide +kernel
theorem dX12_undoIn_59 : decode cX12_undoIn 59 = .ok (.invokespecial 167, 3) := by decide +kernel
theorem dX12_undoIn_62 : decode cX12_undoIn 62 = .ok (.athrow, 1) := by decide +kernel
theorem dX12_undoIn_63 : decode cX12_undoIn 63 = .ok (.aload_n 0, 1) := by decide +kernel
theorem dX12_undoIn_64 : decode cX12_undoIn 64 = .ok (.getfield 16, 3) := by decide +kernel
theorem dX12_undoIn_67 : decode cX12_undoIn 67 = .ok (.aload_n 0, 1) := by decide +kernel
theorem dX12_undoIn_68 : decode cX12_undoIn 68 = .ok (.getfield 10, 3) := by decide +kernel
theorem dX12_undoIn_71 : decode cX12_undoIn 71 = .ok (.invokevirtual 136, 3) := by decide +kernel
theorem dX12_undoIn_74 : decode cX12_undoIn 74 = .ok (.aload_n 0, 1) := by decide +kernel
theorem dX12_undoIn_75 : decode cX12_undoIn 75 = .ok (.getfield 43, 3) := by decide +kernel
theorem dX12_undoIn_78 : decode cX12_undoIn 78 = .ok (.aload_n 0, 1) := by decide +kernel
theorem dX12_undoIn_79 : decode cX12_undoIn 79 = .ok (.getfield 10, 3) := by decide +kernel
theorem dX12_undoIn_82 : decode cX12_undoIn 82 = .ok (.invokevirtual 238, 3) := by decide +kernel
theorem dX12_undoIn_85 : decode cX12_undoIn 85 = .ok (.ifCond .ne 24, 3) := by decide +kernel
theorem dX12_undoIn_88 : decode cX12_undoIn 88 = .ok (.aload_n 0, 1) := by decide +kernel
theorem dX12_undoIn_89 : decode cX12_undoIn 89 = .ok (.getfield 10, 3) := by decide +kernel
theorem dX12_undoIn_92 : decode cX12_undoIn 92 = .ok (.aload_n 0, 1) := by decide +kernel
theorem dX12_undoIn_93 : decode cX12_undoIn 93 = .ok (.getfield 16, 3) := by decide +kernel
theorem dX12_undoIn_96 : decode cX12_undoIn 96 = .ok (.invokevirtual 136, 3) := by decide +kernel
theorem dX12_undoIn_99 : decode cX12_undoIn 99 = .ok (.new 163, 3) := by decide +kernel
theorem dX12_undoIn_102 : decode cX12_undoIn 102 = .ok (.dup, 1) := by decide +kernel
theorem dX12_undoIn_103 : decode cX12_undoIn 103 = .ok (.ldc 242, 2) := by decide +kernel
theorem dX12_undoIn_105 : decode cX12_undoIn 105 = .ok (.invokespecial 167, 3) := by decide +kernel
theorem dX12_undoIn_108 : decode cX12_undoIn 108 = .ok (.athrow, 1) := by decide +kernel
theorem dX12_undoIn_109 : decode cX12_undoIn 109 = .ok (.aload_n 0, 1) := by decide +kernel
theorem dX12_undoIn_110 : decode cX12_undoIn 110 = .ok (.iconst 1, 1) := by decide +kernel
theorem dX12_undoIn_111 : decode cX12_undoIn 111 = .ok (.invokevirtual 91, 3) := by decide +kernel
theorem dX12_undoIn_114 : decode cX12_undoIn 114 = .ok (.aload_n 0, 1) := by decide +kernel
theorem dX12_undoIn_115 : decode cX12_undoIn 115 = .ok (.iconst 0, 1) := by decide +kernel
theorem dX12_undoIn_116 : decode cX12_undoIn 116 = .ok (.putfield 113, 3) := by decide +kernel
theorem dX12_undoIn_119 : decode cX12_undoIn 119 = .ok (.aload_n 0, 1) := by decide +kernel
theorem dX12_undoIn_120 : decode cX12_undoIn 120 = .ok (.getfield 29, 3) := by decide +kernel
theorem dX12_undoIn_123 : decode cX12_undoIn 123 = .ok (.getfield 98, 3) := by decide +kernel
theorem dX12_undoIn_126 : decode cX12_undoIn 126 = .ok (.getfield 181, 3) := by decide +kernel
theorem dX12_undoIn_129 : decode cX12_undoIn 129 = .ok (.ireturn, 1) := by decide +kernel
set_option maxRecDepth 4000 in
theorem kX12_undoIn (γ : LC) (w : Mm) (f lo hi : Int) (p : RP) (μ : MU) (A : Mm) (S P M : Int) (h : CHB p μ f (lvL p μ A) w A) (hRB : RB μ S P M A) (hS : S ≤ 28900) (hP : P ≤ 500000) (hM : M ≤ 598) (hb28 : ∀ j, 0 ≤ j → j < 3 → A 228 0 j = 0 ∨ A 228 0 j = 1) (hM9 : M ≤ 590) (hlo : IR lo) (hhi : IR hi) (hIV : IVS μ A) (hPT : PTX μ A) : KI γ 12 mX12_undoIn [rv f, .int (I lo), .int (I hi)] w (80) (6600) (fun r w' => r = (o_undoIn μ (pl_ p) lo hi A).1 ∧ (o_undoIn μ (pl_ p) lo hi A).2 139 μ.1 0 = 0 ∧ RES μ f w w' (o_undoIn μ (pl_ p) lo hi A).2 ∧ IVS μ (o_undoIn μ (pl_ p) lo hi A).2 ∧ PTX μ (o_undoIn μ (pl_ p) lo hi A).2 ∧ RB μ (S + 56) (P + 600) (M + 1) (o_undoIn μ (pl_ p) lo hi A).2 ∧ T34 μ A (o_undoIn μ (pl_ p) lo hi A).2) (fun E w' => ((E = "java/lang/IllegalArgumentException" ∧ (o_undoIn μ (pl_ p) lo hi A).2 139 μ.1 0 = 1) ∨ (E = "java/lang/IllegalStateException" ∧ (o_undoIn μ (pl_ p) lo hi A).2 139 μ.1 0 = 2)) ∧ RES μ f w w' (o_undoIn μ (pl_ p) lo hi A).2 ∧ IVS μ (o_undoIn μ (pl_ p) lo hi A).2 ∧ PTX μ (o_undoIn μ (pl_ p) lo hi A).2 ∧ RB μ (S + 56) (P + 600) (M + 1) (o_undoIn μ (pl_ p) lo hi A).2 ∧ T34 μ A (o_undoIn μ (pl_ p) lo hi A).2) := by
  refine MX_of rfl rfl (by simp [rv_cat, int_cat]) rfl ?_
  rintro κ hO hF rfl
  have hD := hF.dp
  show X κ (80) (6600) w 0 [some (rv f), some (.int (I lo)), some (.int (I hi))] []
  refine X_wi fun hWI => ?_
  have hA0 : CHB p μ f (lvL p μ (m_th μ 0 A)) w (m_th μ 0 A) := h.o9 hRB hM
  have hR0 : RB μ S P M (m_th μ 0 A) := hRB.o9
  obtain ⟨hr, hTX, hLV⟩ := id hA0
  obtain ⟨t0, hFB, t2, -⟩ := hr.toF
  obtain ⟨hB0, hK0, hZ0, hY0⟩ := id hR0
  have hT := hK0.2.2.2.1
  have hl := hLV.b0.1
  have h120 := hB0.2.2.2.2.1
  have hSB := hB0.1
  have u9 : ∀ {cc : Nat} {x i : Int}, cc ≠ 139 → m_th μ 0 A cc x i = A cc x i := fun z => up_k _ z _ _ _ _ _
  have hz1 : A 132 μ.1 0 = 0 ∨ A 132 μ.1 0 = 1 := hRB.2.2.1.1
  have e87 : w 87 f 0 = A 132 μ.1 0 := h.1.1.2.1.2.2.2.2.1
  have low : w 67 (w 11 (w 41 f 0) 0) 0 = A 201 0 0 := h.1.low.2.2.2.1
  have h400 : 0 ≤ A 201 0 0 ∧ A 201 0 0 ≤ 400 := hRB.1.1.1
  have hFS : w 0 (w 11 (w 41 f 0) 0) 0 = 6 := hr.toF.2.2.2
  have e40 : w 40 (w 45 f 0) 0 = pn_ p (m_th μ 0 A 126 μ.1 0) := hr.1.2.2.2.1.1.2.2.2.2.1
  obtain ⟨-, c11, c5⟩ := hA0.cur hT
  have h8 := hIV.1.2.2.1
  have hTc := hIV.1.2.1
  have iv0 : ∀ v, IVS μ (up A 139 μ.1 0 v) ∧ PTX μ (up A 139 μ.1 0 v) ∧ RB μ (S + 56) (P + 600) (M + 1) (up A 139 μ.1 0 v) ∧ T34 μ A (up A 139 μ.1 0 v) := fun v => ⟨hIV.o9 hRB, (TLn.o9 h hRB hM hPT.1).2, hRB.o9.mono (by omega) (by omega) (by omega), fun cc z aa ii => up_k _ (by omega) _ _ _ _ _⟩
  have hpb0 : bPb (m_th μ 0 A) := hLV.1.2.2.1
  have h8' : 0 ≤ m_th μ 0 A 137 μ.1 0 ∧ m_th μ 0 A 137 μ.1 0 ≤ 8 := by rw [u9 (by decide)]; exact h8
  have hTc' : bTc 150010000 (m_th μ 0 A) := fun t a b => by rw [u9 (by decide), u9 (by decide)]; exact hTc t a b
  obtain ⟨fd1, fd2, fd3⟩ := fdi_ok (lo := lo) (hi := hi) hTX.1.1 hT (by omega) h8' hTc'
  have hUN := hA0.un hR0 (by omega) h8' hTc'
  have c10 : w 0 (w 47 f 0) 0 = 10 := hr.1.2.2.2.2.2.2.1.1
  have fd9 : FDV (m_th μ 0 A) (m_th μ 0 (m_fdI μ (pl_ p) lo hi (m_th μ 0 A)).2) := fd1.o9
  have hT9 : TB μ M (m_th μ 0 (m_fdI μ (pl_ p) lo hi (m_th μ 0 A)).2) := hT.cong7 fun c a i y => fd9 c a i (by omega) (by omega) (by omega) (by omega) (by omega) (by omega)
  have hs1 : SB 1 (m_th μ 0 (m_fdI μ (pl_ p) lo hi (m_th μ 0 A)).2) := hK0.2.2.1.cong fun c a i y1 y2 => fd9 c a i (by omega) (by omega) (by omega) (by omega) (by omega) (by omega)
  have hs0 : SB 0 (m_th μ 0 (m_fdI μ (pl_ p) lo hi (m_th μ 0 A)).2) := hSB.cong fun c a i y1 y2 => fd9 c a i (by omega) (by omega) (by omega) (by omega) (by omega) (by omega)
  refine X_iload_n 1 hO dX12_undoIn_0 rfl rfl ?_
  refine X_iconst 2 hO dX12_undoIn_1 rfl ?_
  refine X_aload_n 3 hO dX12_undoIn_2 rfl rfl ?_
  refine gX12_10 6 hO dX12_undoIn_3 rfl (by first | assumption | omega | (simp (disch := first | decide | assumption | omega) only [up_k, up_s, up_a, up_i, flA_k, flA_a, flA_n, cpA_k, cpA_a, newO_o, newA_o, newO_t, newA_t, newA_n, cpQ_k, cpQ_a] <;> first | assumption | omega)) ?_
  try simp (disch := first | decide | assumption | omega) only [up_k, up_s, up_a, up_i, flA_k, flA_a, flA_n, cpA_k, cpA_a, newO_o, newA_o, newO_t, newA_t, newA_n, cpQ_k, cpQ_a, e40]
  refine gX12_223 9 hO dX12_undoIn_6 rfl (by first | assumption | omega | (simp (disch := first | decide | assumption | omega) only [up_k, up_s, up_a, up_i, flA_k, flA_a, flA_n, cpA_k, cpA_a, newO_o, newA_o, newO_t, newA_t, newA_n, cpQ_k, cpQ_a] <;> first | assumption | omega)) ?_
  try simp (disch := first | decide | assumption | omega) only [up_k, up_s, up_a, up_i, flA_k, flA_a, flA_n, cpA_k, cpA_a, newO_o, newA_o, newO_t, newA_t, newA_n, cpQ_k, cpQ_a, e40]
  refine gX12_227 12 hO dX12_undoIn_9 rfl (by first | assumption | omega | (simp (disch := first | decide | assumption | omega) only [up_k, up_s, up_a, up_i, flA_k, flA_a, flA_n, cpA_k, cpA_a, newO_o, newA_o, newO_t, newA_t, newA_n, cpQ_k, cpQ_a] <;> first | assumption | omega)) (fun hi_9 => ?_)
  try simp (disch := first | decide | assumption | omega) only [up_k, up_s, up_a, up_i, flA_k, flA_a, flA_n, cpA_k, cpA_a, newO_o, newA_o, newO_t, newA_t, newA_n, cpQ_k, cpQ_a, e40] at hi_9 ⊢
  refine X_kSv 15 hO hD lX12_129 [_, _, _] rfl dX12_undoIn_12 rfl (kX12_requireRange _ _ _ _ _ hlo (by unfold IR; omega) (by unfold IR; omega)) (by decide) (by simp [rv_cat, int_cat]) (by first | decide | exact Nat.zero_le _ | omega) (by first | decide | exact Nat.zero_le _ | omega) (fun w_12 hp_12 => ?_) (fun E w_ hx_ => (XE_out hO hF (by
  obtain ⟨x1, x2, x3⟩ := hx_
  have hn : ¬ isR lo hi A := by unfold isR; omega
  have eo : (o_undoIn μ (pl_ p) lo hi A) = (0, m_th μ 1 A) := by unfold o_undoIn; rw [if_neg hn]
  rw [eo, x3]
  exact ⟨Or.inl ⟨x1, up_s _ _ _ _ _⟩, h.r9 hRB hM, iv0 _⟩)))
  obtain ⟨i1_12, e2_12⟩ := hp_12
  subst w_12
  refine X_iload_n 16 hO dX12_undoIn_15 rfl rfl ?_
  refine X_iload_n 17 hO dX12_undoIn_16 rfl rfl ?_
  refine X_aload_n 18 hO dX12_undoIn_17 rfl rfl ?_
  refine gX12_10 21 hO dX12_undoIn_18 rfl (by first | assumption | omega | (simp (disch := first | decide | assumption | omega) only [up_k, up_s, up_a, up_i, flA_k, flA_a, flA_n, cpA_k, cpA_a, newO_o, newA_o, newO_t, newA_t, newA_n, cpQ_k, cpQ_a] <;> first | assumption | omega)) ?_
  try simp (disch := first | decide | assumption | omega) only [up_k, up_s, up_a, up_i, flA_k, flA_a, flA_n, cpA_k, cpA_a, newO_o, newA_o, newO_t, newA_t, newA_n, cpQ_k, cpQ_a, e40]
  refine gX12_223 24 hO dX12_undoIn_21 rfl (by first | assumption | omega | (simp (disch := first | decide | assumption | omega) only [up_k, up_s, up_a, up_i, flA_k, flA_a, flA_n, cpA_k, cpA_a, newO_o, newA_o, newO_t, newA_t, newA_n, cpQ_k, cpQ_a] <;> first | assumption | omega)) ?_
  try simp (disch := first | decide | assumption | omega) only [up_k, up_s, up_a, up_i, flA_k, flA_a, flA_n, cpA_k, cpA_a, newO_o, newA_o, newO_t, newA_t, newA_n, cpQ_k, cpQ_a, e40]
  refine gX12_227 27 hO dX12_undoIn_24 rfl (by first | assumption | omega | (simp (disch := first | decide | assumption | omega) only [up_k, up_s, up_a, up_i, flA_k, flA_a, flA_n, cpA_k, cpA_a, newO_o, newA_o, newO_t, newA_t, newA_n, cpQ_k, cpQ_a] <;> first | assumption | omega)) (fun hi_24 => ?_)
  try simp (disch := first | decide | assumption | omega) only [up_k, up_s, up_a, up_i, flA_k, flA_a, flA_n, cpA_k, cpA_a, newO_o, newA_o, newO_t, newA_t, newA_n, cpQ_k, cpQ_a, e40] at hi_24 ⊢
  refine X_kSv 30 hO hD lX12_129 [_, _, _] rfl dX12_undoIn_27 rfl (kX12_requireRange _ _ _ _ _ hhi hlo (by unfold IR; omega)) (by decide) (by simp [rv_cat, int_cat]) (by first | decide | exact Nat.zero_le _ | omega) (by first | decide | exact Nat.zero_le _ | omega) (fun w_27 hp_27 => ?_) (fun E w_ hx_ => (XE_out hO hF (by
  obtain ⟨x1, x2, x3⟩ := hx_
  have hn : ¬ isR lo hi A := by unfold isR; omega
  have eo : (o_undoIn μ (pl_ p) lo hi A) = (0, m_th μ 1 A) := by unfold o_undoIn; rw [if_neg hn]
  rw [eo, x3]
  exact ⟨Or.inl ⟨x1, up_s _ _ _ _ _⟩, h.r9 hRB hM, iv0 _⟩)))
  obtain ⟨i1_27, e2_27⟩ := hp_27
  subst w_27
  have hisR : isR lo hi A := by unfold isR; omega
  refine X_aload_n 31 hO dX12_undoIn_30 rfl rfl ?_
  refine X_kVv (t := 13) 34 hO hD lX12_201 rfl (by decide) [] rfl dX12_undoIn_31 rfl (by first | assumption | omega | (simp (disch := first | decide | assumption | omega) only [up_k, up_s, up_a, up_i, flA_k, flA_a, flA_n, cpA_k, cpA_a, newO_o, newA_o, newO_t, newA_t, newA_n, cpQ_k, cpQ_a] <;> first | assumption | omega)) (kX12_refuseInGroup _ _ _ (by assumption)) (by decide) (by simp [rv_cat, int_cat]) (by first | decide | exact Nat.zero_le _ | omega) (by first | decide | exact Nat.zero_le _ | omega) (fun w_31 hp_31 => ?_) (fun E w_ hx_ => (XE_out hO hF (by
  obtain ⟨x1, x2, x3⟩ := hx_
  have eo : (o_undoIn μ (pl_ p) lo hi A) = (0, m_th μ 2 A) := by unfold o_undoIn; rw [if_pos hisR, if_pos (by omega)]
  rw [eo, x3]
  exact ⟨Or.inr ⟨x1, up_s _ _ _ _ _⟩, h.r9 hRB hM, iv0 _⟩)))
  obtain ⟨i1_31, e2_31⟩ := hp_31
  subst w_31
  have h132 : m_th μ 0 A 132 μ.1 0 = 0 := by rw [u9 (by decide)]; omega
  have eo : (o_undoIn μ (pl_ p) lo hi A) = m_ui1 μ (pl_ p) (m_fdI μ (pl_ p) lo hi (m_th μ 0 A)) := by unfold o_undoIn; rw [if_pos hisR, if_neg (by omega)]
  refine X_aload_n 35 hO dX12_undoIn_34 rfl rfl ?_
  refine gX12_43 38 hO dX12_undoIn_35 rfl (by first | assumption | omega | (simp (disch := first | decide | assumption | omega) only [up_k, up_s, up_a, up_i, flA_k, flA_a, flA_n, cpA_k, cpA_a, newO_o, newA_o, newO_t, newA_t, newA_n, cpQ_k, cpQ_a] <;> first | assumption | omega)) ?_
  try simp (disch := first | decide | assumption | omega) only [up_k, up_s, up_a, up_i, flA_k, flA_a, flA_n, cpA_k, cpA_a, newO_o, newA_o, newO_t, newA_t, newA_n, cpQ_k, cpQ_a, e40]
  refine X_aload_n 39 hO dX12_undoIn_38 rfl rfl ?_
  refine gX12_29 42 hO dX12_undoIn_39 rfl (by first | assumption | omega | (simp (disch := first | decide | assumption | omega) only [up_k, up_s, up_a, up_i, flA_k, flA_a, flA_n, cpA_k, cpA_a, newO_o, newA_o, newO_t, newA_t, newA_n, cpQ_k, cpQ_a] <;> first | assumption | omega)) ?_
  try simp (disch := first | decide | assumption | omega) only [up_k, up_s, up_a, up_i, flA_k, flA_a, flA_n, cpA_k, cpA_a, newO_o, newA_o, newO_t, newA_t, newA_n, cpQ_k, cpQ_a, e40]
  refine gX12_98 45 hO dX12_undoIn_42 rfl (by first | assumption | omega | (simp (disch := first | decide | assumption | omega) only [up_k, up_s, up_a, up_i, flA_k, flA_a, flA_n, cpA_k, cpA_a, newO_o, newA_o, newO_t, newA_t, newA_n, cpQ_k, cpQ_a] <;> first | assumption | omega)) ?_
  try simp (disch := first | decide | assumption | omega) only [up_k, up_s, up_a, up_i, flA_k, flA_a, flA_n, cpA_k, cpA_a, newO_o, newA_o, newO_t, newA_t, newA_n, cpQ_k, cpQ_a, e40]
  refine X_iload_n 46 hO dX12_undoIn_45 rfl rfl ?_
  refine X_iload_n 47 hO dX12_undoIn_46 rfl rfl ?_
  refine X_kVi (t := 10) 50 hO hD lX12_232 rfl (by decide) [_, _, _] rfl dX12_undoIn_47 rfl (by first | assumption | omega | (simp (disch := first | decide | assumption | omega) only [up_k, up_s, up_a, up_i, flA_k, flA_a, flA_n, cpA_k, cpA_a, newO_o, newA_o, newO_t, newA_t, newA_n, cpQ_k, cpQ_a] <;> first | assumption | omega)) (kX9_find _ _ f _ lo hi p μ (lvL p μ (m_th μ 0 A)) (m_th μ 0 A) M hr hTX.1.1 hT hl.2 hlo hhi rfl) (by decide) (by simp [rv_cat, int_cat]) (by first | decide | exact Nat.zero_le _ | omega) (by first | decide | exact Nat.zero_le _ | omega) (fun r_47 w_47 hr_47 hp_47 => ?_) (fun E w_ hx_ => hx_.elim)
  obtain ⟨⟨a', hd⟩, hp_47⟩ := hp_47
  have g1 : UPG f w w_47 := hd.upg hr
  have hA1 : CHB p μ f (lvL p μ (m_th μ 0 A)) w_47 (m_th μ 0 A) := hA0.f7 hd.1.1 hd.2.2.1 hd.2.1
  have kB : CHB p μ f (lvL p μ (m_th μ 0 (m_fdI μ (pl_ p) lo hi (m_th μ 0 A)).2)) w_47 (m_th μ 0 (m_fdI μ (pl_ p) lo hi (m_th μ 0 A)).2) := hA1.fdv hT (by omega) hB0 hK0.2.2.1 fd9
  have c13a : w_47 0 f 0 = 13 := kB.1.toF.1
  obtain ⟨-, hFBa, t2a, -⟩ := kB.1.toF
  have hqa : sqD w_47 f (w_47 42 f 0) 20 2 := Or.inl ⟨rfl, rfl, rfl⟩
  have t42a := ((kB.1.1.2.2.1.sq hqa).1).1.1
  have ld9 := kB.2.2.1.2.2.2.1
  have x120 : (m_th μ 0 (m_fdI μ (pl_ p) lo hi (m_th μ 0 A)).2) 120 μ.1 0 = m_th μ 0 A 120 μ.1 0 := fd9 _ _ _ (by decide) (by decide) (by decide) (by decide) (by decide) (by decide)
  have hLa : ((lvL p μ (m_th μ 0 (m_fdI μ (pl_ p) lo hi (m_th μ 0 A)).2)).length : Int) ≤ 100000 := by unfold lvL; rw [List.length_map, rng_len]; omega
  obtain ⟨hDAa, h67a⟩ := kB.1.DAs hqa hLa
  refine X_if_ne 53 63 hO dX12_undoIn_50 rfl rfl (by omega) (fun hc_50 => ?_) (fun hc_50 => ?_)
  ·
    try simp only [bi_0, bi_ne, ne_eq, Classical.not_not] at hc_50
    obtain ⟨r1, a, n, kp, ha, hfa, ⟨hTr, h77, hBN⟩, hkp⟩ := hp_47.resolve_right (fun z => by have := z.1; omega)
    refine X_aload_n 64 hO dX12_undoIn_63 rfl rfl ?_
    refine gX12_16 67 hO dX12_undoIn_64 rfl (by first | assumption | omega | (simp (disch := first | decide | assumption | omega) only [up_k, up_s, up_a, up_i, flA_k, flA_a, flA_n, cpA_k, cpA_a, newO_o, newA_o, newO_t, newA_t, newA_n, cpQ_k, cpQ_a] <;> first | assumption | omega)) ?_
    try simp (disch := first | decide | assumption | omega) only [up_k, up_s, up_a, up_i, flA_k, flA_a, flA_n, cpA_k, cpA_a, newO_o, newA_o, newO_t, newA_t, newA_n, cpQ_k, cpQ_a, e40]
    refine X_aload_n 68 hO dX12_undoIn_67 rfl rfl ?_
    refine gX12_10 71 hO dX12_undoIn_68 rfl (by first | assumption | omega | (simp (disch := first | decide | assumption | omega) only [up_k, up_s, up_a, up_i, flA_k, flA_a, flA_n, cpA_k, cpA_a, newO_o, newA_o, newO_t, newA_t, newA_n, cpQ_k, cpQ_a] <;> first | assumption | omega)) ?_
    try simp (disch := first | decide | assumption | omega) only [up_k, up_s, up_a, up_i, flA_k, flA_a, flA_n, cpA_k, cpA_a, newO_o, newA_o, newO_t, newA_t, newA_n, cpQ_k, cpQ_a, e40]
    refine X_kVv (t := 2) 74 hO hD lX12_136 rfl (by decide) [_] rfl dX12_undoIn_71 rfl (by first | assumption | omega | (simp (disch := first | decide | assumption | omega) only [up_k, up_s, up_a, up_i, flA_k, flA_a, flA_n, cpA_k, cpA_a, newO_o, newA_o, newO_t, newA_t, newA_n, cpQ_k, cpQ_a] <;> first | assumption | omega)) (kX1_takeAll _ _ _ _ 400 hDAa (by omega)) (by decide) (by simp [rv_cat, int_cat]) (by first | decide | exact Nat.zero_le _ | omega) (by first | decide | exact Nat.zero_le _ | omega) (fun w_71 hp_71 => ?_) (fun E w_ hx_ => hx_.elim)
    obtain ⟨s1_, s2_, s3_, s4_⟩ := kB.1.saveP ld9 hs0.2.2.2.2.1 hs0.1.2 hqa hp_71
    have g2 : UPG f w_47 w_71 := s4_.toG kB.1.1.2.1.1 kB.1.1.2.2.2.2.2.1 (fun k z1 z => by unfold SDb at z; omega) (fun k z => by unfold SDb at z; omega)
    have f42 : w_71 42 f 0 = w_47 42 f 0 := g2.2.1 42 (by decide)
    have n12 : w_71 12 (w_47 42 f 0) 0 = w_47 12 (w_47 42 f 0) 0 := s4_.g (by omega) ((kB.1.1.2.2.1.sq hqa).1).1.2 (fun z => by unfold SDb at z; omega)
    have k1 : CHK p μ f w_71 (m_saves μ 2 (m_th μ 0 (m_fdI μ (pl_ p) lo hi (m_th μ 0 A)).2)) := CHK.ini kB hT9 (by omega) hs1 hs0 s1_ (by rw [f42]; exact ⟨s2_, by rw [n12]; exact s3_⟩)
    have e122 : (m_th μ 0 (m_fdI μ (pl_ p) lo hi (m_th μ 0 A)).2) 122 μ.1 0 = m_th μ 0 A 122 μ.1 0 := fd9 _ _ _ (by decide) (by decide) (by decide) (by decide) (by decide) (by decide)
    rw [e122] at s4_
    obtain ⟨hOI, hOH, h77b⟩ := opi_ini hr hTX.1.1 hR0 hS hP hM9 hUN h132 ha hfa hTr hkp hd.1.1 hA1.1 s4_ (by rw [g2.2.1 47 (by decide), g1.2.1 47 (by decide)]) k1
    have c13b : w_71 0 f 0 = 13 := k1.1.1.toF.1
    have c41b : w_71 0 (w_71 41 f 0) 0 = 2 := k1.1.1.toF.2.2.1
    have c10b : w_71 0 (w_71 47 f 0) 0 = 10 := k1.1.1.1.2.2.2.2.2.2.1.1
    refine X_aload_n 75 hO dX12_undoIn_74 rfl rfl ?_
    refine gX12_43 78 hO dX12_undoIn_75 rfl (by first | assumption | omega | (simp (disch := first | decide | assumption | omega) only [up_k, up_s, up_a, up_i, flA_k, flA_a, flA_n, cpA_k, cpA_a, newO_o, newA_o, newO_t, newA_t, newA_n, cpQ_k, cpQ_a] <;> first | assumption | omega)) ?_
    try simp (disch := first | decide | assumption | omega) only [up_k, up_s, up_a, up_i, flA_k, flA_a, flA_n, cpA_k, cpA_a, newO_o, newA_o, newO_t, newA_t, newA_n, cpQ_k, cpQ_a, e40]
    refine X_aload_n 79 hO dX12_undoIn_78 rfl rfl ?_
    refine gX12_10 82 hO dX12_undoIn_79 rfl (by first | assumption | omega | (simp (disch := first | decide | assumption | omega) only [up_k, up_s, up_a, up_i, flA_k, flA_a, flA_n, cpA_k, cpA_a, newO_o, newA_o, newO_t, newA_t, newA_n, cpQ_k, cpQ_a] <;> first | assumption | omega)) ?_
    try simp (disch := first | decide | assumption | omega) only [up_k, up_s, up_a, up_i, flA_k, flA_a, flA_n, cpA_k, cpA_a, newO_o, newA_o, newO_t, newA_t, newA_n, cpQ_k, cpQ_a, e40]
    refine X_kVi (t := 10) 85 hO hD lX12_238 rfl (by decide) [_] rfl dX12_undoIn_82 rfl (by first | assumption | omega | (simp (disch := first | decide | assumption | omega) only [up_k, up_s, up_a, up_i, flA_k, flA_a, flA_n, cpA_k, cpA_a, newO_o, newA_o, newO_t, newA_t, newA_n, cpQ_k, cpQ_a] <;> first | assumption | omega)) (kX9_doOpposites _ _ f _ _ p μ kp S P M n _ _ hOI hOH (h77b.trans h77) rfl rfl (fun t a b => by rw [saves_at (by decide), saves_at (by decide)]; show (0 ≤ up _ 139 μ.1 0 0 244 0 t ∧ up _ 139 μ.1 0 0 244 0 t ≤ _) ∧ (0 ≤ up _ 139 μ.1 0 0 245 0 t ∧ up _ 139 μ.1 0 0 245 0 t ≤ _) ∧ up _ 139 μ.1 0 0 244 0 t ≤ up _ 139 μ.1 0 0 245 0 t; rw [up_k _ (by decide), up_k _ (by decide)]; exact fd3 t a b)) (by decide) (by simp [rv_cat, int_cat]) (by first | decide | exact Nat.zero_le _ | omega) (by first | decide | exact Nat.zero_le _ | omega) (fun r_82 w_82 hr_82 hp_82 => ?_) (fun E w_ hx_ => hx_.elim)
    obtain ⟨hr82, ⟨⟨b3, b4⟩, ⟨b5, b6⟩, b7⟩, ⟨hOF, hbT⟩, p2, k2, g3⟩ := hp_82
    have hpbO := k2.1.2.2.1.2.2.1
    have U := und_ol (A := m_th μ 0 A) (iv0 0).1 hR0 hM (iv0 0).2.1 hpb0 fd9 (by show 0 ≤ up _ 139 μ.1 0 0 137 μ.1 0 ∧ up _ 139 μ.1 0 0 137 μ.1 0 ≤ 8; rw [up_k _ (by decide)]; exact fd2) hOF hbT b4.2.2.2.1 hpbO
    have h120o := hOF.2.2.1
    rw [saves_at (by decide), fd9 _ _ _ (by decide) (by decide) (by decide) (by decide) (by decide) (by decide)] at h120o
    have b4'' : RK μ (S + 8) (P + 400) M _ := b4.mono (by omega) (by omega)
    have g201 : _ ∧ _ ∧ _ := ⟨(hOF.2.1 201 0 2 (by decide) (by decide) (by decide)).trans (saves_201.trans ((if_pos rfl).trans (fd9 201 0 0 (by decide) (by decide) (by decide) (by decide) (by decide) (by decide)))), (hOF.1 130 μ.1 0 (by decide)).trans ((saves_at (by decide)).trans (fd9 130 _ _ (by decide) (by decide) (by decide) (by decide) (by decide) (by decide))), (hOF.1 133 μ.1 0 (by decide)).trans ((saves_at (by decide)).trans (fd9 133 _ _ (by decide) (by decide) (by decide) (by decide) (by decide) (by decide)))⟩
    have hPE := TLn.ends (g := 1) ⟨_, _, _, k2.1.2.1, k2.1.2.2, ⟨b3, b4''⟩, U.2.2.1, b6⟩ (by omega) (by omega) (by omega) (by decide)
    have hIE := U.1.ends (g := 1) b3 b4'' b5
    have gw : UPG f w w_82 := (g1.trans g2).trans g3
    have hn0 := hOH.2.1.1
    have eo2 : (o_undoIn μ (pl_ p) lo hi A) = m_ui4 μ (m_ui3 μ (m_opL μ (pl_ p) ((m_fdI μ (pl_ p) lo hi (m_th μ 0 A)).2 226 0 a) n.toNat (m_saves μ 2 (m_th μ 0 (m_fdI μ (pl_ p) lo hi (m_th μ 0 A)).2)))) := by
      rw [eo]; unfold m_ui1; rw [if_neg (by omega), hfa]; unfold m_ui2; rw [hn0]
    have b228 : ∀ j, (m_opL μ (pl_ p) ((m_fdI μ (pl_ p) lo hi (m_th μ 0 A)).2 226 0 a) n.toNat (m_saves μ 2 (m_th μ 0 (m_fdI μ (pl_ p) lo hi (m_th μ 0 A)).2))).2 228 0 j = A 228 0 j := fun j => by
      rw [b7 _ _ _ (by decide), saves_at (by decide), fd9 _ _ _ (by decide) (by decide) (by decide) (by decide) (by decide) (by decide), u9 (by decide)]
    have b132 : (m_opL μ (pl_ p) ((m_fdI μ (pl_ p) lo hi (m_th μ 0 A)).2 226 0 a) n.toNat (m_saves μ 2 (m_th μ 0 (m_fdI μ (pl_ p) lo hi (m_th μ 0 A)).2))).2 132 μ.1 0 = 0 := by
      rw [b7 _ _ _ (by decide), saves_at (by decide), fd9 _ _ _ (by decide) (by decide) (by decide) (by decide) (by decide) (by decide)]; exact h132
    have b34 : T34 μ A (m_opL μ (pl_ p) ((m_fdI μ (pl_ p) lo hi (m_th μ 0 A)).2 226 0 a) n.toNat (m_saves μ 2 (m_th μ 0 (m_fdI μ (pl_ p) lo hi (m_th μ 0 A)).2))).2 := (iv0 0).2.2.2.to fun cc z aa ii => by
      rw [b7 _ _ _ (by rcases (show cc = 132 ∨ cc = 133 ∨ cc = 134 ∨ cc = 135 ∨ cc = 227 by omega) with rfl | rfl | rfl | rfl | rfl <;> decide), saves_at (by omega)]
      exact fd9 _ _ _ (by omega) (by omega) (by omega) (by omega) (by omega) (by omega)
    obtain ⟨OL, hOL⟩ : ∃ OL, OL = m_opL μ (pl_ p) ((m_fdI μ (pl_ p) lo hi (m_th μ 0 A)).2 226 0 a) n.toNat (m_saves μ 2 (m_th μ 0 (m_fdI μ (pl_ p) lo hi (m_th μ 0 A)).2)) := ⟨_, rfl⟩
    rw [← hOL] at hr82 b3 b4 b5 b6 b7 k2 eo2 b228 b132 b34 U hPE hIE hpbO h120o g201
    clear hOF hbT b4''
    clear hOL
    have b4' : RK μ (S + 8) (P + 400) M OL.2 := b4.mono (by omega) (by omega)
    have c13c : w_82 0 f 0 = 13 := k2.1.1.toF.1
    obtain ⟨-, hFBc, t2c, -⟩ := k2.1.1.toF
    have hqc : sqD w_82 f (w_82 42 f 0) 20 2 := Or.inl ⟨rfl, rfl, rfl⟩
    have t42c := ((k2.1.1.1.2.2.1.sq hqc).1).1.1
    refine X_if_ne 88 109 hO dX12_undoIn_85 rfl rfl (by omega) (fun hc_85 => ?_) (fun hc_85 => ?_)
    ·
      try simp only [bi_0, bi_ne, ne_eq, Classical.not_not] at hc_85
      have ho : OL.1 = 1 := (hr82.resolve_right (fun z => by have := z.1; omega)).2
      refine X_aload_n 110 hO dX12_undoIn_109 rfl rfl ?_
      refine X_iconst 111 hO dX12_undoIn_110 rfl ?_
      refine X_kVv (t := 13) 114 hO hD lX12_91 rfl (by decide) [_] rfl dX12_undoIn_111 rfl (by first | assumption | omega | (simp (disch := first | decide | assumption | omega) only [up_k, up_s, up_a, up_i, flA_k, flA_a, flA_n, cpA_k, cpA_a, newO_o, newA_o, newO_t, newA_t, newA_n, cpQ_k, cpQ_a] <;> first | assumption | omega)) (kX12_makeChange _ _ _ 1 p2 μ OL.2 (S + 8) (P + 400) M k2.1 b3 b4' (by omega) (by omega) (by omega) b6 (fun j j0 j1 => by rw [b228]; exact hb28 j j0 j1) (Or.inr rfl) (k2.kpb b4.1.1) k2.2.2 k2.2.1.2.2) (by decide) (by simp [rv_cat, int_cat]) (by first | decide | exact Nat.zero_le _ | omega) (by first | decide | exact Nat.zero_le _ | omega) (fun w_111 hp_111 => ?_) (fun E w_ hx_ => (XE_out hO hF (by
  obtain ⟨x1, x2, x3, p3, x4, x5⟩ := hx_
  have eok := ends_ok (g := 1) b3 b4' b5 (by decide) (by omega) (by omega)
  rw [ends_2 b132 x2 x3] at eok hPE hIE
  obtain ⟨o1, o2, o3⟩ := eok
  dsimp only at o1 o2 o3
  have eo3 : (o_undoIn μ (pl_ p) lo hi A) = (0, up (m_rest μ 2 1 (m_ntf μ OL.2).2) 139 μ.1 0 2) := by rw [eo2]; unfold m_ui3; rw [if_neg (by omega), ends_2 b132 x2 x3]; unfold m_ui4; rw [if_pos rfl]; rfl
  rw [eo3]
  dsimp only at hPE hIE
  exact ⟨Or.inr ⟨x1, up_s _ _ _ _ _⟩, ⟨p3, x4.o34 o2.2.2.2.1 (by omega) o2.2.2.1 (by decide), gw.trans x5⟩, ⟨hIE.cg fun c y i z => up_k _ (by omega) _ _ _ _ _, (iv0 0).1.2.tg hR0.2.2.2 ((U.2.1.ntf b3 b4' h120o b5 b6).tg.t TYg.o9)⟩, hPE.fld o2.2.2.2.1 (by omega) o2.2.2.1 o1.2.2.1 (hpbO.cong fun i => o3 _ _ _ (by decide)) (fun c a i q => up_k _ (by omega) _ _ _ _ _), (RB.o9 (hR0.back (U.2.1.ntf b3 b4' h120o b5 b6) ⟨((ntf_rk b3 b4').1.2 _ _ _ (by decide) (by decide) (by decide) (by decide) (by decide) (by decide)).trans g201.1, ((ntf_rk b3 b4').1.2 _ _ _ (by decide) (by decide) (by decide) (by decide) (by decide) (by decide)).trans g201.2.1, ((ntf_rk b3 b4').1.2 _ _ _ (by decide) (by decide) (by decide) (by decide) (by decide) (by decide)).trans g201.2.2⟩ (ntf_rk b3 b4').2.1 (ntf_rk b3 b4').2.2.1)).mono (by omega) (by omega) (by omega), b34.to fun cc z aa ii => by dsimp only; rw [up_k _ (by omega), rest_at (by omega)]; exact (ntf_rk b3 b4').1.2 _ _ _ (by omega) (by omega) (by omega) (by omega) (by omega) (by omega)⟩)))
      have hq : ∃ A3 p3, m_ends μ 1 OL.2 = (1, A3) ∧ CHB p3 μ f (lvL p3 μ A3) w_111 A3 ∧ UPG f w_82 w_111 := by
        rcases hp_111 with ⟨y1, y2⟩ | ⟨y1, y2, p3, y3, y4⟩
        · rw [y2]; exact ⟨_, p2, ends_0 (Or.inr y1), k2.1, UPG.refl⟩
        · exact ⟨_, p3, ends_1 b132 y1 y2, y3, y4.gg⟩
      obtain ⟨A3, p3, z1, z2, z3⟩ := hq
      have eok := ends_ok (g := 1) b3 b4' b5 (by decide) (by omega) (by omega)
      rw [z1] at eok hPE hIE
      obtain ⟨o1, o2, o3⟩ := eok
      dsimp only at o1 o2 o3 hPE hIE
      have c13d : w_111 0 f 0 = 13 := z2.1.toF.1
      obtain ⟨e63, c11d, c5d⟩ := z2.cur o2.2.2.2.1
      have hfin : w_111 63 (w_111 40 (w_111 45 f 0) 0) 0 = (o_undoIn μ (pl_ p) lo hi A).1 ∧ (o_undoIn μ (pl_ p) lo hi A).2 139 μ.1 0 = 0 ∧ RES μ f w (up w_111 88 f 0 0) (o_undoIn μ (pl_ p) lo hi A).2 ∧ IVS μ (o_undoIn μ (pl_ p) lo hi A).2 ∧ PTX μ (o_undoIn μ (pl_ p) lo hi A).2 ∧ RB μ (S + 56) (P + 600) (M + 1) (o_undoIn μ (pl_ p) lo hi A).2 ∧ T34 μ A (o_undoIn μ (pl_ p) lo hi A).2 := by
        have eo3 : (o_undoIn μ (pl_ p) lo hi A) = (A3 126 μ.1 0, up (up A3 139 μ.1 0 0) 129 μ.1 0 (-1)) := by rw [eo2]; unfold m_ui3; rw [if_neg (by omega), z1]; unfold m_ui4; rw [if_neg (show ¬ (((1 : Int), A3).1 = 0) from by show ¬ ((1 : Int) = 0); decide)]; rfl
        rw [eo3]
        have tb : TB μ (M + 1) (up A3 139 μ.1 0 0) := o2.2.2.2.1.cong fun c a i y => up_k _ (by omega) _ _ _ _ _
        have sb : SB 1 (up A3 139 μ.1 0 0) := o2.2.2.1.cong fun c a i y1 y2 => up_k _ (by omega) _ _ _ _ _
        refine ⟨e63, ?_, ⟨p3, (z2.o34 o2.2.2.2.1 (by omega) o2.2.2.1 (by decide)).ty0 tb (by omega) sb, (gw.trans z3).trans ?_⟩, hIE.off (fun c y i z => by dsimp only; rw [up_k _ (by omega), up_k _ (by omega)]) (up_s _ _ _ _ _), hPE.fld o2.2.2.2.1 (by omega) o2.2.2.1 o1.2.2.1 (hpbO.cong fun i => o3 _ _ _ (by decide)) (fun c a i q => by dsimp only; rw [up_k _ (by omega), up_k _ (by omega)]), ?_, ?_⟩
        · show up (up A3 139 μ.1 0 0) 129 μ.1 0 (-1) 139 μ.1 0 = 0
          rw [up_k _ (by decide), up_s]
        · exact (UPG.refl (w := w_111)).u2 ⟨c13d, z2.1.1.2.2.2.2.2.1.1⟩ (by decide) (Or.inr ⟨rfl, by decide⟩)
        · have fz := hR0.2.2.1
          have ff := (fin_ok b3 b4' b5 b6 (by omega) (by rw [g201.2.2]; exact fz.2.1) (by rw [g201.2.1]; exact fz.2.2.2.1) 1 (by decide) (by omega) (by omega)).1 (by rw [z1]; show (1 : Int) ≠ 0; decide)
          rw [z1] at ff
          show RB μ (S + 56) (P + 600) (M + 1) (up (up A3 139 μ.1 0 0) 129 μ.1 0 (-1))
          rw [up_139_129]
          exact (RB.o9 ff).mono (by omega) (by omega) (by omega)
        · exact b34.to fun cc z aa ii => by show up (up A3 139 μ.1 0 0) 129 μ.1 0 (-1) cc aa ii = _; rw [up_k _ (by omega), up_k _ (by omega)]; exact o3 cc aa ii (by rcases (show cc = 132 ∨ cc = 133 ∨ cc = 134 ∨ cc = 135 ∨ cc = 227 by omega) with rfl | rfl | rfl | rfl | rfl <;> decide)
      refine X_aload_n 115 hO dX12_undoIn_114 rfl rfl ?_
      refine X_iconst 116 hO dX12_undoIn_115 rfl ?_
      refine pX12_113 119 hO dX12_undoIn_116 rfl (by first | assumption | omega | (simp (disch := first | decide | assumption | omega) only [up_k, up_s, up_a, up_i, flA_k, flA_a, flA_n, cpA_k, cpA_a, newO_o, newA_o, newO_t, newA_t, newA_n, cpQ_k, cpQ_a] <;> first | assumption | omega)) (by omega) ?_
      refine X_aload_n 120 hO dX12_undoIn_119 rfl rfl ?_
      refine gX12_29 123 hO dX12_undoIn_120 rfl (by first | assumption | omega | (simp (disch := first | decide | assumption | omega) only [up_k, up_s, up_a, up_i, flA_k, flA_a, flA_n, cpA_k, cpA_a, newO_o, newA_o, newO_t, newA_t, newA_n, cpQ_k, cpQ_a] <;> first | assumption | omega)) ?_
      try simp (disch := first | decide | assumption | omega) only [up_k, up_s, up_a, up_i, flA_k, flA_a, flA_n, cpA_k, cpA_a, newO_o, newA_o, newO_t, newA_t, newA_n, cpQ_k, cpQ_a, e40]
      refine gX12_98 126 hO dX12_undoIn_123 rfl (by first | assumption | omega | (simp (disch := first | decide | assumption | omega) only [up_k, up_s, up_a, up_i, flA_k, flA_a, flA_n, cpA_k, cpA_a, newO_o, newA_o, newO_t, newA_t, newA_n, cpQ_k, cpQ_a] <;> first | assumption | omega)) ?_
      try simp (disch := first | decide | assumption | omega) only [up_k, up_s, up_a, up_i, flA_k, flA_a, flA_n, cpA_k, cpA_a, newO_o, newA_o, newO_t, newA_t, newA_n, cpQ_k, cpQ_a, e40]
      refine gX12_181 129 hO dX12_undoIn_126 rfl (by first | assumption | omega | (simp (disch := first | decide | assumption | omega) only [up_k, up_s, up_a, up_i, flA_k, flA_a, flA_n, cpA_k, cpA_a, newO_o, newA_o, newO_t, newA_t, newA_n, cpQ_k, cpQ_a] <;> first | assumption | omega)) (fun hi_126 => ?_)
      try simp (disch := first | decide | assumption | omega) only [up_k, up_s, up_a, up_i, flA_k, flA_a, flA_n, cpA_k, cpA_a, newO_o, newA_o, newO_t, newA_t, newA_n, cpQ_k, cpQ_a, e40] at hi_126 ⊢
      exact X_iret hO hF rfl (by first | exact Or.inl rfl | exact Or.inr ⟨rfl, bi_01 _⟩ | exact Or.inr ⟨rfl, by omega⟩) dX12_undoIn_129 ⟨_, rfl, (by omega), hfin⟩
    ·
      try simp only [bi_0, bi_ne, ne_eq, Classical.not_not] at hc_85
      have ho : OL.1 = 0 := (hr82.resolve_left (fun z => by have := z.1; omega)).2
      have q1 := k2.2.1.2.1
      have q2 := b3.2.2.2.2.1
      have q3 := k2.1.2.2.1.2.2.2.1
      have hLc : ((lvK (ps_ p2) μ OL.2 2).length : Int) ≤ 100000 := by unfold lvK; rw [List.length_map, rng_len]; omega
      obtain ⟨hDAc, h67c⟩ := k2.1.1.DAl hqc k2.2.1.1 hLc
      refine X_aload_n 89 hO dX12_undoIn_88 rfl rfl ?_
      refine gX12_10 92 hO dX12_undoIn_89 rfl (by first | assumption | omega | (simp (disch := first | decide | assumption | omega) only [up_k, up_s, up_a, up_i, flA_k, flA_a, flA_n, cpA_k, cpA_a, newO_o, newA_o, newO_t, newA_t, newA_n, cpQ_k, cpQ_a] <;> first | assumption | omega)) ?_
      try simp (disch := first | decide | assumption | omega) only [up_k, up_s, up_a, up_i, flA_k, flA_a, flA_n, cpA_k, cpA_a, newO_o, newA_o, newO_t, newA_t, newA_n, cpQ_k, cpQ_a, e40]
      refine X_aload_n 93 hO dX12_undoIn_92 rfl rfl ?_
      refine gX12_16 96 hO dX12_undoIn_93 rfl (by first | assumption | omega | (simp (disch := first | decide | assumption | omega) only [up_k, up_s, up_a, up_i, flA_k, flA_a, flA_n, cpA_k, cpA_a, newO_o, newA_o, newO_t, newA_t, newA_n, cpQ_k, cpQ_a] <;> first | assumption | omega)) ?_
      try simp (disch := first | decide | assumption | omega) only [up_k, up_s, up_a, up_i, flA_k, flA_a, flA_n, cpA_k, cpA_a, newO_o, newA_o, newO_t, newA_t, newA_n, cpQ_k, cpQ_a, e40]
      refine X_kVv (t := 2) 99 hO hD lX12_136 rfl (by decide) [_] rfl dX12_undoIn_96 rfl (by first | assumption | omega | (simp (disch := first | decide | assumption | omega) only [up_k, up_s, up_a, up_i, flA_k, flA_a, flA_n, cpA_k, cpA_a, newO_o, newA_o, newO_t, newA_t, newA_n, cpQ_k, cpQ_a] <;> first | assumption | omega)) (kX1_takeAll _ _ _ _ 400 hDAc (by omega)) (by decide) (by simp [rv_cat, int_cat]) (by first | decide | exact Nat.zero_le _ | omega) (by first | decide | exact Nat.zero_le _ | omega) (fun w_96 hp_96 => ?_) (fun E w_ hx_ => hx_.elim)
      obtain ⟨z1, z2⟩ := k2.res b4.2.2.2.1 (by omega) b4.2.2.1 b4.1.1 b3.1 hp_96
      have hpx : (("java/lang/IllegalStateException" = "java/lang/IllegalArgumentException" ∧ (o_undoIn μ (pl_ p) lo hi A).2 139 μ.1 0 = 1) ∨ ("java/lang/IllegalStateException" = "java/lang/IllegalStateException" ∧ (o_undoIn μ (pl_ p) lo hi A).2 139 μ.1 0 = 2)) ∧ RES μ f w w_96 (o_undoIn μ (pl_ p) lo hi A).2 ∧ IVS μ (o_undoIn μ (pl_ p) lo hi A).2 ∧ PTX μ (o_undoIn μ (pl_ p) lo hi A).2 ∧ RB μ (S + 56) (P + 600) (M + 1) (o_undoIn μ (pl_ p) lo hi A).2 ∧ T34 μ A (o_undoIn μ (pl_ p) lo hi A).2 := by
        have eo3 : (o_undoIn μ (pl_ p) lo hi A) = (0, up (m_rest μ 2 1 OL.2) 139 μ.1 0 2) := by rw [eo2]; unfold m_ui3; rw [if_pos ho]; rfl
        rw [eo3]
        have zr := U.2.2.rst b4.2.2.2.1 (by omega) b4.2.2.1 b3.2.2.1 hpbO (a := 2) (b := 1)
        exact ⟨Or.inr ⟨rfl, up_s _ _ _ _ _⟩, ⟨p2, z1.o34 (b4.rest (Or.inl rfl)).2.2.2.1 (by omega) (b4.rest (Or.inl rfl)).2.2.1 (by decide), gw.trans z2⟩, ⟨(U.1.rest).cg fun c y i z => up_k _ (by omega) _ _ _ _ _, (iv0 0).1.2.tg hR0.2.2.2 (U.2.1.tg.t TYg.o9)⟩, zr.fld (b4.rest (Or.inl rfl)).2.2.2.1 (by omega) (b4.rest (Or.inl rfl)).2.2.1 (b3.2.2.1.cong fun i => rest_at (by decide)) (hpbO.cong fun i => rest_at (by decide)) (fun c a i q => up_k _ (by omega) _ _ _ _ _), (RB.o9 (hR0.back U.2.1 g201 b3 b4)).mono (by omega) (by omega) (by omega), b34.to fun cc z aa ii => by dsimp only; rw [up_k _ (by omega), rest_at (by omega)]⟩
      exact X_throwISE hO hF (by decide) (text := "the text would be too long") (by decide) dX12_undoIn_99 dX12_undoIn_102 dX12_undoIn_103 dX12_undoIn_105 dX12_undoIn_108 (by first | exact hpx) (by first | decide | omega) (by first | decide | omega) (by simp [rv_cat, int_cat])
  ·
    try simp only [bi_0, bi_ne, ne_eq, Classical.not_not] at hc_50
    obtain ⟨r1, hfa⟩ := hp_47.resolve_left (fun z => by have := z.1; omega)
    have fdx : FDV (m_th μ 0 A) (m_th μ 2 (m_fdI μ (pl_ p) lo hi (m_th μ 0 A)).2) := fd1.o9
    have hpx : (("java/lang/IllegalStateException" = "java/lang/IllegalArgumentException" ∧ (o_undoIn μ (pl_ p) lo hi A).2 139 μ.1 0 = 1) ∨ ("java/lang/IllegalStateException" = "java/lang/IllegalStateException" ∧ (o_undoIn μ (pl_ p) lo hi A).2 139 μ.1 0 = 2)) ∧ RES μ f w w_47 (o_undoIn μ (pl_ p) lo hi A).2 ∧ IVS μ (o_undoIn μ (pl_ p) lo hi A).2 ∧ PTX μ (o_undoIn μ (pl_ p) lo hi A).2 ∧ RB μ (S + 56) (P + 600) (M + 1) (o_undoIn μ (pl_ p) lo hi A).2 ∧ T34 μ A (o_undoIn μ (pl_ p) lo hi A).2 := by
      have eo3 : (o_undoIn μ (pl_ p) lo hi A) = (0, m_th μ 2 (m_fdI μ (pl_ p) lo hi (m_th μ 0 A)).2) := by rw [eo]; unfold m_ui1; rw [if_pos hfa]
      rw [eo3]
      exact ⟨Or.inr ⟨rfl, up_s _ _ _ _ _⟩, ⟨p, hA1.fdv hT (by omega) hB0 hK0.2.2.1 fd1.o9, g1⟩, IVS.fdv (A := m_th μ 0 A) (iv0 0).1 hR0 fdx (btc_th (v := 2) fd3) (th_137 (v := 2) fd2), PTX.fdv (A := m_th μ 0 A) (iv0 0).2.1 hR0 hM hpb0 fdx (hT.cong7 fun c a i y => fdx c a i (by omega) (by omega) (by omega) (by omega) (by omega) (by omega)) (hpb0.cong fun i => fdx 213 0 i (by decide) (by decide) (by decide) (by decide) (by decide) (by decide)), RB.fdv hR0 fdx, (iv0 0).2.2.2.to fun cc z aa ii => fdx cc aa ii (by omega) (by omega) (by omega) (by omega) (by omega) (by omega)⟩
    exact X_throwISE hO hF (by decide) (text := "no change to undo in the region") (by decide) dX12_undoIn_53 dX12_undoIn_56 dX12_undoIn_57 dX12_undoIn_59 dX12_undoIn_62 (by first | exact hpx) (by first | decide | omega) (by first | decide | omega) (by simp [rv_cat, int_cat])
