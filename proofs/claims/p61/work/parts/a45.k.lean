/-! a run's command is started -/
theorem dX12_start_0 : decode cX12_start 0 = .ok (.bipush 100, 2) := by decide +kernel
theorem dX12_start_2 : decode cX12_start 2 = .ok (.iload_n 1, 1) := by decide +kernel
theorem dX12_start_3 : decode cX12_start 3 = .ok (.imul, 1) := by decide +kernel
theorem dX12_start_4 : decode cX12_start 4 = .ok (.iload_n 2, 1) := by decide +kernel
theorem dX12_start_5 : decode cX12_start 5 = .ok (.iadd, 1) := by decide +kernel
theorem dX12_start_6 : decode cX12_start 6 = .ok (.istore 4, 2) := by decide +kernel
theorem dX12_start_8 : decode cX12_start 8 = .ok (.aload_n 0, 1) := by decide +kernel
theorem dX12_start_9 : decode cX12_start 9 = .ok (.getfield 61, 3) := by decide +kernel
theorem dX12_start_12 : decode cX12_start 12 = .ok (.getfield 157, 3) := by decide +kernel
theorem dX12_start_15 : decode cX12_start 15 = .ok (.bipush 24, 2) := by decide +kernel
theorem dX12_start_17 : decode cX12_start 17 = .ok (.if_icmp .lt 15, 3) := by decide +kernel
theorem dX12_start_20 : decode cX12_start 20 = .ok (.aload_n 0, 1) := by decide +kernel
theorem dX12_start_21 : decode cX12_start 21 = .ok (.getfield 61, 3) := by decide +kernel
theorem dX12_start_24 : decode cX12_start 24 = .ok (.bipush 8, 2) := by decide +kernel
theorem dX12_start_26 : decode cX12_start 26 = .ok (.iload 4, 2) := by decide +kernel
theorem dX12_start_28 : decode cX12_start 28 = .ok (.invokevirtual 411, 3) := by decide +kernel
theorem dX12_start_31 : decode cX12_start 31 = .ok (.ireturn, 1) := by decide +kernel
theorem dX12_start_32 : decode cX12_start 32 = .ok (.aload_n 0, 1) := by decide +kernel
theorem dX12_start_33 : decode cX12_start 33 = .ok (.getfield 61, 3) := by decide +kernel
theorem dX12_start_36 : decode cX12_start 36 = .ok (.dup, 1) := by decide +kernel
theorem dX12_start_37 : decode cX12_start 37 = .ok (.getfield 157, 3) := by decide +kernel
theorem dX12_start_40 : decode cX12_start 40 = .ok (.iconst 1, 1) := by decide +kernel
theorem dX12_start_41 : decode cX12_start 41 = .ok (.iadd, 1) := by decide +kernel
theorem dX12_start_42 : decode cX12_start 42 = .ok (.putfield 157, 3) := by decide +kernel
theorem dX12_start_45 : decode cX12_start 45 = .ok (.aload_n 0, 1) := by decide +kernel
theorem dX12_start_46 : decode cX12_start 46 = .ok (.getfield 49, 3) := by decide +kernel
theorem dX12_start_49 : decode cX12_start 49 = .ok (.iload_n 1, 1) := by decide +kernel
theorem dX12_start_50 : decode cX12_start 50 = .ok (.aaload, 1) := by decide +kernel
theorem dX12_start_51 : decode cX12_start 51 = .ok (.getfield 415, 3) := by decide +kernel
theorem dX12_start_54 : decode cX12_start 54 = .ok (.iload_n 2, 1) := by decide +kernel
theorem dX12_start_55 : decode cX12_start 55 = .ok (.iaload, 1) := by decide +kernel
theorem dX12_start_56 : decode cX12_start 56 = .ok (.istore 5, 2) := by decide +kernel
theorem dX12_start_58 : decode cX12_start 58 = .ok (.aload_n 0, 1) := by decide +kernel
theorem dX12_start_59 : decode cX12_start 59 = .ok (.getfield 49, 3) := by decide +kernel
theorem dX12_start_62 : decode cX12_start 62 = .ok (.iload_n 1, 1) := by decide +kernel
theorem dX12_start_63 : decode cX12_start 63 = .ok (.aaload, 1) := by decide +kernel
theorem dX12_start_64 : decode cX12_start 64 = .ok (.getfield 418, 3) := by decide +kernel
theorem dX12_start_67 : decode cX12_start 67 = .ok (.iload_n 2, 1) := by decide +kernel
theorem dX12_start_68 : decode cX12_start 68 = .ok (.iaload, 1) := by decide +kernel
theorem dX12_start_69 : decode cX12_start 69 = .ok (.istore 6, 2) := by decide +kernel
theorem dX12_start_71 : decode cX12_start 71 = .ok (.aload_n 0, 1) := by decide +kernel
theorem dX12_start_72 : decode cX12_start 72 = .ok (.getfield 49, 3) := by decide +kernel
theorem dX12_start_75 : decode cX12_start 75 = .ok (.iload_n 1, 1) := by decide +kernel
theorem dX12_start_76 : decode cX12_start 76 = .ok (.aaload, 1) := by decide +kernel
theorem dX12_start_77 : decode cX12_start 77 = .ok (.getfield 421, 3) := by decide +kernel
theorem dX12_start_80 : decode cX12_start 80 = .ok (.iload_n 2, 1) := by decide +kernel
theorem dX12_start_81 : decode cX12_start 81 = .ok (.iaload, 1) := by decide +kernel
theorem dX12_start_82 : decode cX12_start 82 = .ok (.istore 7, 2) := by decide +kernel
theorem dX12_start_84 : decode cX12_start 84 = .ok (.iload 5, 2) := by decide +kernel
theorem dX12_start_86 : decode cX12_start 86 = .ok (.bipush 16, 2) := by decide +kernel
theorem dX12_start_88 : decode cX12_start 88 = .ok (.if_icmp .ne 34, 3) := by decide +kernel
theorem dX12_start_91 : decode cX12_start 91 = .ok (.iload_n 3, 1) := by decide +kernel
theorem dX12_start_92 : decode cX12_start 92 = .ok (.iconst 5, 1) := by decide +kernel
theorem dX12_start_93 : decode cX12_start 93 = .ok (.if_icmp .ge 17, 3) := by decide +kernel
theorem dX12_start_96 : decode cX12_start 96 = .ok (.aload_n 0, 1) := by decide +kernel
theorem dX12_start_97 : decode cX12_start 97 = .ok (.iload 6, 2) := by decide +kernel
theorem dX12_start_99 : decode cX12_start 99 = .ok (.iload 7, 2) := by decide +kernel
theorem dX12_start_101 : decode cX12_start 101 = .ok (.iload_n 3, 1) := by decide +kernel
theorem dX12_start_102 : decode cX12_start 102 = .ok (.iconst 1, 1) := by decide +kernel
theorem dX12_start_103 : decode cX12_start 103 = .ok (.iadd, 1) := by decide +kernel
theorem dX12_start_104 : decode cX12_start 104 = .ok (.invokevirtual 143, 3) := by decide +kernel
theorem dX12_start_107 : decode cX12_start 107 = .ok (.goto 14, 3) := by decide +kernel
theorem dX12_start_110 : decode cX12_start 110 = .ok (.aload_n 0, 1) := by decide +kernel
theorem dX12_start_111 : decode cX12_start 111 = .ok (.getfield 61, 3) := by decide +kernel
theorem dX12_start_114 : decode cX12_start 114 = .ok (.bipush 7, 2) := by decide +kernel
theorem dX12_start_116 : decode cX12_start 116 = .ok (.iload 4, 2) := by decide +kernel
theorem dX12_start_118 : decode cX12_start 118 = .ok (.invokevirtual 411, 3) := by decide +kernel
theorem dX12_start_121 : decode cX12_start 121 = .ok (.ireturn, 1) := by decide +kernel
theorem dX12_start_122 : decode cX12_start 122 = .ok (.iload 5, 2) := by decide +kernel
theorem dX12_start_124 : decode cX12_start 124 = .ok (.bipush 17, 2) := by decide +kernel
theorem dX12_start_126 : decode cX12_start 126 = .ok (.if_icmp .ne 30, 3) := by decide +kernel
theorem dX12_start_129 : decode cX12_start 129 = .ok (.aload_n 0, 1) := by decide +kernel
theorem dX12_start_130 : decode cX12_start 130 = .ok (.getfield 19, 3) := by decide +kernel
theorem dX12_start_133 : decode cX12_start 133 = .ok (.aload_n 0, 1) := by decide +kernel
theorem dX12_start_134 : decode cX12_start 134 = .ok (.getfield 10, 3) := by decide +kernel
theorem dX12_start_137 : decode cX12_start 137 = .ok (.invokevirtual 136, 3) := by decide +kernel
theorem dX12_start_140 : decode cX12_start 140 = .ok (.aload_n 0, 1) := by decide +kernel
theorem dX12_start_141 : decode cX12_start 141 = .ok (.getfield 61, 3) := by decide +kernel
theorem dX12_start_144 : decode cX12_start 144 = .ok (.aload_n 0, 1) := by decide +kernel
theorem dX12_start_145 : decode cX12_start 145 = .ok (.getfield 61, 3) := by decide +kernel
theorem dX12_start_148 : decode cX12_start 148 = .ok (.getfield 157, 3) := by decide +kernel
theorem dX12_start_151 : decode cX12_start 151 = .ok (.putfield 160, 3) := by decide +kernel
theorem dX12_start_154 : decode cX12_start 154 = .ok (.iconst 1, 1) := by decide +kernel
theorem dX12_start_155 : decode cX12_start 155 = .ok (.ireturn, 1) := by decide +kernel
theorem dX12_start_156 : decode cX12_start 156 = .ok (.aload_n 0, 1) := by decide +kernel
theorem dX12_start_157 : decode cX12_start 157 = .ok (.iload 5, 2) := by decide +kernel
theorem dX12_start_159 : decode cX12_start 159 = .ok (.iload 6, 2) := by decide +kernel
theorem dX12_start_161 : decode cX12_start 161 = .ok (.iload 7, 2) := by decide +kernel
theorem dX12_start_163 : decode cX12_start 163 = .ok (.invokevirtual 353, 3) := by decide +kernel
theorem dX12_start_166 : decode cX12_start 166 = .ok (.istore 8, 2) := by decide +kernel
theorem dX12_start_168 : decode cX12_start 168 = .ok (.iload 8, 2) := by decide +kernel
theorem dX12_start_170 : decode cX12_start 170 = .ok (.ifCond .eq 17, 3) := by decide +kernel
theorem dX12_start_173 : decode cX12_start 173 = .ok (.aload_n 0, 1) := by decide +kernel
theorem dX12_start_174 : decode cX12_start 174 = .ok (.getfield 61, 3) := by decide +kernel
theorem dX12_start_177 : decode cX12_start 177 = .ok (.iload 8, 2) := by decide +kernel
theorem dX12_start_179 : decode cX12_start 179 = .ok (.iload 4, 2) := by decide +kernel
theorem dX12_start_181 : decode cX12_start 181 = .ok (.invokevirtual 411, 3) := by decide +kernel
theorem dX12_start_184 : decode cX12_start 184 = .ok (.ifCond .eq 7, 3) := by decide +kernel
theorem dX12_start_187 : decode cX12_start 187 = .ok (.iconst 1, 1) := by decide +kernel
theorem dX12_start_188 : decode cX12_start 188 = .ok (.goto 4, 3) := by decide +kernel
theorem dX12_start_191 : decode cX12_start 191 = .ok (.iconst 0, 1) := by decide +kernel
theorem dX12_start_192 : decode cX12_start 192 = .ok (.ireturn, 1) := by decide +kernel
set_option maxRecDepth 4000 in
theorem kX12_start (γ : LC) (w : Mm) (f m i l : Int) (p : RP) (μ : MU) (ρ w0 A0 A A' : Mm) (s t s' t' r' u v S P M : Int) (n : Nat) (hN : RNS p μ f ρ w0 A0 w A s t u v) (hG : GI μ S P M l s A) (hl : 1 ≤ l ∧ l ≤ 5) (hSP : S ≤ 28900 ∧ P ≤ 500000) (hm : A 237 0 l = m) (hi : A 239 0 l = i) (hx : A 239 0 l ≠ A 236 0 (A 237 0 l)) (hRT : RT μ (n + 1) true l s t A s' t' r' A') (hK : KRN n) : KI γ (7 + 2 * (5 - l).toNat) mX12_start [rv f, .int (I m), .int (I i), .int (I l)] w (5 * (s' - s).toNat) (411 * (s' - s).toNat) (fun r w' => r = (if r' = 0 then 1 else 0) ∧ RNS p μ f ρ w0 A0 w' A' s' t' (if r' = 0 then u else r') (if r' = 0 then v else A' 135 μ.1 0)) NX := by
  refine MX_of rfl rfl (by simp [rv_cat, int_cat]) rfl ?_
  rintro κ hO hF rfl
  have hD := hF.dp
  show X κ (5 * (s' - s).toNat) (411 * (s' - s).toNat) w 0 [some (rv f), some (.int (I m)), some (.int (I i)), some (.int (I l)), none, none, none, none, none] []
  obtain ⟨c, σ, G, h⟩ := hN
  obtain ⟨hcv, hat, hm4, hp15⟩ := hG.cv hl.1 hx
  obtain ⟨-, -, hfi, hfc⟩ := hG.f hl.1
  have hs24 := hG.2.2.2
  have hS3 : SB 3 A := hG.2.1.2.1.1
  have hE0 : bEl 0 A := hG.1.1.2.2.2.2.1
  have hRg := (RT.gi hRT hG hl.1 (fun _ => hx)).1
  have hgat : m_gat l A = 48 * m + 3 * i := by unfold m_gat; rw [hm, hi]
  have hcv1 := hcv.1
  have hcva := hcv.2.1
  have hcvb := hcv.2.2.1
  have hOn := fun hs => hG.on hl.1 hx hs
  rw [hm] at hm4 hx hfi hfc
  rw [hi] at hp15 hx hfi
  obtain ⟨⟨t13, t24, t4a, t12⟩, hMT, hcnt, hcm⟩ := h.mac hm4
  have t80 : w 80 (w 50 f 0) 0 = s := h.2.2.2.1.1
  clear hMT hcnt hcm
  refine X_bipush 2 hO dX12_start_0 rfl (by decide) ?_
  refine X_iload_n 3 hO dX12_start_2 rfl rfl ?_
  refine X_imul 4 hO dX12_start_3 rfl ?_
  refine X_iload_n 5 hO dX12_start_4 rfl rfl ?_
  refine X_iadd 6 hO dX12_start_5 rfl ?_
  refine X_istore 8 hO dX12_start_6 rfl rfl ?_
  refine X_aload_n 9 hO dX12_start_8 rfl rfl ?_
  refine gX12_61 12 hO dX12_start_9 rfl (by first | assumption | omega | (simp (disch := first | decide | assumption | omega) only [up_k, up_s, up_a, up_i, flA_k, flA_a, flA_n, cpA_k, cpA_a, newO_o, newA_o, newO_t, newA_t, newA_n, cpQ_k, cpQ_a] <;> first | assumption | omega)) ?_
  try simp (disch := first | decide | assumption | omega) only [up_k, up_s, up_a, up_i, flA_k, flA_a, flA_n, cpA_k, cpA_a, newO_o, newA_o, newO_t, newA_t, newA_n, cpQ_k, cpQ_a]
  refine gX12_157 15 hO dX12_start_12 rfl (by first | assumption | omega | (simp (disch := first | decide | assumption | omega) only [up_k, up_s, up_a, up_i, flA_k, flA_a, flA_n, cpA_k, cpA_a, newO_o, newA_o, newO_t, newA_t, newA_n, cpQ_k, cpQ_a] <;> first | assumption | omega)) (fun hi_12 => ?_)
  try simp (disch := first | decide | assumption | omega) only [up_k, up_s, up_a, up_i, flA_k, flA_a, flA_n, cpA_k, cpA_a, newO_o, newA_o, newO_t, newA_t, newA_n, cpQ_k, cpQ_a] at hi_12 ⊢
  refine X_bipush 17 hO dX12_start_15 rfl (by decide) ?_
  refine X_icmp_lt 20 32 hO dX12_start_17 rfl rfl (by omega) (by omega) (fun hc_17 => ?_) (fun hc_17 => ?_)
  ·
    have hs : s ≠ 24 := by omega
    refine X_aload_n 33 hO dX12_start_32 rfl rfl ?_
    refine gX12_61 36 hO dX12_start_33 rfl (by first | assumption | omega | (simp (disch := first | decide | assumption | omega) only [up_k, up_s, up_a, up_i, flA_k, flA_a, flA_n, cpA_k, cpA_a, newO_o, newA_o, newO_t, newA_t, newA_n, cpQ_k, cpQ_a] <;> first | assumption | omega)) ?_
    try simp (disch := first | decide | assumption | omega) only [up_k, up_s, up_a, up_i, flA_k, flA_a, flA_n, cpA_k, cpA_a, newO_o, newA_o, newO_t, newA_t, newA_n, cpQ_k, cpQ_a]
    refine X_dup 37 hO dX12_start_36 rfl (by first | rfl | exact rv_cat _) ?_
    refine gX12_157 40 hO dX12_start_37 rfl (by first | assumption | omega | (simp (disch := first | decide | assumption | omega) only [up_k, up_s, up_a, up_i, flA_k, flA_a, flA_n, cpA_k, cpA_a, newO_o, newA_o, newO_t, newA_t, newA_n, cpQ_k, cpQ_a] <;> first | assumption | omega)) (fun hi_37 => ?_)
    try simp (disch := first | decide | assumption | omega) only [up_k, up_s, up_a, up_i, flA_k, flA_a, flA_n, cpA_k, cpA_a, newO_o, newA_o, newO_t, newA_t, newA_n, cpQ_k, cpQ_a] at hi_37 ⊢
    refine X_iconst 41 hO dX12_start_40 rfl ?_
    refine X_iadd 42 hO dX12_start_41 rfl ?_
    refine pX12_157 45 hO dX12_start_42 rfl (by first | assumption | omega | (simp (disch := first | decide | assumption | omega) only [up_k, up_s, up_a, up_i, flA_k, flA_a, flA_n, cpA_k, cpA_a, newO_o, newA_o, newO_t, newA_t, newA_n, cpQ_k, cpQ_a] <;> first | assumption | omega)) (by omega) ?_
    obtain ⟨w1, hw1⟩ : ∃ w1, w1 = up w 80 (w 50 f 0) 0 (w 80 (w 50 f 0) 0 + 1) := ⟨_, rfl⟩
    refine X_eqW hw1.symm ?_
    have hw1' : w1 = up w 80 (w 50 f 0) 0 (s + 1) := by rw [hw1, t80]
    have h2 := h.inc hS3 hE0 l
    rw [← hw1'] at h2
    have g5 : ∀ {c : Nat} {j : Int}, c ≠ 239 → m_gpl l A c 0 j = A c 0 j := fun z => by unfold m_gpl; exact up_k _ z _ _ _ _ _
    obtain ⟨⟨y13, y24, y4a, y12⟩, ⟨y4, ⟨y21, y22, y23⟩, ⟨z21, z22, z23⟩, -⟩, ycnt, ycm⟩ := h2.mac hm4
    obtain ⟨e1, e2, e3⟩ := ycm i (by omega) (by rw [g5 (by decide)]; omega)
    rw [g5 (by decide), ← hgat] at e1
    rw [g5 (by decide), show 48 * m + 3 * i + 1 = m_gat l A + 1 by omega] at e2
    rw [g5 (by decide), show 48 * m + 3 * i + 2 = m_gat l A + 2 by omega] at e3
    dsimp only [mcq] at y4 y21 y22 y23 z21 z22 z23 e1 e2 e3
    have hB2 : LB μ (S + 2 * s) (P + 20 * s) (m_gpl l A) := hG.1.up_o (by decide)
    have hS2 : SB 3 (m_gpl l A) := (hOn hs).2.1.2.1.1
    have hE2 : bEl 0 (m_gpl l A) := hB2.1.2.2.2.2.1
    clear ycm
    refine X_aload_n 46 hO dX12_start_45 rfl rfl ?_
    refine gX12_49 49 hO dX12_start_46 rfl (by first | assumption | omega | (simp (disch := first | decide | assumption | omega) only [up_k, up_s, up_a, up_i, flA_k, flA_a, flA_n, cpA_k, cpA_a, newO_o, newA_o, newO_t, newA_t, newA_n, cpQ_k, cpQ_a] <;> first | assumption | omega)) ?_
    try simp (disch := first | decide | assumption | omega) only [up_k, up_s, up_a, up_i, flA_k, flA_a, flA_n, cpA_k, cpA_a, newO_o, newA_o, newO_t, newA_t, newA_n, cpQ_k, cpQ_a]
    refine X_iload_n 50 hO dX12_start_49 rfl rfl ?_
    refine X_aald (t := 24) (C := "Foldback$Macro") 51 hO rfl (by decide) dX12_start_50 rfl (by first | assumption | omega | (simp (disch := first | decide | assumption | omega) only [up_k, up_s, up_a, up_i, flA_k, flA_a, flA_n, cpA_k, cpA_a, newO_o, newA_o, newO_t, newA_t, newA_n, cpQ_k, cpQ_a] <;> first | assumption | omega)) (by first | assumption | omega | (simp (disch := first | decide | assumption | omega) only [up_k, up_s, up_a, up_i, flA_k, flA_a, flA_n, cpA_k, cpA_a, newO_o, newA_o, newO_t, newA_t, newA_n, cpQ_k, cpQ_a] <;> first | assumption | omega)) ?_
    try simp (disch := first | decide | assumption | omega) only [up_k, up_s, up_a, up_i, flA_k, flA_a, flA_n, cpA_k, cpA_a, newO_o, newA_o, newO_t, newA_t, newA_n, cpQ_k, cpQ_a]
    refine gX12_415 54 hO dX12_start_51 rfl (by first | assumption | omega | (simp (disch := first | decide | assumption | omega) only [up_k, up_s, up_a, up_i, flA_k, flA_a, flA_n, cpA_k, cpA_a, newO_o, newA_o, newO_t, newA_t, newA_n, cpQ_k, cpQ_a] <;> first | assumption | omega)) ?_
    try simp (disch := first | decide | assumption | omega) only [up_k, up_s, up_a, up_i, flA_k, flA_a, flA_n, cpA_k, cpA_a, newO_o, newA_o, newO_t, newA_t, newA_n, cpQ_k, cpQ_a]
    refine X_iload_n 55 hO dX12_start_54 rfl rfl ?_
    refine X_iald 56 hO dX12_start_55 rfl (by first | assumption | omega | (simp (disch := first | decide | assumption | omega) only [up_k, up_s, up_a, up_i, flA_k, flA_a, flA_n, cpA_k, cpA_a, newO_o, newA_o, newO_t, newA_t, newA_n, cpQ_k, cpQ_a] <;> first | assumption | omega)) (by first | assumption | omega | (simp (disch := first | decide | assumption | omega) only [up_k, up_s, up_a, up_i, flA_k, flA_a, flA_n, cpA_k, cpA_a, newO_o, newA_o, newO_t, newA_t, newA_n, cpQ_k, cpQ_a] <;> first | assumption | omega)) (fun hi_55 => ?_)
    try simp (disch := first | decide | assumption | omega) only [up_k, up_s, up_a, up_i, flA_k, flA_a, flA_n, cpA_k, cpA_a, newO_o, newA_o, newO_t, newA_t, newA_n, cpQ_k, cpQ_a] at hi_55 ⊢
    refine X_istore 58 hO dX12_start_56 rfl rfl ?_
    refine X_aload_n 59 hO dX12_start_58 rfl rfl ?_
    refine gX12_49 62 hO dX12_start_59 rfl (by first | assumption | omega | (simp (disch := first | decide | assumption | omega) only [up_k, up_s, up_a, up_i, flA_k, flA_a, flA_n, cpA_k, cpA_a, newO_o, newA_o, newO_t, newA_t, newA_n, cpQ_k, cpQ_a] <;> first | assumption | omega)) ?_
    try simp (disch := first | decide | assumption | omega) only [up_k, up_s, up_a, up_i, flA_k, flA_a, flA_n, cpA_k, cpA_a, newO_o, newA_o, newO_t, newA_t, newA_n, cpQ_k, cpQ_a]
    refine X_iload_n 63 hO dX12_start_62 rfl rfl ?_
    refine X_aald (t := 24) (C := "Foldback$Macro") 64 hO rfl (by decide) dX12_start_63 rfl (by first | assumption | omega | (simp (disch := first | decide | assumption | omega) only [up_k, up_s, up_a, up_i, flA_k, flA_a, flA_n, cpA_k, cpA_a, newO_o, newA_o, newO_t, newA_t, newA_n, cpQ_k, cpQ_a] <;> first | assumption | omega)) (by first | assumption | omega | (simp (disch := first | decide | assumption | omega) only [up_k, up_s, up_a, up_i, flA_k, flA_a, flA_n, cpA_k, cpA_a, newO_o, newA_o, newO_t, newA_t, newA_n, cpQ_k, cpQ_a] <;> first | assumption | omega)) ?_
    try simp (disch := first | decide | assumption | omega) only [up_k, up_s, up_a, up_i, flA_k, flA_a, flA_n, cpA_k, cpA_a, newO_o, newA_o, newO_t, newA_t, newA_n, cpQ_k, cpQ_a]
    refine gX12_418 67 hO dX12_start_64 rfl (by first | assumption | omega | (simp (disch := first | decide | assumption | omega) only [up_k, up_s, up_a, up_i, flA_k, flA_a, flA_n, cpA_k, cpA_a, newO_o, newA_o, newO_t, newA_t, newA_n, cpQ_k, cpQ_a] <;> first | assumption | omega)) ?_
    try simp (disch := first | decide | assumption | omega) only [up_k, up_s, up_a, up_i, flA_k, flA_a, flA_n, cpA_k, cpA_a, newO_o, newA_o, newO_t, newA_t, newA_n, cpQ_k, cpQ_a]
    refine X_iload_n 68 hO dX12_start_67 rfl rfl ?_
    refine X_iald 69 hO dX12_start_68 rfl (by first | assumption | omega | (simp (disch := first | decide | assumption | omega) only [up_k, up_s, up_a, up_i, flA_k, flA_a, flA_n, cpA_k, cpA_a, newO_o, newA_o, newO_t, newA_t, newA_n, cpQ_k, cpQ_a] <;> first | assumption | omega)) (by first | assumption | omega | (simp (disch := first | decide | assumption | omega) only [up_k, up_s, up_a, up_i, flA_k, flA_a, flA_n, cpA_k, cpA_a, newO_o, newA_o, newO_t, newA_t, newA_n, cpQ_k, cpQ_a] <;> first | assumption | omega)) (fun hi_68 => ?_)
    try simp (disch := first | decide | assumption | omega) only [up_k, up_s, up_a, up_i, flA_k, flA_a, flA_n, cpA_k, cpA_a, newO_o, newA_o, newO_t, newA_t, newA_n, cpQ_k, cpQ_a] at hi_68 ⊢
    refine X_istore 71 hO dX12_start_69 rfl rfl ?_
    refine X_aload_n 72 hO dX12_start_71 rfl rfl ?_
    refine gX12_49 75 hO dX12_start_72 rfl (by first | assumption | omega | (simp (disch := first | decide | assumption | omega) only [up_k, up_s, up_a, up_i, flA_k, flA_a, flA_n, cpA_k, cpA_a, newO_o, newA_o, newO_t, newA_t, newA_n, cpQ_k, cpQ_a] <;> first | assumption | omega)) ?_
    try simp (disch := first | decide | assumption | omega) only [up_k, up_s, up_a, up_i, flA_k, flA_a, flA_n, cpA_k, cpA_a, newO_o, newA_o, newO_t, newA_t, newA_n, cpQ_k, cpQ_a]
    refine X_iload_n 76 hO dX12_start_75 rfl rfl ?_
    refine X_aald (t := 24) (C := "Foldback$Macro") 77 hO rfl (by decide) dX12_start_76 rfl (by first | assumption | omega | (simp (disch := first | decide | assumption | omega) only [up_k, up_s, up_a, up_i, flA_k, flA_a, flA_n, cpA_k, cpA_a, newO_o, newA_o, newO_t, newA_t, newA_n, cpQ_k, cpQ_a] <;> first | assumption | omega)) (by first | assumption | omega | (simp (disch := first | decide | assumption | omega) only [up_k, up_s, up_a, up_i, flA_k, flA_a, flA_n, cpA_k, cpA_a, newO_o, newA_o, newO_t, newA_t, newA_n, cpQ_k, cpQ_a] <;> first | assumption | omega)) ?_
    try simp (disch := first | decide | assumption | omega) only [up_k, up_s, up_a, up_i, flA_k, flA_a, flA_n, cpA_k, cpA_a, newO_o, newA_o, newO_t, newA_t, newA_n, cpQ_k, cpQ_a]
    refine gX12_421 80 hO dX12_start_77 rfl (by first | assumption | omega | (simp (disch := first | decide | assumption | omega) only [up_k, up_s, up_a, up_i, flA_k, flA_a, flA_n, cpA_k, cpA_a, newO_o, newA_o, newO_t, newA_t, newA_n, cpQ_k, cpQ_a] <;> first | assumption | omega)) ?_
    try simp (disch := first | decide | assumption | omega) only [up_k, up_s, up_a, up_i, flA_k, flA_a, flA_n, cpA_k, cpA_a, newO_o, newA_o, newO_t, newA_t, newA_n, cpQ_k, cpQ_a]
    refine X_iload_n 81 hO dX12_start_80 rfl rfl ?_
    refine X_iald 82 hO dX12_start_81 rfl (by first | assumption | omega | (simp (disch := first | decide | assumption | omega) only [up_k, up_s, up_a, up_i, flA_k, flA_a, flA_n, cpA_k, cpA_a, newO_o, newA_o, newO_t, newA_t, newA_n, cpQ_k, cpQ_a] <;> first | assumption | omega)) (by first | assumption | omega | (simp (disch := first | decide | assumption | omega) only [up_k, up_s, up_a, up_i, flA_k, flA_a, flA_n, cpA_k, cpA_a, newO_o, newA_o, newO_t, newA_t, newA_n, cpQ_k, cpQ_a] <;> first | assumption | omega)) (fun hi_81 => ?_)
    try simp (disch := first | decide | assumption | omega) only [up_k, up_s, up_a, up_i, flA_k, flA_a, flA_n, cpA_k, cpA_a, newO_o, newA_o, newO_t, newA_t, newA_n, cpQ_k, cpQ_a] at hi_81 ⊢
    refine X_istore 84 hO dX12_start_82 rfl rfl ?_
    refine X_iload 86 hO dX12_start_84 rfl rfl ?_
    refine X_bipush 88 hO dX12_start_86 rfl (by decide) ?_
    refine X_icmp_ne 91 122 hO dX12_start_88 rfl rfl (by omega) (by omega) (fun hc_88 => ?_) (fun hc_88 => ?_)
    ·
      refine X_iload 124 hO dX12_start_122 rfl rfl ?_
      refine X_bipush 126 hO dX12_start_124 rfl (by decide) ?_
      refine X_icmp_ne 129 156 hO dX12_start_126 rfl rfl (by omega) (by omega) (fun hc_126 => ?_) (fun hc_126 => ?_)
      ·
        obtain ⟨x1, x2, x3, x4⟩ : s' = s + 1 ∧ t' = t ∧ r' = (m_gdo μ l A).1 ∧ A' = if (m_gdo μ l A).1 = 0 then (m_gdo μ l A).2 else m_fail μ (m_gdo μ l A).1 (A 237 0 l) (A 239 0 l) (m_gdo μ l A).2 := by
          rcases hRT with z | z | z | z | z
          · exact absurd z.1 hs
          · exact absurd z.2.1 (by omega)
          · exact z.2.2.2
          · exact absurd z.2.1 (by omega)
          · exact absurd z.2.1 (by omega)
        refine X_aload_n 157 hO dX12_start_156 rfl rfl ?_
        refine X_iload 159 hO dX12_start_157 rfl rfl ?_
        refine X_iload 161 hO dX12_start_159 rfl rfl ?_
        refine X_iload 163 hO dX12_start_161 rfl rfl ?_
        refine X_kVi (t := 13) 166 hO hD lX12_353 rfl (by decide) [_, _, _] rfl dX12_start_163 rfl (by first | assumption | omega | (simp (disch := first | decide | assumption | omega) only [up_k, up_s, up_a, up_i, flA_k, flA_a, flA_n, cpA_k, cpA_a, newO_o, newA_o, newO_t, newA_t, newA_n, cpQ_k, cpQ_a] <;> first | assumption | omega)) (kX12_perform _ _ _ _ _ _ (pU p c σ G) μ (lvS σ μ (m_gpl l A)) (m_gpl l A) h2.1 (h2.rbc hB2 (by omega)) (by omega) (by omega) (by omega) (fun _ => by rw [e1, e2, e3, show A 235 0 (m_gat l A) + 1 - 1 = A 235 0 (m_gat l A) by omega]; exact hcv)) (by first | decide | omega) (by simp [rv_cat, int_cat]) (by first | decide | exact Nat.zero_le _ | omega) (by first | decide | exact Nat.zero_le _ | omega) (fun r_163 w_163 hr_163 hp_163 => ?_) (fun E w_ hx_ => hx_.elim)
        have hPF := hp_163.1 (by omega)
        rw [e1, e2, e3, show A 235 0 (m_gat l A) + 1 - 1 = A 235 0 (m_gat l A) by omega] at hPF
        have hc14 : A 235 0 (m_gat l A) ≤ 14 := by omega
        have hre : r_163 = (m_gdo μ l A).1 := hPF.1
        have hDo := hG.ds hs (hOn hs) hB2 hcv hc14
        obtain ⟨c4, σ4, G4, h4⟩ := h2.does hB2 (by omega) hS2 hDo.1.2.2.1 hcv hc14 hPF
        have h4 : RNX p c4 σ4 G4 μ f ρ w0 A0 w_163 (m_gdo μ l A).2 (s + 1) t u v := h4
        have b12 := ((h4.mac hm4).1).2.2.2
        have b13 := ((h4.mac hm4).1).1
        have hdn := does_nn (μ := μ) (c := A 235 0 (m_gat l A)) (a := A 235 0 (m_gat l A + 1)) (b := A 235 0 (m_gat l A + 2)) (w := m_gpl l A)
        have hrb : 0 ≤ r_163 ∧ r_163 ≤ 8 := by rw [hre]; exact ⟨hdn.1, hdn.2.1⟩
        refine X_istore 168 hO dX12_start_166 rfl rfl ?_
        refine X_iload 170 hO dX12_start_168 rfl rfl ?_
        refine X_if_eq 173 187 hO dX12_start_170 rfl rfl (by omega) (fun hc_170 => ?_) (fun hc_170 => ?_)
        ·
          have hr0 : r_163 = 0 := hc_170
          refine X_iconst 188 hO dX12_start_187 rfl ?_
          refine X_goto hO dX12_start_188 (tgt := 192) rfl ?_
          exact X_iret hO hF rfl (by first | exact Or.inl rfl | exact Or.inr ⟨rfl, bi_01 _⟩ | exact Or.inr ⟨rfl, by omega⟩) dX12_start_192 ⟨_, rfl, (by omega), by first | exact absurd er hc_184 | (rw [x1, x2, x3, x4, ← hre, if_pos hr0, if_pos hr0, if_pos hr0, if_pos hr0]; exact ⟨rfl, c4, σ4, G4, h4⟩) | (rw [x1, x2, x3, x4, ← hre, if_neg hr0, if_neg hr0, if_neg hr0, if_neg hr0, ew, hm, hi]; exact ⟨rfl, c4, σ4, G4, h4.fai hDo.2.1.2.1.1 hDo.1.1.2.2.2.2.1 (by omega)⟩)⟩
        ·
          have hr0 : r_163 ≠ 0 := hc_170
          refine X_aload_n 174 hO dX12_start_173 rfl rfl ?_
          refine gX12_61 177 hO dX12_start_174 rfl (by first | assumption | omega | (simp (disch := first | decide | assumption | omega) only [up_k, up_s, up_a, up_i, flA_k, flA_a, flA_n, cpA_k, cpA_a, newO_o, newA_o, newO_t, newA_t, newA_n, cpQ_k, cpQ_a] <;> first | assumption | omega)) ?_
          try simp (disch := first | decide | assumption | omega) only [up_k, up_s, up_a, up_i, flA_k, flA_a, flA_n, cpA_k, cpA_a, newO_o, newA_o, newO_t, newA_t, newA_n, cpQ_k, cpQ_a]
          refine X_iload 179 hO dX12_start_177 rfl rfl ?_
          refine X_iload 181 hO dX12_start_179 rfl rfl ?_
          refine X_kVi (t := 12) 184 hO hD lX12_411 rfl (by decide) [_, _] rfl dX12_start_181 rfl (by first | assumption | omega | (simp (disch := first | decide | assumption | omega) only [up_k, up_s, up_a, up_i, flA_k, flA_a, flA_n, cpA_k, cpA_a, newO_o, newA_o, newO_t, newA_t, newA_n, cpQ_k, cpQ_a] <;> first | assumption | omega)) (kX11_fail _ _ _ _ _ b12 (by omega) (by omega)) (by first | decide | omega) (by simp [rv_cat, int_cat]) (by first | decide | exact Nat.zero_le _ | omega) (by first | decide | exact Nat.zero_le _ | omega) (fun r_181 w_181 hr_181 hp_181 => ?_) (fun E w_ hx_ => hx_.elim)
          obtain ⟨er, ew⟩ := hp_181
          refine X_if_eq 187 191 hO dX12_start_184 rfl rfl (by omega) (fun hc_184 => ?_) (fun hc_184 => ?_)
          ·
            try simp only [bi_0, bi_ne, ne_eq, Classical.not_not] at hc_184
            refine X_iconst 192 hO dX12_start_191 rfl ?_
            exact X_iret hO hF rfl (by first | exact Or.inl rfl | exact Or.inr ⟨rfl, bi_01 _⟩ | exact Or.inr ⟨rfl, by omega⟩) dX12_start_192 ⟨_, rfl, (by omega), by first | exact absurd er hc_184 | (rw [x1, x2, x3, x4, ← hre, if_pos hr0, if_pos hr0, if_pos hr0, if_pos hr0]; exact ⟨rfl, c4, σ4, G4, h4⟩) | (rw [x1, x2, x3, x4, ← hre, if_neg hr0, if_neg hr0, if_neg hr0, if_neg hr0, ew, hm, hi]; exact ⟨rfl, c4, σ4, G4, h4.fai hDo.2.1.2.1.1 hDo.1.1.2.2.2.2.1 (by omega)⟩)⟩
          ·
            try simp only [bi_0, bi_ne, ne_eq, Classical.not_not] at hc_184
            refine X_iconst 188 hO dX12_start_187 rfl ?_
            refine X_goto hO dX12_start_188 (tgt := 192) rfl ?_
            exact X_iret hO hF rfl (by first | exact Or.inl rfl | exact Or.inr ⟨rfl, bi_01 _⟩ | exact Or.inr ⟨rfl, by omega⟩) dX12_start_192 ⟨_, rfl, (by omega), by first | exact absurd er hc_184 | (rw [x1, x2, x3, x4, ← hre, if_pos hr0, if_pos hr0, if_pos hr0, if_pos hr0]; exact ⟨rfl, c4, σ4, G4, h4⟩) | (rw [x1, x2, x3, x4, ← hre, if_neg hr0, if_neg hr0, if_neg hr0, if_neg hr0, ew, hm, hi]; exact ⟨rfl, c4, σ4, G4, h4.fai hDo.2.1.2.1.1 hDo.1.1.2.2.2.2.1 (by omega)⟩)⟩
      ·
        obtain ⟨x1, x2, x3, x4⟩ : s' = s + 1 ∧ t' = s + 1 ∧ r' = 0 ∧ A' = m_saves μ 3 (m_gpl l A) := by
          rcases hRT with z | z | z | z | z
          · exact absurd z.1 hs
          · exact z.2.2
          · exact absurd (show A 235 0 (m_gat l A) = 16 by omega) z.2.1
          · exact absurd z.2.1 (by omega)
          · exact absurd z.2.1 (by omega)
        obtain ⟨a1, a2, a3, a4⟩ := h2.asL hB2 (by omega)
        refine X_aload_n 130 hO dX12_start_129 rfl rfl ?_
        refine gX12_19 133 hO dX12_start_130 rfl (by first | assumption | omega | (simp (disch := first | decide | assumption | omega) only [up_k, up_s, up_a, up_i, flA_k, flA_a, flA_n, cpA_k, cpA_a, newO_o, newA_o, newO_t, newA_t, newA_n, cpQ_k, cpQ_a] <;> first | assumption | omega)) ?_
        try simp (disch := first | decide | assumption | omega) only [up_k, up_s, up_a, up_i, flA_k, flA_a, flA_n, cpA_k, cpA_a, newO_o, newA_o, newO_t, newA_t, newA_n, cpQ_k, cpQ_a]
        refine X_aload_n 134 hO dX12_start_133 rfl rfl ?_
        refine gX12_10 137 hO dX12_start_134 rfl (by first | assumption | omega | (simp (disch := first | decide | assumption | omega) only [up_k, up_s, up_a, up_i, flA_k, flA_a, flA_n, cpA_k, cpA_a, newO_o, newA_o, newO_t, newA_t, newA_n, cpQ_k, cpQ_a] <;> first | assumption | omega)) ?_
        try simp (disch := first | decide | assumption | omega) only [up_k, up_s, up_a, up_i, flA_k, flA_a, flA_n, cpA_k, cpA_a, newO_o, newA_o, newO_t, newA_t, newA_n, cpQ_k, cpQ_a]
        refine X_kVv (t := 2) 140 hO hD lX12_136 rfl (by decide) [_] rfl dX12_start_137 rfl (by first | assumption | omega | (simp (disch := first | decide | assumption | omega) only [up_k, up_s, up_a, up_i, flA_k, flA_a, flA_n, cpA_k, cpA_a, newO_o, newA_o, newO_t, newA_t, newA_n, cpQ_k, cpQ_a] <;> first | assumption | omega)) (kX1_takeAll _ _ _ _ 400 a1 (by omega)) (by first | decide | omega) (by simp [rv_cat, int_cat]) (by first | decide | exact Nat.zero_le _ | omega) (by first | decide | exact Nat.zero_le _ | omega) (fun w_137 hp_137 => ?_) (fun E w_ hx_ => hx_.elim)
        have h3 := h2.chk hB2 hp_137
        obtain ⟨b13, -, -, b12⟩ := (h3.mac hm4).1
        refine X_aload_n 141 hO dX12_start_140 rfl rfl ?_
        refine gX12_61 144 hO dX12_start_141 rfl (by first | assumption | omega | (simp (disch := first | decide | assumption | omega) only [up_k, up_s, up_a, up_i, flA_k, flA_a, flA_n, cpA_k, cpA_a, newO_o, newA_o, newO_t, newA_t, newA_n, cpQ_k, cpQ_a] <;> first | assumption | omega)) ?_
        try simp (disch := first | decide | assumption | omega) only [up_k, up_s, up_a, up_i, flA_k, flA_a, flA_n, cpA_k, cpA_a, newO_o, newA_o, newO_t, newA_t, newA_n, cpQ_k, cpQ_a]
        refine X_aload_n 145 hO dX12_start_144 rfl rfl ?_
        refine gX12_61 148 hO dX12_start_145 rfl (by first | assumption | omega | (simp (disch := first | decide | assumption | omega) only [up_k, up_s, up_a, up_i, flA_k, flA_a, flA_n, cpA_k, cpA_a, newO_o, newA_o, newO_t, newA_t, newA_n, cpQ_k, cpQ_a] <;> first | assumption | omega)) ?_
        try simp (disch := first | decide | assumption | omega) only [up_k, up_s, up_a, up_i, flA_k, flA_a, flA_n, cpA_k, cpA_a, newO_o, newA_o, newO_t, newA_t, newA_n, cpQ_k, cpQ_a]
        refine gX12_157 151 hO dX12_start_148 rfl (by first | assumption | omega | (simp (disch := first | decide | assumption | omega) only [up_k, up_s, up_a, up_i, flA_k, flA_a, flA_n, cpA_k, cpA_a, newO_o, newA_o, newO_t, newA_t, newA_n, cpQ_k, cpQ_a] <;> first | assumption | omega)) (fun hi_148 => ?_)
        try simp (disch := first | decide | assumption | omega) only [up_k, up_s, up_a, up_i, flA_k, flA_a, flA_n, cpA_k, cpA_a, newO_o, newA_o, newO_t, newA_t, newA_n, cpQ_k, cpQ_a] at hi_148 ⊢
        refine pX12_160 154 hO dX12_start_151 rfl (by first | assumption | omega | (simp (disch := first | decide | assumption | omega) only [up_k, up_s, up_a, up_i, flA_k, flA_a, flA_n, cpA_k, cpA_a, newO_o, newA_o, newO_t, newA_t, newA_n, cpQ_k, cpQ_a] <;> first | assumption | omega)) (by omega) ?_
        refine X_iconst 155 hO dX12_start_154 rfl ?_
        exact X_iret hO hF rfl (by first | exact Or.inl rfl | exact Or.inr ⟨rfl, bi_01 _⟩ | exact Or.inr ⟨rfl, by omega⟩) dX12_start_155 ⟨_, rfl, (by omega), by subst x1 x2 x3 x4; rw [if_pos rfl, if_pos rfl, if_pos rfl]; exact ⟨rfl, c, σ, G, h3.att (hOn hs).sv.2.1.2.1.1⟩⟩
    ·
      refine X_iload_n 92 hO dX12_start_91 rfl rfl ?_
      refine X_iconst 93 hO dX12_start_92 rfl ?_
      refine X_icmp_ge 96 110 hO dX12_start_93 rfl rfl (by omega) (by omega) (fun hc_93 => ?_) (fun hc_93 => ?_)
      ·
        have hl5 : l = 5 := by omega
        obtain ⟨x1, x2, x3, x4⟩ : s' = s + 1 ∧ t' = t ∧ r' = 7 ∧ A' = m_fail μ 7 (A 237 0 l) (A 239 0 l) (m_gpl l A) := by
          rcases hRT with z | z | z | z | z
          · exact absurd z.1 hs
          · exact absurd z.2.1 (by omega)
          · exact absurd z.2.2.1 (fun y => y (by omega))
          · exact z.2.2.2
          · exact absurd hl5 z.2.2.1
        refine X_aload_n 111 hO dX12_start_110 rfl rfl ?_
        refine gX12_61 114 hO dX12_start_111 rfl (by first | assumption | omega | (simp (disch := first | decide | assumption | omega) only [up_k, up_s, up_a, up_i, flA_k, flA_a, flA_n, cpA_k, cpA_a, newO_o, newA_o, newO_t, newA_t, newA_n, cpQ_k, cpQ_a] <;> first | assumption | omega)) ?_
        try simp (disch := first | decide | assumption | omega) only [up_k, up_s, up_a, up_i, flA_k, flA_a, flA_n, cpA_k, cpA_a, newO_o, newA_o, newO_t, newA_t, newA_n, cpQ_k, cpQ_a]
        refine X_bipush 116 hO dX12_start_114 rfl (by decide) ?_
        refine X_iload 118 hO dX12_start_116 rfl rfl ?_
        refine X_kVi (t := 12) 121 hO hD lX12_411 rfl (by decide) [_, _] rfl dX12_start_118 rfl (by first | assumption | omega | (simp (disch := first | decide | assumption | omega) only [up_k, up_s, up_a, up_i, flA_k, flA_a, flA_n, cpA_k, cpA_a, newO_o, newA_o, newO_t, newA_t, newA_n, cpQ_k, cpQ_a] <;> first | assumption | omega)) (kX11_fail _ _ _ _ _ y12 (by omega) (by omega)) (by first | decide | omega) (by simp [rv_cat, int_cat]) (by first | decide | exact Nat.zero_le _ | omega) (by first | decide | exact Nat.zero_le _ | omega) (fun r_118 w_118 hr_118 hp_118 => ?_) (fun E w_ hx_ => hx_.elim)
        obtain ⟨er, ew⟩ := hp_118
        exact X_iret hO hF rfl (by first | exact Or.inl rfl | exact Or.inr ⟨rfl, bi_01 _⟩ | exact Or.inr ⟨rfl, by omega⟩) dX12_start_121 ⟨_, rfl, (by omega), by first | exact ⟨er, hPo⟩ | (subst x1 x2 x3 x4; rw [if_neg (by decide), if_neg (by decide), if_neg (by decide), ew, hm, hi]; exact ⟨er, c, σ, G, h2.fai hS2 hE2 (by omega)⟩)⟩
      ·
        have hRT3 : RT μ n false (l + 1) (s + 1) t (m_gdn l (A 235 0 (m_gat l A + 1)) (A 235 0 (m_gat l A + 2)) (m_gpl l A)) s' t' r' A' := by
          rcases hRT with z | z | z | z | z
          · exact absurd z.1 hs
          · exact absurd z.2.1 (by omega)
          · exact absurd z.2.2.1 (fun y => y (by omega))
          · exact absurd z.2.2.1 (by omega)
          · exact z.2.2.2
        have hargs := hcv.2.2.2.2.2.2.2.2.2.2 (by omega)
        have harga := hcv.2.2.2.2.2.2.1 (Or.inr (Or.inr (by omega)))
        have hN3 : RNS p μ f ρ w0 A0 w1 (m_gdn l (A 235 0 (m_gat l A + 1)) (A 235 0 (m_gat l A + 2)) (m_gpl l A)) (s + 1) t u v := ⟨c, σ, G, h2.cg hE2 hS2 (fun k x j z1 z2 z3 => by unfold m_gdn; rw [up_k _ (by omega), up_k _ (by omega), up_k _ (by omega)])⟩
        have hG3 := (hOn hs).dn (a := A 235 0 (m_gat l A + 1)) (b := A 235 0 (m_gat l A + 2)) (by omega) (by omega) (by omega)
        refine X_aload_n 97 hO dX12_start_96 rfl rfl ?_
        refine X_iload 99 hO dX12_start_97 rfl rfl ?_
        refine X_iload 101 hO dX12_start_99 rfl rfl ?_
        refine X_iload_n 102 hO dX12_start_101 rfl rfl ?_
        refine X_iconst 103 hO dX12_start_102 rfl ?_
        refine X_iadd 104 hO dX12_start_103 rfl ?_
        refine X_kVi (t := 13) 107 hO hD lX12_143 rfl (by decide) [_, _, _] rfl dX12_start_104 rfl (by first | assumption | omega | (simp (disch := first | decide | assumption | omega) only [up_k, up_s, up_a, up_i, flA_k, flA_a, flA_n, cpA_k, cpA_a, newO_o, newA_o, newO_t, newA_t, newA_n, cpQ_k, cpQ_a] <;> first | assumption | omega)) (hK _ _ _ _ _ _ p μ ρ w0 A0 _ _ _ _ _ _ _ u v S P M hN3 hG3 (by omega) hSP (by unfold m_gdn; rw [up_k _ (by decide), up_k _ (by decide), up_s, e2]) (by unfold m_gdn; rw [up_k _ (by decide), up_s, e3]) (by unfold m_gdn; rw [up_s]) hRT3) (by first | decide | omega) (by simp [rv_cat, int_cat]) (by first | decide | exact Nat.zero_le _ | omega) (by first | decide | exact Nat.zero_le _ | omega) (fun r_104 w_104 hr_104 hp_104 => ?_) (fun E w_ hx_ => hx_.elim)
        obtain ⟨er, hPo⟩ := hp_104
        refine X_goto hO dX12_start_107 (tgt := 121) rfl ?_
        exact X_iret hO hF rfl (by first | exact Or.inl rfl | exact Or.inr ⟨rfl, bi_01 _⟩ | exact Or.inr ⟨rfl, by omega⟩) dX12_start_121 ⟨_, rfl, (by omega), by first | exact ⟨er, hPo⟩ | (subst x1 x2 x3 x4; rw [if_neg (by decide), if_neg (by decide), if_neg (by decide), ew, hm, hi]; exact ⟨er, c, σ, G, h2.fai hS2 hE2 (by omega)⟩)⟩
  ·
    have hs : s = 24 := by omega
    obtain ⟨x1, x2, x3, x4⟩ : s' = s ∧ t' = t ∧ r' = 8 ∧ A' = m_fail μ 8 (A 237 0 l) (A 239 0 l) A := by
      rcases hRT with z | z | z | z | z
      · exact z.2
      all_goals exact absurd hs z.1
    refine X_aload_n 21 hO dX12_start_20 rfl rfl ?_
    refine gX12_61 24 hO dX12_start_21 rfl (by first | assumption | omega | (simp (disch := first | decide | assumption | omega) only [up_k, up_s, up_a, up_i, flA_k, flA_a, flA_n, cpA_k, cpA_a, newO_o, newA_o, newO_t, newA_t, newA_n, cpQ_k, cpQ_a] <;> first | assumption | omega)) ?_
    try simp (disch := first | decide | assumption | omega) only [up_k, up_s, up_a, up_i, flA_k, flA_a, flA_n, cpA_k, cpA_a, newO_o, newA_o, newO_t, newA_t, newA_n, cpQ_k, cpQ_a]
    refine X_bipush 26 hO dX12_start_24 rfl (by decide) ?_
    refine X_iload 28 hO dX12_start_26 rfl rfl ?_
    refine X_kVi (t := 12) 31 hO hD lX12_411 rfl (by decide) [_, _] rfl dX12_start_28 rfl (by first | assumption | omega | (simp (disch := first | decide | assumption | omega) only [up_k, up_s, up_a, up_i, flA_k, flA_a, flA_n, cpA_k, cpA_a, newO_o, newA_o, newO_t, newA_t, newA_n, cpQ_k, cpQ_a] <;> first | assumption | omega)) (kX11_fail _ _ _ _ _ t12 (by omega) (by omega)) (by first | decide | omega) (by simp [rv_cat, int_cat]) (by first | decide | exact Nat.zero_le _ | omega) (by first | decide | exact Nat.zero_le _ | omega) (fun r_28 w_28 hr_28 hp_28 => ?_) (fun E w_ hx_ => hx_.elim)
    obtain ⟨er, ew⟩ := hp_28
    exact X_iret hO hF rfl (by first | exact Or.inl rfl | exact Or.inr ⟨rfl, bi_01 _⟩ | exact Or.inr ⟨rfl, by omega⟩) dX12_start_31 ⟨_, rfl, (by omega), by subst x1 x2 x3 x4; rw [if_neg (by decide), if_neg (by decide), if_neg (by decide), ew, hm, hi]; exact ⟨er, c, σ, G, h.fai hS3 hE0 (by omega)⟩⟩
