/-! a command is performed -/
section TSW
variable {κ : KC} {P S : Nat} {w : Mm} {pc : Nat} {ls : List (Option Value)} {st : List Value} {own : String} {cc : ByteArray}
theorem X_tabIn {dflt lo hi x off : Int} {offs : Array Int} {len tgt : Nat} (hO : Ok κ own cc) (d : decode cc pc = .ok (.tableswitch dflt lo hi offs, len)) (hx : IR x) (h1 : lo ≤ x) (h2 : x ≤ hi) (ho : offs[(x - lo).toNat]? = some off) (ht : (pc : Int) + off = (tgt : Int)) (k : X κ P S w tgt ls st) : X κ P S w pc ls (.int (I x) :: st) := by
  intro H locs la a b h3 h4 h5 h6 h7 h8
  have e := I_toInt hx
  exact lv_tableIn hO.1 hO.2.1 d (by rw [e]; omega) (by rw [e]; omega) (by rw [e]; exact ho) ht (k H locs la a b h3 h4 h5 h6 h7 h8)
theorem X_tabOut {dflt lo hi x : Int} {offs : Array Int} {len tgt : Nat} (hO : Ok κ own cc) (d : decode cc pc = .ok (.tableswitch dflt lo hi offs, len)) (hx : IR x) (h1 : x < lo ∨ hi < x) (ht : (pc : Int) + dflt = (tgt : Int)) (k : X κ P S w tgt ls st) : X κ P S w pc ls (.int (I x) :: st) := by
  intro H locs la a b h3 h4 h5 h6 h7 h8
  have e := I_toInt hx
  exact lv_tableOut hO.1 hO.2.1 d (by rw [e]; exact h1) ht (k H locs la a b h3 h4 h5 h6 h7 h8)
end TSW
theorem RLm.chs {p : RP} {μ : MU} {f g n : Int} {L : List Int} {w A : Mm} {gf : Int → Int} (h : RLm p μ f L w A) (hg : vCh (pc_ p) w g n gf) (hn : 0 ≤ n ∧ n ≤ 400) : w 0 g 0 = 1 ∧ w 0 (w 10 g 0) 0 = 20 ∧ w 10 g 0 ≠ w 28 (w 11 (w 41 f 0) 0) 0 ∧ 0 ≤ w 2 (w 10 g 0) 0 ∧ w 2 (w 10 g 0) 0 ≤ 100000 := by
  have h12 := h.1.2.2.1.1.1.2.1.2.1.2
  exact ⟨hg.1.1, hg.2.1.1, fun e => by have := hg.2.1.2; rw [e] at this; omega, by rw [hg.2.2.1]; omega, by rw [hg.2.2.1]; omega⟩
theorem RLm.stc {p : RP} {μ : MU} {f s : Int} {L : List Int} {w A : Mm} (h : RLm p μ f L w A) (hR : RBc μ L A) (hs : 0 ≤ s ∧ s < 5) : w 3 (w 31 (w 11 (w 41 f 0) 0) 0) s = 0 ∨ (w 0 (w 3 (w 31 (w 11 (w 41 f 0) 0) 0) s) 0 = 1 ∧ w 0 (w 10 (w 3 (w 31 (w 11 (w 41 f 0) 0) 0) s) 0) 0 = 20 ∧ w 10 (w 3 (w 31 (w 11 (w 41 f 0) 0) 0) s) 0 ≠ w 28 (w 11 (w 41 f 0) 0) 0 ∧ 0 ≤ w 2 (w 10 (w 3 (w 31 (w 11 (w 41 f 0) 0) 0) s) 0) 0 ∧ w 2 (w 10 (w 3 (w 31 (w 11 (w 41 f 0) 0) 0) s) 0) 0 ≤ 100000) := by
  obtain ⟨k1, k2⟩ := (h.2.2.1.1.1.2 s hs.1 hs.2).at0
  have k3 := k2 0 (Int.le_refl _) (by unfold m_slt; split <;> omega)
  rw [Int.add_zero, Int.add_zero] at k3
  by_cases y : 0 < A 204 0 s
  · have hE := hR.2.1.2.2.2.2.1 (4 * s) (by omega) (by omega)
    exact Or.inr (h.chs (k3.1 y) (by omega))
  · exact Or.inl (k3.2 (by omega))
theorem pfY {p : RP} {μ : MU} {f a b r : Int} {L : List Int} {w w' A : Mm} (h : RLm p μ f L w A) (hR : RBc μ L A) (h00 : w 0 0 0 = 0) (hp : (w 3 (w 31 (w 11 (w 41 f 0) 0) 0) 4 = 0 ∧ r = 4 ∧ w' = w) ∨ (w 3 (w 31 (w 11 (w 41 f 0) 0) 0) 4 ≠ 0 ∧ ¬ (w 2 (w 10 (w 3 (w 31 (w 11 (w 41 f 0) 0) 0) 4) 0) 0 ≤ w 2 (w 28 (w 11 (w 41 f 0) 0) 0) 0 - w 67 (w 11 (w 41 f 0) 0) 0) ∧ r = 5 ∧ w' = w) ∨ (w 3 (w 31 (w 11 (w 41 f 0) 0) 0) 4 ≠ 0 ∧ (w 2 (w 10 (w 3 (w 31 (w 11 (w 41 f 0) 0) 0) 4) 0) 0 ≤ w 2 (w 28 (w 11 (w 41 f 0) 0) 0) 0 - w 67 (w 11 (w 41 f 0) 0) 0) ∧ r = 0 ∧ ∃ x, 0 < x ∧ w 0 x 0 = 0 ∧ w' = g_put f (w 3 (w 31 (w 11 (w 41 f 0) 0) 0) 4) x w)) : PFR p μ f L w A 6 a b r w' := by
  unfold PFR
  have hd : m_does μ 6 a b A = m_puts μ 4 A := by
    unfold m_does
    rw [if_neg (lack_f (by decide)), if_neg (by decide), if_neg (by decide), if_neg (by decide), if_neg (by decide), if_neg (by decide), if_neg (by decide)]
    unfold m_more
    rw [if_neg (by decide), if_neg (by decide), if_pos rfl]
  rw [hd]; exact pf_puts h hR (by decide) hp h00
theorem pfP {p : RP} {μ : MU} {f a b r : Int} {L : List Int} {w w' A : Mm} (h : RLm p μ f L w A) (hR : RBc μ L A) (h00 : w 0 0 0 = 0) (ha : 0 ≤ a ∧ a < 5) (hp : (w 3 (w 31 (w 11 (w 41 f 0) 0) 0) a = 0 ∧ r = 4 ∧ w' = w) ∨ (w 3 (w 31 (w 11 (w 41 f 0) 0) 0) a ≠ 0 ∧ ¬ (w 2 (w 10 (w 3 (w 31 (w 11 (w 41 f 0) 0) 0) a) 0) 0 ≤ w 2 (w 28 (w 11 (w 41 f 0) 0) 0) 0 - w 67 (w 11 (w 41 f 0) 0) 0) ∧ r = 5 ∧ w' = w) ∨ (w 3 (w 31 (w 11 (w 41 f 0) 0) 0) a ≠ 0 ∧ (w 2 (w 10 (w 3 (w 31 (w 11 (w 41 f 0) 0) 0) a) 0) 0 ≤ w 2 (w 28 (w 11 (w 41 f 0) 0) 0) 0 - w 67 (w 11 (w 41 f 0) 0) 0) ∧ r = 0 ∧ ∃ x, 0 < x ∧ w 0 x 0 = 0 ∧ w' = g_put f (w 3 (w 31 (w 11 (w 41 f 0) 0) 0) a) x w)) : PFR p μ f L w A 9 a b r w' := by
  unfold PFR
  have hd : m_does μ 9 a b A = m_puts μ a A := by
    unfold m_does
    rw [if_neg (lack_f (by decide)), if_neg (by decide), if_neg (by decide), if_neg (by decide), if_neg (by decide), if_neg (by decide), if_neg (by decide)]
    unfold m_more
    rw [if_neg (by decide), if_neg (by decide), if_neg (by decide), if_neg (by decide), if_neg (by decide), if_pos rfl]
  rw [hd]; exact pf_puts h hR ha hp h00
theorem dX12_perform_0 : decode cX12_perform 0 = .ok (.iload_n 1, 1) := by decide +kernel
theorem dX12_perform_1 : decode cX12_perform 1 = .ok (.tableswitch 209 1 15 #[75, 94, 100, 106, 112, 118, 124, 141, 146, 153, 170, 186, 192, 198, 204], 75) := by decide +kernel
theorem dX12_perform_76 : decode cX12_perform 76 = .ok (.aload_n 0, 1) := by decide +kernel
theorem dX12_perform_77 : decode cX12_perform 77 = .ok (.new 317, 3) := by decide +kernel
theorem dX12_perform_80 : decode cX12_perform 80 = .ok (.dup, 1) := by decide +kernel
theorem dX12_perform_81 : decode cX12_perform 81 = .ok (.iconst 1, 1) := by decide +kernel
theorem dX12_perform_82 : decode cX12_perform 82 = .ok (.newarray .int, 2) := by decide +kernel
theorem dX12_perform_84 : decode cX12_perform 84 = .ok (.dup, 1) := by decide +kernel
theorem dX12_perform_85 : decode cX12_perform 85 = .ok (.iconst 0, 1) := by decide +kernel
theorem dX12_perform_86 : decode cX12_perform 86 = .ok (.iload_n 2, 1) := by decide +kernel
theorem dX12_perform_87 : decode cX12_perform 87 = .ok (.iastore, 1) := by decide +kernel
theorem dX12_perform_88 : decode cX12_perform 88 = .ok (.invokespecial 424, 3) := by decide +kernel
theorem dX12_perform_91 : decode cX12_perform 91 = .ok (.invokevirtual 427, 3) := by decide +kernel
theorem dX12_perform_94 : decode cX12_perform 94 = .ok (.ireturn, 1) := by decide +kernel
theorem dX12_perform_95 : decode cX12_perform 95 = .ok (.aload_n 0, 1) := by decide +kernel
theorem dX12_perform_96 : decode cX12_perform 96 = .ok (.iload_n 2, 1) := by decide +kernel
theorem dX12_perform_97 : decode cX12_perform 97 = .ok (.invokevirtual 431, 3) := by decide +kernel
theorem dX12_perform_100 : decode cX12_perform 100 = .ok (.ireturn, 1) := by decide +kernel
theorem dX12_perform_101 : decode cX12_perform 101 = .ok (.aload_n 0, 1) := by decide +kernel
theorem dX12_perform_102 : decode cX12_perform 102 = .ok (.iload_n 2, 1) := by decide +kernel
theorem dX12_perform_103 : decode cX12_perform 103 = .ok (.invokevirtual 434, 3) := by decide +kernel
theorem dX12_perform_106 : decode cX12_perform 106 = .ok (.ireturn, 1) := by decide +kernel
theorem dX12_perform_107 : decode cX12_perform 107 = .ok (.aload_n 0, 1) := by decide +kernel
theorem dX12_perform_108 : decode cX12_perform 108 = .ok (.iload_n 2, 1) := by decide +kernel
theorem dX12_perform_109 : decode cX12_perform 109 = .ok (.invokevirtual 437, 3) := by decide +kernel
theorem dX12_perform_112 : decode cX12_perform 112 = .ok (.ireturn, 1) := by decide +kernel
theorem dX12_perform_113 : decode cX12_perform 113 = .ok (.aload_n 0, 1) := by decide +kernel
theorem dX12_perform_114 : decode cX12_perform 114 = .ok (.iload_n 2, 1) := by decide +kernel
theorem dX12_perform_115 : decode cX12_perform 115 = .ok (.invokevirtual 440, 3) := by decide +kernel
theorem dX12_perform_118 : decode cX12_perform 118 = .ok (.ireturn, 1) := by decide +kernel
theorem dX12_perform_119 : decode cX12_perform 119 = .ok (.aload_n 0, 1) := by decide +kernel
theorem dX12_perform_120 : decode cX12_perform 120 = .ok (.iload_n 2, 1) := by decide +kernel
theorem dX12_perform_121 : decode cX12_perform 121 = .ok (.invokevirtual 443, 3) := by decide +kernel
theorem dX12_perform_124 : decode cX12_perform 124 = .ok (.ireturn, 1) := by decide +kernel
theorem dX12_perform_125 : decode cX12_perform 125 = .ok (.aload_n 0, 1) := by decide +kernel
theorem dX12_perform_126 : decode cX12_perform 126 = .ok (.aload_n 0, 1) := by decide +kernel
theorem dX12_perform_127 : decode cX12_perform 127 = .ok (.getfield 10, 3) := by decide +kernel
theorem dX12_perform_130 : decode cX12_perform 130 = .ok (.getfield 223, 3) := by decide +kernel
theorem dX12_perform_133 : decode cX12_perform 133 = .ok (.iconst 4, 1) := by decide +kernel
theorem dX12_perform_134 : decode cX12_perform 134 = .ok (.iconst 0, 1) := by decide +kernel
theorem dX12_perform_135 : decode cX12_perform 135 = .ok (.invokevirtual 312, 3) := by decide +kernel
theorem dX12_perform_138 : decode cX12_perform 138 = .ok (.invokevirtual 427, 3) := by decide +kernel
theorem dX12_perform_141 : decode cX12_perform 141 = .ok (.ireturn, 1) := by decide +kernel
theorem dX12_perform_142 : decode cX12_perform 142 = .ok (.aload_n 0, 1) := by decide +kernel
theorem dX12_perform_143 : decode cX12_perform 143 = .ok (.invokevirtual 446, 3) := by decide +kernel
theorem dX12_perform_146 : decode cX12_perform 146 = .ok (.ireturn, 1) := by decide +kernel
theorem dX12_perform_147 : decode cX12_perform 147 = .ok (.aload_n 0, 1) := by decide +kernel
theorem dX12_perform_148 : decode cX12_perform 148 = .ok (.iload_n 2, 1) := by decide +kernel
theorem dX12_perform_149 : decode cX12_perform 149 = .ok (.iload_n 3, 1) := by decide +kernel
theorem dX12_perform_150 : decode cX12_perform 150 = .ok (.invokevirtual 449, 3) := by decide +kernel
theorem dX12_perform_153 : decode cX12_perform 153 = .ok (.ireturn, 1) := by decide +kernel
theorem dX12_perform_154 : decode cX12_perform 154 = .ok (.aload_n 0, 1) := by decide +kernel
theorem dX12_perform_155 : decode cX12_perform 155 = .ok (.aload_n 0, 1) := by decide +kernel
theorem dX12_perform_156 : decode cX12_perform 156 = .ok (.getfield 10, 3) := by decide +kernel
theorem dX12_perform_159 : decode cX12_perform 159 = .ok (.getfield 223, 3) := by decide +kernel
theorem dX12_perform_162 : decode cX12_perform 162 = .ok (.iload_n 2, 1) := by decide +kernel
theorem dX12_perform_163 : decode cX12_perform 163 = .ok (.iconst 0, 1) := by decide +kernel
theorem dX12_perform_164 : decode cX12_perform 164 = .ok (.invokevirtual 312, 3) := by decide +kernel
theorem dX12_perform_167 : decode cX12_perform 167 = .ok (.invokevirtual 427, 3) := by decide +kernel
theorem dX12_perform_170 : decode cX12_perform 170 = .ok (.ireturn, 1) := by decide +kernel
theorem dX12_perform_171 : decode cX12_perform 171 = .ok (.aload_n 0, 1) := by decide +kernel
theorem dX12_perform_172 : decode cX12_perform 172 = .ok (.iload_n 2, 1) := by decide +kernel
theorem dX12_perform_173 : decode cX12_perform 173 = .ok (.iload_n 3, 1) := by decide +kernel
theorem dX12_perform_174 : decode cX12_perform 174 = .ok (.iconst 1, 1) := by decide +kernel
theorem dX12_perform_175 : decode cX12_perform 175 = .ok (.if_icmp .ne 7, 3) := by decide +kernel
theorem dX12_perform_178 : decode cX12_perform 178 = .ok (.iconst 1, 1) := by decide +kernel
theorem dX12_perform_179 : decode cX12_perform 179 = .ok (.goto 4, 3) := by decide +kernel
theorem dX12_perform_182 : decode cX12_perform 182 = .ok (.iconst 0, 1) := by decide +kernel
theorem dX12_perform_183 : decode cX12_perform 183 = .ok (.invokevirtual 452, 3) := by decide +kernel
theorem dX12_perform_186 : decode cX12_perform 186 = .ok (.ireturn, 1) := by decide +kernel
theorem dX12_perform_187 : decode cX12_perform 187 = .ok (.aload_n 0, 1) := by decide +kernel
theorem dX12_perform_188 : decode cX12_perform 188 = .ok (.iload_n 2, 1) := by decide +kernel
theorem dX12_perform_189 : decode cX12_perform 189 = .ok (.invokevirtual 456, 3) := by decide +kernel
theorem dX12_perform_192 : decode cX12_perform 192 = .ok (.ireturn, 1) := by decide +kernel
theorem dX12_perform_193 : decode cX12_perform 193 = .ok (.aload_n 0, 1) := by decide +kernel
theorem dX12_perform_194 : decode cX12_perform 194 = .ok (.iload_n 2, 1) := by decide +kernel
theorem dX12_perform_195 : decode cX12_perform 195 = .ok (.invokevirtual 459, 3) := by decide +kernel
theorem dX12_perform_198 : decode cX12_perform 198 = .ok (.ireturn, 1) := by decide +kernel
theorem dX12_perform_199 : decode cX12_perform 199 = .ok (.aload_n 0, 1) := by decide +kernel
theorem dX12_perform_200 : decode cX12_perform 200 = .ok (.iload_n 2, 1) := by decide +kernel
theorem dX12_perform_201 : decode cX12_perform 201 = .ok (.invokevirtual 462, 3) := by decide +kernel
theorem dX12_perform_204 : decode cX12_perform 204 = .ok (.ireturn, 1) := by decide +kernel
theorem dX12_perform_205 : decode cX12_perform 205 = .ok (.aload_n 0, 1) := by decide +kernel
theorem dX12_perform_206 : decode cX12_perform 206 = .ok (.invokevirtual 465, 3) := by decide +kernel
theorem dX12_perform_209 : decode cX12_perform 209 = .ok (.ireturn, 1) := by decide +kernel
theorem dX12_perform_210 : decode cX12_perform 210 = .ok (.iconst 0, 1) := by decide +kernel
theorem dX12_perform_211 : decode cX12_perform 211 = .ok (.ireturn, 1) := by decide +kernel
set_option maxRecDepth 4000 in
theorem kX12_perform (γ : LC) (w : Mm) (f cc a b : Int) (p : RP) (μ : MU) (L : List Int) (A : Mm) (h : RLm p μ f L w A) (hR : RBc μ L A) (hcc : 1 ≤ cc ∧ cc ≤ 17) (ha : IR a) (hb : IR b) (hcv : cc ≤ 15 → CV (cc - 1) a b) : KI γ 6 mX12_perform [rv f, .int (I cc), .int (I a), .int (I b)] w (4) (411) (fun r w' => (cc ≤ 15 → PFR p μ f L w A (cc - 1) a b r w') ∧ (15 < cc → r = 0 ∧ w' = w)) NX := by
  refine MX_of rfl rfl (by simp [rv_cat, int_cat]) rfl ?_
  rintro κ hO hF rfl
  have hD := hF.dp
  show X κ (4) (411) w 0 [some (rv f), some (.int (I cc)), some (.int (I a)), some (.int (I b))] []
  refine X_wi fun hWI => ?_
  have h00 := hWI.z0
  obtain ⟨hl, hSB, hVB, hbB, hbT, hLn⟩ := id hR
  have hSB1 : 0 ≤ A 201 0 0 ∧ A 201 0 0 ≤ 400 := hSB.1
  have hDG := h.toDG hSB.2.2.1 (by omega) hSB1.2
  obtain ⟨t0, hFB, -, -⟩ := h.toF
  obtain ⟨lo1, lo2, lo3, lo4, lo5⟩ := h.low
  obtain ⟨⟨tr1, tr2⟩, tr3⟩ := h.toTr
  have hsd := h.1.2.2.1.1.1
  have hbd := h.1.2.2.1.1.2
  obtain ⟨hd, hv, ⟨hs, hz, hbb, hpp, hE⟩, hQ, hNj⟩ := id hDG
  obtain ⟨y0, y1, ⟨y2, y3⟩, ⟨y4, y5⟩, y6, y7, y8⟩ := id hd
  obtain ⟨s0, ⟨s1, s2, s3, s4⟩, ⟨s5, s6, s7⟩, s8⟩ := id hs
  obtain ⟨z1, z2, z3⟩ := id hz
  obtain ⟨v0, v1, ⟨v2, v3⟩, v4, v5, v6⟩ := VB_f hSB.1 hVB
  refine X_iload_n 1 hO dX12_perform_0 rfl rfl ?_
  have hsw_1 : cc = 1 ∨ cc = 2 ∨ cc = 3 ∨ cc = 4 ∨ cc = 5 ∨ cc = 6 ∨ cc = 7 ∨ cc = 8 ∨ cc = 9 ∨ cc = 10 ∨ cc = 11 ∨ cc = 12 ∨ cc = 13 ∨ cc = 14 ∨ cc = 15 ∨ (cc < 1 ∨ 15 < cc) := by omega
  rcases hsw_1 with rfl | rfl | rfl | rfl | rfl | rfl | rfl | rfl | rfl | rfl | rfl | rfl | rfl | rfl | rfl | hsw_1
  ·
    refine X_tabIn (tgt := 76) hO dX12_perform_1 (by omega) (by decide) (by decide) rfl rfl ?_
    obtain ⟨g0, g1, g2, g3, g4, g5, g6, g7, g8, g9, g10⟩ := hcv (by decide)
    have ha0 : 0 ≤ a ∧ a ≤ 126 := g3 (by decide)
    refine X_aload_n 77 hO dX12_perform_76 rfl rfl ?_
    refine n_1 80 hO w_781 (by omega) (by omega) dX12_perform_77 rfl (fun q_77 hq_77 hf_77 => ?_)
    refine X_dup 81 hO dX12_perform_80 rfl (by first | rfl | exact rv_cat _) ?_
    refine X_iconst 82 hO dX12_perform_81 rfl ?_
    refine X_newi 84 hO w_aci (by omega) (by omega) (by omega) dX12_perform_82 rfl (fun q_82 hq_82 hf_82 => ?_)
    refine X_dup 85 hO dX12_perform_84 rfl (by first | rfl | exact rv_cat _) ?_
    refine X_iconst 86 hO dX12_perform_85 rfl ?_
    refine X_iload_n 87 hO dX12_perform_86 rfl rfl ?_
    refine X_iast 88 hO dX12_perform_87 rfl (by first | assumption | omega | (simp (disch := first | decide | assumption | omega) only [up_k, up_s, up_a, up_i, flA_k, flA_a, flA_n, cpA_k, cpA_a, newO_o, newA_o, newO_t, newA_t, newA_n, cpQ_k, cpQ_a] <;> first | assumption | omega)) (by first | assumption | omega | (simp (disch := first | decide | assumption | omega) only [up_k, up_s, up_a, up_i, flA_k, flA_a, flA_n, cpA_k, cpA_a, newO_o, newA_o, newO_t, newA_t, newA_n, cpQ_k, cpQ_a] <;> first | assumption | omega)) (by omega) ?_
    have hne : q_77 ≠ q_82 := fun e => by rw [← e, newO_t] at hf_82; omega
    refine X_kIv 91 hO hD lX12_424 [_] rfl dX12_perform_88 rfl (by assumption) (kX0_init _ _ _ _ hq_77 (by rw [up_k _ (by decide), newA_o hne, newO_t])) (by decide) (by simp [rv_cat, int_cat]) (by first | decide | exact Nat.zero_le _ | omega) (by first | decide | exact Nat.zero_le _ | omega) (fun w_88 hp_88 => ?_) (fun E w_ hx_ => hx_.elim)
    subst w_88
    have hg9 : q_77 ≠ 0 := by omega
    obtain ⟨hu0, hg0⟩ := nch_u (c := pc_ p) (a := a) ⟨hq_77, hf_77⟩ ⟨hq_82, hf_82⟩ h.1.1
    obtain ⟨w0, hw0⟩ : ∃ w0, w0 = up (up (newA (newO w q_77 1) q_82 20 1) 1 q_82 0 a) 10 q_77 0 q_82 := ⟨_, rfl⟩
    rw [← hw0] at hu0 hg0
    refine X_eqW hw0.symm ?_
    have h0 := h.fr0 hl hu0
    have hDG0 := h0.toDG hSB.2.2.1 (by omega) hSB1.2
    obtain ⟨-, -, lw3, lw4, -⟩ := h0.low
    have c13 := h0.toF.1
    refine X_kVi (t := 13) 94 hO hD lX12_427 rfl (by decide) [_] rfl dX12_perform_91 rfl (by first | assumption | omega | (simp (disch := first | decide | assumption | omega) only [up_k, up_s, up_a, up_i, flA_k, flA_a, flA_n, cpA_k, cpA_a, newO_o, newA_o, newO_t, newA_t, newA_n, cpQ_k, cpQ_a] <;> first | assumption | omega)) (kX12_putAtPoint _ _ _ _ c13 hDG0 (Or.inr (h0.chs hg0 (by decide))) (by rw [lw3, lw4]; exact ⟨v0, v1⟩)) (by decide) (by simp [rv_cat, int_cat]) (by first | decide | exact Nat.zero_le _ | omega) (by first | decide | exact Nat.zero_le _ | omega) (fun r_91 w_91 hr_91 hp_91 => ?_) (fun E w_ hx_ => hx_.elim)
    exact X_iret hO hF rfl (by first | exact Or.inl rfl | exact Or.inr ⟨rfl, bi_01 _⟩ | exact Or.inr ⟨rfl, by omega⟩) dX12_perform_94 ⟨_, rfl, (by omega), ⟨fun _ => pf_ins h hR ha0 hu0 hg0 hg9 hp_91, fun z => absurd z (by decide)⟩⟩
  ·
    refine X_tabIn (tgt := 95) hO dX12_perform_1 (by omega) (by decide) (by decide) rfl rfl ?_
    obtain ⟨g0, g1, g2, g3, g4, g5, g6, g7, g8, g9, g10⟩ := hcv (by decide)
    have ha0 : 0 ≤ a ∧ a ≤ 126 := g3 (by decide)
    refine X_aload_n 96 hO dX12_perform_95 rfl rfl ?_
    refine X_iload_n 97 hO dX12_perform_96 rfl rfl ?_
    refine X_kVi (t := 13) 100 hO hD lX12_431 rfl (by decide) [_] rfl dX12_perform_97 rfl (by first | assumption | omega | (simp (disch := first | decide | assumption | omega) only [up_k, up_s, up_a, up_i, flA_k, flA_a, flA_n, cpA_k, cpA_a, newO_o, newA_o, newO_t, newA_t, newA_n, cpQ_k, cpQ_a] <;> first | assumption | omega)) (kX12_putOver _ _ _ _ p μ L A h hR (by omega) v0 v5) (by decide) (by simp [rv_cat, int_cat]) (by first | decide | exact Nat.zero_le _ | omega) (by first | decide | exact Nat.zero_le _ | omega) (fun r_97 w_97 hr_97 hp_97 => ?_) (fun E w_ hx_ => hx_.elim)
    exact X_iret hO hF rfl (by first | exact Or.inl rfl | exact Or.inr ⟨rfl, bi_01 _⟩ | exact Or.inr ⟨rfl, by omega⟩) dX12_perform_100 ⟨_, rfl, (by omega), ⟨fun _ => pf_over h hR ha0.1 hp_97, fun z => absurd z (by decide)⟩⟩
  ·
    refine X_tabIn (tgt := 101) hO dX12_perform_1 (by omega) (by decide) (by decide) rfl rfl ?_
    obtain ⟨g0, g1, g2, g3, g4, g5, g6, g7, g8, g9, g10⟩ := hcv (by decide)
    have ha1 : 1 ≤ a ∧ a ≤ 20 := g4 (by decide)
    refine X_aload_n 102 hO dX12_perform_101 rfl rfl ?_
    refine X_iload_n 103 hO dX12_perform_102 rfl rfl ?_
    refine X_kVi (t := 13) 106 hO hD lX12_434 rfl (by decide) [_] rfl dX12_perform_103 rfl (by first | assumption | omega | (simp (disch := first | decide | assumption | omega) only [up_k, up_s, up_a, up_i, flA_k, flA_a, flA_n, cpA_k, cpA_a, newO_o, newA_o, newO_t, newA_t, newA_n, cpQ_k, cpQ_a] <;> first | assumption | omega)) (kX12_takeBehind _ _ _ _ 400 t0 hDG (by omega) (by rw [lo3]; exact v0) (by rw [lo2, lo4]; exact v5) (by omega)) (by decide) (by simp [rv_cat, int_cat]) (by first | decide | exact Nat.zero_le _ | omega) (by first | decide | exact Nat.zero_le _ | omega) (fun r_103 w_103 hr_103 hp_103 => ?_) (fun E w_ hx_ => hx_.elim)
    exact X_iret hO hF rfl (by first | exact Or.inl rfl | exact Or.inr ⟨rfl, bi_01 _⟩ | exact Or.inr ⟨rfl, by omega⟩) dX12_perform_106 ⟨_, rfl, (by omega), ⟨fun _ => pf_del h hR ha1 hp_103, fun z => absurd z (by decide)⟩⟩
  ·
    refine X_tabIn (tgt := 107) hO dX12_perform_1 (by omega) (by decide) (by decide) rfl rfl ?_
    obtain ⟨g0, g1, g2, g3, g4, g5, g6, g7, g8, g9, g10⟩ := hcv (by decide)
    refine X_aload_n 108 hO dX12_perform_107 rfl rfl ?_
    refine X_iload_n 109 hO dX12_perform_108 rfl rfl ?_
    refine X_kVi (t := 13) 112 hO hD lX12_437 rfl (by decide) [_] rfl dX12_perform_109 rfl (by first | assumption | omega | (simp (disch := first | decide | assumption | omega) only [up_k, up_s, up_a, up_i, flA_k, flA_a, flA_n, cpA_k, cpA_a, newO_o, newA_o, newO_t, newA_t, newA_n, cpQ_k, cpQ_a] <;> first | assumption | omega)) (kX12_goBy _ _ _ _ t0 hd hv (by omega)) (by decide) (by simp [rv_cat, int_cat]) (by first | decide | exact Nat.zero_le _ | omega) (by first | decide | exact Nat.zero_le _ | omega) (fun r_109 w_109 hr_109 hp_109 => ?_) (fun E w_ hx_ => hx_.elim)
    exact X_iret hO hF rfl (by first | exact Or.inl rfl | exact Or.inr ⟨rfl, bi_01 _⟩ | exact Or.inr ⟨rfl, by omega⟩) dX12_perform_112 ⟨_, rfl, (by omega), ⟨fun _ => pf_move h hR hp_109, fun z => absurd z (by decide)⟩⟩
  ·
    refine X_tabIn (tgt := 113) hO dX12_perform_1 (by omega) (by decide) (by decide) rfl rfl ?_
    obtain ⟨g0, g1, g2, g3, g4, g5, g6, g7, g8, g9, g10⟩ := hcv (by decide)
    refine X_aload_n 114 hO dX12_perform_113 rfl rfl ?_
    refine X_iload_n 115 hO dX12_perform_114 rfl rfl ?_
    refine X_kVi (t := 13) 118 hO hD lX12_440 rfl (by decide) [_] rfl dX12_perform_115 rfl (by first | assumption | omega | (simp (disch := first | decide | assumption | omega) only [up_k, up_s, up_a, up_i, flA_k, flA_a, flA_n, cpA_k, cpA_a, newO_o, newA_o, newO_t, newA_t, newA_n, cpQ_k, cpQ_a] <;> first | assumption | omega)) (kX12_goBehind _ _ _ _ t0 hd hv hs hz ha) (by decide) (by simp [rv_cat, int_cat]) (by first | decide | exact Nat.zero_le _ | omega) (by first | decide | exact Nat.zero_le _ | omega) (fun r_115 w_115 hr_115 hp_115 => ?_) (fun E w_ hx_ => hx_.elim)
    exact X_iret hO hF rfl (by first | exact Or.inl rfl | exact Or.inr ⟨rfl, bi_01 _⟩ | exact Or.inr ⟨rfl, by omega⟩) dX12_perform_118 ⟨_, rfl, (by omega), ⟨fun _ => pf_sea h hR hp_115, fun z => absurd z (by decide)⟩⟩
  ·
    refine X_tabIn (tgt := 119) hO dX12_perform_1 (by omega) (by decide) (by decide) rfl rfl ?_
    obtain ⟨g0, g1, g2, g3, g4, g5, g6, g7, g8, g9, g10⟩ := hcv (by decide)
    have ha1 : 1 ≤ a ∧ a ≤ 20 := g4 (by decide)
    refine X_aload_n 120 hO dX12_perform_119 rfl rfl ?_
    refine X_iload_n 121 hO dX12_perform_120 rfl rfl ?_
    refine X_kVi (t := 13) 124 hO hD lX12_443 rfl (by decide) [_] rfl dX12_perform_121 rfl (by first | assumption | omega | (simp (disch := first | decide | assumption | omega) only [up_k, up_s, up_a, up_i, flA_k, flA_a, flA_n, cpA_k, cpA_a, newO_o, newA_o, newO_t, newA_t, newA_n, cpQ_k, cpQ_a] <;> first | assumption | omega)) (kX12_takeToRing _ _ _ _ p μ L A h hR (by omega) v0 v5) (by decide) (by simp [rv_cat, int_cat]) (by first | decide | exact Nat.zero_le _ | omega) (by first | decide | exact Nat.zero_le _ | omega) (fun r_121 w_121 hr_121 hp_121 => ?_) (fun E w_ hx_ => hx_.elim)
    exact X_iret hO hF rfl (by first | exact Or.inl rfl | exact Or.inr ⟨rfl, bi_01 _⟩ | exact Or.inr ⟨rfl, by omega⟩) dX12_perform_124 ⟨_, rfl, (by omega), ⟨fun _ => pf_kil h hR h00 ha1 hp_121, fun z => absurd z (by decide)⟩⟩
  ·
    refine X_tabIn (tgt := 125) hO dX12_perform_1 (by omega) (by decide) (by decide) rfl rfl ?_
    obtain ⟨g0, g1, g2, g3, g4, g5, g6, g7, g8, g9, g10⟩ := hcv (by decide)
    refine X_aload_n 126 hO dX12_perform_125 rfl rfl ?_
    refine X_aload_n 127 hO dX12_perform_126 rfl rfl ?_
    refine gX12_10 130 hO dX12_perform_127 rfl (by first | assumption | omega | (simp (disch := first | decide | assumption | omega) only [up_k, up_s, up_a, up_i, flA_k, flA_a, flA_n, cpA_k, cpA_a, newO_o, newA_o, newO_t, newA_t, newA_n, cpQ_k, cpQ_a] <;> first | assumption | omega)) ?_
    try simp (disch := first | decide | assumption | omega) only [up_k, up_s, up_a, up_i, flA_k, flA_a, flA_n, cpA_k, cpA_a, newO_o, newA_o, newO_t, newA_t, newA_n, cpQ_k, cpQ_a]
    refine gX12_223 133 hO dX12_perform_130 rfl (by first | assumption | omega | (simp (disch := first | decide | assumption | omega) only [up_k, up_s, up_a, up_i, flA_k, flA_a, flA_n, cpA_k, cpA_a, newO_o, newA_o, newO_t, newA_t, newA_n, cpQ_k, cpQ_a] <;> first | assumption | omega)) ?_
    try simp (disch := first | decide | assumption | omega) only [up_k, up_s, up_a, up_i, flA_k, flA_a, flA_n, cpA_k, cpA_a, newO_o, newA_o, newO_t, newA_t, newA_n, cpQ_k, cpQ_a]
    refine X_iconst 134 hO dX12_perform_133 rfl ?_
    refine X_iconst 135 hO dX12_perform_134 rfl ?_
    refine X_kVr (t := 6) 138 hO hD lX12_312 rfl (by decide) [_, _] rfl dX12_perform_135 rfl (by first | assumption | omega | (simp (disch := first | decide | assumption | omega) only [up_k, up_s, up_a, up_i, flA_k, flA_a, flA_n, cpA_k, cpA_a, newO_o, newA_o, newO_t, newA_t, newA_n, cpQ_k, cpQ_a] <;> first | assumption | omega)) (kX5_entry _ _ _ _ _ hs (by omega)) (by decide) (by simp [rv_cat, int_cat]) (by first | decide | exact Nat.zero_le _ | omega) (by first | decide | exact Nat.zero_le _ | omega) (fun r_135 w_135 hp_135 => ?_) (fun E w_ hx_ => hx_.elim)
    obtain ⟨e1_135, e2_135⟩ := hp_135
    subst r_135
    subst w_135
    refine X_kVi (t := 13) 141 hO hD lX12_427 rfl (by decide) [_] rfl dX12_perform_138 rfl (by first | assumption | omega | (simp (disch := first | decide | assumption | omega) only [up_k, up_s, up_a, up_i, flA_k, flA_a, flA_n, cpA_k, cpA_a, newO_o, newA_o, newO_t, newA_t, newA_n, cpQ_k, cpQ_a] <;> first | assumption | omega)) (kX12_putAtPoint _ _ _ _ t0 hDG (h.stc hR (by decide)) (by rw [lo3, lo4]; exact ⟨v0, v1⟩)) (by decide) (by simp [rv_cat, int_cat]) (by first | decide | exact Nat.zero_le _ | omega) (by first | decide | exact Nat.zero_le _ | omega) (fun r_138 w_138 hr_138 hp_138 => ?_) (fun E w_ hx_ => hx_.elim)
    exact X_iret hO hF rfl (by first | exact Or.inl rfl | exact Or.inr ⟨rfl, bi_01 _⟩ | exact Or.inr ⟨rfl, by omega⟩) dX12_perform_141 ⟨_, rfl, (by omega), ⟨fun _ => pfY h hR h00 hp_138, fun z => absurd z (by decide)⟩⟩
  ·
    refine X_tabIn (tgt := 142) hO dX12_perform_1 (by omega) (by decide) (by decide) rfl rfl ?_
    obtain ⟨g0, g1, g2, g3, g4, g5, g6, g7, g8, g9, g10⟩ := hcv (by decide)
    refine X_aload_n 143 hO dX12_perform_142 rfl rfl ?_
    refine X_kVi (t := 13) 146 hO hD lX12_446 rfl (by decide) [] rfl dX12_perform_143 rfl (by first | assumption | omega | (simp (disch := first | decide | assumption | omega) only [up_k, up_s, up_a, up_i, flA_k, flA_a, flA_n, cpA_k, cpA_a, newO_o, newA_o, newO_t, newA_t, newA_n, cpQ_k, cpQ_a] <;> first | assumption | omega)) (kX12_turnRing _ _ _ t0 hd hQ hs hE ⟨tr1, tr2⟩) (by decide) (by simp [rv_cat, int_cat]) (by first | decide | exact Nat.zero_le _ | omega) (by first | decide | exact Nat.zero_le _ | omega) (fun r_143 w_143 hr_143 hp_143 => ?_) (fun E w_ hx_ => hx_.elim)
    exact X_iret hO hF rfl (by first | exact Or.inl rfl | exact Or.inr ⟨rfl, bi_01 _⟩ | exact Or.inr ⟨rfl, by omega⟩) dX12_perform_146 ⟨_, rfl, (by omega), ⟨fun _ => pf_rot h hR h00 hp_143, fun z => absurd z (by decide)⟩⟩
  ·
    refine X_tabIn (tgt := 147) hO dX12_perform_1 (by omega) (by decide) (by decide) rfl rfl ?_
    obtain ⟨g0, g1, g2, g3, g4, g5, g6, g7, g8, g9, g10⟩ := hcv (by decide)
    have ha3 : 0 ≤ a ∧ a < 4 := by have := g6 (by decide); omega
    have ha4 : 0 ≤ a ∧ a < 5 := by omega
    have hb1 : 1 ≤ b ∧ b ≤ 20 := g7 (by decide)
    refine X_aload_n 148 hO dX12_perform_147 rfl rfl ?_
    refine X_iload_n 149 hO dX12_perform_148 rfl rfl ?_
    refine X_iload_n 150 hO dX12_perform_149 rfl rfl ?_
    refine X_kVi (t := 13) 153 hO hD lX12_449 rfl (by decide) [_, _] rfl dX12_perform_150 rfl (by first | assumption | omega | (simp (disch := first | decide | assumption | omega) only [up_k, up_s, up_a, up_i, flA_k, flA_a, flA_n, cpA_k, cpA_a, newO_o, newA_o, newO_t, newA_t, newA_n, cpQ_k, cpQ_a] <;> first | assumption | omega)) (kX12_keepInRegister _ _ _ _ _ p μ L A h hR (by omega) (by omega) v0 v5) (by decide) (by simp [rv_cat, int_cat]) (by first | decide | exact Nat.zero_le _ | omega) (by first | decide | exact Nat.zero_le _ | omega) (fun r_150 w_150 hr_150 hp_150 => ?_) (fun E w_ hx_ => hx_.elim)
    exact X_iret hO hF rfl (by first | exact Or.inl rfl | exact Or.inr ⟨rfl, bi_01 _⟩ | exact Or.inr ⟨rfl, by omega⟩) dX12_perform_153 ⟨_, rfl, (by omega), ⟨fun _ => pf_cop h hR ha3 hb1 hp_150 h00, fun z => absurd z (by decide)⟩⟩
  ·
    refine X_tabIn (tgt := 154) hO dX12_perform_1 (by omega) (by decide) (by decide) rfl rfl ?_
    obtain ⟨g0, g1, g2, g3, g4, g5, g6, g7, g8, g9, g10⟩ := hcv (by decide)
    have ha3 : 0 ≤ a ∧ a < 4 := by have := g6 (by decide); omega
    have ha4 : 0 ≤ a ∧ a < 5 := by omega
    refine X_aload_n 155 hO dX12_perform_154 rfl rfl ?_
    refine X_aload_n 156 hO dX12_perform_155 rfl rfl ?_
    refine gX12_10 159 hO dX12_perform_156 rfl (by first | assumption | omega | (simp (disch := first | decide | assumption | omega) only [up_k, up_s, up_a, up_i, flA_k, flA_a, flA_n, cpA_k, cpA_a, newO_o, newA_o, newO_t, newA_t, newA_n, cpQ_k, cpQ_a] <;> first | assumption | omega)) ?_
    try simp (disch := first | decide | assumption | omega) only [up_k, up_s, up_a, up_i, flA_k, flA_a, flA_n, cpA_k, cpA_a, newO_o, newA_o, newO_t, newA_t, newA_n, cpQ_k, cpQ_a]
    refine gX12_223 162 hO dX12_perform_159 rfl (by first | assumption | omega | (simp (disch := first | decide | assumption | omega) only [up_k, up_s, up_a, up_i, flA_k, flA_a, flA_n, cpA_k, cpA_a, newO_o, newA_o, newO_t, newA_t, newA_n, cpQ_k, cpQ_a] <;> first | assumption | omega)) ?_
    try simp (disch := first | decide | assumption | omega) only [up_k, up_s, up_a, up_i, flA_k, flA_a, flA_n, cpA_k, cpA_a, newO_o, newA_o, newO_t, newA_t, newA_n, cpQ_k, cpQ_a]
    refine X_iload_n 163 hO dX12_perform_162 rfl rfl ?_
    refine X_iconst 164 hO dX12_perform_163 rfl ?_
    refine X_kVr (t := 6) 167 hO hD lX12_312 rfl (by decide) [_, _] rfl dX12_perform_164 rfl (by first | assumption | omega | (simp (disch := first | decide | assumption | omega) only [up_k, up_s, up_a, up_i, flA_k, flA_a, flA_n, cpA_k, cpA_a, newO_o, newA_o, newO_t, newA_t, newA_n, cpQ_k, cpQ_a] <;> first | assumption | omega)) (kX5_entry _ _ _ _ _ hs (by omega)) (by decide) (by simp [rv_cat, int_cat]) (by first | decide | exact Nat.zero_le _ | omega) (by first | decide | exact Nat.zero_le _ | omega) (fun r_164 w_164 hp_164 => ?_) (fun E w_ hx_ => hx_.elim)
    obtain ⟨e1_164, e2_164⟩ := hp_164
    subst r_164
    subst w_164
    rw [Int.add_zero]
    refine X_kVi (t := 13) 170 hO hD lX12_427 rfl (by decide) [_] rfl dX12_perform_167 rfl (by first | assumption | omega | (simp (disch := first | decide | assumption | omega) only [up_k, up_s, up_a, up_i, flA_k, flA_a, flA_n, cpA_k, cpA_a, newO_o, newA_o, newO_t, newA_t, newA_n, cpQ_k, cpQ_a] <;> first | assumption | omega)) (kX12_putAtPoint _ _ _ _ t0 hDG (h.stc hR (by omega)) (by rw [lo3, lo4]; exact ⟨v0, v1⟩)) (by decide) (by simp [rv_cat, int_cat]) (by first | decide | exact Nat.zero_le _ | omega) (by first | decide | exact Nat.zero_le _ | omega) (fun r_167 w_167 hr_167 hp_167 => ?_) (fun E w_ hx_ => hx_.elim)
    exact X_iret hO hF rfl (by first | exact Or.inl rfl | exact Or.inr ⟨rfl, bi_01 _⟩ | exact Or.inr ⟨rfl, by omega⟩) dX12_perform_170 ⟨_, rfl, (by omega), ⟨fun _ => pfP h hR h00 ha4 hp_167, fun z => absurd z (by decide)⟩⟩
  ·
    refine X_tabIn (tgt := 171) hO dX12_perform_1 (by omega) (by decide) (by decide) rfl rfl ?_
    obtain ⟨g0, g1, g2, g3, g4, g5, g6, g7, g8, g9, g10⟩ := hcv (by decide)
    have ha5 : 0 ≤ a ∧ a < 6 := by have := g8 (by decide); omega
    refine X_aload_n 172 hO dX12_perform_171 rfl rfl ?_
    refine X_iload_n 173 hO dX12_perform_172 rfl rfl ?_
    refine X_iload_n 174 hO dX12_perform_173 rfl rfl ?_
    refine X_iconst 175 hO dX12_perform_174 rfl ?_
    refine X_icmp_ne 178 182 hO dX12_perform_175 rfl rfl (by omega) (by omega) (fun hc_175 => ?_) (fun hc_175 => ?_)
    ·
      obtain rfl : b = 0 := by have := g9 (by decide); omega
      refine X_iconst 183 hO dX12_perform_182 rfl ?_
      refine X_kVi (t := 13) 186 hO hD lX12_452 rfl (by decide) [_, _] rfl dX12_perform_183 rfl (by first | assumption | omega | (simp (disch := first | decide | assumption | omega) only [up_k, up_s, up_a, up_i, flA_k, flA_a, flA_n, cpA_k, cpA_a, newO_o, newA_o, newO_t, newA_t, newA_n, cpQ_k, cpQ_a] <;> first | assumption | omega)) (kX12_markPoint _ _ _ _ _ t0 hd hQ hs (by omega) (by decide)) (by decide) (by simp [rv_cat, int_cat]) (by first | decide | exact Nat.zero_le _ | omega) (by first | decide | exact Nat.zero_le _ | omega) (fun r_183 w_183 hr_183 hp_183 => ?_) (fun E w_ hx_ => hx_.elim)
      exact X_iret hO hF rfl (by first | exact Or.inl rfl | exact Or.inr ⟨rfl, bi_01 _⟩ | exact Or.inr ⟨rfl, by omega⟩) dX12_perform_186 ⟨_, rfl, (by omega), ⟨fun _ => pf_mkp h hR ha5 (by decide) hp_183, fun z => absurd z (by decide)⟩⟩
    ·
      have hc_175 : b = 1 := hc_175
      subst hc_175
      refine X_iconst 179 hO dX12_perform_178 rfl ?_
      refine X_goto hO dX12_perform_179 (tgt := 183) rfl ?_
      refine X_kVi (t := 13) 186 hO hD lX12_452 rfl (by decide) [_, _] rfl dX12_perform_183 rfl (by first | assumption | omega | (simp (disch := first | decide | assumption | omega) only [up_k, up_s, up_a, up_i, flA_k, flA_a, flA_n, cpA_k, cpA_a, newO_o, newA_o, newO_t, newA_t, newA_n, cpQ_k, cpQ_a] <;> first | assumption | omega)) (kX12_markPoint _ _ _ _ _ t0 hd hQ hs (by omega) (by decide)) (by decide) (by simp [rv_cat, int_cat]) (by first | decide | exact Nat.zero_le _ | omega) (by first | decide | exact Nat.zero_le _ | omega) (fun r_183 w_183 hr_183 hp_183 => ?_) (fun E w_ hx_ => hx_.elim)
      exact X_iret hO hF rfl (by first | exact Or.inl rfl | exact Or.inr ⟨rfl, bi_01 _⟩ | exact Or.inr ⟨rfl, by omega⟩) dX12_perform_186 ⟨_, rfl, (by omega), ⟨fun _ => pf_mkp h hR ha5 (by decide) hp_183, fun z => absurd z (by decide)⟩⟩
  ·
    refine X_tabIn (tgt := 187) hO dX12_perform_1 (by omega) (by decide) (by decide) rfl rfl ?_
    obtain ⟨g0, g1, g2, g3, g4, g5, g6, g7, g8, g9, g10⟩ := hcv (by decide)
    have ha5 : 0 ≤ a ∧ a < 6 := by have := g8 (by decide); omega
    refine X_aload_n 188 hO dX12_perform_187 rfl rfl ?_
    refine X_iload_n 189 hO dX12_perform_188 rfl rfl ?_
    refine X_kVi (t := 13) 192 hO hD lX12_456 rfl (by decide) [_] rfl dX12_perform_189 rfl (by first | assumption | omega | (simp (disch := first | decide | assumption | omega) only [up_k, up_s, up_a, up_i, flA_k, flA_a, flA_n, cpA_k, cpA_a, newO_o, newA_o, newO_t, newA_t, newA_n, cpQ_k, cpQ_a] <;> first | assumption | omega)) (kX12_unsetMark _ _ _ _ t0 hd hQ hs (by omega)) (by decide) (by simp [rv_cat, int_cat]) (by first | decide | exact Nat.zero_le _ | omega) (by first | decide | exact Nat.zero_le _ | omega) (fun r_189 w_189 hr_189 hp_189 => ?_) (fun E w_ hx_ => hx_.elim)
    exact X_iret hO hF rfl (by first | exact Or.inl rfl | exact Or.inr ⟨rfl, bi_01 _⟩ | exact Or.inr ⟨rfl, by omega⟩) dX12_perform_192 ⟨_, rfl, (by omega), ⟨fun _ => pf_clr h hR ha5 hp_189, fun z => absurd z (by decide)⟩⟩
  ·
    refine X_tabIn (tgt := 193) hO dX12_perform_1 (by omega) (by decide) (by decide) rfl rfl ?_
    obtain ⟨g0, g1, g2, g3, g4, g5, g6, g7, g8, g9, g10⟩ := hcv (by decide)
    have ha5 : 0 ≤ a ∧ a < 6 := by have := g8 (by decide); omega
    refine X_aload_n 194 hO dX12_perform_193 rfl rfl ?_
    refine X_iload_n 195 hO dX12_perform_194 rfl rfl ?_
    refine X_kVi (t := 13) 198 hO hD lX12_459 rfl (by decide) [_] rfl dX12_perform_195 rfl (by first | assumption | omega | (simp (disch := first | decide | assumption | omega) only [up_k, up_s, up_a, up_i, flA_k, flA_a, flA_n, cpA_k, cpA_a, newO_o, newA_o, newO_t, newA_t, newA_n, cpQ_k, cpQ_a] <;> first | assumption | omega)) (kX12_goToMark _ _ _ _ t0 hd hv hs (by omega)) (by decide) (by simp [rv_cat, int_cat]) (by first | decide | exact Nat.zero_le _ | omega) (by first | decide | exact Nat.zero_le _ | omega) (fun r_195 w_195 hr_195 hp_195 => ?_) (fun E w_ hx_ => hx_.elim)
    exact X_iret hO hF rfl (by first | exact Or.inl rfl | exact Or.inr ⟨rfl, bi_01 _⟩ | exact Or.inr ⟨rfl, by omega⟩) dX12_perform_198 ⟨_, rfl, (by omega), ⟨fun _ => pf_jump h hR ha5 hp_195, fun z => absurd z (by decide)⟩⟩
  ·
    refine X_tabIn (tgt := 199) hO dX12_perform_1 (by omega) (by decide) (by decide) rfl rfl ?_
    obtain ⟨g0, g1, g2, g3, g4, g5, g6, g7, g8, g9, g10⟩ := hcv (by decide)
    have ha5 : 0 ≤ a ∧ a < 6 := by have := g8 (by decide); omega
    refine X_aload_n 200 hO dX12_perform_199 rfl rfl ?_
    refine X_iload_n 201 hO dX12_perform_200 rfl rfl ?_
    refine X_kVi (t := 13) 204 hO hD lX12_462 rfl (by decide) [_] rfl dX12_perform_201 rfl (by first | assumption | omega | (simp (disch := first | decide | assumption | omega) only [up_k, up_s, up_a, up_i, flA_k, flA_a, flA_n, cpA_k, cpA_a, newO_o, newA_o, newO_t, newA_t, newA_n, cpQ_k, cpQ_a] <;> first | assumption | omega)) (kX12_beginView _ _ _ _ t0 hd hv hs (by omega)) (by decide) (by simp [rv_cat, int_cat]) (by first | decide | exact Nat.zero_le _ | omega) (by first | decide | exact Nat.zero_le _ | omega) (fun r_201 w_201 hr_201 hp_201 => ?_) (fun E w_ hx_ => hx_.elim)
    exact X_iret hO hF rfl (by first | exact Or.inl rfl | exact Or.inr ⟨rfl, bi_01 _⟩ | exact Or.inr ⟨rfl, by omega⟩) dX12_perform_204 ⟨_, rfl, (by omega), ⟨fun _ => pf_nar h hR ha5 hp_201, fun z => absurd z (by decide)⟩⟩
  ·
    refine X_tabIn (tgt := 205) hO dX12_perform_1 (by omega) (by decide) (by decide) rfl rfl ?_
    obtain ⟨g0, g1, g2, g3, g4, g5, g6, g7, g8, g9, g10⟩ := hcv (by decide)
    refine X_aload_n 206 hO dX12_perform_205 rfl rfl ?_
    refine X_kVi (t := 13) 209 hO hD lX12_465 rfl (by decide) [] rfl dX12_perform_206 rfl (by first | assumption | omega | (simp (disch := first | decide | assumption | omega) only [up_k, up_s, up_a, up_i, flA_k, flA_a, flA_n, cpA_k, cpA_a, newO_o, newA_o, newO_t, newA_t, newA_n, cpQ_k, cpQ_a] <;> first | assumption | omega)) (kX12_endView _ _ _ t0 hd) (by decide) (by simp [rv_cat, int_cat]) (by first | decide | exact Nat.zero_le _ | omega) (by first | decide | exact Nat.zero_le _ | omega) (fun r_206 w_206 hr_206 hp_206 => ?_) (fun E w_ hx_ => hx_.elim)
    exact X_iret hO hF rfl (by first | exact Or.inl rfl | exact Or.inr ⟨rfl, bi_01 _⟩ | exact Or.inr ⟨rfl, by omega⟩) dX12_perform_209 ⟨_, rfl, (by omega), ⟨fun _ => pf_wid h hR hp_206, fun z => absurd z (by decide)⟩⟩
  ·
    refine X_tabOut (tgt := 210) hO dX12_perform_1 (by omega) hsw_1 rfl ?_
    refine X_iconst 211 hO dX12_perform_210 rfl ?_
    exact X_iret hO hF rfl (by first | exact Or.inl rfl | exact Or.inr ⟨rfl, bi_01 _⟩ | exact Or.inr ⟨rfl, by omega⟩) dX12_perform_211 ⟨_, rfl, (by omega), ⟨fun z => absurd z (by omega), fun _ => ⟨rfl, rfl⟩⟩⟩
