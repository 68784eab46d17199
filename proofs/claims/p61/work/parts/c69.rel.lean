/-! what stands first -/
section INI
variable {c : Int → Int} {w A : Mm} {μ : MU} {f N s : Int} {PL : Int → List Int} {G : Int → Int → Int}
theorem AI.sb (hA : AI μ A) (hs : 0 ≤ s ∧ s < 4) : SB s A := by
  refine ⟨?_, fun i i0 i1 => ?_, fun i i0 i1 => ?_, fun i i0 i1 => ?_, fun i i0 i1 => ?_, fun i i0 i1 => ?_⟩
  · unfold bL1; rw [hA.z (by decide)]; decide
  · rw [hA.z (by decide)]; decide
  · rw [hA.z (c := 203) (by decide), hA.z (c := 201) (by decide), hA.2.2.2.1 i (by omega) (by omega)]; exact ⟨by decide, Or.inl rfl⟩
  · rw [hA.z (by decide)]; exact ⟨by decide, by decide, fun _ => by decide⟩
  · rw [hA.z (by decide)]; decide
  · rw [hA.z (by decide)]; decide
theorem AI.vb (hA : AI μ A) : VB s A := by
  refine ⟨?_, fun i i0 i1 => ?_, fun i i0 i1 => ?_, fun _ => ?_, fun z => ?_⟩
  · unfold bV; rw [hA.z (by decide)]; decide
  · rw [hA.z (c := 208) (by decide), hA.z (c := 209) (by decide)]; decide
  · rw [hA.z (c := 210) (by decide)] at i1; omega
  · rw [hA.z (c := 207) (by decide), hA.z (c := 201) (by decide)]; decide
  · rw [hA.z (by decide)] at z; exact absurd rfl z
theorem AI.bb (hA : AI μ A) : bB A := fun i _ _ => by rw [hA.z (by decide)]; decide
theorem AI.tb (hA : AI μ A) : TB μ 1 A := by
  have n124 : A 124 μ.1 0 = 1 := hA.v (by decide) rfl
  have n125 : A 125 μ.1 0 = 1 := hA.v (by decide) rfl
  have n126 : A 126 μ.1 0 = 0 := hA.v (by decide) rfl
  have n128 : A 128 μ.1 0 = 600 := hA.v (by decide) rfl
  have n122 : A 122 μ.1 0 = 0 := hA.v (by decide) rfl
  have n123 : A 123 μ.1 0 = 0 := hA.v (by decide) rfl
  refine ⟨by omega, by omega, by omega, by omega, by omega, by omega, fun k k0 k1 => ?_⟩
  obtain rfl : k = 0 := by omega
  rw [hA.2.2.1.1, hA.2.2.1.2.1, hA.2.2.1.2.2, n124, hA.z (c := 225) (by decide), hA.z (c := 222) (by decide), hA.z (c := 223) (by decide), hA.z (c := 224) (by decide), hA.z (c := 218) (by decide), hA.z (c := 220) (by decide), hA.z (c := 219) (by decide)]
  refine ⟨Or.inr rfl, by decide, fun z => by omega, by decide, by decide, by decide, by decide, by decide, by decide, by decide⟩
theorem AI.sv (hA : AI μ A) (hs : 0 ≤ s ∧ s < 4) : SV 0 0 s A := ⟨hA.sb hs, hA.vb, by rw [hA.z (by decide)]; decide, by rw [hA.z (by decide)]; decide⟩
theorem AI.rb (hA : AI μ A) : RB μ 0 0 1 A := by
  have n120 : A 120 μ.1 0 = 0 := hA.v (by decide) rfl
  have n121 : A 121 μ.1 0 = 0 := hA.v (by decide) rfl
  have n122 : A 122 μ.1 0 = 0 := hA.v (by decide) rfl
  have n123 : A 123 μ.1 0 = 0 := hA.v (by decide) rfl
  have n132 : A 132 μ.1 0 = 0 := hA.v (by decide) rfl
  have n133 : A 133 μ.1 0 = -1 := hA.v (by decide) rfl
  have n130 : A 130 μ.1 0 = 0 := hA.v (by decide) rfl
  have n129 : A 129 μ.1 0 = -1 := hA.v (by decide) rfl
  refine ⟨⟨hA.sb (by decide), hA.vb, hA.bb, fun i _ _ => Or.inl (hA.z (by decide) i), by omega, by omega⟩, ⟨hA.sv (by decide), hA.sv (by decide), hA.sb (by decide), hA.tb, fun i _ _ => by rw [hA.z (by decide)]; decide, fun i _ _ => by rw [hA.z (by decide)]; decide, fun m _ _ => ⟨by rw [hA.z (by decide)]; decide, fun k k0 k1 => by rw [hA.z (by decide)] at k1; omega⟩⟩, ⟨Or.inl n132, by omega, by omega, by omega, fun _ => by omega⟩, fun z => absurd n129 z⟩
theorem AI.al (hA : AI μ A) {k : Int} (h : alv μ A k) : k = 0 := by
  have n124 : A 124 μ.1 0 = 1 := hA.v (by decide) rfl
  have := h.1
  omega
theorem AI.bp (hA : AI μ A) : bPb A := fun j _ => by
  unfold pby
  rw [hA.z (by decide)]
  rcases (show j % 4 = 0 ∨ j % 4 = 1 ∨ j % 4 = 2 ∨ j % 4 = 3 by omega) with e | e | e | e <;> rw [e] <;> decide
theorem rp0_o {c : Nat} {i : Int} (h : c ≠ 127 ∧ c ≠ 226) : m_rp0 μ 0 A c 0 i = m_rini A c 0 i := by
  unfold m_rp0 m_fin fl
  rw [if_neg (fun z => h.2 z.1), up_k _ h.1]
theorem rini_1 : m_rini A 201 0 1 = 0 := by
  unfold m_rini fl
  rw [if_neg (by decide), if_neg (by decide), if_neg (by decide), up_s]
theorem rini_2 {i : Int} (h : 6 ≤ i ∧ i < 12) : m_rini A 202 0 i = -1 := by
  unfold m_rini fl
  rw [if_neg (fun z => absurd z.1 (by decide)), if_neg (fun z => absurd z.1 (by decide)), if_pos ⟨rfl, rfl, h.1, by omega⟩]
theorem rini_4 {i : Int} (h : 5 ≤ i ∧ i < 10) : m_rini A 204 0 i = 0 := by
  unfold m_rini fl
  rw [if_pos ⟨rfl, rfl, h.1, by omega⟩]
theorem AI.rpl (hA : AI μ A) : m_rpl μ PL 0 A = m_rp0 μ 0 A := by
  unfold m_rpl
  rw [RSx_0 hA.tb]; rfl
theorem AI.tx (hA : AI μ A) : TX μ (fun _ => A) G (fun _ => []) A := by
  have n124 : A 124 μ.1 0 = 1 := hA.v (by decide) rfl
  have n126 : A 126 μ.1 0 = 0 := hA.v (by decide) rfl
  have n122 : A 122 μ.1 0 = 0 := hA.v (by decide) rfl
  refine ⟨⟨⟨⟨hA.2.2.1.1, by rw [n126]; exact hA.2.2.1.1, fun k k0 k1 => by omega, hA.2.2.1.2.2⟩, rfl, fun k k0 ka => by have := hA.al ka; omega, fun k ka => ?_, fun k k' q _ _ hq => absurd hq List.not_mem_nil, fun q q0 q1 => by omega, fun q q' q0 q1 q2 => by omega⟩, fun j j0 j1 => Or.inl (hA.2.2.2.2.2 j j0 j1)⟩, fun k ka => ⟨⟨?_, hA.sb (by decide), fun r r0 r1 _ => hA.z (by decide) _⟩, fun z => by have := hA.al ka; omega⟩⟩
  · have e := hA.al ka
    subst e
    unfold RLo
    rw [RSx_0 hA.tb, n122]
    exact ⟨trivial, fun y hy => absurd hy List.not_mem_nil, by decide⟩
  · have e := hA.al ka
    subst e
    rw [hA.rpl]
    show EQv TA 1 1 A (m_rp0 μ 0 A)
    refine ⟨by rw [hA.z (by decide), rp0_o (by decide), rini_1], fun i i0 i1 => by rw [hA.z (by decide)] at i1; omega, fun i i0 i1 => ?_, fun r r0 r1 _ => ⟨by rw [hA.z (by decide), rp0_o (by decide), rini_4 (by omega)], fun e e0 e1 => by rw [hA.z (by decide)] at e1; omega⟩⟩
    rw [hA.2.2.2.1 _ (by omega) (by omega), rp0_o (by decide), rini_2 (by omega)]
    exact ⟨rfl, fun z => absurd rfl z⟩
theorem AI.liv (hA : AI μ A) : LIV μ G A A := by
  have n120 : A 120 μ.1 0 = 0 := hA.v (by decide) rfl
  have n121 : A 121 μ.1 0 = 0 := hA.v (by decide) rfl
  have n122 : A 122 μ.1 0 = 0 := hA.v (by decide) rfl
  have n123 : A 123 μ.1 0 = 0 := hA.v (by decide) rfl
  have hN : lvN μ A = 0 := by unfold lvN; rw [n120, n122]; rfl
  have hL : LVl μ A = [] := by unfold LVl; rw [hN]; rfl
  have hS : SWp A A = A := by funext c a i; unfold SWp; split <;> rfl
  refine ⟨⟨hA.sb (by decide), hA.bb, hA.bp, by omega, by omega, fun j j0 j1 => by omega⟩, ⟨by rw [hL]; trivial, by rw [hL]; exact fun y hy => absurd hy List.not_mem_nil, by rw [hN, n121, n123]; rfl⟩, ?_, ?_, by rw [hN]; trivial⟩
  · rw [hL, hS]
    show EQv (Tkd A) 1 0 A A
    refine ⟨by rw [hA.z (by decide), hA.z (by decide)], fun i i0 i1 => by rw [hA.z (by decide)] at i1; omega, fun i i0 i1 => ?_, fun r r0 r1 _ => ⟨by rw [hA.z (by decide), hA.z (by decide)], fun e e0 e1 => by rw [hA.z (by decide)] at e1; omega⟩⟩
    rw [hA.2.2.2.1 _ (by omega) (by omega), hA.2.2.2.1 _ (by omega) (by omega)]
    exact ⟨rfl, fun z => absurd rfl z⟩
  · rw [hL, hS]
    exact fun r r0 r1 _ => hA.z (by decide) _
theorem AI.ptx (hA : AI μ A) : PTX μ A := by
  refine ⟨fun PL hT k ka => ?_, _, fun _ _ => 0, _, hA.tx⟩
  have e := hA.al ka
  subst e
  rw [hA.rpl, hA.z (by decide), rp0_o (by decide), rini_1]
  decide
theorem AI.ivs (hA : AI μ A) : IVS μ A := by
  have n124 : A 124 μ.1 0 = 1 := hA.v (by decide) rfl
  have n137 : A 137 μ.1 0 = 0 := hA.v (by decide) rfl
  have n129 : A 129 μ.1 0 = -1 := hA.v (by decide) rfl
  refine ⟨⟨fun q q0 q1 => by omega, fun t _ _ => ?_, by omega, fun j _ _ => Or.inl (hA.z (by decide) j)⟩, fun z => absurd n129 z⟩
  rw [hA.z (c := 244) (by decide), hA.z (c := 245) (by decide)]
  decide
theorem AI.chl (hA : AI μ A) : m_chl μ 0 A = 0 := by
  have n124 : A 124 μ.1 0 = 1 := hA.v (by decide) rfl
  unfold m_chl
  rw [n124]
  show 0 + m_chF 0 A 0 = 0
  unfold m_chF bi
  rw [if_neg (by omega)]; rfl
/-- what is made fits the reference as it is made -/
theorem ini_rel (hI : INC c A f N) (hM : MCi c A f 4) (hk : ∀ a, A 0 a 0 = 0 → c a = 0) (hA : AI μ A) : ∃ p, CHB p μ f (lvL p μ A) A A := by
  have n120 : A 120 μ.1 0 = 0 := hA.v (by decide) rfl
  have n122 : A 122 μ.1 0 = 0 := hA.v (by decide) rfl
  have n124 : A 124 μ.1 0 = 1 := hA.v (by decide) rfl
  have n125 : A 125 μ.1 0 = 1 := hA.v (by decide) rfl
  have n126 : A 126 μ.1 0 = 0 := hA.v (by decide) rfl
  have n128 : A 128 μ.1 0 = 600 := hA.v (by decide) rfl
  have n129 : A 129 μ.1 0 = -1 := hA.v (by decide) rfl
  have n130 : A 130 μ.1 0 = 0 := hA.v (by decide) rfl
  have n131 : A 131 μ.1 0 = 0 := hA.v (by decide) rfl
  have n132 : A 132 μ.1 0 = 0 := hA.v (by decide) rfl
  have n133 : A 133 μ.1 0 = -1 := hA.v (by decide) rfl
  obtain ⟨h1, ⟨h2, h3, h4⟩, h5, ⟨⟨t1, ⟨t2, t3, t4, t5⟩, t6, t7, t8, t9⟩, ⟨⟨⟨g1, g2⟩, g3⟩, ⟨g4, g5⟩, ⟨g6, g7⟩, g8, g9, g10, g11, g12⟩⟩, h8, h9, h10, ⟨h11, h12⟩, h13, h14, h15, h16, h17⟩ := hI
  obtain ⟨m1, m2⟩ := hM
  have hl : (rng (A 120 μ.1 0 - A 122 μ.1 0).toNat (A 122 μ.1 0)).map (fun _ : Int => (0 : Int)) = [] := by rw [n120, n122]; rfl
  refine ⟨(c, fun _ => 0, fun _ => N, fun _ => 0, fun _ => A, fun _ _ => 0, fun _ => []), ⟨⟨hk, ⟨h1, ⟨h5.1.1, h5.1.2.1, h5.1.2.2⟩, fun j j0 j1 => ?_, ?_, ?_, ?_, ?_, ?_⟩, ⟨⟨h2.1, h2.2.bd⟩, ⟨h3.1, h3.2.bd⟩, h4.1, h4.2.bd⟩, ⟨⟨t1, ⟨?_, ?_, ?_, ?_⟩, fun i i0 i1 => ?_, fun j j0 j1 => ?_, ?_, ?_, ?_⟩, ⟨fun i i0 i1 => ?_, fun i j i0 i1 i2 => ?_, fun k k0 k1 _ => ?_⟩, fun k k0 k1 ka => ?_⟩, ⟨m1, fun m m0 m1' => (m2 m m0 m1').v hA, h10.v hA⟩, h11, h9⟩, h8.v hA, ⟨h2.2.v hA, ?_, ?_⟩, fun k k0 k1 => by omega⟩, hA.tx, hA.liv⟩
  · rw [(h5.2 j).1, hA.z (by decide)]
  · rw [h13, n133]
  · rw [h14, n132]
  · rw [h15]; unfold bi; rw [if_neg (fun z => z n129)]
  · rw [h16, n131]
  · rw [h17, n130]; rfl
  · rw [t2, n125]
  · rw [t3, n124, n125]; rfl
  · rw [t2, t4]; decide
  · rw [t4]; decide
  · have e : i = 0 := by omega
    rw [e]; exact t5
  · rw [t6 j j0 j1, hA.2.2.2.2.2 j j0 j1, if_pos rfl]
  · exact t7
  · rw [t8, n124]
  · rw [t9, n128]
  · exact ⟨⟨Int.le_refl 0, by rw [n124]; exact Int.zero_lt_one⟩, hA.2.2.1.1⟩
  · omega
  · exact ⟨0, ⟨Int.le_refl 0, by rw [n125]; decide⟩, by show (0 : Int) = k; omega⟩
  · have e : k = 0 := by omega
    subst e
    refine ⟨⟨⟨g1, g2⟩, g3⟩, ⟨g4, g5.v (by decide) hA (by decide)⟩, ⟨g6, g7.q⟩, ⟨?_, ?_, ?_, ?_, Or.inl g12⟩, fun i hi => absurd hi List.not_mem_nil⟩
    · rw [g8, if_pos hA.2.2.1.2.1]
    · rw [g9, hA.chl]
    · rw [g10, hA.z (by decide)]
    · rw [g11, hA.z (by decide)]; rfl
  · show vQs A (A 12 (A 41 f 0) 0) ((rng (A 120 μ.1 0 - A 122 μ.1 0).toNat (A 122 μ.1 0)).map (fun _ : Int => (0 : Int)))
    rw [hl]; exact h2.2.2.2.1.q
  · intro y hy
    have hy' : y ∈ (rng (A 120 μ.1 0 - A 122 μ.1 0).toNat (A 122 μ.1 0)).map (fun _ : Int => (0 : Int)) := hy
    rw [hl] at hy'
    exact absurd hy' List.not_mem_nil
theorem ini_lin (hI : INC c A f N) (hM : MCi c A f 4) (hk : ∀ a, A 0 a 0 = 0 → c a = 0) (hA : AI μ A) (hm : A 0 μ.1 0 = 14) : LIn μ f 0 0 1 A A := by
  refine ⟨ini_rel hI hM hk hA, ⟨?_, ?_⟩, hA.rb, hA.ptx, hA.ivs, ?_, by rw [hm]; decide⟩
  · obtain ⟨-, -, -, -, -, -, -, ⟨-, z⟩, -⟩ := hI
    rw [z.1]; exact (hA.v (c := 134) (by decide) rfl).symm
  · obtain ⟨-, -, -, -, -, -, -, ⟨-, z⟩, -⟩ := hI
    rw [z.2]; exact (hA.v (c := 135) (by decide) rfl).symm
  · funext c a i
    unfold pc
    split <;> rfl
end INI
