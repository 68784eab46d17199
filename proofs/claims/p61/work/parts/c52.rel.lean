/-! PTX after an insertion that is not typing -/
section INP
variable {p : RP} {w A X N B : Mm} {μ : MU} {f c a b S P M v sort : Int}
theorem bPb_cal (h : TLn μ S P M A) (hS : S ≤ 29000) (hP : P ≤ 510000) (hM : M ≤ 599) (hv : CV c a b) (hc : c ≤ 14) : bPb (m_cal μ c a b sort A).2 := by
  have h1 := h.sav (by omega)
  have x5 := h1.x.2.2.2.2
  unfold m_cal
  split
  · exact x5.cong fun i => by dsimp only; exact up_k _ (by decide) _ _ _ _ _
  · have h2 := h1.does (by omega) (by omega) hv hc
    have y5 := h2.x.2.2.2.2
    unfold m_ca1
    split
    · exact y5.cong fun i => by dsimp only; exact up_k _ (by decide) _ _ _ _ _
    · obtain ⟨ρ, G, PL, -, g2, ⟨hB, hK⟩, -⟩ := h2
      obtain ⟨k1, k2, k3⟩ := ends_ok (g := 0) hB hK g2.b0.1.2 (by decide) (by omega) (by omega)
      have k6 : bPb (m_ends μ 0 (m_does μ c a b (m_saves μ 2 A)).2).2 := y5.cong fun i => k3 _ _ _ (by decide)
      unfold m_ca2
      split
      · exact k6.cong fun i => by dsimp only; exact up_k _ (by decide) _ _ _ _ _
      · refine k6.cong fun i => ?_
        show m_ca3 μ c a b (m_ends μ 0 (m_does μ c a b (m_saves μ 2 A)).2).2 213 _ i = _
        unfold m_ca3
        rw [rec_at (by decide), up_k _ (by decide), up_k _ (by decide)]
theorem PTo_insert_nt (h : CHB p μ f (lvL p μ A) w A) (hR : RB μ S P M A) (hS : S ≤ 28900) (hP : P ≤ 500000) (hM : M ≤ 598) (g : PTN μ A) (hC : isC c) (hT : ¬ (m_cty μ c A ∧ ¬ m_full μ A ∧ A 201 0 0 < 400)) : PTX μ (o_insert μ c A).2 := by
  have hcv : CV 0 c 0 := by unfold CV; omega
  have t := (TLn.o9 (v := 0) h hR hM g).1
  have q := t.cal' (c := 0) (a := c) (b := 0) (sort := 2) (by omega) (by omega) (by omega) hcv (by decide)
  have hb := hR.o9 (v := 0) |>.cal (c := 0) (a := c) (b := 0) (sort := 2) hcv (by decide) (by omega) (by omega)
  have h6 := bPb_cal (sort := 2) t (by omega) (by omega) (by omega) hcv (by decide)
  rw [ins_NT hC hT]
  unfold m_in2
  split
  · exact q
  · exact q.fld hb.2.1.2.2.2.1 (by omega) hb.2.1.2.2.1 hb.1.2.2.1 h6 (fun cc y i z => by
      show up (up (up _ 129 μ.1 0 _) 130 μ.1 0 0) 131 μ.1 0 c cc y i = _
      rw [up_k _ (by omega), up_k _ (by omega), up_k _ (by omega)])
end INP
