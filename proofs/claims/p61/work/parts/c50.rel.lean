/-! PTX through track -/
section PTT
variable {p : RP} {w A A' : Mm} {μ : MU} {f S P M s v : Int} {PL : Int → List Int} {ρ : Int → Mm} {G : Int → Int → Int}
theorem TLn.trk (h : TLn μ S P M A) (hM : M ≤ 600) (hs : 0 ≤ s ∧ s < 5) (hT0 : A 211 0 s ≠ 1) (hP : P ≤ 519900) (hB' : LB μ (S + 1) (P + 85) (up (m_tells μ s A) 211 0 s 1)) (hK' : RK μ (S + 1) (P + 85) M (up (m_tells μ s A) 211 0 s 1)) : TLn μ (S + 1) (P + 85) M (up (m_tells μ s A) 211 0 s 1) := by
  obtain ⟨ρ, G, PL, h1, h2, ⟨hB, hK⟩, h4, h5⟩ := h
  have hT := hK.2.2.2.1
  have hl := h2.b0.1
  have hN := hB.2.2.2.2
  have hap := ap_tells (μ := μ) (s := s) (A := A)
  have e : ∀ {c : Nat} {x i : Int}, c ≠ 212 ∧ c ≠ 120 ∧ c ≠ 213 ∧ c ≠ 121 → m_tells μ s A c x i = A c x i := fun z => tells_at z
  have u0 : ∀ {c : Nat} {x i : Int}, c ≠ 211 → up (m_tells μ s A) 211 0 s 1 c x i = m_tells μ s A c x i := fun z => up_k _ z _ _ _ _ _
  have hLV := h2.tel (G' := G) ⟨hN.2.1, by have := hN.2.2; omega⟩ hB.1 hs hT0 (fun _ _ _ => rfl)
  have t : TSx μ A (m_tells μ s A) := TSx.of (fun c a i z => e (by omega)) (fun i i0 i1 => by rw [tells_212 (by omega), if_neg (by omega)]) (fun j j0 j1 => hap.2.2.2 j j0 (by omega))
  have h6 : bPb (m_tells μ s A) := hLV.b0.2.2.1.cong fun i => (u0 (by decide)).symm
  have hT1 : TB μ M (m_tells μ s A) := hT.cong fun c a i z => e (by omega)
  have s1 : SB 1 (m_tells μ s A) := hK.2.2.1.cong fun c a i y z => e (by omega)
  have s2 : bB (m_tells μ s A) := hB.2.2.1.cong fun i => e (by decide)
  have x1 := h1.app hT hM hK.2.2.1 hB.2.2.1 h2.b0.2.2.1 t h6 (fun _ _ _ => rfl) (G' := G)
  have x2 := x1.trk (s := s) (v := 1) hT1 hM s1 s2 h6 (Or.inl rfl)
  have g1 := h4.app h1 hT hT1 hM hK.2.2.1 hB.2.2.1 h2.b0.2.2.1 t h6
  have g2 : PTN μ (up (m_tells μ s A) 211 0 s 1) := g1.tx x1 hT1 x2 hK'.2.2.2.1 (fun k hk => ⟨by unfold alv at hk ⊢; rw [u0 (by decide), u0 (by decide)] at hk; exact hk, by rw [u0 (by decide)]; exact Int.le_refl _⟩)
  refine ⟨ρ, G, PL, x2, ?_, ⟨hB', hK'⟩, g2, ?_⟩
  · rw [u0 (c := 126) (by decide), e (c := 126) (by decide)]; exact hLV
  · rw [u0 (by decide), u0 (by decide), e (c := 123) (by decide)]
    have := hap.2.1; omega
theorem PTo_track (h : CHB p μ f (lvL p μ A) w A) (hR : RB μ S P M A) (hS : S ≤ 28900) (hP : P ≤ 500000) (hM : M ≤ 598) (g : PTN μ A) : PTX μ (o_track μ s A) := by
  unfold o_track
  split
  · next hs =>
    split
    · exact h.p9 hR hM g
    · next hg =>
      obtain ⟨q0, q1, q2, q3⟩ := trW_ok hs hR
      have q2' := q2.mono (S' := S + 1) (P' := P + 85) (by omega) (by omega)
      have e1 : ∀ {c : Nat} {x i : Int}, c ≠ 139 → c < 200 ∨ (210 < c ∧ c ≠ 214 ∧ c ≠ 215) → m_saves μ 2 (m_th μ 0 A) c x i = A c x i := fun y z => by rw [saves_at z, th_at y]
      have t1 : TLn μ S P M (m_saves μ 2 (m_th μ 0 A)) := (TLn.o9 (v := 0) h hR hM g).1.sav (by omega)
      rw [trW_eq] at q1 q2'
      have t2 := t1.trk (by omega) (by omega) (by rw [e1 (by decide) (by decide)]; exact hg) (by omega) q1 q2'
      have z := t2.ends (g := 0) (by omega) (by omega) (by omega) (by decide)
      have hz3 := hR.2.2.1.2.2.1
      have q3' := q3
      rw [trW_eq] at q3'
      obtain ⟨x1, x2, x3⟩ := ends_ok (g := 0) q1 q2' q3' (by decide) (by omega) (by omega)
      have h6 : bPb (m_ends μ 0 (up (m_tells μ s (m_saves μ 2 (m_th μ 0 A))) 211 0 s 1)).2 := t2.x.2.2.2.2.cong fun i => x3 _ _ _ (by decide)
      rw [trW_eq]
      unfold m_tr1
      split
      · rename_i y
        have ew : ∀ {c : Nat} {x i : Int}, c ≠ 211 ∧ c ≠ 212 ∧ c ≠ 120 ∧ c ≠ 213 ∧ c ≠ 121 ∧ c ≠ 139 → c < 200 ∨ (210 < c ∧ c ≠ 214 ∧ c ≠ 215) → up (m_tells μ s (m_saves μ 2 (m_th μ 0 A))) 211 0 s 1 c x i = A c x i := fun y z => by
          rw [up_k _ y.1, tells_at ⟨y.2.1, y.2.2.1, y.2.2.2.1, y.2.2.2.2.1⟩, e1 y.2.2.2.2.2 z]
        rcases ends_cases μ 0 (up (m_tells μ s (m_saves μ 2 (m_th μ 0 A))) 211 0 s 1) with ⟨e, -⟩ | ⟨e, -⟩ | ⟨e, -⟩
        · rw [e] at y; exact absurd y (by show ¬ ((1 : Int) = 0); decide)
        · rw [e] at h6 x2 ⊢
          dsimp only at h6 x2
          obtain ⟨hN, hB', hK', -⟩ := ntf_rk q1 q2'
          have l123 : up (m_tells μ s (m_saves μ 2 (m_th μ 0 A))) 211 0 s 1 123 μ.1 0 ≤ up (m_tells μ s (m_saves μ 2 (m_th μ 0 A))) 211 0 s 1 121 μ.1 0 := by
            obtain ⟨_, _, _, _, _, _, _, q⟩ := t2; exact q
          obtain ⟨hts, hap⟩ := ntf_ts q1 q2' q3' l123
          have hap1 := ap_tells (μ := μ) (s := s) (A := m_saves μ 2 (m_th μ 0 A))
          have f120 := e1 (c := 120) (x := μ.1) (i := 0) (by decide) (by decide)
          have f121 := e1 (c := 121) (x := μ.1) (i := 0) (by decide) (by decide)
          have w122 := ew (c := 122) (x := μ.1) (i := 0) (by decide) (by decide)
          have w123 := ew (c := 123) (x := μ.1) (i := 0) (by decide) (by decide)
          have en : ∀ {c : Nat} {x i : Int}, (c < 200 ∧ c ≠ 120 ∧ c ≠ 121 ∧ c ≠ 139) ∨ (210 < c ∧ c ≠ 211 ∧ c ≠ 212 ∧ c ≠ 213 ∧ c ≠ 214 ∧ c ≠ 215 ∧ (c < 232 ∨ 234 < c)) → up (up (m_rest μ 2 1 (m_ntf μ (up (m_tells μ s (m_saves μ 2 (m_th μ 0 A))) 211 0 s 1)).2) 211 0 s 0) 139 μ.1 0 2 c x i = A c x i := fun z => by
            rw [up_k _ (by omega), up_k _ (by omega), rest_at (by omega), hN.2 _ _ _ (by omega) (by omega) (by omega) (by omega) (by omega) (by omega), ew (by omega) (by omega)]
          refine PTX.app ⟨g, _, _, _, h.2.1⟩ hR.2.1.2.2.2.1 (hR.2.1.2.2.2.1.cong fun c a i q => en (by omega)) (by omega) hR.2.1.2.2.1 hR.1.2.2.1 h.2.2.1.2.2.1 (TSx.of (fun c a i q => ?_) (fun i i0 i1 => ?_) (fun j j0 j1 => ?_)) (h6.cong fun i => ?_)
          · by_cases c1 : c = 211
            · subst c1
              show up (up (m_rest μ 2 1 (m_ntf μ (up (m_tells μ s (m_saves μ 2 (m_th μ 0 A))) 211 0 s 1)).2) 211 0 s 0) 139 μ.1 0 2 211 a i = A 211 a i
              rw [up_k _ (by decide)]
              by_cases c2 : a = 0 ∧ i = s
              · rw [c2.1, c2.2, up_s]
                have := hR.1.2.2.2.1 s (by omega) (by omega)
                omega
              · have e5 : ∀ (V : Mm) (u : Int), up V 211 0 s u 211 a i = V 211 a i := fun V u => by simp only [up]; rw [if_neg (by omega)]
                rw [e5, rest_at (by decide), hN.2 _ _ _ (by decide) (by decide) (by decide) (by decide) (by decide) (by decide), e5, tells_at (by decide), e1 (by decide) (by decide)]
            · exact en (by omega)
          · show up (up (m_rest μ 2 1 (m_ntf μ (up (m_tells μ s (m_saves μ 2 (m_th μ 0 A))) 211 0 s 1)).2) 211 0 s 0) 139 μ.1 0 2 212 0 i = A 212 0 i
            rw [up_k _ (by decide), up_k _ (by decide), rest_at (by decide), hts.1.2.2.1 i i0 (by omega), up_k _ (by decide), hap1.2.2.1 i i0 (by omega), e1 (by decide) (by decide)]
          · refine (pby_cong (w := (m_ntf μ (up (m_tells μ s (m_saves μ 2 (m_th μ 0 A))) 211 0 s 1)).2) ?_).trans ((hts.1.2.2.2 j j0 (by omega)).trans ((pby_cong (w := m_tells μ s (m_saves μ 2 (m_th μ 0 A))) (up_k _ (by decide) _ _ _ _ _)).trans ((hap1.2.2.2 j j0 (by omega)).trans (pby_cong (e1 (by decide) (by decide))))))
            show up (up (m_rest μ 2 1 (m_ntf μ (up (m_tells μ s (m_saves μ 2 (m_th μ 0 A))) 211 0 s 1)).2) 211 0 s 0) 139 μ.1 0 2 213 0 (j / 4) = _
            rw [up_k _ (by decide), up_k _ (by decide), rest_at (by decide)]
          · show up (up (m_rest μ 2 1 (m_ntf μ (up (m_tells μ s (m_saves μ 2 (m_th μ 0 A))) 211 0 s 1)).2) 211 0 s 0) 139 μ.1 0 2 213 _ i = _
            rw [up_k _ (by decide), up_k _ (by decide)]
        · rw [e] at y; exact absurd y (by show ¬ ((1 : Int) = 0); decide)
      · exact z.fld x2.2.2.2.1 (by omega) x2.2.2.1 x1.2.2.1 h6 (fun c y i q => up_k _ (by omega) _ _ _ _ _)
  · exact h.p9 hR hM g
end PTT
