/-! IVS through track and run -/
section IVT
variable {A B X : Mm} {μ : MU} {S P M c k m a b s v : Int}
theorem tyg_t1 : TYg μ A (up A 211 0 s v) := ⟨fun k z => up_k _ (by omega) _ _ _ _ _, fun k i z1 z2 => up_k _ (by omega) _ _ _ _ _, fun i _ _ => up_k _ (by decide) _ _ _ _ _, up_k _ (by decide) _ _ _ _ _⟩
theorem ap_tells : AP μ A (m_tells μ s A) := by
  have key : ∀ (n : Nat) (b : Mm) (w1 w2 : Mm), AP μ w1 w2 → AP μ w1 (m_tel μ s b n w2) := fun n b w1 => by
    induction n with
    | zero => exact fun w2 h => h
    | succ n ih => exact fun w2 h => AP.pEn (AP.pool (ih w2 h))
  exact key _ _ _ _ (AP.pool (AP.step AP.r))
theorem IVo_track (h : IVS μ A) (hR : RB μ S P M A) (hS : S ≤ 28900) (hP : P ≤ 500000) : IVS μ (o_track μ s A) := by
  have hz := hR.2.2.1.2.2.1
  unfold o_track
  split
  · next hs =>
    split
    · exact h.o9 hR
    · obtain ⟨q0, q1, q2, q3⟩ := trW_ok hs hR
      have eW : ∀ {c : Nat} {a i : Int}, c < 200 ∨ (211 < c ∧ c ≠ 214 ∧ c ≠ 215) → c ≠ 139 → c ≠ 212 → c ≠ 120 → c ≠ 213 → c ≠ 121 → m_trW μ s A c a i = A c a i := fun x y x1 x2 x3 x4 => by
        unfold m_trW; rw [tells_at ⟨x1, x2, x3, x4⟩, up_k _ (by omega), saves_at (by omega), th_at y]
      have e120 : m_trW μ s A 120 μ.1 0 = A 120 μ.1 0 + 1 := by unfold m_trW; rw [tells_120, up_k _ (by decide), saves_at (by decide), th_at (by decide)]
      have e121 : A 121 μ.1 0 ≤ m_trW μ s A 121 μ.1 0 := by
        have := (ap_tells (μ := μ) (s := s) (A := up (m_saves μ 2 (m_th μ 0 A)) 211 0 s 1)).2.1
        rw [up_k _ (by decide), saves_at (by decide), th_at (by decide)] at this
        exact this
      have h1 : IVn μ (m_trW μ s A) := h.1.cg fun c y i z => eW (by omega) (by omega) (by omega) (by omega) (by omega) (by omega)
      have q2' := q2.mono (S' := S + 1) (P' := P + 85) (by omega) (by omega)
      have h2 := h1.ends (g := 0) q1 q2' q3
      have hg : RSg μ A (m_trW μ s A) := by
        refine ⟨⟨?_, ?_, ?_⟩, fun c z => ?_, fun c i z1 z2 => eW (by omega) (by omega) (by omega) (by omega) (by omega) (by omega), fun i i0 i1 => ?_⟩
        · unfold m_trW; rw [tells_at (by decide), up_k _ (by decide), saves_214.1, th_at (by decide)]
        · unfold m_trW; rw [tells_at (by decide), up_k _ (by decide), saves_214.2, th_at (by decide)]
        · unfold m_trW; rw [tells_at (by decide), up_k _ (by decide), saves_eq, up_k _ (by decide), up_k _ (by decide), cpy_207, if_pos rfl, th_at (by decide)]
        · exact eW (by omega) (by omega) (by omega) (by omega) (by omega) (by omega)
        · have e : up (m_saves μ 2 (m_th μ 0 A)) 211 0 s 1 120 μ.1 0 = A 120 μ.1 0 := by rw [up_k _ (by decide), saves_at (by decide), th_at (by decide)]
          unfold m_trW; rw [tells_212 (by omega), if_neg (by omega), up_k _ (by decide), saves_at (by decide), th_at (by decide)]
      unfold m_tr1
      split
      · rename_i z
        refine ⟨h2.cg fun c y i z => by rw [up_k _ (by omega), up_k _ (by omega)], h.2.tg hR.2.2.2 ?_⟩
        rcases ends_cases μ 0 (m_trW μ s A) with ⟨e, -⟩ | ⟨e, -⟩ | ⟨e, -⟩
        · rw [e] at z; exact absurd z (by show ¬ ((1 : Int) = 0); decide)
        · rw [e]
          have e123 := eW (c := 123) (a := μ.1) (i := 0) (by decide) (by decide) (by decide) (by decide) (by decide) (by decide)
          exact ((hg.ntf q1 q2' (by omega) q3 (by omega)).tg.t tyg_t1).t TYg.o9
        · rw [e] at z; exact absurd z (by show ¬ ((1 : Int) = 0); decide)
      · exact h2.off (fun c y i z => up_k _ (by omega) _ _ _ _ _) (up_s _ _ _ _ _)
  · exact h.o9 hR
theorem IVo_run (h : IVS μ A) (hR : RB μ S P M A) (hS : S ≤ 28900) (hP : P ≤ 500000) : IVS μ (o_run μ m k A).2 := by
  have hz := hR.2.2.1.2.2.1
  unfold o_run
  split
  · next hm =>
    split
    · next hk =>
      split
      · exact h.o9 hR
      · obtain ⟨r1, r2, r3, r4⟩ := rnW_ok hR hm hk
        have eW : ∀ {c : Nat} {a i : Int}, c < 200 ∨ (210 < c ∧ c ≠ 214 ∧ c ≠ 215) → c ≠ 139 → m_rnW μ A c a i = A c a i := fun x y => by
          unfold m_rnW; rw [saves_at x, saves_at x, th_at y]
        have z0 : m_rnW μ A 122 μ.1 0 ≤ m_rnW μ A 120 μ.1 0 := by rw [eW (by decide) (by decide), eW (by decide) (by decide)]; exact hz.1
        obtain ⟨g1, g2, g3, g4, g5, g6, g7, g8, g9, g10⟩ := gen_ok r4 z0
        have g207 : (m_gen μ (m_grR μ m k (m_rnW μ A))).2 207 0 2 = m_rnW μ A 207 0 2 := by
          have e := r4.2.1.2.1 207 2 (by decide) (by decide) (by decide) (by decide)
          unfold m_gen
          split
          · dsimp only; rw [rest_eq, up_k _ (by decide), up_k _ (by decide), cpy_207, if_neg (by decide)]; exact e
          · exact e
        have a121 : m_rnW μ A 121 μ.1 0 ≤ (m_gen μ (m_grR μ m k (m_rnW μ A))).2 121 μ.1 0 := by
          unfold m_gen
          split
          · dsimp only; rw [rest_120.2]; exact r4.2.1.2.2.2.2.2
          · exact r4.2.1.2.2.2.1.2.1
        have e120 := eW (c := 120) (a := μ.1) (i := 0) (by decide) (by decide)
        have e121 := eW (c := 121) (a := μ.1) (i := 0) (by decide) (by decide)
        have v123 : (m_gen μ (m_grR μ m k (m_rnW μ A))).2 123 μ.1 0 = A 123 μ.1 0 := by rw [g4 _ _ _ (by decide), eW (by decide) (by decide)]
        have gf : ∀ {c : Nat}, (122 ≤ c ∧ c ≤ 124) ∨ c = 126 ∨ c = 129 ∨ c = 132 ∨ (218 ≤ c ∧ c ≤ 223) ∨ c = 137 ∨ c = 228 → gfK c = false := fun z => by unfold gfK; exact decide_eq_false (by omega)
        have hn : IVn μ (m_gen μ (m_grR μ m k (m_rnW μ A))).2 := h.1.cg fun c y i z => by
          rw [g4 _ _ _ (by rcases z with rfl | rfl | rfl | rfl | rfl | rfl <;> decide), eW (by omega) (by omega)]
        have hg : RSg μ A (m_gen μ (m_grR μ m k (m_rnW μ A))).2 := by
          refine ⟨⟨?_, ?_, ?_⟩, fun c z => ?_, fun c i z1 z2 => ?_, fun i i0 i1 => ?_⟩
          · rw [g8]; unfold m_rnW; rw [saves_eq, up_k _ (by decide), up_i _ _ _ _ _ _ (by decide), cpy_at (by decide), saves_214.1, th_at (by decide)]
          · rw [g9]; unfold m_rnW; rw [saves_eq, up_i _ _ _ _ _ _ (by decide), up_k _ (by decide), cpy_at (by decide), saves_214.2, th_at (by decide)]
          · rw [g207]; unfold m_rnW; rw [saves_eq, up_k _ (by decide), up_k _ (by decide), cpy_207, if_neg (by decide), saves_eq, up_k _ (by decide), up_k _ (by decide), cpy_207, if_pos rfl, th_at (by decide)]
          · rw [g4 _ _ _ (gf (by omega)), eW (by omega) (by omega)]
          · rw [g4 _ _ _ (gf (by omega)), eW (by omega) (by omega)]
          · rw [g7 i i0 (by omega), eW (by decide) (by decide)]
        unfold m_rn1
        generalize m_gen μ (m_grR μ m k (m_rnW μ A)) = Q at *
        have h2 := hn.ends (g := 0) g1 g2 g3
        unfold m_rn2
        split
        · rename_i z
          refine ⟨h2.cg fun c y i z => by dsimp only; rw [up_k _ (by omega), up_k _ (by omega), up_k _ (by omega)], h.2.tg hR.2.2.2 ?_⟩
          rcases ends_cases μ 0 Q.2 with ⟨e, -⟩ | ⟨e, -⟩ | ⟨e, -⟩
          · rw [e] at z; exact absurd z (by show ¬ ((1 : Int) = 0); decide)
          · rw [e]
            exact (((hg.ntf g1 g2 (by omega) g3 (by omega)).tg.t (TYg.up (by decide))).t (TYg.up (by decide))).t TYg.o9
          · rw [e] at z; exact absurd z (by show ¬ ((1 : Int) = 0); decide)
        · exact h2.off (fun c y i z => by dsimp only; rw [rec_at (by omega), up_k _ (by omega)]) (by dsimp only; rw [rec_at (by decide), up_s])
    · exact h.o9 hR
  · exact h.o9 hR
end IVT
