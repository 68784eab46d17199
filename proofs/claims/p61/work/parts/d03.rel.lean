/-! p61: insert's answer, what a run tells -/
section ANI
variable {μ : MU} {S P M S' P' c a b sort k m had : Int} {w A B : Mm} {q : Int × Mm}
theorem ntf_201 (hL : LB μ S P w) (hK : RK μ S P M w) : (m_ntf μ w).2 201 0 0 = w 201 0 0 := (ntf_rk hL hK).1.2 _ _ _ (by decide) (by decide) (by decide) (by decide) (by decide) (by decide)
theorem ex1_201 : m_ex1 μ c w 201 0 0 = w 201 0 0 + 1 := by
  unfold m_ex1
  rw [pool_at (by decide), up_k _ (by decide), up_k _ (by decide), up_k _ (by decide), opens_201, if_pos rfl]
theorem in3_a : (m_in3 μ c w).1 = w 201 0 0 := rfl
theorem ins_pos (hR : RB μ S P M A) (hS : S ≤ 28900) (hP : P ≤ 500000) (hc : isC c) (h9 : (o_insert μ c A).2 139 μ.1 0 = 0) : 1 ≤ (o_insert μ c A).1 := by
  have hcv : CV 0 c 0 := by unfold CV; omega
  have hR9 : RB μ S P M (m_ti μ (isC c) A) := hR.o9
  have h201 : ∀ n, (m_in2 μ c n (m_cal μ 0 c 0 2 (m_ti μ (isC c) A)).2).2 139 μ.1 0 = 0 → 1 ≤ (m_in2 μ c n (m_cal μ 0 c 0 2 (m_ti μ (isC c) A)).2).1 := fun n z => by
    obtain ⟨⟨b1, b2⟩, ⟨b3, b4⟩, b5, b6, b7⟩ := cal_b hR9 hcv (by decide)
    have hn := does_nn (μ := μ) (c := 0) (a := c) (b := 0) (w := m_saves μ 2 (m_ti μ (isC c) A))
    have l0 : 0 ≤ m_saves μ 2 (m_ti μ (isC c) A) 201 0 0 := b1.1.1.1
    revert z
    unfold m_in2
    split
    · next y => intro z; exact absurd z (by dsimp only; omega)
    · next y =>
      intro _
      rw [in3_a, up_k _ (by decide)]
      revert y
      unfold m_cal
      split
      · intro y; dsimp only at y; rw [up_s] at y; exact absurd (by decide) y
      · unfold m_ca1
        split
        · intro y; dsimp only at y; rw [up_s] at y; exact absurd (by decide) y
        · next y0 =>
          unfold m_ca2
          split
          · intro y; dsimp only at y; rw [up_s] at y; exact absurd (by decide) y
          · next y1 =>
            intro _
            show 1 ≤ m_ca3 μ 0 c 0 (m_ends μ 0 (m_does μ 0 c 0 (m_saves μ 2 (m_ti μ (isC c) A))).2).2 201 0 0
            unfold m_ca3
            rw [rec_at (by decide), up_k _ (by decide), up_k _ (by decide)]
            have hd : (m_does μ 0 c 0 (m_saves μ 2 (m_ti μ (isC c) A))).2 201 0 0 = m_saves μ 2 (m_ti μ (isC c) A) 201 0 0 + 1 := by
              have hz : (m_does μ 0 c 0 (m_saves μ 2 (m_ti μ (isC c) A))).1 = 0 := by omega
              revert hz
              unfold m_does
              rw [if_neg (show ¬ m_lack 0 c 0 (m_saves μ 2 (m_ti μ (isC c) A)) from fun z => by have := z.1; omega), if_pos rfl]
              split
              · intro z; exact absurd z (by dsimp only; decide)
              · intro _
                dsimp only
                unfold m_insC m_pt
                rw [up_k _ (by decide), up_k _ (by decide), ins_len, up_k _ (by decide)]
            revert y1
            unfold m_ends
            split
            · intro _; dsimp only; omega
            · unfold m_en2
              split
              · intro y1; exact absurd rfl y1
              · intro _
                dsimp only
                rw [mks_at2 (by decide), ntf_201 b3 b4]; omega
  revert h9
  unfold o_insert
  rw [if_pos hc]
  split
  · split
    · exact h201 _
    · split
      · next y0 =>
        unfold m_in1
        split
        · intro z; dsimp only at z; rw [up_s] at z; exact absurd z (by decide)
        · next y =>
          intro _
          rw [in3_a, rec_at (by decide), up_k _ (by decide)]
          revert y
          unfold m_ext m_ex4
          split
          · intro y; exact absurd rfl y
          · intro _
            obtain ⟨p1, p2, p3⟩ := cal_pre hR9
            have l2 : m_ti μ (isC c) A 201 0 0 = A 201 0 0 := up_k _ (by decide) _ _ _ _ _
            have l1 : m_saves μ 2 (m_ti μ (isC c) A) 201 0 0 < 400 := by rw [saves_eq, up_k _ (by decide), up_k _ (by decide), cpy_201, if_neg (by decide), l2]; exact y0
            have l0 : 0 ≤ m_saves μ 2 (m_ti μ (isC c) A) 201 0 0 := p1.1.1.1
            dsimp only
            unfold m_ex2
            rw [up_k _ (by decide), up_k _ (by decide), up_k _ (by decide), up_k _ (by decide), up_k _ (by decide), ntf_201 (p1.ex1 (by omega) l1) ((p2.lo (LO.ex1 p1 l1)).mono (S' := S) (P' := P + 1) (by omega) (by omega)), ex1_201]
            omega
      · exact h201 _
  · exact h201 _
/-- a run that failed has a reason and a command, one that didn't has none -/
def FAp (μ : MU) (w : Mm) : Prop := w 134 μ.1 0 = 0 ↔ w 135 μ.1 0 = -1
def FAq (μ : MU) (r : Int) (w : Mm) : Prop := (r = 0 ∧ w 134 μ.1 0 = 0 ∧ w 135 μ.1 0 = -1) ∨ (r ≠ 0 ∧ w 134 μ.1 0 ≠ 0 ∧ 0 ≤ w 135 μ.1 0)
theorem FAq.p {r : Int} (h : FAq μ r w) : FAp μ w := by unfold FAp; rcases h with h | h <;> omega
theorem FAq.fl {r m p : Int} (hr : r ≠ 0) (hm : 0 ≤ m) (hp : 0 ≤ p) : FAq μ r (m_fail μ r m p w) := by
  right
  unfold m_fail
  rw [up_k _ (by decide), up_s, up_s]
  exact ⟨hr, hr, by omega⟩
theorem FAq.cg {r : Int} (h : FAq μ r w) (e4 : A 134 μ.1 0 = w 134 μ.1 0) (e5 : A 135 μ.1 0 = w 135 μ.1 0) : FAq μ r A := by unfold FAq; rw [e4, e5]; exact h
theorem grun_fr : ∀ (n : Nat) (l s t r : Int) (w : Mm), GI μ S P M l s w → 0 ≤ l → FAq μ r w → ∀ R, m_grun μ n l s t r w = some R → FAp μ R.2.2.2
  | 0, l, s, t, r, w, h, _, _, R, e => by cases e
  | n + 1, l, s, t, r, w, h, hl, hF, R, e => by
    rw [grun_step] at e
    by_cases c0 : l ≤ 0 ∨ r ≠ 0
    · rw [if_pos c0] at e; cases e; exact hF.p
    rw [if_neg c0] at e
    have hl1 : 1 ≤ l := by omega
    have hr0 : r = 0 := by omega
    subst hr0
    obtain ⟨i1, i2, i3, i4⟩ := h.f hl1
    have hs := h.2.2.2
    by_cases c1 : w 238 0 l = 0 ∨ w 236 0 (w 237 0 l) = 0
    · rw [if_pos c1] at e
      exact grun_fr n (l - 1) s t 0 w h.pop (by omega) hF R e
    rw [if_neg c1] at e
    by_cases c2 : w 239 0 l = w 236 0 (w 237 0 l)
    · rw [if_pos c2] at e
      exact grun_fr n l s t 0 _ (h.nx hl1 (by omega)) hl (hF.cg (by rw [up_k _ (by decide), up_k _ (by decide)]) (by rw [up_k _ (by decide), up_k _ (by decide)])) R e
    rw [if_neg c2] at e
    by_cases c3 : s = 24
    · rw [if_pos c3] at e
      exact grun_fr n l s t 8 _ h.fl hl (FAq.fl (by decide) i1.1 i3.1) R e
    rw [if_neg c3] at e
    have hOn := h.on hl1 c2 c3
    have h0 : LB μ (S + 2 * s) (P + 20 * s) (m_gpl l w) := h.1.up_o (by decide)
    obtain ⟨hcv, hat, hm4, hp15⟩ := h.cv hl1 c2
    have hFo : FAq μ 0 (m_gpl l w) := hF.cg (up_k _ (by decide) _ _ _ _ _) (up_k _ (by decide) _ _ _ _ _)
    by_cases c4 : w 235 0 (m_gat l w) = 16
    · rw [if_pos c4] at e
      exact grun_fr n l (s + 1) (s + 1) 0 _ hOn.sv hl (hFo.cg (saves_at (by decide)) (saves_at (by decide))) R e
    rw [if_neg c4] at e
    by_cases c5 : w 235 0 (m_gat l w) ≠ 15
    · rw [if_pos c5] at e
      have hc14 : w 235 0 (m_gat l w) ≤ 14 := by have := hcv.1; omega
      have hDs := h.ds c3 hOn h0 hcv hc14
      have hL := LO.does h0 hcv hc14
      have hFd : FAq μ 0 (m_gdo μ l w).2 := hFo.cg (hL.2 _ _ _ (by decide) (by decide)) (hL.2 _ _ _ (by decide) (by decide))
      by_cases c6 : (m_gdo μ l w).1 = 0
      · rw [if_pos c6] at e
        exact grun_fr n l (s + 1) t 0 _ hDs hl hFd R e
      · rw [if_neg c6] at e
        exact grun_fr n l (s + 1) t _ _ hDs.fl hl (FAq.fl c6 i1.1 i3.1) R e
    rw [if_neg c5] at e
    by_cases c7 : l = 5
    · rw [if_pos c7] at e
      exact grun_fr n l (s + 1) t 7 _ hOn.fl hl (FAq.fl (by decide) i1.1 i3.1) R e
    · rw [if_neg c7] at e
      have h15 : (0 ≤ w 235 0 (m_gat l w + 1) ∧ w 235 0 (m_gat l w + 1) ≤ 3) ∧ (1 ≤ w 235 0 (m_gat l w + 2) ∧ w 235 0 (m_gat l w + 2) ≤ 10) := by unfold CV at hcv; omega
      refine grun_fr n (l + 1) (s + 1) t 0 _ (hOn.dn c7 h15.1 (by omega)) (by omega) (hFo.cg ?_ ?_) R e
      · unfold m_gdn; rw [up_k _ (by decide), up_k _ (by decide), up_k _ (by decide)]
      · unfold m_gdn; rw [up_k _ (by decide), up_k _ (by decide), up_k _ (by decide)]
theorem rec_o {cc : Nat} {x i : Int} (h : cc ≠ 235 ∧ cc ≠ 236) : m_rec μ c a b w cc x i = w cc x i := rec_at h
/-- what a run leaves: its answer, how it went, what stays -/
theorem run_all (hR : RB μ S P M A) (hS : S ≤ 28900) (hP : P ≤ 500000) (hf : FAp μ A) : (0 ≤ (o_run μ m k A).1 ∧ (o_run μ m k A).1 ≤ 24) ∧ FAp μ (o_run μ m k A).2 ∧ F7 μ A (o_run μ m k A).2 := by
  have h9 : ∀ v, FAp μ (m_th μ v A) ∧ F7 μ A (m_th μ v A) := fun v => ⟨by unfold FAp m_th; rw [up_k _ (by decide), up_k _ (by decide)]; exact hf, F7.o9⟩
  unfold o_run
  split
  · next hm =>
    split
    · next hk =>
      split
      · exact ⟨by dsimp only; omega, h9 _⟩
      · obtain ⟨q1, q2, q3, q4⟩ := rnW_ok hR hm hk
        have hz := hR.2.2.1.2.2.1.1
        have e0 : ∀ {cc : Nat} {x i : Int}, (cc < 200 ∨ (210 < cc ∧ cc ≠ 214 ∧ cc ≠ 215)) → cc ≠ 139 → m_rnW μ A cc x i = A cc x i := fun z z9 => by
          unfold m_rnW m_th; rw [saves_at z, saves_at z, up_k _ z9]
        obtain ⟨g1, g2, g3, g4, g5, -⟩ := gen_ok q4 (by rw [e0 (by decide) (by decide), e0 (by decide) (by decide)]; exact hz)
        have hfr : FAp μ (m_grR μ m k (m_rnW μ A)).2.2.2 := by
          refine grun_fr _ _ _ _ _ _ q2 (by decide) (Or.inl ⟨rfl, ?_, ?_⟩) _ q3
          · unfold m_gst; rw [up_k _ (by decide), up_s]
          · unfold m_gst; rw [up_s]
        have hfg : FAp μ (m_gen μ (m_grR μ m k (m_rnW μ A))).2 := by
          unfold m_gen
          split
          · unfold FAp at hfr ⊢
            dsimp only
            rw [rest_at (by decide), rest_at (by decide)]; exact hfr
          · exact hfr
        obtain ⟨-, -, n3⟩ := ends_ok (g := 0) g1 g2 g3 (by decide) (by omega) (by omega)
        have hE : FAp μ (m_ends μ 0 (m_gen μ (m_grR μ m k (m_rnW μ A))).2).2 := by
          unfold FAp at hfg ⊢
          rw [n3 _ _ _ (by decide), n3 _ _ _ (by decide)]; exact hfg
        have h7 : F7 μ A (m_ends μ 0 (m_gen μ (m_grR μ m k (m_rnW μ A))).2).2 := fun cc z aa ii => by
          rw [n3 _ _ _ (by rcases z with rfl | rfl | rfl <;> decide), g4 _ _ _ (by rcases z with rfl | rfl | rfl <;> decide), e0 (by omega) (by omega)]
        unfold m_rn1 m_rn2
        split
        · refine ⟨by dsimp only; omega, ?_, fun cc z aa ii => ?_⟩
          · unfold FAp at hf ⊢
            dsimp only
            rw [up_k _ (by decide), up_k _ (by decide), up_s, up_k _ (by decide), up_s]; exact hf
          · dsimp only
            rw [up_k _ (by omega), up_k _ (by omega), up_k _ (by omega)]; exact h7 cc z aa ii
        · refine ⟨g5, ?_, fun cc z aa ii => ?_⟩
          · unfold FAp at hE ⊢
            dsimp only
            rw [rec_at (by decide), rec_at (by decide), up_k _ (by decide), up_k _ (by decide)]; exact hE
          · dsimp only
            rw [rec_at (by omega), up_k _ (by omega)]; exact h7 cc z aa ii
    · exact ⟨by dsimp only; omega, h9 _⟩
  · exact ⟨by dsimp only; omega, h9 _⟩
end ANI
