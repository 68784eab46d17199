/-! bookmarks, entries, stored characters, where a line begins -/
section QRE
variable {γ : LC} {p : RP} {w A V : Mm} {μ : MU} {f c k S P M r v i j e s q : Int} {C : Int → Int}
theorem q_bookmarkAt (h : CHB p μ f (lvL p μ A) w A) (hWI : WI w) (hR : RB μ S P M A) (hM : M ≤ 598) (hc : IR c) : KI γ 7 mX12_bookmarkAt [rv f, .int (I c)] w 1 6 (QP μ f w (o_bookmarkAt μ c A)) (QX1 μ f w (o_bookmarkAt μ c A) "java/lang/IndexOutOfBoundsException") := by
  have hT := hR.2.1.2.2.2.1
  have v6 := h.1.1.2.2.2.1.1.2.2.2.1
  have hb5 : ∀ i, 0 ≤ i → i < 5 → w 3 (w 39 (w 45 f 0) 0) i = 0 ∨ w 0 (w 3 (w 39 (w 45 f 0) 0) i) 0 = 5 := fun i i0 i1 => by
    rw [v6 i i0 i1]
    rcases h.2.1.1.2 i i0 i1 with z | z
    · exact Or.inl (if_pos z)
    · rw [if_neg (by have := z.1; omega)]; exact Or.inr (h.1.tg5 z).1
  refine (kX12_bookmarkAt γ w f c h.1.toF.1 (trt_of h hWI hT) hb5 hc).imp (fun r w' z => ?_) (fun E w' z => ?_)
  · obtain ⟨z1, z2, z3⟩ := z
    have hp : 0 ≤ c ∧ c ≤ 4 := by omega
    rw [z3]; unfold o_bookmarkAt m_ti; rw [if_pos hp, if_pos hp]
    refine h.q0 hR hM ?_
    rw [z2, v6 c z1.1 z1.2]
    rcases h.2.1.1.2 c z1.1 z1.2 with y | y
    · rw [if_pos y, y]; rfl
    · rw [if_neg (by have := y.1; omega)]; exact nb_of h hWI y
  · obtain ⟨z1, z2, z3⟩ := z
    have hp : ¬ (0 ≤ c ∧ c ≤ 4) := by omega
    rw [z3, z1]; unfold o_bookmarkAt m_ti; rw [if_neg hp, if_neg hp]
    exact h.q1 hR hM _
theorem w00 (hWI : WI w) : w 0 0 0 = 0 := by
  apply Classical.byContradiction
  intro z
  have := (hWI.2.1 0 z).1; omega
theorem q_entries (h : CHB p μ f (lvL p μ A) w A) (hWI : WI w) (hR : RB μ S P M A) (hM : M ≤ 598) (hc : IR c) : KI γ 7 mX12_entries [rv f, .int (I c)] w 1 6 (QP μ f w (o_entries μ c A)) (QX1 μ f w (o_entries μ c A) "java/lang/IndexOutOfBoundsException") :=
  (kX12_entries γ w f c h.1.toF.2.1 h.1.lvs.1 hc).imp (fun r w' z => by
    obtain ⟨z1, z2, z3⟩ := z
    have hp : 0 ≤ c ∧ c ≤ 4 := by omega
    rw [z3]; unfold o_entries m_ti; rw [if_pos hp, if_pos hp]
    refine h.q0 hR hM ?_
    rw [z2, (h.1.2.2.1.1.1.2 c z1.1 z1.2).ecn (w00 hWI) z1.1, show (5 : Int) * 0 + c = c by omega]) (fun E w' z => by
    obtain ⟨z1, z2, z3⟩ := z
    have hp : ¬ (0 ≤ c ∧ c ≤ 4) := by omega
    rw [z3, z1]; unfold o_entries m_ti; rw [if_neg hp, if_neg hp]
    exact h.q1 hR hM _)
/-- the entries that a store has -/
theorem vSr.ent (h : vSr C w s V i q) (h00 : w 0 0 0 = 0) (hq : 0 ≤ q ∧ q < 5) (hb : ∀ e, 0 ≤ e → e < m_slt q → 0 ≤ V 205 0 (20 * i + 4 * q + e) ∧ V 205 0 (20 * i + 4 * q + e) ≤ 20) : ∀ e, 0 ≤ e ∧ e < m_ecn w s q → (0 ≤ q + e ∧ q + e < 8) ∧ w 0 (w 3 (w 31 s 0) (q + e)) 0 = 1 ∧ w 0 (w 10 (w 3 (w 31 s 0) (q + e)) 0) 0 = 20 ∧ 0 ≤ w 2 (w 10 (w 3 (w 31 s 0) (q + e)) 0) 0 ∧ w 2 (w 10 (w 3 (w 31 s 0) (q + e)) 0) 0 ≤ 100000 := fun e he => by
  rw [h.ecn h00 hq.1] at he
  have hm : m_slt q ≤ 4 ∧ (q < 4 → m_slt q = 1) := by unfold m_slt; split <;> omega
  have h1 := h.1
  have he2 : e < m_slt q := by omega
  obtain ⟨⟨v1, v2⟩, ⟨v3, v4⟩, v5, v6⟩ := (h.2 e he.1 he2).1 he.2
  have hb1 := hb e he.1 he2
  exact ⟨by omega, v1, v3, by rw [v5]; omega, by rw [v5]; omega⟩
theorem q_ent (h : CHB p μ f (lvL p μ A) w A) (hWI : WI w) (hR : RB μ S P M A) (q : Int) : 0 ≤ q → q < 5 → ∀ e, 0 ≤ e ∧ e < m_ecn w (w 11 (w 41 f 0) 0) q → (0 ≤ q + e ∧ q + e < 8) ∧ w 0 (w 3 (w 31 (w 11 (w 41 f 0) 0) 0) (q + e)) 0 = 1 ∧ w 0 (w 10 (w 3 (w 31 (w 11 (w 41 f 0) 0) 0) (q + e)) 0) 0 = 20 ∧ 0 ≤ w 2 (w 10 (w 3 (w 31 (w 11 (w 41 f 0) 0) 0) (q + e)) 0) 0 ∧ w 2 (w 10 (w 3 (w 31 (w 11 (w 41 f 0) 0) 0) (q + e)) 0) 0 ≤ 100000 := fun q0 q1 =>
  (h.1.2.2.1.1.1.2 q q0 q1).ent (w00 hWI) ⟨q0, q1⟩ (fun e e0 e1 => by
    have hm : m_slt q ≤ 4 ∧ (q < 4 → m_slt q = 1) := by unfold m_slt; split <;> omega
    exact hR.1.1.2.2.2.2.1 _ (by omega) (by omega))
theorem q_entryLength (h : CHB p μ f (lvL p μ A) w A) (hWI : WI w) (hR : RB μ S P M A) (hM : M ≤ 598) (hq : IR q) (he : IR e) : KI γ 8 mX12_entryLength [rv f, .int (I q), .int (I e)] w 2 12 (QP μ f w (o_entryLength μ q e A)) (QX1 μ f w (o_entryLength μ q e A) "java/lang/IndexOutOfBoundsException") := by
  have ec : 0 ≤ q → q < 5 → m_ecn w (w 11 (w 41 f 0) 0) q = A 204 0 q := fun q0 q1 => by
    rw [(h.1.2.2.1.1.1.2 q q0 q1).ecn (w00 hWI) q0, show (5 : Int) * 0 + q = q by omega]
  refine (kX12_entryLength9 γ w f q e h.1.toF.2.1 h.1.lvs.1 (q_ent h hWI hR q) hq he).imp (fun r w' z => ?_) (fun E w' z => ?_)
  · obtain ⟨z1, z2, z3⟩ := z
    have z4 := z1.2.2.2
    rw [ec z1.1 z1.2.1] at z4
    have hp : isE q e A := ⟨by omega, by omega⟩
    have hm : m_slt q ≤ 4 ∧ (q < 4 → m_slt q = 1) := by unfold m_slt; split <;> omega
    have hv := h.1.2.2.1.1.1.2 q z1.1 z1.2.1
    have h5 := hv.1
    rw [show (5 : Int) * 0 + q = q by omega] at h5
    have hu := ((hv.2 e z1.2.2.1 (by omega)).1 (by rw [show (5 : Int) * 0 + q = q by omega]; exact z4)).2.2.1
    rw [z3]; unfold o_entryLength m_ti; rw [if_pos hp, if_pos hp]
    exact h.q0 hR hM (by rw [z2, hu, show (20 : Int) * 0 + 4 * q + e = 4 * q + e by omega])
  · obtain ⟨z1, z2, z3⟩ := z
    have hp : ¬ isE q e A := fun y => z2 ⟨by omega, by omega, by omega, by rw [ec (by omega) (by omega)]; omega⟩
    rw [z3, z1]; unfold o_entryLength m_ti; rw [if_neg hp, if_neg hp]
    exact h.q1 hR hM _
end QRE
