/-! how the last run went stays: the rest -/
section F34b
variable {p : RP} {w A B : Mm} {μ : MU} {f S P M c k a b d s v sort : Int} {PL : Int → List Int}
theorem F34_unlisten : F34 μ A (o_unlisten μ c A).2 := fun cc z => by
  unfold o_unlisten
  split
  · dsimp only; rw [up_k _ (by omega), up_k _ (by omega)]; exact up_k _ (by omega) _ _ _ _ _
  · exact up_k _ (by omega) _ _ _ _ _
theorem F34_stop : F34 μ A (o_stop μ A).2 := fun cc z => by
  unfold o_stop
  split
  · exact up_k _ (by omega) _ _ _ _ _
  · show up (up (m_stW μ (A 133 μ.1 0) (m_th μ 0 A)) 133 μ.1 0 (-1)) 129 μ.1 0 (-1) cc μ.1 0 = A cc μ.1 0
    rw [up_k _ (by omega), up_k _ (by omega)]
    unfold m_stW
    rw [up_k _ (by omega), fl_at (by omega)]
    exact up_k _ (by omega) _ _ _ _ _
theorem F34_setBookmark : F34 μ A (o_setBookmark μ c A).2 := fun cc z => by
  unfold o_setBookmark
  split
  · unfold m_mkN; dsimp only; rw [up_k _ (by omega), up_k _ (by omega)]; exact up_k _ (by omega) _ _ _ _ _
  · exact up_k _ (by omega) _ _ _ _ _
theorem F34_clearBookmark : F34 μ A (o_clearBookmark μ c A).2 := fun cc z => by
  unfold o_clearBookmark
  split
  · unfold m_mkN; dsimp only; rw [up_k _ (by omega), up_k _ (by omega)]; exact up_k _ (by omega) _ _ _ _ _
  · exact up_k _ (by omega) _ _ _ _ _
theorem F34_setBudget : F34 μ A (o_setBudget μ c A).2 := fun cc z => by
  unfold o_setBudget
  split
  · unfold m_mrgs
    rw [mrg_o (by omega), up_k _ (by omega), up_k _ (by omega)]; exact up_k _ (by omega) _ _ _ _ _
  · exact up_k _ (by omega) _ _ _ _ _
theorem F34_close (hR : RB μ S P M A) (hS : S ≤ 28900) (hP : P ≤ 500000) : F34 μ A (o_close μ A).2 := fun cc z => by
  unfold o_close
  split
  · exact up_k _ (by omega) _ _ _ _ _
  · obtain ⟨q1, q2, q3⟩ := clW_ok hR
    obtain ⟨x1, x2, x3⟩ := ends_ok (g := 0) q1 q2 q3 (by decide) (by omega) (by omega)
    have e : (m_ends μ 0 (m_clW μ A)).2 cc μ.1 0 = A cc μ.1 0 := by
      rw [x3 _ _ _ (by rcases z with rfl | rfl <;> decide)]
      unfold m_clW; rw [up_k _ (by omega), saves_at (by omega), up_k _ (by omega)]
    unfold m_cl1
    split
    · dsimp only; rw [up_k _ (by omega), up_k _ (by omega)]; exact e
    · dsimp only; rw [up_k _ (by omega)]; exact e
theorem F34_track (hR : RB μ S P M A) (hS : S ≤ 28900) (hP : P ≤ 500000) : F34 μ A (o_track μ s A) := fun cc z => by
  unfold o_track
  split
  · next hs =>
    split
    · exact up_k _ (by omega) _ _ _ _ _
    · obtain ⟨q0, q1, q2, q3⟩ := trW_ok hs hR
      have q2' := q2.mono (S' := S + 1) (P' := P + 85) (by omega) (by omega)
      have e : (m_ends μ 0 (m_trW μ s A)).2 cc μ.1 0 = A cc μ.1 0 := by
        rw [(ends_ok (g := 0) q1 q2' q3 (by decide) (by omega) (by omega)).2.2 _ _ _ (by rcases z with rfl | rfl <;> decide)]
        unfold m_trW; rw [tells_at (by omega), up_k _ (by omega), saves_at (by omega), th_at (by omega)]
      unfold m_tr1
      split
      · rw [up_k _ (by omega), up_k _ (by omega)]; exact e
      · rw [up_k _ (by omega)]; exact e
  · exact up_k _ (by omega) _ _ _ _ _
theorem F34_rpl (h : CHB p μ f (lvL p μ A) w A) (hR : RB μ S P M A) (hM : M ≤ 598) (ha : alv μ A k) : F34 μ A (m_rpl μ (pl_ p) k (up A 139 μ.1 0 v)) := fun cc z => by
  rw [rpl_at hR.o9.2.1.2.2.1 hR.o9.1.2.2.1 (h.rpk hR hM ha) (by omega), up_k _ (by omega)]
theorem F34_wks (h : CHB p μ f (lvL p μ A) w A) (hR : RB μ S P M A) (hM : M ≤ 598) (ha : alv μ A k) : F34 μ A (m_wks μ (pl_ p) k (up A 139 μ.1 0 v)) := fun cc z => by
  rw [wks_at hR.o9.2.1.2.2.1 hR.o9.1.2.2.1 (h.rpk hR hM ha) (by omega), up_k _ (by omega)]
theorem F34_insert_nt (hR : RB μ S P M A) (hS : S ≤ 28900) (hP : P ≤ 500000) (hC : isC c) (hT : ¬ (m_cty μ c A ∧ ¬ m_full μ A ∧ A 201 0 0 < 400)) : F34 μ A (o_insert μ c A).2 := by
  have hcv : CV 0 c 0 := by unfold CV; omega
  have q : F34 μ A (m_cal μ 0 c 0 2 (up A 139 μ.1 0 0)).2 := F34.o9.t (F34.cal hR.o9 (by omega) (by omega) hcv (by decide))
  rw [ins_NT hC hT]
  unfold m_in2
  split
  · exact q
  · exact fun cc z => by
      show up (up (up _ 129 μ.1 0 _) 130 μ.1 0 0) 131 μ.1 0 c cc μ.1 0 = _
      rw [up_k _ (by omega), up_k _ (by omega), up_k _ (by omega)]; exact q cc z
end F34b
