/-! PTX through the commands -/
section PT7
variable {p : RP} {w A A' : Mm} {μ : MU} {f S P M g c k a b sort v : Int} {PL : Int → List Int} {ρ : Int → Mm} {G : Int → Int → Int}
theorem TLn.o9 (h : CHB p μ f (lvL p μ A) w A) (hR : RB μ S P M A) (hM : M ≤ 598) (g : PTN μ A) : TLn μ S P M (up A 139 μ.1 0 v) ∧ PTX μ (up A 139 μ.1 0 v) := by
  have q := (h.o9 hR hM (v := v)).tl hR.o9 (g.o9 h hR hM)
  exact ⟨q, q.x.1⟩
theorem TLn.cal' (h : TLn μ S P M A) (hS : S ≤ 29000) (hP : P ≤ 510000) (hM : M ≤ 599) (hv : CV c a b) (hc : c ≤ 14) : PTX μ (m_cal μ c a b sort A).2 := PTX.cal h hS hP hM hv hc
theorem PTo_overwrite (h : CHB p μ f (lvL p μ A) w A) (hR : RB μ S P M A) (hS : S ≤ 28900) (hP : P ≤ 500000) (hM : M ≤ 598) (g : PTN μ A) : PTX μ (o_overwrite μ c A).2 := by
  unfold o_overwrite
  split
  · exact (TLn.o9 h hR hM g).1.cal' (by omega) (by omega) (by omega) (by unfold CV; omega) (by decide)
  · exact (TLn.o9 h hR hM g).2
theorem PTo_delete (h : CHB p μ f (lvL p μ A) w A) (hR : RB μ S P M A) (hS : S ≤ 28900) (hP : P ≤ 500000) (hM : M ≤ 598) (g : PTN μ A) : PTX μ (o_delete μ c A).2 := by
  unfold o_delete
  split
  · exact (TLn.o9 h hR hM g).1.cal' (by omega) (by omega) (by omega) (by unfold CV; omega) (by decide)
  · exact (TLn.o9 h hR hM g).2
theorem PTo_move (h : CHB p μ f (lvL p μ A) w A) (hR : RB μ S P M A) (hS : S ≤ 28900) (hP : P ≤ 500000) (hM : M ≤ 598) (g : PTN μ A) : PTX μ (o_move μ c A).2 := by
  unfold o_move
  split
  · exact (TLn.o9 h hR hM g).1.cal' (by omega) (by omega) (by omega) (by unfold CV; omega) (by decide)
  · exact (TLn.o9 h hR hM g).2
theorem PTo_search (h : CHB p μ f (lvL p μ A) w A) (hR : RB μ S P M A) (hS : S ≤ 28900) (hP : P ≤ 500000) (hM : M ≤ 598) (g : PTN μ A) : PTX μ (o_search μ c A).2 := by
  unfold o_search
  split
  · exact (TLn.o9 h hR hM g).1.cal' (by omega) (by omega) (by omega) (by unfold CV; omega) (by decide)
  · exact (TLn.o9 h hR hM g).2
theorem PTo_kill (h : CHB p μ f (lvL p μ A) w A) (hR : RB μ S P M A) (hS : S ≤ 28900) (hP : P ≤ 500000) (hM : M ≤ 598) (g : PTN μ A) : PTX μ (o_kill μ c A).2 := by
  unfold o_kill
  split
  · exact (TLn.o9 h hR hM g).1.cal' (by omega) (by omega) (by omega) (by unfold CV; omega) (by decide)
  · exact (TLn.o9 h hR hM g).2
theorem PTo_paste (h : CHB p μ f (lvL p μ A) w A) (hR : RB μ S P M A) (hS : S ≤ 28900) (hP : P ≤ 500000) (hM : M ≤ 598) (g : PTN μ A) : PTX μ (o_paste μ c A).2 := by
  unfold o_paste
  split
  · exact (TLn.o9 h hR hM g).1.cal' (by omega) (by omega) (by omega) (by unfold CV; omega) (by decide)
  · exact (TLn.o9 h hR hM g).2
theorem PTo_clearMark (h : CHB p μ f (lvL p μ A) w A) (hR : RB μ S P M A) (hS : S ≤ 28900) (hP : P ≤ 500000) (hM : M ≤ 598) (g : PTN μ A) : PTX μ (o_clearMark μ c A).2 := by
  unfold o_clearMark
  split
  · exact (TLn.o9 h hR hM g).1.cal' (by omega) (by omega) (by omega) (by unfold CV; omega) (by decide)
  · exact (TLn.o9 h hR hM g).2
theorem PTo_jump (h : CHB p μ f (lvL p μ A) w A) (hR : RB μ S P M A) (hS : S ≤ 28900) (hP : P ≤ 500000) (hM : M ≤ 598) (g : PTN μ A) : PTX μ (o_jump μ c A).2 := by
  unfold o_jump
  split
  · exact (TLn.o9 h hR hM g).1.cal' (by omega) (by omega) (by omega) (by unfold CV; omega) (by decide)
  · exact (TLn.o9 h hR hM g).2
theorem PTo_narrow (h : CHB p μ f (lvL p μ A) w A) (hR : RB μ S P M A) (hS : S ≤ 28900) (hP : P ≤ 500000) (hM : M ≤ 598) (g : PTN μ A) : PTX μ (o_narrow μ c A).2 := by
  unfold o_narrow
  split
  · exact (TLn.o9 h hR hM g).1.cal' (by omega) (by omega) (by omega) (by unfold CV; omega) (by decide)
  · exact (TLn.o9 h hR hM g).2
theorem PTo_yank (h : CHB p μ f (lvL p μ A) w A) (hR : RB μ S P M A) (hS : S ≤ 28900) (hP : P ≤ 500000) (hM : M ≤ 598) (g : PTN μ A) : PTX μ (o_yank μ A).2 := by
  unfold o_yank
  exact (h.tl hR g).cal' (by omega) (by omega) (by omega) (by unfold CV; omega) (by decide)
theorem PTo_rotate (h : CHB p μ f (lvL p μ A) w A) (hR : RB μ S P M A) (hS : S ≤ 28900) (hP : P ≤ 500000) (hM : M ≤ 598) (g : PTN μ A) : PTX μ (o_rotate μ A).2 := by
  unfold o_rotate
  exact (h.tl hR g).cal' (by omega) (by omega) (by omega) (by unfold CV; omega) (by decide)
theorem PTo_widen (h : CHB p μ f (lvL p μ A) w A) (hR : RB μ S P M A) (hS : S ≤ 28900) (hP : P ≤ 500000) (hM : M ≤ 598) (g : PTN μ A) : PTX μ (o_widen μ A).2 := by
  unfold o_widen
  exact (h.tl hR g).cal' (by omega) (by omega) (by omega) (by unfold CV; omega) (by decide)
theorem PTo_setMark (h : CHB p μ f (lvL p μ A) w A) (hR : RB μ S P M A) (hS : S ≤ 28900) (hP : P ≤ 500000) (hM : M ≤ 598) (g : PTN μ A) (hb : b = 0 ∨ b = 1) : PTX μ (o_setMark μ c b A).2 := by
  unfold o_setMark
  split
  · exact (TLn.o9 h hR hM g).1.cal' (by omega) (by omega) (by omega) (by unfold CV; omega) (by decide)
  · exact (TLn.o9 h hR hM g).2
theorem PTo_copy (h : CHB p μ f (lvL p μ A) w A) (hR : RB μ S P M A) (hS : S ≤ 28900) (hP : P ≤ 500000) (hM : M ≤ 598) (g : PTN μ A) : PTX μ (o_copy μ c k A).2 := by
  unfold o_copy
  split
  · split
    · exact (TLn.o9 h hR hM g).1.cal' (by omega) (by omega) (by omega) (by unfold CV; omega) (by decide)
    · exact (TLn.o9 h hR hM g).2
  · exact (TLn.o9 h hR hM g).2
end PT7
