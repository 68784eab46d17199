/-! IVS through the commands -/
section IVC
variable {p : RP} {w A B : Mm} {μ : MU} {f S P M c k a b d s e v : Int} {PL : Int → List Int}
theorem IVn.off (h : IVn μ A) (e : ∀ (c : Nat) (y i : Int), c = 124 ∨ c = 137 ∨ c = 220 ∨ c = 228 ∨ c = 244 ∨ c = 245 → B c y i = A c y i) (e9 : B 129 μ.1 0 = -1) : IVS μ B := ⟨h.cg e, TYP.off e9⟩
theorem TYg.up {c : Nat} (hc : c < 120 ∨ c = 127 ∨ c = 128 ∨ c = 130 ∨ c = 131 ∨ (132 < c ∧ c < 207) ∨ (223 < c)) {y i v : Int} : TYg μ A (up A c y i v) := ⟨fun k z => up_k _ (by omega) _ _ _ _ _, fun k i z1 z2 => up_k _ (by omega) _ _ _ _ _, fun i _ _ => up_k _ (by omega) _ _ _ _ _, up_k _ (by omega) _ _ _ _ _⟩
theorem IVo_overwrite (h : IVS μ A) (hR : RB μ S P M A) (hS : S ≤ 28900) (hP : P ≤ 500000) : IVS μ (o_overwrite μ c A).2 := by
  unfold o_overwrite
  split
  · exact (h.o9 hR).cal hR.o9 (by omega) (by omega) (by unfold CV; omega) (by decide)
  · exact h.o9 hR
theorem IVo_delete (h : IVS μ A) (hR : RB μ S P M A) (hS : S ≤ 28900) (hP : P ≤ 500000) : IVS μ (o_delete μ c A).2 := by
  unfold o_delete
  split
  · exact (h.o9 hR).cal hR.o9 (by omega) (by omega) (by unfold CV; omega) (by decide)
  · exact h.o9 hR
theorem IVo_move (h : IVS μ A) (hR : RB μ S P M A) (hS : S ≤ 28900) (hP : P ≤ 500000) : IVS μ (o_move μ c A).2 := by
  unfold o_move
  split
  · exact (h.o9 hR).cal hR.o9 (by omega) (by omega) (by unfold CV; omega) (by decide)
  · exact h.o9 hR
theorem IVo_search (h : IVS μ A) (hR : RB μ S P M A) (hS : S ≤ 28900) (hP : P ≤ 500000) : IVS μ (o_search μ c A).2 := by
  unfold o_search
  split
  · exact (h.o9 hR).cal hR.o9 (by omega) (by omega) (by unfold CV; omega) (by decide)
  · exact h.o9 hR
theorem IVo_kill (h : IVS μ A) (hR : RB μ S P M A) (hS : S ≤ 28900) (hP : P ≤ 500000) : IVS μ (o_kill μ c A).2 := by
  unfold o_kill
  split
  · exact (h.o9 hR).cal hR.o9 (by omega) (by omega) (by unfold CV; omega) (by decide)
  · exact h.o9 hR
theorem IVo_paste (h : IVS μ A) (hR : RB μ S P M A) (hS : S ≤ 28900) (hP : P ≤ 500000) : IVS μ (o_paste μ c A).2 := by
  unfold o_paste
  split
  · exact (h.o9 hR).cal hR.o9 (by omega) (by omega) (by unfold CV; omega) (by decide)
  · exact h.o9 hR
theorem IVo_clearMark (h : IVS μ A) (hR : RB μ S P M A) (hS : S ≤ 28900) (hP : P ≤ 500000) : IVS μ (o_clearMark μ c A).2 := by
  unfold o_clearMark
  split
  · exact (h.o9 hR).cal hR.o9 (by omega) (by omega) (by unfold CV; omega) (by decide)
  · exact h.o9 hR
theorem IVo_jump (h : IVS μ A) (hR : RB μ S P M A) (hS : S ≤ 28900) (hP : P ≤ 500000) : IVS μ (o_jump μ c A).2 := by
  unfold o_jump
  split
  · exact (h.o9 hR).cal hR.o9 (by omega) (by omega) (by unfold CV; omega) (by decide)
  · exact h.o9 hR
theorem IVo_narrow (h : IVS μ A) (hR : RB μ S P M A) (hS : S ≤ 28900) (hP : P ≤ 500000) : IVS μ (o_narrow μ c A).2 := by
  unfold o_narrow
  split
  · exact (h.o9 hR).cal hR.o9 (by omega) (by omega) (by unfold CV; omega) (by decide)
  · exact h.o9 hR
theorem IVo_setMark (h : IVS μ A) (hR : RB μ S P M A) (hS : S ≤ 28900) (hP : P ≤ 500000) (hb : b = 0 ∨ b = 1) : IVS μ (o_setMark μ c b A).2 := by
  unfold o_setMark
  split
  · exact (h.o9 hR).cal hR.o9 (by omega) (by omega) (by unfold CV; omega) (by decide)
  · exact h.o9 hR
theorem IVo_yank (h : IVS μ A) (hR : RB μ S P M A) (hS : S ≤ 28900) (hP : P ≤ 500000) : IVS μ (o_yank μ A).2 := by
  unfold o_yank
  exact h.cal hR (by omega) (by omega) (by unfold CV; omega) (by decide)
theorem IVo_rotate (h : IVS μ A) (hR : RB μ S P M A) (hS : S ≤ 28900) (hP : P ≤ 500000) : IVS μ (o_rotate μ A).2 := by
  unfold o_rotate
  exact h.cal hR (by omega) (by omega) (by unfold CV; omega) (by decide)
theorem IVo_widen (h : IVS μ A) (hR : RB μ S P M A) (hS : S ≤ 28900) (hP : P ≤ 500000) : IVS μ (o_widen μ A).2 := by
  unfold o_widen
  exact h.cal hR (by omega) (by omega) (by unfold CV; omega) (by decide)
theorem IVo_copy (h : IVS μ A) (hR : RB μ S P M A) (hS : S ≤ 28900) (hP : P ≤ 500000) : IVS μ (o_copy μ c k A).2 := by
  unfold o_copy
  split
  · split
    · exact (h.o9 hR).cal hR.o9 (by omega) (by omega) (by unfold CV; omega) (by decide)
    · exact h.o9 hR
  · exact h.o9 hR
theorem IVo_checkpoint (h : IVS μ A) (hR : RB μ S P M A) : IVS μ (o_checkpoint μ A) := by
  unfold o_checkpoint
  split
  · exact h.o9 hR
  · exact h.1.off (fun c y i z => by rw [up_k _ (by omega), rec_at (by omega)]; exact up_k _ (by omega) _ _ _ _ _) (up_s _ _ _ _ _)
theorem IVo_record (h : IVS μ A) (hR : RB μ S P M A) : IVS μ (o_record μ c A) := by
  unfold o_record
  split
  · split
    · exact h.o9 hR
    · exact h.1.off (fun c y i z => by rw [up_k _ (by omega), up_k _ (by omega), up_k _ (by omega)]; exact up_k _ (by omega) _ _ _ _ _) (up_s _ _ _ _ _)
  · exact h.o9 hR
theorem TYP.grp (h : TYP μ A) (z : ¬ A 132 μ.1 0 = 0) : A 129 μ.1 0 = -1 := by
  by_cases y : A 129 μ.1 0 = -1
  · exact y
  · exact absurd (h y).1.1 z
theorem IVo_open (h : IVS μ A) : IVS μ (o_open μ A) := by
  unfold o_open
  refine h.1.off (fun c y i z => by rw [up_k _ (by omega), up_k _ (by omega)]; exact up_k _ (by omega) _ _ _ _ _) ?_
  rw [up_s]
  split
  · rfl
  · next z => exact h.2.grp z
theorem IVo_pass (h : IVS μ A) (hR : RB μ S P M A) : IVS μ (o_pass μ c A) := by
  unfold o_pass
  split
  · exact ⟨h.1.cg fun c y i z => by rw [up_k _ (by omega)]; exact up_k _ (by omega) _ _ _ _ _, h.2.tg hR.2.2.2 (TYg.o9.t (TYg.up (by decide)))⟩
  · exact ⟨h.1.cg fun c y i z => by rw [up_k _ (by omega)]; exact up_k _ (by omega) _ _ _ _ _, h.2.tg hR.2.2.2 (TYg.o9.t (TYg.up (by decide)))⟩
theorem IVo_setBookmark (h : IVS μ A) (hR : RB μ S P M A) : IVS μ (o_setBookmark μ c A).2 := by
  unfold o_setBookmark
  split
  · exact h.1.off (fun c y i z => by unfold m_mkN; dsimp only; rw [up_k _ (by omega), up_k _ (by omega)]; exact up_k _ (by omega) _ _ _ _ _) (up_s _ _ _ _ _)
  · exact h.o9 hR
theorem IVo_clearBookmark (h : IVS μ A) (hR : RB μ S P M A) : IVS μ (o_clearBookmark μ c A).2 := by
  unfold o_clearBookmark
  split
  · exact h.1.off (fun c y i z => by unfold m_mkN; dsimp only; rw [up_k _ (by omega), up_k _ (by omega)]; exact up_k _ (by omega) _ _ _ _ _) (up_s _ _ _ _ _)
  · exact h.o9 hR
theorem IVn.ls (h : IVn μ A) (hv : v = 0 ∨ v = 1) : IVn μ (up A 228 0 c v) := by
  obtain ⟨h1, h2, h3, h4⟩ := h
  refine ⟨h1.cg (up_k _ (by decide) _ _ _ _ _) (fun q => up_k _ (by decide) _ _ _ _ _), fun t a b => ?_, by rw [up_k _ (by decide)]; exact h3, fun j j0 j1 => ?_⟩
  · rw [up_k _ (by decide), up_k _ (by decide)]; exact h2 t a b
  · by_cases z : j = c
    · rw [z, up_s]; exact hv
    · rw [up_i _ _ _ _ _ _ z]; exact h4 j j0 j1
theorem IVo_listen (h : IVS μ A) (hR : RB μ S P M A) : IVS μ (o_listen μ c a b d A) := by
  unfold o_listen
  split
  · split
    · exact IVn.off (A := up (m_th μ 0 A) 228 0 c 1) ((h.o9 hR).1.ls (Or.inr rfl)) (fun c y i z => by rw [up_k _ (by omega), up_k _ (by omega), up_k _ (by omega), up_k _ (by omega)]) (up_s _ _ _ _ _)
    · exact h.o9 hR
  · exact h.o9 hR
theorem IVo_unlisten (h : IVS μ A) (hR : RB μ S P M A) : IVS μ (o_unlisten μ c A).2 := by
  unfold o_unlisten
  split
  · exact IVn.off (A := up (m_th μ 0 A) 228 0 c 0) ((h.o9 hR).1.ls (Or.inl rfl)) (fun c y i z => up_k _ (by omega) _ _ _ _ _) (up_s _ _ _ _ _)
  · exact h.o9 hR
theorem IVo_stop (h : IVS μ A) (hR : RB μ S P M A) : IVS μ (o_stop μ A).2 := by
  unfold o_stop
  split
  · exact h.o9 hR
  · exact h.1.off (fun c y i z => by
      show up (up (m_stW μ (A 133 μ.1 0) (m_th μ 0 A)) 133 μ.1 0 (-1)) 129 μ.1 0 (-1) c y i = A c y i
      rw [up_k _ (by omega), up_k _ (by omega)]
      unfold m_stW
      rw [up_k _ (by omega), fl_at (by omega)]
      exact up_k _ (by omega) _ _ _ _ _) (up_s _ _ _ _ _)
theorem IVo_setBudget (h : IVS μ A) (hR : RB μ S P M A) : IVS μ (o_setBudget μ c A).2 := by
  unfold o_setBudget
  split
  · have h1 : IVn μ (up (up (m_th μ 0 A) 128 μ.1 0 c) 129 μ.1 0 (-1)) := h.1.cg fun c y i z => by rw [up_k _ (by omega), up_k _ (by omega)]; exact up_k _ (by omega) _ _ _ _ _
    obtain ⟨n1, n2, n3, n4⟩ := h1
    unfold m_mrgs
    have e : ∀ {cc : Nat} {y i : Int}, cc = 129 ∨ cc = 137 ∨ cc = 228 ∨ cc = 244 ∨ cc = 245 → (m_mrg μ 1000 0 (up (up (m_th μ 0 A) 128 μ.1 0 c) 129 μ.1 0 (-1))).2 cc y i = (up (up (m_th μ 0 A) 128 μ.1 0 c) 129 μ.1 0 (-1)) cc y i := fun z => mrg_o (by omega) _ _ _
    refine ⟨⟨n1.cg (mrgNE (i := 0) _ _ _).2 (fun q => (mrgNE _ _ _).1), fun t a b => by rw [e (cc := 244) (by decide), e (cc := 245) (by decide)]; exact n2 t a b, by rw [e (by decide)]; exact n3, fun j j0 j1 => by rw [e (by decide)]; exact n4 j j0 j1⟩, TYP.off ?_⟩
    rw [e (by decide)]; exact up_s _ _ _ _ _
  · exact h.o9 hR
theorem IVS.rpl (h : IVS μ A) (hR : RB μ S P M A) (g : RPk μ PL k A) : IVS μ (m_rpl μ PL k A) := by
  have e : ∀ {c : Nat} {y i : Int}, (c < 200 ∨ 206 < c) ∧ c ≠ 240 ∧ c ≠ 127 ∧ c ≠ 226 → m_rpl μ PL k A c y i = A c y i := fun z => rpl_at hR.2.1.2.2.1 hR.1.2.2.1 g z
  exact ⟨h.1.cg fun c y i z => e (by omega), h.2.tg hR.2.2.2 ⟨fun c z => e (by omega), fun c i z1 z2 => e (by omega), fun i _ _ => e (by decide), e (by decide)⟩⟩
theorem IVS.wks (h : IVS μ A) (hR : RB μ S P M A) (g : RPk μ PL k A) : IVS μ (m_wks μ PL k A) :=
  h.1.off (fun c y i z => wks_at hR.2.1.2.2.1 hR.1.2.2.1 g (by omega)) (by unfold m_wks; exact up_s _ _ _ _ _)
theorem CHB.rpk (h : CHB p μ f (lvL p μ A) w A) (hR : RB μ S P M A) (hM : M ≤ 598) (ha : alv μ A k) : RPk μ (pl_ p) k (up A 139 μ.1 0 v) :=
  ((h.2.1.1.1.rq hR.2.1.2.2.2.1 (by omega) ha).1).up (by decide)
theorem IVo_undo (h : CHB p μ f (lvL p μ A) w A) (hR : RB μ S P M A) (hM : M ≤ 598) (g : IVS μ A) : IVS μ (o_undo μ (pl_ p) A).2 := by
  unfold o_undo
  split
  · exact g.o9 hR
  · next z =>
    have hT := hR.2.1.2.2.2.1
    have hc : alv μ A (A 126 μ.1 0) := ⟨hT.2.2.1, h.2.1.1.1.1.2.1⟩
    exact (g.o9 hR).wks hR.o9 (h.rpk hR hM (hT.par h.2.1.1.1.1 hc (fun y => z (Or.inr y))).1)
theorem IVo_redo (h : CHB p μ f (lvL p μ A) w A) (hR : RB μ S P M A) (hM : M ≤ 598) (g : IVS μ A) : IVS μ (o_redo μ (pl_ p) A).2 := by
  unfold o_redo
  split
  · exact g.o9 hR
  · next z =>
    have hw := (nwst_rng (μ := μ) (x := A 126 μ.1 0) hR.2.1.2.2.2.1.1.1).resolve_left (fun y => z (Or.inr y))
    exact (g.o9 hR).wks hR.o9 (h.rpk hR hM ⟨⟨by omega, hw.2.1⟩, hw.2.2.1⟩)
theorem IVo_walk (h : CHB p μ f (lvL p μ A) w A) (hR : RB μ S P M A) (hM : M ≤ 598) (g : IVS μ A) : IVS μ (o_walk μ (pl_ p) c A).2 := by
  unfold o_walk
  split
  · next y =>
    split
    · exact g.o9 hR
    · exact (g.o9 hR).wks hR.o9 (h.rpk hR hM (isN_al y))
  · exact g.o9 hR
theorem IVo_lengthByReplay (h : CHB p μ f (lvL p μ A) w A) (hR : RB μ S P M A) (hM : M ≤ 598) (g : IVS μ A) : IVS μ (o_lengthByReplay μ (pl_ p) c A).2 := by
  unfold o_lengthByReplay
  split
  · next y => exact (g.o9 hR).rpl hR.o9 (h.rpk hR hM (isN_al y))
  · exact g.o9 hR
theorem IVo_charByReplay (h : CHB p μ f (lvL p μ A) w A) (hR : RB μ S P M A) (hM : M ≤ 598) (g : IVS μ A) : IVS μ (o_charByReplay μ (pl_ p) c k A).2 := by
  unfold o_charByReplay
  split
  · next y =>
    have q := (g.o9 hR (v := if isN μ c A then 0 else 1)).rpl hR.o9 (h.rpk hR hM (isN_al y))
    have r : RB μ S P M (m_rpl μ (pl_ p) c (up A 139 μ.1 0 (if isN μ c A then 0 else 1))) := h.rb hR hM (isN_al y)
    split
    · exact q.o9 r
    · exact q.o9 r
  · exact g.o9 hR
theorem IVo_markByReplay (h : CHB p μ f (lvL p μ A) w A) (hR : RB μ S P M A) (hM : M ≤ 598) (g : IVS μ A) : IVS μ (o_markByReplay μ (pl_ p) c k A).2 := by
  unfold o_markByReplay
  split
  · next y => exact (g.o9 hR).rpl hR.o9 (h.rpk hR hM (isN_al y.1))
  · exact g.o9 hR
theorem IVo_storedByReplay (h : CHB p μ f (lvL p μ A) w A) (hR : RB μ S P M A) (hM : M ≤ 598) (g : IVS μ A) : IVS μ (o_storedByReplay μ (pl_ p) c k A).2 := by
  unfold o_storedByReplay
  split
  · next y =>
    split
    · exact g.o9 hR
    · exact (g.o9 hR).rpl hR.o9 (h.rpk hR hM (isN_al y.1))
  · exact g.o9 hR
theorem IVo_close (h : IVS μ A) (hR : RB μ S P M A) (hS : S ≤ 28900) (hP : P ≤ 500000) : IVS μ (o_close μ A).2 := by
  unfold o_close
  split
  · exact h.o9 hR
  · next hg =>
    obtain ⟨q1, q2, q3⟩ := clW_ok hR
    have eW : ∀ {c : Nat} {a i : Int}, c < 200 ∨ (210 < c ∧ c ≠ 214 ∧ c ≠ 215) → c ≠ 132 → c ≠ 139 → m_clW μ A c a i = A c a i := fun x y z => by
      unfold m_clW; rw [up_k _ y, saves_at x, up_k _ z]
    have h1 : IVn μ (m_clW μ A) := h.1.cg fun c y i z => eW (by omega) (by omega) (by omega)
    have h2 := h1.ends (g := 0) q1 q2 q3
    obtain ⟨x1, x2, x3⟩ := ends_ok (g := 0) q1 q2 q3 (by decide) (by omega) (by omega)
    unfold m_cl1
    split
    · refine h2.off (fun c y i z => by
        show up (up (m_ends μ 0 (m_clW μ A)).2 132 μ.1 0 1) 139 μ.1 0 1 c y i = _
        rw [up_k _ (by omega), up_k _ (by omega)]) ?_
      show up (up (m_ends μ 0 (m_clW μ A)).2 132 μ.1 0 1) 139 μ.1 0 1 129 μ.1 0 = -1
      rw [up_k _ (by decide), up_k _ (by decide), x3 129 _ _ (by decide), eW (by decide) (by decide) (by decide)]
      exact h.2.grp hg
    · exact h2.off (fun c y i z => up_k _ (by omega) _ _ _ _ _) (up_s _ _ _ _ _)
end IVC
