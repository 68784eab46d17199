/-! a run begins -/
section RNI
variable {p : RP} {w w1 w' A ρ : Mm} {μ : MU} {f m k S P : Int}
theorem RNX.ini (h : RLm p μ f (lvS (ps_ p) μ A) w A) (hLV : LIV μ (pg_ p) ρ A) (hB : LB μ S P A) (hp : ∃ W, TM (w 11 (w 43 f 0) 0) (w 11 (w 41 f 0) 0) w W ∧ w1 = q_ext (w 12 (w 43 f 0) 0) (w 12 (w 41 f 0) 0) (d_copy (w 43 f 0) (w 41 f 0) (t_all (w 11 (w 43 f 0) 0) (w 11 (w 41 f 0) 0) 8 W) 4)) :
    RNX p (pc_ p) (ps_ p) (pg_ p) μ f ρ w A w1 (m_saves μ 3 A) (w1 80 (w1 50 f 0) 0) (w1 81 (w1 50 f 0) 0) (w1 82 (w1 50 f 0) 0) (w1 83 (w1 50 f 0) 0) := by
  have hl := hLV.b0.1
  have hSB := hB.1
  have hf := h.1.2.1.1
  have hd3 := h.1.2.2.1.2.2.1
  obtain ⟨r1, r2, r3, r4⟩ := h.saveP hl hSB.2.2.2.2.1 hSB.1.2 (Or.inr ⟨rfl, rfl, rfl⟩) hp
  have hst := SDb.std (lo := A 122 μ.1 0) (b0 := 30) (Or.inr (Or.inr rfl))
  have e43 : w1 43 f 0 = w 43 f 0 := ed_fr hf r4 hst hl.1 (by decide)
  have e12 : w1 12 (w 43 f 0) 0 = w 12 (w 43 f 0) 0 := r4.g (by have := hd3.1.1; omega) hd3.1.2 (fun z => by unfold SDb at z; omega)
  have e : ∀ {c : Nat} {x i : Int}, c < 200 ∨ (210 < c ∧ c ≠ 214 ∧ c ≠ 215) → m_saves μ 3 A c x i = A c x i := fun z => saves_at z
  have e120 : m_saves μ 3 A 120 μ.1 0 = A 120 μ.1 0 := e (by decide)
  have e122 : m_saves μ 3 A 122 μ.1 0 = A 122 μ.1 0 := e (by decide)
  have e214 : m_saves μ 3 A 214 0 3 = A 120 μ.1 0 := saves_214.1
  have e215 : m_saves μ 3 A 215 0 3 = A 121 μ.1 0 := saves_214.2
  have hLS : lvS (ps_ p) μ (m_saves μ 3 A) = lvS (ps_ p) μ A := by unfold lvS; rw [e120, e122]
  have hLK : lvK (ps_ p) μ (m_saves μ 3 A) 3 = lvS (ps_ p) μ A := by unfold lvK lvS; rw [e214, e122]
  refine ⟨by rw [hLS]; exact r1, ⟨?_, hLV.savR (by decide) hSB⟩, ⟨?_, by rw [e122, e214, e120]; omega, by rw [e215, e (c := 121) (by decide)]; exact Int.le_refl _⟩, ⟨rfl, rfl, rfl, rfl⟩, ⟨r4.mono fun b k z => Or.inr (Or.inl z), CXt.refl⟩, fun _ _ => ⟨rfl, rfl⟩, by rw [e120]; exact Int.le_refl _, e122⟩
  · refine hLV.keep e120 (e (by decide)) e122 (e (by decide)) (fun j _ _ => e (by decide)) (fun j _ _ => pby_cong (e (by decide))) (hLV.b0.2.2.2.cong fun i => e (by decide)) (hLV.b0.2.2.1.cong fun i => e (by decide)) (fun r => e (by decide)) ((EQv.s0 hSB.2.2.2.2.1 hSB.2.2.2.1 hSB.1 fun k i x y i0 i1 => ?_).mono fun _ _ _ _ => trivial)
    rw [saves_cpy k i x (by omega)]
    exact cpy_o ⟨x, by omega⟩ (Or.inl (by omega)) hSB.1.2
  · rw [hLK, e43]
    exact ⟨r2, by rw [e12]; exact r3⟩
/-- with the trial begun and the stack at its first level -/
theorem RNX.beg {s t u v : Int} {c σ : Int → Int} {G : Int → Int → Int} {w0 A0 : Mm} (h : RNX p c σ G μ f ρ w0 A0 w A s t u v) (hE : bEl 0 A) (h3 : SB 3 A) (hw : w' = up (up (up (up w 80 (w 50 f 0) 0 0) 81 (w 50 f 0) 0 0) 82 (w 50 f 0) 0 0) 83 (w 50 f 0) 0 (-1)) : RNX p c σ G μ f ρ w0 A0 w' (m_gst μ m k A) 0 0 0 (-1) := by
  have hstl := h.1.1.2.2.2.2.2.1
  refine (h.trl (s' := 0) (t' := 0) (u' := 0) (v' := -1) h3 ?_ (fun a => ?_) ?_ ?_ ?_ ?_).cg hE h3 (fun c x i z1 z2 z3 => ?_)
  · rw [hw]; exact (((UPd.refl.sU (by decide) (Or.inr ⟨hstl.2, by decide, by decide⟩)).sU (by decide) (Or.inr ⟨hstl.2, by decide, by decide⟩)).sU (by decide) (Or.inr ⟨hstl.2, by decide, by decide⟩)).sU (by decide) (Or.inr ⟨hstl.2, by decide, by decide⟩)
  · rw [hw, up_k _ (by decide), up_k _ (by decide), up_k _ (by decide), up_k _ (by decide)]
  · rw [hw, up_k _ (by decide), up_k _ (by decide), up_k _ (by decide), up_s]
  · rw [hw, up_k _ (by decide), up_k _ (by decide), up_s]
  · rw [hw, up_k _ (by decide), up_s]
  · rw [hw, up_s]
  · unfold m_gst; rw [up_k _ z2, up_k _ z1, up_k _ (by omega), up_k _ (by omega), up_k _ (by omega)]
end RNI
