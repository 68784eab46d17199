/-! what a run's macros are in the class -/
section RNM
variable {p : RP} {w w' w0 A A' A0 ρ : Mm} {μ : MU} {f m i l s t u v S P M : Int} {c σ : Int → Int} {G : Int → Int → Int}
/-- macro m of the class -/
abbrev mcq (w : Mm) (f m : Int) : Int := w 3 (w 48 f 0) m
theorem RNX.mac (h : RNX p c σ G μ f ρ w0 A0 w A s t u v) (hm : 0 ≤ m ∧ m ≤ 3) : (w 0 f 0 = 13 ∧ w 0 (w 48 f 0) 0 = 24 ∧ w 2 (w 48 f 0) 0 = 4 ∧ w 0 (w 50 f 0) 0 = 12) ∧ MT w (mcq w f m) ∧ w 62 (mcq w f m) 0 = A 236 0 m ∧ ∀ k, 0 ≤ k → k < A 236 0 m → w 1 (w 21 (mcq w f m) 0) k = A 235 0 (48 * m + 3 * k) + 1 ∧ w 1 (w 22 (mcq w f m) 0) k = A 235 0 (48 * m + 3 * k + 1) ∧ w 1 (w 23 (mcq w f m) 0) k = A 235 0 (48 * m + 3 * k + 2) := by
  have hO := h.1.1
  obtain ⟨⟨m1, m2, -⟩, m4, -⟩ := hO.2.2.2.2.1
  obtain ⟨⟨q1, -⟩, q2, q3⟩ := m4 m hm.1 (by omega)
  exact ⟨⟨hO.2.1.1.1, m1, m2, hO.2.2.2.2.2.1.1⟩, q1, q2, fun k k0 k1 => q3 k k0 (by rw [q2]; exact k1)⟩
/-- what its commands ask -/
theorem RNX.rbc (h : RNX p c σ G μ f ρ w0 A0 w A s t u v) (hB : LB μ S P A) (hS : S ≤ 30000) : RBc μ (lvS σ μ A) A := by
  have hl := h.2.1.1.b0.1
  refine ⟨hl, hB.1, hB.2.1, hB.2.2.1, hB.2.2.2.1, ?_⟩
  rw [lvS_len, if_pos hl.2]
  have := hB.2.2.2.2.1
  omega
theorem RNX.asL (h : RNX p c σ G μ f ρ w0 A0 w A s t u v) (hB : LB μ S P A) (hS : S ≤ 30000) : DA w (w 43 f 0) (w 41 f 0) ∧ w 67 (w 11 (w 41 f 0) 0) 0 ≤ 400 ∧ w 0 (w 43 f 0) 0 = 2 ∧ w 0 (w 41 f 0) 0 = 2 := by
  have hR := h.rbc hB hS
  have hd3 := h.1.1.2.2.1.2.2.1
  obtain ⟨k1, k2⟩ := h.1.DAs (Or.inr ⟨rfl, rfl, rfl⟩) (by have := hR.2.2.2.2.2; omega)
  exact ⟨k1, k2, hd3.1.1, h.1.1.2.2.1.1.1.1.1⟩
/-- one more is begun -/
theorem RNX.inc (h : RNX p c σ G μ f ρ w0 A0 w A s t u v) (h3 : SB 3 A) (hE : bEl 0 A) (l : Int) : RNX p c σ G μ f ρ w0 A0 (up w 80 (w 50 f 0) 0 (s + 1)) (m_gpl l A) (s + 1) t u v := by
  have hstl := h.1.1.2.2.2.2.2.1
  obtain ⟨t1, t2, t3, t4⟩ := h.2.2.2.1
  refine (h.trl (s' := s + 1) (t' := t) (u' := u) (v' := v) h3 (UPd.refl.sU (by decide) (Or.inr ⟨hstl.2, by decide, by decide⟩)) (fun a => up_k _ (by decide) _ _ _ _ _) (up_s _ _ _ _ _) ?_ ?_ ?_).cg hE h3 (fun c x i z1 z2 z3 => ?_)
  · rw [up_k _ (by decide)]; exact t2
  · rw [up_k _ (by decide)]; exact t3
  · rw [up_k _ (by decide)]; exact t4
  · unfold m_gpl; exact up_k _ (by omega) _ _ _ _ _
/-- it failed -/
theorem RNX.fai {r q : Int} (h : RNX p c σ G μ f ρ w0 A0 w A s t u v) (h3 : SB 3 A) (hE : bEl 0 A) (hq : q = 100 * m + i) : RNX p c σ G μ f ρ w0 A0 (up (up w 82 (w 50 f 0) 0 r) 83 (w 50 f 0) 0 q) (m_fail μ r m i A) s t r (m_fail μ r m i A 135 μ.1 0) := by
  have hstl := h.1.1.2.2.2.2.2.1
  obtain ⟨t1, t2, t3, t4⟩ := h.2.2.2.1
  refine (h.trl (s' := s) (t' := t) (u' := r) (v' := m_fail μ r m i A 135 μ.1 0) h3 ((UPd.refl.sU (by decide) (Or.inr ⟨hstl.2, by decide, by decide⟩)).sU (by decide) (Or.inr ⟨hstl.2, by decide, by decide⟩)) (fun a => by rw [up_k _ (by decide), up_k _ (by decide)]) ?_ ?_ ?_ ?_).cg hE h3 (fun c x i z1 z2 z3 => ?_)
  · rw [up_k _ (by decide), up_k _ (by decide)]; exact t1
  · rw [up_k _ (by decide), up_k _ (by decide)]; exact t2
  · rw [up_k _ (by decide), up_s]
  · rw [up_s]; unfold m_fail; rw [up_s, hq]
  · unfold m_fail; rw [up_k _ z2, up_k _ z1]
/-- t is s -/
theorem RNX.att (h : RNX p c σ G μ f ρ w0 A0 w A s t u v) (h3 : SB 3 A) : RNX p c σ G μ f ρ w0 A0 (up w 81 (w 50 f 0) 0 (w 80 (w 50 f 0) 0)) A s s u v := by
  have hstl := h.1.1.2.2.2.2.2.1
  obtain ⟨t1, t2, t3, t4⟩ := h.2.2.2.1
  refine h.trl h3 (UPd.refl.sU (by decide) (Or.inr ⟨hstl.2, by decide, by decide⟩)) (fun a => up_k _ (by decide) _ _ _ _ _) ?_ ?_ ?_ ?_
  · rw [up_k _ (by decide)]; exact t1
  · rw [up_s]; exact t1
  · rw [up_k _ (by decide)]; exact t3
  · rw [up_k _ (by decide)]; exact t4
end RNM
/-- what runMacro does, where the reference's level l comes to its end -/
def KRN (n : Nat) : Prop := ∀ (γ : LC) (w : Mm) (f m k l : Int) (p : RP) (μ : MU) (ρ w0 A0 A A' : Mm) (s t s' t' r' u v S P M : Int), RNS p μ f ρ w0 A0 w A s t u v → GI μ S P M l s A → (1 ≤ l ∧ l ≤ 5) → (S ≤ 28900 ∧ P ≤ 500000) → A 237 0 l = m → A 238 0 l = k → A 239 0 l = 0 → RT μ n false l s t A s' t' r' A' →
  KI γ (8 + 2 * (5 - l).toNat) mX12_runMacro [rv f, .int (I m), .int (I k), .int (I l)] w (5 * (s' - s).toNat) (411 * (s' - s).toNat) (fun r w' => r = (if r' = 0 then 1 else 0) ∧ RNS p μ f ρ w0 A0 w' A' s' t' (if r' = 0 then u else r') (if r' = 0 then v else A' 135 μ.1 0)) NX
