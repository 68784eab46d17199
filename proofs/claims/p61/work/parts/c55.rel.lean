/-! the relation looks at the class's components of the world only -/
section LPC
variable {p : RP} {w w2 A B : Mm} {μ : MU} {f : Int} {L : List Int}
def KLw (μ : MU) : Nat → Int → Bool := fun c a => if c < 120 then true else decide (a ≠ 0 ∧ a ≠ μ.1)
/-- the class's components from one world, the rest from another -/
def wcl (w w2 : Mm) : Mm := fun c a i => if c < 120 then w c a i else w2 c a i
theorem wcl_eq (e : ∀ (c : Nat) (a i : Int), c < 120 → w2 c a i = w c a i) : wcl w w2 = w2 := by
  funext c a i
  unfold wcl
  by_cases z : c < 120
  · rw [if_pos z]; exact (e c a i z).symm
  · rw [if_neg z]
theorem vQs_wcl {t : Int} (ht : ∀ M : List Int, tcA (wcl w w2) M = tcA w M) (h : vQs w t L) : vQs (wcl w w2) t L := ⟨h.1.cg fun _ _ => rfl, h.2.1, h.2.2.1, h.2.2.2.1.trans (ht L).symm, h.2.2.2.2⟩
theorem rOt_wcl (ht : ∀ M : List Int, tcA (wcl w w2) M = tcA w M) (h : rOt p μ w A f) : rOt p μ (wcl w w2) A f :=
  ⟨h.1, h.2.1, h.2.2.1, ⟨h.2.2.2.1.1, h.2.2.2.1.2.1, fun k k0 k1 k2 => ⟨(h.2.2.2.1.2.2 k k0 k1 k2).1, (h.2.2.2.1.2.2 k k0 k1 k2).2.1, ⟨(h.2.2.2.1.2.2 k k0 k1 k2).2.2.1.1, vQs_wcl ht (h.2.2.2.1.2.2 k k0 k1 k2).2.2.1.2⟩, (h.2.2.2.1.2.2 k k0 k1 k2).2.2.2⟩⟩, h.2.2.2.2⟩
theorem RLm_wcl (ht : ∀ M : List Int, tcA (wcl w w2) M = tcA w M) (h : RLm p μ f L w A) : RLm p μ f L (wcl w w2) A := ⟨rOt_wcl ht h.1, h.2.1, ⟨h.2.2.1.1, vQs_wcl ht h.2.2.1.2.1, h.2.2.1.2.2⟩, h.2.2.2⟩
theorem tcA_wcl : ∀ M : List Int, tcA (wcl w w2) M = tcA w M
  | [] => rfl
  | x :: xs => by unfold tcA; rw [tcA_wcl xs]; rfl
/-- so any world with the class's components of w will do -/
theorem RLm.lt120 (h : RLm p μ f L w A) (e : ∀ (c : Nat) (a i : Int), c < 120 → w2 c a i = w c a i) : RLm p μ f L w2 A := by
  have q := RLm_wcl (w2 := w2) tcA_wcl h
  rw [wcl_eq e] at q; exact q
theorem CHB.lt120 (h : CHB p μ f L w A) (e : ∀ (c : Nat) (a i : Int), c < 120 → w2 c a i = w c a i) : CHB p μ f L w2 A := ⟨h.1.lt120 e, h.2⟩
end LPC
