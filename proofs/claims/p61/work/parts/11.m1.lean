theorem bi_t {p : Prop} [Decidable p] (h : p) : 1 = bi p := by unfold bi; rw [if_pos h]
theorem bi_f {p : Prop} [Decidable p] (h : ¬ p) : 0 = bi p := by unfold bi; rw [if_neg h]
theorem bi_1 {p : Prop} [Decidable p] : bi p = 1 ↔ p := by unfold bi; split <;> simp_all
theorem bi_0 {p : Prop} [Decidable p] : bi p = 0 ↔ ¬ p := by unfold bi; split <;> simp_all
theorem bi_ne {p : Prop} [Decidable p] : (¬ bi p = 0) ↔ p := by unfold bi; split <;> simp_all
theorem bi_01 (p : Prop) [Decidable p] : bi p = 0 ∨ bi p = 1 := by unfold bi; split <;> simp_all
