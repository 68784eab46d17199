theorem wg_lt (X V : BitVec 32) : ∀ r r' : Nat, r' < r → r < 4 → ((((X &&& ((255#32 <<< (8 * r)) ^^^ 4294967295#32)) ||| (V <<< (8 * r))).sshiftRight (8 * r')) &&& 255#32) = ((X.sshiftRight (8 * r')) &&& 255#32) := by
  intro r r' h1 h2
  have hr : r = 1 ∨ r = 2 ∨ r = 3 := by omega
  have hr' : r' = 0 ∨ r' = 1 ∨ r' = 2 := by omega
  apply BitVec.eq_of_getLsbD_eq
  intro i hi
  by_cases h8 : i < 8
  · have h3 : i + 8 * r' < 32 := by omega
    simp only [BitVec.getLsbD_and, BitVec.getLsbD_or, BitVec.getLsbD_xor, BitVec.getLsbD_sshiftRight, BitVec.getLsbD_shiftLeft]
    rcases hr with rfl | rfl | rfl <;> rcases hr' with rfl | rfl | rfl <;> first | omega | skip
    all_goals
      have hi' : i = 0 ∨ i = 1 ∨ i = 2 ∨ i = 3 ∨ i = 4 ∨ i = 5 ∨ i = 6 ∨ i = 7 := by omega
      rcases hi' with rfl | rfl | rfl | rfl | rfl | rfl | rfl | rfl <;> simp
  · have : (255#32).getLsbD i = false := by
      simp only [BitVec.getLsbD_ofNat]
      have : Nat.testBit 255 i = false := by
        apply Nat.testBit_lt_two_pow
        calc 255 < 2 ^ 8 := by decide
          _ ≤ 2 ^ i := Nat.pow_le_pow_right (by decide) (by omega)
      simp [this]
    simp only [BitVec.getLsbD_and, this, Bool.and_false]
theorem wg_eq (X V : BitVec 32) (hV : V.toNat < 256) : ∀ r : Nat, r < 4 → ((((X &&& ((255#32 <<< (8 * r)) ^^^ 4294967295#32)) ||| (V <<< (8 * r))).sshiftRight (8 * r)) &&& 255#32) = V := by
  intro r h2
  have hr : r = 0 ∨ r = 1 ∨ r = 2 ∨ r = 3 := by omega
  have hV8 : ∀ i, 8 ≤ i → V.getLsbD i = false := fun i h => by
    apply BitVec.getLsbD_of_toNat_lt
    · sorry
  apply BitVec.eq_of_getLsbD_eq
  intro i hi
  by_cases h8 : i < 8
  · simp only [BitVec.getLsbD_and, BitVec.getLsbD_or, BitVec.getLsbD_xor, BitVec.getLsbD_sshiftRight, BitVec.getLsbD_shiftLeft]
    have hi' : i = 0 ∨ i = 1 ∨ i = 2 ∨ i = 3 ∨ i = 4 ∨ i = 5 ∨ i = 6 ∨ i = 7 := by omega
    rcases hr with rfl | rfl | rfl | rfl <;> rcases hi' with rfl | rfl | rfl | rfl | rfl | rfl | rfl | rfl <;> simp
  · have : (255#32).getLsbD i = false := by
      simp only [BitVec.getLsbD_ofNat]
      have : Nat.testBit 255 i = false := by
        apply Nat.testBit_lt_two_pow
        calc 255 < 2 ^ 8 := by decide
          _ ≤ 2 ^ i := Nat.pow_le_pow_right (by decide) (by omega)
      simp [this]
    simp only [BitVec.getLsbD_and, this, Bool.and_false, hV8 i (by omega)]
