/-! a node is made in the class and in the reference -/
def SMk (cu n : Int) (b : Int) (k : Nat) : Prop := (b = 16 ∧ (k = 34 ∨ k = 35 ∨ k = 71 ∨ k = 72)) ∨ (b = 42 ∧ (k = 92 ∨ k = 93 ∨ k = 51)) ∨ (b = 43 ∧ k = 3) ∨ (b = 41 ∧ (k = 78 ∨ k = 40)) ∨ (b = 1000 + 10 * cu ∧ k = 64) ∨ (1000 + 10 * n ≤ b ∧ b ≤ 1000 + 10 * n + 9)
/-- the codes of a new node's objects -/
def cNd (c : Int → Int) (e x q1 q2 a1 a2 a3 a4 : Int) : Int → Int := fun a => if a = x then e else if a = q2 then e + 1 else if a = a4 then e + 2 else if a = a1 then e + 3 else if a = a2 then e + 4 else if a = a3 then e + 5 else if a = q1 then e + 6 else c a
section MKC
variable {p : RP} {c c' : Int → Int} {w w2 w3 w4 w5 w6 w8 w9 w10 w' A A' : Mm} {μ : MU} {f n e x q1 q2 a1 a2 a3 a4 k m M g i cu pp : Int} {L : List Int} {PL : Int → List Int}
theorem cNd_v (hN : NWN w w2 x q1 q2 a1 a2 a3 a4 n pp m) : cNd c e x q1 q2 a1 a2 a3 a4 x = e ∧ cNd c e x q1 q2 a1 a2 a3 a4 q2 = e + 1 ∧ cNd c e x q1 q2 a1 a2 a3 a4 a4 = e + 2 ∧ cNd c e x q1 q2 a1 a2 a3 a4 a1 = e + 3 ∧ cNd c e x q1 q2 a1 a2 a3 a4 a2 = e + 4 ∧ cNd c e x q1 q2 a1 a2 a3 a4 a3 = e + 5 ∧ cNd c e x q1 q2 a1 a2 a3 a4 q1 = e + 6 ∧ ∀ a, a ≠ x → a ≠ q2 → a ≠ a4 → a ≠ a1 → a ≠ a2 → a ≠ a3 → a ≠ q1 → cNd c e x q1 q2 a1 a2 a3 a4 a = c a := by
  obtain ⟨-, ⟨⟨n1, n2, n3, n4, n5, n6⟩, ⟨n7, n8, n9, n10, n11⟩, ⟨n12, n13, n14, n15⟩, ⟨n16, n17, n18⟩, ⟨n19, n20⟩, n21⟩, -⟩ := hN
  unfold cNd
  refine ⟨if_pos rfl, ?_, ?_, ?_, ?_, ?_, ?_, fun a z1 z2 z3 z4 z5 z6 z7 => ?_⟩
  · rw [if_neg n2.symm, if_pos rfl]
  · rw [if_neg n6.symm, if_neg n15.symm, if_pos rfl]
  · rw [if_neg n3.symm, if_neg n12.symm, if_neg n18, if_pos rfl]
  · rw [if_neg n4.symm, if_neg n13.symm, if_neg n20, if_neg n16.symm, if_pos rfl]
  · rw [if_neg n5.symm, if_neg n14.symm, if_neg n21, if_neg n17.symm, if_neg n19.symm, if_pos rfl]
  · rw [if_neg n1.symm, if_neg n7, if_neg n11, if_neg n8, if_neg n9, if_neg n10, if_pos rfl]
  · rw [if_neg z1, if_neg z2, if_neg z3, if_neg z4, if_neg z5, if_neg z6, if_neg z7]
/-- what was there is none of the new objects -/
theorem NWN.old (hN : NWN w w2 x q1 q2 a1 a2 a3 a4 n pp m) {a : Int} (h0 : w 0 a 0 ≠ 0 ∨ a = 0) : a ≠ x ∧ a ≠ q1 ∧ a ≠ q2 ∧ a ≠ a1 ∧ a ≠ a2 ∧ a ≠ a3 ∧ a ≠ a4 := by
  obtain ⟨⟨⟨f1, g1⟩, ⟨f2, g2⟩, ⟨f3, g3⟩, ⟨f4, g4⟩, ⟨f5, g5⟩, ⟨f6, g6⟩, f7, g7⟩, -⟩ := hN
  have key : ∀ z : Int, 0 < z → w 0 z 0 = 0 → a ≠ z := fun z z0 z1 e => by
    rcases h0 with h | h
    · exact h (by rw [e]; exact z1)
    · omega
  exact ⟨key _ f1 g1, key _ f2 g2, key _ f3 g3, key _ f4 g4, key _ f5 g5, key _ f6 g6, key _ f7 g7⟩
theorem NWN.upd (hN : NWN w w2 x q1 q2 a1 a2 a3 a4 n pp m) {S : Int → Nat → Prop} : UPd c S w w2 ∧ CXt w c (cNd c e x q1 q2 a1 a2 a3 a4) := by
  have key := fun (k : Nat) (a i : Int) (h0 : w 0 a 0 ≠ 0 ∨ a = 0) => by
    obtain ⟨z1, z2, z3, z4, z5, z6, z7⟩ := hN.old h0
    exact hN.2.2.1 k a i z1 z2 z3 z4 z5 z6 z7
  refine ⟨⟨fun k a i h0 _ => key k a i (Or.inl h0), fun k a i h0 _ => key k a i (Or.inl h0), fun k i _ => key k 0 i (Or.inr rfl)⟩, fun a h0 => ?_⟩
  obtain ⟨z1, z2, z3, z4, z5, z6, z7⟩ := hN.old (Or.inl h0)
  exact (cNd_v hN).2.2.2.2.2.2.2 a z1 z3 z7 z4 z5 z6 z2
theorem chl_mk (hT : TB μ M A) (hk : k < A 124 μ.1 0 ∨ k = A 124 μ.1 0) : m_chl μ k (m_mk1 μ g A) = (if k < A 124 μ.1 0 then m_chl μ k A else 0) + (if k = A 126 μ.1 0 then 1 else 0) := by
  have h124 := hT.1
  have h126 := hT.2.2.1
  obtain ⟨v216, v217, -⟩ := mk1_v (μ := μ) (g := g) (A := A)
  unfold m_chl
  rw [mk1_m.2.1, show (A 124 μ.1 0 + 1).toNat = (A 124 μ.1 0).toNat + 1 by omega]
  simp only [sumN]
  have e1 : m_chF k (m_mk1 μ g A) ((A 124 μ.1 0).toNat : Int) = if k = A 126 μ.1 0 then 1 else 0 := by
    rw [show (((A 124 μ.1 0).toNat : Nat) : Int) = A 124 μ.1 0 by omega]
    unfold m_chF
    rw [v216, v217]
    by_cases c : k = A 126 μ.1 0
    · rw [if_pos c]; exact (bi_t ⟨h124.1, rfl, c.symm⟩).symm
    · rw [if_neg c]; exact (bi_f (fun z => c z.2.2.symm)).symm
  have e2 : sumN (m_chF k (m_mk1 μ g A)) (A 124 μ.1 0).toNat = sumN (m_chF k A) (A 124 μ.1 0).toNat := sumN_cong fun j j0 j1 => by
    unfold m_chF
    rw [mk1_o (by decide) (by omega), mk1_o (by decide) (by omega)]
  rw [e1, e2]
  congr 1
  by_cases c : k < A 124 μ.1 0
  · rw [if_pos c]
  · rw [if_neg c]
    have : sumN (m_chF k A) (A 124 μ.1 0).toNat = sumN (fun _ => 0) (A 124 μ.1 0).toNat := sumN_cong fun j j0 j1 => by
      unfold m_chF
      have := (hT.2.2.2.2.2.2 j j0 (by omega)).2.1
      exact (bi_f (fun z => by omega)).symm
    rw [this]
    have hz : ∀ m : Nat, sumN (fun _ => 0) m = 0 := fun m => by
      induction m with
      | zero => rfl
      | succ m ih => show sumN _ m + 0 = 0; rw [ih]; rfl
    exact hz _
theorem ixN_cgm : ∀ L : List Int, (∀ q ∈ L, A' 218 0 q = A 218 0 q ∧ A' 220 0 q = A 220 0 q) → ixN A' L = ixN A L
  | [], _ => rfl
  | q :: qs, h => by
    show rng _ _ ++ ixN A' qs = rng _ _ ++ ixN A qs
    rw [(h q List.mem_cons_self).1, (h q List.mem_cons_self).2, ixN_cgm qs fun z hz => h z (List.mem_cons_of_mem _ hz)]
end MKC
