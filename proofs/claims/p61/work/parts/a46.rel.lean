/-! a level's loops and the big steps -/
section RTL
variable {p : RP} {w w0 A A' A0 ρ : Mm} {μ : MU} {f m k l s t s' t' r' u v S P M tt : Int} {n N : Nat}
theorem RT.dn (h : RT μ n false l s t A s' t' r' A') (hd : A 238 0 l = 0 ∨ A 236 0 (A 237 0 l) = 0) : s' = s ∧ t' = t ∧ r' = 0 ∧ A' = A := by
  cases n with
  | zero => exact h.elim
  | succ n =>
    rcases h with z | z | z
    · exact z.2
    · exact absurd hd z.1
    · exact absurd hd z.1
theorem RT.ag (h : RT μ n false l s t A s' t' r' A') (hd : ¬ (A 238 0 l = 0 ∨ A 236 0 (A 237 0 l) = 0)) (he : A 239 0 l = A 236 0 (A 237 0 l)) : ∃ n', n' < n ∧ RT μ n' false l s t (up (up A 239 0 l 0) 238 0 l (A 238 0 l - 1)) s' t' r' A' := by
  cases n with
  | zero => exact h.elim
  | succ n =>
    rcases h with z | z | z
    · exact absurd z.1 hd
    · exact ⟨n, Nat.lt_succ_self _, z.2.2⟩
    · exact absurd he z.2.1
theorem RT.sta (h : RT μ n false l s t A s' t' r' A') (hd : ¬ (A 238 0 l = 0 ∨ A 236 0 (A 237 0 l) = 0)) (he : A 239 0 l ≠ A 236 0 (A 237 0 l)) : ∃ n', n' + 2 = n ∧ ∃ sa ta ra Aa, RT μ (n' + 1) true l s t A sa ta ra Aa ∧ ((ra = 0 ∧ RT μ (n' + 1) false l sa ta Aa s' t' r' A') ∨ (ra ≠ 0 ∧ sa = s' ∧ ta = t' ∧ ra = r' ∧ Aa = A')) := by
  cases n with
  | zero => exact h.elim
  | succ n =>
    rcases h with z | z | ⟨-, -, z⟩
    · exact absurd z.1 hd
    · exact absurd z.2.1 he
    · cases n with
      | zero =>
        rcases z with ⟨_, _, _, z, _⟩ | ⟨z, _⟩
        · exact z.elim
        · exact z.elim
      | succ n =>
        rcases z with ⟨sa, ta, Aa, z1, z2⟩ | ⟨z1, z2⟩
        · exact ⟨n, rfl, sa, ta, 0, Aa, z1, Or.inl ⟨rfl, z2⟩⟩
        · exact ⟨n, rfl, s', t', r', A', z1, Or.inr ⟨z2, rfl, rfl, rfl, rfl⟩⟩
/-- a time through the macro is over -/
theorem RNS.nxt (hN : RNS p μ f ρ w0 A0 w A s t u v) (hG : GI μ S P M l s A) (hl : 1 ≤ l) (hm : A 237 0 l = m) (hj : A 239 0 l = A 236 0 m) (hk : A 236 0 m ≠ 0 → A 238 0 l = k - tt) (ht : tt < k) (hRT : RT μ n false l s t A s' t' r' A') (hn : n ≤ N) :
    ∃ A3 n3, RNS p μ f ρ w0 A0 w A3 s t u v ∧ GI μ S P M l s A3 ∧ (A3 237 0 l = m ∧ A3 239 0 l = 0) ∧ (A3 236 0 m ≠ 0 → A3 238 0 l = k - (tt + 1)) ∧ RT μ n3 false l s t A3 s' t' r' A' ∧ n3 ≤ N := by
  by_cases h0 : A 236 0 m = 0
  · exact ⟨A, n, hN, hG, ⟨hm, by omega⟩, fun z => absurd h0 z, hRT, hn⟩
  · have h8 := hk h0
    obtain ⟨n', k1, k2⟩ := hRT.ag (by rw [hm]; omega) (by rw [hm]; exact hj)
    obtain ⟨c, σ, G, h⟩ := hN
    refine ⟨_, n', ⟨c, σ, G, h.cg hG.1.1.2.2.2.2.1 hG.2.1.2.1.1 (fun c x i z1 z2 z3 => by rw [up_k _ (by omega), up_k _ (by omega)])⟩, hG.nx hl (by omega), ⟨by rw [up_k _ (by decide), up_k _ (by decide)]; exact hm, by rw [up_k _ (by decide), up_s]⟩, fun _ => by rw [up_s]; omega, k2, by omega⟩
end RTL
