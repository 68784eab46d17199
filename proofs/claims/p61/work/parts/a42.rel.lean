/-! a run of the reference, big steps: a level until it ends (false), one command of it (true) -/
def RT (μ : MU) : Nat → Bool → Int → Int → Int → Mm → Int → Int → Int → Mm → Prop
  | 0, _, _, _, _, _, _, _, _, _ => False
  | n + 1, false, l, s, t, A, s', t', r', A' =>
    ((A 238 0 l = 0 ∨ A 236 0 (A 237 0 l) = 0) ∧ s' = s ∧ t' = t ∧ r' = 0 ∧ A' = A) ∨
    (¬ (A 238 0 l = 0 ∨ A 236 0 (A 237 0 l) = 0) ∧ A 239 0 l = A 236 0 (A 237 0 l) ∧ RT μ n false l s t (up (up A 239 0 l 0) 238 0 l (A 238 0 l - 1)) s' t' r' A') ∨
    (¬ (A 238 0 l = 0 ∨ A 236 0 (A 237 0 l) = 0) ∧ A 239 0 l ≠ A 236 0 (A 237 0 l) ∧ ((∃ s1 t1 A1, RT μ n true l s t A s1 t1 0 A1 ∧ RT μ n false l s1 t1 A1 s' t' r' A') ∨ (RT μ n true l s t A s' t' r' A' ∧ r' ≠ 0)))
  | n + 1, true, l, s, t, A, s', t', r', A' =>
    (s = 24 ∧ s' = s ∧ t' = t ∧ r' = 8 ∧ A' = m_fail μ 8 (A 237 0 l) (A 239 0 l) A) ∨
    (s ≠ 24 ∧ A 235 0 (m_gat l A) = 16 ∧ s' = s + 1 ∧ t' = s + 1 ∧ r' = 0 ∧ A' = m_saves μ 3 (m_gpl l A)) ∨
    (s ≠ 24 ∧ A 235 0 (m_gat l A) ≠ 16 ∧ A 235 0 (m_gat l A) ≠ 15 ∧ s' = s + 1 ∧ t' = t ∧ r' = (m_gdo μ l A).1 ∧ A' = if (m_gdo μ l A).1 = 0 then (m_gdo μ l A).2 else m_fail μ (m_gdo μ l A).1 (A 237 0 l) (A 239 0 l) (m_gdo μ l A).2) ∨
    (s ≠ 24 ∧ A 235 0 (m_gat l A) = 15 ∧ l = 5 ∧ s' = s + 1 ∧ t' = t ∧ r' = 7 ∧ A' = m_fail μ 7 (A 237 0 l) (A 239 0 l) (m_gpl l A)) ∨
    (s ≠ 24 ∧ A 235 0 (m_gat l A) = 15 ∧ l ≠ 5 ∧ RT μ n false (l + 1) (s + 1) t (m_gdn l (A 235 0 (m_gat l A + 1)) (A 235 0 (m_gat l A + 2)) (m_gpl l A)) s' t' r' A')
theorem RT.up1 {μ : MU} : ∀ {n : Nat} {b : Bool} {l s t s' t' r' : Int} {A A' : Mm}, RT μ n b l s t A s' t' r' A' → RT μ (n + 1) b l s t A s' t' r' A' := by
  intro n
  induction n with
  | zero => intro b l s t s' t' r' A A' h; exact h.elim
  | succ n ih =>
    intro b l s t s' t' r' A A' h
    cases b with
    | false =>
      rcases h with h | ⟨h1, h2, h3⟩ | ⟨h1, h2, ⟨s1, t1, A1, h3, h4⟩ | ⟨h3, h4⟩⟩
      · exact Or.inl h
      · exact Or.inr (Or.inl ⟨h1, h2, ih h3⟩)
      · exact Or.inr (Or.inr ⟨h1, h2, Or.inl ⟨s1, t1, A1, ih h3, ih h4⟩⟩)
      · exact Or.inr (Or.inr ⟨h1, h2, Or.inr ⟨ih h3, h4⟩⟩)
    | true =>
      rcases h with h | h | h | h | ⟨h1, h2, h3, h4⟩
      · exact Or.inl h
      · exact Or.inr (Or.inl h)
      · exact Or.inr (Or.inr (Or.inl h))
      · exact Or.inr (Or.inr (Or.inr (Or.inl h)))
      · exact Or.inr (Or.inr (Or.inr (Or.inr ⟨h1, h2, h3, ih h4⟩)))
theorem RT.mono {μ : MU} {n m : Nat} {b : Bool} {l s t s' t' r' : Int} {A A' : Mm} (h : RT μ n b l s t A s' t' r' A') (hm : n ≤ m) : RT μ m b l s t A s' t' r' A' := by
  induction hm with
  | refl => exact h
  | step _ ih => exact RT.up1 ih
def RE (μ : MU) (b : Bool) (l s t : Int) (A : Mm) (s' t' r' : Int) (A' : Mm) : Prop := ∃ n, RT μ n b l s t A s' t' r' A'
section REC
variable {μ : MU} {l s t s1 t1 s' t' r' : Int} {A A1 A' : Mm}
theorem RE.done (h : A 238 0 l = 0 ∨ A 236 0 (A 237 0 l) = 0) : RE μ false l s t A s t 0 A := ⟨1, Or.inl ⟨h, rfl, rfl, rfl, rfl⟩⟩
theorem RE.again (h1 : ¬ (A 238 0 l = 0 ∨ A 236 0 (A 237 0 l) = 0)) (h2 : A 239 0 l = A 236 0 (A 237 0 l)) (k : RE μ false l s t (up (up A 239 0 l 0) 238 0 l (A 238 0 l - 1)) s' t' r' A') : RE μ false l s t A s' t' r' A' := by
  obtain ⟨n, k⟩ := k
  exact ⟨n + 1, Or.inr (Or.inl ⟨h1, h2, k⟩)⟩
theorem RE.ok (h1 : ¬ (A 238 0 l = 0 ∨ A 236 0 (A 237 0 l) = 0)) (h2 : A 239 0 l ≠ A 236 0 (A 237 0 l)) (k1 : RE μ true l s t A s1 t1 0 A1) (k2 : RE μ false l s1 t1 A1 s' t' r' A') : RE μ false l s t A s' t' r' A' := by
  obtain ⟨n, k1⟩ := k1
  obtain ⟨m, k2⟩ := k2
  exact ⟨n + m + 1, Or.inr (Or.inr ⟨h1, h2, Or.inl ⟨s1, t1, A1, k1.mono (by omega), k2.mono (by omega)⟩⟩)⟩
theorem RE.bad (h1 : ¬ (A 238 0 l = 0 ∨ A 236 0 (A 237 0 l) = 0)) (h2 : A 239 0 l ≠ A 236 0 (A 237 0 l)) (k : RE μ true l s t A s' t' r' A') (hr : r' ≠ 0) : RE μ false l s t A s' t' r' A' := by
  obtain ⟨n, k⟩ := k
  exact ⟨n + 1, Or.inr (Or.inr ⟨h1, h2, Or.inr ⟨k, hr⟩⟩)⟩
theorem RE.many (h : s = 24) : RE μ true l s t A s t 8 (m_fail μ 8 (A 237 0 l) (A 239 0 l) A) := ⟨1, Or.inl ⟨h, rfl, rfl, rfl, rfl⟩⟩
theorem RE.chk (h : s ≠ 24) (h2 : A 235 0 (m_gat l A) = 16) : RE μ true l s t A (s + 1) (s + 1) 0 (m_saves μ 3 (m_gpl l A)) := ⟨1, Or.inr (Or.inl ⟨h, h2, rfl, rfl, rfl, rfl⟩)⟩
theorem RE.cmd (h : s ≠ 24) (h2 : A 235 0 (m_gat l A) ≠ 16) (h3 : A 235 0 (m_gat l A) ≠ 15) (h4 : (m_gdo μ l A).1 = 0) : RE μ true l s t A (s + 1) t 0 (m_gdo μ l A).2 := ⟨1, Or.inr (Or.inr (Or.inl ⟨h, h2, h3, rfl, rfl, h4.symm, by rw [if_pos h4]⟩))⟩
theorem RE.cmdF (h : s ≠ 24) (h2 : A 235 0 (m_gat l A) ≠ 16) (h3 : A 235 0 (m_gat l A) ≠ 15) (h4 : (m_gdo μ l A).1 ≠ 0) : RE μ true l s t A (s + 1) t (m_gdo μ l A).1 (m_fail μ (m_gdo μ l A).1 (A 237 0 l) (A 239 0 l) (m_gdo μ l A).2) := ⟨1, Or.inr (Or.inr (Or.inl ⟨h, h2, h3, rfl, rfl, rfl, by rw [if_neg h4]⟩))⟩
theorem RE.deep (h : s ≠ 24) (h3 : A 235 0 (m_gat l A) = 15) (hl : l = 5) : RE μ true l s t A (s + 1) t 7 (m_fail μ 7 (A 237 0 l) (A 239 0 l) (m_gpl l A)) := ⟨1, Or.inr (Or.inr (Or.inr (Or.inl ⟨h, h3, hl, rfl, rfl, rfl, rfl⟩)))⟩
theorem RE.sub (h : s ≠ 24) (h3 : A 235 0 (m_gat l A) = 15) (hl : l ≠ 5) (k : RE μ false (l + 1) (s + 1) t (m_gdn l (A 235 0 (m_gat l A + 1)) (A 235 0 (m_gat l A + 2)) (m_gpl l A)) s' t' r' A') : RE μ true l s t A s' t' r' A' := by
  obtain ⟨n, k⟩ := k
  exact ⟨n + 1, Or.inr (Or.inr (Or.inr (Or.inr ⟨h, h3, hl, k⟩)))⟩
end REC
theorem grun_end {μ : MU} {n : Nat} {l s t r : Int} {A : Mm} {R : Int × Int × Int × Mm} (hr : r ≠ 0) (h : m_grun μ n l s t r A = some R) : R = (s, t, r, A) := by
  cases n with
  | zero => cases h
  | succ n => rw [grun_step, if_pos (Or.inr hr)] at h; exact (Option.some.inj h).symm
/-- each run that ends has its big steps -/
theorem RE.ex {μ : MU} {R : Int × Int × Int × Mm} : ∀ (N n : Nat) (l s t : Int) (A : Mm), n < N → 1 ≤ l → m_grun μ n l s t 0 A = some R →
    ∃ s' t' r' A', RE μ false l s t A s' t' r' A' ∧ ((r' = 0 ∧ ∃ n', n' < n ∧ m_grun μ n' (l - 1) s' t' 0 A' = some R) ∨ (r' ≠ 0 ∧ R = (s', t', r', A'))) := by
  intro N
  induction N with
  | zero => intro n l s t A h; exact absurd h (Nat.not_lt_zero _)
  | succ N ih =>
    intro n l s t A hn hl h
    cases n with
    | zero => cases h
    | succ n =>
      rw [grun_step, if_neg (by omega)] at h
      by_cases c1 : A 238 0 l = 0 ∨ A 236 0 (A 237 0 l) = 0
      · rw [if_pos c1] at h
        exact ⟨s, t, 0, A, RE.done c1, Or.inl ⟨rfl, n, Nat.lt_succ_self _, h⟩⟩
      · rw [if_neg c1] at h
        by_cases c2 : A 239 0 l = A 236 0 (A 237 0 l)
        · rw [if_pos c2] at h
          obtain ⟨s', t', r', A', k1, k2⟩ := ih n l s t _ (by omega) hl h
          refine ⟨s', t', r', A', RE.again c1 c2 k1, k2.imp (fun z => ⟨z.1, ?_⟩) id⟩
          obtain ⟨-, n', z1, z2⟩ := z
          exact ⟨n', by omega, z2⟩
        · rw [if_neg c2] at h
          have hok : ∀ {s1 t1 : Int} {A1 : Mm} {m : Nat}, m ≤ n → RE μ true l s t A s1 t1 0 A1 → m_grun μ m l s1 t1 0 A1 = some R → ∃ s' t' r' A', RE μ false l s t A s' t' r' A' ∧ ((r' = 0 ∧ ∃ n', n' < n + 1 ∧ m_grun μ n' (l - 1) s' t' 0 A' = some R) ∨ (r' ≠ 0 ∧ R = (s', t', r', A'))) := fun {s1 t1 A1 m} hm q1 q2 => by
            obtain ⟨s', t', r', A', k1, k2⟩ := ih m l s1 t1 A1 (by omega) hl q2
            refine ⟨s', t', r', A', RE.ok c1 c2 q1 k1, k2.imp (fun z => ⟨z.1, ?_⟩) id⟩
            obtain ⟨-, n', z1, z2⟩ := z
            exact ⟨n', by omega, z2⟩
          have hbad : ∀ {s1 t1 r1 : Int} {A1 : Mm}, r1 ≠ 0 → RE μ true l s t A s1 t1 r1 A1 → R = (s1, t1, r1, A1) → ∃ s' t' r' A', RE μ false l s t A s' t' r' A' ∧ ((r' = 0 ∧ ∃ n', n' < n + 1 ∧ m_grun μ n' (l - 1) s' t' 0 A' = some R) ∨ (r' ≠ 0 ∧ R = (s', t', r', A'))) := fun hr q1 q2 => ⟨_, _, _, _, RE.bad c1 c2 q1 hr, Or.inr ⟨hr, q2⟩⟩
          by_cases c3 : s = 24
          · rw [if_pos c3] at h
            exact hbad (by decide) (RE.many c3) (grun_end (by decide) h)
          · rw [if_neg c3] at h
            by_cases c4 : A 235 0 (m_gat l A) = 16
            · rw [if_pos c4] at h
              exact hok (Nat.le_refl _) (RE.chk c3 c4) h
            · rw [if_neg c4] at h
              by_cases c5 : A 235 0 (m_gat l A) ≠ 15
              · rw [if_pos c5] at h
                by_cases c6 : (m_gdo μ l A).1 = 0
                · rw [if_pos c6] at h
                  exact hok (Nat.le_refl _) (RE.cmd c3 c4 c5 c6) h
                · rw [if_neg c6] at h
                  exact hbad c6 (RE.cmdF c3 c4 c5 c6) (grun_end c6 h)
              · rw [if_neg c5] at h
                have c5 : A 235 0 (m_gat l A) = 15 := Classical.not_not.mp c5
                by_cases c7 : l = 5
                · rw [if_pos c7] at h
                  exact hbad (by decide) (RE.deep c3 c5 c7) (grun_end (by decide) h)
                · rw [if_neg c7] at h
                  obtain ⟨s', t', r', A', k1, k2⟩ := ih n (l + 1) (s + 1) t _ (by omega) (by omega) h
                  rcases k2 with ⟨z1, n', z2, z3⟩ | ⟨z1, z2⟩
                  · subst z1
                    rw [show l + 1 - 1 = l by omega] at z3
                    exact hok (by omega) (RE.sub c3 c5 c7 k1) z3
                  · exact hbad z1 (RE.sub c3 c5 c7 k1) z2
/-- the whole run is one level's big steps -/
theorem RE.top {μ : MU} {R : Int × Int × Int × Mm} {n : Nat} {s t : Int} {A : Mm} (h : m_grun μ n 1 s t 0 A = some R) : RE μ false 1 s t A R.1 R.2.1 R.2.2.1 R.2.2.2 := by
  obtain ⟨s', t', r', A', k1, k2⟩ := RE.ex (n + 1) n 1 s t A (Nat.lt_succ_self _) (Int.le_refl _) h
  rcases k2 with ⟨rfl, n', -, z⟩ | ⟨-, rfl⟩
  · cases n' with
    | zero => cases z
    | succ n' =>
      rw [grun_step, if_pos (Or.inl (by decide))] at z
      have e := Option.some.inj z
      rw [← e]; exact k1
  · exact k1
