/-! what big steps keep -/
def RTo (μ : MU) (S P M l s : Int) (A : Mm) (b : Bool) (s' r' : Int) (A' : Mm) : Prop :=
  s ≤ s' ∧ (r' = 0 → GI μ S P M (if b = true then l else l - 1) s' A') ∧ (r' ≠ 0 → ∃ l', GI μ S P M l' s' A') ∧ (∀ (c : Nat) (i : Int), 237 ≤ c → c ≤ 239 → i < l → r' = 0 → A' c 0 i = A c 0 i) ∧
  (b = true → r' = 0 → A' 237 0 l = A 237 0 l ∧ A' 238 0 l = A 238 0 l ∧ A' 239 0 l = A 239 0 l + 1) ∧ ∀ (c : Nat) (i : Int), c = 235 ∨ c = 236 → A' c 0 i = A c 0 i
theorem RT.gi {μ : MU} {S P M : Int} : ∀ {n : Nat} {b : Bool} {l s t s' t' r' : Int} {A A' : Mm}, RT μ n b l s t A s' t' r' A' → GI μ S P M l s A → 1 ≤ l → (b = true → A 239 0 l ≠ A 236 0 (A 237 0 l)) → RTo μ S P M l s A b s' r' A' := by
  intro n
  induction n with
  | zero => intro b l s t s' t' r' A A' h; exact h.elim
  | succ n ih =>
    intro b l s t s' t' r' A A' h hG hl hb
    cases b with
    | false =>
      rcases h with ⟨h1, rfl, rfl, rfl, rfl⟩ | ⟨h1, h2, h3⟩ | ⟨h1, h2, ⟨s1, t1, A1, h3, h4⟩ | ⟨h3, h4⟩⟩
      · exact ⟨Int.le_refl _, fun _ => hG.pop, fun z => absurd rfl z, fun _ _ _ _ _ _ => rfl, fun z => (Bool.noConfusion z), fun _ _ _ => rfl⟩
      · obtain ⟨k1, k2, k3, k4, k5, k6⟩ := ih h3 (hG.nx hl (fun z => h1 (Or.inl z))) hl (fun z => (Bool.noConfusion z))
        refine ⟨k1, k2, k3, fun c i x y z r0 => ?_, fun z => (Bool.noConfusion z), fun c i x => ?_⟩
        · rw [k4 c i x y z r0, up_i _ _ _ _ _ _ (by omega), up_i _ _ _ _ _ _ (by omega)]
        · rw [k6 c i x, up_k _ (by omega), up_k _ (by omega)]
      · obtain ⟨k1, k2, k3, k4, k5, k6⟩ := ih h3 hG hl (fun _ => h2)
        have hG1 : GI μ S P M l s1 A1 := k2 rfl
        obtain ⟨m1, m2, m3, m4, m5, m6⟩ := ih h4 hG1 hl (fun z => (Bool.noConfusion z))
        exact ⟨by omega, m2, m3, fun c i x y z r0 => (m4 c i x y z r0).trans (k4 c i x y z rfl), fun z => (Bool.noConfusion z), fun c i x => (m6 c i x).trans (k6 c i x)⟩
      · obtain ⟨k1, k2, k3, k4, k5, k6⟩ := ih h3 hG hl (fun _ => h2)
        exact ⟨k1, fun z => absurd z h4, k3, fun _ _ _ _ _ z => absurd z h4, fun z => (Bool.noConfusion z), k6⟩
    | true =>
      have hp := hb rfl
      obtain ⟨hcv, hat, hm4, hp15⟩ := hG.cv hl hp
      have g5 : ∀ {c : Nat} {i : Int}, c ≠ 239 ∨ i ≠ l → m_gpl l A c 0 i = A c 0 i := fun {c i} z => by
        unfold m_gpl
        by_cases y : c = 239
        · rw [up_i _ _ _ _ _ _ (by omega)]
        · rw [up_k _ y]
      have g9 : m_gpl l A 239 0 l = A 239 0 l + 1 := by unfold m_gpl; rw [up_s]
      have fl : ∀ {r m q : Int} {B : Mm} {c : Nat} {i : Int}, 200 ≤ c → m_fail μ r m q B c 0 i = B c 0 i := fun x => by unfold m_fail; rw [up_k _ (by omega), up_k _ (by omega)]
      rcases h with ⟨h1, rfl, rfl, rfl, rfl⟩ | ⟨h1, h2, rfl, rfl, rfl, rfl⟩ | ⟨h1, h2, h3, rfl, rfl, rfl, rfl⟩ | ⟨h1, h2, h3, rfl, rfl, rfl, rfl⟩ | ⟨h1, h2, h3, h4⟩
      · exact ⟨Int.le_refl _, fun z => absurd z (by decide), fun _ => ⟨l, hG.fl⟩, fun _ _ _ _ _ z => absurd z (by decide), fun _ z => absurd z (by decide), fun c i x => fl (by omega)⟩
      · have hOn := (hG.on hl hp h1).sv
        refine ⟨by omega, fun _ => hOn, fun z => absurd rfl z, fun c i x y z _ => ?_, fun _ _ => ⟨?_, ?_, ?_⟩, fun c i x => ?_⟩
        · rw [saves_at (by omega), g5 (by omega)]
        · rw [saves_at (by omega), g5 (by omega)]
        · rw [saves_at (by omega), g5 (by omega)]
        · rw [saves_at (by omega), g9]
        · rw [saves_at (by omega), g5 (by omega)]
      · have hc14 : A 235 0 (m_gat l A) ≤ 14 := by have := hcv.1; omega
        have h0 : LB μ (S + 2 * s) (P + 20 * s) (m_gpl l A) := hG.1.up_o (by decide)
        have hD : GI μ S P M l (s + 1) (m_gdo μ l A).2 := hG.ds h1 (hG.on hl hp h1) h0 hcv hc14
        have hL : LO (m_gpl l A) (m_gdo μ l A).2 := LO.does h0 hcv hc14
        have e : ∀ {c : Nat} {i : Int}, 214 ≤ c → c ≤ 239 → (m_gdo μ l A).2 c 0 i = m_gpl l A c 0 i := fun x y => hL.2 _ _ _ (by omega) (by unfold LOk; simp; omega)
        by_cases c6 : (m_gdo μ l A).1 = 0
        · rw [if_pos c6]
          refine ⟨by omega, fun _ => hD, fun z => absurd c6 z, fun c i x y z _ => by rw [e (by omega) (by omega), g5 (by omega)], fun _ _ => ⟨by rw [e (by omega) (by omega), g5 (by omega)], by rw [e (by omega) (by omega), g5 (by omega)], by rw [e (by omega) (by omega), g9]⟩, fun c i x => by rw [e (by omega) (by omega), g5 (by omega)]⟩
        · rw [if_neg c6]
          exact ⟨by omega, fun z => absurd z c6, fun _ => ⟨l, hD.fl⟩, fun _ _ _ _ _ z => absurd z c6, fun _ z => absurd z c6, fun c i x => by rw [fl (by omega), e (by omega) (by omega), g5 (by omega)]⟩
      · exact ⟨by omega, fun z => absurd z (by decide), fun _ => ⟨l, (hG.on hl hp h1).fl⟩, fun _ _ _ _ _ z => absurd z (by decide), fun _ z => absurd z (by decide), fun c i x => by rw [fl (by omega), g5 (by omega)]⟩
      · have hargs := hcv.2.2.2.2.2.2.2.2.2.2 h2
        have harga := hcv.2.2.2.2.2.2.1 (Or.inr (Or.inr h2))
        have hDn := (hG.on hl hp h1).dn h3 (a := A 235 0 (m_gat l A + 1)) (b := A 235 0 (m_gat l A + 2)) (by omega) (by omega)
        obtain ⟨k1, k2, k3, k4, k5, k6⟩ := ih h4 hDn (by omega) (fun z => (Bool.noConfusion z))
        have d5 : ∀ {a b : Int} {c : Nat} {i : Int}, i < l + 1 ∨ (c ≠ 237 ∧ c ≠ 238 ∧ c ≠ 239) → m_gdn l a b (m_gpl l A) c 0 i = m_gpl l A c 0 i := fun {a b c i} z => by
          unfold m_gdn
          rcases z with z | z
          · rw [up_i _ _ _ _ _ _ (by omega), up_i _ _ _ _ _ _ (by omega), up_i _ _ _ _ _ _ (by omega)]
          · rw [up_k _ z.2.2, up_k _ z.2.1, up_k _ z.1]
        refine ⟨by omega, fun z => ?_, k3, fun c i x y z r0 => ?_, fun _ r0 => ⟨?_, ?_, ?_⟩, fun c i x => ?_⟩
        · have := k2 z
          rw [if_neg (by decide), show l + 1 - 1 = l by omega] at this
          exact this
        · rw [k4 c i x y (by omega) r0, d5 (by omega), g5 (by omega)]
        · rw [k4 237 l (by decide) (by decide) (by omega) r0, d5 (by omega), g5 (by omega)]
        · rw [k4 238 l (by decide) (by decide) (by omega) r0, d5 (by omega), g5 (by omega)]
        · rw [k4 239 l (by decide) (by decide) (by omega) r0, d5 (by omega), g9]
        · rw [k6 c i x, d5 (by omega), g5 (by omega)]
