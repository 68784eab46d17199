/-! a run: how it failed, and what is so when it is over -/
theorem RT.r34 {μ : MU} {S P M : Int} : ∀ {n : Nat} {b : Bool} {l s t s' t' r' : Int} {A A' : Mm}, RT μ n b l s t A s' t' r' A' → GI μ S P M l s A → 1 ≤ l → (b = true → A 239 0 l ≠ A 236 0 (A 237 0 l)) → (r' = 0 → A' 134 μ.1 0 = A 134 μ.1 0 ∧ A' 135 μ.1 0 = A 135 μ.1 0) ∧ (r' ≠ 0 → A' 134 μ.1 0 = r') := by
  intro n
  induction n with
  | zero => intro b l s t s' t' r' A A' h; exact h.elim
  | succ n ih =>
    intro b l s t s' t' r' A A' h hG hl hb
    cases b with
    | false =>
      rcases h with ⟨h1, rfl, rfl, rfl, rfl⟩ | ⟨h1, h2, h3⟩ | ⟨h1, h2, ⟨s1, t1, A1, h3, h4⟩ | ⟨h3, h4⟩⟩
      · exact ⟨fun _ => ⟨rfl, rfl⟩, fun z => absurd rfl z⟩
      · obtain ⟨k1, k2⟩ := ih h3 (hG.nx hl (fun z => h1 (Or.inl z))) hl (fun z => (Bool.noConfusion z))
        refine ⟨fun z => ?_, k2⟩
        have := k1 z
        rw [up_k _ (by decide), up_k _ (by decide), up_k _ (by decide), up_k _ (by decide)] at this; exact this
      · obtain ⟨k1, k2⟩ := ih h3 hG hl (fun _ => h2)
        have hG1 : GI μ S P M l s1 A1 := (h3.gi hG hl (fun _ => h2)).2.1 rfl
        obtain ⟨m1, m2⟩ := ih h4 hG1 hl (fun z => (Bool.noConfusion z))
        exact ⟨fun z => ⟨(m1 z).1.trans (k1 rfl).1, (m1 z).2.trans (k1 rfl).2⟩, m2⟩
      · obtain ⟨k1, k2⟩ := ih h3 hG hl (fun _ => h2)
        exact ⟨fun z => absurd z h4, k2⟩
    | true =>
      have hp := hb rfl
      obtain ⟨hcv, hat, hm4, hp15⟩ := hG.cv hl hp
      have g5 : ∀ {c : Nat} {a i : Int}, c ≠ 239 → m_gpl l A c a i = A c a i := fun z => by unfold m_gpl; exact up_k _ z _ _ _ _ _
      have f4 : ∀ {r m q : Int} {B : Mm}, m_fail μ r m q B 134 μ.1 0 = r := by intro r m q B; unfold m_fail; rw [up_k _ (by decide), up_s]
      rcases h with ⟨h1, rfl, rfl, rfl, rfl⟩ | ⟨h1, h2, rfl, rfl, rfl, rfl⟩ | ⟨h1, h2, h3, rfl, rfl, rfl, rfl⟩ | ⟨h1, h2, h3, rfl, rfl, rfl, rfl⟩ | ⟨h1, h2, h3, h4⟩
      · exact ⟨fun z => absurd z (by decide), fun _ => f4⟩
      · exact ⟨fun _ => ⟨by rw [saves_at (by decide), g5 (by decide)], by rw [saves_at (by decide), g5 (by decide)]⟩, fun z => absurd rfl z⟩
      · have hc14 : A 235 0 (m_gat l A) ≤ 14 := by have := hcv.1; omega
        have h0 : LB μ (S + 2 * s) (P + 20 * s) (m_gpl l A) := hG.1.up_o (by decide)
        have hL : LO (m_gpl l A) (m_gdo μ l A).2 := LO.does h0 hcv hc14
        by_cases c6 : (m_gdo μ l A).1 = 0
        · rw [if_pos c6]
          exact ⟨fun _ => ⟨by rw [hL.2 _ _ _ (by decide) (by decide), g5 (by decide)], by rw [hL.2 _ _ _ (by decide) (by decide), g5 (by decide)]⟩, fun z => absurd c6 z⟩
        · rw [if_neg c6]
          exact ⟨fun z => absurd z c6, fun _ => f4⟩
      · exact ⟨fun z => absurd z (by decide), fun _ => f4⟩
      · have hargs := hcv.2.2.2.2.2.2.2.2.2.2 h2
        have harga := hcv.2.2.2.2.2.2.1 (Or.inr (Or.inr h2))
        have hDn := (hG.on hl hp h1).dn h3 (a := A 235 0 (m_gat l A + 1)) (b := A 235 0 (m_gat l A + 2)) (by omega) (by omega)
        obtain ⟨k1, k2⟩ := ih h4 hDn (by omega) (fun z => (Bool.noConfusion z))
        refine ⟨fun z => ?_, k2⟩
        have := k1 z
        unfold m_gdn at this
        rw [up_k _ (by decide), up_k _ (by decide), up_k _ (by decide), up_k _ (by decide), up_k _ (by decide), up_k _ (by decide), g5 (by decide), g5 (by decide)] at this
        exact this
/-- the reference's side of a run, from where it was saved -/
def GFb (μ : MU) (A B : Mm) : Prop := (∀ (c : Nat) (a i : Int), (122 ≤ c ∧ c ≤ 133) ∨ c = 139 ∨ c = 211 ∨ (216 ≤ c ∧ c ≤ 236) → B c a i = A c a i) ∧ SLb 2 A B ∧ (B 214 0 2 = A 214 0 2 ∧ B 215 0 2 = A 215 0 2) ∧ AP μ A B
theorem st0_nn (k : Nat) : 0 ≤ st0 k := by
  unfold st0
  repeat' split
  all_goals decide
theorem GFb.of {μ : MU} {A B : Mm} (h : GF μ (m_saves μ 3 A) B) (h201 : A 201 0 0 ≤ 400) (h3 : B 201 0 3 ≤ 400) : GFb μ A B ∧ GFb μ A (m_rest μ 3 0 B) := by
  obtain ⟨g1, g2, g3, g4, g5, g6⟩ := h
  have e : ∀ {c : Nat} {x i : Int}, c < 200 ∨ (210 < c ∧ c ≠ 214 ∧ c ≠ 215) → m_saves μ 3 A c x i = A c x i := fun z => saves_at z
  have q1 : ∀ (c : Nat) (a i : Int), (122 ≤ c ∧ c ≤ 133) ∨ c = 139 ∨ c = 211 ∨ (216 ≤ c ∧ c ≤ 236) → B c a i = A c a i := fun c a i z => by
    rw [g1 c a i (by unfold gfK; simp; omega), e (by omega)]
  have s2 : ∀ (k : Nat) (j : Int), 200 ≤ k → k ≤ 210 → 2 * st0 k ≤ j → j < 3 * st0 k → m_saves μ 3 A k 0 j = A k 0 j := fun k j x y z1 z2 => by
    rw [saves_cpy k j x y]; exact cpy_o ⟨x, y⟩ (Or.inl z2) h201
  have q2 : SLb 2 A B := fun k j x y z1 z2 => by rw [g2 k j x y z1 z2, s2 k j x y z1 z2]
  have q3 : B 214 0 2 = A 214 0 2 ∧ B 215 0 2 = A 215 0 2 := by
    refine ⟨g3.1.trans ?_, g3.2.trans ?_⟩
    · unfold m_saves m_cpA; rw [up_k _ (by decide), up_i _ _ _ _ _ _ (by decide), cpQ_at (by decide), cpP_at (by decide), cpT_at (by decide)]
    · unfold m_saves m_cpA; rw [up_i _ _ _ _ _ _ (by decide), up_k _ (by decide), cpQ_at (by decide), cpP_at (by decide), cpT_at (by decide)]
  obtain ⟨a1, a2, a3, a4⟩ := g4
  have e120 : m_saves μ 3 A 120 μ.1 0 = A 120 μ.1 0 := e (by decide)
  have e121 : m_saves μ 3 A 121 μ.1 0 = A 121 μ.1 0 := e (by decide)
  have r0 : ∀ {c : Nat} {x i : Int}, (c < 200 ∧ c ≠ 120 ∧ c ≠ 121) ∨ 210 < c → m_rest μ 3 0 B c x i = B c x i := fun z => rest_at z
  have hAP : AP μ A B := ⟨by rw [← e120]; exact a1, by rw [← e121]; exact a2, fun i i0 i1 => by rw [a3 i i0 (by rw [e120]; exact i1), e (by decide)], fun j j0 j1 => (a4 j j0 (by rw [e121]; exact j1)).trans (pby_cong (e (by decide)))⟩
  refine ⟨⟨q1, q2, q3, hAP⟩, fun c a i z => ?_, fun k j x y z1 z2 => ?_, ⟨?_, ?_⟩, ?_, ?_, fun i i0 i1 => ?_, fun j j0 j1 => ?_⟩
  · rw [r0 (by omega)]; exact q1 c a i z
  · rw [rest_cpy k j x y, cpy_o ⟨x, y⟩ (Or.inr (by have := st0_nn k; omega)) h3]; exact q2 k j x y z1 z2
  · rw [r0 (by decide)]; exact q3.1
  · rw [r0 (by decide)]; exact q3.2
  · rw [rest_120.1, ← e120]; exact g5
  · rw [rest_120.2, ← e121]; exact g6
  · rw [r0 (by decide)]; exact hAP.2.2.1 i i0 i1
  · exact (pby_cong (r0 (by decide))).trans (hAP.2.2.2 j j0 j1)
section RUB
variable {p : RP} {w w0 w' A B : Mm} {μ : MU} {f M S P : Int} {c σ : Int → Int} {G : Int → Int → Int}
theorem CHK.big (h : CHK p μ f w0 A) (hT : TB μ M A) (hM : M ≤ 600) (s1 : SB 1 A) (h2 : SB 2 A) (hz : A 123 μ.1 0 ≤ A 121 μ.1 0) (hg : GFb μ A B) (r : RLm (pU p c σ G) μ f (lvS σ μ B) w' B) (hLV : LIV μ G (pr_ p (A 126 μ.1 0)) B) (u : UPd (pc_ p) (SRn (A 122 μ.1 0)) w0 w') (hc : CXt w0 (pc_ p) c) (hk : ∀ k, k < A 120 μ.1 0 → σ k = ps_ p k ∧ G k = pg_ p k) :
    CHK (pU p c σ G) μ f w' B := by
  have hlk := h.lk
  obtain ⟨⟨h1, h9, hl1⟩, ⟨hs1, hs2, hs3⟩, hl2⟩ := h
  obtain ⟨g1, g2, ⟨g3, g3'⟩, g4⟩ := hg
  have e122 : B 122 μ.1 0 = A 122 μ.1 0 := g1 _ _ _ (by decide)
  have e123 : B 123 μ.1 0 = A 123 μ.1 0 := g1 _ _ _ (by decide)
  have e126 : B 126 μ.1 0 = A 126 μ.1 0 := g1 _ _ _ (by decide)
  have hl := hl1.b0.1
  have hf := h1.1.2.1.1
  have hd2 := h1.1.2.2.1.2.1
  have hb : bB B := hLV.b0.2.2.2
  have h6 : bPb B := hLV.b0.2.2.1
  have e42 : w' 42 f 0 = w0 42 f 0 := u.g (by omega) hf.2 (fun z => by unfold SRn SDb at z; omega)
  refine ⟨⟨r, ?_, ?_⟩, ⟨?_, by rw [e122, g3]; have := g4.1; omega, by rw [g3']; have := g4.2.1; omega⟩, ?_⟩
  · exact h9.app hT hM s1 hl1.b0.2.2.2 hl1.b0.2.2.1 (TSx.of (fun c a i z => g1 c a i (by omega)) (fun i i0 i1 => g4.2.2.1 i i0 (by omega)) (fun j j0 j1 => g4.2.2.2 j j0 (by omega))) h6 (fun k k0 k1 => (hk k (by omega)).2)
  · rw [e126]; exact hLV
  · rw [e42]
    have q : lvK σ μ B 2 = lvK (ps_ p) μ A 2 := by
      unfold lvK; rw [g3, e122]
      exact List.map_congr_left fun i hi => (hk i (by have := rng_mem.mp hi; omega)).1
    show SVd _ w' B (w0 42 f 0) 2 (lvK σ μ B 2)
    rw [q]
    exact hs1.frL hd2.1 hd2.2 (Or.inl rfl) (by decide) h2.2.2.2.2.1 u hc (fun b' k x y z => by unfold SRn SDb at z; omega) (fun k z => by unfold SRn SDb at z; omega) hlk (fun b x z => by unfold SRn SDb at z; omega) g2
  · rw [e126]
    exact hl2.keepR (by decide) h2 g2 g3 g3' e122 e123 (fun j j0 j1 => g4.2.2.1 j j0 (by omega)) (fun j j0 j1 => g4.2.2.2 j j0 (by omega)) hb h6 (fun r => g1 _ _ _ (by decide)) (fun k k0 k1 => (hk k (by omega)).2)
end RUB
