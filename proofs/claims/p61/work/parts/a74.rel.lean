/-! a node is made in the class: what the list comes to; the node's objects -/
theorem LAd.v {w w' : Mm} {l x : Int} (h : LAd l x w w') (hl : LSn w l) :
    w' 93 l 0 = w 93 l 0 + 1 ∧ (∀ (k : Nat) (a i : Int), w 0 a 0 ≠ 0 → (k ≠ 3 ∨ a ≠ w 51 l 0) → (k ≠ 93 ∨ a ≠ l) → (k ≠ 51 ∨ a ≠ l) → w' k a i = w k a i) ∧ (w' 0 (w' 51 l 0) 0 = 27 ∧ w 93 l 0 + 1 ≤ w' 2 (w' 51 l 0) 0 ∧ (w' 2 (w' 51 l 0) 0 ≤ 100000 ∨ w' 2 (w' 51 l 0) 0 ≤ w 93 l 0 + w 93 l 0 / 2 + 1)) ∧
    ((∀ i, 0 ≤ i → i < w 93 l 0 → w' 3 (w' 51 l 0) i = w 3 (w 51 l 0) i) ∧ w' 3 (w' 51 l 0) (w 93 l 0) = x) ∧ (∀ (k : Nat) (i : Int), w' k 0 i = w k 0 i ∨ k < 120) ∧ (w' 51 l 0 = w 51 l 0 ∨ (0 < w' 51 l 0 ∧ w 0 (w' 51 l 0) 0 = 0)) ∧ (∀ a, w' 0 a 0 = 0 → w 0 a 0 = 0) := by
  obtain ⟨⟨l0, l1, l2, l3, l4⟩, l5, l6⟩ := hl
  rcases h with ⟨h1, rfl⟩ | ⟨h1, q, n, ⟨q0, q1⟩, ⟨n0, n1⟩, rfl⟩
  · have e51 : a_put l x w 51 l 0 = w 51 l 0 := by unfold a_put; rw [up_k _ (by decide), up_k _ (by decide)]
    rw [e51]
    unfold a_put
    refine ⟨up_s _ _ _ _ _, fun k a i h0 z1 z2 z3 => ?_, ⟨?_, ?_, ?_⟩, ⟨fun i i0 i1 => ?_, ?_⟩, fun k i => ?_, Or.inl rfl, fun a ha => ?_⟩
    · by_cases c : k = 93
      · rw [up_a _ _ _ (z2.resolve_left (fun z => z c)), up_k _ (by rw [c]; decide)]
      · rw [up_k _ c]
        by_cases c2 : k = 3
        · exact up_a _ _ _ (z1.resolve_left (fun z => z c2)) _ _ _
        · exact up_k _ c2 _ _ _ _ _
    · rw [up_k _ (by decide), up_k _ (by decide)]; exact l1
    · rw [up_k _ (by decide), up_k _ (by decide)]; omega
    · rw [up_k _ (by decide), up_k _ (by decide)]; exact Or.inl l4
    · rw [up_k _ (by decide), up_i _ _ _ _ _ _ (by omega)]
    · rw [up_k _ (by decide), up_s]
    · by_cases c : k < 120
      · exact Or.inr c
      · left; rw [up_k _ (by omega), up_k _ (by omega)]
    · rw [up_k _ (by decide), up_k _ (by decide)] at ha; exact ha
  · have hlq : l ≠ q := fun e => by rw [e] at l0; omega
    have hBq : w 51 l 0 ≠ q := fun e => by rw [e] at l1; omega
    have e51 : a_put l x (a_grw l q n w) 51 l 0 = q := by unfold a_put a_grw; rw [up_k _ (by decide), up_k _ (by decide), up_s]
    have g51 : a_grw l q n w 51 l 0 = q := by unfold a_grw; rw [up_s]
    have g93 : a_grw l q n w 93 l 0 = w 93 l 0 := by unfold a_grw; rw [up_k _ (by decide), cpQ_k (by decide), newA_o hlq]
    have g3 : ∀ j, a_grw l q n w 3 q j = if 0 ≤ j ∧ j < 0 + w 2 (w 51 l 0) 0 then w 3 (w 51 l 0) j else 0 := fun j => by
      unfold a_grw
      rw [up_k _ (by decide)]
      unfold cpQ
      rw [flA_v]
      by_cases c : 0 ≤ j ∧ j < 0 + w 2 (w 51 l 0) 0
      · rw [if_pos c, if_pos c, newA_o hBq, show j - 0 + 0 = j by omega]
      · rw [if_neg c, if_neg c, newA_1 (Or.inr rfl)]
    have go : ∀ (k : Nat) (a i : Int), a ≠ q → (k ≠ 51 ∨ a ≠ l) → a_grw l q n w k a i = w k a i := fun k a i z1 z2 => by
      unfold a_grw
      by_cases c : k = 51
      · rw [up_a _ _ _ (z2.resolve_left (fun z => z c)), cpQ_a z1, newA_o z1]
      · rw [up_k _ c, cpQ_a z1, newA_o z1]
    rw [e51]
    unfold a_put
    rw [g51, g93]
    refine ⟨up_s _ _ _ _ _, fun k a i h0 z1 z2 z3 => ?_, ⟨?_, ?_, ?_⟩, ⟨fun i i0 i1 => ?_, ?_⟩, fun k i => ?_, Or.inr ⟨q0, q1⟩, fun a ha => ?_⟩
    · have haq : a ≠ q := fun e => h0 (by rw [e]; exact q1)
      by_cases c : k = 93
      · rw [up_a _ _ _ (z2.resolve_left (fun z => z c)), up_k _ (by rw [c]; decide)]; exact go k a i haq z3
      · rw [up_k _ c, up_a _ _ _ haq]; exact go k a i haq z3
    · rw [up_k _ (by decide), up_k _ (by decide)]; unfold a_grw; rw [up_k _ (by decide), cpQ_k (by decide), newA_t]
    · rw [up_k _ (by decide), up_k _ (by decide)]; unfold a_grw; rw [up_k _ (by decide), cpQ_k (by decide), newA_n]; omega
    · rw [up_k _ (by decide), up_k _ (by decide)]; unfold a_grw; rw [up_k _ (by decide), cpQ_k (by decide), newA_n]; right; omega
    · rw [up_k _ (by decide), up_i _ _ _ _ _ _ (by omega), g3, if_pos (by omega)]
    · rw [up_k _ (by decide), up_s]
    · by_cases c : k < 120
      · exact Or.inr c
      · left; rw [up_k _ (by omega), up_k _ (by omega)]; exact go k 0 i (by omega) (Or.inl (by omega))
    · by_cases c : a = q
      · rw [c]; exact q1
      · rw [up_k _ (by decide), up_k _ (by decide), go 0 a 0 c (Or.inl (by decide))] at ha; exact ha
