/-! chains grow; characters come into the live desk -/
section QAP
variable {c : Int → Int} {S : Int → Nat → Prop} {w w1 w' : Mm} {t x k p n g s o : Int} {L M : List Int}
theorem CHa.nz : ∀ {L : List Int} {p e : Int}, CHa w p L e → e ≠ 0 → p ≠ 0 ∧ ∀ z ∈ L, w 33 z 0 ≠ 0
  | [], _, _, h, he => ⟨by have h : _ = _ := h; omega, fun _ hz => absurd hz (List.not_mem_nil)⟩
  | x :: xs, _, _, h, he => by
    obtain ⟨h1, h2⟩ := CHa.nz h.2 he
    refine ⟨by have := h.1; omega, fun z hz => ?_⟩
    rcases List.mem_cons.mp hz with rfl | hz
    · exact h1
    · exact h2 z hz
theorem CHa.mem0 : ∀ {L : List Int} {p e : Int}, CHa w p L e → ∀ z ∈ L, z ≠ 0
  | [], _, _, _ => fun _ hz => absurd hz (List.not_mem_nil)
  | x :: xs, _, _, h => fun z hz => by
    rcases List.mem_cons.mp hz with rfl | hz
    · exact h.1.2
    · exact CHa.mem0 h.2 z hz
theorem lst_or (L : List Int) : L = [] ∨ ∃ M y, L = M ++ [y] := by
  induction L with
  | nil => exact Or.inl rfl
  | cons x xs ih =>
    rcases ih with rfl | ⟨M, y, rfl⟩
    · exact Or.inr ⟨[], x, rfl⟩
    · exact Or.inr ⟨x :: M, y, rfl⟩
theorem k_step_v : k_step t x k p n g w 0 x 0 = 7 ∧ k_step t x k p n g w 68 x 0 = k ∧ k_step t x k p n g w 69 x 0 = p ∧ k_step t x k p n g w 70 x 0 = n ∧ k_step t x k p n g w 32 x 0 = g := by
  unfold k_step
  rw [q_app_k (by decide) (by decide) (by decide) (by decide) (by decide), q_app_k (by decide) (by decide) (by decide) (by decide) (by decide), q_app_k (by decide) (by decide) (by decide) (by decide) (by decide), q_app_k (by decide) (by decide) (by decide) (by decide) (by decide), q_app_k (by decide) (by decide) (by decide) (by decide) (by decide)]
  refine ⟨stepO_t, ?_, ?_, ?_, ?_⟩
  · unfold stepO; rw [up_k _ (by decide), up_k _ (by decide), up_k _ (by decide), up_s]
  · unfold stepO; rw [up_k _ (by decide), up_k _ (by decide), up_s]
  · unfold stepO; rw [up_k _ (by decide), up_s]
  · unfold stepO; rw [up_s]
theorem UPd.sK (u : UPd c S w w1) (hx : 0 < x ∧ w 0 x 0 = 0) (ht : S (c t) 34 ∧ S (c t) 35 ∧ S (c t) 71 ∧ S (c t) 72) (htx : t ≠ x) (hl : w1 35 t 0 = 0 ∨ w 0 (w1 35 t 0) 0 = 0 ∨ S (c (w1 35 t 0)) 33) : UPd c S w (k_step t x k p n g w1) := by
  have u2 : UPd c S w (stepO x k p n g w1) := by
    unfold stepO
    exact ((((u.sO hx.1 hx.2).sU (by decide) (Or.inl hx.2)).sU (by decide) (Or.inl hx.2)).sU (by decide) (Or.inl hx.2)).sU (by decide) (Or.inl hx.2)
  have e35 : stepO x k p n g w1 35 t 0 = w1 35 t 0 := stepO_a htx
  unfold k_step q_app
  dsimp only
  have u3 : UPd c S w (if stepO x k p n g w1 35 t 0 = 0 then up (stepO x k p n g w1) 34 t 0 x else up (stepO x k p n g w1) 33 (stepO x k p n g w1 35 t 0) 0 x) := by
    split
    · exact u2.sU (by decide) (Or.inr ht.1)
    · rename_i hn
      rw [e35] at hn ⊢
      exact u2.sU (by decide) (hl.resolve_left hn)
  have u4 := (u3.sU (k := 35) (a := t) (i := 0) (v := x) (by decide) (Or.inr ht.2.1)).sU (k := 71) (a := t) (i := 0) (v := stepO x k p n g w1 71 t 0 + 1) (by decide) (Or.inr ht.2.2.1)
  split
  · exact u4.sU (by decide) (Or.inr ht.2.2.2)
  · exact u4
/-- the chain of a step that is appended -/
theorem k_step_Q (h : vQs w t L) (ht : w 0 t 0 = 8) (hx : 0 < x) (hf : w 0 x 0 = 0) : vQs (k_step t x k p n g w) t (L ++ [x]) := by
  have htx : t ≠ x := fun e => by rw [e] at ht; omega
  obtain ⟨hC, q1, q2, q3, q4⟩ := h
  have hxL : ∀ z ∈ L, z ≠ x := fun z hz e => by have := q4 z hz; rw [e] at this; omega
  obtain ⟨W, hW⟩ : ∃ W, W = stepO x k p n g w := ⟨_, rfl⟩
  have eW : ∀ (c : Nat) (a i : Int), a ≠ x → W c a i = w c a i := fun c a i ha => by rw [hW]; exact stepO_a ha
  have e68 : W 68 x 0 = k := by rw [hW]; unfold stepO; rw [up_k _ (by decide), up_k _ (by decide), up_k _ (by decide), up_s]
  have e33 : W 33 x 0 = 0 := by rw [hW]; unfold stepO; rw [up_k _ (by decide), up_k _ (by decide), up_k _ (by decide), up_k _ (by decide)]; unfold newO; rw [if_pos ⟨rfl, rfl, Or.inr (by decide)⟩, if_neg (by decide)]
  have e0 : W 0 x 0 = 7 := by rw [hW]; exact stepO_t
  obtain ⟨V, hV⟩ : ∃ V, V = k_step t x k p n g w := ⟨_, rfl⟩
  have hVq : V = q_app t x W := by rw [hV, hW]; rfl
  rw [← hV]
  have v0 : ∀ a, V 0 a 0 = W 0 a 0 := fun a => by rw [hVq]; exact q_app_k (by decide) (by decide) (by decide) (by decide) (by decide)
  have v68 : ∀ a, V 68 a 0 = W 68 a 0 := fun a => by rw [hVq]; exact q_app_k (by decide) (by decide) (by decide) (by decide) (by decide)
  have hk : W 68 x 0 ≤ 3 ∨ ¬ W 68 x 0 ≤ 3 := Classical.em _
  have v35 : V 35 t 0 = x := by
    rw [hVq]; unfold q_app
    rcases hk with hk | hk
    · rw [if_pos hk, up_k _ (by decide), up_k _ (by decide), up_s]
    · rw [if_neg hk, up_k _ (by decide), up_s]
  have v71 : V 71 t 0 = w 71 t 0 + 1 := by
    rw [hVq]; unfold q_app
    rcases hk with hk | hk
    · rw [if_pos hk, up_k _ (by decide), up_s, eW _ _ _ htx]
    · rw [if_neg hk, up_s, eW _ _ _ htx]
  have hW1 : ∀ (c : Nat) (a : Int), c ≠ 33 → c ≠ 34 → (if W 35 t 0 = 0 then up W 34 t 0 x else up W 33 (W 35 t 0) 0 x) c a 0 = W c a 0 := fun c a h1 h2 => by
    by_cases c0 : W 35 t 0 = 0
    · rw [if_pos c0, up_k _ h2]
    · rw [if_neg c0, up_k _ h1]
  have v72 : V 72 t 0 = w 72 t 0 + if k ≤ 3 then 1 else 0 := by
    rw [hVq]; unfold q_app
    rcases hk with hk | hk
    · rw [if_pos hk, up_s, eW _ _ _ htx, if_pos (by rw [← e68]; exact hk)]
    · rw [if_neg hk, up_k _ (by decide), up_k _ (by decide), hW1 72 t (by decide) (by decide), eW _ _ _ htx, if_neg (by rw [← e68]; exact hk), Int.add_zero]
  have v33 : ∀ a, V 33 a 0 = if w 35 t 0 ≠ 0 ∧ a = w 35 t 0 then x else W 33 a 0 := fun a => by
    have hh : (if W 35 t 0 = 0 then up W 34 t 0 x else up W 33 (W 35 t 0) 0 x) 33 a 0 = if w 35 t 0 ≠ 0 ∧ a = w 35 t 0 then x else W 33 a 0 := by
      rw [eW 35 t 0 htx]
      by_cases c0 : w 35 t 0 = 0
      · rw [if_pos c0, if_neg (fun h => h.1 c0), up_k _ (by decide)]
      · rw [if_neg c0]
        by_cases c1 : a = w 35 t 0
        · rw [if_pos ⟨c0, c1⟩, c1, up_s]
        · rw [if_neg (fun h => c1 h.2), up_a _ _ _ c1]
    rw [hVq]; unfold q_app
    rcases hk with hk | hk
    · rw [if_pos hk, up_k _ (by decide), up_k _ (by decide), up_k _ (by decide)]; exact hh
    · rw [if_neg hk, up_k _ (by decide), up_k _ (by decide)]; exact hh
  have v34 : V 34 t 0 = if w 35 t 0 = 0 then x else w 34 t 0 := by
    have hh : (if W 35 t 0 = 0 then up W 34 t 0 x else up W 33 (W 35 t 0) 0 x) 34 t 0 = if w 35 t 0 = 0 then x else w 34 t 0 := by
      rw [eW 35 t 0 htx]
      by_cases c0 : w 35 t 0 = 0
      · rw [if_pos c0, if_pos c0, up_s]
      · rw [if_neg c0, if_neg c0, up_k _ (by decide), eW _ _ _ htx]
    rw [hVq]; unfold q_app
    rcases hk with hk | hk
    · rw [if_pos hk, up_k _ (by decide), up_k _ (by decide), up_k _ (by decide)]; exact hh
    · rw [if_neg hk, up_k _ (by decide), up_k _ (by decide)]; exact hh
  refine ⟨?_, by rw [v35, lsA_app], by rw [v71, q2]; simp, ?_, fun z hz => ?_⟩
  · rcases lst_or L with rfl | ⟨M, y, rfl⟩
    · have h35 : w 35 t 0 = 0 := q1
      rw [v34, if_pos h35]
      refine ⟨⟨rfl, by omega⟩, ?_⟩
      show V 33 x 0 = 0
      rw [v33, if_neg (fun h => h.1 h35)]; exact e33
    · have hy : w 35 t 0 = y := by rw [q1, lsA_app]
      obtain ⟨q, c1, ⟨c2, c3⟩, c4⟩ := hC.spl
      have c4 : w 33 y 0 = 0 := c4
      subst c2
      have hM := c1.nz c3
      rw [v34, if_neg (by omega)]
      refine CHa.app (q := x) (CHa.app (q := q) (c1.cg fun z hz => ?_) ⟨⟨rfl, c3⟩, ?_⟩) ⟨⟨rfl, by omega⟩, ?_⟩
      · rw [v33, if_neg (fun h => hM.2 z hz (by rw [h.2, hy]; exact c4)), eW _ _ _ (hxL z (by simp [hz]))]
      · show V 33 q 0 = x
        rw [v33, if_pos ⟨by omega, hy.symm⟩]
      · show V 33 x 0 = 0
        rw [v33, if_neg (fun h => hxL q (by simp) (by omega))]; exact e33
  · rw [v72, q3, tcA_app, tcA_cg (w := w) (w' := V) (fun z hz => by rw [v68, eW _ _ _ (hxL z hz)])]
    simp only [tcA]; rw [v68, e68]; omega
  · rw [v0]
    rcases List.mem_append.mp hz with hz | hz
    · rw [eW _ _ _ (hxL z hz)]; exact q4 z hz
    · rw [List.mem_singleton.mp hz]; exact e0
end QAP
