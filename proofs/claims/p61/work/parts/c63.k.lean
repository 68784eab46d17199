/-! the reference is made -/
/-- k arrays of the reference at m have come, its numbers are V -/
def PMk (m : Int) (w0 : Mm) (k : Nat) (V : Nat → Int) (w : Mm) : Prop :=
  (w 0 m 0 = 14 ∧ 0 < m) ∧ (∀ j : Nat, j < k → w 0 (w (500 + j) m 0) 0 = ((100 + j : Nat) : Int) ∧ w 2 (w (500 + j) m 0) 0 = mlen j) ∧
  (∀ a, w 0 a 0 < ((100 + k : Nat) : Int)) ∧ (∀ (c : Nat) (a i : Int), w0 0 a 0 ≠ 0 → a ≠ m → w c a i = w0 c a i) ∧ (∀ (c : Nat) (i : Int), w c 0 i = w0 c 0 i) ∧ ∀ c : Nat, 120 ≤ c → c < 140 → w c m 0 = V c
theorem PMk.nx {m q : Int} {w0 w : Mm} {k : Nat} {V : Nat → Int} (h : PMk m w0 k V w) (hf : ∀ a, w0 0 a 0 ≠ 0 → w 0 a 0 ≠ 0) (hq : 0 < q) (h0 : w 0 q 0 = 0) : PMk m w0 (k + 1) V (up (up (newA w q 20 (mlen k)) (500 + k) m 0 q) 0 q 0 ((100 + k : Nat) : Int)) := by
  obtain ⟨⟨h1, h2⟩, h3, h4, h5, h6, h7⟩ := h
  have hqm : m ≠ q := fun e => by rw [e] at h1; omega
  have o : ∀ (c : Nat) (a i : Int), a ≠ q → ¬ (c = 500 + k ∧ a = m ∧ i = 0) → up (up (newA w q 20 (mlen k)) (500 + k) m 0 q) 0 q 0 ((100 + k : Nat) : Int) c a i = w c a i := fun c a i x y => by
    rw [up_a _ _ _ x]
    simp only [up]
    rw [if_neg y, newA_o x]
  refine ⟨⟨(o _ _ _ hqm (by omega)).trans h1, h2⟩, fun j hj => ?_, fun a => ?_, fun c a i x y => ?_, fun c i => ?_, fun c x y => ?_⟩
  · by_cases e : j = k
    · subst e
      have e1 : up (up (newA w q 20 (mlen j)) (500 + j) m 0 q) 0 q 0 ((100 + j : Nat) : Int) (500 + j) m 0 = q := by rw [up_k _ (by omega), up_s]
      rw [e1, up_s, up_k _ (by decide), up_k _ (by omega), newA_n]
      exact ⟨rfl, rfl⟩
    · have hj' : j < k := by omega
      obtain ⟨g1, g2⟩ := h3 j hj'
      have e1 : up (up (newA w q 20 (mlen k)) (500 + k) m 0 q) 0 q 0 ((100 + k : Nat) : Int) (500 + j) m 0 = w (500 + j) m 0 := o _ _ _ hqm (by omega)
      have hx : w (500 + j) m 0 ≠ q := fun z => by rw [z] at g1; omega
      rw [e1, o _ _ _ hx (by omega), o _ _ _ hx (by omega)]
      exact ⟨g1, g2⟩
  · by_cases e : a = q
    · subst e; rw [up_s]; omega
    · rw [o _ _ _ e (by omega)]; have := h4 a; omega
  · have e : a ≠ q := fun z => hf a x (by rw [z]; exact h0)
    rw [o _ _ _ e (fun z => y z.2.1)]; exact h5 c a i x y
  · rw [o _ _ _ (by omega) (by omega)]; exact h6 c i
  · rw [o _ _ _ hqm (by omega)]; exact h7 c x y
theorem PMk.al {m : Int} {w0 w : Mm} {k : Nat} {V : Nat → Int} (h : PMk m w0 k V w) (a : Int) (x : w0 0 a 0 ≠ 0) : w 0 a 0 ≠ 0 := by
  by_cases e : a = m
  · rw [e, h.1.1]; decide
  · rw [h.2.2.2.1 0 a 0 x e]; exact x
theorem PMk.v {m v : Int} {w0 w : Mm} {k c0 : Nat} {V : Nat → Int} (h : PMk m w0 k V w) (hc : 120 ≤ c0 ∧ c0 < 140) : PMk m w0 k (fun c => if c = c0 then v else V c) (up w c0 m 0 v) := by
  obtain ⟨⟨h1, h2⟩, h3, h4, h5, h6, h7⟩ := h
  refine ⟨⟨(up_k _ (by omega) _ _ _ _ _).trans h1, h2⟩, fun j hj => ?_, fun a => ?_, fun c a i x y => ?_, fun c i => ?_, fun c x y => ?_⟩
  · rw [up_k _ (by omega), up_k _ (by omega), up_k _ (by omega)]; exact h3 j hj
  · rw [up_k _ (by omega)]; exact h4 a
  · rw [up_a _ _ _ y]; exact h5 c a i x y
  · rw [up_a _ _ _ (by omega)]; exact h6 c i
  · by_cases e : c = c0
    · subst e; dsimp only; rw [up_s, if_pos rfl]
    · dsimp only; rw [up_k _ e, if_neg e]; exact h7 c x y
theorem PMk.rm {m : Int} {w0 w : Mm} {V : Nat → Int} (h : PMk m w0 47 V w) : RM w (m, fun j => w (500 + j) m 0) := ⟨h.1.1, fun j hj => ⟨rfl, (h.2.1 j hj).1, (h.2.1 j hj).2⟩⟩
section XMN
variable {κ : KC} {P S P' S' : Nat} {w w0 : Mm} {pc : Nat} {ls : List (Option Value)} {st : List Value} {cc : ByteArray} {m : Int} {k : Nat} {V : Nat → Int}
end XMN
