/-! a desk taken over from another: what it comes to -/
/-- the desk d takes over o's places and steps, its state as Y has it -/
def tkY (d o : Int) (w Y : Mm) : Mm := q_ext (w 12 d 0) (w 12 o 0) (d_copy d o Y 4)
/-- Y has the text and marks of o in d, and stores of d as it likes -/
def tkS (d o : Int) (w Y : Mm) : Prop := ∀ (k : Nat) (a i : Int), ¬ (k = 3 ∧ a = w 31 (w 11 d 0) 0) → Y k a i = t_tm (w 11 d 0) (w 11 o 0) w k a i
theorem ne_c {c : Int → Int} {u v cu cv : Int} (h1 : c u = cu) (h2 : c v = cv) (h3 : cu ≠ cv) : u ≠ v := fun e => h3 (by rw [← h1, ← h2, e])
section TKA
variable {c c' : Int → Int} {w Y V A : Mm} {d o b b' lo i j : Int} {L : List Int}
theorem tkS.k (h : tkS d o w Y) {k : Nat} {a i : Int} (h1 : k ≠ 1) (h3 : k ≠ 3) (h67 : k ≠ 67) : Y k a i = w k a i := by
  rw [h k a i (fun z => h3 z.1)]; exact t_tmj_k h1 h67
theorem tkY_k (h : tkS d o w Y) {k : Nat} {a i : Int} (h1 : k ≠ 1) (h3 : k ≠ 3) (h33 : k ≠ 33) (h34 : k ≠ 34) (h35 : k ≠ 35) (h60 : k ≠ 60) (h61 : k ≠ 61) (h67 : k ≠ 67) (h71 : k ≠ 71) (h72 : k ≠ 72) : tkY d o w Y k a i = w k a i := by
  unfold tkY q_ext
  try dsimp only
  have e : d_copy d o Y 4 k a i = w k a i := by
    unfold d_copy; rw [flA_k h1, flA_k h1, up_k _ h60, up_k _ h61]; exact h.k h1 h3 h67
  split
  · rw [up_k _ h72, up_k _ h71, up_k _ h35, up_k _ h34]; exact e
  · rw [up_k _ h33, up_k _ h72, up_k _ h71, up_k _ h35, up_k _ h34]; exact e
theorem tkY_c (h1 : j ≠ 33) {k : Nat} {a i : Int} (hk : k ≠ 33 ∧ k ≠ 34 ∧ k ≠ 35 ∧ k ≠ 71 ∧ k ≠ 72) : tkY d o w Y k a i = d_copy d o Y 4 k a i := by
  unfold tkY q_ext
  try dsimp only
  split
  · rw [up_k _ hk.2.2.2.2, up_k _ hk.2.2.2.1, up_k _ hk.2.2.1, up_k _ hk.2.1]
  · rw [up_k _ hk.1, up_k _ hk.2.2.2.2, up_k _ hk.2.2.2.1, up_k _ hk.2.2.1, up_k _ hk.2.1]
theorem tkS.upd (h : tkS d o w Y) (hd : sDk c b w d) : UPd c (SDb b lo) w Y := by
  obtain ⟨⟨a1, a2⟩, ⟨⟨s1, s2⟩, ⟨b1, b2⟩, ⟨c1, c2, c3⟩, ⟨d1, d2, d3⟩, e1, e2, e3⟩, h2, ⟨f1, f2⟩, ⟨g1, g2, g3⟩, h3, h4, h5⟩ := hd
  have u : UPd c (SDb b lo) w (t_tm (w 11 d 0) (w 11 o 0) w) := by
    unfold t_tm t_tmj t_tm1 cpA
    exact (((UPd.refl.sF (by decide) (Or.inr (by unfold SDb; omega))).sU (by decide) (Or.inr (by unfold SDb; omega))).sF (by decide) (Or.inr (by unfold SDb; omega))).sF (by decide) (Or.inr (by unfold SDb; omega))
  refine ⟨fun k a i h0 hs => ?_, fun k a i h0 hk => ?_, fun k i hk => ?_⟩
  · rw [h k a i (fun z => hs (by rw [z.1, z.2]; unfold SDb; omega))]; exact u.1 k a i h0 hs
  · rw [h k a i (by omega)]; exact u.2.1 k a i h0 hk
  · rw [h k 0 i (by omega)]; exact u.2.2 k i hk
theorem tkY.upd (h : tkS d o w Y) (hd : sDk c b w d) (ho : sDk c b' w o) (hl : w 35 (w 12 o 0) 0 = 0 ∨ c (w 35 (w 12 o 0) 0) ≤ -(lo + 1)) : UPd c (SDb b lo) w (tkY d o w Y) := by
  have u := h.upd (lo := lo) hd
  obtain ⟨⟨a1, a2⟩, ⟨⟨s1, s2⟩, ⟨b1, b2⟩, ⟨c1, c2, c3⟩, ⟨d1, d2, d3⟩, e1, e2, e3⟩, h2, ⟨f1, f2⟩, ⟨g1, g2, g3⟩, h3, h4, h5⟩ := hd
  have u2 : UPd c (SDb b lo) w (d_copy d o Y 4) := by
    unfold d_copy
    rw [h.k (k := 13) (by decide) (by decide) (by decide), h.k (k := 14) (by decide) (by decide) (by decide)]
    exact (((u.sU (by decide) (Or.inr (by unfold SDb; omega))).sU (by decide) (Or.inr (by unfold SDb; omega))).sF (by decide) (Or.inr (by unfold SDb; omega))).sF (by decide) (Or.inr (by unfold SDb; omega))
  have e35 : d_copy d o Y 4 35 (w 12 o 0) 0 = w 35 (w 12 o 0) 0 := by
    unfold d_copy; rw [flA_k (by decide), flA_k (by decide), up_k _ (by decide), up_k _ (by decide), h.k (by decide) (by decide) (by decide)]
  unfold tkY q_ext
  try dsimp only
  rw [e35]
  have u3 := (((u2.sU (k := 34) (a := w 12 d 0) (i := 0) (v := d_copy d o Y 4 34 (w 12 o 0) 0) (by decide) (Or.inr (by unfold SDb; omega))).sU (k := 35) (a := w 12 d 0) (i := 0) (v := w 35 (w 12 o 0) 0) (by decide) (Or.inr (by unfold SDb; omega))).sU (k := 71) (a := w 12 d 0) (i := 0) (v := d_copy d o Y 4 71 (w 12 o 0) 0) (by decide) (Or.inr (by unfold SDb; omega))).sU (k := 72) (a := w 12 d 0) (i := 0) (v := d_copy d o Y 4 72 (w 12 o 0) 0) (by decide) (Or.inr (by unfold SDb; omega))
  split
  · exact u3
  · rename_i hn
    exact u3.sU (by decide) (Or.inr (by unfold SDb; exact Or.inr (Or.inl ⟨hl.resolve_left hn, rfl⟩)))
/-- the desk's places -/
theorem tkY.pl (h : tkS d o w Y) (hd : sDk c b w d) (ho : sDk c b' w o) (hb : b + 8 < b' ∨ b' + 8 < b) : tkY d o w Y 60 d 0 = w 60 o 0 ∧ tkY d o w Y 61 d 0 = w 61 o 0 ∧ ∀ j, 0 ≤ j → j < 4 → tkY d o w Y 1 (w 13 d 0) j = w 1 (w 13 o 0) j ∧ tkY d o w Y 1 (w 14 d 0) j = w 1 (w 14 o 0) j := by
  obtain ⟨⟨a1, a2⟩, ⟨⟨s1, s2⟩, ⟨b1, b2⟩, ⟨c1, c2, c3⟩, ⟨d1, d2, d3⟩, e1, e2, e3⟩, h2, ⟨f1, f2⟩, ⟨g1, g2, g3⟩, h3, h4, h5⟩ := hd
  obtain ⟨⟨A1, A2⟩, ⟨⟨S1, S2⟩, ⟨B1, B2⟩, ⟨C1, C2, C3⟩, ⟨D1, D2, D3⟩, E1, E2, E3⟩, H2, ⟨F1, F2⟩, ⟨G1, G2, G3⟩, H3, H4, H5⟩ := ho
  have k13 : ∀ (x : Int), Y 13 x 0 = w 13 x 0 := fun x => h.k (by decide) (by decide) (by decide)
  have k14 : ∀ (x : Int), Y 14 x 0 = w 14 x 0 := fun x => h.k (by decide) (by decide) (by decide)
  have n1 : d ≠ o := ne_c a2 A2 (by omega)
  have y1 : ∀ {a j : Int} {ca : Int}, c a = ca → (ca = b' + 7 ∨ ca = b' + 8 ∨ ca = b + 7 ∨ ca = b + 8) → Y 1 a j = w 1 a j := fun {a j ca} q z => by
    rw [h 1 a j (by omega)]
    exact t_tmj_1 (ne_c q b2 (by omega)) (ne_c q c3 (by omega)) (ne_c q d3 (by omega))
  refine ⟨?_, ?_, fun j j0 j1 => ?_⟩
  · rw [tkY_c (j := 0) (by decide) (by decide)]; unfold d_copy
    rw [flA_k (by decide), flA_k (by decide), up_s, h.k (by decide) (by decide) (by decide)]
  · rw [tkY_c (j := 0) (by decide) (by decide)]; unfold d_copy
    rw [flA_k (by decide), flA_k (by decide), up_k _ (by decide), up_s, h.k (by decide) (by decide) (by decide)]
  · rw [tkY_c (j := 0) (by decide) (by decide), tkY_c (j := 0) (by decide) (by decide)]; unfold d_copy
    rw [k13, k14, k13, k14]
    constructor
    · rw [flA_a (ne_c g3 h5 (by omega)), flA_v, if_pos (by omega)]
      exact y1 G3 (by omega)
    · rw [flA_v, if_pos (by omega)]
      exact y1 H5 (by omega)
/-- its state -/
theorem tkY.st (h : tkS d o w Y) (hd : sDk c b w d) (ho : sDk c b' w o) (hb : b + 8 < b' ∨ b' + 8 < b) :
    tkY d o w Y 67 (w 11 d 0) 0 = w 67 (w 11 o 0) 0 ∧ (∀ j, 0 ≤ j → j < w 67 (w 11 o 0) 0 → tkY d o w Y 1 (w 28 (w 11 d 0) 0) j = w 1 (w 28 (w 11 o 0) 0) j) ∧ (∀ j, 0 ≤ j → j < 6 → tkY d o w Y 1 (w 29 (w 11 d 0) 0) j = w 1 (w 29 (w 11 o 0) 0) j ∧ tkY d o w Y 1 (w 30 (w 11 d 0) 0) j = w 1 (w 30 (w 11 o 0) 0) j) ∧ ∀ a j, tkY d o w Y 3 a j = Y 3 a j := by
  obtain ⟨⟨a1, a2⟩, ⟨⟨s1, s2⟩, ⟨b1, b2⟩, ⟨c1, c2, c3⟩, ⟨d1, d2, d3⟩, e1, e2, e3⟩, h2, ⟨f1, f2⟩, ⟨g1, g2, g3⟩, h3, h4, h5⟩ := hd
  obtain ⟨⟨A1, A2⟩, ⟨⟨S1, S2⟩, ⟨B1, B2⟩, ⟨C1, C2, C3⟩, ⟨D1, D2, D3⟩, E1, E2, E3⟩, H2, ⟨F1, F2⟩, ⟨G1, G2, G3⟩, H3, H4, H5⟩ := ho
  have y1 : ∀ {a j : Int} {ca : Int}, c a = ca → (ca = b + 2 ∨ ca = b + 3 ∨ ca = b + 4) → tkY d o w Y 1 a j = t_tm (w 11 d 0) (w 11 o 0) w 1 a j := fun {a j ca} q z => by
    rw [tkY_c (j := 0) (by decide) (by decide)]; unfold d_copy
    rw [h.k (k := 13) (by decide) (by decide) (by decide), h.k (k := 14) (by decide) (by decide) (by decide), flA_a (ne_c q h5 (by omega)), flA_a (ne_c q g3 (by omega)), up_k _ (by decide), up_k _ (by decide)]
    exact h 1 a j (by omega)
  refine ⟨?_, fun j j0 j1 => ?_, fun j j0 j1 => ⟨?_, ?_⟩, fun a j => ?_⟩
  · rw [tkY_c (j := 0) (by decide) (by decide)]; unfold d_copy
    rw [flA_k (by decide), flA_k (by decide), up_k _ (by decide), up_k _ (by decide), h 67 _ _ (by omega)]
    unfold t_tm t_tmj t_tm1; rw [flA_k (by decide), flA_k (by decide), up_s]
  · rw [y1 b2 (by omega)]
    unfold t_tm t_tmj t_tm1 cpA
    rw [flA_a (ne_c b2 d3 (by omega)), flA_a (ne_c b2 c3 (by omega)), up_k _ (by decide), flA_v, if_pos (by omega), show j - 0 + 0 = j by omega]
  · rw [y1 c3 (by omega)]
    unfold t_tm t_tmj
    rw [flA_a (ne_c c3 d3 (by omega)), flA_v, if_pos (by omega)]
  · rw [y1 d3 (by omega)]
    unfold t_tm t_tmj
    rw [flA_v, if_pos (by omega)]
  · rw [tkY_c (j := 0) (by decide) (by decide)]; unfold d_copy
    rw [flA_k (by decide), flA_k (by decide), up_k _ (by decide), up_k _ (by decide)]
/-- its chain -/
theorem tkY.ch (h : tkS d o w Y) (hn : w 12 d 0 ≠ w 12 o 0) : tkY d o w Y 34 (w 12 d 0) 0 = w 34 (w 12 o 0) 0 ∧ tkY d o w Y 35 (w 12 d 0) 0 = w 35 (w 12 o 0) 0 ∧ tkY d o w Y 71 (w 12 d 0) 0 = w 71 (w 12 o 0) 0 ∧ tkY d o w Y 72 (w 12 d 0) 0 = w 72 (w 12 o 0) 0 ∧ ∀ a, tkY d o w Y 33 a 0 = if w 35 (w 12 o 0) 0 ≠ 0 ∧ a = w 35 (w 12 o 0) 0 then 0 else w 33 a 0 := by
  have e : ∀ {k : Nat} {a : Int}, k = 33 ∨ k = 34 ∨ k = 35 ∨ k = 71 ∨ k = 72 → d_copy d o Y 4 k a 0 = w k a 0 := fun {k a} z => by
    unfold d_copy; rw [flA_k (by omega), flA_k (by omega), up_k _ (by omega), up_k _ (by omega), h.k (by omega) (by omega) (by omega)]
  unfold tkY q_ext
  try dsimp only
  rw [e (k := 34) (by omega), e (k := 35) (by omega), e (k := 71) (by omega), e (k := 72) (by omega)]
  by_cases z : w 35 (w 12 o 0) 0 = 0
  · rw [if_pos z]
    refine ⟨?_, ?_, ?_, ?_, fun a => ?_⟩
    · rw [up_k _ (by decide), up_k _ (by decide), up_k _ (by decide), up_s]
    · rw [up_k _ (by decide), up_k _ (by decide), up_s]
    · rw [up_k _ (by decide), up_s]
    · rw [up_s]
    · rw [up_k _ (by decide), up_k _ (by decide), up_k _ (by decide), up_k _ (by decide), e (by omega), if_neg (fun q => q.1 z)]
  · rw [if_neg z]
    refine ⟨?_, ?_, ?_, ?_, fun a => ?_⟩
    · rw [up_k _ (by decide), up_k _ (by decide), up_k _ (by decide), up_k _ (by decide), up_s]
    · rw [up_k _ (by decide), up_k _ (by decide), up_k _ (by decide), up_s]
    · rw [up_k _ (by decide), up_k _ (by decide), up_s]
    · rw [up_k _ (by decide), up_s]
    · by_cases q : a = w 35 (w 12 o 0) 0
      · rw [q, up_s, if_pos ⟨z, rfl⟩]
      · rw [up_a _ _ _ q, up_k _ (by decide), up_k _ (by decide), up_k _ (by decide), up_k _ (by decide), e (by omega), if_neg (fun y => q y.2)]
end TKA
