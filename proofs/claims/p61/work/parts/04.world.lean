/-! THE WORLD AS ONE MAP: component, address, index to a whole number. Components: 0 tag, 1 contents of arrays of numbers, 2 lengths, 3 contents of arrays of references, 10.. fields (fields.py), 200.. contents of the reference's arrays. -/
abbrev Mm : Type := Nat → Int → Int → Int
abbrev GC : Type := va_G × (Nat → ClassId)
abbrev IR (z : Int) : Prop := -2147483648 ≤ z ∧ z ≤ 2147483647
def I (z : Int) : Int32 := Int32.ofInt z
def rv (z : Int) : Value := if z = 0 then .null else .ref z.toNat
def ro (z : Int) : Option Nat := if z = 0 then none else some z.toNat
def up (w : Mm) (k : Nat) (a i v : Int) : Mm := fun k' a' i' => if k' = k ∧ a' = a ∧ i' = i then v else w k' a' i'
def bi (p : Prop) [Decidable p] : Int := if p then 1 else 0
def cls_ : List vw_C := [(RX0, TX0, 1), (RX1, TX1, 6), (RX2, TX2, 6), (RX3, TX3, 4), (RX4, TX4, 8), (RX5, TX5, 5), (RX6, TX6, 5), (RX7, TX7, 4), (RX8, TX8, 5), (RX9, TX9, 2), (RX10, TX10, 5), (RX11, TX11, 6), (RX12, TX12, 16), (RX0, TX0, 1), (RJx4a65c, TJx4a65c, 3)]
def FLd : Nat → List (Nat × Bool)
  | 1 => [(10, true)]
  | 2 => [(11, true), (12, true), (13, true), (14, true), (60, false), (61, false)]
  | 3 => [(15, true), (16, true), (17, true), (18, true), (19, true), (20, true)]
  | 4 => [(21, true), (22, true), (23, true), (62, false)]
  | 5 => [(63, false), (24, true), (25, true), (26, true), (27, true), (64, false), (65, false), (66, false)]
  | 6 => [(28, true), (67, false), (29, true), (30, true), (31, true)]
  | 7 => [(68, false), (69, false), (32, true), (70, false), (33, true)]
  | 8 => [(34, true), (35, true), (71, false), (72, false)]
  | 9 => [(36, true), (73, false), (74, false), (75, false), (76, false)]
  | 10 => [(37, true), (77, false)]
  | 11 => [(38, true), (39, true), (40, true), (78, false), (79, false)]
  | 12 => [(80, false), (81, false), (82, false), (83, false), (84, false), (85, false)]
  | 13 => [(41, true), (42, true), (43, true), (44, true), (45, true), (46, true), (47, true), (48, true), (49, true), (50, true), (86, false), (87, false), (88, false), (89, false), (90, false), (91, false)]
  | 14 => [(10, true)]
  | 15 => [(92, false), (51, true), (93, false)]
  | _ => []
def ik (k : Nat) : Bool := k == 1 || k == 2 || (Nat.ble 60 k && Nat.blt k 400)
def tys_ (g : GC) : List (ClassId × FieldType) := [(g.2 0, .int), (g.2 1, .boolean), (g.2 2, .int), (g.2 3, .object "Foldback$Chars"), (g.2 4, .object "Foldback$Macro"), (g.2 5, .object "Foldback$Node"), (g.2 6, .object "Foldback$Trace"), (g.2 7, .object "java/lang/Object")]
def fv (w : Mm) (a : Int) (x : Nat × Bool) : Value := if x.2 then rv (w x.1 a 0) else .int (I (w x.1 a 0))
/-- the cell at a, by its tag t -/
def cfT (g : GC) (w : Mm) (a : Int) (t : Nat) : va_E :=
  if t < 20 then .inr (t - 1, (FLd t).map (fv w a))
  else if t < 22 then .inl (g.2 (t - 20), ((w 2 a 0).toNat, .inl (fun j => I (w 1 a j))))
  else if t = 22 then .inl (g.2 2, ((w 2 a 0).toNat, .inr (.inl (fun j => Int64.ofInt (w 4 a j)))))
  else if t < 100 then .inl (g.2 (t - 20), ((w 2 a 0).toNat, .inr (.inr (.inr (.inr (fun j => ro (w 3 a j)))))))
  else .inl (g.2 0, ((w 2 a 0).toNat, .inl (fun j => I (w (100 + t) 0 j))))
def cf (g : GC) (w : Mm) (a : Nat) : va_E := cfT g w a (w 0 a 0).toNat
def sup (w : Mm) (L : List Nat) : Prop := ∀ a : Nat, a ∈ L ↔ w 0 a 0 ≠ 0
def WI (w : Mm) : Prop := (∀ k a i, ik k = true → IR (w k a i)) ∧ (∀ z, w 0 z 0 ≠ 0 → 0 < z ∧ 0 < w 0 z 0) ∧ (∀ a b, w 0 a 0 = w 0 b 0 → 100 ≤ w 0 a 0 → a = b)
def XH (g : GC) (A : Nat → Prop) (w : Mm) (H : Heap) : Prop := ∃ L, sup w L ∧ va_P g.1 cls_ (va_pl L (cf g w)) H ∧ va_D A (va_pl L (cf g w))
theorem ro_rf (z : Int) : va_rf (ro z) = rv z := by
  by_cases h : z = 0
  · simp [ro, rv, va_rf, h]
  · simp [ro, rv, va_rf, h]
theorem up_s (w : Mm) (k : Nat) (a i v : Int) : up w k a i v k a i = v := by simp [up]
theorem up_k (w : Mm) {k k' : Nat} (h : k' ≠ k) (a i v a' i' : Int) : up w k a i v k' a' i' = w k' a' i' := by simp [up, h]
theorem up_a (w : Mm) (k k' : Nat) {a a' : Int} (h : a' ≠ a) (i v i' : Int) : up w k a i v k' a' i' = w k' a' i' := by simp [up, h]
theorem up_i (w : Mm) (k k' : Nat) (a a' v : Int) {i i' : Int} (h : i' ≠ i) : up w k a i v k' a' i' = w k' a' i' := by simp [up, h]
theorem rv_pos {z : Int} (h : 0 < z) : rv z = .ref z.toNat := by unfold rv; rw [if_neg (by omega)]
theorem rv_cat (z : Int) : (rv z).category = 1 := by unfold rv; split <;> rfl
theorem WI_up {w : Mm} (h : WI w) {k : Nat} {a i v : Int} (h0 : k ≠ 0) (hv : ik k = true → IR v) : WI (up w k a i v) := by
  refine ⟨fun k' a' i' hk => ?_, fun z hz => ?_, fun x y e => ?_⟩
  · by_cases c : k' = k ∧ a' = a ∧ i' = i
    · simp only [up, if_pos c]; exact hv (c.1 ▸ hk)
    · simp only [up, if_neg c]; exact h.1 _ _ _ hk
  · rw [up_k w (Ne.symm h0)] at hz ⊢; exact h.2.1 z hz
  · rw [up_k w (Ne.symm h0), up_k w (Ne.symm h0)] at e
    rw [up_k w (Ne.symm h0)]; exact h.2.2 x y e
theorem cfT_congr {g : GC} {w w1 : Mm} {a : Int} {t : Nat} (h1 : ∀ k i, w1 k a i = w k a i) (h2 : ∀ k i, 200 ≤ k → k = 100 + t → w1 k 0 i = w k 0 i) : cfT g w1 a t = cfT g w a t := by
  unfold cfT
  have e : fv w1 a = fv w a := by funext x; unfold fv; rw [h1]
  rw [e, h1 2 0, show (fun j : Nat => I (w1 1 a j)) = (fun j : Nat => I (w 1 a j)) from funext fun j => by rw [h1], show (fun j : Nat => ro (w1 3 a j)) = (fun j : Nat => ro (w 3 a j)) from funext fun j => by rw [h1], show (fun j : Nat => Int64.ofInt (w1 4 a j)) = (fun j : Nat => Int64.ofInt (w 4 a j)) from funext fun j => by rw [h1]]
  by_cases c : t < 100
  · simp only [c, if_true]
  · rw [show (fun j : Nat => I (w1 (100 + t) 0 j)) = (fun j : Nat => I (w (100 + t) 0 j)) from funext fun j => by rw [h2 _ _ (by omega) rfl]]
theorem cf_congr {g : GC} {w w1 : Mm} {a : Nat} (h1 : ∀ k i, w1 k a i = w k a i) (h2 : ∀ k i, 200 ≤ k → k = 100 + (w 0 a 0).toNat → w1 k 0 i = w k 0 i) : cf g w1 a = cf g w a := by
  unfold cf; rw [h1]; exact cfT_congr h1 h2
theorem XH.tag {g : GC} {A : Nat → Prop} {w : Mm} {H : Heap} (h : XH g A w H) {a : Nat} (ht : w 0 a 0 ≠ 0) : va_P g.1 cls_ [(a, cf g w a)] H ∧ A a ∧ a < H.size := by
  obtain ⟨L, hL, hP, hD⟩ := h
  obtain ⟨k, hk⟩ := va_pl_get (X := []) (L := L) (f := cf g w) ((hL a).mpr ht)
  have h1 := hP k _ hk
  refine ⟨fun j q hj => ?_, hD.2 k _ hk, h1.lt⟩
  cases j with
  | zero => cases hj; exact h1
  | succ j => cases hj
/-- a cell is written -/
theorem XH.set {g : GC} {A : Nat → Prop} {w w1 : Mm} {H : Heap} (h : XH g A w H) {a : Nat} (ht : w 0 a 0 ≠ 0) (h0 : ∀ b : Nat, w1 0 b 0 = w 0 b 0) (hb : ∀ b : Nat, b ≠ a → w 0 b 0 ≠ 0 → cf g w1 b = cf g w b) :
    ∃ (L : List Nat) (q0 : Nat), sup w L ∧ va_P g.1 cls_ (va_pl L (cf g w)) H ∧ va_D A (va_pl L (cf g w)) ∧ (va_pl L (cf g w))[q0]? = some (a, cf g w a) ∧
      ∀ H1 : Heap, va_P g.1 cls_ ((va_pl L (cf g w)).set q0 (a, cf g w1 a)) H1 → va_D A ((va_pl L (cf g w)).set q0 (a, cf g w1 a)) → XH g A w1 H1 := by
  obtain ⟨L, hL, hP, hD⟩ := h
  obtain ⟨k, hk⟩ := va_pl_get (X := []) (L := L) (f := cf g w) ((hL a).mpr ht)
  have e : (va_pl L (cf g w)).set k (a, cf g w1 a) = va_pl L (cf g w1) := by
    refine (va_pl_set (X := []) hD ((hL a).mpr ht) hk).trans ?_
    show List.map _ _ = List.map _ _
    apply List.map_congr_left
    intro b hb1
    show (b, va_up (cf g w) a (cf g w1 a) b) = (b, cf g w1 b)
    by_cases c : b = a
    · subst c; simp [va_up]
    · rw [hb b c ((hL b).mp hb1)]; simp [va_up, c]
  refine ⟨L, k, hL, hP, hD, hk, fun H1 q1 q2 => ⟨L, fun b => ?_, ?_, ?_⟩⟩
  · rw [h0]; exact hL b
  · rw [← e]; exact q1
  · rw [← e]; exact q2
/-- a cell comes -/
theorem XH.add {g : GC} {A : Nat → Prop} {w : Mm} {H : Heap} (h : XH g A w H) :
    ∃ (L : List Nat), va_P g.1 cls_ (va_pl L (cf g w)) H ∧ va_D A (va_pl L (cf g w)) ∧
      ∀ (H1 : Heap) (q : Nat) (w1 : Mm), va_P g.1 cls_ (va_pl L (cf g w) ++ [(q, cf g w1 q)]) H1 → va_D A (va_pl L (cf g w) ++ [(q, cf g w1 q)]) → w1 0 q 0 ≠ 0 → (∀ b : Nat, b ≠ q → w1 0 b 0 = w 0 b 0) → (∀ b : Nat, b ≠ q → w 0 b 0 ≠ 0 → cf g w1 b = cf g w b) → XH g A w1 H1 ∧ w 0 q 0 = 0 := by
  obtain ⟨L, hL, hP, hD⟩ := h
  refine ⟨L, hP, hD, fun H1 q w1 q1 q2 hq h0 hb => ?_⟩
  have hn : q ∉ L := by
    intro hm
    obtain ⟨k, hk⟩ := va_pl_get (X := []) (L := L) (f := cf g w) hm
    have hk : (va_pl L (cf g w))[k]? = some (q, cf g w q) := hk
    have hl : k < (va_pl L (cf g w)).length := (List.getElem?_eq_some_iff.mp hk).1
    have e1 : (va_pl L (cf g w) ++ [(q, cf g w1 q)])[k]? = some (q, cf g w q) := by rw [List.getElem?_append_left hl]; exact hk
    have e2 : (va_pl L (cf g w) ++ [(q, cf g w1 q)])[(va_pl L (cf g w)).length]? = some (q, cf g w1 q) := by simp
    have := q2.1 _ _ _ _ e1 e2 rfl
    omega
  have e : va_pl L (cf g w) ++ [(q, cf g w1 q)] = va_pl (L ++ [q]) (cf g w1) := by
    rw [va_pl_push hn]
    show List.map _ _ = List.map _ _
    apply List.map_congr_left
    intro b hb1
    show (b, va_up (cf g w) q (cf g w1 q) b) = (b, cf g w1 b)
    by_cases c : b = q
    · subst c; simp [va_up]
    · have : b ∈ L := by simpa [c] using hb1
      rw [hb b c ((hL b).mp this)]; simp [va_up, c]
  refine ⟨⟨L ++ [q], fun b => ?_, by rw [← e]; exact q1, by rw [← e]; exact q2⟩, ?_⟩
  · by_cases c : b = q
    · subst c; simp [hq]
    · rw [h0 b c, ← hL b]; simp [c]
  · by_cases c : w 0 q 0 = 0
    · exact c
    · exact absurd ((hL q).mpr c) hn

