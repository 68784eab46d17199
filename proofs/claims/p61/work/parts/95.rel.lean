/-! desks, chains of steps, steps -/
def sDk (c : Int → Int) (b : Int) (w : Mm) (d : Int) : Prop :=
  (w 0 d 0 = 2 ∧ c d = b) ∧ sSt c (b + 1) w (w 11 d 0) ∧ w 2 (w 28 (w 11 d 0) 0) 0 = 400 ∧ (w 0 (w 12 d 0) 0 = 8 ∧ c (w 12 d 0) = b + 6) ∧ (w 0 (w 13 d 0) 0 = 20 ∧ w 2 (w 13 d 0) 0 = 4 ∧ c (w 13 d 0) = b + 7) ∧ (w 0 (w 14 d 0) 0 = 20 ∧ w 2 (w 14 d 0) 0 = 4 ∧ c (w 14 d 0) = b + 8)
def bDk (w : Mm) (d : Int) : Prop := (0 ≤ w 60 d 0 ∧ w 60 d 0 ≤ 4) ∧ (0 ≤ w 61 d 0 ∧ w 61 d 0 ≤ 400) ∧ (0 ≤ w 67 (w 11 d 0) 0 ∧ w 67 (w 11 d 0) 0 ≤ 400) ∧ ∀ j, 0 ≤ j → j < 4 → (0 ≤ w 1 (w 13 d 0) j ∧ w 1 (w 13 d 0) j ≤ 400) ∧ (0 ≤ w 1 (w 14 d 0) j ∧ w 1 (w 14 d 0) j ≤ 400)
def vDk (c : Int → Int) (w : Mm) (d : Int) (V : Mm) (i : Int) : Prop :=
  vSt c w (w 11 d 0) V i ∧ w 61 d 0 = V 207 0 i ∧ w 60 d 0 = V 210 0 i ∧ ∀ j, 0 ≤ j → j < w 60 d 0 → w 1 (w 13 d 0) j = V 208 0 (4 * i + j) ∧ w 1 (w 14 d 0) j = V 209 0 (4 * i + j)
/-- from p on the steps of the list, then e -/
def CHa (w : Mm) : Int → List Int → Int → Prop
  | p, [], e => p = e
  | p, x :: xs, e => (p = x ∧ x ≠ 0) ∧ CHa w (w 33 x 0) xs e
def lsA (L : List Int) : Int := L.foldl (fun _ x => x) 0
def tcA (w : Mm) : List Int → Int
  | [] => 0
  | x :: xs => (if w 68 x 0 ≤ 3 then 1 else 0) + tcA w xs
/-- a chain's counts -/
def vQc (w : Mm) (t : Int) (L : List Int) : Prop := w 35 t 0 = lsA L ∧ w 71 t 0 = (L.length : Int) ∧ w 72 t 0 = tcA w L ∧ ∀ x ∈ L, w 0 x 0 = 7
/-- a whole chain -/
def vQs (w : Mm) (t : Int) (L : List Int) : Prop := CHa w (w 34 t 0) L 0 ∧ vQc w t L
/-- the extent of a chain, whatever comes behind it -/
def vQe (w : Mm) (t : Int) (L : List Int) : Prop := (∃ e, CHa w (w 34 t 0) L e) ∧ (L = [] → w 34 t 0 = 0) ∧ vQc w t L
def rng : Nat → Int → List Int
  | 0, _ => []
  | n + 1, i => i :: rng n (i + 1)
def kdC (k : Int) : Int := if k < 4 then k + 1 else 5
/-- step k: what its word says, and what it took away -/
def vSp (c σ : Int → Int) (G : Int → Int → Int) (w A : Mm) (k : Int) : Prop :=
  (w 0 (σ k) 0 = 7 ∧ c (σ k) = -(k + 1)) ∧ w 68 (σ k) 0 = kdC (A 212 0 k % 8) ∧ (A 212 0 k % 8 ≤ 2 → w 69 (σ k) 0 = A 212 0 k / 8 % 512 ∧ w 70 (σ k) 0 = wsz (A 212 0 k)) ∧ (2 < A 212 0 k % 8 → w 69 (σ k) 0 = 0 ∧ w 70 (σ k) 0 = 0) ∧
  (A 212 0 k % 8 = 1 ∨ A 212 0 k % 8 = 2 → vCh c w (w 32 (σ k) 0) (wsz (A 212 0 k)) (G k))
section FRD
variable {c c' σ : Int → Int} {G : Int → Int → Int} {S : Int → Nat → Prop} {w w' V V' A : Mm} {d b i t e p : Int} {L : List Int}
theorem sDk.fr (h : sDk c b w d) (u : UPd c S w w') (hc : CXt w c c') (hs : ∀ k : Nat, 11 ≤ k → k ≤ 31 → ¬ S b k ∧ ¬ S (b + 1) k) :
    sDk c' b w' d ∧ (w' 11 d 0 = w 11 d 0 ∧ w' 12 d 0 = w 12 d 0 ∧ w' 13 d 0 = w 13 d 0 ∧ w' 14 d 0 = w 14 d 0) ∧ (w' 28 (w 11 d 0) 0 = w 28 (w 11 d 0) 0 ∧ w' 29 (w 11 d 0) 0 = w 29 (w 11 d 0) 0 ∧ w' 30 (w 11 d 0) 0 = w 30 (w 11 d 0) 0 ∧ w' 31 (w 11 d 0) 0 = w 31 (w 11 d 0) 0) := by
  obtain ⟨⟨a1, a2⟩, hS, h2, ⟨b1, b2⟩, ⟨c1, c2, c3⟩, d1, d2, d3⟩ := h
  obtain ⟨k1, k2⟩ := hS.fr u hc (fun k x y => (hs k (by omega) y).2)
  have f1 : w' 11 d 0 = w 11 d 0 := u.g (by omega) a2 (hs 11 (by decide) (by decide)).1
  have f2 : w' 12 d 0 = w 12 d 0 := u.g (by omega) a2 (hs 12 (by decide) (by decide)).1
  have f3 : w' 13 d 0 = w 13 d 0 := u.g (by omega) a2 (hs 13 (by decide) (by decide)).1
  have f4 : w' 14 d 0 = w 14 d 0 := u.g (by omega) a2 (hs 14 (by decide) (by decide)).1
  refine ⟨⟨⟨u.tag a1 (by decide), (hc d (by omega)).trans a2⟩, ?_, ?_, ?_, ?_, ?_⟩, ⟨f1, f2, f3, f4⟩, k2⟩
  · rw [f1]; exact k1
  · rw [f1, k2.1, u.t (by have := hS.2.1.1; omega) (by decide)]; exact h2
  · rw [f2]; exact ⟨u.tag b1 (by decide), (hc _ (by omega)).trans b2⟩
  · rw [f3]; exact ⟨u.tag c1 (by decide), (u.t (by omega) (by decide)).trans c2, (hc _ (by omega)).trans c3⟩
  · rw [f4]; exact ⟨u.tag d1 (by decide), (u.t (by omega) (by decide)).trans d2, (hc _ (by omega)).trans d3⟩
/-- a desk that is not touched -/
theorem vDk.fr (h : vDk c w d V i) (g : sDk c b w d) (u : UPd c S w w') (hc : CXt w c c') (hs : ∀ (b' : Int) (k : Nat), b ≤ b' → b' ≤ b + 8 → b' ≠ b + 6 → ¬ S b' k) (h0 : ∀ k : Nat, ¬ S 0 k) : vDk c' w' d V i := by
  obtain ⟨-, ⟨f1, f2, f3, f4⟩, -⟩ := g.fr u (CXt.refl) (fun k _ _ => ⟨hs b k (by omega) (by omega) (by omega), hs (b + 1) k (by omega) (by omega) (by omega)⟩)
  obtain ⟨⟨a1, a2⟩, hS, h2, ⟨b1, b2⟩, ⟨c1, c2, c3⟩, d1, d2, d3⟩ := g
  obtain ⟨h1, h3, h4, h5⟩ := h
  have e60 : w' 60 d 0 = w 60 d 0 := u.g (by omega) a2 (hs _ _ (by omega) (by omega) (by omega))
  refine ⟨?_, (u.g (by omega) a2 (hs _ _ (by omega) (by omega) (by omega))).trans h3, e60.trans h4, fun j j0 j1 => ?_⟩
  · rw [f1]; exact h1.fr hS u hc (fun b' k x y => hs b' k (by omega) (by omega) (by omega)) h0
  · rw [f3, f4, u.g (by omega) c3 (hs _ 1 (by omega) (by omega) (by omega)), u.g (by omega) d3 (hs _ 1 (by omega) (by omega) (by omega))]; exact h5 j j0 (by omega)
theorem bDk.fr (h : bDk w d) (g : sDk c b w d) (u : UPd c S w w') (hs : ∀ (b' : Int) (k : Nat), b ≤ b' → b' ≤ b + 8 → b' ≠ b + 6 → ¬ S b' k) : bDk w' d := by
  obtain ⟨-, ⟨f1, f2, f3, f4⟩, -⟩ := g.fr u (CXt.refl) (fun k _ _ => ⟨hs b k (by omega) (by omega) (by omega), hs (b + 1) k (by omega) (by omega) (by omega)⟩)
  obtain ⟨⟨a1, a2⟩, hS, h2, ⟨b1, b2⟩, ⟨c1, c2, c3⟩, d1, d2, d3⟩ := g
  obtain ⟨h1, h3, h4, h5⟩ := h
  refine ⟨?_, ?_, ?_, fun j j0 j1 => ?_⟩
  · rw [u.g (by omega) a2 (hs _ _ (by omega) (by omega) (by omega))]; exact h1
  · rw [u.g (by omega) a2 (hs _ _ (by omega) (by omega) (by omega))]; exact h3
  · rw [f1, u.g (by have := hS.1.1; omega) hS.1.2 (hs _ _ (by omega) (by omega) (by omega))]; exact h4
  · rw [f3, f4, u.g (by omega) c3 (hs _ 1 (by omega) (by omega) (by omega)), u.g (by omega) d3 (hs _ 1 (by omega) (by omega) (by omega))]; exact h5 j j0 j1
theorem CHa.cg : ∀ {L : List Int} {p e : Int}, CHa w p L e → (∀ x ∈ L, w' 33 x 0 = w 33 x 0) → CHa w' p L e
  | [], _, _, h, _ => h
  | x :: xs, _, _, h, hx => ⟨h.1, by rw [hx x List.mem_cons_self]; exact CHa.cg h.2 (fun y hy => hx y (List.mem_cons_of_mem _ hy))⟩
theorem CHa.app : ∀ {L M : List Int} {p q e : Int}, CHa w p L q → CHa w q M e → CHa w p (L ++ M) e
  | [], _, _, _, _, h, k => by
    have h : _ = _ := h
    subst h; exact k
  | x :: xs, _, _, _, _, h, k => ⟨h.1, CHa.app h.2 k⟩
theorem CHa.spl : ∀ {L M : List Int} {p e : Int}, CHa w p (L ++ M) e → ∃ q, CHa w p L q ∧ CHa w q M e
  | [], _, p, _, h => ⟨p, rfl, h⟩
  | x :: xs, _, _, _, h => by
    obtain ⟨q, h1, h2⟩ := CHa.spl h.2
    exact ⟨q, ⟨h.1, h1⟩, h2⟩
theorem lsA_app {x : Int} : lsA (L ++ [x]) = x := by simp [lsA, List.foldl_append]
theorem lsA_app2 {M : List Int} (hM : M ≠ []) : lsA (L ++ M) = lsA M := by
  cases M with
  | nil => exact absurd rfl hM
  | cons y ys => simp [lsA, List.foldl_append]
theorem tcA_app {M : List Int} : tcA w (L ++ M) = tcA w L + tcA w M := by
  induction L with
  | nil => simp [tcA]
  | cons x xs ih => simp only [List.cons_append, tcA, ih]; omega
theorem tcA_cg (h : ∀ x ∈ L, w' 68 x 0 = w 68 x 0) : tcA w' L = tcA w L := by
  induction L with
  | nil => rfl
  | cons x xs ih => simp only [tcA]; rw [ih (fun y hy => h y (List.mem_cons_of_mem _ hy)), h x List.mem_cons_self]
theorem vQc.cg (h : vQc w t L) (h35 : w' 35 t 0 = w 35 t 0) (h71 : w' 71 t 0 = w 71 t 0) (h72 : w' 72 t 0 = w 72 t 0) (hx : ∀ x ∈ L, w' 0 x 0 = w 0 x 0 ∧ w' 68 x 0 = w 68 x 0) : vQc w' t L :=
  ⟨h35.trans h.1, h71.trans h.2.1, by rw [h72, tcA_cg (fun x m => (hx x m).2)]; exact h.2.2.1, fun x m => by rw [(hx x m).1]; exact h.2.2.2 x m⟩
theorem vQs.cg (h : vQs w t L) (h34 : w' 34 t 0 = w 34 t 0) (h35 : w' 35 t 0 = w 35 t 0) (h71 : w' 71 t 0 = w 71 t 0) (h72 : w' 72 t 0 = w 72 t 0) (hx : ∀ x ∈ L, w' 0 x 0 = w 0 x 0 ∧ w' 68 x 0 = w 68 x 0) (h33 : ∀ x ∈ L, w' 33 x 0 = w 33 x 0) : vQs w' t L :=
  ⟨by rw [h34]; exact h.1.cg h33, h.2.cg h35 h71 h72 hx⟩
theorem vQe.cg (h : vQe w t L) (h34 : w' 34 t 0 = w 34 t 0) (h35 : w' 35 t 0 = w 35 t 0) (h71 : w' 71 t 0 = w 71 t 0) (h72 : w' 72 t 0 = w 72 t 0) (hx : ∀ x ∈ L, w' 0 x 0 = w 0 x 0 ∧ w' 68 x 0 = w 68 x 0) (h33 : ∃ e, CHa w' (w 34 t 0) L e) : vQe w' t L :=
  ⟨by rw [h34]; exact h33, fun e => h34.trans (h.2.1 e), h.2.2.cg h35 h71 h72 hx⟩
theorem rng_len : ∀ (n : Nat) (i : Int), (rng n i).length = n
  | 0, _ => rfl
  | n + 1, i => by simp [rng, rng_len n]
theorem rng_mem : ∀ {n : Nat} {i k : Int}, k ∈ rng n i ↔ i ≤ k ∧ k < i + n
  | 0, i, k => by simp [rng]
  | n + 1, i, k => by
    simp only [rng, List.mem_cons, rng_mem (n := n)]
    omega
theorem rng_app : ∀ (n m : Nat) (i : Int), rng (n + m) i = rng n i ++ rng m (i + n)
  | 0, m, i => by simp [rng]
  | n + 1, m, i => by
    rw [show n + 1 + m = n + m + 1 by omega]
    simp only [rng, List.cons_append]
    rw [rng_app n m, show i + 1 + (n : Int) = i + ((n + 1 : Nat) : Int) by omega]
theorem rng_snoc (n : Nat) (i : Int) : rng (n + 1) i = rng n i ++ [i + n] := by rw [rng_app]; rfl
theorem vSp.fr {k : Int} (h : vSp c σ G w A k) (u : UPd c S w w') (hc : CXt w c c') (hs : ∀ (x : Nat), x = 32 ∨ (68 ≤ x ∧ x ≤ 70) → ¬ S (-(k + 1)) x) (h0 : ∀ k : Nat, ¬ S 0 k) {A' : Mm} (hA : A' 212 0 k = A 212 0 k) : vSp c' σ G w' A' k := by
  obtain ⟨⟨a1, a2⟩, h1, h2, h3, h4⟩ := h
  refine ⟨⟨u.tag a1 (by decide), (hc _ (by omega)).trans a2⟩, ?_, ?_, ?_, ?_⟩
  · rw [u.g (by omega) a2 (hs 68 (by omega)), hA]; exact h1
  · rw [u.g (by omega) a2 (hs 69 (by omega)), u.g (by omega) a2 (hs 70 (by omega)), hA]; exact h2
  · rw [u.g (by omega) a2 (hs 69 (by omega)), u.g (by omega) a2 (hs 70 (by omega)), hA]; exact h3
  · rw [u.g (by omega) a2 (hs 32 (by omega)), hA]; exact fun y => (h4 y).fr u hc h0
end FRD
