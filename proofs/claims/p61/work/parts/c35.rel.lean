/-! what a step took away: as the reference finds it out again -/
def GNq (G : Int → Int → Int) : List (Int × Int × Int) → Mm → Prop
  | [], _ => True
  | z :: zs, V => (z.2.1 % 8 = 1 ∨ z.2.1 % 8 = 2 → ∀ j, 0 ≤ j → j < wsz z.2.1 → V 200 0 (400 + z.2.1 / 8 % 512 + j) = G z.1 j) ∧ GNq G zs (m_play z.2.1 z.2.2 V).2
def plZ (b : Mm) : Nat → Int → Int → List (Int × Int × Int)
  | 0, _, _ => []
  | n + 1, i, t => (i, b 212 0 i, t) :: plZ b n (i + 1) (t + (m_play (b 212 0 i) t b).1)
def ndZ (b : Mm) : List Int → List (Int × Int × Int)
  | [] => []
  | p :: ps => plZ b (b 220 0 p).toNat (b 218 0 p) (b 219 0 p) ++ ndZ b ps
def txZ (z : Int × Int × Int) : Bool := decide (z.2.1 % 8 ≤ 2)
section GNZ
variable {b V W : Mm} {G : Int → Int → Int} {ρ : Int → Mm} {PL : Int → List Int} {μ : MU} {κ : Int → Int} {t n k : Int}
theorem plZ_2 : ∀ (n : Nat) (i t : Int), (plZ b n i t).map Prod.snd = plist b n i t
  | 0, _, _ => rfl
  | n + 1, i, t => by show _ :: _ = _ :: _; rw [plZ_2 n]
theorem plZ_1 : ∀ (n : Nat) (i t : Int), (plZ b n i t).map Prod.fst = rng n i
  | 0, _, _ => rfl
  | n + 1, i, t => by show _ :: _ = _ :: _; rw [plZ_1 n]
theorem plZ_w : ∀ (n : Nat) (i t : Int), ∀ z ∈ plZ b n i t, z.2.1 = b 212 0 z.1
  | 0, _, _, z, hz => absurd hz List.not_mem_nil
  | n + 1, i, t, z, hz => by
    rcases List.mem_cons.mp hz with rfl | hz
    · rfl
    · exact plZ_w n _ _ z hz
theorem ndZ_2 : ∀ ps : List Int, (ndZ b ps).map Prod.snd = nodeL b ps
  | [] => rfl
  | p :: ps => by show (plZ b _ _ _ ++ ndZ b ps).map _ = plist b _ _ _ ++ nodeL b ps; rw [List.map_append, plZ_2, ndZ_2 ps]
theorem ndZ_1 : ∀ ps : List Int, (ndZ b ps).map Prod.fst = ixN b ps
  | [] => rfl
  | p :: ps => by show (plZ b _ _ _ ++ ndZ b ps).map _ = rng _ _ ++ ixN b ps; rw [List.map_append, plZ_1, ndZ_1 ps]
theorem ndZ_w : ∀ ps : List Int, ∀ z ∈ ndZ b ps, z.2.1 = b 212 0 z.1
  | [], z, hz => absurd hz List.not_mem_nil
  | p :: ps, z, hz => by
    rcases List.mem_append.mp hz with hz | hz
    · exact plZ_w _ _ _ z hz
    · exact ndZ_w ps z hz
theorem GNq_app : ∀ (X Y : List (Int × Int × Int)) (V : Mm), GNq G (X ++ Y) V ↔ GNq G X V ∧ GNq G Y (m_playL (X.map Prod.snd) V)
  | [], Y, V => ⟨fun h => ⟨trivial, h⟩, fun h => h.2⟩
  | x :: xs, Y, V => by
    show (_ ∧ GNq G (xs ++ Y) _) ↔ (_ ∧ GNq G xs _) ∧ GNq G Y (m_playL (xs.map Prod.snd) (m_play x.2.1 x.2.2 V).2)
    rw [GNq_app xs Y]
    exact and_assoc.symm
theorem GNl_q : ∀ (n : Nat) (i t : Int) (V : Mm), GNl b G n i t V → GNq G (plZ b n i t) V
  | 0, _, _, _, _ => trivial
  | n + 1, i, t, V, h => ⟨h.1, GNl_q n _ _ _ h.2⟩
theorem GNo_q : ∀ (ps : List Int) (V : Mm), GNo b G ps V → GNq G (ndZ b ps) V
  | [], _, _ => trivial
  | p :: ps, V, h => by
    refine (GNq_app _ _ _).mpr ⟨GNl_q _ _ _ _ h.1, ?_⟩
    rw [plZ_2]; exact GNo_q ps _ h.2
theorem gnq_tk : ∀ (Z : List (Int × Int × Int)) (V : Mm) (seen : Int) (i : Nat) (z : Int × Int × Int), GNq G Z V → (Z.filter txZ)[i]? = some z → (z.2.1 % 8 = 1 ∨ z.2.1 % 8 = 2) → ∀ j, 0 ≤ j → j < wsz z.2.1 → m_playL (tkT (seen + i) seen (Z.map Prod.snd)) V 200 0 (400 + z.2.1 / 8 % 512 + j) = G z.1 j
  | [], V, seen, i, z, _, h, _, _, _, _ => by simp at h
  | x :: Z, V, seen, i, z, hG, h, hk, j, j0, j1 => by
    have et : ∀ m s : Int, tkT m s ((x :: Z).map Prod.snd) = if x.2.1 % 8 ≤ 2 then (if s = m then [] else x.2 :: tkT m (s + 1) (Z.map Prod.snd)) else x.2 :: tkT m s (Z.map Prod.snd) := fun _ _ => rfl
    rw [et]
    by_cases c : x.2.1 % 8 ≤ 2
    · rw [List.filter_cons_of_pos (by unfold txZ; exact decide_eq_true c)] at h
      rw [if_pos c]
      cases i with
      | zero =>
        have hz : x = z := by simpa using h
        subst hz
        rw [if_pos (by omega)]
        exact hG.1 hk j j0 j1
      | succ i =>
        have h' : (Z.filter txZ)[i]? = some z := by simpa using h
        rw [if_neg (by omega)]
        have := gnq_tk Z (m_play x.2.1 x.2.2 V).2 (seen + 1) i z hG.2 h' hk j j0 j1
        rw [show seen + 1 + (i : Int) = seen + ((i + 1 : Nat) : Int) by omega] at this
        exact this
    · rw [List.filter_cons_of_neg (by unfold txZ; simpa using c)] at h
      rw [if_neg c]
      exact gnq_tk Z (m_play x.2.1 x.2.2 V).2 seen i z hG.2 h hk j j0 j1
theorem rng_get : ∀ (n : Nat) (i : Int) (m : Nat), m < n → (rng n i)[m]? = some (i + m)
  | 0, _, _, h => by omega
  | n + 1, i, 0, _ => by show some i = _; simp
  | n + 1, i, m + 1, h => by
    show (rng n (i + 1))[m]? = _
    rw [rng_get n (i + 1) m (by omega)]
    congr 1
    omega
/-- the characters of the class's step are those that the reference finds out -/
theorem rem_gone (h : TX μ ρ G PL W) (ha : alv μ W k) (hk : 1 ≤ k) (hκ : (rng n.toNat 0).map κ = (ixN W (PL k)).filter (txS W)) (ht : 0 ≤ t ∧ t < n) (h1 : W 241 0 t = W 212 0 (κ t) % 8) (h2 : W 242 0 t = W 212 0 (κ t) / 8 % 512) (h3 : W 243 0 t = wsz (W 212 0 (κ t))) (hd : W 241 0 t = 1 ∨ W 241 0 t = 2) :
    ∀ j, 0 ≤ j → j < W 243 0 t → m_rem μ PL k t W 240 0 j = G (κ t) j := fun j j0 j1 => by
  have hg := GNo_q _ _ ((h.2 k ha).2 hk)
  have e1 : ((ndZ W (PL k)).filter txZ).map Prod.fst = (ixN W (PL k)).filter (txS W) := by
    rw [← ndZ_1, List.filter_map]
    congr 1
    refine List.filter_congr fun z hz => ?_
    show txZ z = txS W z.1
    unfold txZ txS
    rw [ndZ_w _ z hz]
  have e2 : (((ndZ W (PL k)).filter txZ).map Prod.fst)[t.toNat]? = some (κ t) := by
    rw [e1, ← hκ, List.getElem?_map, rng_get _ _ _ (by omega)]
    show some (κ (0 + ((t.toNat : Nat) : Int))) = _
    rw [show (0 : Int) + ((t.toNat : Nat) : Int) = t by omega]
  rw [List.getElem?_map] at e2
  cases hz : ((ndZ W (PL k)).filter txZ)[t.toNat]? with
  | none => rw [hz] at e2; simp at e2
  | some z =>
    rw [hz] at e2
    have ez : z.1 = κ t := by simpa using e2
    have hm : z ∈ ndZ W (PL k) := (List.mem_filter.mp (List.mem_of_getElem? hz)).1
    have ew := ndZ_w _ z hm
    rw [ez] at ew
    have key := gnq_tk _ _ 0 t.toNat z hg hz (by rw [ew, ← h1]; exact hd) j j0 (by rw [ew, ← h3]; exact j1)
    rw [ndZ_2, show (0 : Int) + ((t.toNat : Nat) : Int) = t by omega, ew, ← h2, ez] at key
    unfold m_rem
    show (if (240 : Nat) = 240 ∧ (0 : Int) = 0 ∧ 0 ≤ j ∧ j < 0 + W 243 0 t then m_rem1 μ PL k t W 200 0 (400 + W 242 0 t + j) else _) = _
    rw [if_pos ⟨rfl, rfl, j0, by omega⟩]
    exact key
end GNZ
