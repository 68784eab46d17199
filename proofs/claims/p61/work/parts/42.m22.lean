theorem plist_cong {b b' : Mm} (e : ∀ c a i, c = 212 ∨ c = 213 → b' c a i = b c a i) : ∀ (n : Nat) (i t : Int), plist b' n i t = plist b n i t
  | 0, _, _ => rfl
  | n + 1, i, t => by
    simp only [plist]
    rw [e 212 _ _ (Or.inl rfl), play_1 (w := b') (b := b) (fun j => pby_cong (e _ _ _ (Or.inr rfl))), plist_cong e n]
theorem nodeL_cong {b b' : Mm} (e : ∀ c a i, c = 212 ∨ c = 213 ∨ (218 ≤ c ∧ c ≤ 220) → b' c a i = b c a i) : ∀ ps : List Int, nodeL b' ps = nodeL b ps
  | [] => rfl
  | p :: ps => by
    simp only [nodeL]
    rw [e 218 _ _ (by omega), e 219 _ _ (by omega), e 220 _ _ (by omega), plist_cong (fun c a i h => e c a i (by omega)), nodeL_cong e ps]
theorem CHL.cong {m : Int} {b b' : Mm} (e : ∀ c a i, c = 212 ∨ (218 ≤ c ∧ c ≤ 223) → b' c a i = b c a i) : ∀ {p : Int} {ps : List Int}, CHL m b p ps → CHL m b' p ps
  | p, [], h => h
  | p, x :: xs, h => by
    obtain ⟨h1, h2, h3, h4, h5, h6⟩ := h
    refine ⟨h1, h2, ?_, ?_, fun i a c => ?_, ?_⟩
    · rw [e 218 _ _ (by omega), e 220 _ _ (by omega)]; exact h3
    · rw [e 219 _ _ (by omega)]; exact h4
    · rw [e 218 _ _ (by omega)] at a
      rw [e 218 _ _ (by omega), e 220 _ _ (by omega)] at c
      rw [e 212 _ _ (by omega)]; exact h5 i a c
    · rw [e 223 _ _ (by omega)]; exact CHL.cong e h6
theorem playL_app : ∀ (A B : List (Int × Int)) (w : Mm), m_playL (A ++ B) w = m_playL B (m_playL A w)
  | [], _, _ => rfl
  | x :: A, B, w => playL_app A B _
theorem LGL_app : ∀ (A B : List (Int × Int)) (w : Mm), LGL (A ++ B) w ↔ LGL A w ∧ LGL B (m_playL A w)
  | [], B, w => ⟨fun h => ⟨trivial, h⟩, fun h => h.2⟩
  | x :: A, B, w => by
    show (_ ∧ LGL (A ++ B) _) ↔ (_ ∧ LGL A _) ∧ LGL B (m_playL A _)
    rw [LGL_app A B]
    exact and_assoc.symm
theorem tkT_id {most : Int} : ∀ (L : List (Int × Int)) (s : Int), 0 ≤ s → s + L.length < most → tkT most s L = L
  | [], _, _, _ => rfl
  | x :: xs, s, h0, h => by
    simp only [List.length_cons] at h
    simp only [tkT]
    split
    · rw [if_neg (by omega), tkT_id xs (s + 1) (by omega) (by omega)]
    · rw [tkT_id xs s h0 (by omega)]
theorem StP.playL {b : Mm} {L : List (Int × Int)} : ∀ {w : Mm}, StP b w → LGL L w → StP b (m_playL L w) := by
  induction L with
  | nil => exact fun h _ => h
  | cons x xs ih => exact fun h g => ih (h.play g.1) g.2
def m_rini (w : Mm) : Mm := fl (fl (fl (up w 201 0 1 0) 202 6 6 (fun _ => -1)) 203 6 6 (fun _ => 0)) 204 5 5 (fun _ => 0)
theorem rini_at {w : Mm} {c : Nat} {a i : Int} (h : c < 201 ∨ 204 < c) : m_rini w c a i = w c a i := by
  unfold m_rini
  rw [fl_at (by omega), fl_at (by omega), fl_at (by omega), up_k _ (by omega)]
theorem fin_at {μ : MU} {x : Int} {w : Mm} {c : Nat} {a i : Int} (h : c ≠ 127 ∧ c ≠ 226) : m_fin μ x w c a i = w c a i := by
  unfold m_fin; rw [fl_at h.2, up_k _ h.1]
theorem SB.rini {w : Mm} (h : SB 1 w) : SB 1 (m_rini w) := by
  obtain ⟨h1, h2, h3, h4, h5, h6⟩ := h
  have e201 : m_rini w 201 0 1 = 0 := by unfold m_rini; rw [fl_at (by decide), fl_at (by decide), fl_at (by decide), up_s]
  refine ⟨?_, fun i a b => ?_, fun i a b => ?_, fun i a b => ?_, fun i a b => ?_, fun i a b => ?_⟩
  · unfold bL1; rw [e201]; decide
  · rw [rini_at (by omega)]; exact h2 i a b
  · rw [e201]
    unfold m_rini
    refine ⟨?_, Or.inl ?_⟩
    · rw [fl_at (by decide), fl_at (by decide)]; simp only [fl, true_and]; rw [if_pos (by omega)]; decide
    · rw [fl_at (by decide)]; simp only [fl, true_and]; rw [if_pos (by omega)]
  · have : m_rini w 204 0 i = 0 := by unfold m_rini; simp only [fl, true_and]; rw [if_pos (by omega)]
    rw [this]; exact ⟨by decide, by decide, fun _ => by decide⟩
  · rw [rini_at (by omega)]; exact h5 i a b
  · rw [rini_at (by omega)]; exact h6 i a b
/-- the steps of the first nodes of the path to x, from the root on -/
def RSn (PL : Int → List Int) (x : Int) (b : Mm) : Nat → List (Int × Int)
  | 0 => []
  | n + 1 => RSn PL x b n ++ nodeL b (PL (m_anc b x (m_pln b x - 1 - (n + 1)).toNat))
def m_rp0 (μ : MU) (x : Int) (w : Mm) : Mm := m_fin μ x (m_rini w)
def RSx (PL : Int → List Int) (x : Int) (b : Mm) : List (Int × Int) := RSn PL x b (m_pln b x - 1).toNat
def m_rpl (μ : MU) (PL : Int → List Int) (x : Int) (w : Mm) : Mm := m_playL (RSx PL x w) (m_rp0 μ x w)
theorem LGL_pre {PL : Int → List Int} {x : Int} {b w : Mm} : ∀ (m n : Nat), n ≤ m → LGL (RSn PL x b m) w → LGL (RSn PL x b n) w
  | 0, n, h, g => by have : n = 0 := by omega
                     subst this; exact g
  | m + 1, n, h, g => by
    by_cases c : n = m + 1
    · subst c; exact g
    · exact LGL_pre m n (by omega) ((LGL_app _ _ _).mp g).1
/-- the parts of the nodes on the path to x are at hand -/
def PHx (PL : Int → List Int) (x : Int) (w : Mm) : Prop := ∀ j : Nat, (j : Int) < m_pln w x - 1 → (0 ≤ m_anc w x j ∧ m_anc w x j < 640) ∧ CHL 640 w (w 221 0 (m_anc w x j)) (PL (m_anc w x j)) ∧ (PL (m_anc w x j)).length ≤ 640 ∧ (nodeL w (PL (m_anc w x j))).length ≤ 30000
theorem pln_cong {w w' : Mm} (e : ∀ a i, w' 217 a i = w 217 a i) (k : Int) : m_pln w' k = m_pln w k := by
  have key : ∀ (n : Nat) (k : Int), plen w' n k = plen w n k := fun n => by
    induction n with
    | zero => intro k; rfl
    | succ n ih => intro k; simp only [plen]; rw [e, ih]
  exact key _ _
theorem anc_cong {w w' : Mm} (e : ∀ a i, w' 217 a i = w 217 a i) (k : Int) : ∀ n, m_anc w' k n = m_anc w k n
  | 0 => rfl
  | n + 1 => by simp only [m_anc]; rw [e, anc_cong e k n]
