/-! traces of the class and of the reference, side by side -/
/-- one after the other, each at its own object -/
def itr (g : Int → Mm → Mm) (w : Mm) : Nat → Mm
  | 0 => w
  | c + 1 => g c (itr g w c)
/-- what is done at one object looks at it alone -/
def lcl (x : Int → Int) (g : Int → Mm → Mm) : Prop := (∀ (i : Int) (W : Mm) (K : Nat) (a j : Int), a ≠ x i → g i W K a j = W K a j) ∧ ∀ (i : Int) (W W' : Mm), (∀ K : Nat, W K (x i) 0 = W' K (x i) 0) → ∀ K : Nat, g i W K (x i) 0 = g i W' K (x i) 0
section TRR
variable {x : Int → Int} {g : Int → Mm → Mm} {w W : Mm} {k p n q d a b i j v : Int} {μ : MU}
theorem itr_o (hl : lcl x g) {K : Nat} {a j : Int} : ∀ {c : Nat}, (∀ m : Nat, m < c → a ≠ x m) → itr g w c K a j = w K a j
  | 0, _ => rfl
  | c + 1, h => (hl.1 c _ K a j (h c (by omega))).trans (itr_o hl fun m hm => h m (by omega))
theorem itr_v (hl : lcl x g) {i : Nat} {K : Nat} : ∀ {c : Nat}, i < c → (∀ m m' : Nat, m < c → m' < c → m ≠ m' → x m ≠ x m') → itr g w c K (x i) 0 = g i w K (x i) 0
  | 0, h, _ => by omega
  | c + 1, h, hx => by
    by_cases e : i = c
    · subst e
      exact hl.2 i _ _ (fun K => itr_o hl fun m hm => hx i m (by omega) (by omega) (by omega)) K
    · show g c (itr g w c) K (x i) 0 = _
      rw [hl.1 c _ K _ _ (hx i c (by omega) (by omega) e)]
      exact itr_v hl (by omega) fun m m' h1 h2 => hx m m' (by omega) (by omega)
theorem up_cg1 {X v : Int} {W W' : Mm} {K c : Nat} (h : W K X 0 = W' K X 0) : up W c X 0 v K X 0 = up W' c X 0 v K X 0 := by simp only [up, h]
theorem meet_cg {X : Int} {W W' : Mm} (h : ∀ K : Nat, W K X 0 = W' K X 0) (K : Nat) : tr_meet X k p n W K X 0 = tr_meet X k p n W' K X 0 := by
  unfold tr_meet tr_ins tr_del tr_shift
  simp only [h 73, h 74]
  repeat' split
  all_goals first | exact h K | exact up_cg1 (h K) | exact up_cg1 (up_cg1 (h K))
theorem lcl_meet : lcl x (fun i W => tr_meet (x i) k p n W) := ⟨fun i W K a j h => tr_meet_a h, fun i W W' h K => meet_cg h K⟩
theorem lcl_own : lcl x (fun i W => ts_o1 (x i) q k p n W) := by
  refine ⟨fun i W K a j h => ts_o1_a h, fun i W W' h K => ?_⟩
  have hm := fun K => meet_cg (k := k) (p := p) (n := n) h K
  dsimp only
  unfold ts_o1
  rw [hm 73, h 73, hm 76]
  split
  · by_cases c : K = 76
    · subst c; rw [up_s, up_s]
    · rw [up_k _ c, up_k _ c]; exact hm K
  · exact hm K
theorem lcl_p1 : lcl x (fun i W => ts_p1 (x i) q k p n W) := by
  refine ⟨fun i W K a j h => ts_p1_a h, fun i W W' h K => ?_⟩
  have hm := fun K => meet_cg (k := k) (p := p) (n := n) h K
  dsimp only
  unfold ts_p1 tr_shift
  rw [h 73, h 74, h 76]
  split
  · split
    · by_cases c : K = 74
      · subst c; rw [up_s, up_s]
      · rw [up_k _ c, up_k _ c]
        by_cases c2 : K = 73
        · subst c2; rw [up_s, up_s]
        · rw [up_k _ c2, up_k _ c2]; exact h K
    · exact h K
  · exact hm K
theorem met_itr : ∀ c : Nat, ts_met x k p n w c = itr (fun i W => tr_meet (x i) k p n W) w c
  | 0 => rfl
  | c + 1 => by show tr_meet _ _ _ _ (ts_met x k p n w c) = _; rw [met_itr c]; rfl
theorem own_itr : ∀ c : Nat, ts_own x q k p n w c = itr (fun i W => ts_o1 (x i) q k p n W) w c
  | 0 => rfl
  | c + 1 => by show ts_o1 _ _ _ _ _ (ts_own x q k p n w c) = _; rw [own_itr c]; rfl
theorem opp_itr : ∀ c : Nat, ts_opp x q k p n w c = itr (fun i W => ts_p1 (x i) q k p n W) w c
  | 0 => rfl
  | c + 1 => by show ts_p1 _ _ _ _ _ (ts_opp x q k p n w c) = _; rw [opp_itr c]; rfl
/-- one trace meets a step -/
theorem meet_v {X : Int} (hd : 0 ≤ d ∧ d ≤ 2) (hab : w 73 X 0 ≤ w 74 X 0) : tr_meet X (d + 1) q k w 73 X 0 = mvA d q k (w 73 X 0) (w 74 X 0) ∧ tr_meet X (d + 1) q k w 74 X 0 = mvB d q k (w 73 X 0) (w 74 X 0) ∧ (tr_meet X (d + 1) q k w 75 X 0 ≠ 0 ↔ w 75 X 0 ≠ 0 ∨ cov d q k (w 73 X 0) (w 74 X 0)) ∧ tr_meet X (d + 1) q k w 76 X 0 = w 76 X 0 ∧ tr_meet X (d + 1) q k w 36 X 0 = w 36 X 0 := by
  have c3 : d = 0 ∨ d = 1 ∨ d = 2 := by omega
  have sh : ∀ m : Int, tr_shift X m w 73 X 0 = w 73 X 0 + m ∧ tr_shift X m w 74 X 0 = w 74 X 0 + m ∧ tr_shift X m w 75 X 0 = w 75 X 0 := fun m => by
    unfold tr_shift
    exact ⟨by rw [up_k _ (by decide), up_s], by rw [up_s], by rw [up_k _ (by decide), up_k _ (by decide)]⟩
  have co : up w 75 X 0 1 73 X 0 = w 73 X 0 ∧ up w 75 X 0 1 74 X 0 = w 74 X 0 ∧ up w 75 X 0 1 75 X 0 = 1 := ⟨up_k _ (by decide) _ _ _ _ _, up_k _ (by decide) _ _ _ _ _, up_s _ _ _ _ _⟩
  obtain ⟨a, ha⟩ : ∃ a, a = w 73 X 0 := ⟨_, rfl⟩
  obtain ⟨b, hb⟩ : ∃ b, b = w 74 X 0 := ⟨_, rfl⟩
  have key : ∃ Y : Mm, tr_meet X (d + 1) q k w = Y ∧ Y 73 X 0 = mvA d q k a b ∧ Y 74 X 0 = mvB d q k a b ∧ (Y 75 X 0 ≠ 0 ↔ w 75 X 0 ≠ 0 ∨ cov d q k a b) := by
    rcases c3 with rfl | rfl | rfl
    · have e : tr_meet X (0 + 1) q k w = tr_ins X q k w := by unfold tr_meet; rw [if_pos (by decide)]
      rw [mvA_0, mvB_0]
      by_cases c1 : q < a ∨ (q = a ∧ a < b)
      · refine ⟨tr_shift X k w, by rw [e]; unfold tr_ins; rw [← ha, ← hb, if_pos c1], by rw [(sh k).1, if_pos c1, ha], by rw [(sh k).2.1, if_pos c1, hb], ?_⟩
        rw [(sh k).2.2]; unfold cov; constructor <;> intro z <;> omega
      · by_cases c2 : q < b ∨ q = a
        · refine ⟨up w 75 X 0 1, by rw [e]; unfold tr_ins; rw [← ha, ← hb, if_neg c1, if_pos c2], by rw [co.1, if_neg c1, ha]; omega, by rw [co.2.1, if_neg c1, hb]; omega, ?_⟩
          rw [co.2.2]; unfold cov; constructor <;> intro z <;> omega
        · refine ⟨w, by rw [e]; unfold tr_ins; rw [← ha, ← hb, if_neg c1, if_neg c2], by rw [if_neg c1, ha]; omega, by rw [if_neg c1, hb]; omega, ?_⟩
          unfold cov; constructor <;> intro z <;> omega
    · have e : tr_meet X (1 + 1) q k w = tr_del X q k w := by unfold tr_meet; rw [if_neg (by decide), if_pos (by decide)]
      rw [mvA_1, mvB_1]
      by_cases c1 : q + k ≤ a
      · refine ⟨tr_shift X (-k) w, by rw [e]; unfold tr_del; rw [← ha, if_pos c1], by rw [(sh _).1, if_pos c1, ha]; omega, by rw [(sh _).2.1, if_pos c1, hb]; omega, ?_⟩
        rw [(sh _).2.2]; unfold cov; constructor <;> intro z <;> omega
      · by_cases c2 : q < b
        · refine ⟨up w 75 X 0 1, by rw [e]; unfold tr_del; rw [← ha, ← hb, if_neg c1, if_pos c2], by rw [co.1, if_neg c1, ha]; omega, by rw [co.2.1, if_neg c1, hb]; omega, ?_⟩
          rw [co.2.2]; unfold cov; constructor <;> intro z <;> omega
        · refine ⟨w, by rw [e]; unfold tr_del; rw [← ha, ← hb, if_neg c1, if_neg c2], by rw [if_neg c1, ha]; omega, by rw [if_neg c1, hb]; omega, ?_⟩
          unfold cov; constructor <;> intro z <;> omega
    · have e : tr_meet X (2 + 1) q k w = if ((2 : Int) + 1 = 3) ∧ w 73 X 0 ≤ q ∧ q < w 74 X 0 then up w 75 X 0 1 else w := by unfold tr_meet; rw [if_neg (by decide), if_neg (by decide)]
      rw [mvA_2, mvB_2]
      by_cases c1 : a ≤ q ∧ q < b
      · refine ⟨up w 75 X 0 1, by rw [e, ← ha, ← hb, if_pos ⟨by decide, c1⟩], by rw [co.1, ha], by rw [co.2.1, hb], ?_⟩
        rw [co.2.2]; unfold cov; constructor <;> intro z <;> omega
      · refine ⟨w, by rw [e, ← ha, ← hb, if_neg (fun z => c1 z.2)], ha.symm, hb.symm, ?_⟩
        unfold cov; constructor <;> intro z <;> omega
  obtain ⟨Y, e, k1, k2, k3⟩ := key
  rw [← ha, ← hb]
  refine ⟨by rw [e]; exact k1, by rw [e]; exact k2, by rw [e]; exact k3, tr_meet_k (by decide) (by decide) (by decide), tr_meet_k (by decide) (by decide) (by decide)⟩
/-- steps of other kinds are not met -/
theorem meet_n {X : Int} (hk : 3 < k) : tr_meet X k p n w = w := by unfold tr_meet; rw [if_neg (by omega), if_neg (by omega), if_neg (by omega)]
theorem own_n (hk : 3 < k) : ∀ c : Nat, ts_own x q k p n w c = w
  | 0 => rfl
  | c + 1 => by
    show ts_o1 _ _ _ _ _ (ts_own x q k p n w c) = w
    rw [own_n hk c]; unfold ts_o1; rw [meet_n hk, if_neg (by omega)]
theorem met_n (hk : 3 < k) : ∀ c : Nat, ts_met x k p n w c = w
  | 0 => rfl
  | c + 1 => by
    show tr_meet _ _ _ _ (ts_met x k p n w c) = w
    rw [met_n hk c]; exact meet_n hk
/-- bits -/
theorem sbt_all : ∀ c : Fin 8, ∀ v : Fin 256, ((v.val : Int) < pw c.val → sbt v.val c.val < pw (c.val + 1) ∧ sbt v.val c.val / pw c.val % 2 = 1 ∧ 0 ≤ sbt v.val c.val) ∧ ∀ j : Fin 8, j.val < c.val → sbt v.val c.val / pw j.val % 2 = (v.val : Int) / pw j.val % 2 := by decide +kernel
theorem pw_le : ∀ c : Fin 9, 0 < pw c.val ∧ pw c.val ≤ 256 ∧ (c.val < 8 → pw c.val < pw (c.val + 1)) := by decide +kernel
theorem sbt_v {c : Int} (hc : 0 ≤ c ∧ c < 8) (hv : 0 ≤ v ∧ v < pw c) : (sbt v c < pw (c + 1) ∧ sbt v c / pw c % 2 = 1 ∧ 0 ≤ sbt v c) ∧ (∀ j, 0 ≤ j → j < c → sbt v c / pw j % 2 = v / pw j % 2) ∧ v / pw c % 2 = 0 ∧ v < pw (c + 1) := by
  have hp := pw_le ⟨c.toNat, by omega⟩
  dsimp only at hp
  rw [show ((c.toNat : Nat) : Int) = c by omega] at hp
  have h := sbt_all ⟨c.toNat, by omega⟩ ⟨v.toNat, by omega⟩
  dsimp only at h
  rw [show ((c.toNat : Nat) : Int) = c by omega, show ((v.toNat : Nat) : Int) = v by omega] at h
  refine ⟨h.1 hv.2, fun j j0 j1 => ?_, ?_, by have := hp.2.2 (by omega); omega⟩
  · have hj := h.2 ⟨j.toNat, by omega⟩ (by show j.toNat < c.toNat; omega)
    dsimp only at hj
    rw [show ((j.toNat : Nat) : Int) = j by omega] at hj
    exact hj
  · rw [Int.ediv_eq_zero_of_lt hv.1 hv.2]; rfl
/-- what the reference marks of traces that a step moved back -/
theorem mov_246v {t y s j : Int} (hy : -1 ≤ y ∧ y < 8) (ht : 0 ≤ t ∧ t < 8) (hs : 0 ≤ s ∧ s < 8) (hj : 0 ≤ j ∧ j < 8) (hd : 0 ≤ d ∧ d ≤ 2) : m_mov μ t d q k y W 246 0 (8 * s + j) = if (d = 1 ∧ 0 ≤ y) ∧ s = t ∧ j = y then (if q + k ≤ W 244 0 t then 1 else 0) else W 246 0 (8 * s + j) := by
  have c3 : d = 0 ∨ d = 1 ∨ d = 2 := by omega
  unfold m_mov
  rcases c3 with rfl | rfl | rfl
  · rw [if_neg (by decide), if_pos rfl, if_neg (fun z => absurd z.1.1 (by decide))]
    unfold m_mvI; simp (disch := decide) only [up_k]
  · rw [if_neg (by decide), if_neg (by decide)]
    unfold m_mvD
    by_cases c : y < 0
    · simp only [if_pos c]
      rw [if_neg (show ¬ ((True ∧ 0 ≤ y) ∧ s = t ∧ j = y) from fun z => by omega)]
      by_cases e : 8 * s + j = 8 * t + 0
      · rw [e, up_s, Int.add_zero]
      · rw [up_i _ _ _ _ _ _ e]; simp (disch := decide) only [up_k]
    · simp only [if_neg c]
      by_cases e : s = t ∧ j = y
      · rw [if_pos (show (True ∧ 0 ≤ y) ∧ s = t ∧ j = y from ⟨⟨trivial, by omega⟩, e⟩), e.1, e.2, up_s]
      · rw [if_neg (show ¬ ((True ∧ 0 ≤ y) ∧ s = t ∧ j = y) from fun z => e z.2), up_i _ _ _ _ _ _ (show 8 * s + j ≠ 8 * t + y by omega)]; simp (disch := decide) only [up_k]
  · rw [if_pos rfl, if_neg (fun z => absurd z.1.1 (by decide))]
    unfold m_mvR; exact up_k _ (by decide) _ _ _ _ _
theorem mvN_246v {y s j : Int} (hy : -1 ≤ y ∧ y < 8) (hs : 0 ≤ s ∧ s < 8) (hj : 0 ≤ j ∧ j < 8) (hd : 0 ≤ d ∧ d ≤ 2) : ∀ n : Nat, n ≤ 8 → m_mvN μ d q k y n W 246 0 (8 * s + j) = if (d = 1 ∧ 0 ≤ y) ∧ s < n ∧ j = y then (if q + k ≤ W 244 0 s then 1 else 0) else W 246 0 (8 * s + j)
  | 0, _ => by rw [if_neg (by omega)]; rfl
  | n + 1, hn => by
    simp only [m_mvN]
    rw [mov_246v hy (by omega) hs hj hd, mvN_246v hy hs hj hd n (by omega), mvN_o (Or.inl rfl) n (Int.le_refl _)]
    by_cases c : (d = 1 ∧ 0 ≤ y) ∧ j = y
    · by_cases e : s = n
      · rw [if_pos (show (d = 1 ∧ 0 ≤ y) ∧ s = (n : Int) ∧ j = y from ⟨c.1, e, c.2⟩), if_pos (show (d = 1 ∧ 0 ≤ y) ∧ s < ((n + 1 : Nat) : Int) ∧ j = y from ⟨c.1, by omega, c.2⟩), e]
      · rw [if_neg (show ¬ ((d = 1 ∧ 0 ≤ y) ∧ s = (n : Int) ∧ j = y) from fun z => e z.2.1)]
        by_cases e2 : s < n
        · rw [if_pos (show (d = 1 ∧ 0 ≤ y) ∧ s < (n : Int) ∧ j = y from ⟨c.1, e2, c.2⟩), if_pos (show (d = 1 ∧ 0 ≤ y) ∧ s < ((n + 1 : Nat) : Int) ∧ j = y from ⟨c.1, by omega, c.2⟩)]
        · rw [if_neg (show ¬ ((d = 1 ∧ 0 ≤ y) ∧ s < (n : Int) ∧ j = y) from fun z => e2 z.2.1), if_neg (show ¬ ((d = 1 ∧ 0 ≤ y) ∧ s < ((n + 1 : Nat) : Int) ∧ j = y) from fun z => by have := z.2.1; omega)]
    · rw [if_neg (show ¬ ((d = 1 ∧ 0 ≤ y) ∧ s = (n : Int) ∧ j = y) from fun z => c ⟨z.1, z.2.2⟩), if_neg (show ¬ ((d = 1 ∧ 0 ≤ y) ∧ s < (n : Int) ∧ j = y) from fun z => c ⟨z.1, z.2.2⟩), if_neg (show ¬ ((d = 1 ∧ 0 ≤ y) ∧ s < ((n + 1 : Nat) : Int) ∧ j = y) from fun z => c ⟨z.1, z.2.2⟩)]
end TRR
