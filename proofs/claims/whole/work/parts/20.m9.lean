/-- fewer locals are known -/
def lwk : List (Option Value) → List (Option Value) → Prop
  | [], [] => True
  | a :: as, b :: bs => (a = none ∨ a = b) ∧ lwk as bs
  | _, _ => False
theorem lwk_len : ∀ {a b : List (Option Value)}, lwk a b → a.length = b.length
  | [], [], _ => rfl
  | a :: as, b :: bs, h => by simp only [List.length_cons]; rw [lwk_len h.2]
  | [], b :: bs, h => h.elim
  | a :: as, [], h => h.elim
theorem lwk_get : ∀ {a b : List (Option Value)}, lwk a b → ∀ {i : Nat} {v : Value}, lget a i = some v → lget b i = some v
  | [], [], _, i, v, e => by simp [lget] at e
  | a :: as, b :: bs, h, 0, v, e => by
    simp only [lget] at e ⊢
    rcases h.1 with h1 | h1
    · rw [h1] at e; cases e
    · rw [← h1]; exact e
  | a :: as, b :: bs, h, i + 1, v, e => by
    simp only [lget] at e ⊢
    exact lwk_get h.2 e
  | [], b :: bs, h, _, _, _ => h.elim
  | a :: as, [], h, _, _, _ => h.elim
theorem X_wk {κ : KC} {P S : Nat} {w : Mm} {pc : Nat} {ls ls' : List (Option Value)} {st : List Value} (h : lwk ls' ls) (k : X κ P S w pc ls' st) : X κ P S w pc ls st :=
  fun H locs la c n h1 h2 h3 h4 h5 h6 => k H locs la c n h1 h2 h3 ⟨h4.1, h4.2.1, (lwk_len h).trans h4.2.2.1, fun i v e => h4.2.2.2 i v (lwk_get h e)⟩ h5 h6
def sumN (f : Int → Int) : Nat → Int
  | 0 => 0
  | n + 1 => sumN f n + f n
theorem sumN_s {f : Int → Int} {j s v : Int} (hj : 0 ≤ j) (hs : s = sumN f j.toNat) (hv : v = f j) : s + v = sumN f (j + 1).toNat := by
  rw [show (j + 1).toNat = j.toNat + 1 by omega]
  show s + v = sumN f j.toNat + f (j.toNat : Int)
  rw [show ((j.toNat : Nat) : Int) = j by omega, hs, hv]
theorem sumN_nn {f : Int → Int} (hf : ∀ k, 0 ≤ f k) : ∀ n, 0 ≤ sumN f n
  | 0 => Int.le_refl _
  | n + 1 => by have := sumN_nn hf n; have := hf n; simp only [sumN]; omega
theorem sumN_pos {f : Int → Int} : ∀ {n : Nat}, (0 < sumN f n) → ∃ k : Int, 0 ≤ k ∧ k < n ∧ 0 < f k
  | 0, h => by simp only [sumN] at h; omega
  | n + 1, h => by
    simp only [sumN] at h
    by_cases c : 0 < f n
    · exact ⟨n, by omega, by omega, c⟩
    · obtain ⟨k, h1, h2, h3⟩ := sumN_pos (f := f) (n := n) (by omega)
      exact ⟨k, h1, by omega, h3⟩
/-- the last place below n at which f is 1; -1 if there is none -/
def lst (f : Int → Int) : Nat → Int
  | 0 => -1
  | n + 1 => if f n = 1 then n else lst f n
theorem lst_s {f : Int → Int} {j s v : Int} (hj : 0 ≤ j) (hs : s = lst f j.toNat) (hv : (f j = 1 ∧ v = j) ∨ (f j ≠ 1 ∧ v = s)) : v = lst f (j + 1).toNat := by
  rw [show (j + 1).toNat = j.toNat + 1 by omega]
  show v = if f (j.toNat : Int) = 1 then (j.toNat : Int) else lst f j.toNat
  rw [show ((j.toNat : Nat) : Int) = j by omega]
  rcases hv with ⟨h1, h2⟩ | ⟨h1, h2⟩
  · rw [if_pos h1]; exact h2
  · rw [if_neg h1, h2]; exact hs
theorem lst_spec (f : Int → Int) : ∀ n : Nat, (lst f n = -1 ∧ ∀ k : Int, 0 ≤ k → k < n → f k ≠ 1) ∨ (0 ≤ lst f n ∧ lst f n < n ∧ f (lst f n) = 1 ∧ ∀ k : Int, lst f n < k → k < n → f k ≠ 1)
  | 0 => Or.inl ⟨rfl, fun k h1 h2 => by omega⟩
  | n + 1 => by
    simp only [lst]
    by_cases e : f n = 1
    · rw [if_pos e]; exact Or.inr ⟨by omega, by omega, e, fun k h1 h2 => by omega⟩
    · rw [if_neg e]
      rcases lst_spec f n with ⟨h1, h2⟩ | ⟨h1, h2, h3, h4⟩
      · refine Or.inl ⟨h1, fun k h3 h4 => ?_⟩
        by_cases c : k = n
        · subst c; exact e
        · exact h2 k h3 (by omega)
      · refine Or.inr ⟨h1, by omega, h3, fun k h5 h6 => ?_⟩
        by_cases c : k = n
        · subst c; exact e
        · exact h4 k h5 (by omega)
/-- listener j comes ahead of listener k -/
def m_ahd (w : Mm) (k j : Int) : Int := bi (w 228 0 j = 1 ∧ (w 231 0 j < w 231 0 k ∨ (w 231 0 j = w 231 0 k ∧ j < k)))
def m_orF (p : Int) (w : Mm) (k : Int) : Int := bi (w 228 0 k = 1 ∧ sumN (m_ahd w k) 3 = p)
def m_ord (p : Int) (w : Mm) : Int := fnd (m_orF p w) 1 3 0
def m_pof (c : Int) (w : Mm) : Int := fnd (fun i => w 200 0 i) c (w 201 0 0).toNat 0
theorem ord_rng (p : Int) (w : Mm) : m_ord p w = -1 ∨ (0 ≤ m_ord p w ∧ m_ord p w ≤ 2) := by
  have := fnd_spec (m_orF p w) 1 3 0
  unfold m_ord; omega
theorem pof_rng (c : Int) (w : Mm) (h : 0 ≤ w 201 0 0) : m_pof c w = -1 ∨ (0 ≤ m_pof c w ∧ m_pof c w < w 201 0 0 ∧ w 200 0 (m_pof c w) = c) := by
  rcases fnd_spec (fun i => w 200 0 i) c (w 201 0 0).toNat 0 with h1 | h1
  · exact Or.inl h1.1
  · refine Or.inr ⟨h1.1, ?_, h1.2.2.1⟩
    have := h1.2.1
    unfold m_pof; omega
def m_nrun (μ : MU) : Nat → Int → Mm → Option (Int × Mm)
  | 0, _, _ => none
  | n + 1, d, w =>
    if d ≤ 0 then some (1, w) else
    if (if w 234 0 d < 3 then m_ord (w 234 0 d) w else -1) = -1 then m_nrun μ n (d - 1) (up w 234 0 d (w 234 0 d + 1)) else
    if m_pof (w 229 0 (m_ord (w 234 0 d) w)) (up w 234 0 d (w 234 0 d + 1)) = -1 then m_nrun μ n d (up w 234 0 d (w 234 0 d + 1)) else
    if d = 8 then some (0, fl (up (up w 234 0 d (w 234 0 d + 1)) 233 0 d (m_ord (w 234 0 d) w)) 232 0 8 (fun k => up (up w 234 0 d (w 234 0 d + 1)) 233 0 d (m_ord (w 234 0 d) w) 233 0 (k + 1))) else
    m_nrun μ n (d + 1) (up (m_rep μ (m_pof (w 229 0 (m_ord (w 234 0 d) w)) (up (up w 234 0 d (w 234 0 d + 1)) 233 0 d (m_ord (w 234 0 d) w))) (w 230 0 (m_ord (w 234 0 d) w)) (up (up w 234 0 d (w 234 0 d + 1)) 233 0 d (m_ord (w 234 0 d) w))) 234 0 (d + 1) 0)
def bPo (w : Mm) : Prop := ∀ i, 0 ≤ i → i < 9 → 0 ≤ w 234 0 i ∧ w 234 0 i ≤ 4
def bPd (d : Int) (w : Mm) : Prop := ∀ i, 1 ≤ i → i ≤ d → w 234 0 i ≤ 3
def bOt (w : Mm) : Prop := ∀ i, 0 ≤ i → i < 3 → 0 ≤ w 230 0 i ∧ w 230 0 i ≤ 126
def NI (μ : MU) (S P : Int) (d : Int) (w : Mm) : Prop := LB μ S P w ∧ bPo w ∧ bPd d w ∧ bOt w ∧ d ≤ 8
theorem LB.cong {μ : MU} {S P : Int} {w w' : Mm} (h : LB μ S P w) (e : ∀ c a i, 200 ≤ c → c ≤ 240 → (c ≤ 211 ∨ 240 ≤ c) → w' c a i = w c a i) (e1 : w' 120 μ.1 0 = w 120 μ.1 0) (e2 : w' 121 μ.1 0 = w 121 μ.1 0) : LB μ S P w' := by
  obtain ⟨h1, h2, h3, h4, h5⟩ := h
  exact ⟨h1.cong fun c a i x y => e c a i (by omega) (by omega) (by omega), h2.cong (fun c a i x y => e c a i (by omega) (by omega) (by omega)) (e _ _ _ (by decide) (by decide) (by decide)), h3.cong fun i => e _ _ _ (by decide) (by decide) (by decide), h4.cong fun i => e _ _ _ (by decide) (by decide) (by decide), h5.cong e1 e2⟩
theorem LB.up_o {μ : MU} {S P : Int} {w : Mm} (h : LB μ S P w) {c : Nat} {a i v : Int} (hc : (c < 200 ∧ c ≠ 120 ∧ c ≠ 121) ∨ (211 < c ∧ c ≠ 240)) : LB μ S P (up w c a i v) :=
  h.cong (fun c' _ _ _ _ _ => up_k _ (by omega) _ _ _ _ _) (up_k _ (by omega) _ _ _ _ _) (up_k _ (by omega) _ _ _ _ _)
theorem bPo.u {w : Mm} (h : bPo w) {d v : Int} (hv : 0 ≤ v ∧ v ≤ 4) : bPo (up w 234 0 d v) := by
  intro i a b
  simp only [up, true_and]
  split
  · exact hv
  · exact h i a b
theorem bPd.u {w : Mm} {d : Int} (h : bPd d w) {x v : Int} (hv : v ≤ 3) : bPd d (up w 234 0 x v) := by
  intro i a b
  simp only [up, true_and]
  split
  · exact hv
  · exact h i a b
theorem NI.pop {μ : MU} {S P d : Int} {w : Mm} (h : NI μ S P d w) (hd : 1 ≤ d) : NI μ S P (d - 1) (up w 234 0 d (w 234 0 d + 1)) := by
  obtain ⟨h1, h2, h3, h4, h5⟩ := h
  have := h3 d hd (Int.le_refl _)
  have := h2 d (by omega) (by omega)
  refine ⟨h1.up_o (by decide), h2.u (by omega), fun i a b => ?_, fun i a b => ?_, by omega⟩
  · rw [up_i _ _ _ _ _ _ (by omega)]; exact h3 i a (by omega)
  · rw [up_k _ (by decide)]; exact h4 i a b
theorem NI.on {μ : MU} {S P d : Int} {w : Mm} (h : NI μ S P d w) (hd : 1 ≤ d) (hp : w 234 0 d < 3) : NI μ S P d (up w 234 0 d (w 234 0 d + 1)) := by
  obtain ⟨h1, h2, h3, h4, h5⟩ := h
  have := h2 d (by omega) (by omega)
  refine ⟨h1.up_o (by decide), h2.u (by omega), h3.u (by omega), fun i a b => ?_, by omega⟩
  rw [up_k _ (by decide)]; exact h4 i a b
theorem NI.tr {μ : MU} {S P d x l : Int} {w : Mm} (h : NI μ S P d w) : NI μ S P d (up w 233 0 x l) := by
  obtain ⟨h1, h2, h3, h4, h5⟩ := h
  refine ⟨h1.up_o (by decide), fun i a b => ?_, fun i a b => ?_, fun i a b => ?_, h5⟩
  · rw [up_k _ (by decide)]; exact h2 i a b
  · rw [up_k _ (by decide)]; exact h3 i a b
  · rw [up_k _ (by decide)]; exact h4 i a b
theorem NI.dn {μ : MU} {S P d q c : Int} {w : Mm} (h : NI μ S P d w) (hd : d < 8) (hd1 : 1 ≤ d) (hc : 0 ≤ c ∧ c ≤ 126) : NI μ (S + 1) P (d + 1) (up (m_rep μ q c w) 234 0 (d + 1) 0) := by
  obtain ⟨h1, h2, h3, h4, h5⟩ := h
  refine ⟨(h1.rep hc).up_o (by decide), ?_, fun i a b => ?_, fun i a b => ?_, by omega⟩
  · refine bPo.u (fun i a b => ?_) (by decide)
    rw [rep_at (by decide)]; exact h2 i a b
  · simp only [up, true_and]
    split
    · decide
    · rw [rep_at (by decide)]; exact h3 i a (by omega)
  · rw [up_k _ (by decide), rep_at (by decide)]; exact h4 i a b
theorem NI.mono {μ : MU} {S P S' d : Int} {w : Mm} (h : NI μ S P d w) (hs : S ≤ S') : NI μ S' P d w := ⟨h.1.mono hs (Int.le_refl _), h.2⟩
theorem dX13_ordered_0 : decode cX13_ordered 0 = .ok (.iconst 0, 1) := by decide +kernel
theorem dX13_ordered_1 : decode cX13_ordered 1 = .ok (.istore_n 2, 1) := by decide +kernel
theorem dX13_ordered_2 : decode cX13_ordered 2 = .ok (.iload_n 2, 1) := by decide +kernel
theorem dX13_ordered_3 : decode cX13_ordered 3 = .ok (.iconst 3, 1) := by decide +kernel
theorem dX13_ordered_4 : decode cX13_ordered 4 = .ok (.if_icmp .ge 100, 3) := by decide +kernel
theorem dX13_ordered_7 : decode cX13_ordered 7 = .ok (.iconst 0, 1) := by decide +kernel
theorem dX13_ordered_8 : decode cX13_ordered 8 = .ok (.istore_n 3, 1) := by decide +kernel
theorem dX13_ordered_9 : decode cX13_ordered 9 = .ok (.iconst 0, 1) := by decide +kernel
theorem dX13_ordered_10 : decode cX13_ordered 10 = .ok (.istore 4, 2) := by decide +kernel
theorem dX13_ordered_12 : decode cX13_ordered 12 = .ok (.iload 4, 2) := by decide +kernel
theorem dX13_ordered_14 : decode cX13_ordered 14 = .ok (.iconst 3, 1) := by decide +kernel
theorem dX13_ordered_15 : decode cX13_ordered 15 = .ok (.if_icmp .ge 66, 3) := by decide +kernel
theorem dX13_ordered_18 : decode cX13_ordered 18 = .ok (.iload_n 3, 1) := by decide +kernel
theorem dX13_ordered_19 : decode cX13_ordered 19 = .ok (.aload_n 0, 1) := by decide +kernel
theorem dX13_ordered_20 : decode cX13_ordered 20 = .ok (.getfield 108, 3) := by decide +kernel
theorem dX13_ordered_23 : decode cX13_ordered 23 = .ok (.iload 4, 2) := by decide +kernel
theorem dX13_ordered_25 : decode cX13_ordered 25 = .ok (.iaload, 1) := by decide +kernel
theorem dX13_ordered_26 : decode cX13_ordered 26 = .ok (.iconst 1, 1) := by decide +kernel
theorem dX13_ordered_27 : decode cX13_ordered 27 = .ok (.if_icmp .ne 45, 3) := by decide +kernel
theorem dX13_ordered_30 : decode cX13_ordered 30 = .ok (.aload_n 0, 1) := by decide +kernel
theorem dX13_ordered_31 : decode cX13_ordered 31 = .ok (.getfield 117, 3) := by decide +kernel
theorem dX13_ordered_34 : decode cX13_ordered 34 = .ok (.iload 4, 2) := by decide +kernel
theorem dX13_ordered_36 : decode cX13_ordered 36 = .ok (.iaload, 1) := by decide +kernel
theorem dX13_ordered_37 : decode cX13_ordered 37 = .ok (.aload_n 0, 1) := by decide +kernel
theorem dX13_ordered_38 : decode cX13_ordered 38 = .ok (.getfield 117, 3) := by decide +kernel
theorem dX13_ordered_41 : decode cX13_ordered 41 = .ok (.iload_n 2, 1) := by decide +kernel
theorem dX13_ordered_42 : decode cX13_ordered 42 = .ok (.iaload, 1) := by decide +kernel
theorem dX13_ordered_43 : decode cX13_ordered 43 = .ok (.if_icmp .lt 25, 3) := by decide +kernel
theorem dX13_ordered_46 : decode cX13_ordered 46 = .ok (.aload_n 0, 1) := by decide +kernel
theorem dX13_ordered_47 : decode cX13_ordered 47 = .ok (.getfield 117, 3) := by decide +kernel
theorem dX13_ordered_50 : decode cX13_ordered 50 = .ok (.iload 4, 2) := by decide +kernel
theorem dX13_ordered_52 : decode cX13_ordered 52 = .ok (.iaload, 1) := by decide +kernel
theorem dX13_ordered_53 : decode cX13_ordered 53 = .ok (.aload_n 0, 1) := by decide +kernel
theorem dX13_ordered_54 : decode cX13_ordered 54 = .ok (.getfield 117, 3) := by decide +kernel
theorem dX13_ordered_57 : decode cX13_ordered 57 = .ok (.iload_n 2, 1) := by decide +kernel
theorem dX13_ordered_58 : decode cX13_ordered 58 = .ok (.iaload, 1) := by decide +kernel
theorem dX13_ordered_59 : decode cX13_ordered 59 = .ok (.if_icmp .ne 13, 3) := by decide +kernel
theorem dX13_ordered_62 : decode cX13_ordered 62 = .ok (.iload 4, 2) := by decide +kernel
theorem dX13_ordered_64 : decode cX13_ordered 64 = .ok (.iload_n 2, 1) := by decide +kernel
theorem dX13_ordered_65 : decode cX13_ordered 65 = .ok (.if_icmp .ge 7, 3) := by decide +kernel
theorem dX13_ordered_68 : decode cX13_ordered 68 = .ok (.iconst 1, 1) := by decide +kernel
theorem dX13_ordered_69 : decode cX13_ordered 69 = .ok (.goto 4, 3) := by decide +kernel
theorem dX13_ordered_72 : decode cX13_ordered 72 = .ok (.iconst 0, 1) := by decide +kernel
theorem dX13_ordered_73 : decode cX13_ordered 73 = .ok (.iadd, 1) := by decide +kernel
theorem dX13_ordered_74 : decode cX13_ordered 74 = .ok (.istore_n 3, 1) := by decide +kernel
theorem dX13_ordered_75 : decode cX13_ordered 75 = .ok (.iinc 4 1, 3) := by decide +kernel
theorem dX13_ordered_78 : decode cX13_ordered 78 = .ok (.goto (-66), 3) := by decide +kernel
theorem dX13_ordered_81 : decode cX13_ordered 81 = .ok (.aload_n 0, 1) := by decide +kernel
theorem dX13_ordered_82 : decode cX13_ordered 82 = .ok (.getfield 108, 3) := by decide +kernel
theorem dX13_ordered_85 : decode cX13_ordered 85 = .ok (.iload_n 2, 1) := by decide +kernel
theorem dX13_ordered_86 : decode cX13_ordered 86 = .ok (.iaload, 1) := by decide +kernel
theorem dX13_ordered_87 : decode cX13_ordered 87 = .ok (.iconst 1, 1) := by decide +kernel
theorem dX13_ordered_88 : decode cX13_ordered 88 = .ok (.if_icmp .ne 10, 3) := by decide +kernel
theorem dX13_ordered_91 : decode cX13_ordered 91 = .ok (.iload_n 3, 1) := by decide +kernel
theorem dX13_ordered_92 : decode cX13_ordered 92 = .ok (.iload_n 1, 1) := by decide +kernel
theorem dX13_ordered_93 : decode cX13_ordered 93 = .ok (.if_icmp .ne 5, 3) := by decide +kernel
theorem dX13_ordered_96 : decode cX13_ordered 96 = .ok (.iload_n 2, 1) := by decide +kernel
theorem dX13_ordered_97 : decode cX13_ordered 97 = .ok (.ireturn, 1) := by decide +kernel
theorem dX13_ordered_98 : decode cX13_ordered 98 = .ok (.iinc 2 1, 3) := by decide +kernel
theorem dX13_ordered_101 : decode cX13_ordered 101 = .ok (.goto (-99), 3) := by decide +kernel
theorem dX13_ordered_104 : decode cX13_ordered 104 = .ok (.iconst (-1), 1) := by decide +kernel
theorem dX13_ordered_105 : decode cX13_ordered 105 = .ok (.ireturn, 1) := by decide +kernel
set_option maxRecDepth 4000 in
theorem c_ordered (γ : LC) (μ : MU) (w : Mm) (p : Int) (hp : 0 ≤ p ∧ p ≤ 3) : CMi γ μ 0 mX13_ordered [.int (I p)] w (fun r w' => r = m_ord p w ∧ w = w') := by
  refine CMi_of rfl (by simp [rv_cat, Value.category]) rfl ?_
  rintro κ hO hF rfl hR
  have hD := hF.dp
  show X κ 0 0 w 0 [some (rv μ.1), some (.int (I p)), none, none, none] []
  refine X_iconst 1 hO dX13_ordered_0 rfl ?_
  refine X_istore_n 2 hO dX13_ordered_1 rfl rfl ?_
  have LP2 : ∀ (n : Nat) (k : Int), (3 - k).toNat < n → (0 ≤ k ∧ k ≤ 3) → (m_ord p w = fnd (m_orF p w) 1 (3 - k).toNat k) → RM (w) μ → X κ 0 0 (w) 2 [some (rv μ.1), some (.int (I p)), some (.int (I k)), none, none] [] := by
    intro n
    induction n with
    | zero => intro k hm; exact absurd hm (Nat.not_lt_zero _)
    | succ n iho =>
      intro k hm hk hj hR
      refine X_iload_n 3 hO dX13_ordered_2 rfl rfl ?_
      refine X_iconst 4 hO dX13_ordered_3 rfl ?_
      refine X_icmp_ge 7 104 hO dX13_ordered_4 rfl rfl (by omega) (by omega) (fun hc_4 => ?_) (fun hc_4 => ?_)
      ·
        refine X_iconst 105 hO dX13_ordered_104 rfl ?_
        exact XM_iret hO hF hR rfl (by first | exact Or.inl rfl | exact Or.inr ⟨rfl, bi_01 _⟩ | exact Or.inr ⟨rfl, by omega⟩) dX13_ordered_105 (by omega) ⟨by rw [hj, fnd_no (by omega)], rfl⟩
      ·
        refine X_iconst 8 hO dX13_ordered_7 rfl ?_
        refine X_istore_n 9 hO dX13_ordered_8 rfl rfl ?_
        refine X_iconst 10 hO dX13_ordered_9 rfl ?_
        refine X_istore 12 hO dX13_ordered_10 rfl rfl ?_
        have LP12 : ∀ (n : Nat) (j s : Int), (3 - j).toNat < n → (0 ≤ j ∧ j ≤ 3) → (0 ≤ s ∧ s ≤ j) → (s = sumN (m_ahd w k) j.toNat) → RM (w) μ → X κ 0 0 (w) 12 [some (rv μ.1), some (.int (I p)), some (.int (I k)), some (.int (I s)), some (.int (I j))] [] := by
          intro n
          induction n with
          | zero => intro j s hm; exact absurd hm (Nat.not_lt_zero _)
          | succ n ih =>
            intro j s hm hj2 hs2 hs hR
            refine X_iload 14 hO dX13_ordered_12 rfl rfl ?_
            refine X_iconst 15 hO dX13_ordered_14 rfl ?_
            refine X_icmp_ge 18 81 hO dX13_ordered_15 rfl rfl (by omega) (by omega) (fun hc_15 => ?_) (fun hc_15 => ?_)
            ·
              have e15 : j = 3 := by omega
              subst e15
              have hs3 : s = sumN (m_ahd w k) 3 := hs
              refine X_aload_n 82 hO dX13_ordered_81 rfl rfl ?_
              refine ga_108 85 hO hR dX13_ordered_82 rfl ?_
              refine X_iload_n 86 hO dX13_ordered_85 rfl rfl ?_
              refine ma_ld (L := 3) (c := 228) 87 hO hR rfl rfl rfl dX13_ordered_86 rfl (by omega) (by omega) (fun hi_86 => ?_)
              refine X_iconst 88 hO dX13_ordered_87 rfl ?_
              refine X_icmp_ne 91 98 hO dX13_ordered_88 rfl rfl (by omega) (by omega) (fun hc_88 => ?_) (fun hc_88 => ?_)
              ·
                refine X_iinc 101 hO dX13_ordered_98 rfl rfl ?_
                refine X_goto hO dX13_ordered_101 (tgt := 2) rfl ?_
                exact X_wk (by simp only [lwk, lset, true_or, or_true, and_self]) (iho (k + 1) (by omega) (by omega) (hj.trans (fnd_next (by omega) (by unfold m_orF bi; rw [if_neg (by omega)]; decide))) hR)
              ·
                refine X_iload_n 92 hO dX13_ordered_91 rfl rfl ?_
                refine X_iload_n 93 hO dX13_ordered_92 rfl rfl ?_
                refine X_icmp_ne 96 98 hO dX13_ordered_93 rfl rfl (by omega) (by omega) (fun hc_93 => ?_) (fun hc_93 => ?_)
                ·
                  refine X_iinc 101 hO dX13_ordered_98 rfl rfl ?_
                  refine X_goto hO dX13_ordered_101 (tgt := 2) rfl ?_
                  exact X_wk (by simp only [lwk, lset, true_or, or_true, and_self]) (iho (k + 1) (by omega) (by omega) (hj.trans (fnd_next (by omega) (by unfold m_orF bi; rw [if_neg (by omega)]; decide))) hR)
                ·
                  refine X_iload_n 97 hO dX13_ordered_96 rfl rfl ?_
                  exact XM_iret hO hF hR rfl (by first | exact Or.inl rfl | exact Or.inr ⟨rfl, bi_01 _⟩ | exact Or.inr ⟨rfl, by omega⟩) dX13_ordered_97 (by omega) ⟨by rw [hj, fnd_hit (by omega) (by unfold m_orF bi; rw [if_pos (by omega)])], rfl⟩
            ·
              refine X_iload_n 19 hO dX13_ordered_18 rfl rfl ?_
              refine X_aload_n 20 hO dX13_ordered_19 rfl rfl ?_
              refine ga_108 23 hO hR dX13_ordered_20 rfl ?_
              refine X_iload 25 hO dX13_ordered_23 rfl rfl ?_
              refine ma_ld (L := 3) (c := 228) 26 hO hR rfl rfl rfl dX13_ordered_25 rfl (by omega) (by omega) (fun hi_25 => ?_)
              refine X_iconst 27 hO dX13_ordered_26 rfl ?_
              refine X_icmp_ne 30 72 hO dX13_ordered_27 rfl rfl (by omega) (by omega) (fun hc_27 => ?_) (fun hc_27 => ?_)
              ·
                refine X_iconst 73 hO dX13_ordered_72 rfl ?_
                refine X_iadd 74 hO dX13_ordered_73 rfl ?_
                refine X_istore_n 75 hO dX13_ordered_74 rfl rfl ?_
                refine X_iinc 78 hO dX13_ordered_75 rfl rfl ?_
                refine X_goto hO dX13_ordered_78 (tgt := 12) rfl ?_
                exact ih (j + 1) _ (by omega) (by omega) (by omega) (sumN_s (by omega) hs (by unfold m_ahd bi; first | rw [if_pos (by omega)] | rw [if_neg (by omega)])) hR
              ·
                refine X_aload_n 31 hO dX13_ordered_30 rfl rfl ?_
                refine ga_117 34 hO hR dX13_ordered_31 rfl ?_
                refine X_iload 36 hO dX13_ordered_34 rfl rfl ?_
                refine ma_ld (L := 3) (c := 231) 37 hO hR rfl rfl rfl dX13_ordered_36 rfl (by omega) (by omega) (fun hi_36 => ?_)
                refine X_aload_n 38 hO dX13_ordered_37 rfl rfl ?_
                refine ga_117 41 hO hR dX13_ordered_38 rfl ?_
                refine X_iload_n 42 hO dX13_ordered_41 rfl rfl ?_
                refine ma_ld (L := 3) (c := 231) 43 hO hR rfl rfl rfl dX13_ordered_42 rfl (by omega) (by omega) (fun hi_42 => ?_)
                refine X_icmp_lt 46 68 hO dX13_ordered_43 rfl rfl (by omega) (by omega) (fun hc_43 => ?_) (fun hc_43 => ?_)
                ·
                  refine X_iconst 69 hO dX13_ordered_68 rfl ?_
                  refine X_goto hO dX13_ordered_69 (tgt := 73) rfl ?_
                  refine X_iadd 74 hO dX13_ordered_73 rfl ?_
                  refine X_istore_n 75 hO dX13_ordered_74 rfl rfl ?_
                  refine X_iinc 78 hO dX13_ordered_75 rfl rfl ?_
                  refine X_goto hO dX13_ordered_78 (tgt := 12) rfl ?_
                  exact ih (j + 1) _ (by omega) (by omega) (by omega) (sumN_s (by omega) hs (by unfold m_ahd bi; first | rw [if_pos (by omega)] | rw [if_neg (by omega)])) hR
                ·
                  refine X_aload_n 47 hO dX13_ordered_46 rfl rfl ?_
                  refine ga_117 50 hO hR dX13_ordered_47 rfl ?_
                  refine X_iload 52 hO dX13_ordered_50 rfl rfl ?_
                  refine ma_ld (L := 3) (c := 231) 53 hO hR rfl rfl rfl dX13_ordered_52 rfl (by omega) (by omega) (fun hi_52 => ?_)
                  refine X_aload_n 54 hO dX13_ordered_53 rfl rfl ?_
                  refine ga_117 57 hO hR dX13_ordered_54 rfl ?_
                  refine X_iload_n 58 hO dX13_ordered_57 rfl rfl ?_
                  refine ma_ld (L := 3) (c := 231) 59 hO hR rfl rfl rfl dX13_ordered_58 rfl (by omega) (by omega) (fun hi_58 => ?_)
                  refine X_icmp_ne 62 72 hO dX13_ordered_59 rfl rfl (by omega) (by omega) (fun hc_59 => ?_) (fun hc_59 => ?_)
                  ·
                    refine X_iconst 73 hO dX13_ordered_72 rfl ?_
                    refine X_iadd 74 hO dX13_ordered_73 rfl ?_
                    refine X_istore_n 75 hO dX13_ordered_74 rfl rfl ?_
                    refine X_iinc 78 hO dX13_ordered_75 rfl rfl ?_
                    refine X_goto hO dX13_ordered_78 (tgt := 12) rfl ?_
                    exact ih (j + 1) _ (by omega) (by omega) (by omega) (sumN_s (by omega) hs (by unfold m_ahd bi; first | rw [if_pos (by omega)] | rw [if_neg (by omega)])) hR
                  ·
                    refine X_iload 64 hO dX13_ordered_62 rfl rfl ?_
                    refine X_iload_n 65 hO dX13_ordered_64 rfl rfl ?_
                    refine X_icmp_ge 68 72 hO dX13_ordered_65 rfl rfl (by omega) (by omega) (fun hc_65 => ?_) (fun hc_65 => ?_)
                    ·
                      refine X_iconst 73 hO dX13_ordered_72 rfl ?_
                      refine X_iadd 74 hO dX13_ordered_73 rfl ?_
                      refine X_istore_n 75 hO dX13_ordered_74 rfl rfl ?_
                      refine X_iinc 78 hO dX13_ordered_75 rfl rfl ?_
                      refine X_goto hO dX13_ordered_78 (tgt := 12) rfl ?_
                      exact ih (j + 1) _ (by omega) (by omega) (by omega) (sumN_s (by omega) hs (by unfold m_ahd bi; first | rw [if_pos (by omega)] | rw [if_neg (by omega)])) hR
                    ·
                      refine X_iconst 69 hO dX13_ordered_68 rfl ?_
                      refine X_goto hO dX13_ordered_69 (tgt := 73) rfl ?_
                      refine X_iadd 74 hO dX13_ordered_73 rfl ?_
                      refine X_istore_n 75 hO dX13_ordered_74 rfl rfl ?_
                      refine X_iinc 78 hO dX13_ordered_75 rfl rfl ?_
                      refine X_goto hO dX13_ordered_78 (tgt := 12) rfl ?_
                      exact ih (j + 1) _ (by omega) (by omega) (by omega) (sumN_s (by omega) hs (by unfold m_ahd bi; first | rw [if_pos (by omega)] | rw [if_neg (by omega)])) hR
        exact LP12 _ 0 0 (Nat.lt_succ_self _) (by omega) (by omega) rfl hR
  exact LP2 _ 0 (Nat.lt_succ_self _) (by omega) rfl hR
theorem dX13_placeOf_0 : decode cX13_placeOf 0 = .ok (.iconst 0, 1) := by decide +kernel
theorem dX13_placeOf_1 : decode cX13_placeOf 1 = .ok (.istore_n 2, 1) := by decide +kernel
theorem dX13_placeOf_2 : decode cX13_placeOf 2 = .ok (.iload_n 2, 1) := by decide +kernel
theorem dX13_placeOf_3 : decode cX13_placeOf 3 = .ok (.aload_n 0, 1) := by decide +kernel
theorem dX13_placeOf_4 : decode cX13_placeOf 4 = .ok (.getfield 13, 3) := by decide +kernel
theorem dX13_placeOf_7 : decode cX13_placeOf 7 = .ok (.iconst 0, 1) := by decide +kernel
theorem dX13_placeOf_8 : decode cX13_placeOf 8 = .ok (.iaload, 1) := by decide +kernel
theorem dX13_placeOf_9 : decode cX13_placeOf 9 = .ok (.if_icmp .ge 21, 3) := by decide +kernel
theorem dX13_placeOf_12 : decode cX13_placeOf 12 = .ok (.aload_n 0, 1) := by decide +kernel
theorem dX13_placeOf_13 : decode cX13_placeOf 13 = .ok (.getfield 7, 3) := by decide +kernel
theorem dX13_placeOf_16 : decode cX13_placeOf 16 = .ok (.iload_n 2, 1) := by decide +kernel
theorem dX13_placeOf_17 : decode cX13_placeOf 17 = .ok (.iaload, 1) := by decide +kernel
theorem dX13_placeOf_18 : decode cX13_placeOf 18 = .ok (.iload_n 1, 1) := by decide +kernel
theorem dX13_placeOf_19 : decode cX13_placeOf 19 = .ok (.if_icmp .ne 5, 3) := by decide +kernel
theorem dX13_placeOf_22 : decode cX13_placeOf 22 = .ok (.iload_n 2, 1) := by decide +kernel
theorem dX13_placeOf_23 : decode cX13_placeOf 23 = .ok (.ireturn, 1) := by decide +kernel
theorem dX13_placeOf_24 : decode cX13_placeOf 24 = .ok (.iinc 2 1, 3) := by decide +kernel
theorem dX13_placeOf_27 : decode cX13_placeOf 27 = .ok (.goto (-25), 3) := by decide +kernel
theorem dX13_placeOf_30 : decode cX13_placeOf 30 = .ok (.iconst (-1), 1) := by decide +kernel
theorem dX13_placeOf_31 : decode cX13_placeOf 31 = .ok (.ireturn, 1) := by decide +kernel
set_option maxRecDepth 4000 in
theorem c_placeOf (γ : LC) (μ : MU) (w : Mm) (c : Int) (hc : IR c) (hl : 0 ≤ w 201 0 0 ∧ w 201 0 0 ≤ 400) : CMi γ μ 0 mX13_placeOf [.int (I c)] w (fun r w' => r = m_pof c w ∧ w = w') := by
  refine CMi_of rfl (by simp [rv_cat, Value.category]) rfl ?_
  rintro κ hO hF rfl hR
  have hD := hF.dp
  show X κ 0 0 w 0 [some (rv μ.1), some (.int (I c)), none] []
  refine X_iconst 1 hO dX13_placeOf_0 rfl ?_
  refine X_istore_n 2 hO dX13_placeOf_1 rfl rfl ?_
  have LP2 : ∀ (n : Nat) (k : Int), (w 201 0 0 - k).toNat < n → (0 ≤ k ∧ k ≤ 400) → (m_pof c w = fnd (fun i => w 200 0 i) c (w 201 0 0 - k).toNat k) → RM (w) μ → X κ 0 0 (w) 2 [some (rv μ.1), some (.int (I c)), some (.int (I k))] [] := by
    intro n
    induction n with
    | zero => intro k hm; exact absurd hm (Nat.not_lt_zero _)
    | succ n ih =>
      intro k hm hk hj hR
      refine X_iload_n 3 hO dX13_placeOf_2 rfl rfl ?_
      refine X_aload_n 4 hO dX13_placeOf_3 rfl rfl ?_
      refine ga_13 7 hO hR dX13_placeOf_4 rfl ?_
      refine X_iconst 8 hO dX13_placeOf_7 rfl ?_
      refine ma_ld (L := 4) (c := 201) 9 hO hR rfl rfl rfl dX13_placeOf_8 rfl (by omega) (by omega) (fun hi_8 => ?_)
      refine X_icmp_ge 12 30 hO dX13_placeOf_9 rfl rfl (by omega) (by omega) (fun hc_9 => ?_) (fun hc_9 => ?_)
      ·
        refine X_iconst 31 hO dX13_placeOf_30 rfl ?_
        exact XM_iret hO hF hR rfl (by first | exact Or.inl rfl | exact Or.inr ⟨rfl, bi_01 _⟩ | exact Or.inr ⟨rfl, by omega⟩) dX13_placeOf_31 (by omega) ⟨by rw [hj, fnd_no (by omega)], rfl⟩
      ·
        refine X_aload_n 13 hO dX13_placeOf_12 rfl rfl ?_
        refine ga_7 16 hO hR dX13_placeOf_13 rfl ?_
        refine X_iload_n 17 hO dX13_placeOf_16 rfl rfl ?_
        refine ma_ld (L := 1600) (c := 200) 18 hO hR rfl rfl rfl dX13_placeOf_17 rfl (by omega) (by omega) (fun hi_17 => ?_)
        refine X_iload_n 19 hO dX13_placeOf_18 rfl rfl ?_
        refine X_icmp_ne 22 24 hO dX13_placeOf_19 rfl rfl (by omega) (by omega) (fun hc_19 => ?_) (fun hc_19 => ?_)
        ·
          refine X_iinc 27 hO dX13_placeOf_24 rfl rfl ?_
          refine X_goto hO dX13_placeOf_27 (tgt := 2) rfl ?_
          exact ih (k + 1) (by omega) (by omega) (hj.trans (fnd_next (by omega) (by show w 200 0 k ≠ c; omega))) hR
        ·
          refine X_iload_n 23 hO dX13_placeOf_22 rfl rfl ?_
          exact XM_iret hO hF hR rfl (by first | exact Or.inl rfl | exact Or.inr ⟨rfl, bi_01 _⟩ | exact Or.inr ⟨rfl, by omega⟩) dX13_placeOf_23 (by omega) ⟨by rw [hj, fnd_hit (by omega) (by show w 200 0 k = c; omega)], rfl⟩
  exact LP2 _ 0 (Nat.lt_succ_self _) (by omega) (by unfold m_pof; rw [show w 201 0 0 - 0 = w 201 0 0 by omega]) hR
theorem dX13_notifies_0 : decode cX13_notifies 0 = .ok (.iconst 1, 1) := by decide +kernel
theorem dX13_notifies_1 : decode cX13_notifies 1 = .ok (.istore_n 1, 1) := by decide +kernel
theorem dX13_notifies_2 : decode cX13_notifies 2 = .ok (.aload_n 0, 1) := by decide +kernel
theorem dX13_notifies_3 : decode cX13_notifies 3 = .ok (.getfield 126, 3) := by decide +kernel
theorem dX13_notifies_6 : decode cX13_notifies 6 = .ok (.iconst 1, 1) := by decide +kernel
theorem dX13_notifies_7 : decode cX13_notifies 7 = .ok (.iconst 0, 1) := by decide +kernel
theorem dX13_notifies_8 : decode cX13_notifies 8 = .ok (.iastore, 1) := by decide +kernel
theorem dX13_notifies_9 : decode cX13_notifies 9 = .ok (.iload_n 1, 1) := by decide +kernel
theorem dX13_notifies_10 : decode cX13_notifies 10 = .ok (.ifCond .le 139, 3) := by decide +kernel
theorem dX13_notifies_13 : decode cX13_notifies 13 = .ok (.aload_n 0, 1) := by decide +kernel
theorem dX13_notifies_14 : decode cX13_notifies 14 = .ok (.getfield 126, 3) := by decide +kernel
theorem dX13_notifies_17 : decode cX13_notifies 17 = .ok (.iload_n 1, 1) := by decide +kernel
theorem dX13_notifies_18 : decode cX13_notifies 18 = .ok (.iaload, 1) := by decide +kernel
theorem dX13_notifies_19 : decode cX13_notifies 19 = .ok (.iconst 3, 1) := by decide +kernel
theorem dX13_notifies_20 : decode cX13_notifies 20 = .ok (.if_icmp .ge 16, 3) := by decide +kernel
theorem dX13_notifies_23 : decode cX13_notifies 23 = .ok (.aload_n 0, 1) := by decide +kernel
theorem dX13_notifies_24 : decode cX13_notifies 24 = .ok (.aload_n 0, 1) := by decide +kernel
theorem dX13_notifies_25 : decode cX13_notifies 25 = .ok (.getfield 126, 3) := by decide +kernel
theorem dX13_notifies_28 : decode cX13_notifies 28 = .ok (.iload_n 1, 1) := by decide +kernel
theorem dX13_notifies_29 : decode cX13_notifies 29 = .ok (.iaload, 1) := by decide +kernel
theorem dX13_notifies_30 : decode cX13_notifies 30 = .ok (.invokevirtual 249, 3) := by decide +kernel
theorem dX13_notifies_33 : decode cX13_notifies 33 = .ok (.goto 4, 3) := by decide +kernel
theorem dX13_notifies_36 : decode cX13_notifies 36 = .ok (.iconst (-1), 1) := by decide +kernel
theorem dX13_notifies_37 : decode cX13_notifies 37 = .ok (.istore_n 2, 1) := by decide +kernel
theorem dX13_notifies_38 : decode cX13_notifies 38 = .ok (.aload_n 0, 1) := by decide +kernel
theorem dX13_notifies_39 : decode cX13_notifies 39 = .ok (.getfield 126, 3) := by decide +kernel
theorem dX13_notifies_42 : decode cX13_notifies 42 = .ok (.iload_n 1, 1) := by decide +kernel
theorem dX13_notifies_43 : decode cX13_notifies 43 = .ok (.dup2, 1) := by decide +kernel
theorem dX13_notifies_44 : decode cX13_notifies 44 = .ok (.iaload, 1) := by decide +kernel
theorem dX13_notifies_45 : decode cX13_notifies 45 = .ok (.iconst 1, 1) := by decide +kernel
theorem dX13_notifies_46 : decode cX13_notifies 46 = .ok (.iadd, 1) := by decide +kernel
theorem dX13_notifies_47 : decode cX13_notifies 47 = .ok (.iastore, 1) := by decide +kernel
theorem dX13_notifies_48 : decode cX13_notifies 48 = .ok (.iload_n 2, 1) := by decide +kernel
theorem dX13_notifies_49 : decode cX13_notifies 49 = .ok (.iconst (-1), 1) := by decide +kernel
theorem dX13_notifies_50 : decode cX13_notifies 50 = .ok (.if_icmp .ne 9, 3) := by decide +kernel
theorem dX13_notifies_53 : decode cX13_notifies 53 = .ok (.iinc 1 (-1), 3) := by decide +kernel
theorem dX13_notifies_56 : decode cX13_notifies 56 = .ok (.goto 90, 3) := by decide +kernel
theorem dX13_notifies_59 : decode cX13_notifies 59 = .ok (.aload_n 0, 1) := by decide +kernel
theorem dX13_notifies_60 : decode cX13_notifies 60 = .ok (.aload_n 0, 1) := by decide +kernel
theorem dX13_notifies_61 : decode cX13_notifies 61 = .ok (.getfield 111, 3) := by decide +kernel
theorem dX13_notifies_64 : decode cX13_notifies 64 = .ok (.iload_n 2, 1) := by decide +kernel
theorem dX13_notifies_65 : decode cX13_notifies 65 = .ok (.iaload, 1) := by decide +kernel
theorem dX13_notifies_66 : decode cX13_notifies 66 = .ok (.invokevirtual 252, 3) := by decide +kernel
theorem dX13_notifies_69 : decode cX13_notifies 69 = .ok (.iconst (-1), 1) := by decide +kernel
theorem dX13_notifies_70 : decode cX13_notifies 70 = .ok (.if_icmp .eq 76, 3) := by decide +kernel
theorem dX13_notifies_73 : decode cX13_notifies 73 = .ok (.aload_n 0, 1) := by decide +kernel
theorem dX13_notifies_74 : decode cX13_notifies 74 = .ok (.getfield 123, 3) := by decide +kernel
theorem dX13_notifies_77 : decode cX13_notifies 77 = .ok (.iload_n 1, 1) := by decide +kernel
theorem dX13_notifies_78 : decode cX13_notifies 78 = .ok (.iload_n 2, 1) := by decide +kernel
theorem dX13_notifies_79 : decode cX13_notifies 79 = .ok (.iastore, 1) := by decide +kernel
theorem dX13_notifies_80 : decode cX13_notifies 80 = .ok (.iload_n 1, 1) := by decide +kernel
theorem dX13_notifies_81 : decode cX13_notifies 81 = .ok (.bipush 8, 2) := by decide +kernel
theorem dX13_notifies_83 : decode cX13_notifies 83 = .ok (.if_icmp .ne 33, 3) := by decide +kernel
theorem dX13_notifies_86 : decode cX13_notifies 86 = .ok (.iconst 0, 1) := by decide +kernel
theorem dX13_notifies_87 : decode cX13_notifies 87 = .ok (.istore_n 3, 1) := by decide +kernel
theorem dX13_notifies_88 : decode cX13_notifies 88 = .ok (.iload_n 3, 1) := by decide +kernel
theorem dX13_notifies_89 : decode cX13_notifies 89 = .ok (.bipush 8, 2) := by decide +kernel
theorem dX13_notifies_91 : decode cX13_notifies 91 = .ok (.if_icmp .ge 23, 3) := by decide +kernel
theorem dX13_notifies_94 : decode cX13_notifies 94 = .ok (.aload_n 0, 1) := by decide +kernel
theorem dX13_notifies_95 : decode cX13_notifies 95 = .ok (.getfield 120, 3) := by decide +kernel
theorem dX13_notifies_98 : decode cX13_notifies 98 = .ok (.iload_n 3, 1) := by decide +kernel
theorem dX13_notifies_99 : decode cX13_notifies 99 = .ok (.aload_n 0, 1) := by decide +kernel
theorem dX13_notifies_100 : decode cX13_notifies 100 = .ok (.getfield 123, 3) := by decide +kernel
theorem dX13_notifies_103 : decode cX13_notifies 103 = .ok (.iload_n 3, 1) := by decide +kernel
theorem dX13_notifies_104 : decode cX13_notifies 104 = .ok (.iconst 1, 1) := by decide +kernel
theorem dX13_notifies_105 : decode cX13_notifies 105 = .ok (.iadd, 1) := by decide +kernel
theorem dX13_notifies_106 : decode cX13_notifies 106 = .ok (.iaload, 1) := by decide +kernel
theorem dX13_notifies_107 : decode cX13_notifies 107 = .ok (.iastore, 1) := by decide +kernel
theorem dX13_notifies_108 : decode cX13_notifies 108 = .ok (.iinc 3 1, 3) := by decide +kernel
theorem dX13_notifies_111 : decode cX13_notifies 111 = .ok (.goto (-23), 3) := by decide +kernel
theorem dX13_notifies_114 : decode cX13_notifies 114 = .ok (.iconst 0, 1) := by decide +kernel
theorem dX13_notifies_115 : decode cX13_notifies 115 = .ok (.ireturn, 1) := by decide +kernel
theorem dX13_notifies_116 : decode cX13_notifies 116 = .ok (.aload_n 0, 1) := by decide +kernel
theorem dX13_notifies_117 : decode cX13_notifies 117 = .ok (.aload_n 0, 1) := by decide +kernel
theorem dX13_notifies_118 : decode cX13_notifies 118 = .ok (.aload_n 0, 1) := by decide +kernel
theorem dX13_notifies_119 : decode cX13_notifies 119 = .ok (.getfield 111, 3) := by decide +kernel
theorem dX13_notifies_122 : decode cX13_notifies 122 = .ok (.iload_n 2, 1) := by decide +kernel
theorem dX13_notifies_123 : decode cX13_notifies 123 = .ok (.iaload, 1) := by decide +kernel
theorem dX13_notifies_124 : decode cX13_notifies 124 = .ok (.invokevirtual 252, 3) := by decide +kernel
theorem dX13_notifies_127 : decode cX13_notifies 127 = .ok (.aload_n 0, 1) := by decide +kernel
theorem dX13_notifies_128 : decode cX13_notifies 128 = .ok (.getfield 114, 3) := by decide +kernel
theorem dX13_notifies_131 : decode cX13_notifies 131 = .ok (.iload_n 2, 1) := by decide +kernel
theorem dX13_notifies_132 : decode cX13_notifies 132 = .ok (.iaload, 1) := by decide +kernel
theorem dX13_notifies_133 : decode cX13_notifies 133 = .ok (.invokevirtual 255, 3) := by decide +kernel
theorem dX13_notifies_136 : decode cX13_notifies 136 = .ok (.iinc 1 1, 3) := by decide +kernel
theorem dX13_notifies_139 : decode cX13_notifies 139 = .ok (.aload_n 0, 1) := by decide +kernel
theorem dX13_notifies_140 : decode cX13_notifies 140 = .ok (.getfield 126, 3) := by decide +kernel
theorem dX13_notifies_143 : decode cX13_notifies 143 = .ok (.iload_n 1, 1) := by decide +kernel
theorem dX13_notifies_144 : decode cX13_notifies 144 = .ok (.iconst 0, 1) := by decide +kernel
theorem dX13_notifies_145 : decode cX13_notifies 145 = .ok (.iastore, 1) := by decide +kernel
theorem dX13_notifies_146 : decode cX13_notifies 146 = .ok (.goto (-137), 3) := by decide +kernel
theorem dX13_notifies_149 : decode cX13_notifies 149 = .ok (.iconst 1, 1) := by decide +kernel
theorem dX13_notifies_150 : decode cX13_notifies 150 = .ok (.ireturn, 1) := by decide +kernel
set_option maxRecDepth 4000 in
theorem c_notifies (γ : LC) (μ : MU) (w : Mm) (S P : Int) (R : Int × Mm) (hN : NI μ S P 1 (up w 234 0 1 0)) (hrun0 : m_nrun μ 100 1 (up w 234 0 1 0) = some R) (hS : S ≤ 29800) (hP : P ≤ 524000) : CMi γ μ 2 mX13_notifies [] w (fun r w' => r = R.1 ∧ w' = R.2) := by
  refine CMi_of rfl (by simp [rv_cat, Value.category]) rfl ?_
  rintro κ hO hF rfl hR
  have hD := hF.dp
  show X κ 0 0 w 0 [some (rv μ.1), none, none, none] []
  refine X_iconst 1 hO dX13_notifies_0 rfl ?_
  refine X_istore_n 2 hO dX13_notifies_1 rfl rfl ?_
  refine X_aload_n 3 hO dX13_notifies_2 rfl rfl ?_
  refine ga_126 6 hO hR dX13_notifies_3 rfl ?_
  refine X_iconst 7 hO dX13_notifies_6 rfl ?_
  refine X_iconst 8 hO dX13_notifies_7 rfl ?_
  refine ma_st (L := 9) (c := 234) 9 hO hR rfl rfl rfl dX13_notifies_8 rfl (by omega) (by omega) (by omega) (fun hR => ?_)
  have LP9 : ∀ (n : Nat) (m : Nat) (d : Int) (W : Mm), m < n → (m ≤ 100) → (NI μ (S + 100 - m) P d W) → (0 ≤ d) → (m_nrun μ m d W = some R) → RM (W) μ → X κ 0 0 (W) 9 [some (rv μ.1), some (.int (I d)), none, none] [] := by
    intro n
    induction n with
    | zero => intro m d W hm; exact absurd hm (Nat.not_lt_zero _)
    | succ n iho =>
      intro m d W hm hm1 hI hd0 hrun hR
      cases m with
      | zero => exact absurd hrun (by unfold m_nrun; exact fun h => nomatch h)
      | succ m =>
      obtain ⟨hI1, hI2, hI3, hI4, hI5⟩ := hI
      obtain ⟨f1, f2, f3, f4, f5⟩ := hI1.f
      have hI : NI μ (S + 100 - (m + 1 : Nat)) P d W := ⟨hI1, hI2, hI3, hI4, hI5⟩
      refine X_iload_n 10 hO dX13_notifies_9 rfl rfl ?_
      refine X_if_le 13 149 hO dX13_notifies_10 rfl rfl (by omega) (fun hc_10 => ?_) (fun hc_10 => ?_)
      ·
        have e10 : d = 0 := by omega
        subst e10
        unfold m_nrun at hrun
        rw [if_pos (by omega)] at hrun
        cases hrun
        refine X_iconst 150 hO dX13_notifies_149 rfl ?_
        exact XM_iret hO hF hR rfl (by first | exact Or.inl rfl | exact Or.inr ⟨rfl, bi_01 _⟩ | exact Or.inr ⟨rfl, by omega⟩) dX13_notifies_150 (by omega) ⟨rfl, rfl⟩
      ·
        have hp9 := hI2 d (by omega) (by omega)
        have hp3 := hI3 d (by omega) (Int.le_refl _)
        have hlr0 := ord_rng (W 234 0 d) W
        have JP37 : ∀ (l : Int), (l = (if W 234 0 d < 3 then m_ord (W 234 0 d) W else -1)) → (-1 ≤ l ∧ l ≤ 2) → X κ 0 0 (W) 37 [some (rv μ.1), some (.int (I d)), none, none] [.int (I l)] := by
          intro l hl hl2
          refine X_istore_n 38 hO dX13_notifies_37 rfl rfl ?_
          refine X_aload_n 39 hO dX13_notifies_38 rfl rfl ?_
          refine ga_126 42 hO hR dX13_notifies_39 rfl ?_
          refine X_iload_n 43 hO dX13_notifies_42 rfl rfl ?_
          refine X_dup2 44 hO dX13_notifies_43 rfl (by first | rfl | exact rv_cat _) (by first | rfl | exact rv_cat _) ?_
          refine ma_ld (L := 9) (c := 234) 45 hO hR rfl rfl rfl dX13_notifies_44 rfl (by omega) (by omega) (fun hi_44 => ?_)
          try simp (disch := decide) only [up_k, up_s, step_at, pool_at, poolN_at, opens_at, closes_at, fl_at, del_at, ins_at, rep_at, psh_at, trn_at, tak_at, pEn_at, cpQ_at, cpP_at, cpT_at] at hi_44 ⊢
          refine X_iconst 46 hO dX13_notifies_45 rfl ?_
          refine X_iadd 47 hO dX13_notifies_46 rfl ?_
          refine ma_st (L := 9) (c := 234) 48 hO hR rfl rfl rfl dX13_notifies_47 rfl (by omega) (by omega) (by omega) (fun hR => ?_)
          refine X_iload_n 49 hO dX13_notifies_48 rfl rfl ?_
          refine X_iconst 50 hO dX13_notifies_49 rfl ?_
          refine X_icmp_ne 53 59 hO dX13_notifies_50 rfl rfl (by omega) (by omega) (fun hc_50 => ?_) (fun hc_50 => ?_)
          ·
            have hw3 : W 234 0 d < 3 := by apply Classical.byContradiction; intro h3; rw [if_neg h3] at hl; omega
            unfold m_nrun at hrun
            rw [if_neg (by omega), if_neg (by rw [← hl]; omega)] at hrun
            rw [if_pos hw3] at hl
            subst hl
            have hlr := ord_rng (W 234 0 d) W
            have hoc := hI4 (m_ord (W 234 0 d) W) (by omega) (by omega)
            refine X_aload_n 60 hO dX13_notifies_59 rfl rfl ?_
            refine X_aload_n 61 hO dX13_notifies_60 rfl rfl ?_
            refine ga_111 64 hO hR dX13_notifies_61 rfl ?_
            refine X_iload_n 65 hO dX13_notifies_64 rfl rfl ?_
            refine ma_ld (L := 3) (c := 229) 66 hO hR rfl rfl rfl dX13_notifies_65 rfl (by omega) (by omega) (fun hi_65 => ?_)
            try simp (disch := decide) only [up_k, up_s, step_at, pool_at, poolN_at, opens_at, closes_at, fl_at, del_at, ins_at, rep_at, psh_at, trn_at, tak_at, pEn_at, cpQ_at, cpP_at, cpT_at] at hi_65 ⊢
            refine XM_callVi 69 hO hD hR lX13_252 [_] rfl dX13_notifies_66 rfl (c_placeOf _ _ _ _ (by omega) (by rw [up_k _ (by decide)]; omega)) (by decide) (by simp only [List.map_cons, List.map_nil, rv_cat]; exact Nat.le_of_ble_eq_true rfl) (fun r_66 w_66 hr_66 hp_66 hR => ?_)
            obtain ⟨e1_66, e2_66⟩ := hp_66
            subst e1_66
            subst e2_66
            refine X_iconst 70 hO dX13_notifies_69 rfl ?_
            refine X_icmp_eq 73 146 hO dX13_notifies_70 rfl rfl (by omega) (by omega) (fun hc_70 => ?_) (fun hc_70 => ?_)
            ·
              rw [if_pos (by omega)] at hrun
              refine X_goto hO dX13_notifies_146 (tgt := 9) rfl ?_
              (first | exact X_wk (by simp only [lwk, lset, true_or, or_true, and_self]) (iho m (d + -1) _ (by omega) (by omega) ((hI.pop (by omega)).mono (by omega)) (by omega) hrun hR) | exact X_wk (by simp only [lwk, lset, true_or, or_true, and_self]) (iho m d _ (by omega) (by omega) ((hI.on (by omega) (by omega)).mono (by omega)) (by omega) hrun hR) | exact X_wk (by simp only [lwk, lset, true_or, or_true, and_self]) (iho m (d + 1) _ (by omega) (by omega) ((NI.dn (hI.on (by omega) (by omega)).tr (by omega) (by omega) hoc).mono (by omega)) (by omega) hrun hR))
            ·
              rw [if_neg (by omega)] at hrun
              have hpr := pof_rng (W 229 0 (m_ord (W 234 0 d) W)) (up W 234 0 d (W 234 0 d + 1)) (by rw [up_k _ (by decide)]; omega)
              refine X_aload_n 74 hO dX13_notifies_73 rfl rfl ?_
              refine ga_123 77 hO hR dX13_notifies_74 rfl ?_
              refine X_iload_n 78 hO dX13_notifies_77 rfl rfl ?_
              refine X_iload_n 79 hO dX13_notifies_78 rfl rfl ?_
              refine ma_st (L := 9) (c := 233) 80 hO hR rfl rfl rfl dX13_notifies_79 rfl (by omega) (by omega) (by omega) (fun hR => ?_)
              refine X_iload_n 81 hO dX13_notifies_80 rfl rfl ?_
              refine X_bipush 83 hO dX13_notifies_81 rfl (by decide) ?_
              refine X_icmp_ne 86 116 hO dX13_notifies_83 rfl rfl (by omega) (by omega) (fun hc_83 => ?_) (fun hc_83 => ?_)
              ·
                rw [if_neg (by omega)] at hrun
                have hpr2 := pof_rng (W 229 0 (m_ord (W 234 0 d) W)) (up (up W 234 0 d (W 234 0 d + 1)) 233 0 d (m_ord (W 234 0 d) W)) (by rw [up_k _ (by decide), up_k _ (by decide)]; omega)
                have e124 : m_pof (W 229 0 (m_ord (W 234 0 d) W)) (up (up W 234 0 d (W 234 0 d + 1)) 233 0 d (m_ord (W 234 0 d) W)) = m_pof (W 229 0 (m_ord (W 234 0 d) W)) (up W 234 0 d (W 234 0 d + 1)) := rfl
                rw [e124] at hpr2
                rw [up_k _ (by decide)] at hpr
                refine X_aload_n 117 hO dX13_notifies_116 rfl rfl ?_
                refine X_aload_n 118 hO dX13_notifies_117 rfl rfl ?_
                refine X_aload_n 119 hO dX13_notifies_118 rfl rfl ?_
                refine ga_111 122 hO hR dX13_notifies_119 rfl ?_
                refine X_iload_n 123 hO dX13_notifies_122 rfl rfl ?_
                refine ma_ld (L := 3) (c := 229) 124 hO hR rfl rfl rfl dX13_notifies_123 rfl (by omega) (by omega) (fun hi_123 => ?_)
                try simp (disch := decide) only [up_k, up_s, step_at, pool_at, poolN_at, opens_at, closes_at, fl_at, del_at, ins_at, rep_at, psh_at, trn_at, tak_at, pEn_at, cpQ_at, cpP_at, cpT_at] at hi_123 ⊢
                refine XM_callVi 127 hO hD hR lX13_252 [_] rfl dX13_notifies_124 rfl (c_placeOf _ _ _ _ (by omega) (by rw [up_k _ (by decide), up_k _ (by decide)]; omega)) (by decide) (by simp only [List.map_cons, List.map_nil, rv_cat]; exact Nat.le_of_ble_eq_true rfl) (fun r_124 w_124 hr_124 hp_124 hR => ?_)
                obtain ⟨e1_124, e2_124⟩ := hp_124
                subst e1_124
                subst e2_124
                refine X_aload_n 128 hO dX13_notifies_127 rfl rfl ?_
                refine ga_114 131 hO hR dX13_notifies_128 rfl ?_
                refine X_iload_n 132 hO dX13_notifies_131 rfl rfl ?_
                refine ma_ld (L := 3) (c := 230) 133 hO hR rfl rfl rfl dX13_notifies_132 rfl (by omega) (by omega) (fun hi_132 => ?_)
                try simp (disch := decide) only [up_k, up_s, step_at, pool_at, poolN_at, opens_at, closes_at, fl_at, del_at, ins_at, rep_at, psh_at, trn_at, tak_at, pEn_at, cpQ_at, cpP_at, cpT_at] at hi_132 ⊢
                refine XM_callVv 136 hO hD hR lX13_255 [_, _] rfl dX13_notifies_133 rfl (c_replaces _ _ _ _ _ (by omega) (by omega) (by rw [up_k _ (by decide), up_k _ (by decide)]; omega)) (by decide) (by simp only [List.map_cons, List.map_nil, rv_cat]; exact Nat.le_of_ble_eq_true rfl) (fun w_133 hp_133 hR => ?_)
                subst hp_133
                refine X_iinc 139 hO dX13_notifies_136 rfl rfl ?_
                refine X_aload_n 140 hO dX13_notifies_139 rfl rfl ?_
                refine ga_126 143 hO hR dX13_notifies_140 rfl ?_
                refine X_iload_n 144 hO dX13_notifies_143 rfl rfl ?_
                refine X_iconst 145 hO dX13_notifies_144 rfl ?_
                refine ma_st (L := 9) (c := 234) 146 hO hR rfl rfl rfl dX13_notifies_145 rfl (by omega) (by omega) (by omega) (fun hR => ?_)
                refine X_goto hO dX13_notifies_146 (tgt := 9) rfl ?_
                (first | exact X_wk (by simp only [lwk, lset, true_or, or_true, and_self]) (iho m (d + -1) _ (by omega) (by omega) ((hI.pop (by omega)).mono (by omega)) (by omega) hrun hR) | exact X_wk (by simp only [lwk, lset, true_or, or_true, and_self]) (iho m d _ (by omega) (by omega) ((hI.on (by omega) (by omega)).mono (by omega)) (by omega) hrun hR) | exact X_wk (by simp only [lwk, lset, true_or, or_true, and_self]) (iho m (d + 1) _ (by omega) (by omega) ((NI.dn (hI.on (by omega) (by omega)).tr (by omega) (by omega) hoc).mono (by omega)) (by omega) hrun hR))
              ·
                have e83 : d = 8 := by omega
                rw [if_pos e83] at hrun
                subst e83
                cases hrun
                refine X_iconst 87 hO dX13_notifies_86 rfl ?_
                refine X_istore_n 88 hO dX13_notifies_87 rfl rfl ?_
                have LP88 : ∀ (n : Nat) (k : Int), (8 - k).toNat < n → (0 ≤ k ∧ k ≤ 8) → RM ((fl (up (up W 234 0 8 (W 234 0 8 + 1)) 233 0 8 (m_ord (W 234 0 8) W)) 232 0 k (fun k => (up (up W 234 0 8 (W 234 0 8 + 1)) 233 0 8 (m_ord (W 234 0 8) W)) 233 0 (k + 1)))) μ → X κ 0 0 ((fl (up (up W 234 0 8 (W 234 0 8 + 1)) 233 0 8 (m_ord (W 234 0 8) W)) 232 0 k (fun k => (up (up W 234 0 8 (W 234 0 8 + 1)) 233 0 8 (m_ord (W 234 0 8) W)) 233 0 (k + 1)))) 88 [some (rv μ.1), some (.int (I 8)), some (.int (I (m_ord (W 234 0 8) W))), some (.int (I k))] [] := by
                  intro n
                  induction n with
                  | zero => intro k hm; exact absurd hm (Nat.not_lt_zero _)
                  | succ n ih =>
                    intro k hm hk hR
                    refine X_iload_n 89 hO dX13_notifies_88 rfl rfl ?_
                    refine X_bipush 91 hO dX13_notifies_89 rfl (by decide) ?_
                    refine X_icmp_ge 94 114 hO dX13_notifies_91 rfl rfl (by omega) (by omega) (fun hc_91 => ?_) (fun hc_91 => ?_)
                    ·
                      have e91 : k = 8 := by omega
                      subst e91
                      refine X_iconst 115 hO dX13_notifies_114 rfl ?_
                      exact XM_iret hO hF hR rfl (by first | exact Or.inl rfl | exact Or.inr ⟨rfl, bi_01 _⟩ | exact Or.inr ⟨rfl, by omega⟩) dX13_notifies_115 (by omega) ⟨rfl, rfl⟩
                    ·
                      refine X_aload_n 95 hO dX13_notifies_94 rfl rfl ?_
                      refine ga_120 98 hO hR dX13_notifies_95 rfl ?_
                      refine X_iload_n 99 hO dX13_notifies_98 rfl rfl ?_
                      refine X_aload_n 100 hO dX13_notifies_99 rfl rfl ?_
                      refine ga_123 103 hO hR dX13_notifies_100 rfl ?_
                      refine X_iload_n 104 hO dX13_notifies_103 rfl rfl ?_
                      refine X_iconst 105 hO dX13_notifies_104 rfl ?_
                      refine X_iadd 106 hO dX13_notifies_105 rfl ?_
                      refine ma_ld (L := 9) (c := 233) 107 hO hR rfl rfl rfl dX13_notifies_106 rfl (by omega) (by omega) (fun hi_106 => ?_)
                      try simp (disch := decide) only [up_k, up_s, step_at, pool_at, poolN_at, opens_at, closes_at, fl_at, del_at, ins_at, rep_at, psh_at, trn_at, tak_at, pEn_at, cpQ_at, cpP_at, cpT_at] at hi_106 ⊢
                      refine ma_st (L := 8) (c := 232) 108 hO hR rfl rfl rfl dX13_notifies_107 rfl (by omega) (by omega) (by omega) (fun hR => ?_)
                      refine X_iinc 111 hO dX13_notifies_108 rfl rfl ?_
                      refine X_goto hO dX13_notifies_111 (tgt := 88) rfl ?_
                      exact X_eqR hR (fl_stp (by omega) rfl (by omega) (by first | rfl | rw [fl_at (by decide)])) (fun hR => ih (k + 1) (by omega) (by omega) hR)
                exact X_eqR hR (fl_00 rfl) (fun hR => LP88 _ 0 (Nat.lt_succ_self _) (by omega) hR)
          ·
            unfold m_nrun at hrun
            rw [if_neg (by omega), if_pos (by rw [← hl]; omega)] at hrun
            refine X_iinc 56 hO dX13_notifies_53 rfl rfl ?_
            refine X_goto hO dX13_notifies_56 (tgt := 146) rfl ?_
            refine X_goto hO dX13_notifies_146 (tgt := 9) rfl ?_
            (first | exact X_wk (by simp only [lwk, lset, true_or, or_true, and_self]) (iho m (d + -1) _ (by omega) (by omega) ((hI.pop (by omega)).mono (by omega)) (by omega) hrun hR) | exact X_wk (by simp only [lwk, lset, true_or, or_true, and_self]) (iho m d _ (by omega) (by omega) ((hI.on (by omega) (by omega)).mono (by omega)) (by omega) hrun hR) | exact X_wk (by simp only [lwk, lset, true_or, or_true, and_self]) (iho m (d + 1) _ (by omega) (by omega) ((NI.dn (hI.on (by omega) (by omega)).tr (by omega) (by omega) hoc).mono (by omega)) (by omega) hrun hR))
        refine X_aload_n 14 hO dX13_notifies_13 rfl rfl ?_
        refine ga_126 17 hO hR dX13_notifies_14 rfl ?_
        refine X_iload_n 18 hO dX13_notifies_17 rfl rfl ?_
        refine ma_ld (L := 9) (c := 234) 19 hO hR rfl rfl rfl dX13_notifies_18 rfl (by omega) (by omega) (fun hi_18 => ?_)
        try simp (disch := decide) only [up_k, up_s, step_at, pool_at, poolN_at, opens_at, closes_at, fl_at, del_at, ins_at, rep_at, psh_at, trn_at, tak_at, pEn_at, cpQ_at, cpP_at, cpT_at] at hi_18 ⊢
        refine X_iconst 20 hO dX13_notifies_19 rfl ?_
        refine X_icmp_ge 23 36 hO dX13_notifies_20 rfl rfl (by omega) (by omega) (fun hc_20 => ?_) (fun hc_20 => ?_)
        ·
          refine X_iconst 37 hO dX13_notifies_36 rfl ?_
          exact JP37 _ (by first | rw [if_pos (by omega)] | rw [if_neg (by omega)]) (by omega)
        ·
          refine X_aload_n 24 hO dX13_notifies_23 rfl rfl ?_
          refine X_aload_n 25 hO dX13_notifies_24 rfl rfl ?_
          refine ga_126 28 hO hR dX13_notifies_25 rfl ?_
          refine X_iload_n 29 hO dX13_notifies_28 rfl rfl ?_
          refine ma_ld (L := 9) (c := 234) 30 hO hR rfl rfl rfl dX13_notifies_29 rfl (by omega) (by omega) (fun hi_29 => ?_)
          try simp (disch := decide) only [up_k, up_s, step_at, pool_at, poolN_at, opens_at, closes_at, fl_at, del_at, ins_at, rep_at, psh_at, trn_at, tak_at, pEn_at, cpQ_at, cpP_at, cpT_at] at hi_29 ⊢
          refine XM_callVi 33 hO hD hR lX13_249 [_] rfl dX13_notifies_30 rfl (c_ordered _ _ _ _ (by omega)) (by decide) (by simp only [List.map_cons, List.map_nil, rv_cat]; exact Nat.le_of_ble_eq_true rfl) (fun r_30 w_30 hr_30 hp_30 hR => ?_)
          obtain ⟨e1_30, e2_30⟩ := hp_30
          subst e1_30
          subst e2_30
          refine X_goto hO dX13_notifies_33 (tgt := 37) rfl ?_
          exact JP37 _ (by first | rw [if_pos (by omega)] | rw [if_neg (by omega)]) (by omega)
  exact LP9 _ 100 1 _ (Nat.lt_succ_self _) (by omega) (hN.mono (by omega)) (by omega) hrun0 hR
