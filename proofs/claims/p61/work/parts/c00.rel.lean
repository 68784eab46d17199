/-! locality, cell by cell: what a function of the reference does not look at may come from another world -/
def pc (K : Nat → Int → Bool) (w B : Mm) : Mm := fun c a i => if K c a = true then w c a i else B c a i
/-- the reference's cells are not among them (211 is asked for where it is looked at) -/
def KQc (μ : MU) (K : Nat → Int → Bool) : Prop := (∀ c : Nat, 200 ≤ c → c ≤ 246 → c ≠ 211 → K c 0 = false) ∧ ∀ c : Nat, 120 ≤ c → c ≤ 139 → K c μ.1 = false
def pcP (K : Nat → Int → Bool) (w : Mm) (p : Int × Mm) : Int × Mm := (p.1, pc K w p.2)
theorem KQc.a {μ : MU} {K : Nat → Int → Bool} (hK : KQc μ K) {c : Nat} (h : 200 ≤ c ∧ c ≤ 246 ∧ c ≠ 211) : K c 0 = false := hK.1 c h.1 h.2.1 h.2.2
theorem KQc.m {μ : MU} {K : Nat → Int → Bool} (hK : KQc μ K) {c : Nat} (h : 120 ≤ c ∧ c ≤ 139) : K c μ.1 = false := hK.2 c h.1 h.2
section LQA
variable {K : Nat → Int → Bool} {w B : Mm} {μ : MU}
theorem pc_g {c : Nat} {a : Int} (h : K c a = false) (i : Int) : pc K w B c a i = B c a i := by simp only [pc]; rw [if_neg (by rw [h]; decide)]
theorem pc_up {c : Nat} {a : Int} (h : K c a = false) (i v : Int) : up (pc K w B) c a i v = pc K w (up B c a i v) := by
  funext c' a' i'
  simp only [up, pc]
  by_cases e : c' = c ∧ a' = a
  · obtain ⟨e1, e2⟩ := e
    subst e1; subst e2
    rw [if_neg (show ¬ K c' a' = true by rw [h]; decide)]
    simp [h]
  · have e2 : ∀ p : Prop, ¬ (c' = c ∧ a' = a ∧ p) := fun p z => e ⟨z.1, z.2.1⟩
    rw [if_neg (e2 _), if_neg (e2 _)]
theorem pc_fl {c : Nat} (h : K c 0 = false) (lo n : Int) (f : Int → Int) : fl (pc K w B) c lo n f = pc K w (fl B c lo n f) := by
  funext c' a' i'
  simp only [fl, pc]
  by_cases e : c' = c ∧ a' = 0
  · obtain ⟨e1, e2⟩ := e
    subst e1; subst e2
    rw [if_neg (show ¬ K c' 0 = true by rw [h]; decide)]
    simp [h]
  · have e2 : ∀ p : Prop, ¬ (c' = c ∧ a' = 0 ∧ p) := fun p z => e ⟨z.1, z.2.1⟩
    rw [if_neg (e2 _), if_neg (e2 _)]
theorem pc_pby (hK : KQc μ K) (j : Int) : pby (pc K w B) j = pby B j := pby_cong (pc_g (hK.a (by decide)) _)
theorem pcP_1 {p : Int × Mm} : (pcP K w p).1 = p.1 := rfl
theorem pcP_2 {p : Int × Mm} : (pcP K w p).2 = pc K w p.2 := rfl
theorem lq_step (hK : KQc μ K) (k p v : Int) : m_step μ k p v (pc K w B) = pc K w (m_step μ k p v B) := by
  unfold m_step
  simp (disch := first | exact hK.a (by decide) | exact hK.m (by decide) | exact hK) only [pc_g, pc_up, pc_fl, pc_pby (μ := μ) hK, pcP_1, pcP_2]
theorem lq_pool (hK : KQc μ K) (v : Int) : m_pool μ v (pc K w B) = pc K w (m_pool μ v B) := by
  unfold m_pool
  simp (disch := first | exact hK.a (by decide) | exact hK.m (by decide) | exact hK) only [pc_g, pc_up, pc_fl, pc_pby (μ := μ) hK, pcP_1, pcP_2]
theorem lq_poolN (hK : KQc μ K) {f : Int → Int} : ∀ n : Nat, m_poolN μ f n (pc K w B) = pc K w (m_poolN μ f n B)
  | 0 => rfl
  | n + 1 => by
    simp only [m_poolN]
    rw [lq_poolN hK n, lq_pool hK]
theorem lq_rep (hK : KQc μ K) (q c : Int) : m_rep μ q c (pc K w B) = pc K w (m_rep μ q c B) := by
  unfold m_rep
  simp (disch := first | exact hK.a (by decide) | exact hK.m (by decide) | exact hK) only [pc_g, pc_up, pc_fl, pc_pby (μ := μ) hK, pcP_1, pcP_2, lq_step (μ := μ) hK]
theorem lq_pEn (hK : KQc μ K) (s e : Int) {b : Mm} : m_pEn μ s e (pc K w b) (pc K w B) = pc K w (m_pEn μ s e b B) := by
  unfold m_pEn
  simp (disch := first | exact hK.a (by decide) | exact hK.m (by decide) | exact hK) only [pc_g, pc_up, pc_fl, pc_pby (μ := μ) hK, pcP_1, pcP_2, lq_poolN (μ := μ) hK]
theorem lq_tel (hK : KQc μ K) (s : Int) {b : Mm} : ∀ n : Nat, m_tel μ s (pc K w b) n (pc K w B) = pc K w (m_tel μ s b n B)
  | 0 => rfl
  | n + 1 => by
    simp only [m_tel]
    rw [lq_tel hK s n, pc_g (hK.a (by decide)), lq_pool hK, lq_pEn hK]
theorem lq_tells (hK : KQc μ K) (s : Int) : m_tells μ s (pc K w B) = pc K w (m_tells μ s B) := by
  unfold m_tells
  simp (disch := first | exact hK.a (by decide) | exact hK.m (by decide) | exact hK) only [pc_g, pc_up, pc_fl, pc_pby (μ := μ) hK, pcP_1, pcP_2, lq_step (μ := μ) hK, lq_pool (μ := μ) hK, lq_tel (μ := μ) hK]
theorem lq_pof (hK : KQc μ K) (c : Int) : m_pof c (pc K w B) = m_pof c B := by
  unfold m_pof
  simp (disch := first | exact hK.a (by decide) | exact hK.m (by decide) | exact hK) only [pc_g, pc_up, pc_fl, pc_pby (μ := μ) hK, pcP_1, pcP_2]
theorem lq_ord (hK : KQc μ K) (p : Int) : m_ord p (pc K w B) = m_ord p B := by
  unfold m_ord
  have e : m_orF p (pc K w B) = m_orF p B := by
    funext k
    unfold m_orF
    have e2 : m_ahd (pc K w B) k = m_ahd B k := by funext j; unfold m_ahd; simp (disch := first | exact hK.a (by decide) | exact hK.m (by decide) | exact hK) only [pc_g]
    simp (disch := first | exact hK.a (by decide) | exact hK.m (by decide) | exact hK) only [pc_g, e2]
  rw [e]
theorem lq_nrun (hK : KQc μ K) : ∀ (n : Nat) (d : Int) (B : Mm), m_nrun μ n d (pc K w B) = (m_nrun μ n d B).map (pcP K w)
  | 0, _, _ => rfl
  | n + 1, d, B => by
    have ih := lq_nrun hK n
    unfold m_nrun
    simp (disch := first | exact hK.a (by decide) | exact hK.m (by decide) | exact hK) only [pc_g, pc_up, pc_fl, lq_ord (μ := μ) hK, lq_pof (μ := μ) hK, lq_rep hK, ih]
    repeat' split
    all_goals first | rfl | contradiction | (exfalso; omega)
theorem lq_ntf (hK : KQc μ K) : m_ntf μ (pc K w B) = pcP K w (m_ntf μ B) := by
  unfold m_ntf
  rw [pc_up (hK.a (by decide)), lq_nrun hK]
  cases m_nrun μ 100 1 (up B 234 0 1 0) <;> rfl
theorem lq_cpT (hK : KQc μ K) (a b : Int) : m_cpT a b (pc K w B) = pc K w (m_cpT a b B) := by
  unfold m_cpT
  simp (disch := first | exact hK.a (by decide) | exact hK.m (by decide) | exact hK) only [pc_g, pc_up, pc_fl, pc_pby (μ := μ) hK, pcP_1, pcP_2]
theorem lq_cpP (hK : KQc μ K) (a b : Int) : m_cpP a b (pc K w B) = pc K w (m_cpP a b B) := by
  unfold m_cpP
  simp (disch := first | exact hK.a (by decide) | exact hK.m (by decide) | exact hK) only [pc_g, pc_up, pc_fl, pc_pby (μ := μ) hK, pcP_1, pcP_2]
theorem lq_cpQ (hK : KQc μ K) (T : Int → Bool) (k a b : Int) : m_cpQ T k a b (pc K w B) = pc K w (m_cpQ T k a b B) := by
  funext c x i
  have k4 := hK.a (c := 204) (by decide)
  have k5 := hK.a (c := 205) (by decide)
  have k6 := hK.a (c := 206) (by decide)
  unfold m_cpQ pc
  by_cases z : K c x = true
  · have n4 : ∀ p : Prop, ¬ (c = 204 ∧ x = 0 ∧ p) := fun p e => by rw [e.1, e.2.1, k4] at z; exact absurd z (by decide)
    have n5 : ∀ p : Prop, ¬ (c = 205 ∧ x = 0 ∧ p) := fun p e => by rw [e.1, e.2.1, k5] at z; exact absurd z (by decide)
    have n6 : ∀ p : Prop, ¬ (c = 206 ∧ x = 0 ∧ p) := fun p e => by rw [e.1, e.2.1, k6] at z; exact absurd z (by decide)
    rw [if_neg (n4 _), if_neg (n5 _), if_neg (n6 _), if_pos z, if_pos z]
  · simp only [if_neg z, k4, k5, k6]
    simp
theorem lq_rest1 (hK : KQc μ K) (b : Int) : m_rest μ b 1 (pc K w B) = pc K w (m_rest μ b 1 B) := by
  have e : ∀ X : Mm, (fun s => decide ((1 : Int) = 1 ∨ X 211 0 s = 1)) = (fun _ => true : Int → Bool) := fun X => by funext s; simp
  unfold m_rest
  rw [e, e]
  simp (disch := first | exact hK.a (by decide) | exact hK.m (by decide) | exact hK) only [pc_g, pc_up, pc_fl, pc_pby (μ := μ) hK, pcP_1, pcP_2, lq_cpT (μ := μ) hK, lq_cpP (μ := μ) hK, lq_cpQ (μ := μ) hK]
end LQA
