/-! locality, cell by cell: what a function of the reference does not look at may come from another world -/
def pc (K : Nat → Int → Bool) (w B : Mm) : Mm := fun c a i => if K c a = true then w c a i else B c a i
/-- the reference's cells are not among them (211 is asked for where it is looked at) -/
def KQc (μ : MU) (K : Nat → Int → Bool) : Prop := (∀ c : Nat, 200 ≤ c → c ≤ 246 → c ≠ 211 → K c 0 = false) ∧ ∀ c : Nat, 120 ≤ c → c ≤ 139 → K c μ.1 = false
def pcP (K : Nat → Int → Bool) (w : Mm) (p : Int × Mm) : Int × Mm := (p.1, pc K w p.2)
def pcR (K : Nat → Int → Bool) (w : Mm) (p : Int × Int × Int × Mm) : Int × Int × Int × Mm := (p.1, p.2.1, p.2.2.1, pc K w p.2.2.2)
theorem KQc.a {μ : MU} {K : Nat → Int → Bool} (hK : KQc μ K) {c : Nat} (h : 200 ≤ c ∧ c ≤ 246 ∧ c ≠ 211) : K c 0 = false := hK.1 c h.1 h.2.1 h.2.2
theorem KQc.m {μ : MU} {K : Nat → Int → Bool} (hK : KQc μ K) {c : Nat} (h : 120 ≤ c ∧ c ≤ 139) : K c μ.1 = false := hK.2 c h.1 h.2
section LQA
variable {K : Nat → Int → Bool} {w B : Mm} {μ : MU}
theorem pc_g {c : Nat} {a : Int} (h : K c a = false) (i : Int) : pc K w B c a i = B c a i := by simp only [pc]; rw [if_neg (by rw [h]; decide)]
theorem pc_up {c : Nat} {a : Int} (h : K c a = false) (i v : Int) : up (pc K w B) c a i v = pc K w (up B c a i v) := by
  funext c' a' i'
  simp only [up, pc]
  by_cases e : c' = c ∧ a' = a
  · obtain ⟨e1, e2⟩ := e
    subst e1; subst e2
    rw [if_neg (show ¬ K c' a' = true by rw [h]; decide)]
    simp [h]
  · have e2 : ∀ p : Prop, ¬ (c' = c ∧ a' = a ∧ p) := fun p z => e ⟨z.1, z.2.1⟩
    rw [if_neg (e2 _), if_neg (e2 _)]
theorem pc_fl {c : Nat} (h : K c 0 = false) (lo n : Int) (f : Int → Int) : fl (pc K w B) c lo n f = pc K w (fl B c lo n f) := by
  funext c' a' i'
  simp only [fl, pc]
  by_cases e : c' = c ∧ a' = 0
  · obtain ⟨e1, e2⟩ := e
    subst e1; subst e2
    rw [if_neg (show ¬ K c' 0 = true by rw [h]; decide)]
    simp [h]
  · have e2 : ∀ p : Prop, ¬ (c' = c ∧ a' = 0 ∧ p) := fun p z => e ⟨z.1, z.2.1⟩
    rw [if_neg (e2 _), if_neg (e2 _)]
theorem pc_pby (hK : KQc μ K) (j : Int) : pby (pc K w B) j = pby B j := pby_cong (pc_g (hK.a (by decide)) _)
theorem pcP_mk {x : Int} : pcP K w (x, B) = (x, pc K w B) := rfl
theorem pcP_1 {p : Int × Mm} : (pcP K w p).1 = p.1 := rfl
theorem pcP_2 {p : Int × Mm} : (pcP K w p).2 = pc K w p.2 := rfl
theorem lq_step (hK : KQc μ K) (k p v : Int) : m_step μ k p v (pc K w B) = pc K w (m_step μ k p v B) := by
  unfold m_step
  simp (disch := first | exact hK.a (by decide) | exact hK.m (by decide) | exact hK) only [pc_g, pc_up, pc_fl, pc_pby (μ := μ) hK, pcP_1, pcP_2]
theorem lq_pool (hK : KQc μ K) (v : Int) : m_pool μ v (pc K w B) = pc K w (m_pool μ v B) := by
  unfold m_pool
  simp (disch := first | exact hK.a (by decide) | exact hK.m (by decide) | exact hK) only [pc_g, pc_up, pc_fl, pc_pby (μ := μ) hK, pcP_1, pcP_2]
theorem lq_poolN (hK : KQc μ K) {f : Int → Int} : ∀ n : Nat, m_poolN μ f n (pc K w B) = pc K w (m_poolN μ f n B)
  | 0 => rfl
  | n + 1 => by
    simp only [m_poolN]
    rw [lq_poolN hK n, lq_pool hK]
theorem lq_opens (hK : KQc μ K) (s q k : Int) : m_opens s q k (pc K w B) = pc K w (m_opens s q k B) := by
  unfold m_opens
  simp (disch := first | exact hK.a (by decide) | exact hK.m (by decide) | exact hK) only [pc_g, pc_up, pc_fl, pc_pby (μ := μ) hK, pcP_1, pcP_2]
theorem lq_closes (hK : KQc μ K) (s q k : Int) : m_closes s q k (pc K w B) = pc K w (m_closes s q k B) := by
  unfold m_closes
  simp (disch := first | exact hK.a (by decide) | exact hK.m (by decide) | exact hK) only [pc_g, pc_up, pc_fl, pc_pby (μ := μ) hK, pcP_1, pcP_2]
theorem lq_tak (hK : KQc μ K) (t s e k : Int) : m_tak t s e k (pc K w B) = pc K w (m_tak t s e k B) := by
  unfold m_tak
  simp (disch := first | exact hK.a (by decide) | exact hK.m (by decide) | exact hK) only [pc_g, pc_up, pc_fl, pc_pby (μ := μ) hK, pcP_1, pcP_2]
theorem lq_psh (hK : KQc μ K) (t k : Int) : m_psh t k (pc K w B) = pc K w (m_psh t k B) := by
  unfold m_psh
  simp (disch := first | exact hK.a (by decide) | exact hK.m (by decide) | exact hK) only [pc_g, pc_up, pc_fl, pc_pby (μ := μ) hK, pcP_1, pcP_2, lq_tak (μ := μ) hK]
theorem lq_trn (hK : KQc μ K) (t : Int) : m_trn t (pc K w B) = pc K w (m_trn t B) := by
  unfold m_trn
  simp (disch := first | exact hK.a (by decide) | exact hK.m (by decide) | exact hK) only [pc_g, pc_up, pc_fl, pc_pby (μ := μ) hK, pcP_1, pcP_2, lq_tak (μ := μ) hK]
theorem lq_ins (hK : KQc μ K) (q k : Int) : m_ins μ q k (pc K w B) = pc K w (m_ins μ q k B) := by
  unfold m_ins
  simp (disch := first | exact hK.a (by decide) | exact hK.m (by decide) | exact hK) only [pc_g, pc_up, pc_fl, pc_pby (μ := μ) hK, pcP_1, pcP_2, lq_step (μ := μ) hK, lq_poolN (μ := μ) hK, lq_opens (μ := μ) hK]
theorem lq_del (hK : KQc μ K) (q k : Int) : m_del μ q k (pc K w B) = pc K w (m_del μ q k B) := by
  unfold m_del
  simp (disch := first | exact hK.a (by decide) | exact hK.m (by decide) | exact hK) only [pc_g, pc_up, pc_fl, pc_pby (μ := μ) hK, pcP_1, pcP_2, lq_step (μ := μ) hK, lq_closes (μ := μ) hK]
theorem lq_rep (hK : KQc μ K) (q c : Int) : m_rep μ q c (pc K w B) = pc K w (m_rep μ q c B) := by
  unfold m_rep
  simp (disch := first | exact hK.a (by decide) | exact hK.m (by decide) | exact hK) only [pc_g, pc_up, pc_fl, pc_pby (μ := μ) hK, pcP_1, pcP_2, lq_step (μ := μ) hK]
theorem lq_rd (hK : KQc μ K) (k : Int) : m_rd k (pc K w B) = pc K w (m_rd k B) := by
  unfold m_rd
  simp (disch := first | exact hK.a (by decide) | exact hK.m (by decide) | exact hK) only [pc_g, pc_up, pc_fl, pc_pby (μ := μ) hK, pcP_1, pcP_2]
theorem lq_ld (hK : KQc μ K) (s : Int) : m_ld s (pc K w B) = pc K w (m_ld s B) := by
  unfold m_ld
  simp (disch := first | exact hK.a (by decide) | exact hK.m (by decide) | exact hK) only [pc_g, pc_up, pc_fl, pc_pby (μ := μ) hK, pcP_1, pcP_2]
theorem lq_pt (hK : KQc μ K) (k : Int) : m_pt μ k (pc K w B) = pc K w (m_pt μ k B) := by
  unfold m_pt
  simp (disch := first | exact hK.a (by decide) | exact hK.m (by decide) | exact hK) only [pc_g, pc_up, pc_fl, pc_pby (μ := μ) hK, pcP_1, pcP_2]
theorem lq_rs4 (hK : KQc μ K) : m_rs4 μ (pc K w B) = pc K w (m_rs4 μ B) := by
  unfold m_rs4
  simp (disch := first | exact hK.a (by decide) | exact hK.m (by decide) | exact hK) only [pc_g, pc_up, pc_fl, pc_pby (μ := μ) hK, pcP_1, pcP_2]
theorem lq_pEn (hK : KQc μ K) (s e : Int) {b : Mm} : m_pEn μ s e (pc K w b) (pc K w B) = pc K w (m_pEn μ s e b B) := by
  unfold m_pEn
  simp (disch := first | exact hK.a (by decide) | exact hK.m (by decide) | exact hK) only [pc_g, pc_up, pc_fl, pc_pby (μ := μ) hK, pcP_1, pcP_2, lq_poolN (μ := μ) hK]
theorem lq_tel (hK : KQc μ K) (s : Int) {b : Mm} : ∀ n : Nat, m_tel μ s (pc K w b) n (pc K w B) = pc K w (m_tel μ s b n B)
  | 0 => rfl
  | n + 1 => by
    simp only [m_tel]
    rw [lq_tel hK s n, pc_g (hK.a (by decide)), lq_pool hK, lq_pEn hK]
theorem lq_tells (hK : KQc μ K) (s : Int) : m_tells μ s (pc K w B) = pc K w (m_tells μ s B) := by
  unfold m_tells
  simp (disch := first | exact hK.a (by decide) | exact hK.m (by decide) | exact hK) only [pc_g, pc_up, pc_fl, pc_pby (μ := μ) hK, pcP_1, pcP_2, lq_step (μ := μ) hK, lq_pool (μ := μ) hK, lq_tel (μ := μ) hK]
theorem lq_vF (hK : KQc μ K) : m_vF (pc K w B) = m_vF B := by
  unfold m_vF
  simp (disch := first | exact hK.a (by decide) | exact hK.m (by decide) | exact hK) only [pc_g, pc_up, pc_fl, pc_pby (μ := μ) hK, pcP_1, pcP_2]
theorem lq_vT (hK : KQc μ K) : m_vT (pc K w B) = m_vT B := by
  unfold m_vT
  simp (disch := first | exact hK.a (by decide) | exact hK.m (by decide) | exact hK) only [pc_g, pc_up, pc_fl, pc_pby (μ := μ) hK, pcP_1, pcP_2]
theorem lq_sea2 (hK : KQc μ K) (k : Int) : m_sea2 μ k (pc K w B) = pcP K w (m_sea2 μ k B) := by
  unfold m_sea2
  simp (disch := first | exact hK.a (by decide) | exact hK.m (by decide) | exact hK) only [pc_g, pc_up, pc_fl, pc_pby (μ := μ) hK, pcP_1, pcP_2]
  try (repeat' split)
  all_goals first | rfl | contradiction | (exfalso; omega) | (simp (disch := first | exact hK.a (by decide) | exact hK.m (by decide) | exact hK) only [pc_g, pc_up, pc_fl, pc_pby (μ := μ) hK, pcP_1, pcP_2]; done) | (simp (disch := first | exact hK.a (by decide) | exact hK.m (by decide) | exact hK) only [pc_g, pc_up, pc_fl, pc_pby (μ := μ) hK, pcP_1, pcP_2]; rfl)
theorem lq_sea (hK : KQc μ K) (c : Int) : m_sea μ c (pc K w B) = pcP K w (m_sea μ c B) := by
  unfold m_sea
  simp (disch := first | exact hK.a (by decide) | exact hK.m (by decide) | exact hK) only [pc_g, pc_up, pc_fl, pc_pby (μ := μ) hK, pcP_1, pcP_2, lq_vT (μ := μ) hK, lq_sea2 (μ := μ) hK]
theorem lq_mkp (hK : KQc μ K) (k g : Int) : m_mkp μ k g (pc K w B) = pc K w (m_mkp μ k g B) := by
  unfold m_mkp
  simp (disch := first | exact hK.a (by decide) | exact hK.m (by decide) | exact hK) only [pc_g, pc_up, pc_fl, pc_pby (μ := μ) hK, pcP_1, pcP_2, lq_step (μ := μ) hK]
theorem lq_clr (hK : KQc μ K) (k : Int) : m_clr μ k (pc K w B) = pcP K w (m_clr μ k B) := by
  unfold m_clr
  simp (disch := first | exact hK.a (by decide) | exact hK.m (by decide) | exact hK) only [pc_g, pc_up, pc_fl, pc_pby (μ := μ) hK, pcP_1, pcP_2, lq_step (μ := μ) hK]
  try (repeat' split)
  all_goals first | rfl | contradiction | (exfalso; omega) | (simp (disch := first | exact hK.a (by decide) | exact hK.m (by decide) | exact hK) only [pc_g, pc_up, pc_fl, pc_pby (μ := μ) hK, pcP_1, pcP_2, lq_step (μ := μ) hK]; done) | (simp (disch := first | exact hK.a (by decide) | exact hK.m (by decide) | exact hK) only [pc_g, pc_up, pc_fl, pc_pby (μ := μ) hK, pcP_1, pcP_2, lq_step (μ := μ) hK]; rfl)
theorem lq_nar1 (hK : KQc μ K) (k : Int) : m_nar1 μ k (pc K w B) = pc K w (m_nar1 μ k B) := by
  unfold m_nar1
  simp (disch := first | exact hK.a (by decide) | exact hK.m (by decide) | exact hK) only [pc_g, pc_up, pc_fl, pc_pby (μ := μ) hK, pcP_1, pcP_2]
theorem lq_nar (hK : KQc μ K) (k : Int) : m_nar μ k (pc K w B) = pcP K w (m_nar μ k B) := by
  unfold m_nar
  simp (disch := first | exact hK.a (by decide) | exact hK.m (by decide) | exact hK) only [pc_g, pc_up, pc_fl, pc_pby (μ := μ) hK, pcP_1, pcP_2, lq_vF (μ := μ) hK, lq_vT (μ := μ) hK, lq_nar1 (μ := μ) hK]
  try (repeat' split)
  all_goals first | rfl | contradiction | (exfalso; omega) | (simp (disch := first | exact hK.a (by decide) | exact hK.m (by decide) | exact hK) only [pc_g, pc_up, pc_fl, pc_pby (μ := μ) hK, pcP_1, pcP_2, lq_vF (μ := μ) hK, lq_vT (μ := μ) hK, lq_nar1 (μ := μ) hK]; done) | (simp (disch := first | exact hK.a (by decide) | exact hK.m (by decide) | exact hK) only [pc_g, pc_up, pc_fl, pc_pby (μ := μ) hK, pcP_1, pcP_2, lq_vF (μ := μ) hK, lq_vT (μ := μ) hK, lq_nar1 (μ := μ) hK]; rfl)
theorem lq_puts (hK : KQc μ K) (s : Int) : m_puts μ s (pc K w B) = pcP K w (m_puts μ s B) := by
  unfold m_puts
  simp (disch := first | exact hK.a (by decide) | exact hK.m (by decide) | exact hK) only [pc_g, pc_up, pc_fl, pc_pby (μ := μ) hK, pcP_1, pcP_2, lq_ins (μ := μ) hK, lq_ld (μ := μ) hK, lq_pt (μ := μ) hK]
  try (repeat' split)
  all_goals first | rfl | contradiction | (exfalso; omega) | (simp (disch := first | exact hK.a (by decide) | exact hK.m (by decide) | exact hK) only [pc_g, pc_up, pc_fl, pc_pby (μ := μ) hK, pcP_1, pcP_2, lq_ins (μ := μ) hK, lq_ld (μ := μ) hK, lq_pt (μ := μ) hK]; done) | (simp (disch := first | exact hK.a (by decide) | exact hK.m (by decide) | exact hK) only [pc_g, pc_up, pc_fl, pc_pby (μ := μ) hK, pcP_1, pcP_2, lq_ins (μ := μ) hK, lq_ld (μ := μ) hK, lq_pt (μ := μ) hK]; rfl)
theorem lq_rots (hK : KQc μ K) (h1 : K 211 0 = false) : m_rots μ (pc K w B) = pcP K w (m_rots μ B) := by
  unfold m_rots
  simp (disch := first | exact hK.a (by decide) | exact hK.m (by decide) | exact hK | exact h1) only [pc_g, pc_up, pc_fl, pc_pby (μ := μ) hK, pcP_1, pcP_2, lq_step (μ := μ) hK, lq_trn (μ := μ) hK, lq_rs4 (μ := μ) hK]
  try (repeat' split)
  all_goals first | rfl | contradiction | (exfalso; omega) | (simp (disch := first | exact hK.a (by decide) | exact hK.m (by decide) | exact hK | exact h1) only [pc_g, pc_up, pc_fl, pc_pby (μ := μ) hK, pcP_1, pcP_2, lq_step (μ := μ) hK, lq_trn (μ := μ) hK, lq_rs4 (μ := μ) hK]; done) | (simp (disch := first | exact hK.a (by decide) | exact hK.m (by decide) | exact hK | exact h1) only [pc_g, pc_up, pc_fl, pc_pby (μ := μ) hK, pcP_1, pcP_2, lq_step (μ := μ) hK, lq_trn (μ := μ) hK, lq_rs4 (μ := μ) hK]; rfl)
theorem lq_psS (hK : KQc μ K) (x y z s : Int) : m_psS μ x y z s (pc K w B) = pc K w (m_psS μ x y z s B) := by
  unfold m_psS
  simp (disch := first | exact hK.a (by decide) | exact hK.m (by decide) | exact hK) only [pc_g, pc_up, pc_fl, pc_pby (μ := μ) hK, pcP_1, pcP_2, lq_step (μ := μ) hK, lq_pEn (μ := μ) hK]
theorem lq_kilA (hK : KQc μ K) (k : Int) : m_kilA μ k (pc K w B) = pc K w (m_kilA μ k B) := by
  unfold m_kilA
  simp (disch := first | exact hK.a (by decide) | exact hK.m (by decide) | exact hK) only [pc_g, pc_up, pc_fl, pc_pby (μ := μ) hK, pcP_1, pcP_2, lq_psh (μ := μ) hK, lq_del (μ := μ) hK, lq_rd (μ := μ) hK]
theorem lq_kil (hK : KQc μ K) (h1 : K 211 0 = false) (k : Int) : m_kil μ k (pc K w B) = pc K w (m_kil μ k B) := by
  unfold m_kil
  simp (disch := first | exact hK.a (by decide) | exact hK.m (by decide) | exact hK | exact h1) only [pc_g, pc_up, pc_fl, pc_pby (μ := μ) hK, pcP_1, pcP_2, lq_rs4 (μ := μ) hK, lq_psS (μ := μ) hK, lq_kilA (μ := μ) hK]
  try (repeat' split)
  all_goals first | rfl | contradiction | (exfalso; omega) | (simp (disch := first | exact hK.a (by decide) | exact hK.m (by decide) | exact hK | exact h1) only [pc_g, pc_up, pc_fl, pc_pby (μ := μ) hK, pcP_1, pcP_2, lq_rs4 (μ := μ) hK, lq_psS (μ := μ) hK, lq_kilA (μ := μ) hK]; done) | (simp (disch := first | exact hK.a (by decide) | exact hK.m (by decide) | exact hK | exact h1) only [pc_g, pc_up, pc_fl, pc_pby (μ := μ) hK, pcP_1, pcP_2, lq_rs4 (μ := μ) hK, lq_psS (μ := μ) hK, lq_kilA (μ := μ) hK]; rfl)
theorem lq_copA (hK : KQc μ K) (s k : Int) : m_copA μ s k (pc K w B) = pc K w (m_copA μ s k B) := by
  unfold m_copA
  simp (disch := first | exact hK.a (by decide) | exact hK.m (by decide) | exact hK) only [pc_g, pc_up, pc_fl, pc_pby (μ := μ) hK, pcP_1, pcP_2, lq_tak (μ := μ) hK, lq_rd (μ := μ) hK]
theorem lq_cop (hK : KQc μ K) (h1 : K 211 0 = false) (s k : Int) : m_cop μ s k (pc K w B) = pc K w (m_cop μ s k B) := by
  unfold m_cop
  simp (disch := first | exact hK.a (by decide) | exact hK.m (by decide) | exact hK | exact h1) only [pc_g, pc_up, pc_fl, pc_pby (μ := μ) hK, pcP_1, pcP_2, lq_psS (μ := μ) hK, lq_copA (μ := μ) hK]
  try (repeat' split)
  all_goals first | rfl | contradiction | (exfalso; omega) | (simp (disch := first | exact hK.a (by decide) | exact hK.m (by decide) | exact hK | exact h1) only [pc_g, pc_up, pc_fl, pc_pby (μ := μ) hK, pcP_1, pcP_2, lq_psS (μ := μ) hK, lq_copA (μ := μ) hK]; done) | (simp (disch := first | exact hK.a (by decide) | exact hK.m (by decide) | exact hK | exact h1) only [pc_g, pc_up, pc_fl, pc_pby (μ := μ) hK, pcP_1, pcP_2, lq_psS (μ := μ) hK, lq_copA (μ := μ) hK]; rfl)
theorem lq_more (hK : KQc μ K) (h1 : K 211 0 = false) (c a b : Int) : m_more μ c a b (pc K w B) = pcP K w (m_more μ c a b B) := by
  unfold m_more
  simp (disch := first | exact hK.a (by decide) | exact hK.m (by decide) | exact hK | exact h1) only [pc_g, pc_up, pc_fl, pc_pby (μ := μ) hK, pcP_1, pcP_2, lq_sea (μ := μ) hK, lq_mkp (μ := μ) hK, lq_clr (μ := μ) hK, lq_nar (μ := μ) hK, lq_puts (μ := μ) hK, lq_rots (μ := μ) hK h1, lq_kil (μ := μ) hK h1, lq_cop (μ := μ) hK h1]
  try (repeat' split)
  all_goals first | rfl | contradiction | (exfalso; omega) | (simp (disch := first | exact hK.a (by decide) | exact hK.m (by decide) | exact hK | exact h1) only [pc_g, pc_up, pc_fl, pc_pby (μ := μ) hK, pcP_1, pcP_2, lq_sea (μ := μ) hK, lq_mkp (μ := μ) hK, lq_clr (μ := μ) hK, lq_nar (μ := μ) hK, lq_puts (μ := μ) hK, lq_rots (μ := μ) hK h1, lq_kil (μ := μ) hK h1, lq_cop (μ := μ) hK h1]; done) | (simp (disch := first | exact hK.a (by decide) | exact hK.m (by decide) | exact hK | exact h1) only [pc_g, pc_up, pc_fl, pc_pby (μ := μ) hK, pcP_1, pcP_2, lq_sea (μ := μ) hK, lq_mkp (μ := μ) hK, lq_clr (μ := μ) hK, lq_nar (μ := μ) hK, lq_puts (μ := μ) hK, lq_rots (μ := μ) hK h1, lq_kil (μ := μ) hK h1, lq_cop (μ := μ) hK h1]; rfl)
theorem lq_insC (hK : KQc μ K) (a : Int) : m_insC μ a (pc K w B) = pc K w (m_insC μ a B) := by
  unfold m_insC
  simp (disch := first | exact hK.a (by decide) | exact hK.m (by decide) | exact hK) only [pc_g, pc_up, pc_fl, pc_pby (μ := μ) hK, pcP_1, pcP_2, lq_ins (μ := μ) hK, lq_pt (μ := μ) hK]
theorem lq_ovrA (hK : KQc μ K) (a : Int) : m_ovrA μ a (pc K w B) = pc K w (m_ovrA μ a B) := by
  unfold m_ovrA
  simp (disch := first | exact hK.a (by decide) | exact hK.m (by decide) | exact hK) only [pc_g, pc_up, pc_fl, pc_pby (μ := μ) hK, pcP_1, pcP_2, lq_rep (μ := μ) hK]
theorem lq_ovr (hK : KQc μ K) (a : Int) : m_ovr μ a (pc K w B) = pc K w (m_ovr μ a B) := by
  unfold m_ovr
  simp (disch := first | exact hK.a (by decide) | exact hK.m (by decide) | exact hK) only [pc_g, pc_up, pc_fl, pc_pby (μ := μ) hK, pcP_1, pcP_2, lq_ovrA (μ := μ) hK]
theorem lq_delC (hK : KQc μ K) (a : Int) : m_delC μ a (pc K w B) = pc K w (m_delC μ a B) := by
  unfold m_delC
  simp (disch := first | exact hK.a (by decide) | exact hK.m (by decide) | exact hK) only [pc_g, pc_up, pc_fl, pc_pby (μ := μ) hK, pcP_1, pcP_2, lq_del (μ := μ) hK]
theorem lq_goto (hK : KQc μ K) (p : Int) : m_goto μ p (pc K w B) = pc K w (m_goto μ p B) := by
  unfold m_goto
  simp (disch := first | exact hK.a (by decide) | exact hK.m (by decide) | exact hK) only [pc_g, pc_up, pc_fl, pc_pby (μ := μ) hK, pcP_1, pcP_2]
theorem lq_wid (hK : KQc μ K) : m_wid μ (pc K w B) = pc K w (m_wid μ B) := by
  unfold m_wid
  simp (disch := first | exact hK.a (by decide) | exact hK.m (by decide) | exact hK) only [pc_g, pc_up, pc_fl, pc_pby (μ := μ) hK, pcP_1, pcP_2]
theorem lq_does (hK : KQc μ K) (h1 : K 211 0 = false) (c a b : Int) : m_does μ c a b (pc K w B) = pcP K w (m_does μ c a b B) := by
  unfold m_does m_iV m_lack
  simp (disch := first | exact hK.a (by decide) | exact hK.m (by decide) | exact hK | exact h1) only [pc_g, pc_up, pc_fl, pc_pby (μ := μ) hK, pcP_1, pcP_2, lq_vF (μ := μ) hK, lq_vT (μ := μ) hK, lq_more (μ := μ) hK h1, lq_insC (μ := μ) hK, lq_ovr (μ := μ) hK, lq_delC (μ := μ) hK, lq_goto (μ := μ) hK, lq_wid (μ := μ) hK]
  try (repeat' split)
  all_goals first | rfl | contradiction | (exfalso; omega) | (simp (disch := first | exact hK.a (by decide) | exact hK.m (by decide) | exact hK | exact h1) only [pc_g, pc_up, pc_fl, pc_pby (μ := μ) hK, pcP_1, pcP_2, lq_vF (μ := μ) hK, lq_vT (μ := μ) hK, lq_more (μ := μ) hK h1, lq_insC (μ := μ) hK, lq_ovr (μ := μ) hK, lq_delC (μ := μ) hK, lq_goto (μ := μ) hK, lq_wid (μ := μ) hK]; done) | (simp (disch := first | exact hK.a (by decide) | exact hK.m (by decide) | exact hK | exact h1) only [pc_g, pc_up, pc_fl, pc_pby (μ := μ) hK, pcP_1, pcP_2, lq_vF (μ := μ) hK, lq_vT (μ := μ) hK, lq_more (μ := μ) hK h1, lq_insC (μ := μ) hK, lq_ovr (μ := μ) hK, lq_delC (μ := μ) hK, lq_goto (μ := μ) hK, lq_wid (μ := μ) hK]; rfl)
theorem lq_rec (hK : KQc μ K) (c a b : Int) : m_rec μ c a b (pc K w B) = pc K w (m_rec μ c a b B) := by
  unfold m_rec m_rec1
  simp (disch := first | exact hK.a (by decide) | exact hK.m (by decide) | exact hK) only [pc_g, pc_up, pc_fl, pc_pby (μ := μ) hK, pcP_1, pcP_2]
  split <;> rfl
theorem lq_pof (hK : KQc μ K) (c : Int) : m_pof c (pc K w B) = m_pof c B := by
  unfold m_pof
  simp (disch := first | exact hK.a (by decide) | exact hK.m (by decide) | exact hK) only [pc_g, pc_up, pc_fl, pc_pby (μ := μ) hK, pcP_1, pcP_2]
theorem lq_ord (hK : KQc μ K) (p : Int) : m_ord p (pc K w B) = m_ord p B := by
  unfold m_ord
  have e : m_orF p (pc K w B) = m_orF p B := by
    funext k
    unfold m_orF
    have e2 : m_ahd (pc K w B) k = m_ahd B k := by funext j; unfold m_ahd; simp (disch := first | exact hK.a (by decide) | exact hK.m (by decide) | exact hK) only [pc_g]
    simp (disch := first | exact hK.a (by decide) | exact hK.m (by decide) | exact hK) only [pc_g, e2]
  rw [e]
theorem lq_nrun (hK : KQc μ K) : ∀ (n : Nat) (d : Int) (B : Mm), m_nrun μ n d (pc K w B) = (m_nrun μ n d B).map (pcP K w)
  | 0, _, _ => rfl
  | n + 1, d, B => by
    have ih := lq_nrun hK n
    unfold m_nrun
    simp (disch := first | exact hK.a (by decide) | exact hK.m (by decide) | exact hK) only [pc_g, pc_up, pc_fl, lq_ord (μ := μ) hK, lq_pof (μ := μ) hK, lq_rep hK, ih]
    repeat' split
    all_goals first | rfl | contradiction | (exfalso; omega)
theorem lq_ntf (hK : KQc μ K) : m_ntf μ (pc K w B) = pcP K w (m_ntf μ B) := by
  unfold m_ntf
  rw [pc_up (hK.a (by decide)), lq_nrun hK]
  cases m_nrun μ 100 1 (up B 234 0 1 0) <;> rfl
theorem lq_chF (hK : KQc μ K) (x : Int) : m_chF x (pc K w B) = m_chF x B := by
  funext k; unfold m_chF; simp (disch := first | exact hK.a (by decide) | exact hK.m (by decide) | exact hK) only [pc_g]
theorem lq_chl (hK : KQc μ K) (x : Int) : m_chl μ x (pc K w B) = m_chl μ x B := by
  unfold m_chl
  simp (disch := first | exact hK.a (by decide) | exact hK.m (by decide) | exact hK) only [pc_g, pc_up, pc_fl, pc_pby (μ := μ) hK, pcP_1, pcP_2, lq_chF (μ := μ) hK]
theorem lq_nwst (hK : KQc μ K) (x : Int) : m_nwst μ x (pc K w B) = m_nwst μ x B := by
  unfold m_nwst
  simp (disch := first | exact hK.a (by decide) | exact hK.m (by decide) | exact hK) only [pc_g, pc_up, pc_fl, pc_pby (μ := μ) hK, pcP_1, pcP_2, lq_chF (μ := μ) hK]
theorem lq_bkF (hK : KQc μ K) (x : Int) : m_bkF x (pc K w B) = m_bkF x B := by
  funext k; unfold m_bkF; simp (disch := first | exact hK.a (by decide) | exact hK.m (by decide) | exact hK) only [pc_g]
theorem lq_mgF (hK : KQc μ K) : m_mgF μ (pc K w B) = m_mgF μ B := by
  funext k; unfold m_mgF; simp (disch := first | exact hK.a (by decide) | exact hK.m (by decide) | exact hK) only [pc_g, lq_chl (μ := μ) hK, lq_bkF (μ := μ) hK]
theorem lq_nxt (hK : KQc μ K) : m_nxt μ (pc K w B) = m_nxt μ B := by
  unfold m_nxt m_mgb; simp (disch := first | exact hK.a (by decide) | exact hK.m (by decide) | exact hK) only [pc_g, lq_mgF (μ := μ) hK]
theorem lq_mrg1 (hK : KQc μ K) (x : Int) : m_mrg1 μ x (pc K w B) = pc K w (m_mrg1 μ x B) := by
  unfold m_mrg1
  simp (disch := first | exact hK.a (by decide) | exact hK.m (by decide) | exact hK) only [pc_g, pc_up, pc_fl, pc_pby (μ := μ) hK, pcP_1, pcP_2, lq_nwst (μ := μ) hK]
theorem lq_mrg (hK : KQc μ K) : ∀ (n : Nat) (c : Int) (B : Mm), m_mrg μ n c (pc K w B) = pcP K w (m_mrg μ n c B)
  | 0, _, _ => rfl
  | n + 1, c, B => by
    unfold m_mrg
    rw [lq_nxt hK]
    split
    · rfl
    · rw [lq_mrg1 hK, lq_mrg hK n]
theorem lq_mrgs (hK : KQc μ K) : m_mrgs μ (pc K w B) = pcP K w (m_mrgs μ B) := lq_mrg hK _ _ _
theorem lq_mk1 (hK : KQc μ K) (g : Int) : m_mk1 μ g (pc K w B) = pc K w (m_mk1 μ g B) := by
  unfold m_mk1
  simp (disch := first | exact hK.a (by decide) | exact hK.m (by decide) | exact hK) only [pc_g, pc_up, pc_fl, pc_pby (μ := μ) hK, pcP_1, pcP_2]
theorem lq_mks (hK : KQc μ K) (g : Int) : m_mks μ g (pc K w B) = pc K w (m_mks μ g B) := by
  unfold m_mks; rw [lq_mk1 hK, lq_mrgs hK]; rfl
theorem lq_cpT (hK : KQc μ K) (a b : Int) : m_cpT a b (pc K w B) = pc K w (m_cpT a b B) := by
  unfold m_cpT
  simp (disch := first | exact hK.a (by decide) | exact hK.m (by decide) | exact hK) only [pc_g, pc_up, pc_fl, pc_pby (μ := μ) hK, pcP_1, pcP_2]
theorem lq_cpP (hK : KQc μ K) (a b : Int) : m_cpP a b (pc K w B) = pc K w (m_cpP a b B) := by
  unfold m_cpP
  simp (disch := first | exact hK.a (by decide) | exact hK.m (by decide) | exact hK) only [pc_g, pc_up, pc_fl, pc_pby (μ := μ) hK, pcP_1, pcP_2]
theorem lq_cpQ (hK : KQc μ K) (T : Int → Bool) (k a b : Int) : m_cpQ T k a b (pc K w B) = pc K w (m_cpQ T k a b B) := by
  funext c x i
  have k4 := hK.a (c := 204) (by decide)
  have k5 := hK.a (c := 205) (by decide)
  have k6 := hK.a (c := 206) (by decide)
  unfold m_cpQ pc
  by_cases z : K c x = true
  · have n4 : ∀ p : Prop, ¬ (c = 204 ∧ x = 0 ∧ p) := fun p e => by rw [e.1, e.2.1, k4] at z; exact absurd z (by decide)
    have n5 : ∀ p : Prop, ¬ (c = 205 ∧ x = 0 ∧ p) := fun p e => by rw [e.1, e.2.1, k5] at z; exact absurd z (by decide)
    have n6 : ∀ p : Prop, ¬ (c = 206 ∧ x = 0 ∧ p) := fun p e => by rw [e.1, e.2.1, k6] at z; exact absurd z (by decide)
    rw [if_neg (n4 _), if_neg (n5 _), if_neg (n6 _), if_pos z, if_pos z]
  · simp only [if_neg z, k4, k5, k6]
    simp
theorem lq_rest1 (hK : KQc μ K) (b : Int) : m_rest μ b 1 (pc K w B) = pc K w (m_rest μ b 1 B) := by
  have e : ∀ X : Mm, (fun s => decide ((1 : Int) = 1 ∨ X 211 0 s = 1)) = (fun _ => true : Int → Bool) := fun X => by funext s; simp
  unfold m_rest
  rw [e, e]
  simp (disch := first | exact hK.a (by decide) | exact hK.m (by decide) | exact hK) only [pc_g, pc_up, pc_fl, pc_pby (μ := μ) hK, pcP_1, pcP_2, lq_cpT (μ := μ) hK, lq_cpP (μ := μ) hK, lq_cpQ (μ := μ) hK]
theorem lq_rest (hK : KQc μ K) (h1 : K 211 0 = false) (b all : Int) : m_rest μ b all (pc K w B) = pc K w (m_rest μ b all B) := by
  unfold m_rest
  simp (disch := first | exact hK.a (by decide) | exact hK.m (by decide) | exact hK | exact h1) only [pc_g, pc_up, pc_fl, pc_pby (μ := μ) hK, pcP_1, pcP_2, lq_cpT (μ := μ) hK, lq_cpP (μ := μ) hK, lq_cpQ (μ := μ) hK, lq_rest1 (μ := μ) hK]
  try (repeat' split)
  all_goals first | rfl | contradiction | (exfalso; omega) | (simp (disch := first | exact hK.a (by decide) | exact hK.m (by decide) | exact hK | exact h1) only [pc_g, pc_up, pc_fl, pc_pby (μ := μ) hK, pcP_1, pcP_2, lq_cpT (μ := μ) hK, lq_cpP (μ := μ) hK, lq_cpQ (μ := μ) hK, lq_rest1 (μ := μ) hK]; done) | (simp (disch := first | exact hK.a (by decide) | exact hK.m (by decide) | exact hK | exact h1) only [pc_g, pc_up, pc_fl, pc_pby (μ := μ) hK, pcP_1, pcP_2, lq_cpT (μ := μ) hK, lq_cpP (μ := μ) hK, lq_cpQ (μ := μ) hK, lq_rest1 (μ := μ) hK]; rfl)
theorem lq_saves (hK : KQc μ K) (a : Int) : m_saves μ a (pc K w B) = pc K w (m_saves μ a B) := by
  unfold m_saves m_cpA
  simp (disch := first | exact hK.a (by decide) | exact hK.m (by decide) | exact hK) only [pc_g, pc_up, pc_fl, pc_pby (μ := μ) hK, pcP_1, pcP_2, lq_cpT (μ := μ) hK, lq_cpP (μ := μ) hK, lq_cpQ (μ := μ) hK]
theorem lq_en2 (hK : KQc μ K) (g : Int) (p : Int × Mm) : m_en2 μ g (pcP K w p) = pcP K w (m_en2 μ g p) := by
  obtain ⟨p1, p2⟩ := p
  unfold m_en2 pcP
  dsimp only
  rw [lq_rest1 hK, lq_mks hK]
  split <;> rfl
theorem lq_ends (hK : KQc μ K) (g : Int) : m_ends μ g (pc K w B) = pcP K w (m_ends μ g B) := by
  unfold m_ends
  rw [pc_g (hK.m (by decide)), pc_g (hK.m (by decide)), pc_g (hK.m (by decide)), lq_ntf hK, lq_en2 hK]
  split <;> rfl
end LQA
