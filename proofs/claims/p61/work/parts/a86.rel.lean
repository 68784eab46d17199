/-! locality where a change ends: what m_ends does beyond its first question -/
def KX (K : Nat → Bool) : Prop := ∀ c, (120 ≤ c ∧ c ≤ 126) ∨ c = 128 ∨ (200 ≤ c ∧ c ≤ 246) → K c = false
theorem KX.h {K : Nat → Bool} (hK : KX K) {c : Nat} (h : (120 ≤ c ∧ c ≤ 126) ∨ c = 128 ∨ (200 ≤ c ∧ c ≤ 246)) : K c = false := hK c h
theorem KX.a {K : Nat → Bool} (hK : KX K) : KA K := fun c h1 h2 => hK c (by omega)
def patP (K : Nat → Bool) (w : Mm) (p : Int × Mm) : Int × Mm := (p.1, pat K w p.2)
section PTX
variable {K : Nat → Bool} {w B : Mm} {μ : MU}
theorem pat_pof (hK : KX K) (c : Int) : m_pof c (pat K w B) = m_pof c B := by
  unfold m_pof; simp (disch := exact hK.h (by decide)) only [pat_g]
theorem pat_fd (hK : KX K) : m_fd (pat K w B) = m_fd B := by
  funext k; unfold m_fd; simp (disch := first | exact hK.h (by decide) | exact hK) only [pat_g, pat_pof]
theorem pat_ord (hK : KX K) (p : Int) : m_ord p (pat K w B) = m_ord p B := by
  unfold m_ord
  have e : m_orF p (pat K w B) = m_orF p B := by
    funext k
    unfold m_orF
    have e2 : m_ahd (pat K w B) k = m_ahd B k := by funext j; unfold m_ahd; simp (disch := exact hK.h (by decide)) only [pat_g]
    simp (disch := exact hK.h (by decide)) only [pat_g, e2]
  rw [e]
theorem pat_step (hK : KX K) (k p v : Int) : m_step μ k p v (pat K w B) = pat K w (m_step μ k p v B) := by
  unfold m_step; simp (disch := exact hK.h (by decide)) only [pat_g, pat_up]
theorem pat_rep (hK : KX K) (q c : Int) : m_rep μ q c (pat K w B) = pat K w (m_rep μ q c B) := by
  unfold m_rep; simp (disch := first | exact hK.h (by decide) | exact hK) only [pat_g, pat_up, pat_step]
theorem pat_cpT (hK : KX K) (a b : Int) : m_cpT a b (pat K w B) = pat K w (m_cpT a b B) := by
  unfold m_cpT; simp (disch := exact hK.h (by decide)) only [pat_g, pat_up, pat_fl]
theorem pat_cpP (hK : KX K) (a b : Int) : m_cpP a b (pat K w B) = pat K w (m_cpP a b B) := by
  unfold m_cpP; simp (disch := exact hK.h (by decide)) only [pat_g, pat_up, pat_fl]
theorem pat_cpQ (hK : KX K) (T : Int → Bool) (k a b : Int) : m_cpQ T k a b (pat K w B) = pat K w (m_cpQ T k a b B) := by
  funext c x i
  have k4 := hK.h (c := 204) (by decide)
  have k5 := hK.h (c := 205) (by decide)
  have k6 := hK.h (c := 206) (by decide)
  unfold m_cpQ pat
  by_cases z : K c = true
  · have n4 : c ≠ 204 := fun e => by rw [e, k4] at z; exact absurd z (by decide)
    have n5 : c ≠ 205 := fun e => by rw [e, k5] at z; exact absurd z (by decide)
    have n6 : c ≠ 206 := fun e => by rw [e, k6] at z; exact absurd z (by decide)
    rw [if_neg (fun q => n4 q.1), if_neg (fun q => n5 q.1), if_neg (fun q => n6 q.1), if_pos z, if_pos z]
  · simp only [if_neg z, k4, k5, k6]
    simp
theorem pat_rest (hK : KX K) (b all : Int) : m_rest μ b all (pat K w B) = pat K w (m_rest μ b all B) := by
  unfold m_rest; simp (disch := first | exact hK.h (by decide) | exact hK) only [pat_g, pat_up, pat_cpT, pat_cpP, pat_cpQ]
theorem pat_saves (hK : KX K) (a : Int) : m_saves μ a (pat K w B) = pat K w (m_saves μ a B) := by
  unfold m_saves m_cpA; simp (disch := first | exact hK.h (by decide) | exact hK) only [pat_g, pat_up, pat_cpT, pat_cpP, pat_cpQ]
theorem pat_nrun (hK : KX K) : ∀ (n : Nat) (d : Int) (B : Mm), m_nrun μ n d (pat K w B) = (m_nrun μ n d B).map (patP K w)
  | 0, _, _ => rfl
  | n + 1, d, B => by
    have ih := pat_nrun hK n
    unfold m_nrun
    simp (disch := first | exact hK.h (by decide) | exact hK) only [pat_g, pat_up, pat_fl, pat_ord, pat_fd, pat_pof, pat_rep, ih]
    repeat' split
    all_goals first | rfl | contradiction | (exfalso; omega)
theorem pat_ntf (hK : KX K) : m_ntf μ (pat K w B) = patP K w (m_ntf μ B) := by
  unfold m_ntf
  rw [pat_up (hK.h (by decide)), pat_nrun hK]
  cases m_nrun μ 100 1 (up B 234 0 1 0) <;> rfl
theorem pat_chF (hK : KX K) (x : Int) : m_chF x (pat K w B) = m_chF x B := by
  funext k; unfold m_chF; simp (disch := exact hK.h (by decide)) only [pat_g]
theorem pat_chl (hK : KX K) (x : Int) : m_chl μ x (pat K w B) = m_chl μ x B := by
  unfold m_chl; simp (disch := first | exact hK.h (by decide) | exact hK) only [pat_g, pat_chF]
theorem pat_nwst (hK : KX K) (x : Int) : m_nwst μ x (pat K w B) = m_nwst μ x B := by
  unfold m_nwst; simp (disch := first | exact hK.h (by decide) | exact hK) only [pat_g, pat_chF]
theorem pat_bkF (hK : KX K) (x : Int) : m_bkF x (pat K w B) = m_bkF x B := by
  funext k; unfold m_bkF; simp (disch := exact hK.h (by decide)) only [pat_g]
theorem pat_mgF (hK : KX K) : m_mgF μ (pat K w B) = m_mgF μ B := by
  funext k; unfold m_mgF; simp (disch := first | exact hK.h (by decide) | exact hK) only [pat_g, pat_chl, pat_bkF]
theorem pat_nxt (hK : KX K) : m_nxt μ (pat K w B) = m_nxt μ B := by
  unfold m_nxt m_mgb; simp (disch := first | exact hK.h (by decide) | exact hK) only [pat_g, pat_mgF]
theorem pat_mrg1 (hK : KX K) (x : Int) : m_mrg1 μ x (pat K w B) = pat K w (m_mrg1 μ x B) := by
  unfold m_mrg1; simp (disch := first | exact hK.h (by decide) | exact hK) only [pat_g, pat_up, pat_nwst]
theorem pat_mrg (hK : KX K) : ∀ (n : Nat) (c : Int) (B : Mm), m_mrg μ n c (pat K w B) = patP K w (m_mrg μ n c B)
  | 0, _, _ => rfl
  | n + 1, c, B => by
    unfold m_mrg
    rw [pat_nxt hK]
    split
    · rfl
    · rw [pat_mrg1 hK, pat_mrg hK n]
theorem pat_mrgs (hK : KX K) : m_mrgs μ (pat K w B) = patP K w (m_mrgs μ B) := pat_mrg hK _ _ _
theorem pat_mk1 (hK : KX K) (g : Int) : m_mk1 μ g (pat K w B) = pat K w (m_mk1 μ g B) := by
  unfold m_mk1; simp (disch := exact hK.h (by decide)) only [pat_g, pat_up]
theorem pat_mks (hK : KX K) (g : Int) : m_mks μ g (pat K w B) = pat K w (m_mks μ g B) := by
  unfold m_mks; rw [pat_mk1 hK, pat_mrgs hK]; rfl
theorem pat_en2 (hK : KX K) (g : Int) (p : Int × Mm) : m_en2 μ g (patP K w p) = patP K w (m_en2 μ g p) := by
  obtain ⟨p1, p2⟩ := p
  unfold m_en2 patP
  dsimp only
  rw [pat_rest hK, pat_mks hK]
  split <;> rfl
/-- one number that is not looked at -/
theorem pat_up1 {c : Nat} {x y v : Int} : up B c x y v = pat (fun k => k == c) (up B c x y v) B := by
  funext c' a' i
  simp only [pat]
  by_cases z : c' = c
  · rw [if_pos (by rw [z]; simp)]
  · rw [if_neg (by simpa using z), up_k _ z]
theorem en2_132 {S P M g x y v : Int} (hB : LB μ S P B) (hR : RK μ S P M B) : m_en2 μ g (m_ntf μ (up B 132 x y v)) = ((m_en2 μ g (m_ntf μ B)).1, up (m_en2 μ g (m_ntf μ B)).2 132 x y v) := by
  have hk : ∀ a i, (m_en2 μ g (m_ntf μ B)).2 132 a i = B 132 a i := fun a i => by
    have e := (ntf_rk hB hR).1.2 132 a i (by decide) (by decide) (by decide) (by decide) (by decide) (by decide)
    unfold m_en2
    split
    · show m_rest μ 2 1 _ 132 a i = _; rw [rest_at (by decide)]; exact e
    · show m_mks μ g _ 132 a i = _
      unfold m_mks m_mrgs
      rw [mrg_at (by decide), mk1_n (by decide)]; exact e
  have hK : KX (fun k => k == 132) := fun c hc => by simp; omega
  have e := pat_ntf (μ := μ) hK (w := up B 132 x y v) (B := B)
  rw [← pat_up1] at e
  rw [e, pat_en2 hK]
  unfold patP
  congr 1
  funext c a i
  simp only [pat]
  by_cases z : c = 132
  · subst z
    rw [if_pos (by simp)]
    simp only [up]
    split
    · rfl
    · exact (hk a i).symm
  · rw [if_neg (by simpa using z), up_k _ z]
end PTX
