/-! listeners: the run of notifies comes to an end, and what it comes to -/
theorem ord_eq (p : Int) (w : Mm) : m_ord p w = if w 228 0 0 = 1 ∧ bi (w 228 0 1 = 1 ∧ ¬ w 231 0 0 ≤ w 231 0 1) + bi (w 228 0 2 = 1 ∧ ¬ w 231 0 0 ≤ w 231 0 2) = p then 0 else if w 228 0 1 = 1 ∧ bi (w 228 0 0 = 1 ∧ w 231 0 0 ≤ w 231 0 1) + bi (w 228 0 2 = 1 ∧ ¬ w 231 0 1 ≤ w 231 0 2) = p then 1 else if w 228 0 2 = 1 ∧ bi (w 228 0 0 = 1 ∧ w 231 0 0 ≤ w 231 0 2) + bi (w 228 0 1 = 1 ∧ w 231 0 1 ≤ w 231 0 2) = p then 2 else -1 := by
  have e0 : sumN (m_ahd w 0) 3 = bi (w 228 0 1 = 1 ∧ ¬ w 231 0 0 ≤ w 231 0 1) + bi (w 228 0 2 = 1 ∧ ¬ w 231 0 0 ≤ w 231 0 2) := by
    show ((0 + m_ahd w 0 0) + m_ahd w 0 1) + m_ahd w 0 2 = _
    unfold m_ahd bi
    repeat' split
    all_goals omega
  have e1 : sumN (m_ahd w 1) 3 = bi (w 228 0 0 = 1 ∧ w 231 0 0 ≤ w 231 0 1) + bi (w 228 0 2 = 1 ∧ ¬ w 231 0 1 ≤ w 231 0 2) := by
    show ((0 + m_ahd w 1 0) + m_ahd w 1 1) + m_ahd w 1 2 = _
    unfold m_ahd bi
    repeat' split
    all_goals omega
  have e2 : sumN (m_ahd w 2) 3 = bi (w 228 0 0 = 1 ∧ w 231 0 0 ≤ w 231 0 2) + bi (w 228 0 1 = 1 ∧ w 231 0 1 ≤ w 231 0 2) := by
    show ((0 + m_ahd w 2 0) + m_ahd w 2 1) + m_ahd w 2 2 = _
    unfold m_ahd bi
    repeat' split
    all_goals omega
  show (if m_orF p w 0 = 1 then 0 else if m_orF p w 1 = 1 then 1 else if m_orF p w 2 = 1 then 2 else -1) = _
  unfold m_orF
  rw [e0, e1, e2]
  simp only [bi_1]
theorem ord_pre {p : Int} {w : Mm} (hp : 0 ≤ p) (h : m_ord p w = -1) : m_ord (p + 1) w = -1 := by
  rw [ord_eq] at *
  by_cases a0 : w 228 0 0 = 1 <;> by_cases a1 : w 228 0 1 = 1 <;> by_cases a2 : w 228 0 2 = 1 <;> by_cases c1 : w 231 0 0 ≤ w 231 0 1 <;> by_cases c2 : w 231 0 0 ≤ w 231 0 2 <;> by_cases c3 : w 231 0 1 ≤ w 231 0 2 <;> simp [bi, a0, a1, a2, c1, c2, c3] at h ⊢ <;> omega
/-- of the active listeners that find, the first in the order -/
def m_ff1 (w : Mm) (F : Int → Bool) : Int := if w 228 0 0 = 1 ∧ F 0 = true then 0 else -1
def m_ff2 (w : Mm) (F : Int → Bool) : Int := if (w 228 0 1 = 1 ∧ (m_ff1 w F = -1 ∨ w 231 0 1 < w 231 0 (m_ff1 w F))) ∧ F 1 = true then 1 else m_ff1 w F
def m_ffb (w : Mm) (F : Int → Bool) : Int := if (w 228 0 2 = 1 ∧ (m_ff2 w F = -1 ∨ w 231 0 2 < w 231 0 (m_ff2 w F))) ∧ F 2 = true then 2 else m_ff2 w F
theorem ffb_eq (w : Mm) (F : Int → Bool) : m_ffb w F = if m_ord 0 w ≠ -1 ∧ F (m_ord 0 w) = true then m_ord 0 w else if m_ord 1 w ≠ -1 ∧ F (m_ord 1 w) = true then m_ord 1 w else if m_ord 2 w ≠ -1 ∧ F (m_ord 2 w) = true then m_ord 2 w else -1 := by
  have key : ∀ (a0 a1 a2 c1 c2 c3 : Bool) (f0 f1 f2 : Bool), (c1 && c3 && !c2) = false → (!c1 && !c3 && c2) = false → True := fun _ _ _ _ _ _ _ _ _ _ _ => trivial
  by_cases c1 : w 231 0 0 ≤ w 231 0 1 <;> by_cases c2 : w 231 0 0 ≤ w 231 0 2 <;> by_cases c3 : w 231 0 1 ≤ w 231 0 2 <;> first | (exfalso; omega) | skip
  all_goals
    have d1 : w 231 0 1 < w 231 0 0 ↔ ¬ w 231 0 0 ≤ w 231 0 1 := by omega
    have d2 : w 231 0 2 < w 231 0 0 ↔ ¬ w 231 0 0 ≤ w 231 0 2 := by omega
    have d3 : w 231 0 2 < w 231 0 1 ↔ ¬ w 231 0 1 ≤ w 231 0 2 := by omega
    by_cases a0 : w 228 0 0 = 1 <;> by_cases a1 : w 228 0 1 = 1 <;> by_cases a2 : w 228 0 2 = 1 <;> simp only [ord_eq, m_ffb, m_ff2, m_ff1, bi, a0, a1, a2, c1, c2, c3, true_and, false_and, and_true, and_false, if_true, if_false, not_true, not_false_eq_true] <;> (cases hf0 : F 0 <;> cases hf1 : F 1 <;> cases hf2 : F 2 <;> simp [d1, d2, d3, c1, c2, c3, hf0, hf1, hf2])
/-- listener k finds its character -/
def m_fd (w : Mm) (k : Int) : Bool := decide (m_pof (w 229 0 k) w ≠ -1)
def m_ff (w : Mm) : Int := m_ffb w (m_fd w)
def ux (f : Int → Int → Int) (w : Mm) : Mm := fun c a i => if c = 234 then f a i else w c a i
theorem ux_k {f : Int → Int → Int} {w : Mm} {c : Nat} {a i : Int} (h : c ≠ 234) : ux f w c a i = w c a i := by simp only [ux, if_neg h]
theorem ux_at {f : Int → Int → Int} {w : Mm} {a i : Int} : ux f w 234 a i = f a i := by simp only [ux, if_true]
def uf (f : Int → Int → Int) (a i v : Int) : Int → Int → Int := fun a' i' => if a' = a ∧ i' = i then v else f a' i'
theorem ux_up {f : Int → Int → Int} {w : Mm} {a i v : Int} : up (ux f w) 234 a i v = ux (uf f a i v) w := by
  funext c a' i'
  simp only [up, ux, uf]
  by_cases c1 : c = 234
  · subst c1; simp
  · simp [c1]
theorem ux_up2 {f : Int → Int → Int} {w : Mm} {c : Nat} {a i v : Int} (h : c ≠ 234) : up (ux f w) c a i v = ux f (up w c a i v) := by
  funext c' a' i'
  simp only [up, ux]
  by_cases c1 : c' = 234
  · subst c1; rw [if_neg (by omega), if_pos rfl]; simp
  · simp [c1]
theorem ux_self {w : Mm} : ux (w 234) w = w := by
  funext c a i; simp only [ux]; split
  · next h => subst h; rfl
  · rfl
theorem ux_ord {f : Int → Int → Int} {w : Mm} {p : Int} : m_ord p (ux f w) = m_ord p w := by
  rw [ord_eq, ord_eq]; simp (disch := decide) only [ux_k]
theorem ux_pof {f : Int → Int → Int} {w : Mm} {c : Int} : m_pof c (ux f w) = m_pof c w := by
  unfold m_pof; simp (disch := decide) only [ux_k]
theorem ux_rep {f : Int → Int → Int} {μ : MU} {q c : Int} {w : Mm} : m_rep μ q c (ux f w) = ux f (m_rep μ q c w) := by
  unfold m_rep m_step
  simp (disch := decide) only [ux_k, ux_up2]
theorem ux_fl {f : Int → Int → Int} {g : Int → Int} {w : Mm} {c : Nat} {lo n : Int} (h : c ≠ 234) : fl (ux f w) c lo n g = ux f (fl w c lo n g) := by
  funext c' a' i'
  simp only [fl, ux]
  by_cases c1 : c' = 234
  · subst c1; rw [if_neg (by omega), if_pos rfl]; simp
  · simp [c1]
theorem pof_up {w : Mm} {c : Nat} {a i v x : Int} (h : c ≠ 200 ∧ c ≠ 201) : m_pof x (up w c a i v) = m_pof x w := by
  unfold m_pof
  rw [up_k _ (by omega)]
  congr 1
  funext j
  rw [up_k _ (by omega)]
/-- one round of the loop, the positions apart -/
theorem nrun_s {μ : MU} {n : Nat} {d : Int} {f : Int → Int → Int} {w : Mm} (hd : 1 ≤ d) : m_nrun μ (n + 1) d (ux f w) =
    if f 0 d < 3 ∧ m_ord (f 0 d) w ≠ -1 then
      (if m_fd w (m_ord (f 0 d) w) = true then
        (if d = 8 then some (0, ux (uf f 0 d (f 0 d + 1)) (fl (up w 233 0 d (m_ord (f 0 d) w)) 232 0 8 (fun k => up w 233 0 d (m_ord (f 0 d) w) 233 0 (k + 1))))
         else m_nrun μ n (d + 1) (ux (uf (uf f 0 d (f 0 d + 1)) 0 (d + 1) 0) (m_rep μ (m_pof (w 229 0 (m_ord (f 0 d) w)) w) (w 230 0 (m_ord (f 0 d) w)) (up w 233 0 d (m_ord (f 0 d) w)))))
       else m_nrun μ n d (ux (uf f 0 d (f 0 d + 1)) w))
    else m_nrun μ n (d - 1) (ux (uf f 0 d (f 0 d + 1)) w) := by
  conv => lhs; unfold m_nrun
  rw [if_neg (by omega)]
  simp only [ux_at, ux_ord, ux_up, ux_pof]
  simp (disch := decide) only [ux_k, ux_up2, ux_pof, pof_up, ux_rep, ux_up, ux_fl]
  unfold m_fd
  by_cases c1 : f 0 d < 3
  · by_cases c2 : m_ord (f 0 d) w = -1
    · rw [if_pos (by rw [if_pos c1]; exact c2), if_neg (by omega)]
    · rw [if_neg (by rw [if_pos c1]; exact c2), if_pos (show f 0 d < 3 ∧ m_ord (f 0 d) w ≠ -1 from ⟨c1, c2⟩)]
      by_cases c3 : m_pof (w 229 0 (m_ord (f 0 d) w)) w = -1
      · rw [if_pos c3, if_neg (by simp [c3])]
      · rw [if_neg c3, if_pos (decide_eq_true c3)]
  · rw [if_pos (by rw [if_neg c1]), if_neg (by omega)]
theorem nrun_0 {μ : MU} {n : Nat} {d : Int} {w : Mm} (hd : d ≤ 0) : m_nrun μ (n + 1) d w = some (1, w) := by
  unfold m_nrun; rw [if_pos hd]
theorem nrun_mono {μ : MU} {R : Int × Mm} : ∀ {n : Nat} {d : Int} {w : Mm}, m_nrun μ n d w = some R → m_nrun μ (n + 1) d w = some R
  | 0, d, w, h => by unfold m_nrun at h; cases h
  | n + 1, d, w, h => by
    rw [← ux_self (w := w)] at h ⊢
    by_cases c0 : d ≤ 0
    · rw [nrun_0 c0] at h ⊢; exact h
    · rw [nrun_s (by omega)] at h ⊢
      by_cases c1 : w 234 0 d < 3 ∧ m_ord (w 234 0 d) w ≠ -1
      · rw [if_pos c1] at h ⊢
        by_cases c2 : m_fd w (m_ord (w 234 0 d) w) = true
        · rw [if_pos c2] at h ⊢
          by_cases c3 : d = 8
          · rw [if_pos c3] at h ⊢; exact h
          · rw [if_neg c3] at h ⊢; exact nrun_mono h
        · rw [if_neg c2] at h ⊢; exact nrun_mono h
      · rw [if_neg c1] at h ⊢; exact nrun_mono h
theorem nrun_le {μ : MU} {R : Int × Mm} {n m : Nat} {d : Int} {w : Mm} (h : m_nrun μ n d w = some R) (hm : n ≤ m) : m_nrun μ m d w = some R := by
  induction hm with
  | refl => exact h
  | step _ ih => exact nrun_mono ih
/-- no listener finds -/
def NF (w : Mm) : Prop := ∀ p, 0 ≤ p → p < 3 → m_ord p w ≠ -1 → m_fd w (m_ord p w) = false
def fPo (f : Int → Int → Int) : Prop := ∀ i, 0 ≤ i → i < 9 → 0 ≤ f 0 i ∧ f 0 i ≤ 4
def fPd (d : Int) (f : Int → Int → Int) : Prop := ∀ i, 1 ≤ i → i ≤ d → f 0 i ≤ 3
theorem fPo.u {f : Int → Int → Int} (h : fPo f) {d v : Int} (hv : 0 ≤ v ∧ v ≤ 4) : fPo (uf f 0 d v) := by
  intro i a b
  simp only [uf, true_and]
  split
  · exact hv
  · exact h i a b
theorem uf_s {f : Int → Int → Int} {d v : Int} : uf f 0 d v 0 d = v := by simp [uf]
theorem uf_o {f : Int → Int → Int} {d e v : Int} (h : e ≠ d) : uf f 0 d v 0 e = f 0 e := by simp [uf, h]
theorem nrun_un {μ : MU} {w : Mm} (hN : NF w) : ∀ (d : Nat) (f : Int → Int → Int), (d : Int) ≤ 8 → fPo f → fPd d f → ∃ k g, k ≤ 4 * d + 1 ∧ m_nrun μ k d (ux f w) = some (1, ux g w) ∧ fPo g
  | 0, f, _, hf, _ => ⟨1, f, by omega, nrun_0 (by omega), hf⟩
  | d + 1, f, hd, hf, hp => by
    have step : ∀ (m : Nat) (f : Int → Int → Int), fPo f → fPd ((d + 1 : Nat) : Int) f → 3 - f 0 ((d + 1 : Nat) : Int) = m → ∃ k g, k ≤ 4 * d + 1 + m + 1 ∧ m_nrun μ k ((d + 1 : Nat) : Int) (ux f w) = some (1, ux g w) ∧ fPo g := by
      intro m
      induction m with
      | zero =>
        intro f hf hp hm
        have h4 := hf ((d + 1 : Nat) : Int) (by omega) (by omega)
        obtain ⟨k, g, hk, hg, ho⟩ := nrun_un (μ := μ) hN d (uf f 0 ((d + 1 : Nat) : Int) (f 0 ((d + 1 : Nat) : Int) + 1)) (by omega) (hf.u (by omega)) (fun i a b => by rw [uf_o (by omega)]; exact hp i a (by omega))
        refine ⟨k + 1, g, by omega, ?_, ho⟩
        rw [nrun_s (by omega), if_neg (by omega), show ((d + 1 : Nat) : Int) - 1 = (d : Int) by omega]
        exact hg
      | succ m ih =>
        intro f hf hp hm
        have h4 := hf ((d + 1 : Nat) : Int) (by omega) (by omega)
        by_cases c1 : m_ord (f 0 ((d + 1 : Nat) : Int)) w = -1
        · obtain ⟨k, g, hk, hg, ho⟩ := nrun_un (μ := μ) hN d (uf f 0 ((d + 1 : Nat) : Int) (f 0 ((d + 1 : Nat) : Int) + 1)) (by omega) (hf.u (by omega)) (fun i a b => by rw [uf_o (by omega)]; exact hp i a (by omega))
          refine ⟨k + 1, g, by omega, ?_, ho⟩
          rw [nrun_s (by omega), if_neg (by omega), show ((d + 1 : Nat) : Int) - 1 = (d : Int) by omega]
          exact hg
        · obtain ⟨k, g, hk, hg, ho⟩ := ih (uf f 0 ((d + 1 : Nat) : Int) (f 0 ((d + 1 : Nat) : Int) + 1)) (hf.u (by omega)) (fun i a b => by
            by_cases c : i = ((d + 1 : Nat) : Int)
            · subst c; rw [uf_s]; omega
            · rw [uf_o c]; exact hp i a b) (by rw [uf_s]; omega)
          refine ⟨k + 1, g, by omega, ?_, ho⟩
          rw [nrun_s (by omega), if_pos ⟨by omega, c1⟩, if_neg (by rw [hN _ (by omega) (by omega) c1]; decide)]
          exact hg
    have h4 := hf ((d + 1 : Nat) : Int) (by omega) (by omega)
    have h3 := hp ((d + 1 : Nat) : Int) (by omega) (Int.le_refl _)
    obtain ⟨k, g, hk, hg, ho⟩ := step (3 - f 0 ((d + 1 : Nat) : Int)).toNat f hf hp (by omega)
    exact ⟨k, g, by omega, hg, ho⟩
/-- what notifies comes to: 1 and the world when no listener finds any more, or 0 and the chain -/
def m_nice (μ : MU) : Nat → Int → Mm → Int × Mm
  | 0, _, w => (1, w)
  | n + 1, d, w => if m_ff w = -1 then (1, w) else if d = 8 then (0, fl (up w 233 0 d (m_ff w)) 232 0 8 (fun k => up w 233 0 d (m_ff w) 233 0 (k + 1))) else m_nice μ n (d + 1) (m_rep μ (m_pof (w 229 0 (m_ff w)) w) (w 230 0 (m_ff w)) (up w 233 0 d (m_ff w)))
theorem ff_none {w : Mm} (h : m_ff w = -1) : NF w := by
  intro p h0 h3 h1
  unfold m_ff at h
  rw [ffb_eq] at h
  have r0 := ord_rng 0 w
  have r1 := ord_rng 1 w
  have r2 := ord_rng 2 w
  have hp : p = 0 ∨ p = 1 ∨ p = 2 := by omega
  cases hF : m_fd w (m_ord p w) with
  | false => rfl
  | true =>
    exfalso
    rcases hp with rfl | rfl | rfl
    · rw [if_pos ⟨h1, hF⟩] at h; exact h1 h
    · split at h
      · next c => exact c.1 h
      · rw [if_pos ⟨h1, hF⟩] at h; exact h1 h
    · split at h
      · next c => exact c.1 h
      · split at h
        · next c => exact c.1 h
        · rw [if_pos ⟨h1, hF⟩] at h; exact h1 h
theorem ff_some {w : Mm} (h : m_ff w ≠ -1) : ∃ p, (0 ≤ p ∧ p < 3) ∧ m_ord p w = m_ff w ∧ m_fd w (m_ff w) = true ∧ ∀ q, 0 ≤ q → q < p → m_ord q w ≠ -1 ∧ m_fd w (m_ord q w) = false := by
  have r0 := ord_rng 0 w
  have p0 : m_ord 0 w = -1 → m_ord 1 w = -1 := fun e => ord_pre (by decide) e
  have p1 : m_ord 1 w = -1 → m_ord 2 w = -1 := fun e => ord_pre (by decide) e
  unfold m_ff at h ⊢
  rw [ffb_eq] at h ⊢
  by_cases c0 : m_ord 0 w ≠ -1 ∧ m_fd w (m_ord 0 w) = true
  · rw [if_pos c0]
    exact ⟨0, by omega, rfl, c0.2, fun q a b => by omega⟩
  · rw [if_neg c0] at h ⊢
    by_cases c1 : m_ord 1 w ≠ -1 ∧ m_fd w (m_ord 1 w) = true
    · rw [if_pos c1]
      refine ⟨1, by omega, rfl, c1.2, fun q a b => ?_⟩
      have e : q = 0 := by omega
      subst e
      have n0 : m_ord 0 w ≠ -1 := fun e => c1.1 (p0 e)
      refine ⟨n0, ?_⟩
      cases hF : m_fd w (m_ord 0 w) with
      | false => rfl
      | true => exact absurd ⟨n0, hF⟩ c0
    · rw [if_neg c1] at h ⊢
      by_cases c2 : m_ord 2 w ≠ -1 ∧ m_fd w (m_ord 2 w) = true
      · rw [if_pos c2]
        have n1 : m_ord 1 w ≠ -1 := fun e => c2.1 (p1 e)
        have n0 : m_ord 0 w ≠ -1 := fun e => n1 (p0 e)
        refine ⟨2, by omega, rfl, c2.2, fun q a b => ?_⟩
        have e : q = 0 ∨ q = 1 := by omega
        rcases e with rfl | rfl
        · refine ⟨n0, ?_⟩
          cases hF : m_fd w (m_ord 0 w) with
          | false => rfl
          | true => exact absurd ⟨n0, hF⟩ c0
        · refine ⟨n1, ?_⟩
          cases hF : m_fd w (m_ord 1 w) with
          | false => rfl
          | true => exact absurd ⟨n1, hF⟩ c1
      · rw [if_neg c2] at h; exact absurd rfl h
/-- the listeners ahead of the first that finds are gone through -/
theorem nrun_sc {μ : MU} {w : Mm} {d : Int} (hd : 1 ≤ d ∧ d ≤ 8) : ∀ (m : Nat) (f : Int → Int → Int), fPo f → 0 ≤ f 0 d → f 0 d + m ≤ 3 → (∀ q, f 0 d ≤ q → q < f 0 d + m → m_ord q w ≠ -1 ∧ m_fd w (m_ord q w) = false) → ∃ g, (∀ n, m_nrun μ (n + m) d (ux f w) = m_nrun μ n d (ux g w)) ∧ fPo g ∧ g 0 d = f 0 d + m ∧ ∀ i, i ≠ d → g 0 i = f 0 i
  | 0, f, hf, _, _, _ => ⟨f, fun _ => rfl, hf, by omega, fun _ _ => rfl⟩
  | m + 1, f, hf, h0, h3, hq => by
    obtain ⟨g, h1, h2, h4, h5⟩ := nrun_sc (μ := μ) (w := w) hd m (uf f 0 d (f 0 d + 1)) (hf.u (by omega)) (by rw [uf_s]; omega) (by rw [uf_s]; omega) (by rw [uf_s]; exact fun q a b => hq q (by omega) (by omega))
    refine ⟨g, fun n => ?_, h2, by rw [h4, uf_s]; omega, fun i hi => by rw [h5 i hi, uf_o hi]⟩
    have h6 := hq (f 0 d) (by omega) (by omega)
    rw [show n + (m + 1) = (n + m) + 1 by omega, nrun_s (by omega), if_pos ⟨by omega, h6.1⟩, if_neg (by rw [h6.2]; decide)]
    exact h1 n
theorem nrun_dn {μ : MU} : ∀ (j : Nat) (d : Int) (f : Int → Int → Int) (w : Mm), d + j = 9 → 1 ≤ d → 1 ≤ j → fPo f → fPd d f → f 0 d = 0 → ∃ k g, k ≤ 4 * j + 33 ∧ m_nrun μ k d (ux f w) = some ((m_nice μ j d w).1, ux g (m_nice μ j d w).2) ∧ fPo g
  | 0, _, _, _, _, _, h, _, _, _ => by omega
  | j + 1, d, f, w, hj, hd, _, hf, hp, h0 => by
    unfold m_nice
    by_cases c : m_ff w = -1
    · rw [if_pos c]
      obtain ⟨k, g, h1, h2, h3⟩ := nrun_un (μ := μ) (ff_none c) d.toNat f (by omega) hf (by rw [show ((d.toNat : Nat) : Int) = d by omega]; exact hp)
      rw [show ((d.toNat : Nat) : Int) = d by omega] at h2
      exact ⟨k, g, by omega, h2, h3⟩
    · rw [if_neg c]
      obtain ⟨p, p1, p2, p3, p4⟩ := ff_some c
      obtain ⟨g, g1, g2, g3, g4⟩ := nrun_sc (μ := μ) (w := w) (d := d) (by omega) p.toNat f hf (by omega) (by omega) (fun q a b => p4 q (by omega) (by omega))
      have e : g 0 d = p := by omega
      by_cases c8 : d = 8
      · rw [if_pos c8]
        refine ⟨1 + p.toNat, uf g 0 d (g 0 d + 1), by omega, ?_, g2.u (by omega)⟩
        rw [g1 1, nrun_s (by omega), e, if_pos ⟨by omega, by rw [p2]; exact c⟩, p2, if_pos p3, if_pos c8]
      · rw [if_neg c8]
        obtain ⟨k, g', k1, k2, k3⟩ := nrun_dn (μ := μ) j (d + 1) (uf (uf g 0 d (g 0 d + 1)) 0 (d + 1) 0) (m_rep μ (m_pof (w 229 0 (m_ff w)) w) (w 230 0 (m_ff w)) (up w 233 0 d (m_ff w))) (by omega) (by omega) (by omega) ((g2.u (by omega)).u (by decide)) (fun i a b => by
          by_cases ci : i = d + 1
          · subst ci; rw [uf_s]; decide
          · rw [uf_o ci]
            by_cases cd : i = d
            · subst cd; rw [uf_s]; omega
            · rw [uf_o cd, g4 i cd]; exact hp i a (by omega)) (by rw [uf_s])
        refine ⟨k + 1 + p.toNat, g', by omega, ?_, k3⟩
        rw [g1 (k + 1), nrun_s (by omega), e, if_pos ⟨by omega, by rw [p2]; exact c⟩, p2, if_pos p3, if_neg c8]
        rw [e] at k2
        exact k2
def m_ntf (μ : MU) (w : Mm) : Int × Mm := (m_nrun μ 100 1 (up w 234 0 1 0)).getD (1, w)
theorem ntf_ok {μ : MU} {w : Mm} (h : bPo w) : ∃ g, m_nrun μ 100 1 (up w 234 0 1 0) = some (m_ntf μ w) ∧ m_ntf μ w = ((m_nice μ 8 1 w).1, ux g (m_nice μ 8 1 w).2) ∧ fPo g := by
  have e : up w 234 0 1 0 = ux (uf (w 234) 0 1 0) w := by
    have := ux_up (f := w 234) (w := w) (a := 0) (i := 1) (v := 0)
    rw [ux_self] at this; exact this
  obtain ⟨k, g, h1, h2, h3⟩ := nrun_dn (μ := μ) 8 1 (uf (w 234) 0 1 0) w (by decide) (by decide) (by decide) (fPo.u h (by decide)) (fun i a b => by
    have : i = 1 := by omega
    subst this; rw [uf_s]; decide) uf_s
  have h4 := nrun_le h2 (show k ≤ 100 by omega)
  refine ⟨g, ?_, ?_, h3⟩
  · unfold m_ntf; rw [e, h4]; rfl
  · unfold m_ntf; rw [e, h4]; rfl
