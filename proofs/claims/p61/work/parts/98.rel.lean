/-! what a desk's own changes touch; a step is appended to the live desk -/
def SDb (b0 lo : Int) (b : Int) (k : Nat) : Prop :=
  ((b = b0 ∧ (k = 60 ∨ k = 61)) ∨ (b = b0 + 1 ∧ k = 67) ∨ ((b = b0 + 2 ∨ b = b0 + 3 ∨ b = b0 + 4 ∨ b = b0 + 7 ∨ b = b0 + 8) ∧ k = 1) ∨ (b = b0 + 5 ∧ k = 3) ∨ (b = b0 + 6 ∧ (k = 34 ∨ k = 35 ∨ k = 71 ∨ k = 72))) ∨ (b ≤ -(lo + 1) ∧ k = 33) ∨ (b = 1 ∧ k = 91)
theorem SDb.std {b0 lo : Int} (h : b0 = 10 ∨ b0 = 20 ∨ b0 = 30) : ∀ b k, SDb b0 lo b k → STd lo b k := fun b k x => by unfold SDb at x; unfold STd; omega
theorem SDb.other {b0 lo b : Int} {k : Nat} (hlo : 0 ≤ lo) (h : b < b0 ∨ b0 + 8 < b) (h1 : 2 ≤ b) : ¬ SDb b0 lo b k := fun x => by unfold SDb at x; omega
def cset (c : Int → Int) (x v : Int) : Int → Int := fun a => if a = x then v else c a
theorem cset_s {c : Int → Int} {x v : Int} : cset c x v x = v := by unfold cset; rw [if_pos rfl]
theorem cset_o {c : Int → Int} {x v a : Int} (h : a ≠ x) : cset c x v a = c a := by unfold cset; rw [if_neg h]
theorem cset_new {c : Int → Int} {w : Mm} {x v : Int} (h : w 0 x 0 = 0) : CXt w c (cset c x v) := fun a ha => cset_o (fun e => ha (by rw [e]; exact h))
/-- codes of all but steps stay -/
def CNs (w : Mm) (c c' : Int → Int) : Prop := ∀ a, w 0 a 0 ≠ 0 → w 0 a 0 ≠ 7 → c' a = c a
theorem cset_cn {c : Int → Int} {w : Mm} {x v : Int} (h : w 0 x 0 = 7) : CNs w c (cset c x v) := fun a _ h2 => cset_o (fun e => h2 (by rw [e]; exact h))
section CNS
variable {c c' σ : Int → Int} {w V : Mm} {g n b s i r d : Int} {h1 : Int → Int}
theorem vCh.cn {f : Int → Int} (h : vCh c w g n f) (k : CNs w c c') : vCh c' w g n f := by
  obtain ⟨⟨a1, a2⟩, ⟨b1, b2⟩, h3, h4⟩ := h
  exact ⟨⟨a1, (k _ (by omega) (by omega)).trans a2⟩, ⟨b1, (k _ (by omega) (by omega)).trans b2⟩, h3, h4⟩
theorem sSt.cn (h : sSt c b w s) (k : CNs w c c') : sSt c' b w s := by
  obtain ⟨⟨a1, a2⟩, ⟨b1, b2⟩, ⟨c1, c2, c3⟩, ⟨d1, d2, d3⟩, e1, e2, e3⟩ := h
  exact ⟨⟨a1, (k _ (by omega) (by omega)).trans a2⟩, ⟨b1, (k _ (by omega) (by omega)).trans b2⟩, ⟨c1, c2, (k _ (by omega) (by omega)).trans c3⟩, ⟨d1, d2, (k _ (by omega) (by omega)).trans d3⟩, e1, e2, (k _ (by omega) (by omega)).trans e3⟩
theorem vSt.cn (h : vSt c w s V i) (k : CNs w c c') : vSt c' w s V i := ⟨h.1, fun r r0 r1 => ⟨(h.2 r r0 r1).1, fun e e0 e1 => ⟨fun y => (((h.2 r r0 r1).2 e e0 e1).1 y).cn k, ((h.2 r r0 r1).2 e e0 e1).2⟩⟩⟩
theorem vDk.cn (h : vDk c w d V i) (k : CNs w c c') : vDk c' w d V i := ⟨h.1.cn k, h.2⟩
theorem sDk.cn (h : sDk c b w d) (k : CNs w c c') : sDk c' b w d := by
  obtain ⟨⟨a1, a2⟩, hS, h2, ⟨b1, b2⟩, ⟨c1, c2, c3⟩, d1, d2, d3⟩ := h
  exact ⟨⟨a1, (k _ (by omega) (by omega)).trans a2⟩, hS.cn k, h2, ⟨b1, (k _ (by omega) (by omega)).trans b2⟩, ⟨c1, c2, (k _ (by omega) (by omega)).trans c3⟩, d1, d2, (k _ (by omega) (by omega)).trans d3⟩
end CNS
/-- codes, steps and what they took away are others -/
def pU (p : RP) (c σ : Int → Int) (G : Int → Int → Int) : RP := (c, σ, pn_ p, pa_ p, pr_ p, G, pl_ p)
/-- one step x is appended: it is step A 120, and what it took away is as P says -/
def RS1 (p : RP) (μ : MU) (f : Int) (L : List Int) (x : Int) (w A w' A' : Mm) (P : (Int → Int) → Prop) : Prop :=
  ∃ c σ G, RLm (pU p c σ G) μ f (L ++ [x]) w' A' ∧ (∀ k, k ≠ A 120 μ.1 0 → σ k = ps_ p k ∧ G k = pg_ p k) ∧ σ (A 120 μ.1 0) = x ∧ P (G (A 120 μ.1 0)) ∧ (UPd (pc_ p) (SDb 10 (A 122 μ.1 0)) w w' ∧ CXt w (pc_ p) c)
section ROT
variable {p : RP} {S : Int → Nat → Prop} {w w' A A' : Mm} {μ : MU} {f lo b0 x : Int} {c c' σ' : Int → Int} {G' : Int → Int → Int} {L : List Int}
theorem rOt.fr (h : rOt p μ w A f) (u : UPd (pc_ p) S w w') (hc : CXt w (pc_ p) c') (hS : ∀ b k, S b k → STd (A 122 μ.1 0) b k) (hlo : 0 ≤ A 122 μ.1 0) (hA : AgO μ A A') (hs0 : rSp p μ w A) (hl : A 122 μ.1 0 ≤ A 120 μ.1 0) (hσ : ∀ i, 0 ≤ i → i < A 122 μ.1 0 → σ' i = ps_ p i) (c0 : ∀ a, w' 0 a 0 = 0 → c' a = 0) (hD : rDk c' w' f) : rOt (pU p c' σ' G') μ w' A' f := by
  obtain ⟨-, hSc, -, ⟨⟨t1, t2⟩, t3, t4⟩, hM, hTl, hTs⟩ := h
  have hf := hSc.1
  have e4 := hA.1 124 (by decide) (by decide) (by decide)
  have g45 : w' 45 f 0 = w 45 f 0 := ed_fr hf u hS hlo (by decide)
  have g47 : w' 47 f 0 = w 47 f 0 := ed_fr hf u hS hlo (by decide)
  refine ⟨c0, hSc.fr u hc hS hlo hA, hD, ⟨?_, t3.fr hA, fun k k0 k1 k2 => ?_⟩, hM.fr hf u hc hS hlo hA, (hTl.fr hf u hc hS hlo).1, ?_⟩
  · rw [g45]; exact ⟨(t1.fr u hc hS hlo).1, t2.fr t1 u hS hlo hA⟩
  · rw [hA.2 216 k (by omega)] at k2
    exact (t4 k k0 (by omega) k2).fr k0 u hc hS hlo hA (fun i i0 i1 => ⟨hσ i i0 i1, (hs0 i i0 (by omega)).1⟩)
  · rw [g47]; exact hTs.fr u hc hS hlo
theorem rDk.live (h : rDk c w f) (hf : w 0 f 0 = 13 ∧ c f = 1) (u : UPd c (SDb 10 lo) w w') (hc : CXt w c c') (hlo : 0 ≤ lo) (hb : bDk w' (w 41 f 0)) : rDk c' w' f := by
  obtain ⟨⟨a1, a2⟩, ⟨b1, b2⟩, c1, c2⟩ := h
  have g : ∀ {k : Nat}, k ≠ 91 → w' k f 0 = w k f 0 := fun hk => ed_fr hf u (SDb.std (Or.inl rfl)) hlo hk
  unfold rDk
  rw [g (by decide), g (by decide), g (by decide)]
  exact ⟨⟨(a1.fr u hc (fun k x y => ⟨fun z => by unfold SDb at z; omega, fun z => by unfold SDb at z; omega⟩)).1, hb⟩, ⟨(b1.fr u hc (fun k x y => ⟨SDb.other hlo (by omega) (by omega), SDb.other hlo (by omega) (by omega)⟩)).1, b2.fr b1 u (fun b' k x y _ => SDb.other hlo (by omega) (by omega))⟩, ⟨(c1.fr u hc (fun k x y => ⟨SDb.other hlo (by omega) (by omega), SDb.other hlo (by omega) (by omega)⟩)).1, c2.fr c1 u (fun b' k x y _ => SDb.other hlo (by omega) (by omega))⟩⟩
/-- a step is appended to the live desk -/
theorem RLm.step {wd g : Int} {gf : Int → Int} (h : RLm p μ f L w A) (hl : 0 ≤ A 122 μ.1 0 ∧ A 122 μ.1 0 ≤ A 120 μ.1 0) (u : UPd (pc_ p) (SDb 10 (A 122 μ.1 0)) w w') (hA : AgO μ A A') (hA2 : ∀ i, A' 232 0 i = A 232 0 i)
    (h120 : A' 120 μ.1 0 = A 120 μ.1 0 + 1) (h212 : ∀ k, 0 ≤ k → k < A 120 μ.1 0 → A' 212 0 k = A 212 0 k) (hw : A' 212 0 (A 120 μ.1 0) = wd) (hx : 0 < x ∧ w 0 x 0 = 0) (hx7 : w' 0 x 0 = 7)
    (s1 : w' 68 x 0 = kdC (wd % 8)) (s2 : wd % 8 ≤ 2 → w' 69 x 0 = wd / 8 % 512 ∧ w' 70 x 0 = wsz wd) (s3 : 2 < wd % 8 → w' 69 x 0 = 0 ∧ w' 70 x 0 = 0) (s4 : wd % 8 = 1 ∨ wd % 8 = 2 → vCh (pc_ p) w' (w' 32 x 0) (wsz wd) gf)
    (hQ : vQs w' (w 12 (w 41 f 0) 0) (L ++ [x])) (hV : vDk (pc_ p) w' (w 41 f 0) A' 0) (hB : bDk w' (w 41 f 0)) :
    RLm (pU p (cset (pc_ p) x (-(A 120 μ.1 0 + 1))) (cset (ps_ p) (A 120 μ.1 0) x) (fun k => if k = A 120 μ.1 0 then gf else pg_ p k)) μ f (L ++ [x]) w' A' := by
  obtain ⟨hO, hL, ⟨-, hQ0, hLc⟩, hSp⟩ := h
  have hf := hO.2.1.1
  have hc := cset_new (c := pc_ p) (v := -(A 120 μ.1 0 + 1)) hx.2
  have hcn := cset_cn (c := pc_ p) (v := -(A 120 μ.1 0 + 1)) hx7
  have hS := SDb.std (lo := A 122 μ.1 0) (b0 := 10) (Or.inl rfl)
  have g41 : w' 41 f 0 = w 41 f 0 := ed_fr hf u hS hl.1 (by decide)
  have g12 : w' 12 (w 41 f 0) 0 = w 12 (w 41 f 0) 0 := u.g (by have := hO.2.2.1.1.1.1.1; omega) hO.2.2.1.1.1.1.2 (fun z => by unfold SDb at z; omega)
  have g46 : w' 46 f 0 = w 46 f 0 := ed_fr hf u hS hl.1 (by decide)
  refine ⟨hO.fr u hc hS hl.1 hA hSp hl.2 (fun i i0 i1 => cset_o (by omega)) (fun a ha => ?_) (hO.2.2.1.live hf u hc hl.1 hB), ?_, ?_, fun k k0 k1 => ?_⟩
  · have h0 : w 0 a 0 = 0 := Classical.byContradiction fun hn => hn (by rw [← u.t hn (Or.inl rfl)]; exact ha)
    rw [cset_o (fun e => by rw [e] at ha; omega)]; exact hO.1 a h0
  · rw [g46]; exact hL.fr u hc hS (fun k z => by unfold SDb at z; omega) hl.1 hA hA2
  · unfold rLv
    rw [g41, g12]
    refine ⟨hV.cn hcn, hQ, fun y hy => ?_⟩
    rw [hA.1 122 (by decide) (by decide) (by decide)]
    rcases List.mem_append.mp hy with hy | hy
    · have h7 := hQ0.2.2.2.2 y hy
      exact Int.le_trans (Int.le_of_eq (cset_o (fun e => by rw [e] at h7; omega))) (hLc y hy)
    · rw [List.mem_singleton.mp hy]
      exact Int.le_trans (Int.le_of_eq cset_s) (by omega)
  · have hk : k < A 120 μ.1 0 + 1 := by omega
    by_cases e : k = A 120 μ.1 0
    · subst e
      show vSp (cset (pc_ p) x (-(A 120 μ.1 0 + 1))) (cset (ps_ p) (A 120 μ.1 0) x) (fun k => if k = A 120 μ.1 0 then gf else pg_ p k) w' A' _
      unfold vSp
      try dsimp only
      rw [cset_s, cset_s, if_pos rfl, hw]
      exact ⟨⟨hx7, rfl⟩, s1, s2, s3, fun y => (s4 y).cn hcn⟩
    · have hv := (hSp k k0 (by omega)).fr u hc (fun y hy z => by unfold SDb at z; omega) (fun y z => by unfold SDb at z; omega) (h212 k k0 (by omega))
      show vSp (cset (pc_ p) x (-(A 120 μ.1 0 + 1))) (cset (ps_ p) (A 120 μ.1 0) x) (fun k => if k = A 120 μ.1 0 then gf else pg_ p k) w' A' _
      unfold vSp at hv ⊢
      try dsimp only
      rw [cset_o e, if_neg e]; exact hv
end ROT
