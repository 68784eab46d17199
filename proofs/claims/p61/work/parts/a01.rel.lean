/-! characters come into the live desk -/
section PUT
variable {c : Int → Int} {S : Int → Nat → Prop} {w A : Mm} {d p b x n g lo j0 t : Int} {μ : MU} {L : List Int}
/-- the last step of the live desk may be linked on -/
def lsOk (c : Int → Int) (lo : Int) (w : Mm) (t : Int) : Prop := w 35 t 0 = 0 ∨ c (w 35 t 0) ≤ -(lo + 1)
theorem tptj_u {s : Int} (hs : sSt c 11 w s) : UPd c (SDb 10 lo) w (t_ptj s p b w 6) := by
  obtain ⟨⟨a1, a2⟩, ⟨b1, b2⟩, ⟨c1, c2, c3⟩, ⟨d1, d2, d3⟩, e1, e2, e3⟩ := hs
  unfold t_ptj t_pt1 cpA
  refine UPd.sF (UPd.sU (UPd.sF (UPd.sF UPd.refl (by decide) (Or.inr ?_)) (by decide) (Or.inr ?_)) (by decide) (Or.inr ?_)) (by decide) (Or.inr ?_)
  · rw [b2]; unfold SDb; omega
  · rw [b2]; unfold SDb; omega
  · rw [a2]; unfold SDb; omega
  · rw [c3]; unfold SDb; omega
theorem ttoj_u {s : Int} (hs : sSt c 11 w s) : UPd c (SDb 10 lo) w (t_toj s p n w 6) := by
  obtain ⟨⟨a1, a2⟩, ⟨b1, b2⟩, ⟨c1, c2, c3⟩, ⟨d1, d2, d3⟩, e1, e2, e3⟩ := hs
  unfold t_toj t_to1 cpA
  refine UPd.sF (UPd.sU (UPd.sF UPd.refl (by decide) (Or.inr ?_)) (by decide) (Or.inr ?_)) (by decide) (Or.inr ?_)
  · rw [b2]; unfold SDb; omega
  · rw [a2]; unfold SDb; omega
  · rw [c3]; unfold SDb; omega
theorem stp_u {k q v : Int} {W : Mm} (hs : sDk c 10 w d) (hl : lsOk c lo w (w 12 d 0)) (hx : 0 < x ∧ w 0 x 0 = 0) (u : UPd c (SDb 10 lo) w W) (e : W 35 (w 12 d 0) 0 = w 35 (w 12 d 0) 0) : UPd c (SDb 10 lo) w (k_step (w 12 d 0) x k q v g W) := by
  have h12 := hs.2.2.2.1
  refine u.sK hx ?_ (fun e => by have := h12.1; rw [e] at this; omega) ?_
  · rw [h12.2]; unfold SDb; omega
  · rw [e]
    rcases hl with hl | hl
    · exact Or.inl hl
    · exact Or.inr (Or.inr (Or.inr (Or.inl ⟨hl, rfl⟩)))
theorem put_u (hs : sDk c 10 w d) (hl : lsOk c lo w (w 12 d 0)) (hx : 0 < x ∧ w 0 x 0 = 0) : UPd c (SDb 10 lo) w (d_pj d p b x w j0) := by
  have u := stp_u (k := 1) (q := p) (v := w 2 b 0) (g := 0) hs hl hx (tptj_u (p := p) (b := b) hs.2.1) (t_ptj_k (by decide) (by decide))
  unfold d_pj
  refine UPd.sF (UPd.sF (UPd.sU u (by decide) (Or.inr ?_)) (by decide) (Or.inr ?_)) (by decide) (Or.inr ?_)
  · rw [hs.1.2]; unfold SDb; omega
  · rw [hs.2.2.2.2.1.2.2]; unfold SDb; omega
  · rw [hs.2.2.2.2.2.2.2]; unfold SDb; omega
theorem take_u (hs : sDk c 10 w d) (hl : lsOk c lo w (w 12 d 0)) (hx : 0 < x ∧ w 0 x 0 = 0) : UPd c (SDb 10 lo) w (d_tj d p n g x w j0) := by
  have u := stp_u (k := 2) (q := p) (v := n) (g := g) hs hl hx (ttoj_u (p := p) (n := n) hs.2.1) (t_toj_k (by decide) (by decide))
  unfold d_tj
  refine UPd.sF (UPd.sF (UPd.sU u (by decide) (Or.inr ?_)) (by decide) (Or.inr ?_)) (by decide) (Or.inr ?_)
  · rw [hs.1.2]; unfold SDb; omega
  · rw [hs.2.2.2.2.1.2.2]; unfold SDb; omega
  · rw [hs.2.2.2.2.2.2.2]; unfold SDb; omega
theorem put_Q (hs : sDk c 10 w d) (hQ : vQs w (w 12 d 0) L) (hx : 0 < x ∧ w 0 x 0 = 0) : vQs (d_pj d p b x w j0) (w 12 d 0) (L ++ [x]) := by
  have h1 : vQs (t_ptj (w 11 d 0) p b w 6) (w 12 d 0) L := hQ.cg (t_ptj_k (by decide) (by decide)) (t_ptj_k (by decide) (by decide)) (t_ptj_k (by decide) (by decide)) (t_ptj_k (by decide) (by decide)) (fun _ _ => ⟨t_ptj_k (by decide) (by decide), t_ptj_k (by decide) (by decide)⟩) (fun _ _ => t_ptj_k (by decide) (by decide))
  have h2 := k_step_Q (x := x) (k := 1) (p := p) (n := w 2 b 0) (g := 0) h1 (by rw [t_ptj_k (by decide) (by decide)]; exact hs.2.2.2.1.1) hx.1 (by rw [t_ptj_k (by decide) (by decide)]; exact hx.2)
  have e : ∀ (k : Nat) (a : Int), k ≠ 1 → k ≠ 61 → d_pj d p b x w j0 k a 0 = k_step (w 12 d 0) x 1 p (w 2 b 0) 0 (t_ptj (w 11 d 0) p b w 6) k a 0 := fun k a h1 h2 => by
    unfold d_pj; rw [flA_k h1, flA_k h1, up_k _ h2]
  exact h2.cg (e _ _ (by decide) (by decide)) (e _ _ (by decide) (by decide)) (e _ _ (by decide) (by decide)) (e _ _ (by decide) (by decide)) (fun _ _ => ⟨e _ _ (by decide) (by decide), e _ _ (by decide) (by decide)⟩) (fun _ _ => e _ _ (by decide) (by decide))
theorem take_Q (hs : sDk c 10 w d) (hQ : vQs w (w 12 d 0) L) (hx : 0 < x ∧ w 0 x 0 = 0) : vQs (d_tj d p n g x w j0) (w 12 d 0) (L ++ [x]) := by
  have h1 : vQs (t_toj (w 11 d 0) p n w 6) (w 12 d 0) L := hQ.cg (t_toj_k (by decide) (by decide)) (t_toj_k (by decide) (by decide)) (t_toj_k (by decide) (by decide)) (t_toj_k (by decide) (by decide)) (fun _ _ => ⟨t_toj_k (by decide) (by decide), t_toj_k (by decide) (by decide)⟩) (fun _ _ => t_toj_k (by decide) (by decide))
  have h2 := k_step_Q (x := x) (k := 2) (p := p) (n := n) (g := g) h1 (by rw [t_toj_k (by decide) (by decide)]; exact hs.2.2.2.1.1) hx.1 (by rw [t_toj_k (by decide) (by decide)]; exact hx.2)
  have e : ∀ (k : Nat) (a : Int), k ≠ 1 → k ≠ 61 → d_tj d p n g x w j0 k a 0 = k_step (w 12 d 0) x 2 p n g (t_toj (w 11 d 0) p n w 6) k a 0 := fun k a h1 h2 => by
    unfold d_tj; rw [flA_k h1, flA_k h1, up_k _ h2]
  exact h2.cg (e _ _ (by decide) (by decide)) (e _ _ (by decide) (by decide)) (e _ _ (by decide) (by decide)) (e _ _ (by decide) (by decide)) (fun _ _ => ⟨e _ _ (by decide) (by decide), e _ _ (by decide) (by decide)⟩) (fun _ _ => e _ _ (by decide) (by decide))
theorem put_X : d_pj d p b x w j0 0 x 0 = 7 ∧ d_pj d p b x w j0 68 x 0 = 1 ∧ d_pj d p b x w j0 69 x 0 = p ∧ d_pj d p b x w j0 70 x 0 = w 2 b 0 := by
  obtain ⟨h1, h2, h3, h4, -⟩ := k_step_v (t := w 12 d 0) (x := x) (k := 1) (p := p) (n := w 2 b 0) (g := 0) (w := t_ptj (w 11 d 0) p b w 6)
  have e : ∀ (k : Nat) (a : Int), k ≠ 1 → k ≠ 61 → d_pj d p b x w j0 k a 0 = k_step (w 12 d 0) x 1 p (w 2 b 0) 0 (t_ptj (w 11 d 0) p b w 6) k a 0 := fun k a h1 h2 => by
    unfold d_pj; rw [flA_k h1, flA_k h1, up_k _ h2]
  rw [e _ _ (by decide) (by decide), e _ _ (by decide) (by decide), e _ _ (by decide) (by decide), e _ _ (by decide) (by decide)]
  exact ⟨h1, h2, h3, h4⟩
theorem take_X : d_tj d p n g x w j0 0 x 0 = 7 ∧ d_tj d p n g x w j0 68 x 0 = 2 ∧ d_tj d p n g x w j0 69 x 0 = p ∧ d_tj d p n g x w j0 70 x 0 = n ∧ d_tj d p n g x w j0 32 x 0 = g := by
  obtain ⟨h1, h2, h3, h4, h5⟩ := k_step_v (t := w 12 d 0) (x := x) (k := 2) (p := p) (n := n) (g := g) (w := t_toj (w 11 d 0) p n w 6)
  have e : ∀ (k : Nat) (a : Int), k ≠ 1 → k ≠ 61 → d_tj d p n g x w j0 k a 0 = k_step (w 12 d 0) x 2 p n g (t_toj (w 11 d 0) p n w 6) k a 0 := fun k a h1 h2 => by
    unfold d_tj; rw [flA_k h1, flA_k h1, up_k _ h2]
  rw [e _ _ (by decide) (by decide), e _ _ (by decide) (by decide), e _ _ (by decide) (by decide), e _ _ (by decide) (by decide), e _ _ (by decide) (by decide)]
  exact ⟨h1, h2, h3, h4, h5⟩
/-- the stores of a desk whose text alone changes -/
theorem sto_fr {W A' : Mm} {s : Int} (hv : ∀ r, 0 ≤ r → r < 5 → vSr c w s A 0 r) (u : UPd c (SDb 10 lo) w W) (e31 : W 31 s 0 = w 31 s 0) (e3 : ∀ i, W 3 (w 31 s 0) i = w 3 (w 31 s 0) i) (hA : ∀ (k : Nat) (i : Int), 204 ≤ k → k ≤ 206 → A' k 0 i = A k 0 i) (hlo : 0 ≤ lo) : ∀ r, 0 ≤ r → r < 5 → vSr c W s A' 0 r := fun r r0 r1 => by
  obtain ⟨h1, h2⟩ := hv r r0 r1
  unfold vSr
  rw [hA 204 _ (by decide) (by decide), e31]
  refine ⟨h1, fun e x0 x1 => ⟨fun y => ?_, fun y => (e3 _).trans ((h2 e x0 x1).2 y)⟩⟩
  rw [e3, hA 205 _ (by decide) (by decide)]
  have := ((h2 e x0 x1).1 y).fr u CXt.refl (fun k z => by unfold SDb at z; omega)
  simpa only [hA 206 _ (by decide) (by decide)] using this
theorem mvF_m1 {q k r : Int} (hq : 0 ≤ q) : mvF (-1) q k r = -1 := by unfold mvF; rw [if_neg (by omega)]
theorem mvF_g {m q k r r' : Int} (h : r = 0 ↔ r' = 0) : mvF m q k r = mvF m q k r' := by unfold mvF; congr 1; simp only [ne_eq, h]
theorem put_S (hs : sDk c 10 w d) (hl : lsOk c lo w (w 12 d 0)) (hlo : 0 ≤ lo) (hv : vSt c w (w 11 d 0) A 0) (hm : bMl 0 A) (hb0 : w 0 b 0 = 20 ∧ c b = 0) (hn : w 2 b 0 = n ∧ 0 ≤ n) (hp : 0 ≤ p ∧ p ≤ w 67 (w 11 d 0) 0) (hfit : w 67 (w 11 d 0) 0 + n ≤ 400) (hx : 0 < x ∧ w 0 x 0 = 0) (hbuf : ∀ j, 0 ≤ j → j < n → w 1 b j = A 240 0 j) : vSt c (d_pj d p b x w j0) (w 11 d 0) (m_ins μ p n A) 0 := by
  have hD := hs.ap
  obtain ⟨hd0, ⟨⟨a1, a2⟩, ⟨b1, b2⟩, ⟨c1, c2, c3⟩, ⟨d1, d2, d3⟩, e1, e2, e3⟩, hT, -⟩ := id hs
  have nx : ∀ {a t : Int}, w 0 a 0 = t → t ≠ 0 → a ≠ x := fun h1 h2 e => h2 (by rw [← h1, e]; exact hx.2)
  have hbT : b ≠ w 28 (w 11 d 0) 0 := fun e => by have := hb0.2; rw [e] at this; omega
  obtain ⟨⟨v1, v2, v3, v4⟩, v5⟩ := hv
  have f28 : d_pj d p b x w j0 28 (w 11 d 0) 0 = w 28 (w 11 d 0) 0 := pj_c (nx a1 (by decide)) (by decide)
  have f29 : d_pj d p b x w j0 29 (w 11 d 0) 0 = w 29 (w 11 d 0) 0 := pj_c (nx a1 (by decide)) (by decide)
  have f30 : d_pj d p b x w j0 30 (w 11 d 0) 0 = w 30 (w 11 d 0) 0 := pj_c (nx a1 (by decide)) (by decide)
  have f31 : d_pj d p b x w j0 31 (w 11 d 0) 0 = w 31 (w 11 d 0) 0 := pj_c (nx a1 (by decide)) (by decide)
  have f67 : d_pj d p b x w j0 67 (w 11 d 0) 0 = w 67 (w 11 d 0) 0 + n := by rw [d_pj_67 (nx a1 (by decide)), hn.1]
  have f2 : d_pj d p b x w j0 2 (w 28 (w 11 d 0) 0) 0 = 400 := by rw [pj_c (nx b1 (by decide)) (by decide)]; exact hT
  refine ⟨⟨?_, ?_, fun j q0 q1 => ?_, fun j q0 q1 => ?_⟩, ?_⟩
  · rw [f67, ins_201, v1]
  · rw [f28, f67, f2]; omega
  · rw [f67] at q1
    rw [f28, pj_T hD (nx b1 (by decide)) hbT, hn.1, show (400 : Int) * 0 + j = j by omega, ins_200, opn_200, show (400 : Int) * 0 + p + n = p + n by omega]
    by_cases y1 : p ≤ j ∧ j < p + n
    · rw [if_pos y1, if_pos y1]; exact hbuf _ (by omega) (by omega)
    · rw [if_neg y1, if_neg y1, v1]
      by_cases y2 : p + n ≤ j ∧ j < p + n + (A 201 0 0 - p)
      · rw [if_pos y2, if_pos y2, v3 _ (by omega) (by omega), show (400 : Int) * 0 + (j - n) = j - n by omega]
      · rw [if_neg y2, if_neg y2, v3 _ (by omega) (by omega), show (400 : Int) * 0 + j = j by omega]
  · rw [f29, f30, pj_P hD (nx c1 (by decide)) ⟨q0, q1⟩, pj_R hD (nx d1 (by decide)), hn.1, show (6 : Int) * 0 + j = j by omega, ins_o (by decide), ins_o (by decide), opn_202, opens_at (by decide), if_pos (by omega)]
    obtain ⟨m1, m2, m3⟩ := v4 j q0 q1
    rw [show (6 : Int) * 0 + j = j by omega] at m1 m2
    have m4 := (hm j (by omega) (by omega)).2
    by_cases y : w 1 (w 29 (w 11 d 0) 0) j = -1
    · rw [← m1, if_pos y, y, mvF_m1 hp.1]
      exact ⟨rfl, fun h => absurd rfl h, m3⟩
    · rw [← m1, if_neg y]
      refine ⟨mvF_g ?_, fun _ => m2 y, m3⟩
      rw [m2 y]
      rcases m4 with m4 | m4
      · rw [m4]; decide
      · rw [m4]; decide
  · exact sto_fr v5 (put_u hs hl hx) f31 (fun i => pj_c (nx e1 (by decide)) (by decide)) (fun k i k0 k1 => by rw [ins_o (by omega), opens_at (by omega)]) hlo
end PUT
