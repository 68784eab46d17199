/-! desks that may take over; the relation as far as it is looked at -/
section DAO
variable {p : RP} {S : Int → Nat → Prop} {w w' Y W V V' A A' : Mm} {μ : MU} {f q d o b b' b0 a all lo i : Int} {c : Int → Int} {L L1 M : List Int}
theorem DA_of (hd : sDk c b w d) (hBd : bDk w d) (ho : sDk c b' w o) (hBo : bDk w o) (hbb : b + 8 < b' ∨ b' + 8 < b) (hv : vSt c w (w 11 o 0) V i) (hQ : vQc w (w 12 o 0) L) (hLn : (L.length : Int) ≤ 100000) : DA w d o := by
  have hTd := hd.toDTl hBd
  have hTo := ho.toDTl hBo
  have sd := hd.2.1.toST
  have so := ho.2.1.toST
  have hb := tcA_b (w := w) L
  obtain ⟨⟨a1, a2⟩, ⟨⟨s1, s2⟩, ⟨b1, b2⟩, ⟨c1, c2, c3⟩, ⟨d1, d2, d3⟩, e1, e2, e3⟩, h2, ⟨f1, f2⟩, ⟨g1, g2, g3⟩, h3, h4, h5⟩ := hd
  obtain ⟨⟨A1, A2⟩, ⟨⟨S1, S2⟩, ⟨B1, B2⟩, ⟨C1, C2, C3⟩, ⟨D1, D2, D3⟩, E1, E2, E3⟩, H2, ⟨F1, F2⟩, ⟨G1, G2, G3⟩, H3, H4, H5⟩ := ho
  refine ⟨hTd, hTo, ⟨sd, so⟩, ⟨ne_c a2 A2 (by omega), ⟨ne_c s2 S2 (by omega), ne_c b2 B2 (by omega), ne_c b2 C3 (by omega), ne_c c3 C3 (by omega), ne_c c3 B2 (by omega), ne_c d3 D3 (by omega), ne_c e3 E3 (by omega)⟩, ⟨ne_c g3 h5 (by omega), ne_c g3 G3 (by omega), ne_c g3 H5 (by omega), ne_c h5 G3 (by omega), ne_c h5 H5 (by omega)⟩, ne_c f2 F2 (by omega)⟩, hv.1.toSZ, by rw [h2]; omega, hv.1.toSB, hv.toSE, f1, ⟨F1, ?_, by rw [hQ.2.1]; omega, by rw [hQ.2.2.1]; omega⟩⟩
  rw [hQ.1]
  rcases lst_or L with rfl | ⟨M, y, rfl⟩
  · exact Or.inl rfl
  · rw [lsA_app]; exact Or.inr (hQ.2.2.2 y (by simp))
theorem TM_tm {s : Int} (h : TM s o w W) (h1 : w 67 o 0 ≤ w 2 (w 28 s 0) 0) : W = t_tm s o w := by
  rcases h with z | z
  · exact z.2
  · omega
theorem tm_31 {s x : Int} : t_tm s o w 31 x 0 = w 31 x 0 := t_tmj_k (by decide) (by decide)
/-- everything is taken over -/
theorem tkS_all : tkS d o w (t_all (w 11 d 0) (w 11 o 0) 8 (t_tm (w 11 d 0) (w 11 o 0) w)) := fun k a i z => by
  unfold t_all
  by_cases y : k = 3
  · rw [flA_a (fun e => z ⟨y, by rw [e, tm_31]⟩)]
  · rw [flA_k y]
theorem all_v {j : Int} (hn : w 31 (w 11 d 0) 0 ≠ w 31 (w 11 o 0) 0) (h : 0 ≤ j ∧ j < 8) : t_all (w 11 d 0) (w 11 o 0) 8 (t_tm (w 11 d 0) (w 11 o 0) w) 3 (w 31 (w 11 d 0) 0) j = w 3 (w 31 (w 11 o 0) 0) j := by
  unfold t_all
  rw [tm_31, tm_31, flA_v, if_pos (by omega)]
  exact t_tmj_k (by decide) (by decide)
/-- only the stores that are tracked are taken over -/
theorem tkS_tk {tr : Int} : tkS d o w (t_tk (w 11 d 0) (w 11 o 0) tr 8 (t_tm (w 11 d 0) (w 11 o 0) w)) := fun k a i z => by
  by_cases y : k = 3
  · rw [t_tk_a (fun e => z ⟨y, by rw [e, tm_31]⟩)]
  · rw [t_tk_k y]
/-- the desk that keeps state a is saved in -/
theorem RLm.saveP (h : RLm p μ f L w A) (hl : 0 ≤ A 122 μ.1 0 ∧ A 122 μ.1 0 ≤ A 120 μ.1 0) (hE : bEl 0 A) (hl1 : A 201 0 0 ≤ 400) (hq : sqD w f q b0 a) (hp : ∃ W, TM (w 11 q 0) (w 11 (w 41 f 0) 0) w W ∧ w' = q_ext (w 12 q 0) (w 12 (w 41 f 0) 0) (d_copy q (w 41 f 0) (t_all (w 11 q 0) (w 11 (w 41 f 0) 0) 8 W) 4)) :
    RLm p μ f L w' (m_saves μ a A) ∧ vDk (pc_ p) w' q (m_saves μ a A) a ∧ vQp w' (w 12 q 0) L ∧ UPd (pc_ p) (SDb b0 (A 122 μ.1 0)) w w' := by
  obtain ⟨hd, hBd, hb0, ha⟩ := h.1.2.2.1.sq hq
  have ho := h.1.2.2.1.1.1
  have hBo := h.1.2.2.1.1.2
  obtain ⟨W, h1, rfl⟩ := hp
  have e := TM_tm h1 (by rw [hd.2.2.1]; have := hBo.2.2.1; omega)
  subst e
  exact h.sav hl hE hl1 hq tkS_all (fun j j0 j1 => all_v (ne_c hd.2.1.2.2.2.2.2.2 ho.2.1.2.2.2.2.2.2 (by omega)) ⟨j0, j1⟩)
/-- and gone back to -/
theorem RLm.restP (h : RLm p μ f (L1 ++ M) w A) (hl : 0 ≤ A 122 μ.1 0 ∧ A 122 μ.1 0 ≤ A 120 μ.1 0) (hE : bEl 0 A) (hE2 : bEl a A) (hq : sqD w f q b0 a) (hvq : vDk (pc_ p) w q A a) (hcq : vQp w (w 12 q 0) L1) (hnd : L1.Nodup) (h214 : A 214 0 a ≤ A 120 μ.1 0) (hp : ∃ W, TM (w 11 (w 41 f 0) 0) (w 11 q 0) w W ∧ w' = q_ext (w 12 (w 41 f 0) 0) (w 12 q 0) (d_copy (w 41 f 0) q (t_all (w 11 (w 41 f 0) 0) (w 11 q 0) 8 W) 4)) :
    RLm p μ f L1 w' (m_rest μ a 1 A) ∧ UPd (pc_ p) (SDb 10 (A 122 μ.1 0)) w w' := by
  obtain ⟨hd, hBd, hb0, ha⟩ := h.1.2.2.1.sq hq
  have ho := h.1.2.2.1.1.1
  obtain ⟨W, h1, rfl⟩ := hp
  have e := TM_tm h1 (by rw [ho.2.2.1]; have := hBd.2.2.1; omega)
  subst e
  refine h.res hl hE hE2 hq hvq hcq hnd h214 tkS_all (fun r r0 r1 => Or.inl ⟨Or.inl rfl, fun x x0 x1 => ?_⟩)
  have hm : m_slt r ≤ 4 ∧ (r < 4 → m_slt r = 1) := by unfold m_slt; split <;> omega
  exact all_v (ne_c ho.2.1.2.2.2.2.2.2 hd.2.1.2.2.2.2.2.2 (by omega)) (by omega)
/-- and gone back to but for the stores that are not tracked -/
theorem RLm.backP (h : RLm p μ f (L1 ++ M) w A) (hl : 0 ≤ A 122 μ.1 0 ∧ A 122 μ.1 0 ≤ A 120 μ.1 0) (hE : bEl 0 A) (hE2 : bEl a A) (hbt : bTr A) (hq : sqD w f q b0 a) (hvq : vDk (pc_ p) w q A a) (hcq : vQp w (w 12 q 0) L1) (hnd : L1.Nodup) (h214 : A 214 0 a ≤ A 120 μ.1 0) (hp : ∃ W, TM (w 11 (w 41 f 0) 0) (w 11 q 0) w W ∧ w' = q_ext (w 12 (w 41 f 0) 0) (w 12 q 0) (d_copy (w 41 f 0) q (t_tk (w 11 (w 41 f 0) 0) (w 11 q 0) (w 44 f 0) 8 W) 4)) :
    RLm p μ f L1 w' (m_rest μ a 0 A) ∧ UPd (pc_ p) (SDb 10 (A 122 μ.1 0)) w w' := by
  obtain ⟨hd, hBd, hb0, ha⟩ := h.1.2.2.1.sq hq
  have ho := h.1.2.2.1.1.1
  obtain ⟨⟨t1, t2⟩, t3⟩ := h.toTr
  have t40 := h.1.2.1.2.1.2.2
  obtain ⟨W, h1, rfl⟩ := hp
  have e := TM_tm h1 (by rw [ho.2.2.1]; have := hBd.2.2.1; omega)
  subst e
  refine h.res hl hE hE2 hq hvq hcq hnd h214 tkS_tk (fun r r0 r1 => ?_)
  have hm : m_slt r ≤ 4 ∧ (r < 4 → m_slt r = 1) := by unfold m_slt; split <;> omega
  have n31 : w 31 (w 11 (w 41 f 0) 0) 0 ≠ w 31 (w 11 q 0) 0 := ne_c ho.2.1.2.2.2.2.2.2 hd.2.1.2.2.2.2.2.2 (by omega)
  have etr : t_tm (w 11 (w 41 f 0) 0) (w 11 q 0) w 1 (w 44 f 0) r = A 211 0 r := by
    rw [← t3 r r0 r1]
    exact t_tmj_1 (ne_c t40 ho.2.1.2.1.2 (by omega)) (ne_c t40 ho.2.1.2.2.1.2.2 (by omega)) (ne_c t40 ho.2.1.2.2.2.1.2.2 (by omega))
  have e3 : ∀ a j, t_tm (w 11 (w 41 f 0) 0) (w 11 q 0) w 3 a j = w 3 a j := fun a j => t_tmj_k (by decide) (by decide)
  have hb := hbt r r0 r1
  by_cases y : A 211 0 r = 1
  · refine Or.inl ⟨Or.inr y, fun x x0 x1 => ?_⟩
    unfold t_tk
    rw [tm_31, tm_31, if_pos ⟨rfl, rfl, by omega, by omega, by rw [show (if r + x < 4 then r + x else 4) = r by split <;> omega, etr]; omega⟩, e3]
  · refine Or.inr ⟨by omega, fun x x0 x1 => ?_⟩
    unfold t_tk
    rw [tm_31, tm_31, if_neg (fun z => ?_), e3]
    have z5 := z.2.2.2.2
    rw [show (if r + x < 4 then r + x else 4) = r by split <;> omega, etr] at z5
    omega
theorem vDk.eqv (h : vDk c w d V i) (hB : bDk w d) (e : EQv TA i i V V') (e7 : V' 207 0 i = V 207 0 i) (e0 : V' 210 0 i = V 210 0 i) (e8 : ∀ j, 0 ≤ j → j < 4 → V' 208 0 (4 * i + j) = V 208 0 (4 * i + j) ∧ V' 209 0 (4 * i + j) = V 209 0 (4 * i + j)) : vDk c w d V' i := by
  obtain ⟨h1, h2, h3, h4⟩ := h
  have := hB.1
  exact ⟨h1.eq e, by rw [e7]; exact h2, by rw [e0]; exact h3, fun j j0 j1 => by rw [(e8 j j0 (by omega)).1, (e8 j j0 (by omega)).2]; exact h4 j j0 j1⟩
/-- the reference changes where the relation doesn't look -/
theorem RLm.cE (h : RLm p μ f L w A) (hl : 0 ≤ A 122 μ.1 0 ∧ A 122 μ.1 0 ≤ A 120 μ.1 0) (h1 : AgO μ A A') (h2 : ∀ i, A' 232 0 i = A 232 0 i) (h3 : A' 120 μ.1 0 = A 120 μ.1 0) (h4 : ∀ k, 0 ≤ k → k < A 120 μ.1 0 → A' 212 0 k = A 212 0 k) (e : EQv TA 0 0 A A') (e7 : A' 207 0 0 = A 207 0 0) (e0 : A' 210 0 0 = A 210 0 0) (e8 : ∀ j, 0 ≤ j → j < 4 → A' 208 0 j = A 208 0 j ∧ A' 209 0 j = A 209 0 j) : RLm p μ f L w A' := by
  obtain ⟨hO, hL, ⟨hV, hQ, hLc⟩, hSp⟩ := h
  have hN : ∀ (b : Int) (k : Nat), (fun _ _ => False : Int → Nat → Prop) b k → STd (A 122 μ.1 0) b k := fun _ _ z => z.elim
  have u : UPd (pc_ p) (fun _ _ => False) w w := UPd.refl
  refine ⟨hO.fr u CXt.refl hN hl.1 h1 hSp hl.2 (fun _ _ _ => rfl) hO.1 hO.2.2.1, hL.fr u CXt.refl hN (fun _ z => z) hl.1 h1 h2, ⟨?_, hQ, fun y hy => ?_⟩, fun k k0 k1 => ?_⟩
  · refine hV.eqv hO.2.2.1.1.2 e e7 e0 (fun j j0 j1 => ?_)
    rw [show 4 * 0 + j = j by omega]; exact e8 j j0 j1
  · rw [h1.1 122 (by decide) (by decide) (by decide)]; exact hLc y hy
  · exact (hSp k k0 (by omega)).fr u CXt.refl (fun _ _ z => z.elim) (fun _ z => z.elim) (h4 k k0 (by omega))
/-- what is kept in a desk that nobody touches -/
theorem vQp.fr {t : Int} (h : vQp w t L) (u : UPd c S w w') (ht : w 0 t 0 = 8 ∧ c t = b) (hs : ∀ k : Nat, 34 ≤ k → ¬ S b k) (hL : ∀ x ∈ L, ∃ b, c x = b ∧ ¬ S b 68) : vQp w' t L := by
  obtain ⟨h1, h2, h3, h4, h5⟩ := h
  have g : ∀ {k : Nat}, 34 ≤ k → w' k t 0 = w k t 0 := fun z => u.g (by omega) ht.2 (hs _ z)
  refine ⟨by rw [g (by decide)]; exact h1, by rw [g (by decide)]; exact h2, by rw [g (by decide)]; exact h3, ?_, fun x hx => by rw [u.t (by have := h5 x hx; omega) (Or.inl rfl)]; exact h5 x hx⟩
  rw [g (by decide), tcA_cg (w := w) (fun x hx => ?_)]
  · exact h4
  · obtain ⟨b1, b2, b3⟩ := hL x hx
    exact u.g (by have := h5 x hx; omega) b2 b3
end DAO
