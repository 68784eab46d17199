/-! saving the live desk, and going back to what was saved -/
theorem saves_cpy {μ : MU} {a : Int} {A : Mm} : ∀ (k : Nat) (j : Int), 200 ≤ k → k ≤ 210 → m_saves μ a A k 0 j = m_cpy (fun _ => true) a 0 A k 0 j := fun k j x y => by
  rw [saves_eq, up_k _ (by omega), up_k _ (by omega)]
theorem rest_cpy {μ : MU} {b all : Int} {A : Mm} : ∀ (k : Nat) (j : Int), 200 ≤ k → k ≤ 210 → m_rest μ b all A k 0 j = m_cpy (fun s => decide (all = 1 ∨ A 211 0 s = 1)) 0 b A k 0 j := fun k j x y => by
  rw [rest_eq, up_k _ (by omega), up_k _ (by omega)]
/-- q is the desk that keeps state a -/
def sqD (w : Mm) (f q b0 a : Int) : Prop := (q = w 42 f 0 ∧ b0 = 20 ∧ a = 2) ∨ (q = w 43 f 0 ∧ b0 = 30 ∧ a = 3)
section SAV
variable {p : RP} {S : Int → Nat → Prop} {w w' Y A A' : Mm} {μ : MU} {f q b0 a all lo : Int} {c : Int → Int} {L L1 M : List Int}
theorem rDk.sq (h : rDk c w f) (hq : sqD w f q b0 a) : sDk c b0 w q ∧ bDk w q ∧ (b0 = 20 ∨ b0 = 30) ∧ (1 ≤ a ∧ a ≤ 3) := by
  rcases hq with ⟨rfl, rfl, rfl⟩ | ⟨rfl, rfl, rfl⟩
  · exact ⟨h.2.1.1, h.2.1.2, Or.inl rfl, by omega⟩
  · exact ⟨h.2.2.1, h.2.2.2, Or.inr rfl, by omega⟩
theorem rDk.sav (h : rDk c w f) (hf : w 0 f 0 = 13 ∧ c f = 1) (hq : sqD w f q b0 a) (hlo : 0 ≤ lo) (u : UPd c (SDb b0 lo) w w') (hb : bDk w' q) : rDk c w' f := by
  obtain ⟨⟨a1, a2⟩, ⟨b1, b2⟩, c1, c2⟩ := h
  have hS : b0 = 10 ∨ b0 = 20 ∨ b0 = 30 := by rcases hq with z | z <;> omega
  have g : ∀ {k : Nat}, k ≠ 91 → w' k f 0 = w k f 0 := fun hk => ed_fr hf u (SDb.std hS) hlo hk
  unfold rDk
  rw [g (by decide), g (by decide), g (by decide)]
  rcases hq with ⟨rfl, rfl, rfl⟩ | ⟨rfl, rfl, rfl⟩
  · exact ⟨⟨(a1.fr u CXt.refl (fun k x y => ⟨SDb.other hlo (by omega) (by omega), SDb.other hlo (by omega) (by omega)⟩)).1, a2.fr a1 u (fun b' k x y _ => SDb.other hlo (by omega) (by omega))⟩, ⟨(b1.fr u CXt.refl (fun k x y => ⟨fun z => by unfold SDb at z; omega, fun z => by unfold SDb at z; omega⟩)).1, hb⟩, ⟨(c1.fr u CXt.refl (fun k x y => ⟨SDb.other hlo (by omega) (by omega), SDb.other hlo (by omega) (by omega)⟩)).1, c2.fr c1 u (fun b' k x y _ => SDb.other hlo (by omega) (by omega))⟩⟩
  · exact ⟨⟨(a1.fr u CXt.refl (fun k x y => ⟨SDb.other hlo (by omega) (by omega), SDb.other hlo (by omega) (by omega)⟩)).1, a2.fr a1 u (fun b' k x y _ => SDb.other hlo (by omega) (by omega))⟩, ⟨(b1.fr u CXt.refl (fun k x y => ⟨SDb.other hlo (by omega) (by omega), SDb.other hlo (by omega) (by omega)⟩)).1, b2.fr b1 u (fun b' k x y _ => SDb.other hlo (by omega) (by omega))⟩, ⟨(c1.fr u CXt.refl (fun k x y => ⟨fun z => by unfold SDb at z; omega, fun z => by unfold SDb at z; omega⟩)).1, hb⟩⟩
theorem rDk.liv (h : rDk c w f) (hf : w 0 f 0 = 13 ∧ c f = 1) (hlo : 0 ≤ lo) (u : UPd c (SDb 10 lo) w w') (hb : bDk w' (w 41 f 0)) : rDk c w' f := h.live hf u CXt.refl hlo hb
/-- the last step of the live chain, or none -/
theorem RLm.lsc (h : RLm p μ f L w A) (hL : ∀ x ∈ L1, x ∈ L) : lsA L1 = 0 ∨ pc_ p (lsA L1) ≤ -(A 122 μ.1 0 + 1) := by
  rcases lst_or L1 with rfl | ⟨M, y, rfl⟩
  · exact Or.inl rfl
  · rw [lsA_app]; exact Or.inr (h.2.2.1.2.2 y (hL y (by simp)))
theorem RLm.sav (h : RLm p μ f L w A) (hl : 0 ≤ A 122 μ.1 0 ∧ A 122 μ.1 0 ≤ A 120 μ.1 0) (hE : bEl 0 A) (hl1 : A 201 0 0 ≤ 400) (hq : sqD w f q b0 a) (hY : tkS q (w 41 f 0) w Y) (hS : ∀ j, 0 ≤ j → j < 8 → Y 3 (w 31 (w 11 q 0) 0) j = w 3 (w 31 (w 11 (w 41 f 0) 0) 0) j) :
    RLm p μ f L (tkY q (w 41 f 0) w Y) (m_saves μ a A) ∧ vDk (pc_ p) (tkY q (w 41 f 0) w Y) q (m_saves μ a A) a ∧ vQp (tkY q (w 41 f 0) w Y) (w 12 q 0) L ∧ UPd (pc_ p) (SDb b0 (A 122 μ.1 0)) w (tkY q (w 41 f 0) w Y) := by
  obtain ⟨hO, hLs, ⟨hV, hQ, hLc⟩, hSp⟩ := id h
  obtain ⟨hd, hBd, hb0, ha⟩ := hO.2.2.1.sq hq
  have ho := hO.2.2.1.1.1
  have hBo := hO.2.2.1.1.2
  have hf := hO.2.1.1
  have hbb : b0 + 8 < 10 ∨ 10 + 8 < b0 := by omega
  have u := tkY.upd (lo := A 122 μ.1 0) hY hd ho (by rw [hQ.2.1]; exact h.lsc (fun x hx => hx))
  have hst : ∀ b k, SDb b0 (A 122 μ.1 0) b k → STd (A 122 μ.1 0) b k := SDb.std (by omega)
  obtain ⟨v1, v2⟩ := tkY.vDp (i := 0) (V := A) hY hd ho hbb ⟨hV.1.1, hV.2⟩ hBo
  have n12 : w 12 q 0 ≠ w 12 (w 41 f 0) 0 := ne_c hd.2.2.2.1.2 ho.2.2.2.1.2 (by omega)
  obtain ⟨q1, q2, q3, q4, q5⟩ := tkY.ch hY n12
  obtain ⟨-, -, -, s3⟩ := tkY.st hY hd ho hbb
  have e41 : tkY q (w 41 f 0) w Y 41 f 0 = w 41 f 0 := ed_fr hf u hst hl.1 (by decide)
  have e46 : tkY q (w 41 f 0) w Y 46 f 0 = w 46 f 0 := ed_fr hf u hst hl.1 (by decide)
  have e33 : ∀ a, tkY q (w 41 f 0) w Y 33 a 0 = w 33 a 0 := fun x => by
    rw [q5]
    by_cases z : w 35 (w 12 (w 41 f 0) 0) 0 ≠ 0 ∧ x = w 35 (w 12 (w 41 f 0) 0) 0
    · rw [if_pos z, z.2]
      have hc := hQ.1
      obtain ⟨z1, -⟩ := z
      rw [hQ.2.1] at z1 ⊢
      rcases lst_or L with rfl | ⟨M, y, rfl⟩
      · exact absurd rfl z1
      · rw [lsA_app]; exact (hc.lst).1.symm
    · rw [if_neg z]
  have g16 : ∀ k : Nat, tkY q (w 41 f 0) w Y k (w 12 (w 41 f 0) 0) 0 = w k (w 12 (w 41 f 0) 0) 0 := fun k => u.g (by have := ho.2.2.2.1.1; omega) ho.2.2.2.1.2 (SDb.other hl.1 (by omega) (by omega))
  have e68 : ∀ x, tkY q (w 41 f 0) w Y 68 x 0 = w 68 x 0 := fun x => tkY_k hY (by decide) (by decide) (by decide) (by decide) (by decide) (by decide) (by decide) (by decide) (by decide) (by decide)
  have e0 : ∀ x, tkY q (w 41 f 0) w Y 0 x 0 = w 0 x 0 := fun x => (tkY.rf hY x).2.2.2.2.2.2.2.2.2
  have no0 : ∀ k : Nat, ¬ SDb b0 (A 122 μ.1 0) 0 k := fun k z => by unfold SDb at z; omega
  have hW : RLm p μ f L (tkY q (w 41 f 0) w Y) A := by
    refine ⟨hO.fr (c' := pc_ p) (σ' := ps_ p) (G' := pg_ p) u CXt.refl hst hl.1 AgO.refl hSp hl.2 (fun _ _ _ => rfl) (fun x hx => hO.1 x (by rw [← e0]; exact hx)) (hO.2.2.1.sav hf hq hl.1 u v2), ?_, ?_, fun k k0 k1 => ?_⟩
    · rw [e46]; exact hLs.fr u CXt.refl hst (fun k z => by unfold SDb at z; omega) hl.1 (AgO.refl (μ := μ)) (fun _ => rfl)
    · unfold rLv
      rw [e41, (tkY.rf hY _).2.1]
      exact ⟨hV.fr ho u CXt.refl (fun b' k x y _ => SDb.other hl.1 (by omega) (by omega)) no0, hQ.cg (g16 _) (g16 _) (g16 _) (g16 _) (fun x _ => ⟨e0 x, e68 x⟩) (fun x _ => e33 x), hLc⟩
    · exact (hSp k k0 k1).fr u CXt.refl (fun y hy z => by unfold SDb at z; omega) no0 rfl
  refine ⟨hW.cA hl hE (AgO.of fun c x i z => saves_at (by omega)) (fun i => saves_at (by omega)) (saves_at (by omega)) (fun k _ _ => saves_at (by omega)) (fun c i z1 z2 i0 i1 => ?_), ?_, ?_, u⟩
  · rw [saves_cpy c i z1 z2]
    have hst0 : 0 ≤ st0 c := by omega
    have : st0 c ≤ a * st0 c := by rcases hq with z | z <;> (rw [z.2.2]; omega)
    exact cpy_o ⟨z1, z2⟩ (Or.inl (by omega)) hl1
  · have vp := (v1.cpy (T := fun _ => true) (a := a) v2).cg (saves_cpy (μ := μ))
    refine ⟨⟨vp.1, fun r r0 r1 => ?_⟩, vp.2⟩
    rw [(tkY.rf hY q).1]
    refine ((vSr.mv (hV.1.2 r r0 r1) u no0 (s := w 11 q 0) (fun x x0 x1 => ?_)).cpy (a := a) (T := fun _ => true) ⟨r0, r1⟩ rfl hE).cg saves_cpy
    have hm : m_slt r ≤ 4 ∧ (r < 4 → m_slt r = 1) := by unfold m_slt; split <;> omega
    rw [(tkY.rf hY _).2.2.2.2.2.2.2.1, s3]
    exact hS _ (by omega) (by omega)
  · obtain ⟨c1, c2, c3, c4, c5⟩ := hQ.toQp
    exact ⟨by rw [q1]; exact c1, by rw [q2]; exact c2, by rw [q3]; exact c3, by rw [q4, tcA_cg (fun x _ => e68 x)]; exact c4, fun x hx => by rw [e0]; exact c5 x hx⟩
theorem RLm.res (h : RLm p μ f (L1 ++ M) w A) (hl : 0 ≤ A 122 μ.1 0 ∧ A 122 μ.1 0 ≤ A 120 μ.1 0) (hE : bEl 0 A) (hE2 : bEl a A) (hq : sqD w f q b0 a) (hvq : vDk (pc_ p) w q A a) (hcq : vQp w (w 12 q 0) L1) (hnd : L1.Nodup) (h214 : A 214 0 a ≤ A 120 μ.1 0) (hY : tkS (w 41 f 0) q w Y)
    (hS : ∀ r, 0 ≤ r → r < 5 → ((all = 1 ∨ A 211 0 r = 1) ∧ ∀ e, 0 ≤ e → e < m_slt r → Y 3 (w 31 (w 11 (w 41 f 0) 0) 0) (r + e) = w 3 (w 31 (w 11 q 0) 0) (r + e)) ∨ (¬ (all = 1 ∨ A 211 0 r = 1) ∧ ∀ e, 0 ≤ e → e < m_slt r → Y 3 (w 31 (w 11 (w 41 f 0) 0) 0) (r + e) = w 3 (w 31 (w 11 (w 41 f 0) 0) 0) (r + e))) :
    RLm p μ f L1 (tkY (w 41 f 0) q w Y) (m_rest μ a all A) ∧ UPd (pc_ p) (SDb 10 (A 122 μ.1 0)) w (tkY (w 41 f 0) q w Y) := by
  obtain ⟨hO, hLs, ⟨hV, hQ, hLc⟩, hSp⟩ := id h
  obtain ⟨ho, hBo, hb0, ha⟩ := hO.2.2.1.sq hq
  have hd := hO.2.2.1.1.1
  have hf := hO.2.1.1
  have hbb : (10 : Int) + 8 < b0 ∨ b0 + 8 < 10 := by omega
  have u := tkY.upd (lo := A 122 μ.1 0) hY hd ho (by rw [hcq.2.1]; exact h.lsc (fun x hx => List.mem_append.mpr (Or.inl hx)))
  have hst : ∀ b k, SDb 10 (A 122 μ.1 0) b k → STd (A 122 μ.1 0) b k := SDb.std (Or.inl rfl)
  obtain ⟨v1, v2⟩ := tkY.vDp (i := a) (V := A) hY hd ho hbb ⟨hvq.1.1, hvq.2⟩ hBo
  have n12 : w 12 (w 41 f 0) 0 ≠ w 12 q 0 := ne_c hd.2.2.2.1.2 ho.2.2.2.1.2 (by omega)
  obtain ⟨-, -, -, s3⟩ := tkY.st hY hd ho hbb
  have e41 : tkY (w 41 f 0) q w Y 41 f 0 = w 41 f 0 := ed_fr hf u hst hl.1 (by decide)
  have e46 : tkY (w 41 f 0) q w Y 46 f 0 = w 46 f 0 := ed_fr hf u hst hl.1 (by decide)
  have e0 : ∀ x, tkY (w 41 f 0) q w Y 0 x 0 = w 0 x 0 := fun x => (tkY.rf hY x).2.2.2.2.2.2.2.2.2
  have no0 : ∀ k : Nat, ¬ SDb 10 (A 122 μ.1 0) 0 k := fun k z => by unfold SDb at z; omega
  have hA : AgO μ A (m_rest μ a all A) := AgO.of fun c x i z => rest_at (by omega)
  have r120 : m_rest μ a all A 120 μ.1 0 = A 214 0 a := rest_120.1
  refine ⟨⟨hO.fr (c' := pc_ p) (σ' := ps_ p) (G' := pg_ p) u CXt.refl hst hl.1 hA hSp hl.2 (fun _ _ _ => rfl) (fun x hx => hO.1 x (by rw [← e0]; exact hx)) (hO.2.2.1.liv hf hl.1 u v2), ?_, ?_, fun k k0 k1 => ?_⟩, u⟩
  · rw [e46]; exact hLs.fr u CXt.refl hst (fun k z => by unfold SDb at z; omega) hl.1 hA (fun i => rest_at (by omega))
  · unfold rLv
    rw [e41, (tkY.rf hY _).2.1]
    have vp := (v1.cpy (T := fun s => decide (all = 1 ∨ A 211 0 s = 1)) (a := 0) v2).cg (rest_cpy (μ := μ))
    refine ⟨⟨⟨vp.1, fun r r0 r1 => ?_⟩, vp.2⟩, ?_, fun y hy => ?_⟩
    · rw [(tkY.rf hY _).1]
      have hm : m_slt r ≤ 4 := by unfold m_slt; split <;> omega
      rcases hS r r0 r1 with ⟨t1, t2⟩ | ⟨t1, t2⟩
      · exact ((vSr.mv (hvq.1.2 r r0 r1) u no0 (s := w 11 (w 41 f 0) 0) (fun x x0 x1 => by
          rw [(tkY.rf hY _).2.2.2.2.2.2.2.1, s3]; exact t2 x x0 x1)).cpy (a := 0) ⟨r0, r1⟩ (decide_eq_true t1) hE2).cg rest_cpy
      · exact ((vSr.mv (hV.1.2 r r0 r1) u no0 (s := w 11 (w 41 f 0) 0) (fun x x0 x1 => by
          rw [(tkY.rf hY _).2.2.2.2.2.2.2.1, s3]; exact t2 x x0 x1)).cpn (b := a) ⟨r0, r1⟩ (decide_eq_false t1) hE).cg rest_cpy
    · exact tkY.vQs (M := M) hY n12 hcq ⟨_, fun z => hQ.1.hd2 z, hQ.1⟩ hnd
    · rw [hA.1 122 (by decide) (by decide) (by decide)]; exact hLc y (List.mem_append.mpr (Or.inl hy))
  · exact (hSp k k0 (by omega)).fr u CXt.refl (fun y hy z => by unfold SDb at z; omega) no0 (rest_at (by omega))
end SAV
