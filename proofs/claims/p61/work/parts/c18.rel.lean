/-! typing goes on: where it stands, what it comes to -/
/-- the current node's change is one insertion that goes on -/
def TYb (μ : MU) (A : Mm) (p0 v0 : Int) : Prop :=
  (1 ≤ A 126 μ.1 0 ∧ A 126 μ.1 0 + 1 = A 124 μ.1 0) ∧ (A 221 0 (A 126 μ.1 0) = A 126 μ.1 0 ∧ A 223 0 (A 126 μ.1 0) = -1 ∧ A 220 0 (A 126 μ.1 0) = 1 ∧ A 218 0 (A 126 μ.1 0) + 1 = A 120 μ.1 0 ∧ A 122 μ.1 0 = A 120 μ.1 0) ∧
  A 212 0 (A 120 μ.1 0 - 1) = 0 + 8 * p0 + 4096 * v0 ∧ (0 ≤ p0 ∧ 0 ≤ v0 ∧ p0 + v0 = A 207 0 0) ∧ A 219 0 (A 126 μ.1 0) + v0 = A 123 μ.1 0 ∧ A 123 μ.1 0 = A 121 μ.1 0
def TYP (μ : MU) (A : Mm) : Prop := A 129 μ.1 0 ≠ -1 → (A 132 μ.1 0 = 0 ∧ A 129 μ.1 0 = A 126 μ.1 0) ∧ ∃ p0 v0, TYb μ A p0 v0
def exA (μ : MU) (n0 : Int) (R : Mm) : Mm := up (up (up (up R 220 0 (R 126 μ.1 0) (1 + (R 120 μ.1 0 - n0))) 224 0 (R 126 μ.1 0) (R 207 0 0)) 122 μ.1 0 (R 120 μ.1 0)) 123 μ.1 0 (R 121 μ.1 0)
section EXT
variable {p : RP} {c k n0 p0 v0 S P M f : Int} {μ : MU} {w w4 w' W A A1 V R Ay : Mm} {ρ : Int → Mm} {G : Int → Int → Int} {PL : Int → List Int}
theorem up_idm {w : Mm} {c : Nat} {a i v : Int} (h : v = w c a i) : up w c a i v = w := by
  funext c' a' i'
  simp only [up]; split
  · rename_i z; rw [h, z.1, z.2.1, z.2.2]
  · rfl
theorem TX.one (h : TX μ ρ G PL A) (ha : alv μ A k) (hk : 1 ≤ k) (h1 : A 221 0 k = k) (h2 : A 223 0 k = -1) : PL k = [k] := by
  obtain ⟨q1, ⟨N, q2, -⟩, -⟩ := h.1.1.2.2.1 k hk ha
  cases hP : PL k with
  | nil => rw [hP] at q2; cases N <;> simp at q2
  | cons x xs =>
    rw [hP] at q1
    obtain ⟨e1, -, -, -, -, e2⟩ := q1
    have ex : x = k := by omega
    rw [ex, h2] at e2
    cases xs with
    | nil => rw [ex]
    | cons y ys => have := e2.1; have := e2.2.1; omega
theorem insC_at {cc : Nat} {a i : Int} (h : cc ≠ 212 ∧ cc ≠ 120 ∧ cc ≠ 213 ∧ cc ≠ 121 ∧ cc ≠ 240 ∧ cc ≠ 136 ∧ (cc < 200 ∨ (202 < cc ∧ cc < 207) ∨ 209 < cc)) : m_insC μ c A cc a i = A cc a i := by
  unfold m_insC m_pt
  rw [up_k _ (by omega), up_k _ (by omega), ins_at (by omega), up_k _ (by omega)]
theorem ex1_at {cc : Nat} {a i : Int} (h : cc ≠ 212 ∧ cc ≠ 213 ∧ cc ≠ 121 ∧ (cc < 200 ∨ (202 < cc ∧ cc < 207) ∨ 209 < cc)) : m_ex1 μ c A cc a i = A cc a i := by
  unfold m_ex1
  rw [pool_at (by omega), up_k _ (by omega), up_k _ (by omega), up_k _ (by omega), opens_at (by omega)]
/-- side by side: the class's virtual insertion, and the reference's last step that grows -/
theorem ex_ntf (hb1 : bPo A1) (hK : RK μ S P M (m_insC μ c A1)) : (m_ntf μ (m_ex1 μ c A1)).1 = (m_ntf μ (m_insC μ c A1)).1 ∧ SHR μ (A1 120 μ.1 0) (m_ntf μ (m_insC μ c A1)).2 (m_ntf μ (m_ex1 μ c A1)).2 :=
  (SHR.ini (μ := μ) (c := c) (A := A1)).ntf hK.2.2.2.2.1 (fun i i0 i1 => by rw [ex1_at (by decide)]; exact hb1 i i0 i1)
theorem EXo.mk (hT : TYb μ A1 p0 v0) (h207 : A1 207 0 0 ≤ 399) (hb1 : bPo A1) (hB : LB μ S P (m_insC μ c A1)) (hK : RK μ S P M (m_insC μ c A1)) (hMK : MKo μ M ρ G PL (m_ntf μ (m_insC μ c A1)).2)
    (hTb : TB μ (M + 1) (exA μ (A1 120 μ.1 0) (m_ntf μ (m_ex1 μ c A1)).2)) :
    EXo μ M ρ G PL (m_ntf μ (m_insC μ c A1)).2 (m_ntf μ (m_ex1 μ c A1)).2 (exA μ (A1 120 μ.1 0) (m_ntf μ (m_ex1 μ c A1)).2) (A1 120 μ.1 0) p0 v0 := by
  obtain ⟨-, hS⟩ := ex_ntf (c := c) (A1 := A1) hb1 hK
  obtain ⟨⟨t1, t2⟩, ⟨t3, t4, t5, t6, t7⟩, t8, ⟨t9, t10, t11⟩, t12, t13⟩ := hT
  obtain ⟨i1, i2⟩ := insC_120 (μ := μ) (c := c) (w := A1)
  have hN := (ntf_rk hB hK).1
  have e : ∀ {cc : Nat} {a i : Int}, (cc ≠ 212 ∧ cc ≠ 120 ∧ cc ≠ 213 ∧ cc ≠ 121 ∧ cc ≠ 240 ∧ cc ≠ 136 ∧ (cc < 200 ∨ (202 < cc ∧ cc < 207) ∨ 209 < cc)) ∧ cc ≠ 232 ∧ cc ≠ 233 ∧ cc ≠ 234 → (m_ntf μ (m_insC μ c A1)).2 cc a i = A1 cc a i := fun z => by
    rw [hN.2 _ _ _ (by omega) (by omega) (by omega) (by omega) (by omega) (by omega), insC_at z.1]
  have hap := ntf_ts hB hK (by rw [i1, insC_at (by decide)]; omega) (by
    have := (AP.does (μ := μ) (c := 0) (a := c) (b := 0) (w := A1)).2.1
    have ed : m_insC μ c A1 121 μ.1 0 = A1 121 μ.1 0 + 1 ∨ A1 121 μ.1 0 ≤ m_insC μ c A1 121 μ.1 0 := by
      right
      unfold m_insC m_pt
      rw [up_k _ (by decide), up_k _ (by decide)]
      unfold m_ins
      rw [show (1 : Int).toNat = 0 + 1 from rfl]
      unfold m_poolN m_pool
      rw [up_s, m_poolN, fl_at (by decide), step_at (by decide), opens_at (by decide), up_k _ (by decide)]
      omega
    rw [insC_at (by decide)]; omega)
  obtain ⟨ha1, -, ha3, -⟩ := hap.2
  obtain ⟨V, hV⟩ : ∃ V, V = (m_ntf μ (m_insC μ c A1)).2 := ⟨_, rfl⟩
  obtain ⟨R, hR⟩ : ∃ R, R = (m_ntf μ (m_ex1 μ c A1)).2 := ⟨_, rfl⟩
  rw [← hV] at hS hMK ha1 ha3 e ⊢
  rw [← hR] at hS hTb ⊢
  have v126 : V 126 μ.1 0 = A1 126 μ.1 0 := e (by decide)
  have v124 : V 124 μ.1 0 = A1 124 μ.1 0 := e (by decide)
  have r126 : R 126 μ.1 0 = V 126 μ.1 0 := hS.1 (by decide) (by decide) (by decide) (by decide) (by decide)
  have r207 : R 207 0 0 = V 207 0 0 := hS.1 (by decide) (by decide) (by decide) (by decide) (by decide)
  have r121 : R 121 μ.1 0 = V 121 μ.1 0 := hS.1 (by decide) (by decide) (by decide) (by decide) (by decide)
  have hcur := hMK.1.1.1.1.cur hMK.2.2.1
  have hPL : PL (V 126 μ.1 0) = [V 126 μ.1 0] := hMK.1.one hcur (by omega) (by rw [v126, e (by decide)]; exact t3) (by rw [v126, e (by decide)]; exact t4)
  have hpr := (hMK.1.1.1.2.2.2.2.2.1 (V 126 μ.1 0) (by omega) (by omega)).1.1
  have x218 : V 218 0 (V 126 μ.1 0) = A1 120 μ.1 0 - 1 := by rw [v126, e (by decide)]; omega
  have hn0 : 1 ≤ A1 120 μ.1 0 := by omega
  rw [i1] at ha1 ha3
  refine ⟨hMK, hS, ⟨hPL, by omega, by omega⟩, ⟨by rw [e (by decide)]; exact t7, x218, by rw [v126, e (by decide)]; exact t5, by rw [v126, e (by decide), e (by decide)]; exact t12, hn0, by omega⟩, ⟨⟨?_, ?_⟩, ⟨t9, by omega⟩, ⟨t10, by omega⟩⟩, ?_, hTb⟩
  · rw [ha3 _ (by omega) (by omega)]
    unfold m_insC m_pt
    rw [up_k _ (by decide), up_k _ (by decide), ins_212, if_neg (by rw [up_k _ (by decide)]; omega), up_k _ (by decide)]
    exact t8
  · rw [ha3 _ (by omega) (by omega), i2, t11]
  · unfold exA; rw [r126, r207, r121]
set_option maxHeartbeats 1000000 in
theorem RLm.ext (h : RLm p μ f (lvL p μ V) w V) (hX : EXo μ M (pr_ p) (pg_ p) (pl_ p) V R Ay n0 p0 v0) (hbt : bTr V) (hbB : bB Ay)
    (hw4 : w4 = up (q_emp (w 12 (w 41 f 0) 0) (q_join (w 25 (pn_ p (V 126 μ.1 0)) 0) (w 12 (w 41 f 0) 0) (q_drop (w 12 (w 41 f 0) 0) w))) 70 (ps_ p (n0 - 1)) 0 (v0 + 1))
    (hW : TM (w4 24 (pn_ p (V 126 μ.1 0)) 0) (w4 11 (w4 41 f 0) 0) w4 W) (hw' : w' = up (t_tk (w4 24 (pn_ p (V 126 μ.1 0)) 0) (w4 11 (w4 41 f 0) 0) (w4 44 f 0) 8 W) 65 (pn_ p (V 126 μ.1 0)) 0 (w4 61 (w4 41 f 0) 0)) :
    ∃ p', CHB p' μ f (lvL p' μ Ay) w' Ay ∧ UPE f w w' := by
  obtain ⟨c1, r1, u1⟩ := h.ex hX rfl hw4
  obtain ⟨x1, x2⟩ := TX.ext hX
  obtain ⟨v1, v2, v3, v4, v5, v6, v7⟩ := hX.va
  have ho := fun (c : Nat) (a i : Int) => hX.o (c := c) (a := a) (i := i)
  obtain ⟨hK, hS, ⟨g1, g2, g3⟩, ⟨n4, n5, n6, n7, n8, n9⟩, -⟩ := id hX
  have hcur := hK.1.1.1.1.cur hK.2.2.1
  obtain ⟨-, -, l10, l11, -⟩ := id hK.2.1
  have u : ∀ {c : Nat} {a i : Int}, c ≠ 224 → up Ay 224 0 (V 126 μ.1 0) (V 224 0 (V 126 μ.1 0)) c a i = Ay c a i := fun z => up_k _ z _ _ _ _ _
  have t1 : ∀ i, up Ay 224 0 (V 126 μ.1 0) (V 224 0 (V 126 μ.1 0)) 211 0 i = V 211 0 i := fun i => by rw [u (by decide), ho _ _ _ (by decide) (by decide)]
  have hU : ∀ X, Unt V X → Unt (up Ay 224 0 (V 126 μ.1 0) (V 224 0 (V 126 μ.1 0))) X := fun X hX r r0 r1 r2 => hX r r0 r1 (by rw [t1] at r2; exact r2)
  have h120 := hS.2.1
  have hb := hK.1.1.1.2.2.2.2.2.1 (V 126 μ.1 0) g2 (by omega)
  have hl := hK.2.1.b0.1
  obtain ⟨c2, r2, u2⟩ := r1.keep (cu := V 126 μ.1 0) (V' := m_playL (LVl μ V) (SWp (pr_ p (V 126 μ.1 0)) V)) (W := W) (w' := w')
    (by have h := hcur; unfold alv at h ⊢; rw [u (by decide), u (by decide), ho _ _ _ (by decide) (by decide), ho _ _ _ (by decide) (by decide)]; exact h)
    (by rw [u (by decide), v3]; omega) (fun i i0 i1 => by rw [t1]; exact hbt i i0 i1)
    ((l10.mono fun r _ _ z => by have z : up Ay 224 0 (V 126 μ.1 0) (V 224 0 (V 126 μ.1 0)) 211 0 r = 1 := z; rw [t1] at z; exact z).trans (EQv.buf EQv.refl (fun c i c1 c2 => rfl) (fun c i c1 c2 => by rw [u (by omega)]; exact ho _ _ _ (by omega) (by omega))))
    (hU _ l11) (hU _ (hK.1.2 _ hcur).1.2.2) hW hw'
  have eA : up (up Ay 224 0 (V 126 μ.1 0) (V 224 0 (V 126 μ.1 0))) 224 0 (V 126 μ.1 0) (up Ay 224 0 (V 126 μ.1 0) (V 224 0 (V 126 μ.1 0)) 207 0 0) = Ay := by
    rw [up_up, up_idm]
    rw [u (by decide), v2, if_pos rfl, ho _ _ _ (by decide) (by decide)]
  rw [eA] at r2
  refine ⟨(c2, exS (ps_ p) n0, pn_ p, pa_ p, RHk (pr_ p) (V 126 μ.1 0) (m_playL (LVl μ V) (SWp (pr_ p (V 126 μ.1 0)) V)), GEx n0 (pg_ p), pl_ p), ⟨?_, x1, ?_⟩, u1.trans u2⟩
  · have eL : lvL (c2, exS (ps_ p) n0, pn_ p, pa_ p, RHk (pr_ p) (V 126 μ.1 0) (m_playL (LVl μ V) (SWp (pr_ p (V 126 μ.1 0)) V)), GEx n0 (pg_ p), pl_ p) μ Ay = [] := by
      unfold lvL; rw [v3, v5, show (R 120 μ.1 0 - R 120 μ.1 0).toNat = 0 by omega]; rfl
    rw [eL]; exact r2
  · rw [ho _ _ _ (by decide) (by decide)]
    show LIV μ (GEx n0 (pg_ p)) (RHk (pr_ p) (V 126 μ.1 0) _ (V 126 μ.1 0)) Ay
    rw [RHk_s]; exact x2 hbB
end EXT
