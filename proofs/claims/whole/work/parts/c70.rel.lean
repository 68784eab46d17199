/-! the world when the law's loop begins -/
section LWI
variable {c c' : Int → Int} {S : Int → Nat → Prop} {w w' A : Mm} {μ : MU} {f N i : Int}
theorem MCi.fr (h : MCi c w f i) (g : OBt c w f 13 1) (u : UPd c S w w') (hc : CXt w c c') (hi : 0 ≤ i ∧ i ≤ 4) (hs : ∀ (b' : Int) (k : Nat), (b' = 1 ∨ (62 ≤ b' ∧ b' ≤ 85)) → ¬ S b' k) : MCi c' w' f i := by
  obtain ⟨⟨m1, m2, m3⟩, m4⟩ := h
  have o : w' 48 f 0 = w 48 f 0 := u.g (by have := g.1; omega) g.2 (hs 1 48 (Or.inl rfl))
  unfold MCi
  rw [o]
  refine ⟨⟨u.tag m1 (by decide), (u.t (by omega) (by decide)).trans m2, (hc _ (by omega)).trans m3⟩, fun m m0 m1' => ?_⟩
  rw [u.g (by omega) m3 (hs 62 3 (by omega))]
  exact (m4 m m0 m1').fr u hc (fun b' k x y => hs b' k (by omega))
theorem ini_o {W : Mm} {k : Nat} {a j : Int} (h : a ≠ 0 ∨ (k ≠ 216 ∧ k ≠ 217 ∧ k ≠ 221 ∧ k ≠ 202 ∧ k ≠ 232 ∧ k ≠ 227)) : m_ini W k a j = W k a j := by
  unfold m_ini fl up
  rw [if_neg (by omega), if_neg (by omega), if_neg (by omega), if_neg (by omega), if_neg (by omega), if_neg (by omega)]
theorem law_ini {w1 W : Mm} {f m o : Int} {V : Nat → Int} (h1 : FIi f (fun a => if a = f then 1 else 0) (newO (fun _ _ _ => 0) f 13) 4 w1) (hf : 0 < f) (hm : 0 < m) (hm1 : w1 0 m 0 = 0) (h2 : PMk m (newO w1 m 14) 47 V W) (hV : ∀ k, V k = vin k) (ho : 0 < o) (ho1 : m_ini W 0 o 0 = 0) :
    LIn (m, fun j => W (500 + j) m 0) f 0 0 1 (newL (m_ini W) o 1) (newL (m_ini W) o 1) ∧ RM (newL (m_ini W) o 1) (m, fun j => W (500 + j) m 0) ∧ newL (m_ini W) o 1 0 o 0 = 22 ∧ newL (m_ini W) o 1 2 o 0 = 1 := by
  obtain ⟨c, N, hN, hI, hM, hu⟩ := h1
  have hk := hN.2.1
  have am : ∀ a, w1 0 a 0 ≠ 0 → a ≠ m := fun a ha e => by rw [e] at ha; exact ha hm1
  have e1 : ∀ (k : Nat) (a i : Int), w1 0 a 0 ≠ 0 → W k a i = w1 k a i := fun k a i ha => by
    rw [h2.2.2.2.1 k a i (by rw [newO_o (am a ha)]; exact ha) (am a ha), newO_o (am a ha)]
  have e0 : ∀ (k : Nat) (i : Int), W k 0 i = w1 k 0 i := fun k i => by rw [h2.2.2.2.2.1 k i, newO_o (by omega)]
  have u1 : UPd c (fun _ _ => False) w1 W := ⟨fun k a i ha _ => e1 k a i ha, fun k a i ha _ => e1 k a i ha, fun k i _ => e0 k i⟩
  have I1 : INC c W f N := hI.fr u1 CXt.refl (fun _ _ _ z => z)
  have M1 : MCi c W f 4 := hM.fr hI.1 u1 CXt.refl (by decide) (fun _ _ _ z => z)
  obtain ⟨W2, hW2⟩ : ∃ W2, W2 = m_ini W := ⟨_, rfl⟩
  have I2 : INC c W2 f N := by rw [hW2]; exact I1
  have M2 : MCi c W2 f 4 := by rw [hW2]; exact M1
  have w2o : ∀ {k : Nat} {a i : Int}, a ≠ 0 ∨ (k ≠ 216 ∧ k ≠ 217 ∧ k ≠ 221 ∧ k ≠ 202 ∧ k ≠ 232 ∧ k ≠ 227) → W2 k a i = W k a i := fun h => by rw [hW2]; exact ini_o h
  rw [← hW2] at ho1 ⊢
  obtain ⟨w4, hw4⟩ : ∃ w4, w4 = newL W2 o 1 := ⟨_, rfl⟩
  have w4o : ∀ {k : Nat} {a i : Int}, a ≠ o → w4 k a i = W2 k a i := fun h => by rw [hw4]; exact newL_o h
  have t22 : w4 0 o 0 = 22 := by rw [hw4]; unfold newL newA; rw [if_neg (by omega), if_neg (by omega), if_neg (by omega), if_pos ⟨rfl, rfl, rfl⟩]
  have t1 : w4 2 o 0 = 1 := by rw [hw4]; unfold newL newA; rw [if_neg (by omega), if_neg (by omega), if_pos ⟨rfl, rfl, rfl⟩]
  rw [← hw4]
  have ao : ∀ a, W2 0 a 0 ≠ 0 → a ≠ o := fun a ha e => by rw [e] at ha; exact ha ho1
  have u3 : UPd c (fun _ _ => False) W2 w4 := ⟨fun k a i ha _ => w4o (ao a ha), fun k a i ha _ => w4o (ao a ha), fun k i _ => w4o (by omega)⟩
  have I3 : INC c w4 f N := I2.fr u3 CXt.refl (fun _ _ _ z => z)
  have M3 : MCi c w4 f 4 := M2.fr I2.1 u3 CXt.refl (by decide) (fun _ _ _ z => z)
  have hk4 : ∀ a, w4 0 a 0 = 0 → c a = 0 := fun a ha => by
    have a1 : a ≠ o := fun e => by rw [e, t22] at ha; omega
    rw [w4o a1, w2o (Or.inr (by decide))] at ha
    refine hk.1 a ?_
    apply Classical.byContradiction
    intro z
    rw [e1 0 a 0 z] at ha
    exact z ha
  have hRW := h2.rm
  have hR2 : RM W2 (m, fun j => W (500 + j) m 0) := RM_of hRW (fun a => w2o (Or.inr (by decide))) (fun a => w2o (Or.inr (by decide))) (fun k a hk => w2o (Or.inr (by omega)))
  have hm14 : W2 0 m 0 = 14 := hR2.1
  have mo : m ≠ o := ao m (by omega)
  have hR4 : RM w4 (m, fun j => W (500 + j) m 0) := by
    refine ⟨(w4o mo).trans hm14, fun j hj => ?_⟩
    obtain ⟨z1, z2, z3⟩ := hR2.2 j hj
    have z4 : W (500 + j) m 0 ≠ o := ao _ (by rw [z2]; omega)
    exact ⟨(w4o mo).trans z1, (w4o z4).trans z2, (w4o z4).trans z3⟩
  have z0 : ∀ (k : Nat) (i : Int), W k 0 i = 0 := fun k i => by rw [e0, hN.2.2.2, newO_o (by omega)]
  have o0 : (0 : Int) ≠ o := by omega
  have hA : AI (m, fun j => W (500 + j) m 0) w4 := by
    refine ⟨fun k k0 k1 => ?_, fun k i x1 x2 x3 x4 x5 x6 x7 x8 => ?_, ⟨?_, ?_, ?_⟩, fun i i0 i1 => ?_, fun i i0 i1 => ?_, fun i i0 i1 => ?_⟩
    · rw [w4o mo, w2o (Or.inl (by show m ≠ 0; omega)), h2.2.2.2.2.2 k k0 k1]; exact hV k
    · rw [w4o o0, w2o (Or.inr ⟨x3, x4, x5, x6, x7, x8⟩)]; exact z0 k i
    · rw [w4o o0, hW2]; unfold m_ini fl
      rw [if_neg (by decide), if_neg (by decide), if_neg (by decide), up_k _ (by decide), up_k _ (by decide), up_s]
    · rw [w4o o0, hW2]; unfold m_ini fl
      rw [if_neg (by decide), if_neg (by decide), if_neg (by decide), up_k _ (by decide), up_s]
    · rw [w4o o0, hW2]; unfold m_ini fl
      rw [if_neg (by decide), if_neg (by decide), if_neg (by decide), up_s]
    · rw [w4o o0, hW2]; unfold m_ini fl
      rw [if_neg (fun z => absurd z.1 (by decide)), if_neg (fun z => absurd z.1 (by decide)), if_pos ⟨rfl, rfl, i0, by omega⟩]
    · rw [w4o o0, hW2]; unfold m_ini fl
      rw [if_neg (fun z => absurd z.1 (by decide)), if_pos ⟨rfl, rfl, i0, by omega⟩]
    · rw [w4o o0, hW2]; unfold m_ini fl
      rw [if_pos ⟨rfl, rfl, i0, by omega⟩]
  exact ⟨ini_lin I3 M3 hk4 hA hR4.1, hR4, t22, t1⟩
end LWI
