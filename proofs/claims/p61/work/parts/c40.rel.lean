/-! undoIn: what the search leaves, how it begins, how it goes back -/
section UNI
variable {p : RP} {w w1 w' V W A : Mm} {μ : MU} {f a n S P M lo hi T : Int} {x κ : Int → Int} {L : List Int} {PL : Int → List Int}
theorem FDW.upg (h : RLm p μ f L w A) (hd : FDW p μ A w T a w') : UPG f w w' := by
  obtain ⟨⟨e7, eh⟩, -⟩ := hd
  have c13 := h.toF.1
  have c50 : w 0 (w 50 f 0) 0 = 12 := h.1.2.2.2.2.2.1.1
  refine ⟨⟨fun k a i _ z => e7 k a i (by omega) (by omega) (by omega) (by omega) (by omega) (by omega) (by omega), fun k i z => e7 k 0 i (by omega) (by omega) (by omega) (by omega) (by omega) (by omega) (by omega)⟩, fun k _ => eh k f 0 (by omega) (by omega) (Or.inl (by omega)), fun k => eh k _ 0 (by omega) (by omega) (Or.inl (by omega))⟩
/-- what the search may change of the reference -/
def FDV (A V : Mm) : Prop := ∀ (c : Nat) (y i : Int), c ≠ 127 → c ≠ 226 → c ≠ 137 → c ≠ 138 → c ≠ 139 → (c < 241 ∨ 246 < c) → V c y i = A c y i
theorem FDV.o9 {v : Int} (h : FDV A V) : FDV A (up V 139 μ.1 0 v) := fun c y i z1 z2 z3 z4 z5 z6 => by rw [up_k _ z5]; exact h c y i z1 z2 z3 z4 z5 z6
theorem fdi_ok (hTX : TI μ PL A) (hT : TB μ M A) (hM : M ≤ 600) (h8 : 0 ≤ A 137 μ.1 0 ∧ A 137 μ.1 0 ≤ 8) (hTc : bTc 150010000 A) : FDV A (m_fdI μ PL lo hi A).2 ∧ (0 ≤ (m_fdI μ PL lo hi A).2 137 μ.1 0 ∧ (m_fdI μ PL lo hi A).2 137 μ.1 0 ≤ 8) ∧ bTc 150010000 (m_fdI μ PL lo hi A).2 := by
  have hcur := hTX.1.cur hT
  obtain ⟨q1, q2, q3, q4⟩ := hTX.rq hT hM hcur
  have q5 : (RSx PL (A 126 μ.1 0) A).length ≤ 30000 := by have := hT.2.2.2.2.1; omega
  have ht1 := hT.1
  have ht3 := hT.2.2.1
  have hx0 := pln_rng hT.pr _ (A 126 μ.1 0) (Nat.le_refl _) (by omega) (by omega)
  have hf := FRt.fdR (μ := μ) (PL := PL) (x := A 126 μ.1 0) (lo := lo) (hi := hi) hT (by omega) hT.2.2.1 q1.1 q5 (m_pln A (A 126 μ.1 0) - 1).toNat (m_fin μ (A 126 μ.1 0) A) (by omega) (fun _ _ _ _ _ _ => rfl) (by rw [fin_at (by decide)]; exact h8) (fun t a b => by rw [fin_at (by decide), fin_at (by decide)]; exact hTc t a b)
  refine ⟨fun c y i z1 z2 z3 z4 z5 z6 => ?_, hf.2⟩
  have e := hf.1 c y i z3 z4 z6
  rw [fin_at ⟨z1, z2⟩] at e
  exact e
theorem CHB.fdv (h : CHB p μ f (lvL p μ A) w A) (hT : TB μ M A) (hM : M ≤ 600) (hB : LB μ S P A) (s1 : SB 1 A) (e : FDV A V) : CHB p μ f (lvL p μ V) w V := by
  have e' : ∀ {c : Nat} {y i : Int}, c ≠ 127 → c ≠ 226 → c ≠ 137 → c ≠ 138 → c ≠ 139 → (c < 241 ∨ 246 < c) → V c y i = A c y i := fun z1 z2 z3 z4 z5 z6 => e _ _ _ z1 z2 z3 z4 z5 z6
  have hl := h.2.2.1.2.2.2.1
  refine h.cgA (h.1.cE hl ⟨fun c z1 z2 z3 => e' z3 (by omega) (by omega) (by omega) (by omega) (by omega), fun c i z => e' (by omega) (by omega) (by omega) (by omega) (by omega) (by omega)⟩ (fun i => e' (by decide) (by decide) (by decide) (by decide) (by decide) (by decide)) (e' (by decide) (by decide) (by decide) (by decide) (by decide) (by decide)) (fun k _ _ => e' (by decide) (by decide) (by decide) (by decide) (by decide) (by decide)) ?_ (e' (by decide) (by decide) (by decide) (by decide) (by decide) (by decide)) (e' (by decide) (by decide) (by decide) (by decide) (by decide) (by decide)) (fun j _ _ => ⟨e' (by decide) (by decide) (by decide) (by decide) (by decide) (by decide), e' (by decide) (by decide) (by decide) (by decide) (by decide) (by decide)⟩)) hT hM s1 (fun c y i z => e' (by omega) (by omega) (by omega) (by omega) (by omega) (by omega))
  have g : ∀ (k : Nat) (j : Int), 200 ≤ k → k ≤ 206 → V k 0 j = A k 0 j := fun k j z1 z2 => e' (by omega) (by omega) (by omega) (by omega) (by omega) (by omega)
  refine ⟨(g 201 _ (by decide) (by decide)).symm, fun i _ _ => (g 200 _ (by decide) (by decide)).symm, fun i _ _ => ⟨(g 202 _ (by decide) (by decide)).symm, fun _ => (g 203 _ (by decide) (by decide)).symm⟩, fun r _ _ _ => ⟨(g 204 _ (by decide) (by decide)).symm, fun e _ _ => ⟨(g 205 _ (by decide) (by decide)).symm, fun i _ _ => (g 206 _ (by decide) (by decide)).symm⟩⟩⟩
theorem CHB.un (h : CHB p μ f (lvL p μ A) w A) (hB : RB μ S P M A) (hM : M ≤ 598) (h8 : 0 ≤ A 137 μ.1 0 ∧ A 137 μ.1 0 ≤ 8) (hTc : bTc 150010000 A) : UN μ (pl_ p) A := by
  have hT := hB.2.1.2.2.2.1
  have hTI := h.2.1.1.1
  refine ⟨hTI.1, fun k k0 k1 k2 => hTI.rq hT (by omega) ⟨⟨k0, k1⟩, k2⟩, h.2.2.1.2.2.1, fun z => ?_, hTc, h8⟩
  have hl := hB.2.2.1.2.2.2.2 z
  have e1 := h.2.2.2.2.1.1
  have e2 := (h.2.1.2 _ (hTI.1.cur hT)).1.1.1
  have e0 : LVl μ A = [] := by
    unfold LVl
    rw [show lvN μ A = 0 by unfold lvN; omega]
    rfl
  rw [e0] at e1
  rw [← e2, ← e1]
  show _ = SWp (pr_ p (A 126 μ.1 0)) A 201 0 1
  unfold SWp
  rw [if_pos (by decide)]
theorem TRr.tro (h : TRr μ x (ps_ p) κ A n w V) (e1 : ∀ i, 0 ≤ i → i < n → w1 73 (x i) 0 = w 73 (x i) 0 ∧ w1 74 (x i) 0 = w 74 (x i) 0 ∧ w1 76 (x i) 0 = w 76 (x i) 0 ∧ w1 36 (x i) 0 = w 36 (x i) 0) (e2 : ∀ (c : Nat) (i : Int), c = 241 ∨ c = 242 ∨ c = 243 ∨ c = 244 ∨ c = 245 ∨ c = 246 → W c 0 i = V c 0 i) (e3 : ∀ k, 0 ≤ k → k < W 122 μ.1 0 → W 212 0 k = A 212 0 k) (hκ : ∀ i, 0 ≤ i → i < n → 0 ≤ κ i ∧ κ i < W 122 μ.1 0) : TRo p μ x κ n n w1 W := fun i i0 i1 => by
  obtain ⟨h1, -, -, n0, n8⟩ := h
  obtain ⟨⟨a1, a2, a3⟩, ⟨a4, a5⟩, a6, a7, a8, a9, a10⟩ := h1 i i0 i1
  obtain ⟨b1, b2, b3, b4⟩ := e1 i i0 i1
  have hp := (pw_le ⟨n.toNat, by omega⟩).2.1
  have hp : pw n ≤ 256 := by rw [show ((⟨n.toNat, by omega⟩ : Fin 9).val : Int) = n from by show (n.toNat : Int) = n; omega] at hp; exact hp
  have ek := e3 _ (hκ i i0 i1).1 (hκ i i0 i1).2
  have g : ∀ {c : Nat} {i : Int}, c = 241 ∨ c = 242 ∨ c = 243 ∨ c = 244 ∨ c = 245 ∨ c = 246 → W c 0 i = V c 0 i := fun z => e2 _ _ z
  rw [b1, b2, b3, b4, g (c := 244) (by decide), g (c := 245) (by decide), g (c := 241) (i := i) (by decide), g (c := 242) (by decide), g (c := 243) (i := i) (by decide), ek]
  refine ⟨⟨a1, a2, a3⟩, ⟨a4, by omega⟩, fun j j0 j1 => ?_, a7, a8, a9, a10, hκ i i0 i1⟩
  rw [g (c := 241) (by decide), g (c := 243) (by decide), g (c := 246) (by decide)]
  exact a6 j j0 j1
theorem RLm.ixr (h : RLm p μ f L w A) (ha : alv μ A a) {i : Int} (hi : i ∈ ixN A (pl_ p a)) : 0 ≤ i ∧ i < A 122 μ.1 0 := (h.nd ha).2.2.2.2 i hi
/-- the call goes back, nothing having been told -/
theorem CHK.res (h : CHK p μ f w A) (hT : TB μ M A) (hM : M ≤ 600) (s1 : SB 1 A) (h2 : SB 2 A) (hSB : SB 0 A) (hp : ∃ W, TM (w 11 (w 41 f 0) 0) (w 11 (w 42 f 0) 0) w W ∧ w' = q_ext (w 12 (w 41 f 0) 0) (w 12 (w 42 f 0) 0) (d_copy (w 41 f 0) (w 42 f 0) (t_all (w 11 (w 41 f 0) 0) (w 11 (w 42 f 0) 0) 8 W) 4)) : CHB p μ f (lvL p μ (m_rest μ 2 1 A)) w' (m_rest μ 2 1 A) ∧ UPG f w w' := by
  have kb := h.kpb h2
  obtain ⟨⟨hr, hTX, hLV⟩, ⟨⟨k1, k2⟩, k3, k4⟩, hLR⟩ := h
  have hl := hLV.1.2.2.2.1
  have hr' := hr
  rw [show lvL p μ A = lvK (ps_ p) μ A 2 ++ (rng (A 120 μ.1 0 - A 214 0 2).toNat (A 214 0 2)).map (ps_ p) from lvK_pre k3] at hr'
  obtain ⟨r1, r2⟩ := hr'.restP hl hSB.2.2.2.2.1 h2.2.2.2.2.1 (Or.inl ⟨rfl, rfl, rfl⟩) k1 k2 kb.2.2.1 k3.2 hp
  have r0 : ∀ {c : Nat} {x i : Int}, (c < 200 ∧ c ≠ 120 ∧ c ≠ 121) ∨ 210 < c → m_rest μ 2 1 A c x i = A c x i := fun z => rest_at z
  have el : lvK (ps_ p) μ A 2 = lvL p μ (m_rest μ 2 1 A) := by
    show lvK (ps_ p) μ A 2 = (rng (m_rest μ 2 1 A 120 μ.1 0 - m_rest μ 2 1 A 122 μ.1 0).toNat (m_rest μ 2 1 A 122 μ.1 0)).map (ps_ p)
    rw [rest_120.1, r0 (by decide)]
    rfl
  have tR : TSx μ A (m_rest μ 2 1 A) := TSx.of (fun c a i z => r0 (by omega)) (fun i i0 i1 => r0 (by decide)) (fun j j0 j1 => pby_cong (r0 (by decide)))
  refine ⟨⟨by rw [← el]; exact r1, ?_, ?_⟩, r2.toG hr.1.2.1.1 hr.1.2.2.2.2.2.1 (fun k z1 z => by unfold SDb at z; omega) (fun k z => by unfold SDb at z; omega)⟩
  · exact hTX.app hT hM s1 hLV.1.2.1 hLV.1.2.2.1 tR hLR.1.2.2.1 (fun k k0 k1 => rfl)
  · rw [r0 (c := 126) (by decide)]; exact hLR
end UNI
