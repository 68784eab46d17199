/-! typing goes on in the class: the step grows, the chains are joined -/
def SXa (cu n0 : Int) (b : Int) (k : Nat) : Prop := ((b = 16 ∨ b = 1000 + 10 * cu + 6) ∧ (k = 34 ∨ k = 35 ∨ k = 71 ∨ k = 72)) ∨ (b = -n0 ∧ k = 33)
def exS (σ : Int → Int) (n0 : Int) : Int → Int := fun k => if k < n0 then σ k else σ (k + 1)
def rcx (n0 b : Int) : Int := if b = -(n0 + 1) then 2 else if b < -(n0 + 1) then b + 1 else b
section EXD
variable {p : RP} {c c' c1 σ σ' ν al : Int → Int} {ρ : Int → Mm} {PL : Int → List Int} {G G' : Int → Int → Int} {S : Int → Nat → Prop} {w W wb w' V A A' Ay R : Mm} {μ : MU} {f t o x cu n0 p0 v0 v M k s b d i q m : Int} {L N : List Int}
theorem exS_rng : ∀ (m : Nat) (i : Int), n0 ≤ i → (rng m i).map (exS σ n0) = (rng m (i + 1)).map σ
  | 0, _, _ => rfl
  | m + 1, i, h => by
    show exS σ n0 i :: _ = σ (i + 1) :: _
    rw [exS_rng m (i + 1) (by omega)]
    congr 1
    unfold exS; rw [if_neg (by omega)]
theorem SXa.no (hcu : 1 ≤ cu) (h0 : 1 ≤ n0) (hb : b = 0 ∨ b = 1 ∨ (2 ≤ b ∧ b ≤ 15) ∨ (17 ≤ b ∧ b ≤ 999) ∨ (1000 ≤ b ∧ b ≠ 1000 + 10 * cu + 6)) (k : Nat) : ¬ SXa cu n0 b k := fun z => by unfold SXa at z; omega
set_option maxHeartbeats 1000000 in
/-- the chains -/
theorem RLm.ch (h : RLm p μ f (lvL p μ V) w V) (hX : EXo μ M (pr_ p) (pg_ p) (pl_ p) V R Ay n0 p0 v0)
    (hw : wb = q_emp (w 12 (w 41 f 0) 0) (q_join (w 25 (pn_ p (V 126 μ.1 0)) 0) (w 12 (w 41 f 0) 0) (q_drop (w 12 (w 41 f 0) 0) w))) :
    (UPd (pc_ p) (SXa (V 126 μ.1 0) n0) w wb ∧ ∀ a, wb 0 a 0 = w 0 a 0) ∧ RLn (pc_ p) (ps_ p) (pg_ p) μ f [] wb V ∧ vQs wb (w 25 (pn_ p (V 126 μ.1 0)) 0) (ps_ p (n0 - 1) :: (rng (lvN μ V - 1) (n0 + 1)).map (ps_ p)) ∧ ixN V (pl_ p (V 126 μ.1 0)) = [n0 - 1] := by
  obtain ⟨hn, ⟨t1, t2⟩, t3, t4⟩ := RLm.spl.mp h
  obtain ⟨hK, hS, ⟨g1, g2, g3⟩, ⟨n4, n5, n6, n7, n8, n9⟩, ⟨⟨w1, w2⟩, hp, hv⟩, -, hTb⟩ := id hX
  have hR1 := hS.2.1
  have hT := hK.2.2.1
  have hcur := hK.1.1.1.1.cur hT
  obtain ⟨-, eN, eM⟩ := ex_LV hX
  have hf := hn.2.1.1.1
  obtain ⟨⟨k1, k2⟩, hsS, k3, ⟨k4, k5⟩, k6, k7⟩ := id hn.2.1.2.1.1
  obtain ⟨hV0, hQ0, hL0⟩ := hn.2.2.2.1
  have hSp := hn.2.2.2.2
  obtain ⟨⟨⟨⟨x1, x2⟩, x3⟩, -, ⟨x4, x5⟩, -⟩, z2, -⟩ := vNd.z.mp (h.nd hcur)
  have hIx : ixN V (pl_ p (V 126 μ.1 0)) = [n0 - 1] := by
    rw [g1]; show rng _ _ ++ [] = _; rw [n6, n5]; rfl
  rw [hIx] at z2
  obtain ⟨tl, htl⟩ : ∃ tl, tl = w 12 (w 41 f 0) 0 := ⟨_, rfl⟩
  obtain ⟨tc, htc⟩ : ∃ tc, tc = w 25 (pn_ p (V 126 μ.1 0)) 0 := ⟨_, rfl⟩
  rw [← htl] at k4 k5 hQ0
  rw [← htc] at x4 x5 z2
  rw [← htl, ← htc] at hw
  rw [← htc]
  have hne : tc ≠ tl := fun e => by rw [e] at x5; omega
  have eL : lvL p μ V = ps_ p n0 :: (rng (lvN μ V - 1) (n0 + 1)).map (ps_ p) := by
    unfold lvL
    rw [show (V 120 μ.1 0 - V 122 μ.1 0).toNat = (lvN μ V - 1) + 1 from eN, n4]; rfl
  obtain ⟨N, hN⟩ : ∃ N, N = (rng (lvN μ V - 1) (n0 + 1)).map (ps_ p) := ⟨_, rfl⟩
  rw [← hN] at eL
  rw [← hN]
  rw [eL] at hQ0
  have hs0 := hSp n0 (by omega) (by omega)
  have h68 : w 68 (ps_ p n0) 0 ≤ 3 := by
    rw [hs0.2.1, w2, show (0 + 8 * (p0 + v0) + 4096 * 1) % 8 = 0 by omega]; decide
  obtain ⟨wd, hwd⟩ : ∃ wd, wd = q_drop tl w := ⟨_, rfl⟩
  obtain ⟨wj, hwj⟩ : ∃ wj, wj = q_join tc tl wd := ⟨_, rfl⟩
  rw [← hwd, ← hwj] at hw
  have e1 : vQs wd tl N := by rw [hwd]; exact q_drop_Q hQ0 h68
  have da : ∀ {k : Nat} {a i : Int}, a ≠ tl → wd k a i = w k a i := fun z => by rw [hwd]; exact q_drop_a z
  have dk : ∀ {k : Nat} {a i : Int}, k ≠ 34 → k ≠ 35 → k ≠ 71 → k ≠ 72 → wd k a i = w k a i := fun z1 z2 z3 z4 => by rw [hwd]; exact q_drop_k z1 z2 z3 z4
  have e2 : vQs wd tc [ps_ p (n0 - 1)] := z2.cg (da hne) (da hne) (da hne) (da hne) (fun x _ => ⟨dk (by decide) (by decide) (by decide) (by decide), dk (by decide) (by decide) (by decide) (by decide)⟩) (fun x _ => dk (by decide) (by decide) (by decide) (by decide))
  have hd0 := hSp (n0 - 1) (by omega) (by omega)
  have e3 : vQs wj tc ([ps_ p (n0 - 1)] ++ N) := by
    rw [hwj]
    refine q_join_Q e2 e1 fun z hz hm => ?_
    rw [List.mem_singleton] at hm
    rw [hN] at hz
    obtain ⟨i, hi, rfl⟩ := List.mem_map.mp hz
    rw [rng_mem] at hi
    have ci := (hSp i (by omega) (by omega)).1.2
    rw [hm, hd0.1.2] at ci
    omega
  have ba : ∀ {k : Nat} {a i : Int}, a ≠ tl → wb k a i = wj k a i := fun z => by rw [hw]; unfold q_emp; rw [up_a _ _ _ z, up_a _ _ _ z, up_a _ _ _ z, up_a _ _ _ z]
  have bk : ∀ {k : Nat} {a i : Int}, k ≠ 34 → k ≠ 35 → k ≠ 71 → k ≠ 72 → wb k a i = wj k a i := fun z1 z2 z3 z4 => by rw [hw]; unfold q_emp; rw [up_k _ z4, up_k _ z3, up_k _ z2, up_k _ z1]
  have e4 : vQs wb tc ([ps_ p (n0 - 1)] ++ N) := e3.cg (ba hne) (ba hne) (ba hne) (ba hne) (fun x _ => ⟨bk (by decide) (by decide) (by decide) (by decide), bk (by decide) (by decide) (by decide) (by decide)⟩) (fun x _ => bk (by decide) (by decide) (by decide) (by decide))
  have e5 : vQs wb tl [] := by
    refine ⟨?_, ?_, ?_, ?_, fun x hx => absurd hx List.not_mem_nil⟩
    · show wb 34 _ 0 = 0; rw [hw]; unfold q_emp; rw [up_k _ (by decide), up_k _ (by decide), up_k _ (by decide), up_s]
    · show wb 35 _ 0 = 0; rw [hw]; unfold q_emp; rw [up_k _ (by decide), up_k _ (by decide), up_s]
    · show wb 71 _ 0 = 0; rw [hw]; unfold q_emp; rw [up_k _ (by decide), up_s]
    · show wb 72 _ 0 = 0; rw [hw]; unfold q_emp; rw [up_s]
  have s16 : ∀ {k : Nat}, (k = 34 ∨ k = 35 ∨ k = 71 ∨ k = 72) → SXa (V 126 μ.1 0) n0 (pc_ p tl) k := fun z => by rw [k5]; exact Or.inl ⟨Or.inl (by omega), z⟩
  have stc : ∀ {k : Nat}, (k = 34 ∨ k = 35 ∨ k = 71 ∨ k = 72) → SXa (V 126 μ.1 0) n0 (pc_ p tc) k := fun z => by rw [x5]; exact Or.inl ⟨Or.inr rfl, z⟩
  have u1 : UPd (pc_ p) (SXa (V 126 μ.1 0) n0) w wd := by
    rw [hwd]; exact q_drop_u UPd.refl ⟨s16 (by decide), s16 (by decide), s16 (by decide), s16 (by decide)⟩
  have u2 : UPd (pc_ p) (SXa (V 126 μ.1 0) n0) w wj := by
    rw [hwj]
    refine q_join_u u1 ⟨stc (by decide), stc (by decide), stc (by decide), stc (by decide)⟩ (Or.inr ?_)
    have : wd 35 tc 0 = ps_ p (n0 - 1) := e2.2.1
    rw [this, hd0.1.2]; unfold SXa; omega
  have u : UPd (pc_ p) (SXa (V 126 μ.1 0) n0) w wb := by
    rw [hw]; unfold q_emp
    exact (((u2.sU (by decide) (Or.inr (s16 (by decide)))).sU (by decide) (Or.inr (s16 (by decide)))).sU (by decide) (Or.inr (s16 (by decide)))).sU (by decide) (Or.inr (s16 (by decide)))
  have w0 : ∀ a, wb 0 a 0 = w 0 a 0 := fun a => by
    rw [bk (by decide) (by decide) (by decide) (by decide), hwj, q_join_k (by decide) (by decide) (by decide) (by decide) (by decide)]
    exact dk (by decide) (by decide) (by decide) (by decide)
  have no := fun (b : Int) z (k : Nat) => SXa.no (cu := V 126 μ.1 0) (n0 := n0) (b := b) g2 n8 z k
  have g41 : wb 41 f 0 = w 41 f 0 := u.g (by omega) hf.2 (no 1 (by omega) _)
  have g12 : wb 12 (w 41 f 0) 0 = w 12 (w 41 f 0) 0 := u.g (by omega) k2 (no 10 (by omega) _)
  refine ⟨⟨u, w0⟩, ?_, e4, hIx⟩
  refine hn.fr u CXt.refl (fun b k z => by unfold SXa at z; unfold STe; omega) (fun a ha => hn.1 a (by rw [← w0]; exact ha)) (fun _ _ _ => rfl) rfl (fun _ _ _ => rfl) ?_ ?_ ⟨?_, ?_, fun y hy => absurd hy List.not_mem_nil⟩
  · exact hn.2.1.1.frn u CXt.refl (fun k _ => no 1 (by omega) k) (fun k => no 40 (by omega) k) (fun _ _ _ => rfl) (fun _ => rfl)
  · exact hn.2.1.2.frn hf u CXt.refl (fun k _ => no 1 (by omega) k) (fun b k z1 z2 z3 => no b (by omega) k)
  · rw [g41]
    exact hV0.fr hn.2.1.2.1.1 u CXt.refl (fun b' k z1 z2 z3 => no b' (by omega) k) (fun k => no 0 (by omega) k)
  · rw [g41, g12, ← htl]; exact e5
end EXD
