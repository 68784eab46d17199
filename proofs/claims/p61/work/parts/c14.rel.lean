/-! typing goes on in the class: chains; codes of steps change -/
section EXC
variable {p : RP} {c c' c1 σ σ' ν al : Int → Int} {ρ : Int → Mm} {PL : Int → List Int} {G G' : Int → Int → Int} {S : Int → Nat → Prop} {w W wb w' V A A' Ay R : Mm} {μ : MU} {f t o x cu n0 v M k s b d i q m : Int} {L N : List Int}
theorem q_drop_k {k : Nat} {a i : Int} (h1 : k ≠ 34) (h2 : k ≠ 35) (h3 : k ≠ 71) (h4 : k ≠ 72) : q_drop o w k a i = w k a i := by
  unfold q_drop
  split
  · rfl
  · dsimp only
    rw [up_k _ h4, up_k _ h3]
    split
    · rw [up_k _ h2, up_k _ h1]
    · rw [up_k _ h1]
theorem q_drop_a {k : Nat} {a i : Int} (h : a ≠ o) : q_drop o w k a i = w k a i := by
  unfold q_drop
  split
  · rfl
  · dsimp only
    rw [up_a _ _ _ h, up_a _ _ _ h]
    split
    · rw [up_a _ _ _ h, up_a _ _ _ h]
    · rw [up_a _ _ _ h]
theorem q_drop_u (u : UPd c S w W) (h : S (c o) 34 ∧ S (c o) 35 ∧ S (c o) 71 ∧ S (c o) 72) : UPd c S w (q_drop o W) := by
  unfold q_drop
  split
  · exact u
  · dsimp only
    split
    · exact (((u.sU (by decide) (Or.inr h.1)).sU (by decide) (Or.inr h.2.1)).sU (by decide) (Or.inr h.2.2.1)).sU (by decide) (Or.inr h.2.2.2)
    · exact ((u.sU (by decide) (Or.inr h.1)).sU (by decide) (Or.inr h.2.2.1)).sU (by decide) (Or.inr h.2.2.2)
theorem q_drop_Q (ho : vQs w o (x :: N)) (hx : w 68 x 0 ≤ 3) : vQs (q_drop o w) o N := by
  obtain ⟨⟨⟨h1, h2⟩, h3⟩, h4, h5, h6, h7⟩ := ho
  obtain ⟨W2, hW⟩ : ∃ W2, W2 = (if w 33 x 0 = 0 then up (up w 34 o 0 (w 33 x 0)) 35 o 0 0 else up w 34 o 0 (w 33 x 0)) := ⟨_, rfl⟩
  have e : q_drop o w = up (up W2 71 o 0 (w 71 o 0 - 1)) 72 o 0 (w 72 o 0 - 1) := by
    unfold q_drop
    rw [if_neg (by rw [h1]; exact h2), h1, hW]
  have k2 : ∀ (k : Nat) (a i : Int), k ≠ 34 → k ≠ 35 → W2 k a i = w k a i := fun k a i z1 z2 => by
    rw [hW]; split
    · rw [up_k _ z2, up_k _ z1]
    · rw [up_k _ z1]
  have e34 : W2 34 o 0 = w 33 x 0 := by
    rw [hW]; split
    · rw [up_k _ (by decide), up_s]
    · rw [up_s]
  have e35 : W2 35 o 0 = lsA N := by
    cases N with
    | nil =>
      have z : w 33 x 0 = 0 := h3
      rw [hW, if_pos z, up_s]; rfl
    | cons y ys =>
      have hy : w 33 x 0 ≠ 0 := by rw [h3.1.1]; exact h3.1.2
      rw [hW, if_neg hy, up_k _ (by decide), h4]; rfl
  rw [e]
  refine ⟨?_, ?_, ?_, ?_, fun z hz => ?_⟩
  · rw [up_k _ (by decide), up_k _ (by decide), e34]
    exact CHa.cg h3 (fun z _ => by rw [up_k _ (by decide), up_k _ (by decide), k2 _ _ _ (by decide) (by decide)])
  · rw [up_k _ (by decide), up_k _ (by decide)]; exact e35
  · rw [up_k _ (by decide), up_s, h5, List.length_cons]; omega
  · rw [up_s, h6]
    show (if w 68 x 0 ≤ 3 then 1 else 0) + tcA w N - 1 = tcA _ N
    have ec := tcA_cg (L := N) (w' := up (up W2 71 o 0 (w 71 o 0 - 1)) 72 o 0 (tcA w (x :: N) - 1)) (w := w) (fun z _ => by rw [up_k _ (by decide), up_k _ (by decide), k2 _ _ _ (by decide) (by decide)])
    rw [if_pos hx, ec]
    omega
  · rw [up_k _ (by decide), up_k _ (by decide), k2 _ _ _ (by decide) (by decide)]; exact h7 z (List.mem_cons_of_mem _ hz)
theorem q_drop_70 : q_drop o (up w 70 s 0 v) = up (q_drop o w) 70 s 0 v := by
  have r : ∀ (k : Nat) (a i : Int), k ≠ 70 → up w 70 s 0 v k a i = w k a i := fun k a i z => up_k _ z _ _ _ _ _
  unfold q_drop
  rw [r 34 _ _ (by decide), r 33 _ _ (by decide), r 71 _ _ (by decide), r 72 _ _ (by decide)]
  dsimp only
  split
  · rfl
  · split
    · rw [up_comm (c := 70) (c' := 34) (Or.inl (by decide)), up_comm (c := 70) (c' := 35) (Or.inl (by decide)), up_comm (c := 70) (c' := 71) (Or.inl (by decide)), up_comm (c := 70) (c' := 72) (Or.inl (by decide))]
    · rw [up_comm (c := 70) (c' := 34) (Or.inl (by decide)), up_comm (c := 70) (c' := 71) (Or.inl (by decide)), up_comm (c := 70) (c' := 72) (Or.inl (by decide))]
theorem q_join_70 : q_join t o (up w 70 s 0 v) = up (q_join t o w) 70 s 0 v := by
  have r : ∀ (k : Nat) (a i : Int), k ≠ 70 → up w 70 s 0 v k a i = w k a i := fun k a i z => up_k _ z _ _ _ _ _
  unfold q_join
  rw [r 34 _ _ (by decide), r 35 _ _ (by decide), r 35 _ _ (by decide), r 71 _ _ (by decide), r 71 _ _ (by decide), r 72 _ _ (by decide), r 72 _ _ (by decide)]
  dsimp only
  split
  · rfl
  · split
    · rw [up_comm (c := 70) (c' := 34) (Or.inl (by decide)), up_comm (c := 70) (c' := 35) (Or.inl (by decide)), up_comm (c := 70) (c' := 71) (Or.inl (by decide)), up_comm (c := 70) (c' := 72) (Or.inl (by decide))]
    · rw [up_comm (c := 70) (c' := 33) (Or.inl (by decide)), up_comm (c := 70) (c' := 35) (Or.inl (by decide)), up_comm (c := 70) (c' := 71) (Or.inl (by decide)), up_comm (c := 70) (c' := 72) (Or.inl (by decide))]
theorem q_emp_70 : q_emp o (up w 70 s 0 v) = up (q_emp o w) 70 s 0 v := by
  unfold q_emp
  rw [up_comm (c := 70) (c' := 34) (Or.inl (by decide)), up_comm (c := 70) (c' := 35) (Or.inl (by decide)), up_comm (c := 70) (c' := 71) (Or.inl (by decide)), up_comm (c := 70) (c' := 72) (Or.inl (by decide))]
/-- codes of steps alone are others -/
def RCn (w : Mm) (c c' : Int → Int) : Prop := ∀ a, w 0 a 0 ≠ 0 → w 0 a 0 ≠ 7 → c' a = c a
theorem vCh.rcn {F : Int → Int} {n : Int} (h : vCh c w q n F) (k : RCn w c c') : vCh c' w q n F := by
  obtain ⟨⟨a1, a2⟩, ⟨b1, b2⟩, h3, h4⟩ := h
  exact ⟨⟨a1, (k _ (by omega) (by omega)).trans a2⟩, ⟨b1, (k _ (by omega) (by omega)).trans b2⟩, h3, h4⟩
theorem sSt.rcn (h : sSt c b w s) (k : RCn w c c') : sSt c' b w s := by
  obtain ⟨⟨a1, a2⟩, ⟨b1, b2⟩, ⟨c1, c2, c3⟩, ⟨d1, d2, d3⟩, e1, e2, e3⟩ := h
  exact ⟨⟨a1, (k _ (by omega) (by omega)).trans a2⟩, ⟨b1, (k _ (by omega) (by omega)).trans b2⟩, ⟨c1, c2, (k _ (by omega) (by omega)).trans c3⟩, ⟨d1, d2, (k _ (by omega) (by omega)).trans d3⟩, e1, e2, (k _ (by omega) (by omega)).trans e3⟩
theorem vSt.rcn (h : vSt c w s V i) (k : RCn w c c') : vSt c' w s V i := ⟨h.1, fun r r0 r1 => ⟨(h.2 r r0 r1).1, fun e e0 e1 => ⟨fun y => (((h.2 r r0 r1).2 e e0 e1).1 y).rcn k, ((h.2 r r0 r1).2 e e0 e1).2⟩⟩⟩
theorem sDk.rcn (h : sDk c b w d) (k : RCn w c c') : sDk c' b w d := by
  obtain ⟨⟨a1, a2⟩, hS, h2, ⟨b1, b2⟩, ⟨c1, c2, c3⟩, d1, d2, d3⟩ := h
  exact ⟨⟨a1, (k _ (by omega) (by omega)).trans a2⟩, hS.rcn k, h2, ⟨b1, (k _ (by omega) (by omega)).trans b2⟩, ⟨c1, c2, (k _ (by omega) (by omega)).trans c3⟩, d1, d2, (k _ (by omega) (by omega)).trans d3⟩
theorem vMc.rcn (h : vMc c b w A q m) (k : RCn w c c') : vMc c' b w A q m := by
  obtain ⟨⟨h1, x0, x1, x2, x3⟩, h3, h4⟩ := h
  obtain ⟨t1, ⟨t2, t3, t4⟩, -⟩ := id h1
  exact ⟨⟨h1, (k _ (by omega) (by omega)).trans x0, (k _ (by omega) (by omega)).trans x1, (k _ (by omega) (by omega)).trans x2, (k _ (by omega) (by omega)).trans x3⟩, h3, h4⟩
theorem sTr.rcn {T : Int} (h : sTr c w T) (k : RCn w c c') : sTr c' w T := by
  obtain ⟨⟨a1, a2⟩, ⟨b1, b2⟩, ⟨c1, c2⟩, d1, d2, d3⟩ := h
  exact ⟨⟨a1, (k _ (by omega) (by omega)).trans a2⟩, ⟨b1, (k _ (by omega) (by omega)).trans b2⟩, ⟨c1, (k _ (by omega) (by omega)).trans c2⟩, d1, d2, (k _ (by omega) (by omega)).trans d3⟩
/-- a step's size and codes of steps alone are others; what the reference has for it -/
theorem RLn.xc (h : RLn c σ G μ f [] w A) (k : RCn w c c1) (c0 : ∀ a, w 0 a 0 = 0 → c1 a = 0) (e : ∀ (k : Nat) (a i : Int), k ≠ 70 → w' k a i = w k a i) (eA : ∀ (c : Nat) (a i : Int), (c ≠ 240 ∧ c ≠ 136 ∧ c ≠ 212 ∧ c ≠ 120 ∧ c ≠ 234) ∧ (c ≠ 220 ∧ c ≠ 122 ∧ c ≠ 123) → A' c a i = A c a i) (hS : ∀ k, 0 ≤ k → k < A' 120 μ.1 0 → vSp c1 σ' G' w' A' k) : RLn c1 σ' G' μ f [] w' A' := by
  obtain ⟨-, ⟨⟨hf, ⟨h1, h2, h3⟩, hs⟩, ⟨a1, a2⟩, ⟨b1, b2⟩, d1, d2⟩, ⟨⟨⟨m1, m2, m3⟩, m4, m5⟩, t1, ⟨⟨q1, q2⟩, ⟨q3, q4, q5⟩, q6, q7⟩, ⟨⟨l1, l2, l3, l4, l5, l6, l7, l8⟩, l9⟩⟩, ⟨v1, v2, v3⟩, -⟩ := h
  have hSc : vSc c1 μ w A f := ⟨⟨hf.1, (k _ (by omega) (by omega)).trans hf.2⟩, ⟨h1, h2, (k _ (by omega) (by omega)).trans h3⟩, hs⟩
  have hD : rDk c1 w f := ⟨⟨a1.rcn k, a2⟩, ⟨b1.rcn k, b2⟩, d1.rcn k, d2⟩
  have hM : vMs c1 w A f := ⟨⟨m1, m2, (k _ (by omega) (by omega)).trans m3⟩, fun m m0 m1 => (m4 m m0 m1).rcn k, m5.rcn k⟩
  have hTl : sTl c1 w f := ⟨t1.1, (k _ (by have := t1.1; omega) (by have := t1.1; omega)).trans t1.2⟩
  have hTs : vTs c1 w (w 47 f 0) := ⟨⟨q1, (k _ (by omega) (by omega)).trans q2⟩, ⟨q3, q4, (k _ (by omega) (by omega)).trans q5⟩, fun i i0 i1 => ⟨(q6 i i0 i1).1, (k _ (by have := (q6 i i0 i1).1; omega) (by have := (q6 i i0 i1).1; omega)).trans (q6 i i0 i1).2⟩, q7⟩
  have hL : vLs c1 w A (w 46 f 0) := by
    obtain ⟨t1, ⟨t2, t3, t4, t5, t6, t7⟩, -⟩ := id l1
    exact ⟨⟨l1, (k _ (by omega) (by omega)).trans l2, (k _ (by omega) (by omega)).trans l3, (k _ (by omega) (by omega)).trans l4, (k _ (by omega) (by omega)).trans l5, (k _ (by omega) (by omega)).trans l6, (k _ (by omega) (by omega)).trans l7, (k _ (by omega) (by omega)).trans l8⟩, l9⟩
  have hV : vDk c1 w (w 41 f 0) A 0 := ⟨v1.1.rcn k, v1.2⟩
  refine ⟨fun a ha => c0 a (by rw [← e 0 a 0 (by decide)]; exact ha), ⟨?_, ?_⟩, ⟨?_, ?_, ?_, ?_⟩, ⟨?_, ?_, fun y hy => absurd hy List.not_mem_nil⟩, hS⟩
  · have h := hSc
    unfold vSc at h ⊢
    simp (disch := decide) only [e, eA]; exact h
  · have h := hD
    unfold rDk sDk bDk sSt at h ⊢
    simp (disch := decide) only [e, eA]; exact h
  · have h := hM
    unfold vMs vMc MT at h ⊢
    simp (disch := decide) only [e, eA]; exact h
  · have h := hTl
    unfold sTl at h ⊢
    simp (disch := decide) only [e]; exact h
  · have h := hTs
    unfold vTs at h ⊢
    simp (disch := decide) only [e]; exact h
  · have h := hL
    unfold vLs LT at h ⊢
    simp (disch := decide) only [e, eA]; exact h
  · have h := hV
    unfold vDk vSt vTx vSr vCh at h ⊢
    simp (disch := decide) only [e, eA]; exact h
  · rw [e 41 _ _ (by decide), e 12 _ _ (by decide)]
    exact v2.cg (e _ _ _ (by decide)) (e _ _ _ (by decide)) (e _ _ _ (by decide)) (e _ _ _ (by decide)) (fun x _ => ⟨e _ _ _ (by decide), e _ _ _ (by decide)⟩) (fun x _ => e _ _ _ (by decide))
/-- node k but for its chain -/
def vNz (c ν : Int → Int) (ρ : Int → Mm) (μ : MU) (w A : Mm) (k : Int) : Prop :=
  ((w 0 (ν k) 0 = 5 ∧ c (ν k) = 1000 + 10 * k) ∧ w 63 (ν k) 0 = k) ∧ (sSt c (1000 + 10 * k + 1) w (w 24 (ν k) 0) ∧ vSt c w (w 24 (ν k) 0) (ρ k) 1) ∧ (w 0 (w 25 (ν k) 0) 0 = 8 ∧ c (w 25 (ν k) 0) = 1000 + 10 * k + 6) ∧
  (w 26 (ν k) 0 = (if A 217 0 k = -1 then 0 else ν (A 217 0 k)) ∧ w 64 (ν k) 0 = m_chl μ k A ∧ w 65 (ν k) 0 = A 224 0 k ∧ w 66 (ν k) 0 = A 225 0 k % 2 ∧ (w 27 (ν k) 0 = 0 ∨ w 0 (w 27 (ν k) 0) 0 = 5))
theorem vNd.z : vNd c σ ν ρ PL μ w A k ↔ vNz c ν ρ μ w A k ∧ vQs w (w 25 (ν k) 0) ((ixN A (PL k)).map σ) ∧ ∀ i ∈ ixN A (PL k), 0 ≤ i ∧ i < A 122 μ.1 0 :=
  ⟨fun ⟨a, b, ⟨c, d⟩, e, g⟩ => ⟨⟨a, b, c, e⟩, d, g⟩, fun ⟨⟨a, b, c, e⟩, d, g⟩ => ⟨a, b, ⟨c, d⟩, e, g⟩⟩
theorem vNz.fr (h : vNz c ν ρ μ w A k) (u : UPd c S w w') (hc : CXt w c c') (hS : ∀ (b' : Int) (k' : Nat), 1000 + 10 * k ≤ b' → b' ≤ 1000 + 10 * k + 5 → ¬ S b' k') (h0 : ∀ k, ¬ S 0 k) : vNz c' ν ρ μ w' A k ∧ w' 25 (ν k) 0 = w 25 (ν k) 0 := by
  obtain ⟨⟨⟨a1, a2⟩, a3⟩, ⟨b1, b2⟩, ⟨c1, c2⟩, ⟨d1, d2, d3, d4, d5⟩⟩ := h
  have y0 : w 0 (ν k) 0 ≠ 0 := by omega
  have gz : ∀ {k' : Nat}, w' k' (ν k) 0 = w k' (ν k) 0 := u.g y0 a2 (hS _ _ (by omega) (by omega))
  refine ⟨⟨⟨⟨u.tag a1 (by decide), (hc _ y0).trans a2⟩, gz.trans a3⟩, ⟨?_, ?_⟩, ⟨?_, ?_⟩, gz.trans d1, gz.trans d2, gz.trans d3, gz.trans d4, ?_⟩, gz⟩
  · rw [gz]; exact (b1.fr u hc (fun k' _ _ => hS _ k' (by omega) (by omega))).1
  · rw [gz]; exact b2.fr b1 u hc (fun b' k' z1 z2 => hS b' k' (by omega) (by omega)) h0
  · rw [gz]; exact u.tag c1 (by decide)
  · rw [gz]; exact (hc _ (by omega)).trans c2
  · rw [gz]
    rcases d5 with z | z
    · exact Or.inl z
    · exact Or.inr (u.tag z (by decide))
theorem vNz.xc (h : vNz c ν ρ μ w A k) (kk : RCn w c c1) (e : ∀ (k : Nat) (a i : Int), k ≠ 70 → w' k a i = w k a i) (eA : ∀ (c : Nat) (a i : Int), (c ≠ 240 ∧ c ≠ 136 ∧ c ≠ 212 ∧ c ≠ 120 ∧ c ≠ 234) ∧ (c ≠ 220 ∧ c ≠ 122 ∧ c ≠ 123) → A' c a i = A c a i) : vNz c1 ν ρ μ w' A' k := by
  obtain ⟨⟨⟨a1, a2⟩, a3⟩, ⟨b1, b2⟩, ⟨c1, c2⟩, d⟩ := h
  have h1 := b1.rcn kk
  have h2 := b2.rcn kk
  have hc : m_chl μ k A' = m_chl μ k A := by
    unfold m_chl m_chF
    simp (disch := decide) only [eA]
  refine ⟨⟨⟨(e _ _ _ (by decide)).trans a1, (kk _ (by omega) (by omega)).trans a2⟩, (e _ _ _ (by decide)).trans a3⟩, ?_, ⟨?_, ?_⟩, ?_⟩
  · unfold sSt at h1 ⊢
    unfold vSt vTx vSr vCh at h2 ⊢
    simp (disch := decide) only [e]; exact ⟨h1, h2⟩
  · simp (disch := decide) only [e]; exact c1
  · simp (disch := decide) only [e]; exact (kk _ (by omega) (by omega)).trans c2
  · rw [hc]
    simp (disch := decide) only [e, eA]; exact d
end EXC
