/-! one merge in the class and in the reference -/
section M1A
variable {p : RP} {c c' σ σ' ν ν' al : Int → Int} {ρ ρ' : Int → Mm} {G : Int → Int → Int} {PL PL' : Int → List Int} {S : Int → Nat → Prop} {w w' W A A' V : Mm} {μ : MU} {f q b e i j r k m s d n g t o z x y v l T M : Int} {L L' : List Int}
theorem q_join_u (u : UPd c S w W) (h : S (c t) 34 ∧ S (c t) 35 ∧ S (c t) 71 ∧ S (c t) 72) (h33 : W 35 t 0 = 0 ∨ S (c (W 35 t 0)) 33) : UPd c S w (q_join t o W) := by
  unfold q_join
  split
  · exact u
  · by_cases c0 : W 35 t 0 = 0
    · simp only [if_pos c0]
      exact (((u.sU (by decide) (Or.inr h.1)).sU (by decide) (Or.inr h.2.1)).sU (by decide) (Or.inr h.2.2.1)).sU (by decide) (Or.inr h.2.2.2)
    · simp only [if_neg c0]
      exact (((u.sU (by decide) (Or.inr (h33.resolve_left c0))).sU (by decide) (Or.inr h.2.1)).sU (by decide) (Or.inr h.2.2.1)).sU (by decide) (Or.inr h.2.2.2)
theorem q_join_33 {a : Int} (h : a ≠ w 35 t 0) : q_join t o w 33 a i = w 33 a i := by
  unfold q_join
  split
  · rfl
  · rw [up_k _ (by decide), up_k _ (by decide), up_k _ (by decide)]
    split
    · exact up_k _ (by decide) _ _ _ _ _
    · exact up_a _ _ _ h _ _ _
theorem frm_k {a : Int} {k : Nat} (h : k ≠ 3 ∧ k ≠ 92 ∧ k ≠ 93) : a_frm l i W k a j = W k a j := by
  unfold a_frm
  rw [up_k _ h.1, up_k _ h.2.2]
  split
  · rw [cpQ_k h.1, up_k _ h.2.1]
  · rw [up_k _ h.2.1]
theorem frm_93 : a_frm l i W 93 l 0 = W 93 l 0 - 1 := by unfold a_frm; rw [up_k _ (by decide), up_s]
theorem frm_92 : a_frm l i W 92 l 0 = W 92 l 0 + 1 := by
  unfold a_frm
  rw [up_k _ (by decide), up_k _ (by decide)]
  split
  · rw [cpQ_k (by decide), up_s]
  · rw [up_s]
theorem frm_o {a : Int} (h : a ≠ W 51 l 0) : a_frm l i W 3 a j = W 3 a j := by
  unfold a_frm
  rw [up_a _ _ _ h, up_k _ (by decide)]
  split
  · rw [cpQ_a h, up_k _ (by decide)]
  · rw [up_k _ (by decide)]
theorem frm_3 (hi : 0 ≤ i ∧ i < W 93 l 0) (hj : 0 ≤ j ∧ j < W 93 l 0 - 1) : a_frm l i W 3 (W 51 l 0) j = W 3 (W 51 l 0) (if j < i then j else j + 1) := by
  unfold a_frm
  rw [up_i _ _ _ _ _ _ (by omega), up_k _ (by decide)]
  by_cases c1 : i < W 93 l 0 - 1
  · rw [if_pos c1]
    unfold cpQ
    rw [flA_v]
    by_cases c2 : j < i
    · rw [if_neg (by omega), if_pos c2, up_k _ (by decide)]
    · rw [if_pos (by omega), if_neg c2, up_k _ (by decide)]
      congr 1; omega
  · rw [if_neg c1, up_k _ (by decide), if_pos (by omega)]
theorem frm_u (u : UPd c S w W) (h : S (c l) 92 ∧ S (c l) 93) (h3 : S (c (W 51 l 0)) 3) : UPd c S w (a_frm l i W) := by
  unfold a_frm
  split
  · exact (((u.sU (by decide) (Or.inr h.1)).sF (by decide) (Or.inr h3)).sU (by decide) (Or.inr h.2)).sU (by decide) (Or.inr h3)
  · exact ((u.sU (by decide) (Or.inr h.1)).sU (by decide) (Or.inr h.2)).sU (by decide) (Or.inr h3)
theorem mic_k {a : Int} {k : Nat} (h : k ≠ 25 ∧ k ≠ 26 ∧ k ≠ 66) (h2 : k ≠ 33 ∧ k ≠ 34 ∧ k ≠ 35 ∧ k ≠ 71 ∧ k ≠ 72) : t_mic x y w k a i = w k a i := by
  unfold t_mic
  rw [up_k _ h.2.2, up_k _ h.2.1, up_k _ h.1, q_join_k h2.1 h2.2.1 h2.2.2.1 h2.2.2.2.1 h2.2.2.2.2]
theorem sTr.gg (h : sTr c w T) (u : UPd c S w w') (hc : CXt w c c') (h1 : ¬ S 41 38 ∧ ¬ S 41 39 ∧ ¬ S 42 51) : sTr c' w' T ∧ (w' 38 T 0 = w 38 T 0 ∧ w' 39 T 0 = w 39 T 0 ∧ w' 51 (w 38 T 0) 0 = w 51 (w 38 T 0) 0) := by
  obtain ⟨⟨a1, a2⟩, ⟨b1, b2⟩, ⟨c1, c2⟩, d1, d2, d3⟩ := h
  have f1 : w' 38 T 0 = w 38 T 0 := u.g (by omega) a2 h1.1
  have f2 : w' 39 T 0 = w 39 T 0 := u.g (by omega) a2 h1.2.1
  have f3 : w' 51 (w 38 T 0) 0 = w 51 (w 38 T 0) 0 := u.g (by omega) b2 h1.2.2
  refine ⟨⟨⟨u.tag a1 (by decide), (hc _ (by omega)).trans a2⟩, ?_, ?_, ?_⟩, f1, f2, f3⟩
  · rw [f1]; exact ⟨u.tag b1 (by decide), (hc _ (by omega)).trans b2⟩
  · rw [f1, f3]; exact ⟨u.tag c1 (by decide), (hc _ (by omega)).trans c2⟩
  · rw [f2]; exact ⟨u.tag d1 (by decide), (u.t (by omega) (by decide)).trans d2, (hc _ (by omega)).trans d3⟩
/-- a node that is not touched, its count of children aside -/
theorem vNd.gg (h : vNd c σ ν ρ PL μ w A k) (u : UPd c S w w') (hc : CXt w c c') (hS : ∀ (b' : Int) (k' : Nat), 1000 + 10 * k ≤ b' → b' ≤ 1000 + 10 * k + 9 → (k' ≠ 64 ∨ b' ≠ 1000 + 10 * k) → ¬ S b' k') (h0 : ∀ k, ¬ S 0 k) (eν : ν' k = ν k) (eρ : ρ' k = ρ k) (eI : ixN A' (PL' k) = ixN A (PL k))
    (hx : ∀ i ∈ ixN A (PL k), σ' i = σ i ∧ w' 33 (σ i) 0 = w 33 (σ i) 0 ∧ w' 68 (σ i) 0 = w 68 (σ i) 0 ∧ w' 0 (σ i) 0 = w 0 (σ i) 0) (e217 : A' 217 0 k = A 217 0 k) (eνp : A 217 0 k ≠ -1 → ν' (A 217 0 k) = ν (A 217 0 k)) (e64 : w' 64 (ν k) 0 = m_chl μ k A') (e224 : A' 224 0 k = A 224 0 k) (e225 : A' 225 0 k = A 225 0 k) (e122 : A 122 μ.1 0 ≤ A' 122 μ.1 0) : vNd c' σ' ν' ρ' PL' μ w' A' k := by
  obtain ⟨⟨⟨a1, a2⟩, a3⟩, ⟨b1, b2⟩, ⟨⟨c1, c2⟩, c3⟩, ⟨d1, d2, d3, d4, d5⟩, e1⟩ := h
  have z := hS (1000 + 10 * k)
  have y0 : w 0 (ν k) 0 ≠ 0 := by omega
  have gz : ∀ {k' : Nat}, k' ≠ 64 → w' k' (ν k) 0 = w k' (ν k) 0 := fun h => u.g y0 a2 (z _ (by omega) (by omega) (Or.inl h))
  have f24 : w' 24 (ν k) 0 = w 24 (ν k) 0 := gz (by decide)
  have f25 : w' 25 (ν k) 0 = w 25 (ν k) 0 := gz (by decide)
  have f26 : w' 26 (ν k) 0 = w 26 (ν k) 0 := gz (by decide)
  have f27 : w' 27 (ν k) 0 = w 27 (ν k) 0 := gz (by decide)
  have hL : (ixN A' (PL' k)).map σ' = (ixN A (PL k)).map σ := by rw [eI]; exact List.map_congr_left fun i hi => (hx i hi).1
  have hm : ∀ x ∈ (ixN A (PL k)).map σ, w' 33 x 0 = w 33 x 0 ∧ w' 68 x 0 = w 68 x 0 ∧ w' 0 x 0 = w 0 x 0 := fun x hx' => by
    obtain ⟨i, hi, rfl⟩ := List.mem_map.mp hx'
    exact (hx i hi).2
  unfold vNd
  rw [eν, eρ]
  refine ⟨⟨⟨u.tag a1 (by decide), (hc _ y0).trans a2⟩, (gz (by decide)).trans a3⟩, ?_, ?_, ⟨?_, e64, ?_, ?_, ?_⟩, ?_⟩
  · rw [f24]
    exact ⟨(b1.fr u hc (fun k' _ _ => hS _ k' (by omega) (by omega) (Or.inr (by omega)))).1, b2.fr b1 u hc (fun b' k' _ _ => hS b' k' (by omega) (by omega) (Or.inr (by omega))) h0⟩
  · rw [f25, hL]
    have zq := fun k' => hS (1000 + 10 * k + 6) k' (by omega) (by omega) (Or.inr (by omega))
    exact ⟨⟨u.tag c1 (by decide), (hc _ (by omega)).trans c2⟩, c3.cg (u.g (by omega) c2 (zq _)) (u.g (by omega) c2 (zq _)) (u.g (by omega) c2 (zq _)) (u.g (by omega) c2 (zq _)) (fun x hx => ⟨(hm x hx).2.2, (hm x hx).2.1⟩) (fun x hx => (hm x hx).1)⟩
  · rw [f26, e217, d1]
    by_cases c0 : A 217 0 k = -1
    · rw [if_pos c0, if_pos c0]
    · rw [if_neg c0, if_neg c0, eνp c0]
  · rw [gz (by decide), e224]; exact d3
  · rw [gz (by decide), e225]; exact d4
  · rw [f27]; exact d5.imp id (fun h => u.tag h (by decide))
  · rw [eI]; exact fun i hi => ⟨(e1 i hi).1, by have := (e1 i hi).2; omega⟩
theorem vNd.rc (h : vNd c σ ν ρ PL μ w A k) (kk : RCb w c c' e) (he : 1000 ≤ e) (he2 : e < 1000 + 10 * k ∨ 1000 + 10 * k + 9 < e) : vNd c' σ ν ρ PL μ w A k := by
  obtain ⟨⟨⟨a1, a2⟩, a3⟩, ⟨b1, b2⟩, ⟨⟨c1, c2⟩, c3⟩, h4⟩ := h
  exact ⟨⟨⟨a1, (kk _ (by omega) (by omega)).trans a2⟩, a3⟩, ⟨b1.rc kk (by omega), b2.rc kk he⟩, ⟨⟨c1, (kk _ (by omega) (by omega)).trans c2⟩, c3⟩, h4⟩
theorem sTr.rc (h : sTr c w T) (kk : RCb w c c' e) (he : 1000 ≤ e) : sTr c' w T := by
  obtain ⟨⟨a1, a2⟩, ⟨b1, b2⟩, ⟨c1, c2⟩, d1, d2, d3⟩ := h
  exact ⟨⟨a1, (kk _ (by omega) (by omega)).trans a2⟩, ⟨b1, (kk _ (by omega) (by omega)).trans b2⟩, ⟨c1, (kk _ (by omega) (by omega)).trans c2⟩, d1, d2, (kk _ (by omega) (by omega)).trans d3⟩
/-- a node's parts were made -/
theorem TI.lt (h : TI μ PL A) (hT : TB μ M A) (ha : alv μ A k) : ∀ q ∈ PL k, 1 ≤ q ∧ q < A 124 μ.1 0 := fun q hq => by
  by_cases c : k = 0
  · rw [c, h.2.1] at hq; exact absurd hq List.not_mem_nil
  · have hk1 : 1 ≤ k := by have := ha.1; omega
    have n := h.2.2.1 k hk1 ha
    refine ⟨(n.rng hk1 q hq).1, ?_⟩
    have hch : ∀ (ps : List Int) (p : Int), CHL 640 A p ps → p < A 124 μ.1 0 → (∀ q ∈ ps, q < A 124 μ.1 0) := fun ps => by
      induction ps with
      | nil => intro p _ _ q hq; exact absurd hq List.not_mem_nil
      | cons x xs ih =>
        intro p hp hpl q hq
        have hx : p = x := hp.1
        rcases List.mem_cons.mp hq with rfl | hq
        · omega
        · have hb := hT.2.2.2.2.2.2 x (by have := hp.2.1; omega) (by omega)
          exact ih _ hp.2.2.2.2.2 hb.2.2.2.2.2.2.1.2 q hq
    exact hch (PL k) _ n.1 (hT.2.2.2.2.2.2 k (by omega) ha.1.2).2.2.2.2.1.2 q hq
/-- steps of two nodes are different -/
theorem TI.dsj {k k' : Int} (h : TI μ PL A) (hT : TB μ M A) (hM : M ≤ 600) (ha : alv μ A k) (ha' : alv μ A k') (h1 : i ∈ ixN A (PL k)) (h2 : i ∈ ixN A (PL k')) : k = k' := by
  obtain ⟨q, q1, q2, q3⟩ := ixN_mem h1
  obtain ⟨q', r1, r2, r3⟩ := ixN_mem h2
  have k1 := h.lt hT ha q q1
  have k2 := h.lt hT ha' q' r1
  have hpr := h.prt.2
  have e : q = q' := by
    rcases Int.lt_trichotomy q q' with z | z | z
    · have := hpr q q' k1.1 z k2.2; omega
    · exact z
    · have := hpr q' q k2.1 z k1.2; omega
  subst e
  exact h.2.2.2.2.1 k k' q ha ha' q1 r1
end M1A
