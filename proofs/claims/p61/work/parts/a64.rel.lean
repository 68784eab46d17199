/-! one merge in the class and in the reference: the relation again -/
def Smg (lo x y : Int) (b : Int) (k : Nat) : Prop := (b = 42 ∧ (k = 92 ∨ k = 93)) ∨ (b = 43 ∧ k = 3) ∨ (b = 1000 + 10 * y ∧ (k = 25 ∨ k = 26 ∨ k = 66)) ∨ (b = 1000 + 10 * x + 6 ∧ (k = 34 ∨ k = 35 ∨ k = 71 ∨ k = 72)) ∨ (-lo ≤ b ∧ b < 0 ∧ k = 33)
section M1B
variable {p : RP} {c c' σ σ' ν ν' al : Int → Int} {ρ ρ' : Int → Mm} {G : Int → Int → Int} {PL PL' : Int → List Int} {w w' W A A' V : Mm} {μ : MU} {f q b e i j r k m s d n g t o z x y v l T M : Int} {L L' : List Int}
theorem mrg1_125 : m_mrg1 μ x A 125 μ.1 0 = A 125 μ.1 0 - 1 := by unfold m_mrg1; rw [up_s]
theorem mrg_ixN : ∀ L : List Int, ixN (m_mrg1 μ x A) L = ixN A L
  | [] => rfl
  | p :: ps => by
    show rng (m_mrg1 μ x A 220 0 p).toNat (m_mrg1 μ x A 218 0 p) ++ ixN (m_mrg1 μ x A) ps = _
    rw [mrg_ixN ps, mrg1_o (by decide), mrg1_o (by decide)]; rfl
/-- the steps of a node, their codes -/
theorem RLm.stp (h : RLm p μ f L w A) (hl : A 122 μ.1 0 ≤ A 120 μ.1 0) (ha : alv μ A k) (hi : i ∈ ixN A (pl_ p k)) : (0 ≤ i ∧ i < A 122 μ.1 0) ∧ w 0 (ps_ p i) 0 = 7 ∧ pc_ p (ps_ p i) = -(i + 1) ∧ ps_ p i ≠ 0 := by
  have hN := h.1.2.2.2.1.2.2 k ha.1.1 ha.1.2 ha.2
  have e1 := hN.2.2.2.2 i hi
  have s := (h.2.2.2 i e1.1 (by omega)).1
  exact ⟨e1, s.1, s.2, CHa.mem0 hN.2.2.1.2.1 _ (List.mem_map.mpr ⟨i, hi, rfl⟩)⟩
theorem RLm.mrg1 (h : RLm p μ f L w A) (hl : 0 ≤ A 122 μ.1 0 ∧ A 122 μ.1 0 ≤ A 120 μ.1 0) (hTI : TI μ (pl_ p) A) (hT : TB μ M A) (hM : M ≤ 600) (g : MGx μ A x y) (hi : (0 ≤ i ∧ i < A 125 μ.1 0) ∧ pa_ p i = x) (hw : w' = a_frm (w 38 (w 45 f 0) 0) i (t_mic (pn_ p x) (pn_ p y) w)) :
    (∃ c, RLm (c, ps_ p, pn_ p, (fun j => if j < i then pa_ p j else pa_ p (j + 1)), pr_ p, pg_ p, PLm (pl_ p) x y) μ f L w' (m_mrg1 μ x A)) ∧ UPE f w w' := by
  obtain ⟨hn, ⟨t1, t2⟩, t3, t4⟩ := RLm.spl.mp h
  obtain ⟨⟨a1, a2, a3⟩, ⟨b1, b2, b3⟩, b4, b5, b6⟩ := id g
  have hax : alv μ A x := ⟨⟨by omega, by omega⟩, b1⟩
  have hay : alv μ A y := ⟨⟨by omega, by omega⟩, b2⟩
  have hN := fun k (ha : alv μ A k) => t4 k ha.1.1 ha.1.2 ha.2
  obtain ⟨⟨⟨x1, x2⟩, x3⟩, -, ⟨⟨x4, x5⟩, x6⟩, ⟨x7, x8, x9, x10, x11⟩, x12⟩ := hN x hax
  obtain ⟨⟨⟨y1, y2⟩, y3⟩, ⟨y13, y14⟩, ⟨⟨y4, y5⟩, y6⟩, ⟨y7, y8, y9, y10, y11⟩, y12⟩ := hN y hay
  have hf := hn.2.1.1.1
  obtain ⟨⟨c1, c2⟩, ⟨d1, d2⟩, ⟨e1, e2⟩, e3, e4, e5⟩ := id t1
  obtain ⟨W, hW⟩ : ∃ W, W = t_mic (pn_ p x) (pn_ p y) w := ⟨_, rfl⟩
  rw [← hW] at hw
  have hz : w 35 (w 25 (pn_ p x) 0) 0 = 0 ∨ ∃ i, i ∈ ixN A (pl_ p x) ∧ w 35 (w 25 (pn_ p x) 0) 0 = ps_ p i := by
    rw [x6.2.1]
    rcases lst_or ((ixN A (pl_ p x)).map (ps_ p)) with hq | ⟨N, z, hq⟩
    · rw [hq]; exact Or.inl rfl
    · have hm : z ∈ (ixN A (pl_ p x)).map (ps_ p) := by rw [hq]; exact List.mem_append_right _ (List.mem_singleton.mpr rfl)
      obtain ⟨i, i1, i2⟩ := List.mem_map.mp hm
      rw [hq, lsA_app]
      exact Or.inr ⟨i, i1, i2.symm⟩
  have h33 : w 35 (w 25 (pn_ p x) 0) 0 = 0 ∨ Smg (A 122 μ.1 0) x y (pc_ p (w 35 (w 25 (pn_ p x) 0) 0)) 33 := hz.imp id fun ⟨i, i1, i2⟩ => by
    obtain ⟨s1, s2, s3, -⟩ := h.stp hl.2 hax i1
    rw [i2, s3]; unfold Smg; omega
  have uj : UPd (pc_ p) (Smg (A 122 μ.1 0) x y) w (q_join (w 25 (pn_ p x) 0) (w 25 (pn_ p y) 0) w) := q_join_u UPd.refl (by rw [x5]; unfold Smg; omega) h33
  have uW : UPd (pc_ p) (Smg (A 122 μ.1 0) x y) w W := by
    rw [hW]; unfold t_mic
    exact ((uj.sU (by decide) (Or.inr (by rw [y2]; unfold Smg; omega))).sU (by decide) (Or.inr (by rw [y2]; unfold Smg; omega))).sU (by decide) (Or.inr (by rw [y2]; unfold Smg; omega))
  have W51 : W 51 (w 38 (w 45 f 0) 0) 0 = w 51 (w 38 (w 45 f 0) 0) 0 := by rw [hW]; exact mic_k (by decide) (by decide)
  have W93 : W 93 (w 38 (w 45 f 0) 0) 0 = w 93 (w 38 (w 45 f 0) 0) 0 := by rw [hW]; exact mic_k (by decide) (by decide)
  have u : UPd (pc_ p) (Smg (A 122 μ.1 0) x y) w w' := by
    rw [hw]
    exact frm_u uW (by rw [d2]; unfold Smg; omega) (by rw [W51, e2]; unfold Smg; omega)
  have gk : ∀ {k : Nat} (a j : Int), (k ≠ 3 ∧ k ≠ 92 ∧ k ≠ 93) → (k ≠ 25 ∧ k ≠ 26 ∧ k ≠ 66) → (k ≠ 33 ∧ k ≠ 34 ∧ k ≠ 35 ∧ k ≠ 71 ∧ k ≠ 72) → w' k a j = w k a j := fun a j z1 z2 z3 => by rw [hw, frm_k z1, hW, mic_k z2 z3]
  have g0 : ∀ a, w' 0 a 0 = w 0 a 0 := fun a => gk a 0 (by decide) (by decide) (by decide)
  have hSE : ∀ b k, Smg (A 122 μ.1 0) x y b k → STe b k := fun b k z => by unfold Smg at z; unfold STe; omega
  have o1 : ∀ {c : Nat} {a i : Int}, c ≠ 223 ∧ c ≠ 221 ∧ c ≠ 217 ∧ c ≠ 225 ∧ c ≠ 216 ∧ c ≠ 125 → m_mrg1 μ x A c a i = A c a i := fun z => mrg1_o z
  have hn' : RLn (pc_ p) (ps_ p) (pg_ p) μ f L w' (m_mrg1 μ x A) := hn.fr u CXt.refl hSE (fun a ha => hn.1 a (by rw [← g0]; exact ha)) (fun c i z => o1 (by omega)) (o1 (by decide)) (fun k _ _ => o1 (by decide))
    (hn.2.1.1.frn u CXt.refl (fun k _ z => by unfold Smg at z; omega) (fun k z => by unfold Smg at z; omega) (fun c z1 z2 => o1 (by omega)) (fun i => o1 (by decide)))
    (hn.2.1.2.frn hf u CXt.refl (fun k _ z => by unfold Smg at z; omega) (fun b k z1 z2 z3 z => by unfold Smg at z; omega))
    (hn.2.2.2.1.frn hn.2.1.2.1.1 hf u CXt.refl (fun z => by unfold Smg at z; omega) (fun b k z1 z2 z => by unfold Smg at z; omega) (fun k z => by unfold Smg at z; omega) (fun b k z1 z => by unfold Smg at z; omega) (o1 (by decide)) (fun k j z1 z2 => o1 (by omega)))
  have hsx8 : w' 0 (w 25 (pn_ p x) 0) 0 = 8 := by rw [g0]; exact x4
  have hRC : RCb w' (pc_ p) (cset (pc_ p) (w 25 (pn_ p x) 0) (1000 + 10 * y + 6)) (1000 + 10 * x + 6) := fun a _ z => cset_o (fun e => z (by rw [e]; exact x5))
  refine ⟨⟨cset (pc_ p) (w 25 (pn_ p x) 0) (1000 + 10 * y + 6), RLm.spl.mpr ⟨hn'.rc (by rw [o1 (by decide)]; exact hl.1) hRC (by omega) (fun a ha => ?_), ?_⟩⟩, u.toE hf hn.2.2.1.2.1 (fun k _ z => by unfold Smg at z; omega) (fun k z => by unfold Smg at z; omega)⟩
  · show cset _ _ _ a = 0
    rw [cset_o (fun e => by rw [e] at ha; omega)]
    exact hn.1 a (by rw [← g0]; exact ha)
  have g45 : w' 45 f 0 = w 45 f 0 := gk f 0 (by decide) (by decide) (by decide)
  obtain ⟨sT, f38, f39, f51⟩ := t1.gg u CXt.refl ⟨fun z => by unfold Smg at z; omega, fun z => by unfold Smg at z; omega, fun z => by unfold Smg at z; omega⟩
  obtain ⟨⟨v1, v2, v3, v4⟩, v5, v6, v7, v8, v9⟩ := t2
  obtain ⟨w1, w2, w3⟩ := id t3
  have m1 : ∀ j, 0 ≤ j → j < A 125 μ.1 0 → j ≠ i → pa_ p j ≠ x := fun j j0 j1 j2 e => by
    rcases Int.lt_trichotomy j i with z | z | z
    · have := w2 j i j0 z hi.1.2; omega
    · exact j2 z
    · have := w2 i j hi.1.1 z j1; omega
  unfold rTr
  rw [g45]
  refine ⟨⟨sT.rc hRC (by omega), ⟨?_, ?_, ?_, ?_⟩, fun j j0 j1 => ?_, fun j j0 j1 => ?_, ?_, ?_, ?_⟩, ⟨fun j j0 j1 => ?_, fun j j' j0 jj j1 => ?_, fun k k0 k1 k2 => ?_⟩, fun k k0 k1 k2 => ?_⟩
  · rw [f38, hw, frm_93, W93, mrg1_125, v1]
  · rw [f38, hw, frm_92, mrg1_125, o1 (by decide), hW, mic_k (by decide) (by decide), v2]; omega
  · have h2 : w' 2 (w 51 (w 38 (w 45 f 0) 0) 0) 0 = w 2 (w 51 (w 38 (w 45 f 0) 0) 0) 0 := gk _ _ (by decide) (by decide) (by decide)
    rw [f38, f51, h2, hw, frm_93, W93]; omega
  · rw [f38, f51, gk _ _ (by decide) (by decide) (by decide)]; exact v4
  · rw [mrg1_125] at j1
    rw [f38, f51, hw, ← W51, frm_3 (by rw [W93, v1]; exact hi.1) (by rw [W93, v1]; exact ⟨j0, j1⟩), W51, hW, mic_k (by decide) (by decide), v5 _ (by split <;> omega) (by split <;> omega)]
    show _ = pn_ p (if j < i then pa_ p j else pa_ p (j + 1))
    by_cases z : j < i
    · rw [if_pos z, if_pos z]
    · rw [if_neg z, if_neg z]
  · rw [f39, hw, frm_o (by rw [W51]; intro e; rw [e] at e3; omega), hW, mic_k (by decide) (by decide), o1 (by decide)]; exact v6 j j0 j1
  · rw [gk _ _ (by decide) (by decide) (by decide), o1 (by decide)]; exact v7
  · rw [gk _ _ (by decide) (by decide) (by decide), o1 (by decide)]; exact v8
  · rw [gk _ _ (by decide) (by decide) (by decide), o1 (by decide)]; exact v9
  · rw [mrg1_125] at j1
    rw [o1 (by decide), mrg1_216]
    show (0 ≤ (if j < i then pa_ p j else pa_ p (j + 1)) ∧ (if j < i then pa_ p j else pa_ p (j + 1)) < A 124 μ.1 0) ∧ (if (if j < i then pa_ p j else pa_ p (j + 1)) = x then 0 else A 216 0 (if j < i then pa_ p j else pa_ p (j + 1))) = 1
    by_cases z : j < i
    · simp only [if_pos z]
      rw [if_neg (m1 j j0 (by omega) (by omega))]
      exact w1 j j0 (by omega)
    · simp only [if_neg z]
      rw [if_neg (m1 (j + 1) (by omega) (by omega) (by omega))]
      exact w1 (j + 1) (by omega) (by omega)
  · rw [mrg1_125] at j1
    show (if j < i then pa_ p j else pa_ p (j + 1)) < (if j' < i then pa_ p j' else pa_ p (j' + 1))
    by_cases z : j < i
    · rw [if_pos z]
      by_cases z2 : j' < i
      · rw [if_pos z2]; exact w2 j j' j0 jj (by omega)
      · rw [if_neg z2]; exact w2 j (j' + 1) j0 (by omega) (by omega)
    · rw [if_neg z, if_neg (by omega)]; exact w2 (j + 1) (j' + 1) (by omega) (by omega) (by omega)
  · rw [o1 (by decide)] at k1
    have hb := (alv_mrg g).mp ⟨⟨k0, by rw [o1 (by decide)]; exact k1⟩, k2⟩
    obtain ⟨j, j1, j2⟩ := w3 k k0 k1 hb.1.2
    have hji : j ≠ i := fun e => hb.2 (by rw [← j2, e]; exact hi.2)
    rw [mrg1_125]
    by_cases z : j < i
    · exact ⟨j, by omega, by show (if j < i then pa_ p j else _) = k; rw [if_pos z]; exact j2⟩
    · refine ⟨j - 1, by omega, ?_⟩
      show (if j - 1 < i then _ else pa_ p (j - 1 + 1)) = k
      rw [if_neg (by omega), show j - 1 + 1 = j by omega]; exact j2
  · rw [o1 (by decide)] at k1
    have hb := (alv_mrg g).mp ⟨⟨k0, by rw [o1 (by decide)]; exact k1⟩, k2⟩
    by_cases cy : k = y
    · subst cy
      have ePL : PLm (pl_ p) x k k = pl_ p x ++ pl_ p k := by unfold PLm; rw [if_pos rfl]
      have hne : pn_ p k ≠ pn_ p x := fun e => by rw [e] at y2; omega
      have hns : w 25 (pn_ p k) 0 ≠ w 25 (pn_ p x) 0 := fun e => by rw [e] at y5; omega
      have q24 : w' 24 (pn_ p k) 0 = w 24 (pn_ p k) 0 := gk _ _ (by decide) (by decide) (by decide)
      have hgk2 : ∀ b' k', 1000 + 10 * k + 1 ≤ b' → b' ≤ 1000 + 10 * k + 9 → ¬ Smg (A 122 μ.1 0) x k b' k' := fun b' k' z1 z2 z => by unfold Smg at z; omega
      have qW : ∀ {k' : Nat} (a : Int), k' ≠ 25 ∧ k' ≠ 26 ∧ k' ≠ 66 → k' ≠ 3 ∧ k' ≠ 92 ∧ k' ≠ 93 → w' k' a 0 = q_join (w 25 (pn_ p x) 0) (w 25 (pn_ p k) 0) w k' a 0 := fun a z1 z2 => by
        rw [hw, frm_k z2, hW]; unfold t_mic; rw [up_k _ z1.2.2, up_k _ z1.2.1, up_k _ z1.1]
      have q25 : w' 25 (pn_ p k) 0 = w 25 (pn_ p x) 0 := by
        rw [hw, frm_k (by decide), hW]; unfold t_mic; rw [up_k _ (by decide), up_k _ (by decide), up_s]
      have q26 : w' 26 (pn_ p k) 0 = w 26 (pn_ p x) 0 := by
        rw [hw, frm_k (by decide), hW]; unfold t_mic; rw [up_k _ (by decide), up_s]
      have q66 : w' 66 (pn_ p k) 0 = bi (w 66 (pn_ p k) 0 ≠ 0 ∧ w 66 (pn_ p x) 0 ≠ 0) := by
        rw [hw, frm_k (by decide), hW]; unfold t_mic; rw [up_s]
      refine ⟨⟨⟨by rw [g0]; exact y1, ?_⟩, by rw [gk _ _ (by decide) (by decide) (by decide)]; exact y3⟩, ?_, ?_, ⟨?_, ?_, ?_, ?_, ?_⟩, ?_⟩
      · show cset _ _ _ (pn_ p k) = _
        rw [cset_o (fun e => by have := y1; rw [e] at this; omega)]; exact y2
      · rw [q24]
        exact ⟨((y13.fr u CXt.refl (fun k' _ _ => hgk2 _ k' (by omega) (by omega))).1).rc hRC (by omega), (y14.fr y13 u CXt.refl (fun b' k' _ _ => hgk2 b' k' (by omega) (by omega)) (fun k' z => by unfold Smg at z; omega)).rc hRC (by omega)⟩
      · rw [q25]
        refine ⟨⟨hsx8, cset_s⟩, ?_⟩
        show vQs w' _ ((ixN _ (PLm (pl_ p) x k k)).map (ps_ p))
        rw [mrg_ixN, ePL, ixN_ap, List.map_append]
        refine (q_join_Q x6 y6 (fun z hz1 hz2 => ?_)).cg (qW _ (by decide) (by decide)) (qW _ (by decide) (by decide)) (qW _ (by decide) (by decide)) (qW _ (by decide) (by decide)) (fun x _ => ⟨qW _ (by decide) (by decide), qW _ (by decide) (by decide)⟩) (fun x _ => qW _ (by decide) (by decide))
        obtain ⟨i1, i2, i3⟩ := List.mem_map.mp hz1
        obtain ⟨j1, j2, j3⟩ := List.mem_map.mp hz2
        have s1 := (h.stp hl.2 hay i2).2.2.1
        have s2 := (h.stp hl.2 hax j2).2.2.1
        rw [i3] at s1
        rw [j3] at s2
        have e : i1 = j1 := by omega
        subst e
        have := hTI.dsj hT hM hay hax i2 j2
        omega
      · rw [q26, x7, mrg1_217, if_pos b5]
      · rw [gk _ _ (by decide) (by decide) (by decide), y8, g.chl (by omega)]
      · rw [gk _ _ (by decide) (by decide) (by decide), o1 (by decide)]; exact y9
      · rw [q66, mrg1_225, if_pos b5, ← b5, y10, x10]
        have t7 := hT.2.2.2.2.2.2
        have r1 := (t7 k (by omega) (by omega)).2.2.2.1
        have r2 := (t7 x (by omega) (by omega)).2.2.2.1
        rw [flg_val r1 r2]
        have h1 : A 225 0 k % 2 = 0 ∨ A 225 0 k % 2 = 1 := by omega
        have h2 : A 225 0 x % 2 = 0 ∨ A 225 0 x % 2 = 1 := by omega
        rcases h1 with h1 | h1 <;> rcases h2 with h2 | h2 <;> rw [h1, h2] <;> decide
      · rw [gk _ _ (by decide) (by decide) (by decide)]; exact y11.imp id (fun z => by rw [g0]; exact z)
      · show ∀ j ∈ ixN _ (PLm (pl_ p) x k k), _
        rw [mrg_ixN, ePL, ixN_ap, o1 (by decide)]
        intro j hj
        rcases List.mem_append.mp hj with z | z
        · exact x12 j z
        · exact y12 j z
    · have ePL : PLm (pl_ p) x y k = pl_ p k := by unfold PLm; rw [if_neg cy]
      have hy5 : k ≠ m_nwst μ x A := by rw [← b5]; exact cy
      refine ((hN k hb.1).gg (σ' := ps_ p) (ν' := pn_ p) (ρ' := pr_ p) (PL' := PLm (pl_ p) x y) u CXt.refl (fun b' k' z1 z2 _ z => ?_) (fun k' z => by unfold Smg at z; omega) rfl rfl (by rw [mrg_ixN, ePL]) (fun i hik => ?_) ?_ (fun _ => rfl) ?_ (o1 (by decide)) ?_ (by rw [o1 (by decide)]; exact Int.le_refl _)).rc hRC (by omega) ?_
      · unfold Smg at z; have := hb.2; omega
      · refine ⟨rfl, ?_, gk _ _ (by decide) (by decide) (by decide), gk _ _ (by decide) (by decide) (by decide)⟩
        obtain ⟨s1, s2, s3, s4⟩ := h.stp hl.2 hb.1 hik
        rw [hw, frm_k (by decide), hW]; unfold t_mic
        rw [up_k _ (by decide), up_k _ (by decide), up_k _ (by decide), q_join_33]
        rcases hz with z | ⟨j, j1, j2⟩
        · rw [z]; exact s4
        · rw [j2]; intro e
          have s5 := (h.stp hl.2 hax j1).2.2.1
          rw [← e, s3] at s5
          have e2 : i = j := by omega
          subst e2
          exact hb.2 (hTI.dsj hT hM hb.1 hax hik j1)
      · rw [mrg1_217, if_neg hy5]
      · rw [gk _ _ (by decide) (by decide) (by decide), (hN k hb.1).2.2.2.1.2.1, g.chl hb.2]
      · rw [mrg1_225, if_neg hy5]
      · have := hb.2; omega
end M1B
