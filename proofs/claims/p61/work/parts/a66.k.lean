/-! merging to the budget -/
set_option maxRecDepth 4000 in
theorem kX10_mergeIntoChild2 (γ : LC) (w : Mm) (T x : Int) (hT : TRt w T) (hx5 : w 0 x 0 = 5) (hx0 : 0 ≤ x) (hNx : QT w (w 25 x 0)) (hN : ∀ c, c = (t_last w (w 51 (w 38 T 0) 0) x (w 93 (w 38 T 0) 0).toNat) → c ≠ 0 → QT w (w 25 c 0)) (hN2 : ∀ c, c = (t_last w (w 51 (w 38 T 0) 0) x (w 93 (w 38 T 0) 0).toNat) → c ≠ 0 → w 25 x 0 ≠ w 25 c 0 ∧ c ≠ x) : KV γ 5 mX10_mergeIntoChild [rv T, rv x] w (0) (0) (fun w' => ((t_last w (w 51 (w 38 T 0) 0) x (w 93 (w 38 T 0) 0).toNat) = 0 ∧ w' = w) ∨ ((t_last w (w 51 (w 38 T 0) 0) x (w 93 (w 38 T 0) 0).toNat) ≠ 0 ∧ w' = t_mic x (t_last w (w 51 (w 38 T 0) 0) x (w 93 (w 38 T 0) 0).toNat) w)) NX := by
  refine MX_of rfl rfl (by simp [rv_cat, int_cat]) rfl ?_
  rintro κ hO hF rfl
  have hD := hF.dp
  show X κ (0) (0) w 0 [some (rv T), some (rv x), none] []
  have t0 := hT.1
  refine X_aload_n 1 hO dX10_mergeIntoChild_0 rfl rfl ?_
  refine X_aload_n 2 hO dX10_mergeIntoChild_1 rfl rfl ?_
  refine X_kVr (t := 11) 5 hO hD lX10_78 rfl (by decide) [_] rfl dX10_mergeIntoChild_2 rfl (by first | assumption | omega | (simp (disch := first | decide | assumption | omega) only [up_k, up_s, up_a, up_i, flA_k, flA_a, flA_n, cpA_k, cpA_a, newO_o, newA_o, newO_t, newA_t, newA_n, cpQ_k, cpQ_a, q_join_k] <;> first | assumption | omega)) (kX10_lastChild _ _ _ _ hT hx0) (by decide) (by simp [rv_cat, int_cat]) (by first | decide | exact Nat.zero_le _ | omega) (by first | decide | exact Nat.zero_le _ | omega) (fun r_2 w_2 hp_2 => ?_) (fun E w_ hx_ => hx_.elim)
  obtain ⟨e1_2, e2_2⟩ := hp_2
  subst r_2
  subst w_2
  have hl5 := t_last_5 (p := x) hT
  obtain ⟨c, hc⟩ : ∃ c, c = (t_last w (w 51 (w 38 T 0) 0) x (w 93 (w 38 T 0) 0).toNat) := ⟨_, rfl⟩
  rw [← hc] at hl5 ⊢
  refine X_astore_n 6 hO dX10_mergeIntoChild_5 rfl rfl ?_
  refine X_aload_n 7 hO dX10_mergeIntoChild_6 rfl rfl ?_
  refine X_ifnonnull 10 11 hO dX10_mergeIntoChild_7 rfl rfl (fun hc_7 => ?_) (fun hc_7 => ?_)
  ·
    have c5 := hl5.resolve_left (by omega)
    obtain ⟨hq8, hl35, hc71, hc72⟩ := hNx
    obtain ⟨hqc8, hlc, hd71, hd72⟩ := hN c hc (by omega)
    obtain ⟨hso, hcx⟩ := hN2 c hc (by omega)
    have hxc := Ne.symm hcx
    refine X_aload_n 12 hO dX10_mergeIntoChild_11 rfl rfl ?_
    refine gX10_82 15 hO dX10_mergeIntoChild_12 rfl (by first | assumption | omega | (simp (disch := first | decide | assumption | omega) only [up_k, up_s, up_a, up_i, flA_k, flA_a, flA_n, cpA_k, cpA_a, newO_o, newA_o, newO_t, newA_t, newA_n, cpQ_k, cpQ_a, q_join_k] <;> first | assumption | omega)) ?_
    try simp (disch := first | decide | assumption | omega) only [up_k, up_s, up_a, up_i, flA_k, flA_a, flA_n, cpA_k, cpA_a, newO_o, newA_o, newO_t, newA_t, newA_n, cpQ_k, cpQ_a, q_join_k]
    refine X_aload_n 16 hO dX10_mergeIntoChild_15 rfl rfl ?_
    refine gX10_82 19 hO dX10_mergeIntoChild_16 rfl (by first | assumption | omega | (simp (disch := first | decide | assumption | omega) only [up_k, up_s, up_a, up_i, flA_k, flA_a, flA_n, cpA_k, cpA_a, newO_o, newA_o, newO_t, newA_t, newA_n, cpQ_k, cpQ_a, q_join_k] <;> first | assumption | omega)) ?_
    try simp (disch := first | decide | assumption | omega) only [up_k, up_s, up_a, up_i, flA_k, flA_a, flA_n, cpA_k, cpA_a, newO_o, newA_o, newO_t, newA_t, newA_n, cpQ_k, cpQ_a, q_join_k]
    refine X_kVv (t := 8) 22 hO hD lX10_86 rfl (by decide) [_] rfl dX10_mergeIntoChild_19 rfl (by first | assumption | omega | (simp (disch := first | decide | assumption | omega) only [up_k, up_s, up_a, up_i, flA_k, flA_a, flA_n, cpA_k, cpA_a, newO_o, newA_o, newO_t, newA_t, newA_n, cpQ_k, cpQ_a, q_join_k] <;> first | assumption | omega)) (kX7_join _ _ _ _ hq8 hqc8 hso hl35 hc71 hc72 hd71 hd72) (by decide) (by simp [rv_cat, int_cat]) (by first | decide | exact Nat.zero_le _ | omega) (by first | decide | exact Nat.zero_le _ | omega) (fun w_19 hp_19 => ?_) (fun E w_ hx_ => hx_.elim)
    subst w_19
    have JP58 : ∀ (z : Int), (z = bi (w 66 c 0 ≠ 0 ∧ w 66 x 0 ≠ 0)) → X κ (0) (0) (up (up (q_join (w 25 x 0) (w 25 c 0) w) 25 c 0 (w 25 x 0)) 26 c 0 (w 26 x 0)) 58 [some (rv T), some (rv x), some (rv c)] [.int (I z), rv c] := by
      intro z hz
      refine pX10_92 61 hO dX10_mergeIntoChild_58 rfl (by first | assumption | omega | (simp (disch := first | decide | assumption | omega) only [up_k, up_s, up_a, up_i, flA_k, flA_a, flA_n, cpA_k, cpA_a, newO_o, newA_o, newO_t, newA_t, newA_n, cpQ_k, cpQ_a, q_join_k] <;> first | assumption | omega)) (by rw [hz]; exact bi_01 _) ?_
      exact X_vret hO hF rfl dX10_mergeIntoChild_61 ⟨rfl, Or.inr ⟨by omega, by rw [hz, ← hc]; rfl⟩⟩
    refine X_aload_n 23 hO dX10_mergeIntoChild_22 rfl rfl ?_
    refine X_aload_n 24 hO dX10_mergeIntoChild_23 rfl rfl ?_
    refine gX10_82 27 hO dX10_mergeIntoChild_24 rfl (by first | assumption | omega | (simp (disch := first | decide | assumption | omega) only [up_k, up_s, up_a, up_i, flA_k, flA_a, flA_n, cpA_k, cpA_a, newO_o, newA_o, newO_t, newA_t, newA_n, cpQ_k, cpQ_a, q_join_k] <;> first | assumption | omega)) ?_
    try simp (disch := first | decide | assumption | omega) only [up_k, up_s, up_a, up_i, flA_k, flA_a, flA_n, cpA_k, cpA_a, newO_o, newA_o, newO_t, newA_t, newA_n, cpQ_k, cpQ_a, q_join_k]
    refine pX10_82 30 hO dX10_mergeIntoChild_27 rfl (by first | assumption | omega | (simp (disch := first | decide | assumption | omega) only [up_k, up_s, up_a, up_i, flA_k, flA_a, flA_n, cpA_k, cpA_a, newO_o, newA_o, newO_t, newA_t, newA_n, cpQ_k, cpQ_a, q_join_k] <;> first | assumption | omega)) ?_
    refine X_aload_n 31 hO dX10_mergeIntoChild_30 rfl rfl ?_
    refine X_aload_n 32 hO dX10_mergeIntoChild_31 rfl rfl ?_
    refine gX10_61 35 hO dX10_mergeIntoChild_32 rfl (by first | assumption | omega | (simp (disch := first | decide | assumption | omega) only [up_k, up_s, up_a, up_i, flA_k, flA_a, flA_n, cpA_k, cpA_a, newO_o, newA_o, newO_t, newA_t, newA_n, cpQ_k, cpQ_a, q_join_k] <;> first | assumption | omega)) ?_
    try simp (disch := first | decide | assumption | omega) only [up_k, up_s, up_a, up_i, flA_k, flA_a, flA_n, cpA_k, cpA_a, newO_o, newA_o, newO_t, newA_t, newA_n, cpQ_k, cpQ_a, q_join_k]
    refine pX10_61 38 hO dX10_mergeIntoChild_35 rfl (by first | assumption | omega | (simp (disch := first | decide | assumption | omega) only [up_k, up_s, up_a, up_i, flA_k, flA_a, flA_n, cpA_k, cpA_a, newO_o, newA_o, newO_t, newA_t, newA_n, cpQ_k, cpQ_a, q_join_k] <;> first | assumption | omega)) ?_
    refine X_aload_n 39 hO dX10_mergeIntoChild_38 rfl rfl ?_
    refine X_aload_n 40 hO dX10_mergeIntoChild_39 rfl rfl ?_
    refine gX10_92 43 hO dX10_mergeIntoChild_40 rfl (by first | assumption | omega | (simp (disch := first | decide | assumption | omega) only [up_k, up_s, up_a, up_i, flA_k, flA_a, flA_n, cpA_k, cpA_a, newO_o, newA_o, newO_t, newA_t, newA_n, cpQ_k, cpQ_a, q_join_k] <;> first | assumption | omega)) (fun hi_40 => ?_)
    try simp (disch := first | decide | assumption | omega) only [up_k, up_s, up_a, up_i, flA_k, flA_a, flA_n, cpA_k, cpA_a, newO_o, newA_o, newO_t, newA_t, newA_n, cpQ_k, cpQ_a, q_join_k] at hi_40 ⊢
    refine X_if_eq 46 57 hO dX10_mergeIntoChild_43 rfl rfl (by omega) (fun hc_43 => ?_) (fun hc_43 => ?_)
    ·
      try simp only [bi_0, bi_ne, ne_eq, Classical.not_not] at hc_43
      refine X_iconst 58 hO dX10_mergeIntoChild_57 rfl ?_
      exact JP58 _ (by first | exact bi_t (by omega) | exact bi_f (by omega))
    ·
      try simp only [bi_0, bi_ne, ne_eq, Classical.not_not] at hc_43
      refine X_aload_n 47 hO dX10_mergeIntoChild_46 rfl rfl ?_
      refine gX10_92 50 hO dX10_mergeIntoChild_47 rfl (by first | assumption | omega | (simp (disch := first | decide | assumption | omega) only [up_k, up_s, up_a, up_i, flA_k, flA_a, flA_n, cpA_k, cpA_a, newO_o, newA_o, newO_t, newA_t, newA_n, cpQ_k, cpQ_a, q_join_k] <;> first | assumption | omega)) (fun hi_47 => ?_)
      try simp (disch := first | decide | assumption | omega) only [up_k, up_s, up_a, up_i, flA_k, flA_a, flA_n, cpA_k, cpA_a, newO_o, newA_o, newO_t, newA_t, newA_n, cpQ_k, cpQ_a, q_join_k] at hi_47 ⊢
      refine X_if_eq 53 57 hO dX10_mergeIntoChild_50 rfl rfl (by omega) (fun hc_50 => ?_) (fun hc_50 => ?_)
      ·
        try simp only [bi_0, bi_ne, ne_eq, Classical.not_not] at hc_50
        refine X_iconst 58 hO dX10_mergeIntoChild_57 rfl ?_
        exact JP58 _ (by first | exact bi_t (by omega) | exact bi_f (by omega))
      ·
        try simp only [bi_0, bi_ne, ne_eq, Classical.not_not] at hc_50
        refine X_iconst 54 hO dX10_mergeIntoChild_53 rfl ?_
        refine X_goto hO dX10_mergeIntoChild_54 (tgt := 58) rfl ?_
        exact JP58 _ (by first | exact bi_t (by omega) | exact bi_f (by omega))
  ·
    exact X_vret hO hF rfl dX10_mergeIntoChild_10 ⟨rfl, Or.inl ⟨by omega, rfl⟩⟩
theorem RLm.e93 {p : RP} {μ : MU} {f : Int} {L : List Int} {w A : Mm} (h : RLm p μ f L w A) : w 93 (w 38 (w 45 f 0) 0) 0 = A 125 μ.1 0 ∧ w 92 (w 38 (w 45 f 0) 0) 0 = 2 * A 124 μ.1 0 - A 125 μ.1 0 ∧ w 79 (w 45 f 0) 0 = A 128 μ.1 0 := ⟨h.1.2.2.2.1.1.2.1.1, h.1.2.2.2.1.1.2.1.2.1, h.1.2.2.2.1.1.2.2.2.2.2.2⟩
/-- the chain of a node -/
theorem RLm.qt {p : RP} {μ : MU} {f k : Int} {L : List Int} {w A : Mm} (h : RLm p μ f L w A) (hl : 0 ≤ A 122 μ.1 0 ∧ A 122 μ.1 0 ≤ 30000) (hR : ((ixN A (pl_ p k)).length : Int) ≤ 100000) (ha : alv μ A k) : QT w (w 25 (pn_ p k) 0) := by
  obtain ⟨⟨c1, c2⟩, c3, c4, c5, c6, c7⟩ := (h.nd ha).2.2.1
  have htb := tcA_b (w := w) ((ixN A (pl_ p k)).map (ps_ p))
  rw [List.length_map] at htb c5
  refine ⟨c1, ?_, by omega, by omega⟩
  rw [c4]
  rcases lst_or ((ixN A (pl_ p k)).map (ps_ p)) with hq | ⟨N, z, hq⟩
  · rw [hq]; exact Or.inl rfl
  · rw [hq, lsA_app]; exact Or.inr (c7 z (by rw [hq]; exact List.mem_append_right _ (List.mem_singleton.mpr rfl)))
theorem ixN_len {A : Mm} : ∀ L : List Int, (ixN A L).length = (nodeL A L).length
  | [] => rfl
  | p :: ps => by
    show (rng _ _ ++ ixN A ps).length = (plist A _ _ _ ++ nodeL A ps).length
    rw [List.length_append, List.length_append, ixN_len ps, rng_len]
    congr 1
    have : ∀ (n : Nat) (i t : Int), (plist A n i t).length = n := fun n => by
      induction n with
      | zero => intro _ _; rfl
      | succ n ih => intro i t; show (plist A n _ _).length + 1 = _; rw [ih]
    exact (this _ _ _).symm
theorem TI.ixl {μ : MU} {PL : Int → List Int} {A : Mm} {M k : Int} (h : TI μ PL A) (hT : TB μ M A) (ha : alv μ A k) : ((ixN A (PL k)).length : Int) ≤ 30000 := by
  have h122 := hT.2.2.2.2.1
  rw [ixN_len]
  by_cases c : k = 0
  · rw [c, h.2.1]; show ((0 : Nat) : Int) ≤ 30000; omega
  · have r := (h.2.2.2.1 k ha).2.2
    rw [hT.rsp (by have := ha.1; omega), List.length_append] at r
    omega
/-- what stands while nodes are merged -/
def MGB (p : RP) (μ : MU) (f : Int) (L : List Int) (M : Int) (w A : Mm) : Prop := RLm p μ f L w A ∧ TX μ (pr_ p) (pg_ p) (pl_ p) A ∧ TB μ M A ∧ (SB 1 A ∧ bB A ∧ bPb A) ∧ (0 ≤ A 122 μ.1 0 ∧ A 122 μ.1 0 ≤ A 120 μ.1 0)
/-- only the place in the list, the codes and the nodes' parts are others -/
def pM (p : RP) (c al : Int → Int) (PL : Int → List Int) : RP := (c, ps_ p, pn_ p, al, pr_ p, pg_ p, PL)
theorem MGB.step {p : RP} {μ : MU} {f i x M : Int} {L : List Int} {w w' A : Mm} (h : MGB p μ f L M w A) (hM : M ≤ 600) (hx : m_nxt μ A = x ∧ x ≠ -1) (hi : (0 ≤ i ∧ i < A 125 μ.1 0) ∧ pa_ p i = x) (hw : w' = a_frm (w 38 (w 45 f 0) 0) i (t_mic (pn_ p x) (pn_ p (m_nwst μ x A)) w)) :
    (∃ c PL, MGB (pM p c (fun j => if j < i then pa_ p j else pa_ p (j + 1)) PL) μ f L M w' (m_mrg1 μ x A)) ∧ UPE f w w' ∧ ∀ k, k ≠ x → (m_mgF μ (m_mrg1 μ x A) k = 1 → m_mgF μ A k = 1) := by
  obtain ⟨h1, h2, h3, ⟨s1, s2, s3⟩, h5⟩ := h
  obtain ⟨hx, hx2⟩ := hx
  have g := MGx.of h3 (by rw [hx]; exact hx2)
  have hTb := h3.mrg1 (by rw [hx]; exact hx2)
  rw [hx] at g hTb
  obtain ⟨⟨c, r1⟩, r2⟩ := h1.mrg1 h5 h2.1.1 h3 hM g hi hw
  refine ⟨⟨c, PLm (pl_ p) x (m_nwst μ x A), r1, h2.mrg1 h3 hM g hTb s1 s2 s3, hTb, ⟨s1.cong (fun c a i y z => mrg1_o (by omega)), s2.cong (fun i => mrg1_o (by decide)), fun j a => by rw [mrg_pby]; exact s3 j a⟩, by rw [mrg1_o (by decide), mrg1_o (by decide)]; exact h5⟩, r2, fun k hk hm => ?_⟩
  unfold m_mgF at hm ⊢
  rw [bi_1] at hm ⊢
  rw [mrg1_216, if_neg hk, mrg1_o (by decide), g.chl hk] at hm
  refine ⟨hm.1, hm.2.1, hm.2.2.1, ?_⟩
  have e := hm.2.2.2
  unfold m_bkF at e ⊢
  simp only [mrg1_o (show (227 : Nat) ≠ 223 ∧ (227 : Nat) ≠ 221 ∧ (227 : Nat) ≠ 217 ∧ (227 : Nat) ≠ 225 ∧ (227 : Nat) ≠ 216 ∧ (227 : Nat) ≠ 125 by decide)] at e
  exact e
