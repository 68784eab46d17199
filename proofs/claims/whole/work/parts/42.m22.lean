theorem plist_cong {b b' : Mm} (e : ∀ c a i, c = 212 ∨ c = 213 → b' c a i = b c a i) : ∀ (n : Nat) (i t : Int), plist b' n i t = plist b n i t
  | 0, _, _ => rfl
  | n + 1, i, t => by
    simp only [plist]
    rw [e 212 _ _ (Or.inl rfl), play_1 (w := b') (b := b) (fun j => pby_cong (e _ _ _ (Or.inr rfl))), plist_cong e n]
theorem nodeL_cong {b b' : Mm} (e : ∀ c a i, c = 212 ∨ c = 213 ∨ (218 ≤ c ∧ c ≤ 220) → b' c a i = b c a i) : ∀ ps : List Int, nodeL b' ps = nodeL b ps
  | [] => rfl
  | p :: ps => by
    simp only [nodeL]
    rw [e 218 _ _ (by omega), e 219 _ _ (by omega), e 220 _ _ (by omega), plist_cong (fun c a i h => e c a i (by omega)), nodeL_cong e ps]
theorem CHL.cong {m : Int} {b b' : Mm} (e : ∀ c a i, c = 212 ∨ (218 ≤ c ∧ c ≤ 223) → b' c a i = b c a i) : ∀ {p : Int} {ps : List Int}, CHL m b p ps → CHL m b' p ps
  | p, [], h => h
  | p, x :: xs, h => by
    obtain ⟨h1, h2, h3, h4, h5, h6⟩ := h
    refine ⟨h1, h2, ?_, ?_, fun i a c => ?_, ?_⟩
    · rw [e 218 _ _ (by omega), e 220 _ _ (by omega)]; exact h3
    · rw [e 219 _ _ (by omega)]; exact h4
    · rw [e 218 _ _ (by omega)] at a
      rw [e 218 _ _ (by omega), e 220 _ _ (by omega)] at c
      rw [e 212 _ _ (by omega)]; exact h5 i a c
    · rw [e 223 _ _ (by omega)]; exact CHL.cong e h6
theorem playL_app : ∀ (A B : List (Int × Int)) (w : Mm), m_playL (A ++ B) w = m_playL B (m_playL A w)
  | [], _, _ => rfl
  | x :: A, B, w => playL_app A B _
theorem LGL_app : ∀ (A B : List (Int × Int)) (w : Mm), LGL (A ++ B) w ↔ LGL A w ∧ LGL B (m_playL A w)
  | [], B, w => ⟨fun h => ⟨trivial, h⟩, fun h => h.2⟩
  | x :: A, B, w => by
    show (_ ∧ LGL (A ++ B) _) ↔ (_ ∧ LGL A _) ∧ LGL B (m_playL A _)
    rw [LGL_app A B]
    exact and_assoc.symm
theorem tkT_id {most : Int} : ∀ (L : List (Int × Int)) (s : Int), 0 ≤ s → s + L.length < most → tkT most s L = L
  | [], _, _, _ => rfl
  | x :: xs, s, h0, h => by
    simp only [List.length_cons] at h
    simp only [tkT]
    split
    · rw [if_neg (by omega), tkT_id xs (s + 1) (by omega) (by omega)]
    · rw [tkT_id xs s h0 (by omega)]
theorem StP.playL {b : Mm} {L : List (Int × Int)} : ∀ {w : Mm}, StP b w → LGL L w → StP b (m_playL L w) := by
  induction L with
  | nil => exact fun h _ => h
  | cons x xs ih => exact fun h g => ih (h.play g.1) g.2
def m_rini (w : Mm) : Mm := fl (fl (fl (up w 201 0 1 0) 202 6 6 (fun _ => -1)) 203 6 6 (fun _ => 0)) 204 5 5 (fun _ => 0)
theorem rini_at {w : Mm} {c : Nat} {a i : Int} (h : c < 201 ∨ 204 < c) : m_rini w c a i = w c a i := by
  unfold m_rini
  rw [fl_at (by omega), fl_at (by omega), fl_at (by omega), up_k _ (by omega)]
theorem fin_at {μ : MU} {x : Int} {w : Mm} {c : Nat} {a i : Int} (h : c ≠ 127 ∧ c ≠ 226) : m_fin μ x w c a i = w c a i := by
  unfold m_fin; rw [fl_at h.2, up_k _ h.1]
theorem SB.rini {w : Mm} (h : SB 1 w) : SB 1 (m_rini w) := by
  obtain ⟨h1, h2, h3, h4, h5, h6⟩ := h
  have e201 : m_rini w 201 0 1 = 0 := by unfold m_rini; rw [fl_at (by decide), fl_at (by decide), fl_at (by decide), up_s]
  refine ⟨?_, fun i a b => ?_, fun i a b => ?_, fun i a b => ?_, fun i a b => ?_, fun i a b => ?_⟩
  · unfold bL1; rw [e201]; decide
  · rw [rini_at (by omega)]; exact h2 i a b
  · rw [e201]
    unfold m_rini
    refine ⟨?_, Or.inl ?_⟩
    · rw [fl_at (by decide), fl_at (by decide)]; simp only [fl, true_and]; rw [if_pos (by omega)]; decide
    · rw [fl_at (by decide)]; simp only [fl, true_and]; rw [if_pos (by omega)]
  · have : m_rini w 204 0 i = 0 := by unfold m_rini; simp only [fl, true_and]; rw [if_pos (by omega)]
    rw [this]; exact ⟨by decide, by decide, fun _ => by decide⟩
  · rw [rini_at (by omega)]; exact h5 i a b
  · rw [rini_at (by omega)]; exact h6 i a b
/-- the steps of the first nodes of the path to x, from the root on -/
def RSn (PL : Int → List Int) (x : Int) (b : Mm) : Nat → List (Int × Int)
  | 0 => []
  | n + 1 => RSn PL x b n ++ nodeL b (PL (m_anc b x (m_pln b x - 1 - (n + 1)).toNat))
def m_rp0 (μ : MU) (x : Int) (w : Mm) : Mm := m_fin μ x (m_rini w)
def RSx (PL : Int → List Int) (x : Int) (b : Mm) : List (Int × Int) := RSn PL x b (m_pln b x - 1).toNat
def m_rpl (μ : MU) (PL : Int → List Int) (x : Int) (w : Mm) : Mm := m_playL (RSx PL x w) (m_rp0 μ x w)
theorem LGL_pre {PL : Int → List Int} {x : Int} {b w : Mm} : ∀ (m n : Nat), n ≤ m → LGL (RSn PL x b m) w → LGL (RSn PL x b n) w
  | 0, n, h, g => by have : n = 0 := by omega
                     subst this; exact g
  | m + 1, n, h, g => by
    by_cases c : n = m + 1
    · subst c; exact g
    · exact LGL_pre m n (by omega) ((LGL_app _ _ _).mp g).1
/-- the parts of the nodes on the path to x are at hand -/
def PHx (PL : Int → List Int) (x : Int) (w : Mm) : Prop := ∀ j : Nat, (j : Int) < m_pln w x - 1 → (0 ≤ m_anc w x j ∧ m_anc w x j < 640) ∧ CHL 640 w (w 221 0 (m_anc w x j)) (PL (m_anc w x j)) ∧ (PL (m_anc w x j)).length ≤ 640 ∧ (nodeL w (PL (m_anc w x j))).length ≤ 30000
theorem pln_cong {w w' : Mm} (e : ∀ a i, w' 217 a i = w 217 a i) (k : Int) : m_pln w' k = m_pln w k := by
  have key : ∀ (n : Nat) (k : Int), plen w' n k = plen w n k := fun n => by
    induction n with
    | zero => intro k; rfl
    | succ n ih => intro k; simp only [plen]; rw [e, ih]
  exact key _ _
theorem anc_cong {w w' : Mm} (e : ∀ a i, w' 217 a i = w 217 a i) (k : Int) : ∀ n, m_anc w' k n = m_anc w k n
  | 0 => rfl
  | n + 1 => by simp only [m_anc]; rw [e, anc_cong e k n]
theorem dX13_replays_0 : decode cX13_replays 0 = .ok (.aload_n 0, 1) := by decide +kernel
theorem dX13_replays_1 : decode cX13_replays 1 = .ok (.getfield 13, 3) := by decide +kernel
theorem dX13_replays_4 : decode cX13_replays 4 = .ok (.iconst 1, 1) := by decide +kernel
theorem dX13_replays_5 : decode cX13_replays 5 = .ok (.iconst 0, 1) := by decide +kernel
theorem dX13_replays_6 : decode cX13_replays 6 = .ok (.iastore, 1) := by decide +kernel
theorem dX13_replays_7 : decode cX13_replays 7 = .ok (.iconst 0, 1) := by decide +kernel
theorem dX13_replays_8 : decode cX13_replays 8 = .ok (.istore_n 2, 1) := by decide +kernel
theorem dX13_replays_9 : decode cX13_replays 9 = .ok (.iload_n 2, 1) := by decide +kernel
theorem dX13_replays_10 : decode cX13_replays 10 = .ok (.bipush 6, 2) := by decide +kernel
theorem dX13_replays_12 : decode cX13_replays 12 = .ok (.if_icmp .ge 29, 3) := by decide +kernel
theorem dX13_replays_15 : decode cX13_replays 15 = .ok (.aload_n 0, 1) := by decide +kernel
theorem dX13_replays_16 : decode cX13_replays 16 = .ok (.getfield 16, 3) := by decide +kernel
theorem dX13_replays_19 : decode cX13_replays 19 = .ok (.bipush 6, 2) := by decide +kernel
theorem dX13_replays_21 : decode cX13_replays 21 = .ok (.iload_n 2, 1) := by decide +kernel
theorem dX13_replays_22 : decode cX13_replays 22 = .ok (.iadd, 1) := by decide +kernel
theorem dX13_replays_23 : decode cX13_replays 23 = .ok (.iconst (-1), 1) := by decide +kernel
theorem dX13_replays_24 : decode cX13_replays 24 = .ok (.iastore, 1) := by decide +kernel
theorem dX13_replays_25 : decode cX13_replays 25 = .ok (.aload_n 0, 1) := by decide +kernel
theorem dX13_replays_26 : decode cX13_replays 26 = .ok (.getfield 19, 3) := by decide +kernel
theorem dX13_replays_29 : decode cX13_replays 29 = .ok (.bipush 6, 2) := by decide +kernel
theorem dX13_replays_31 : decode cX13_replays 31 = .ok (.iload_n 2, 1) := by decide +kernel
theorem dX13_replays_32 : decode cX13_replays 32 = .ok (.iadd, 1) := by decide +kernel
theorem dX13_replays_33 : decode cX13_replays 33 = .ok (.iconst 0, 1) := by decide +kernel
theorem dX13_replays_34 : decode cX13_replays 34 = .ok (.iastore, 1) := by decide +kernel
theorem dX13_replays_35 : decode cX13_replays 35 = .ok (.iinc 2 1, 3) := by decide +kernel
theorem dX13_replays_38 : decode cX13_replays 38 = .ok (.goto (-29), 3) := by decide +kernel
theorem dX13_replays_41 : decode cX13_replays 41 = .ok (.iconst 0, 1) := by decide +kernel
theorem dX13_replays_42 : decode cX13_replays 42 = .ok (.istore_n 2, 1) := by decide +kernel
theorem dX13_replays_43 : decode cX13_replays 43 = .ok (.iload_n 2, 1) := by decide +kernel
theorem dX13_replays_44 : decode cX13_replays 44 = .ok (.iconst 5, 1) := by decide +kernel
theorem dX13_replays_45 : decode cX13_replays 45 = .ok (.if_icmp .ge 18, 3) := by decide +kernel
theorem dX13_replays_48 : decode cX13_replays 48 = .ok (.aload_n 0, 1) := by decide +kernel
theorem dX13_replays_49 : decode cX13_replays 49 = .ok (.getfield 22, 3) := by decide +kernel
theorem dX13_replays_52 : decode cX13_replays 52 = .ok (.iconst 5, 1) := by decide +kernel
theorem dX13_replays_53 : decode cX13_replays 53 = .ok (.iload_n 2, 1) := by decide +kernel
theorem dX13_replays_54 : decode cX13_replays 54 = .ok (.iadd, 1) := by decide +kernel
theorem dX13_replays_55 : decode cX13_replays 55 = .ok (.iconst 0, 1) := by decide +kernel
theorem dX13_replays_56 : decode cX13_replays 56 = .ok (.iastore, 1) := by decide +kernel
theorem dX13_replays_57 : decode cX13_replays 57 = .ok (.iinc 2 1, 3) := by decide +kernel
theorem dX13_replays_60 : decode cX13_replays 60 = .ok (.goto (-17), 3) := by decide +kernel
theorem dX13_replays_63 : decode cX13_replays 63 = .ok (.aload_n 0, 1) := by decide +kernel
theorem dX13_replays_64 : decode cX13_replays 64 = .ok (.iload_n 1, 1) := by decide +kernel
theorem dX13_replays_65 : decode cX13_replays 65 = .ok (.invokevirtual 242, 3) := by decide +kernel
theorem dX13_replays_68 : decode cX13_replays 68 = .ok (.iconst 1, 1) := by decide +kernel
theorem dX13_replays_69 : decode cX13_replays 69 = .ok (.istore_n 2, 1) := by decide +kernel
theorem dX13_replays_70 : decode cX13_replays 70 = .ok (.iload_n 2, 1) := by decide +kernel
theorem dX13_replays_71 : decode cX13_replays 71 = .ok (.aload_n 0, 1) := by decide +kernel
theorem dX13_replays_72 : decode cX13_replays 72 = .ok (.getfield 235, 3) := by decide +kernel
theorem dX13_replays_75 : decode cX13_replays 75 = .ok (.if_icmp .ge 21, 3) := by decide +kernel
theorem dX13_replays_78 : decode cX13_replays 78 = .ok (.aload_n 0, 1) := by decide +kernel
theorem dX13_replays_79 : decode cX13_replays 79 = .ok (.aload_n 0, 1) := by decide +kernel
theorem dX13_replays_80 : decode cX13_replays 80 = .ok (.getfield 96, 3) := by decide +kernel
theorem dX13_replays_83 : decode cX13_replays 83 = .ok (.iload_n 2, 1) := by decide +kernel
theorem dX13_replays_84 : decode cX13_replays 84 = .ok (.iaload, 1) := by decide +kernel
theorem dX13_replays_85 : decode cX13_replays 85 = .ok (.ldc 245, 2) := by decide +kernel
theorem dX13_replays_87 : decode cX13_replays 87 = .ok (.invokevirtual 246, 3) := by decide +kernel
theorem dX13_replays_90 : decode cX13_replays 90 = .ok (.iinc 2 1, 3) := by decide +kernel
theorem dX13_replays_93 : decode cX13_replays 93 = .ok (.goto (-23), 3) := by decide +kernel
theorem dX13_replays_96 : decode cX13_replays 96 = .ok (.return_, 1) := by decide +kernel
set_option maxRecDepth 4000 in
theorem c_replays (γ : LC) (μ : MU) (w : Mm) (x M : Int) (PL : Int → List Int) (hT : TB μ M w) (hM : M ≤ 600) (hx : 0 ≤ x ∧ x < w 124 μ.1 0) (hS1 : SB 1 w) (hB : bB w) (hV : 0 ≤ w 210 0 0 ∧ w 210 0 0 ≤ 4) (hE : bE w) (hPH : PHx PL x w) (hL : LGL (RSx PL x w) (m_rp0 μ x w)) : CMv γ μ 4 mX13_replays [.int (I x)] w (fun w' => w' = m_rpl μ PL x w) := by
  refine CMv_of rfl (by simp [rv_cat, Value.category]) rfl ?_
  rintro κ hO hF rfl hR
  have hD := hF.dp
  show X κ 0 0 w 0 [some (rv μ.1), some (.int (I x)), none] []
  have hp := hT.pr
  have ht1 := hT.1
  have hx0 := pln_rng hp _ x (Nat.le_refl _) (by omega) (by omega)
  refine X_aload_n 1 hO dX13_replays_0 rfl rfl ?_
  refine ga_13 4 hO hR dX13_replays_1 rfl ?_
  refine X_iconst 5 hO dX13_replays_4 rfl ?_
  refine X_iconst 6 hO dX13_replays_5 rfl ?_
  refine ma_st (L := 4) (c := 201) 7 hO hR rfl rfl rfl dX13_replays_6 rfl (by omega) (by omega) (by omega) (fun hR => ?_)
  refine X_iconst 8 hO dX13_replays_7 rfl ?_
  refine X_istore_n 9 hO dX13_replays_8 rfl rfl ?_
  have LP9 : ∀ (n : Nat) (k : Int), (6 - k).toNat < n → (0 ≤ k ∧ k ≤ 6) → RM ((fl (fl (up w 201 0 1 0) 202 6 k (fun _ => -1)) 203 6 k (fun _ => 0))) μ → X κ 0 0 ((fl (fl (up w 201 0 1 0) 202 6 k (fun _ => -1)) 203 6 k (fun _ => 0))) 9 [some (rv μ.1), some (.int (I x)), some (.int (I k))] [] := by
    intro n
    induction n with
    | zero => intro k hm; exact absurd hm (Nat.not_lt_zero _)
    | succ n ih =>
      intro k hm hk hR
      refine X_iload_n 10 hO dX13_replays_9 rfl rfl ?_
      refine X_bipush 12 hO dX13_replays_10 rfl (by decide) ?_
      refine X_icmp_ge 15 41 hO dX13_replays_12 rfl rfl (by omega) (by omega) (fun hc_12 => ?_) (fun hc_12 => ?_)
      ·
        have e12 : k = 6 := by omega
        subst e12
        refine X_iconst 42 hO dX13_replays_41 rfl ?_
        refine X_istore_n 43 hO dX13_replays_42 rfl rfl ?_
        have LP43 : ∀ (n : Nat) (k : Int), (5 - k).toNat < n → (0 ≤ k ∧ k ≤ 5) → RM ((fl (fl (fl (up w 201 0 1 0) 202 6 6 (fun _ => -1)) 203 6 6 (fun _ => 0)) 204 5 k (fun _ => 0))) μ → X κ 0 0 ((fl (fl (fl (up w 201 0 1 0) 202 6 6 (fun _ => -1)) 203 6 6 (fun _ => 0)) 204 5 k (fun _ => 0))) 43 [some (rv μ.1), some (.int (I x)), some (.int (I k))] [] := by
          intro n
          induction n with
          | zero => intro k hm; exact absurd hm (Nat.not_lt_zero _)
          | succ n ih =>
            intro k hm hk hR
            refine X_iload_n 44 hO dX13_replays_43 rfl rfl ?_
            refine X_iconst 45 hO dX13_replays_44 rfl ?_
            refine X_icmp_ge 48 63 hO dX13_replays_45 rfl rfl (by omega) (by omega) (fun hc_45 => ?_) (fun hc_45 => ?_)
            ·
              have e45 : k = 5 := by omega
              subst e45
              refine X_aload_n 64 hO dX13_replays_63 rfl rfl ?_
              refine X_iload_n 65 hO dX13_replays_64 rfl rfl ?_
              refine XM_callVv 68 hO hD hR lX13_242 [_] rfl dX13_replays_65 rfl (c_finds _ _ _ _ M (hT.cong fun c a i hc => rini_at (w := w) (by omega)) hM (by rw [show (fl (fl (fl (up w 201 0 1 0) 202 6 6 (fun _ => -1)) 203 6 6 (fun _ => 0)) 204 5 5 (fun _ => 0)) = m_rini w from rfl, rini_at (by decide)]; exact hx)) (by decide) (by simp only [List.map_cons, List.map_nil, rv_cat]; exact Nat.le_of_ble_eq_true rfl) (fun w_65 hp_65 hR => ?_)
              subst hp_65
              have h00 : StP (m_rp0 μ x w) (m_rp0 μ x w) := ⟨fun _ _ _ _ _ => rfl, (SB.rini hS1).cong fun c a i y z => by unfold m_rp0; exact fin_at (by omega), hB.cong fun i => by unfold m_rp0; rw [fin_at (by decide), rini_at (by decide)]⟩
              rw [show m_fin μ x (fl (fl (fl (up w 201 0 1 0) 202 6 6 (fun _ => -1)) 203 6 6 (fun _ => 0)) 204 5 5 (fun _ => 0)) = m_rp0 μ x w from rfl] at hR ⊢
              refine X_iconst 69 hO dX13_replays_68 rfl ?_
              refine X_istore_n 70 hO dX13_replays_69 rfl rfl ?_
              have LP70 : ∀ (n : Nat) (k : Int), (m_pln w x - k).toNat < n → (1 ≤ k ∧ k ≤ m_pln w x) → RM ((m_playL (RSn PL x w (k - 1).toNat) (m_rp0 μ x w))) μ → X κ 0 0 ((m_playL (RSn PL x w (k - 1).toNat) (m_rp0 μ x w))) 70 [some (rv μ.1), some (.int (I x)), some (.int (I k))] [] := by
                intro n
                induction n with
                | zero => intro k hm; exact absurd hm (Nat.not_lt_zero _)
                | succ n ih =>
                  intro k hm hk hR
                  have hst : StP (m_rp0 μ x w) (m_playL (RSn PL x w (k - 1).toNat) (m_rp0 μ x w)) := h00.playL (LGL_pre _ _ (by omega) hL)
                  refine X_iload_n 71 hO dX13_replays_70 rfl rfl ?_
                  refine X_aload_n 72 hO dX13_replays_71 rfl rfl ?_
                  refine ga_235 75 hO hR dX13_replays_72 rfl (fun hi_72 => ?_)
                  have e127 : m_playL (RSn PL x w (k - 1).toNat) (m_rp0 μ x w) 127 μ.1 0 = m_pln w x := by
                    rw [hst.1 127 _ _ (by decide) (by decide)]; unfold m_rp0 m_fin; rw [fl_at (by decide), up_s, pln_cong (fun a i => rini_at (by decide))]
                  rw [e127]
                  refine X_icmp_ge 78 96 hO dX13_replays_75 rfl rfl (by omega) (by omega) (fun hc_75 => ?_) (fun hc_75 => ?_)
                  ·
                    have e75 : k = m_pln w x := by omega
                    subst e75
                    exact XM_vret hO hF hR rfl dX13_replays_96 rfl
                  ·
                    obtain ⟨ha1, hch, hlen, hln⟩ := hPH (m_pln w x - 1 - k).toNat (by omega)
                    have eF : ∀ c a i, (c < 200 ∨ 206 < c) → c ≠ 240 → c ≠ 127 → c ≠ 226 → m_playL (RSn PL x w (k - 1).toNat) (m_rp0 μ x w) c a i = w c a i := fun c a i y1 y2 y3 y4 => by
                      rw [hst.1 c a i y1 y2]; unfold m_rp0; rw [fin_at ⟨y3, y4⟩, rini_at (by omega)]
                    have hNL : nodeL (m_playL (RSn PL x w (k - 1).toNat) (m_rp0 μ x w)) (PL (m_anc w x (m_pln w x - 1 - k).toNat)) = nodeL w (PL (m_anc w x (m_pln w x - 1 - k).toNat)) := nodeL_cong (fun c a i h => eF c a i (by omega) (by omega) (by omega) (by omega)) _
                    have hid : tkT 100000 0 (nodeL (m_playL (RSn PL x w (k - 1).toNat) (m_rp0 μ x w)) (PL (m_anc w x (m_pln w x - 1 - k).toNat))) = nodeL w (PL (m_anc w x (m_pln w x - 1 - k).toNat)) := by rw [hNL, tkT_id _ _ (by decide) (by omega)]
                    have hLk : LGL (nodeL w (PL (m_anc w x (m_pln w x - 1 - k).toNat))) (m_playL (RSn PL x w (k - 1).toNat) (m_rp0 μ x w)) := by
                      have h2 := LGL_pre _ ((k - 1).toNat + 1) (by omega) hL
                      have h3 := ((LGL_app (RSn PL x w (k - 1).toNat) _ _).mp h2).2
                      rw [show (((k - 1).toNat : Nat) : Int) + 1 = k by omega] at h3
                      exact h3
                    refine X_aload_n 79 hO dX13_replays_78 rfl rfl ?_
                    refine X_aload_n 80 hO dX13_replays_79 rfl rfl ?_
                    refine ga_96 83 hO hR dX13_replays_80 rfl ?_
                    refine X_iload_n 84 hO dX13_replays_83 rfl rfl ?_
                    refine ma_ld (L := 640) (c := 226) 85 hO hR rfl rfl rfl dX13_replays_84 rfl (by omega) (by omega) (fun hi_84 => ?_)
                    have e84 : m_playL (RSn PL x w (k - 1).toNat) (m_rp0 μ x w) 226 0 k = m_anc w x (m_pln w x - 1 - k).toNat := by
                      rw [hst.1 226 _ _ (by decide) (by decide)]; unfold m_rp0 m_fin; simp only [fl, true_and]; rw [pln_cong (fun a i => rini_at (by decide)), if_pos (by omega), anc_cong (fun a i => rini_at (by decide))]
                    rw [e84]
                    refine X_ldc 87 hO w_most dX13_replays_85 rfl ?_
                    refine XM_callVv 90 hO hD hR lX13_246 [_, _] rfl dX13_replays_87 rfl (c_playsNode _ _ _ _ _ (PL (m_anc w x (m_pln w x - 1 - k).toNat)) ha1 (by omega) (by rw [eF 221 _ _ (by decide) (by decide) (by decide) (by decide)]; exact hch.cong fun c a i h => eF c a i (by omega) (by omega) (by omega) (by omega)) ⟨fun _ _ _ _ _ => rfl, hst.2⟩ (by rw [eF 210 _ _ (by decide) (by decide) (by decide) (by decide)]; exact hV) (fun i a b => by rw [eF 208 _ _ (by decide) (by decide) (by decide) (by decide), eF 209 _ _ (by decide) (by decide) (by decide) (by decide)]; exact hE i a b) hlen (by rw [hid]; exact hLk)) (by decide) (by simp only [List.map_cons, List.map_nil, rv_cat]; exact Nat.le_of_ble_eq_true rfl) (fun w_87 hp_87 hR => ?_)
                    subst hp_87
                    refine X_iinc 93 hO dX13_replays_90 rfl rfl ?_
                    refine X_goto hO dX13_replays_93 (tgt := 70) rfl ?_
                    refine X_eqR hR (w2 := m_playL (RSn PL x w (k + 1 - 1).toNat) (m_rp0 μ x w)) ?_ (fun hR => ih (k + 1) (by omega) (by omega) hR)
                    rw [hid, show (k + 1 - 1).toNat = (k - 1).toNat + 1 by omega]
                    show _ = m_playL (RSn PL x w (k - 1).toNat ++ _) _
                    rw [playL_app, show (((k - 1).toNat : Nat) : Int) + 1 = k by omega]
              exact LP70 _ 1 (Nat.lt_succ_self _) (by omega) hR
            ·
              refine X_aload_n 49 hO dX13_replays_48 rfl rfl ?_
              refine ga_22 52 hO hR dX13_replays_49 rfl ?_
              refine X_iconst 53 hO dX13_replays_52 rfl ?_
              refine X_iload_n 54 hO dX13_replays_53 rfl rfl ?_
              refine X_iadd 55 hO dX13_replays_54 rfl ?_
              refine X_iconst 56 hO dX13_replays_55 rfl ?_
              refine ma_st (L := 20) (c := 204) 57 hO hR rfl rfl rfl dX13_replays_56 rfl (by omega) (by omega) (by omega) (fun hR => ?_)
              refine X_iinc 60 hO dX13_replays_57 rfl rfl ?_
              refine X_goto hO dX13_replays_60 (tgt := 43) rfl ?_
              exact X_eqR hR (fl_stp (by omega) rfl (by omega) rfl) (fun hR => ih (k + 1) (by omega) (by omega) hR)
        exact X_eqR hR (fl_00 rfl) (fun hR => LP43 _ 0 (Nat.lt_succ_self _) (by omega) hR)
      ·
        refine X_aload_n 16 hO dX13_replays_15 rfl rfl ?_
        refine ga_16 19 hO hR dX13_replays_16 rfl ?_
        refine X_bipush 21 hO dX13_replays_19 rfl (by decide) ?_
        refine X_iload_n 22 hO dX13_replays_21 rfl rfl ?_
        refine X_iadd 23 hO dX13_replays_22 rfl ?_
        refine X_iconst 24 hO dX13_replays_23 rfl ?_
        refine ma_st (L := 24) (c := 202) 25 hO hR rfl rfl rfl dX13_replays_24 rfl (by omega) (by omega) (by omega) (fun hR => ?_)
        refine X_aload_n 26 hO dX13_replays_25 rfl rfl ?_
        refine ga_19 29 hO hR dX13_replays_26 rfl ?_
        refine X_bipush 31 hO dX13_replays_29 rfl (by decide) ?_
        refine X_iload_n 32 hO dX13_replays_31 rfl rfl ?_
        refine X_iadd 33 hO dX13_replays_32 rfl ?_
        refine X_iconst 34 hO dX13_replays_33 rfl ?_
        refine ma_st (L := 24) (c := 203) 35 hO hR rfl rfl rfl dX13_replays_34 rfl (by omega) (by omega) (by omega) (fun hR => ?_)
        refine X_iinc 38 hO dX13_replays_35 rfl rfl ?_
        refine X_goto hO dX13_replays_38 (tgt := 9) rfl ?_
        exact X_eqR hR (fl_stp2 (by decide) (by omega) rfl (by omega) rfl (by omega) rfl (by omega) rfl) (fun hR => ih (k + 1) (by omega) (by omega) hR)
  exact X_eqR hR (w2 := (fl (fl (up w 201 0 1 0) 202 6 0 (fun _ => -1)) 203 6 0 (fun _ => 0))) (by rw [fl_0, fl_0]) (fun hR => LP9 _ 0 (Nat.lt_succ_self _) (by omega) hR)
