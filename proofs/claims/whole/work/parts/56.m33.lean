theorem LGL_tkT {most : Int} : ∀ (L : List (Int × Int)) (s : Int) (w : Mm), LGL L w → LGL (tkT most s L) w
  | [], _, _, h => h
  | x :: xs, s, w, h => by
    simp only [tkT]
    split
    · split
      · trivial
      · exact ⟨h.1, LGL_tkT xs (s + 1) _ h.2⟩
    · exact ⟨h.1, LGL_tkT xs s _ h.2⟩
def m_rem1 (μ : MU) (PL : Int → List Int) (nd t : Int) (w : Mm) : Mm := m_playL (tkT t 0 (nodeL w (PL nd))) (m_rpl μ PL (w 217 0 nd) w)
def m_rem (μ : MU) (PL : Int → List Int) (nd t : Int) (w : Mm) : Mm := fl (m_rem1 μ PL nd t w) 240 0 (w 243 0 t) (fun k => m_rem1 μ PL nd t w 200 0 (400 + w 242 0 t + k))
theorem rem1_ok {μ : MU} {PL : Int → List Int} {nd t : Int} {w : Mm} (h1 : SB 1 w) (h2 : bB w) (hRP : RPk μ PL (w 217 0 nd) w) (hL : LGL (nodeL w (PL nd)) (m_rpl μ PL (w 217 0 nd) w)) : SB 1 (m_rem1 μ PL nd t w) ∧ bB (m_rem1 μ PL nd t w) ∧ F1 w (m_rem1 μ PL nd t w) ∧ ∀ c a i, (c < 200 ∨ 206 < c) → c ≠ 240 → c ≠ 127 → c ≠ 226 → m_rem1 μ PL nd t w c a i = w c a i := by
  have hs := rpl_st h1 h2 hRP
  have h0 : StP (m_rpl μ PL (w 217 0 nd) w) (m_rpl μ PL (w 217 0 nd) w) := ⟨fun _ _ _ _ _ => rfl, hs.1, hs.2.1⟩
  have hl := LGL_tkT (most := t) _ 0 _ hL
  have h3 := h0.playL hl
  unfold m_rem1
  refine ⟨h3.2.1, h3.2.2, hs.2.2.t (F1.playL hs.1 hs.2.1 hl), fun c a i y1 y2 y3 y4 => ?_⟩
  rw [h3.1 c a i y1 y2]; exact rpl_at h1 h2 hRP ⟨y1, y2, y3, y4⟩
theorem dX13_remembers_0 : decode cX13_remembers 0 = .ok (.aload_n 0, 1) := by decide +kernel
theorem dX13_remembers_1 : decode cX13_remembers 1 = .ok (.getfield 159, 3) := by decide +kernel
theorem dX13_remembers_4 : decode cX13_remembers 4 = .ok (.iload_n 2, 1) := by decide +kernel
theorem dX13_remembers_5 : decode cX13_remembers 5 = .ok (.iaload, 1) := by decide +kernel
theorem dX13_remembers_6 : decode cX13_remembers 6 = .ok (.istore_n 3, 1) := by decide +kernel
theorem dX13_remembers_7 : decode cX13_remembers 7 = .ok (.aload_n 0, 1) := by decide +kernel
theorem dX13_remembers_8 : decode cX13_remembers 8 = .ok (.aload_n 0, 1) := by decide +kernel
theorem dX13_remembers_9 : decode cX13_remembers 9 = .ok (.getfield 69, 3) := by decide +kernel
theorem dX13_remembers_12 : decode cX13_remembers 12 = .ok (.iload_n 1, 1) := by decide +kernel
theorem dX13_remembers_13 : decode cX13_remembers 13 = .ok (.iaload, 1) := by decide +kernel
theorem dX13_remembers_14 : decode cX13_remembers 14 = .ok (.invokevirtual 394, 3) := by decide +kernel
theorem dX13_remembers_17 : decode cX13_remembers 17 = .ok (.aload_n 0, 1) := by decide +kernel
theorem dX13_remembers_18 : decode cX13_remembers 18 = .ok (.iload_n 1, 1) := by decide +kernel
theorem dX13_remembers_19 : decode cX13_remembers 19 = .ok (.iload_n 2, 1) := by decide +kernel
theorem dX13_remembers_20 : decode cX13_remembers 20 = .ok (.invokevirtual 246, 3) := by decide +kernel
theorem dX13_remembers_23 : decode cX13_remembers 23 = .ok (.iconst 0, 1) := by decide +kernel
theorem dX13_remembers_24 : decode cX13_remembers 24 = .ok (.istore 4, 2) := by decide +kernel
theorem dX13_remembers_26 : decode cX13_remembers 26 = .ok (.iload 4, 2) := by decide +kernel
theorem dX13_remembers_28 : decode cX13_remembers 28 = .ok (.iload_n 3, 1) := by decide +kernel
theorem dX13_remembers_29 : decode cX13_remembers 29 = .ok (.if_icmp .ge 34, 3) := by decide +kernel
theorem dX13_remembers_32 : decode cX13_remembers 32 = .ok (.aload_n 0, 1) := by decide +kernel
theorem dX13_remembers_33 : decode cX13_remembers 33 = .ok (.getfield 150, 3) := by decide +kernel
theorem dX13_remembers_36 : decode cX13_remembers 36 = .ok (.iload 4, 2) := by decide +kernel
theorem dX13_remembers_38 : decode cX13_remembers 38 = .ok (.aload_n 0, 1) := by decide +kernel
theorem dX13_remembers_39 : decode cX13_remembers 39 = .ok (.getfield 7, 3) := by decide +kernel
theorem dX13_remembers_42 : decode cX13_remembers 42 = .ok (.sipush 400, 3) := by decide +kernel
theorem dX13_remembers_45 : decode cX13_remembers 45 = .ok (.aload_n 0, 1) := by decide +kernel
theorem dX13_remembers_46 : decode cX13_remembers 46 = .ok (.getfield 156, 3) := by decide +kernel
theorem dX13_remembers_49 : decode cX13_remembers 49 = .ok (.iload_n 2, 1) := by decide +kernel
theorem dX13_remembers_50 : decode cX13_remembers 50 = .ok (.iaload, 1) := by decide +kernel
theorem dX13_remembers_51 : decode cX13_remembers 51 = .ok (.iadd, 1) := by decide +kernel
theorem dX13_remembers_52 : decode cX13_remembers 52 = .ok (.iload 4, 2) := by decide +kernel
theorem dX13_remembers_54 : decode cX13_remembers 54 = .ok (.iadd, 1) := by decide +kernel
theorem dX13_remembers_55 : decode cX13_remembers 55 = .ok (.iaload, 1) := by decide +kernel
theorem dX13_remembers_56 : decode cX13_remembers 56 = .ok (.iastore, 1) := by decide +kernel
theorem dX13_remembers_57 : decode cX13_remembers 57 = .ok (.iinc 4 1, 3) := by decide +kernel
theorem dX13_remembers_60 : decode cX13_remembers 60 = .ok (.goto (-34), 3) := by decide +kernel
theorem dX13_remembers_63 : decode cX13_remembers 63 = .ok (.return_, 1) := by decide +kernel
set_option maxRecDepth 4000 in
theorem c_remembers (γ : LC) (μ : MU) (w : Mm) (nd t M : Int) (PL : Int → List Int) (hT : TB μ M w) (hM : M ≤ 600) (hnd : 1 ≤ nd ∧ nd < w 124 μ.1 0) (ht : 0 ≤ t ∧ t < 8) (hS1 : SB 1 w) (hB : bB w) (hV : 0 ≤ w 210 0 0 ∧ w 210 0 0 ≤ 4) (hE : bE w) (hRP : RPk μ PL (w 217 0 nd) w) (hC : CHL 640 w (w 221 0 nd) (PL nd)) (hPl : (PL nd).length ≤ 640) (hL : LGL (nodeL w (PL nd)) (m_rpl μ PL (w 217 0 nd) w)) (hsz : (0 ≤ w 242 0 t ∧ 0 ≤ w 243 0 t) ∧ w 242 0 t + w 243 0 t ≤ 400) : CMv γ μ 5 mX13_remembers [.int (I nd), .int (I t)] w (fun w' => w' = m_rem μ PL nd t w) := by
  refine CMv_of rfl (by simp [rv_cat, Value.category]) rfl ?_
  rintro κ hO hF rfl hR
  have hD := hF.dp
  show X κ 0 0 w 0 [some (rv μ.1), some (.int (I nd)), some (.int (I t)), none, none] []
  have ht1 := hT.1
  have hpn := hT.2.2.2.2.2.2 nd (by omega) hnd.2
  have hr1 := rem1_ok (t := t) hS1 hB hRP hL
  have hrs := rpl_st hS1 hB hRP
  have eA : ∀ c a i, ((c < 200 ∨ 206 < c) ∧ c ≠ 240 ∧ c ≠ 127 ∧ c ≠ 226) → (m_rpl μ PL (w 217 0 nd) w) c a i = w c a i := fun c a i h => rpl_at hS1 hB hRP h
  have eL : nodeL (m_rpl μ PL (w 217 0 nd) w) (PL nd) = nodeL w (PL nd) := nodeL_cong (fun c a i h => eA c a i (by omega)) _
  refine X_aload_n 1 hO dX13_remembers_0 rfl rfl ?_
  refine ga_159 4 hO hR dX13_remembers_1 rfl ?_
  refine X_iload_n 5 hO dX13_remembers_4 rfl rfl ?_
  refine ma_ld (L := 8) (c := 243) 6 hO hR rfl rfl rfl dX13_remembers_5 rfl (by omega) (by omega) (fun hi_5 => ?_)
  refine X_istore_n 7 hO dX13_remembers_6 rfl rfl ?_
  refine X_aload_n 8 hO dX13_remembers_7 rfl rfl ?_
  refine X_aload_n 9 hO dX13_remembers_8 rfl rfl ?_
  refine ga_69 12 hO hR dX13_remembers_9 rfl ?_
  refine X_iload_n 13 hO dX13_remembers_12 rfl rfl ?_
  refine ma_ld (L := 640) (c := 217) 14 hO hR rfl rfl rfl dX13_remembers_13 rfl (by omega) (by omega) (fun hi_13 => ?_)
  refine XM_callVv 17 hO hD hR lX13_394 [_] rfl dX13_remembers_14 rfl (c_replays _ _ _ _ M PL hT hM (by omega) hS1 hB hV hE hRP.1 hRP.2) (by decide) (by simp only [List.map_cons, List.map_nil, rv_cat]; exact Nat.le_of_ble_eq_true rfl) (fun w_14 hp_14 hR => ?_)
  subst hp_14
  refine X_aload_n 18 hO dX13_remembers_17 rfl rfl ?_
  refine X_iload_n 19 hO dX13_remembers_18 rfl rfl ?_
  refine X_iload_n 20 hO dX13_remembers_19 rfl rfl ?_
  refine XM_callVv 23 hO hD hR lX13_246 [_, _] rfl dX13_remembers_20 rfl (c_playsNode _ _ _ _ _ (PL nd) (by omega) (by omega) (by rw [eA 221 _ _ (by decide)]; exact hC.cong fun c a i h => eA c a i (by omega)) ⟨fun _ _ _ _ _ => rfl, hrs.1, hrs.2.1⟩ (by rw [eA 210 _ _ (by decide)]; exact hV) (fun i a b => by rw [eA 208 _ _ (by decide), eA 209 _ _ (by decide)]; exact hE i a b) hPl (by rw [eL]; exact LGL_tkT _ 0 _ hL)) (by decide) (by simp only [List.map_cons, List.map_nil, rv_cat]; exact Nat.le_of_ble_eq_true rfl) (fun w_20 hp_20 hR => ?_)
  subst hp_20
  rw [eL] at hR ⊢
  rw [show m_playL (tkT t 0 (nodeL w (PL nd))) (m_rpl μ PL (w 217 0 nd) w) = (m_rem1 μ PL nd t w) from rfl] at hR ⊢
  refine X_iconst 24 hO dX13_remembers_23 rfl ?_
  refine X_istore 26 hO dX13_remembers_24 rfl rfl ?_
  have LP26 : ∀ (n : Nat) (k : Int), (w 243 0 t - k).toNat < n → (0 ≤ k ∧ k ≤ w 243 0 t) → RM (fl (m_rem1 μ PL nd t w) 240 0 k (fun j => (m_rem1 μ PL nd t w) 200 0 (400 + w 242 0 t + j))) μ → X κ 0 0 (fl (m_rem1 μ PL nd t w) 240 0 k (fun j => (m_rem1 μ PL nd t w) 200 0 (400 + w 242 0 t + j))) 26 [some (rv μ.1), some (.int (I nd)), some (.int (I t)), some (.int (I (w 243 0 t))), some (.int (I k))] [] := by
    intro n
    induction n with
    | zero => intro k hm; exact absurd hm (Nat.not_lt_zero _)
    | succ n ih =>
      intro k hm hk hR
      refine X_iload 28 hO dX13_remembers_26 rfl rfl ?_
      refine X_iload_n 29 hO dX13_remembers_28 rfl rfl ?_
      refine X_icmp_ge 32 63 hO dX13_remembers_29 rfl rfl (by omega) (by omega) (fun hc_29 => ?_) (fun hc_29 => ?_)
      ·
        have e29 : k = w 243 0 t := by omega
        subst e29
        exact XM_vret hO hF hR rfl dX13_remembers_63 rfl
      ·
        refine X_aload_n 33 hO dX13_remembers_32 rfl rfl ?_
        refine ga_150 36 hO hR dX13_remembers_33 rfl ?_
        refine X_iload 38 hO dX13_remembers_36 rfl rfl ?_
        refine X_aload_n 39 hO dX13_remembers_38 rfl rfl ?_
        refine ga_7 42 hO hR dX13_remembers_39 rfl ?_
        refine X_sipush 45 hO dX13_remembers_42 rfl (by decide) ?_
        refine X_aload_n 46 hO dX13_remembers_45 rfl rfl ?_
        refine ga_156 49 hO hR dX13_remembers_46 rfl ?_
        refine X_iload_n 50 hO dX13_remembers_49 rfl rfl ?_
        refine ma_ld (L := 8) (c := 242) 51 hO hR rfl rfl rfl dX13_remembers_50 rfl (by omega) (by omega) (fun hi_50 => ?_)
        rw [fl_at (by decide), hr1.2.2.2 242 _ _ (by decide) (by decide) (by decide) (by decide)]
        refine X_iadd 52 hO dX13_remembers_51 rfl ?_
        refine X_iload 54 hO dX13_remembers_52 rfl rfl ?_
        refine X_iadd 55 hO dX13_remembers_54 rfl ?_
        refine ma_ld (L := 1600) (c := 200) 56 hO hR rfl rfl rfl dX13_remembers_55 rfl (by omega) (by omega) (fun hi_55 => ?_)
        rw [fl_at (by decide)] at hi_55 ⊢
        refine ma_st (L := 400) (c := 240) 57 hO hR rfl rfl rfl dX13_remembers_56 rfl (by omega) (by omega) (by omega) (fun hR => ?_)
        refine X_iinc 60 hO dX13_remembers_57 rfl rfl ?_
        refine X_goto hO dX13_remembers_60 (tgt := 26) rfl ?_
        exact X_eqR hR (fl_stp (by omega) rfl (by omega) rfl) (fun hR => ih (k + 1) (by omega) (by omega) hR)
  exact X_eqR hR (fl_00 rfl) (fun hR => LP26 _ 0 (Nat.lt_succ_self _) (by omega) hR)
