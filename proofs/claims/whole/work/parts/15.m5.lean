def m_pEn (μ : MU) (s e : Int) (b w : Mm) : Mm := m_poolN μ (fun i => b 206 0 (80 * s + 20 * e + i)) (b 205 0 (4 * s + e)).toNat w
def m_tel (μ : MU) (s : Int) (b : Mm) : Nat → Mm → Mm
  | 0, w => w
  | n + 1, w => m_pEn μ s n b (m_pool μ (b 205 0 (4 * s + n)) (m_tel μ s b n w))
def m_tells (μ : MU) (s : Int) (w : Mm) : Mm := m_tel μ s w (w 204 0 s).toNat (m_pool μ (w 204 0 s) (m_step μ 4 0 s w))
theorem pEn_at {μ : MU} {s e : Int} {b w : Mm} {c : Nat} {a i : Int} (h : c ≠ 213 ∧ c ≠ 121) : m_pEn μ s e b w c a i = w c a i := poolN_at h
theorem tel_at {μ : MU} {s : Int} {n : Nat} {b w : Mm} {c : Nat} {a i : Int} (h : c ≠ 213 ∧ c ≠ 121) : m_tel μ s b n w c a i = w c a i := by
  induction n with
  | zero => rfl
  | succ n ih => exact ((pEn_at h).trans (pool_at h)).trans ih
def bL (s : Int) (w : Mm) : Prop := ∀ e, 0 ≤ e → e < 4 → 0 ≤ w 205 0 (4 * s + e) ∧ w 205 0 (4 * s + e) ≤ 20
theorem tel_n {μ : MU} {s : Int} {n : Nat} {b w : Mm} (hb : bL s b) (hn : n ≤ 4) : w 121 μ.1 0 + n ≤ m_tel μ s b n w 121 μ.1 0 ∧ m_tel μ s b n w 121 μ.1 0 ≤ w 121 μ.1 0 + 21 * n := by
  induction n with
  | zero => simp [m_tel]
  | succ n ih =>
    have h1 := ih (by omega)
    have h2 := hb n (by omega) (by omega)
    simp only [m_tel, m_pEn, poolN_n, pool_n]
    omega
theorem dX13_poolsEntry_0 : decode cX13_poolsEntry 0 = .ok (.iconst 0, 1) := by decide +kernel
theorem dX13_poolsEntry_1 : decode cX13_poolsEntry 1 = .ok (.istore_n 3, 1) := by decide +kernel
theorem dX13_poolsEntry_2 : decode cX13_poolsEntry 2 = .ok (.iload_n 3, 1) := by decide +kernel
theorem dX13_poolsEntry_3 : decode cX13_poolsEntry 3 = .ok (.aload_n 0, 1) := by decide +kernel
theorem dX13_poolsEntry_4 : decode cX13_poolsEntry 4 = .ok (.getfield 25, 3) := by decide +kernel
theorem dX13_poolsEntry_7 : decode cX13_poolsEntry 7 = .ok (.iconst 4, 1) := by decide +kernel
theorem dX13_poolsEntry_8 : decode cX13_poolsEntry 8 = .ok (.iload_n 1, 1) := by decide +kernel
theorem dX13_poolsEntry_9 : decode cX13_poolsEntry 9 = .ok (.imul, 1) := by decide +kernel
theorem dX13_poolsEntry_10 : decode cX13_poolsEntry 10 = .ok (.iload_n 2, 1) := by decide +kernel
theorem dX13_poolsEntry_11 : decode cX13_poolsEntry 11 = .ok (.iadd, 1) := by decide +kernel
theorem dX13_poolsEntry_12 : decode cX13_poolsEntry 12 = .ok (.iaload, 1) := by decide +kernel
theorem dX13_poolsEntry_13 : decode cX13_poolsEntry 13 = .ok (.if_icmp .ge 29, 3) := by decide +kernel
theorem dX13_poolsEntry_16 : decode cX13_poolsEntry 16 = .ok (.aload_n 0, 1) := by decide +kernel
theorem dX13_poolsEntry_17 : decode cX13_poolsEntry 17 = .ok (.aload_n 0, 1) := by decide +kernel
theorem dX13_poolsEntry_18 : decode cX13_poolsEntry 18 = .ok (.getfield 28, 3) := by decide +kernel
theorem dX13_poolsEntry_21 : decode cX13_poolsEntry 21 = .ok (.bipush 80, 2) := by decide +kernel
theorem dX13_poolsEntry_23 : decode cX13_poolsEntry 23 = .ok (.iload_n 1, 1) := by decide +kernel
theorem dX13_poolsEntry_24 : decode cX13_poolsEntry 24 = .ok (.imul, 1) := by decide +kernel
theorem dX13_poolsEntry_25 : decode cX13_poolsEntry 25 = .ok (.bipush 20, 2) := by decide +kernel
theorem dX13_poolsEntry_27 : decode cX13_poolsEntry 27 = .ok (.iload_n 2, 1) := by decide +kernel
theorem dX13_poolsEntry_28 : decode cX13_poolsEntry 28 = .ok (.imul, 1) := by decide +kernel
theorem dX13_poolsEntry_29 : decode cX13_poolsEntry 29 = .ok (.iadd, 1) := by decide +kernel
theorem dX13_poolsEntry_30 : decode cX13_poolsEntry 30 = .ok (.iload_n 3, 1) := by decide +kernel
theorem dX13_poolsEntry_31 : decode cX13_poolsEntry 31 = .ok (.iadd, 1) := by decide +kernel
theorem dX13_poolsEntry_32 : decode cX13_poolsEntry 32 = .ok (.iaload, 1) := by decide +kernel
theorem dX13_poolsEntry_33 : decode cX13_poolsEntry 33 = .ok (.invokevirtual 208, 3) := by decide +kernel
theorem dX13_poolsEntry_36 : decode cX13_poolsEntry 36 = .ok (.iinc 3 1, 3) := by decide +kernel
theorem dX13_poolsEntry_39 : decode cX13_poolsEntry 39 = .ok (.goto (-37), 3) := by decide +kernel
theorem dX13_poolsEntry_42 : decode cX13_poolsEntry 42 = .ok (.return_, 1) := by decide +kernel
set_option maxRecDepth 4000 in
theorem c_poolsEntry (γ : LC) (μ : MU) (w : Mm) (s e : Int) (hs : 0 ≤ s ∧ s ≤ 4) (he : 0 ≤ e ∧ e ≤ 3) (hl : 0 ≤ w 205 0 (4 * s + e) ∧ w 205 0 (4 * s + e) ≤ 20) (hp : 0 ≤ w 121 μ.1 0 ∧ w 121 μ.1 0 + w 205 0 (4 * s + e) ≤ 524288) : CMv γ μ 1 mX13_poolsEntry [.int (I s), .int (I e)] w (fun w' => w' = m_pEn μ s e w w) := by
  refine CMv_of rfl (by simp [rv_cat, Value.category]) rfl ?_
  rintro κ hO hF rfl hR
  have hD := hF.dp
  show X κ 0 0 w 0 [some (rv μ.1), some (.int (I s)), some (.int (I e)), none] []
  refine X_iconst 1 hO dX13_poolsEntry_0 rfl ?_
  refine X_istore_n 2 hO dX13_poolsEntry_1 rfl rfl ?_
  have LP2 : ∀ (n : Nat) (i : Nat), (w 205 0 (4 * s + e) - i).toNat < n → ((i : Int) ≤ w 205 0 (4 * s + e)) → RM ((m_poolN μ (fun i => w 206 0 (80 * s + 20 * e + i)) i w)) μ → X κ 0 0 ((m_poolN μ (fun i => w 206 0 (80 * s + 20 * e + i)) i w)) 2 [some (rv μ.1), some (.int (I s)), some (.int (I e)), some (.int (I i))] [] := by
    intro n
    induction n with
    | zero => intro i hm; exact absurd hm (Nat.not_lt_zero _)
    | succ n ih =>
      intro i hm hi hR
      have el : (m_poolN μ (fun i => w 206 0 (80 * s + 20 * e + i)) i w) 205 0 (4 * s + e) = w 205 0 (4 * s + e) := poolN_at (by decide)
      refine X_iload_n 3 hO dX13_poolsEntry_2 rfl rfl ?_
      refine X_aload_n 4 hO dX13_poolsEntry_3 rfl rfl ?_
      refine ga_25 7 hO hR dX13_poolsEntry_4 rfl ?_
      refine X_iconst 8 hO dX13_poolsEntry_7 rfl ?_
      refine X_iload_n 9 hO dX13_poolsEntry_8 rfl rfl ?_
      refine X_imul 10 hO dX13_poolsEntry_9 rfl ?_
      refine X_iload_n 11 hO dX13_poolsEntry_10 rfl rfl ?_
      refine X_iadd 12 hO dX13_poolsEntry_11 rfl ?_
      refine ma_ld (L := 80) (c := 205) 13 hO hR rfl rfl rfl dX13_poolsEntry_12 rfl (by omega) (by omega) (fun hi_12 => ?_)
      refine X_icmp_ge 16 42 hO dX13_poolsEntry_13 rfl rfl (by omega) (by omega) (fun hc_13 => ?_) (fun hc_13 => ?_)
      ·
        have e4 : w 205 0 (4 * s + e) = i := by omega
        exact XM_vret hO hF hR rfl dX13_poolsEntry_42 (by unfold m_pEn; rw [e4]; rfl)
      ·
        refine X_aload_n 17 hO dX13_poolsEntry_16 rfl rfl ?_
        refine X_aload_n 18 hO dX13_poolsEntry_17 rfl rfl ?_
        refine ga_28 21 hO hR dX13_poolsEntry_18 rfl ?_
        refine X_bipush 23 hO dX13_poolsEntry_21 rfl (by decide) ?_
        refine X_iload_n 24 hO dX13_poolsEntry_23 rfl rfl ?_
        refine X_imul 25 hO dX13_poolsEntry_24 rfl ?_
        refine X_bipush 27 hO dX13_poolsEntry_25 rfl (by decide) ?_
        refine X_iload_n 28 hO dX13_poolsEntry_27 rfl rfl ?_
        refine X_imul 29 hO dX13_poolsEntry_28 rfl ?_
        refine X_iadd 30 hO dX13_poolsEntry_29 rfl ?_
        refine X_iload_n 31 hO dX13_poolsEntry_30 rfl rfl ?_
        refine X_iadd 32 hO dX13_poolsEntry_31 rfl ?_
        refine ma_ld (L := 1600) (c := 206) 33 hO hR rfl rfl rfl dX13_poolsEntry_32 rfl (by omega) (by omega) (fun hi_32 => ?_)
        refine XM_callVv 36 hO hD hR lX13_208 [_] rfl dX13_poolsEntry_33 rfl (c_pools _ _ _ _ (by rw [poolN_n]; omega)) (by decide) (by simp only [List.map_cons, List.map_nil, rv_cat]; exact Nat.le_of_ble_eq_true rfl) (fun w_33 hp_33 hR => ?_)
        subst hp_33
        refine X_iinc 39 hO dX13_poolsEntry_36 rfl rfl ?_
        refine X_goto hO dX13_poolsEntry_39 (tgt := 2) rfl ?_
        exact X_eqR hR (by rw [poolN_at (by decide)]; rfl) (fun hR => ih (i + 1) (by omega) (by omega) hR)
  exact LP2 _ 0 (Nat.lt_succ_self _) (by omega) hR
theorem dX13_tells_0 : decode cX13_tells 0 = .ok (.aload_n 0, 1) := by decide +kernel
theorem dX13_tells_1 : decode cX13_tells 1 = .ok (.iconst 4, 1) := by decide +kernel
theorem dX13_tells_2 : decode cX13_tells 2 = .ok (.iconst 0, 1) := by decide +kernel
theorem dX13_tells_3 : decode cX13_tells 3 = .ok (.iload_n 1, 1) := by decide +kernel
theorem dX13_tells_4 : decode cX13_tells 4 = .ok (.invokevirtual 206, 3) := by decide +kernel
theorem dX13_tells_7 : decode cX13_tells 7 = .ok (.aload_n 0, 1) := by decide +kernel
theorem dX13_tells_8 : decode cX13_tells 8 = .ok (.aload_n 0, 1) := by decide +kernel
theorem dX13_tells_9 : decode cX13_tells 9 = .ok (.getfield 22, 3) := by decide +kernel
theorem dX13_tells_12 : decode cX13_tells 12 = .ok (.iload_n 1, 1) := by decide +kernel
theorem dX13_tells_13 : decode cX13_tells 13 = .ok (.iaload, 1) := by decide +kernel
theorem dX13_tells_14 : decode cX13_tells 14 = .ok (.invokevirtual 208, 3) := by decide +kernel
theorem dX13_tells_17 : decode cX13_tells 17 = .ok (.iconst 0, 1) := by decide +kernel
theorem dX13_tells_18 : decode cX13_tells 18 = .ok (.istore_n 2, 1) := by decide +kernel
theorem dX13_tells_19 : decode cX13_tells 19 = .ok (.iload_n 2, 1) := by decide +kernel
theorem dX13_tells_20 : decode cX13_tells 20 = .ok (.aload_n 0, 1) := by decide +kernel
theorem dX13_tells_21 : decode cX13_tells 21 = .ok (.getfield 22, 3) := by decide +kernel
theorem dX13_tells_24 : decode cX13_tells 24 = .ok (.iload_n 1, 1) := by decide +kernel
theorem dX13_tells_25 : decode cX13_tells 25 = .ok (.iaload, 1) := by decide +kernel
theorem dX13_tells_26 : decode cX13_tells 26 = .ok (.if_icmp .ge 29, 3) := by decide +kernel
theorem dX13_tells_29 : decode cX13_tells 29 = .ok (.aload_n 0, 1) := by decide +kernel
theorem dX13_tells_30 : decode cX13_tells 30 = .ok (.aload_n 0, 1) := by decide +kernel
theorem dX13_tells_31 : decode cX13_tells 31 = .ok (.getfield 25, 3) := by decide +kernel
theorem dX13_tells_34 : decode cX13_tells 34 = .ok (.iconst 4, 1) := by decide +kernel
theorem dX13_tells_35 : decode cX13_tells 35 = .ok (.iload_n 1, 1) := by decide +kernel
theorem dX13_tells_36 : decode cX13_tells 36 = .ok (.imul, 1) := by decide +kernel
theorem dX13_tells_37 : decode cX13_tells 37 = .ok (.iload_n 2, 1) := by decide +kernel
theorem dX13_tells_38 : decode cX13_tells 38 = .ok (.iadd, 1) := by decide +kernel
theorem dX13_tells_39 : decode cX13_tells 39 = .ok (.iaload, 1) := by decide +kernel
theorem dX13_tells_40 : decode cX13_tells 40 = .ok (.invokevirtual 208, 3) := by decide +kernel
theorem dX13_tells_43 : decode cX13_tells 43 = .ok (.aload_n 0, 1) := by decide +kernel
theorem dX13_tells_44 : decode cX13_tells 44 = .ok (.iload_n 1, 1) := by decide +kernel
theorem dX13_tells_45 : decode cX13_tells 45 = .ok (.iload_n 2, 1) := by decide +kernel
theorem dX13_tells_46 : decode cX13_tells 46 = .ok (.invokevirtual 215, 3) := by decide +kernel
theorem dX13_tells_49 : decode cX13_tells 49 = .ok (.iinc 2 1, 3) := by decide +kernel
theorem dX13_tells_52 : decode cX13_tells 52 = .ok (.goto (-33), 3) := by decide +kernel
theorem dX13_tells_55 : decode cX13_tells 55 = .ok (.return_, 1) := by decide +kernel
set_option maxRecDepth 4000 in
theorem c_tells (γ : LC) (μ : MU) (w : Mm) (s : Int) (hs : 0 ≤ s ∧ s ≤ 4) (hc : 0 ≤ w 204 0 s ∧ w 204 0 s ≤ 4) (hl : bL s w) (hst : 0 ≤ w 120 μ.1 0 ∧ w 120 μ.1 0 < 30000) (hp : 0 ≤ w 121 μ.1 0 ∧ w 121 μ.1 0 + 85 ≤ 524288) : CMv γ μ 2 mX13_tells [.int (I s)] w (fun w' => w' = m_tells μ s w) := by
  refine CMv_of rfl (by simp [rv_cat, Value.category]) rfl ?_
  rintro κ hO hF rfl hR
  have hD := hF.dp
  show X κ 0 0 w 0 [some (rv μ.1), some (.int (I s)), none] []
  refine X_aload_n 1 hO dX13_tells_0 rfl rfl ?_
  refine X_iconst 2 hO dX13_tells_1 rfl ?_
  refine X_iconst 3 hO dX13_tells_2 rfl ?_
  refine X_iload_n 4 hO dX13_tells_3 rfl rfl ?_
  refine XM_callVv 7 hO hD hR lX13_206 [_, _, _] rfl dX13_tells_4 rfl (c_steps _ _ _ _ _ _ (by omega) (by omega) (by omega) (by omega)) (by decide) (by simp only [List.map_cons, List.map_nil, rv_cat]; exact Nat.le_of_ble_eq_true rfl) (fun w_4 hp_4 hR => ?_)
  subst hp_4
  refine X_aload_n 8 hO dX13_tells_7 rfl rfl ?_
  refine X_aload_n 9 hO dX13_tells_8 rfl rfl ?_
  refine ga_22 12 hO hR dX13_tells_9 rfl ?_
  refine X_iload_n 13 hO dX13_tells_12 rfl rfl ?_
  refine ma_ld (L := 20) (c := 204) 14 hO hR rfl rfl rfl dX13_tells_13 rfl (by omega) (by omega) (fun hi_13 => ?_)
  rw [step_at (by decide)]
  refine XM_callVv 17 hO hD hR lX13_208 [_] rfl dX13_tells_14 rfl (c_pools _ _ _ _ (by rw [step_at (by decide)]; omega)) (by decide) (by simp only [List.map_cons, List.map_nil, rv_cat]; exact Nat.le_of_ble_eq_true rfl) (fun w_14 hp_14 hR => ?_)
  subst hp_14
  refine X_iconst 18 hO dX13_tells_17 rfl ?_
  refine X_istore_n 19 hO dX13_tells_18 rfl rfl ?_
  have LP19 : ∀ (n : Nat) (i : Nat), (w 204 0 s - i).toNat < n → ((i : Int) ≤ w 204 0 s) → RM ((m_tel μ s w i (m_pool μ (w 204 0 s) (m_step μ 4 0 s w)))) μ → X κ 0 0 ((m_tel μ s w i (m_pool μ (w 204 0 s) (m_step μ 4 0 s w)))) 19 [some (rv μ.1), some (.int (I s)), some (.int (I i))] [] := by
    intro n
    induction n with
    | zero => intro i hm; exact absurd hm (Nat.not_lt_zero _)
    | succ n ih =>
      intro i hm hi hR
      have ec : (m_tel μ s w i (m_pool μ (w 204 0 s) (m_step μ 4 0 s w))) 204 0 s = w 204 0 s := by rw [tel_at (by decide), pool_at (by decide), step_at (by decide)]
      have el : (m_tel μ s w i (m_pool μ (w 204 0 s) (m_step μ 4 0 s w))) 205 0 (4 * s + i) = w 205 0 (4 * s + i) := by rw [tel_at (by decide), pool_at (by decide), step_at (by decide)]
      have en := tel_n (μ := μ) (n := i) (w := m_pool μ (w 204 0 s) (m_step μ 4 0 s w)) hl (by omega)
      rw [pool_n, step_at (by decide)] at en
      refine X_iload_n 20 hO dX13_tells_19 rfl rfl ?_
      refine X_aload_n 21 hO dX13_tells_20 rfl rfl ?_
      refine ga_22 24 hO hR dX13_tells_21 rfl ?_
      refine X_iload_n 25 hO dX13_tells_24 rfl rfl ?_
      refine ma_ld (L := 20) (c := 204) 26 hO hR rfl rfl rfl dX13_tells_25 rfl (by omega) (by omega) (fun hi_25 => ?_)
      refine X_icmp_ge 29 55 hO dX13_tells_26 rfl rfl (by omega) (by omega) (fun hc_26 => ?_) (fun hc_26 => ?_)
      ·
        have e4 : w 204 0 s = i := by omega
        exact XM_vret hO hF hR rfl dX13_tells_55 (by unfold m_tells; rw [e4]; rfl)
      ·
        refine X_aload_n 30 hO dX13_tells_29 rfl rfl ?_
        refine X_aload_n 31 hO dX13_tells_30 rfl rfl ?_
        refine ga_25 34 hO hR dX13_tells_31 rfl ?_
        refine X_iconst 35 hO dX13_tells_34 rfl ?_
        refine X_iload_n 36 hO dX13_tells_35 rfl rfl ?_
        refine X_imul 37 hO dX13_tells_36 rfl ?_
        refine X_iload_n 38 hO dX13_tells_37 rfl rfl ?_
        refine X_iadd 39 hO dX13_tells_38 rfl ?_
        refine ma_ld (L := 80) (c := 205) 40 hO hR rfl rfl rfl dX13_tells_39 rfl (by omega) (by omega) (fun hi_39 => ?_)
        refine XM_callVv 43 hO hD hR lX13_208 [_] rfl dX13_tells_40 rfl (c_pools _ _ _ _ (by omega)) (by decide) (by simp only [List.map_cons, List.map_nil, rv_cat]; exact Nat.le_of_ble_eq_true rfl) (fun w_40 hp_40 hR => ?_)
        subst hp_40
        refine X_aload_n 44 hO dX13_tells_43 rfl rfl ?_
        refine X_iload_n 45 hO dX13_tells_44 rfl rfl ?_
        refine X_iload_n 46 hO dX13_tells_45 rfl rfl ?_
        refine XM_callVv 49 hO hD hR lX13_215 [_, _] rfl dX13_tells_46 rfl (c_poolsEntry _ _ _ _ _ (by omega) (by omega) (by rw [pool_at (by decide), el]; exact hl i (by omega) (by omega)) (by rw [pool_n, pool_at (show (205 : Nat) ≠ 213 ∧ (205 : Nat) ≠ 121 by decide), el]; have := hl i (by omega) (by omega); omega)) (by decide) (by simp only [List.map_cons, List.map_nil, rv_cat]; exact Nat.le_of_ble_eq_true rfl) (fun w_46 hp_46 hR => ?_)
        subst hp_46
        refine X_iinc 52 hO dX13_tells_49 rfl rfl ?_
        refine X_goto hO dX13_tells_52 (tgt := 19) rfl ?_
        exact X_eqR hR (by simp only [m_tel, m_pEn, pool_at (show (206 : Nat) ≠ 213 ∧ (206 : Nat) ≠ 121 by decide), pool_at (show (205 : Nat) ≠ 213 ∧ (205 : Nat) ≠ 121 by decide), tel_at (show (205 : Nat) ≠ 213 ∧ (205 : Nat) ≠ 121 by decide), tel_at (show (206 : Nat) ≠ 213 ∧ (206 : Nat) ≠ 121 by decide), step_at (show (206 : Nat) ≠ 212 ∧ (206 : Nat) ≠ 120 by decide), step_at (show (205 : Nat) ≠ 212 ∧ (205 : Nat) ≠ 120 by decide)]) (fun hR => ih (i + 1) (by omega) (by omega) hR)
  exact LP19 _ 0 (Nat.lt_succ_self _) (by omega) hR
def m_psh (t k : Int) (w : Mm) : Mm :=
  let c1 := if w 204 0 (5 * t + 4) < 4 then w 204 0 (5 * t + 4) + 1 else 4
  m_tak t 4 0 k (fl (fl (up w 204 0 (5 * t + 4) c1) 205 (20 * t + 16 + 1) (c1 - 1) (fun i => w 205 0 (i - 1))) 206 (400 * t + 320 + 20) (20 * (c1 - 1)) (fun i => w 206 0 (i - 20)))
def m_trn (t : Int) (w : Mm) : Mm :=
  let l := w 204 0 (5 * t + 4) - 1
  m_tak t 4 l (w 205 0 (20 * t + 16)) (fl (fl (fl w 240 0 20 (fun i => w 206 0 (400 * t + 320 + i))) 205 (20 * t + 16) l (fun i => w 205 0 (i + 1))) 206 (400 * t + 320) (20 * l) (fun i => w 206 0 (i + 20)))
theorem psh_step {t i c1 : Int} {w : Mm} (ht : 0 ≤ t) (hi : 1 ≤ i ∧ i ≤ c1 - 1) : m_mvE t i (i - 1) (fl (fl (up w 204 0 (5 * t + 4) c1) 205 (20 * t + 16 + (i) + 1) (c1 - 1 - (i)) (fun i => w 205 0 (i - 1))) 206 (400 * t + 320 + 20 * ((i) + 1)) (20 * (c1 - 1 - (i))) (fun i => w 206 0 (i - 20))) = (fl (fl (up w 204 0 (5 * t + 4) c1) 205 (20 * t + 16 + (i + -1) + 1) (c1 - 1 - (i + -1)) (fun i => w 205 0 (i - 1))) 206 (400 * t + 320 + 20 * ((i + -1) + 1)) (20 * (c1 - 1 - (i + -1))) (fun i => w 206 0 (i - 20))) := by
  funext c x j
  by_cases h5 : c = 205 ∧ x = 0
  · obtain ⟨rfl, rfl⟩ := h5
    simp only [m_mvE, fl, up, true_and, false_and]
    (repeat' split) <;> first | rfl | (exfalso; omega) | (congr 1; omega) | omega
  · by_cases h6 : c = 206 ∧ x = 0
    · obtain ⟨rfl, rfl⟩ := h6
      simp only [m_mvE, fl, up, true_and, false_and]
      (repeat' split) <;> first | rfl | (exfalso; omega) | (congr 1; omega) | omega
    · simp only [m_mvE, fl, up, true_and, false_and]
      (repeat' split) <;> first | rfl | (exfalso; omega) | (congr 1; omega) | omega
theorem trn_step {t i : Int} {w : Mm} (ht : 0 ≤ t) (hi : 1 ≤ i) : m_mvE t (i - 1) i (fl (fl (fl w 240 0 20 (fun i => w 206 0 (400 * t + 320 + i))) 205 (20 * t + 16) ((i) - 1) (fun i => w 205 0 (i + 1))) 206 (400 * t + 320) (20 * ((i) - 1)) (fun i => w 206 0 (i + 20))) = (fl (fl (fl w 240 0 20 (fun i => w 206 0 (400 * t + 320 + i))) 205 (20 * t + 16) ((i + 1) - 1) (fun i => w 205 0 (i + 1))) 206 (400 * t + 320) (20 * ((i + 1) - 1)) (fun i => w 206 0 (i + 20))) := by
  funext c x j
  by_cases h5 : c = 205 ∧ x = 0
  · obtain ⟨rfl, rfl⟩ := h5
    simp only [m_mvE, fl, up, true_and, false_and]
    (repeat' split) <;> first | rfl | (exfalso; omega) | (congr 1; omega) | omega
  · by_cases h6 : c = 206 ∧ x = 0
    · obtain ⟨rfl, rfl⟩ := h6
      simp only [m_mvE, fl, up, true_and, false_and]
      (repeat' split) <;> first | rfl | (exfalso; omega) | (congr 1; omega) | omega
    · simp only [m_mvE, fl, up, true_and, false_and]
      (repeat' split) <;> first | rfl | (exfalso; omega) | (congr 1; omega) | omega
theorem dX13_pushes_0 : decode cX13_pushes 0 = .ok (.iconst 5, 1) := by decide +kernel
theorem dX13_pushes_1 : decode cX13_pushes 1 = .ok (.iload_n 1, 1) := by decide +kernel
theorem dX13_pushes_2 : decode cX13_pushes 2 = .ok (.imul, 1) := by decide +kernel
theorem dX13_pushes_3 : decode cX13_pushes 3 = .ok (.iconst 4, 1) := by decide +kernel
theorem dX13_pushes_4 : decode cX13_pushes 4 = .ok (.iadd, 1) := by decide +kernel
theorem dX13_pushes_5 : decode cX13_pushes 5 = .ok (.istore_n 3, 1) := by decide +kernel
theorem dX13_pushes_6 : decode cX13_pushes 6 = .ok (.aload_n 0, 1) := by decide +kernel
theorem dX13_pushes_7 : decode cX13_pushes 7 = .ok (.getfield 22, 3) := by decide +kernel
theorem dX13_pushes_10 : decode cX13_pushes 10 = .ok (.iload_n 3, 1) := by decide +kernel
theorem dX13_pushes_11 : decode cX13_pushes 11 = .ok (.aload_n 0, 1) := by decide +kernel
theorem dX13_pushes_12 : decode cX13_pushes 12 = .ok (.getfield 22, 3) := by decide +kernel
theorem dX13_pushes_15 : decode cX13_pushes 15 = .ok (.iload_n 3, 1) := by decide +kernel
theorem dX13_pushes_16 : decode cX13_pushes 16 = .ok (.iaload, 1) := by decide +kernel
theorem dX13_pushes_17 : decode cX13_pushes 17 = .ok (.iconst 4, 1) := by decide +kernel
theorem dX13_pushes_18 : decode cX13_pushes 18 = .ok (.if_icmp .ge 14, 3) := by decide +kernel
theorem dX13_pushes_21 : decode cX13_pushes 21 = .ok (.aload_n 0, 1) := by decide +kernel
theorem dX13_pushes_22 : decode cX13_pushes 22 = .ok (.getfield 22, 3) := by decide +kernel
theorem dX13_pushes_25 : decode cX13_pushes 25 = .ok (.iload_n 3, 1) := by decide +kernel
theorem dX13_pushes_26 : decode cX13_pushes 26 = .ok (.iaload, 1) := by decide +kernel
theorem dX13_pushes_27 : decode cX13_pushes 27 = .ok (.iconst 1, 1) := by decide +kernel
theorem dX13_pushes_28 : decode cX13_pushes 28 = .ok (.iadd, 1) := by decide +kernel
theorem dX13_pushes_29 : decode cX13_pushes 29 = .ok (.goto 4, 3) := by decide +kernel
theorem dX13_pushes_32 : decode cX13_pushes 32 = .ok (.iconst 4, 1) := by decide +kernel
theorem dX13_pushes_33 : decode cX13_pushes 33 = .ok (.iastore, 1) := by decide +kernel
theorem dX13_pushes_34 : decode cX13_pushes 34 = .ok (.aload_n 0, 1) := by decide +kernel
theorem dX13_pushes_35 : decode cX13_pushes 35 = .ok (.getfield 22, 3) := by decide +kernel
theorem dX13_pushes_38 : decode cX13_pushes 38 = .ok (.iload_n 3, 1) := by decide +kernel
theorem dX13_pushes_39 : decode cX13_pushes 39 = .ok (.iaload, 1) := by decide +kernel
theorem dX13_pushes_40 : decode cX13_pushes 40 = .ok (.iconst 1, 1) := by decide +kernel
theorem dX13_pushes_41 : decode cX13_pushes 41 = .ok (.isub, 1) := by decide +kernel
theorem dX13_pushes_42 : decode cX13_pushes 42 = .ok (.istore 4, 2) := by decide +kernel
theorem dX13_pushes_44 : decode cX13_pushes 44 = .ok (.iload 4, 2) := by decide +kernel
theorem dX13_pushes_46 : decode cX13_pushes 46 = .ok (.ifCond .le 20, 3) := by decide +kernel
theorem dX13_pushes_49 : decode cX13_pushes 49 = .ok (.aload_n 0, 1) := by decide +kernel
theorem dX13_pushes_50 : decode cX13_pushes 50 = .ok (.iload_n 1, 1) := by decide +kernel
theorem dX13_pushes_51 : decode cX13_pushes 51 = .ok (.iload 4, 2) := by decide +kernel
theorem dX13_pushes_53 : decode cX13_pushes 53 = .ok (.iload 4, 2) := by decide +kernel
theorem dX13_pushes_55 : decode cX13_pushes 55 = .ok (.iconst 1, 1) := by decide +kernel
theorem dX13_pushes_56 : decode cX13_pushes 56 = .ok (.isub, 1) := by decide +kernel
theorem dX13_pushes_57 : decode cX13_pushes 57 = .ok (.invokevirtual 218, 3) := by decide +kernel
theorem dX13_pushes_60 : decode cX13_pushes 60 = .ok (.iinc 4 (-1), 3) := by decide +kernel
theorem dX13_pushes_63 : decode cX13_pushes 63 = .ok (.goto (-19), 3) := by decide +kernel
theorem dX13_pushes_66 : decode cX13_pushes 66 = .ok (.aload_n 0, 1) := by decide +kernel
theorem dX13_pushes_67 : decode cX13_pushes 67 = .ok (.iload_n 1, 1) := by decide +kernel
theorem dX13_pushes_68 : decode cX13_pushes 68 = .ok (.iconst 4, 1) := by decide +kernel
theorem dX13_pushes_69 : decode cX13_pushes 69 = .ok (.iconst 0, 1) := by decide +kernel
theorem dX13_pushes_70 : decode cX13_pushes 70 = .ok (.iload_n 2, 1) := by decide +kernel
theorem dX13_pushes_71 : decode cX13_pushes 71 = .ok (.invokevirtual 221, 3) := by decide +kernel
theorem dX13_pushes_74 : decode cX13_pushes 74 = .ok (.return_, 1) := by decide +kernel
set_option maxRecDepth 4000 in
theorem c_pushes (γ : LC) (μ : MU) (w : Mm) (t k : Int) (ht : 0 ≤ t ∧ t ≤ 3) (hk : 0 ≤ k ∧ k ≤ 20) (hc : 0 ≤ w 204 0 (5 * t + 4) ∧ w 204 0 (5 * t + 4) ≤ 4) : CMv γ μ 1 mX13_pushes [.int (I t), .int (I k)] w (fun w' => w' = m_psh t k w) := by
  refine CMv_of rfl (by simp [rv_cat, Value.category]) rfl ?_
  rintro κ hO hF rfl hR
  have hD := hF.dp
  show X κ 0 0 w 0 [some (rv μ.1), some (.int (I t)), some (.int (I k)), none, none] []
  obtain ⟨c1, hc1⟩ : ∃ c1, c1 = if w 204 0 (5 * t + 4) < 4 then w 204 0 (5 * t + 4) + 1 else 4 := ⟨_, rfl⟩
  refine X_iconst 1 hO dX13_pushes_0 rfl ?_
  refine X_iload_n 2 hO dX13_pushes_1 rfl rfl ?_
  refine X_imul 3 hO dX13_pushes_2 rfl ?_
  refine X_iconst 4 hO dX13_pushes_3 rfl ?_
  refine X_iadd 5 hO dX13_pushes_4 rfl ?_
  refine X_istore_n 6 hO dX13_pushes_5 rfl rfl ?_
  refine X_aload_n 7 hO dX13_pushes_6 rfl rfl ?_
  refine ga_22 10 hO hR dX13_pushes_7 rfl ?_
  refine X_iload_n 11 hO dX13_pushes_10 rfl rfl ?_
  refine X_aload_n 12 hO dX13_pushes_11 rfl rfl ?_
  refine ga_22 15 hO hR dX13_pushes_12 rfl ?_
  refine X_iload_n 16 hO dX13_pushes_15 rfl rfl ?_
  refine ma_ld (L := 20) (c := 204) 17 hO hR rfl rfl rfl dX13_pushes_16 rfl (by omega) (by omega) (fun hi_16 => ?_)
  refine X_iconst 18 hO dX13_pushes_17 rfl ?_
  refine X_icmp_ge 21 32 hO dX13_pushes_18 rfl rfl (by omega) (by omega) (fun hc_18 => ?_) (fun hc_18 => ?_)
  ·
    refine X_iconst 33 hO dX13_pushes_32 rfl ?_
    refine ma_st (L := 20) (c := 204) 34 hO hR rfl rfl rfl dX13_pushes_33 rfl (by omega) (by omega) (by omega) (fun hR => ?_)
    refine X_eqR hR (w2 := (up w 204 0 (5 * t + 4) c1)) (by rw [hc1]; first | rw [if_pos (by omega)] | rw [if_neg (by omega)]) (fun hR => ?_)
    have hcb : 1 ≤ c1 ∧ c1 ≤ 4 := by rw [hc1]; split <;> omega
    have ec : (up w 204 0 (5 * t + 4) c1) 204 0 (5 * t + 4) = c1 := by simp [up]
    refine X_aload_n 35 hO dX13_pushes_34 rfl rfl ?_
    refine ga_22 38 hO hR dX13_pushes_35 rfl ?_
    refine X_iload_n 39 hO dX13_pushes_38 rfl rfl ?_
    refine ma_ld (L := 20) (c := 204) 40 hO hR rfl rfl rfl dX13_pushes_39 rfl (by omega) (by omega) (fun hi_39 => ?_)
    refine X_iconst 41 hO dX13_pushes_40 rfl ?_
    rw [ec]
    refine X_isub 42 hO dX13_pushes_41 rfl ?_
    refine X_istore 44 hO dX13_pushes_42 rfl rfl ?_
    have LP44 : ∀ (n : Nat) (i : Int), i.toNat < n → (0 ≤ i ∧ i ≤ c1 - 1) → RM ((fl (fl (up w 204 0 (5 * t + 4) c1) 205 (20 * t + 16 + (i) + 1) (c1 - 1 - (i)) (fun i => w 205 0 (i - 1))) 206 (400 * t + 320 + 20 * ((i) + 1)) (20 * (c1 - 1 - (i))) (fun i => w 206 0 (i - 20)))) μ → X κ 0 0 ((fl (fl (up w 204 0 (5 * t + 4) c1) 205 (20 * t + 16 + (i) + 1) (c1 - 1 - (i)) (fun i => w 205 0 (i - 1))) 206 (400 * t + 320 + 20 * ((i) + 1)) (20 * (c1 - 1 - (i))) (fun i => w 206 0 (i - 20)))) 44 [some (rv μ.1), some (.int (I t)), some (.int (I k)), some (.int (I (5 * t + 4))), some (.int (I i))] [] := by
      intro n
      induction n with
      | zero => intro i hm; exact absurd hm (Nat.not_lt_zero _)
      | succ n ih =>
        intro i hm hi hR
        refine X_iload 46 hO dX13_pushes_44 rfl rfl ?_
        refine X_if_le 49 66 hO dX13_pushes_46 rfl rfl (by omega) (fun hc_46 => ?_) (fun hc_46 => ?_)
        ·
          have e4 : i = 0 := by omega
          subst e4
          refine X_aload_n 67 hO dX13_pushes_66 rfl rfl ?_
          refine X_iload_n 68 hO dX13_pushes_67 rfl rfl ?_
          refine X_iconst 69 hO dX13_pushes_68 rfl ?_
          refine X_iconst 70 hO dX13_pushes_69 rfl ?_
          refine X_iload_n 71 hO dX13_pushes_70 rfl rfl ?_
          refine XM_callVv 74 hO hD hR lX13_221 [_, _, _, _] rfl dX13_pushes_71 rfl (c_takes _ _ _ _ _ _ _ (by omega) (by omega) (by omega) (by omega)) (by decide) (by simp only [List.map_cons, List.map_nil, rv_cat]; exact Nat.le_of_ble_eq_true rfl) (fun w_71 hp_71 hR => ?_)
          subst hp_71
          exact XM_vret hO hF hR rfl dX13_pushes_74 (by unfold m_psh; rw [← hc1]; simp only [Int.add_zero, Int.sub_zero, Int.zero_add, Int.mul_one])
        ·
          refine X_aload_n 50 hO dX13_pushes_49 rfl rfl ?_
          refine X_iload_n 51 hO dX13_pushes_50 rfl rfl ?_
          refine X_iload 53 hO dX13_pushes_51 rfl rfl ?_
          refine X_iload 55 hO dX13_pushes_53 rfl rfl ?_
          refine X_iconst 56 hO dX13_pushes_55 rfl ?_
          refine X_isub 57 hO dX13_pushes_56 rfl ?_
          refine XM_callVv 60 hO hD hR lX13_218 [_, _, _] rfl dX13_pushes_57 rfl (c_movesEntry _ _ _ _ _ _ (by omega) (by omega) (by omega) (by omega)) (by decide) (by simp only [List.map_cons, List.map_nil, rv_cat]; exact Nat.le_of_ble_eq_true rfl) (fun w_57 hp_57 hR => ?_)
          subst hp_57
          refine X_iinc 63 hO dX13_pushes_60 rfl rfl ?_
          refine X_goto hO dX13_pushes_63 (tgt := 44) rfl ?_
          exact X_eqR hR (w2 := (fl (fl (up w 204 0 (5 * t + 4) c1) 205 (20 * t + 16 + (i + -1) + 1) (c1 - 1 - (i + -1)) (fun i => w 205 0 (i - 1))) 206 (400 * t + 320 + 20 * ((i + -1) + 1)) (20 * (c1 - 1 - (i + -1))) (fun i => w 206 0 (i - 20)))) (psh_step (by omega) (by omega)) (fun hR => ih (i + -1) (by omega) (by omega) hR)
    exact X_eqR hR (by funext c x j; simp only [fl]; rw [if_neg (by omega), if_neg (by omega)]) (fun hR => LP44 _ (c1 - 1) (Nat.lt_succ_self _) (by omega) hR)
  ·
    refine X_aload_n 22 hO dX13_pushes_21 rfl rfl ?_
    refine ga_22 25 hO hR dX13_pushes_22 rfl ?_
    refine X_iload_n 26 hO dX13_pushes_25 rfl rfl ?_
    refine ma_ld (L := 20) (c := 204) 27 hO hR rfl rfl rfl dX13_pushes_26 rfl (by omega) (by omega) (fun hi_26 => ?_)
    refine X_iconst 28 hO dX13_pushes_27 rfl ?_
    refine X_iadd 29 hO dX13_pushes_28 rfl ?_
    refine X_goto hO dX13_pushes_29 (tgt := 33) rfl ?_
    refine ma_st (L := 20) (c := 204) 34 hO hR rfl rfl rfl dX13_pushes_33 rfl (by omega) (by omega) (by omega) (fun hR => ?_)
    refine X_eqR hR (w2 := (up w 204 0 (5 * t + 4) c1)) (by rw [hc1]; first | rw [if_pos (by omega)] | rw [if_neg (by omega)]) (fun hR => ?_)
    have hcb : 1 ≤ c1 ∧ c1 ≤ 4 := by rw [hc1]; split <;> omega
    have ec : (up w 204 0 (5 * t + 4) c1) 204 0 (5 * t + 4) = c1 := by simp [up]
    refine X_aload_n 35 hO dX13_pushes_34 rfl rfl ?_
    refine ga_22 38 hO hR dX13_pushes_35 rfl ?_
    refine X_iload_n 39 hO dX13_pushes_38 rfl rfl ?_
    refine ma_ld (L := 20) (c := 204) 40 hO hR rfl rfl rfl dX13_pushes_39 rfl (by omega) (by omega) (fun hi_39 => ?_)
    refine X_iconst 41 hO dX13_pushes_40 rfl ?_
    rw [ec]
    refine X_isub 42 hO dX13_pushes_41 rfl ?_
    refine X_istore 44 hO dX13_pushes_42 rfl rfl ?_
    have LP44 : ∀ (n : Nat) (i : Int), i.toNat < n → (0 ≤ i ∧ i ≤ c1 - 1) → RM ((fl (fl (up w 204 0 (5 * t + 4) c1) 205 (20 * t + 16 + (i) + 1) (c1 - 1 - (i)) (fun i => w 205 0 (i - 1))) 206 (400 * t + 320 + 20 * ((i) + 1)) (20 * (c1 - 1 - (i))) (fun i => w 206 0 (i - 20)))) μ → X κ 0 0 ((fl (fl (up w 204 0 (5 * t + 4) c1) 205 (20 * t + 16 + (i) + 1) (c1 - 1 - (i)) (fun i => w 205 0 (i - 1))) 206 (400 * t + 320 + 20 * ((i) + 1)) (20 * (c1 - 1 - (i))) (fun i => w 206 0 (i - 20)))) 44 [some (rv μ.1), some (.int (I t)), some (.int (I k)), some (.int (I (5 * t + 4))), some (.int (I i))] [] := by
      intro n
      induction n with
      | zero => intro i hm; exact absurd hm (Nat.not_lt_zero _)
      | succ n ih =>
        intro i hm hi hR
        refine X_iload 46 hO dX13_pushes_44 rfl rfl ?_
        refine X_if_le 49 66 hO dX13_pushes_46 rfl rfl (by omega) (fun hc_46 => ?_) (fun hc_46 => ?_)
        ·
          have e4 : i = 0 := by omega
          subst e4
          refine X_aload_n 67 hO dX13_pushes_66 rfl rfl ?_
          refine X_iload_n 68 hO dX13_pushes_67 rfl rfl ?_
          refine X_iconst 69 hO dX13_pushes_68 rfl ?_
          refine X_iconst 70 hO dX13_pushes_69 rfl ?_
          refine X_iload_n 71 hO dX13_pushes_70 rfl rfl ?_
          refine XM_callVv 74 hO hD hR lX13_221 [_, _, _, _] rfl dX13_pushes_71 rfl (c_takes _ _ _ _ _ _ _ (by omega) (by omega) (by omega) (by omega)) (by decide) (by simp only [List.map_cons, List.map_nil, rv_cat]; exact Nat.le_of_ble_eq_true rfl) (fun w_71 hp_71 hR => ?_)
          subst hp_71
          exact XM_vret hO hF hR rfl dX13_pushes_74 (by unfold m_psh; rw [← hc1]; simp only [Int.add_zero, Int.sub_zero, Int.zero_add, Int.mul_one])
        ·
          refine X_aload_n 50 hO dX13_pushes_49 rfl rfl ?_
          refine X_iload_n 51 hO dX13_pushes_50 rfl rfl ?_
          refine X_iload 53 hO dX13_pushes_51 rfl rfl ?_
          refine X_iload 55 hO dX13_pushes_53 rfl rfl ?_
          refine X_iconst 56 hO dX13_pushes_55 rfl ?_
          refine X_isub 57 hO dX13_pushes_56 rfl ?_
          refine XM_callVv 60 hO hD hR lX13_218 [_, _, _] rfl dX13_pushes_57 rfl (c_movesEntry _ _ _ _ _ _ (by omega) (by omega) (by omega) (by omega)) (by decide) (by simp only [List.map_cons, List.map_nil, rv_cat]; exact Nat.le_of_ble_eq_true rfl) (fun w_57 hp_57 hR => ?_)
          subst hp_57
          refine X_iinc 63 hO dX13_pushes_60 rfl rfl ?_
          refine X_goto hO dX13_pushes_63 (tgt := 44) rfl ?_
          exact X_eqR hR (w2 := (fl (fl (up w 204 0 (5 * t + 4) c1) 205 (20 * t + 16 + (i + -1) + 1) (c1 - 1 - (i + -1)) (fun i => w 205 0 (i - 1))) 206 (400 * t + 320 + 20 * ((i + -1) + 1)) (20 * (c1 - 1 - (i + -1))) (fun i => w 206 0 (i - 20)))) (psh_step (by omega) (by omega)) (fun hR => ih (i + -1) (by omega) (by omega) hR)
    exact X_eqR hR (by funext c x j; simp only [fl]; rw [if_neg (by omega), if_neg (by omega)]) (fun hR => LP44 _ (c1 - 1) (Nat.lt_succ_self _) (by omega) hR)
theorem dX13_turns_0 : decode cX13_turns 0 = .ok (.aload_n 0, 1) := by decide +kernel
theorem dX13_turns_1 : decode cX13_turns 1 = .ok (.getfield 22, 3) := by decide +kernel
theorem dX13_turns_4 : decode cX13_turns 4 = .ok (.iconst 5, 1) := by decide +kernel
theorem dX13_turns_5 : decode cX13_turns 5 = .ok (.iload_n 1, 1) := by decide +kernel
theorem dX13_turns_6 : decode cX13_turns 6 = .ok (.imul, 1) := by decide +kernel
theorem dX13_turns_7 : decode cX13_turns 7 = .ok (.iconst 4, 1) := by decide +kernel
theorem dX13_turns_8 : decode cX13_turns 8 = .ok (.iadd, 1) := by decide +kernel
theorem dX13_turns_9 : decode cX13_turns 9 = .ok (.iaload, 1) := by decide +kernel
theorem dX13_turns_10 : decode cX13_turns 10 = .ok (.iconst 1, 1) := by decide +kernel
theorem dX13_turns_11 : decode cX13_turns 11 = .ok (.isub, 1) := by decide +kernel
theorem dX13_turns_12 : decode cX13_turns 12 = .ok (.istore_n 2, 1) := by decide +kernel
theorem dX13_turns_13 : decode cX13_turns 13 = .ok (.aload_n 0, 1) := by decide +kernel
theorem dX13_turns_14 : decode cX13_turns 14 = .ok (.getfield 25, 3) := by decide +kernel
theorem dX13_turns_17 : decode cX13_turns 17 = .ok (.bipush 20, 2) := by decide +kernel
theorem dX13_turns_19 : decode cX13_turns 19 = .ok (.iload_n 1, 1) := by decide +kernel
theorem dX13_turns_20 : decode cX13_turns 20 = .ok (.imul, 1) := by decide +kernel
theorem dX13_turns_21 : decode cX13_turns 21 = .ok (.bipush 16, 2) := by decide +kernel
theorem dX13_turns_23 : decode cX13_turns 23 = .ok (.iadd, 1) := by decide +kernel
theorem dX13_turns_24 : decode cX13_turns 24 = .ok (.iaload, 1) := by decide +kernel
theorem dX13_turns_25 : decode cX13_turns 25 = .ok (.istore_n 3, 1) := by decide +kernel
theorem dX13_turns_26 : decode cX13_turns 26 = .ok (.iconst 0, 1) := by decide +kernel
theorem dX13_turns_27 : decode cX13_turns 27 = .ok (.istore 4, 2) := by decide +kernel
theorem dX13_turns_29 : decode cX13_turns 29 = .ok (.iload 4, 2) := by decide +kernel
theorem dX13_turns_31 : decode cX13_turns 31 = .ok (.bipush 20, 2) := by decide +kernel
theorem dX13_turns_33 : decode cX13_turns 33 = .ok (.if_icmp .ge 33, 3) := by decide +kernel
theorem dX13_turns_36 : decode cX13_turns 36 = .ok (.aload_n 0, 1) := by decide +kernel
theorem dX13_turns_37 : decode cX13_turns 37 = .ok (.getfield 150, 3) := by decide +kernel
theorem dX13_turns_40 : decode cX13_turns 40 = .ok (.iload 4, 2) := by decide +kernel
theorem dX13_turns_42 : decode cX13_turns 42 = .ok (.aload_n 0, 1) := by decide +kernel
theorem dX13_turns_43 : decode cX13_turns 43 = .ok (.getfield 28, 3) := by decide +kernel
theorem dX13_turns_46 : decode cX13_turns 46 = .ok (.sipush 400, 3) := by decide +kernel
theorem dX13_turns_49 : decode cX13_turns 49 = .ok (.iload_n 1, 1) := by decide +kernel
theorem dX13_turns_50 : decode cX13_turns 50 = .ok (.imul, 1) := by decide +kernel
theorem dX13_turns_51 : decode cX13_turns 51 = .ok (.sipush 320, 3) := by decide +kernel
theorem dX13_turns_54 : decode cX13_turns 54 = .ok (.iadd, 1) := by decide +kernel
theorem dX13_turns_55 : decode cX13_turns 55 = .ok (.iload 4, 2) := by decide +kernel
theorem dX13_turns_57 : decode cX13_turns 57 = .ok (.iadd, 1) := by decide +kernel
theorem dX13_turns_58 : decode cX13_turns 58 = .ok (.iaload, 1) := by decide +kernel
theorem dX13_turns_59 : decode cX13_turns 59 = .ok (.iastore, 1) := by decide +kernel
theorem dX13_turns_60 : decode cX13_turns 60 = .ok (.iinc 4 1, 3) := by decide +kernel
theorem dX13_turns_63 : decode cX13_turns 63 = .ok (.goto (-34), 3) := by decide +kernel
theorem dX13_turns_66 : decode cX13_turns 66 = .ok (.iconst 1, 1) := by decide +kernel
theorem dX13_turns_67 : decode cX13_turns 67 = .ok (.istore 4, 2) := by decide +kernel
theorem dX13_turns_69 : decode cX13_turns 69 = .ok (.iload 4, 2) := by decide +kernel
theorem dX13_turns_71 : decode cX13_turns 71 = .ok (.iload_n 2, 1) := by decide +kernel
theorem dX13_turns_72 : decode cX13_turns 72 = .ok (.if_icmp .gt 20, 3) := by decide +kernel
theorem dX13_turns_75 : decode cX13_turns 75 = .ok (.aload_n 0, 1) := by decide +kernel
theorem dX13_turns_76 : decode cX13_turns 76 = .ok (.iload_n 1, 1) := by decide +kernel
theorem dX13_turns_77 : decode cX13_turns 77 = .ok (.iload 4, 2) := by decide +kernel
theorem dX13_turns_79 : decode cX13_turns 79 = .ok (.iconst 1, 1) := by decide +kernel
theorem dX13_turns_80 : decode cX13_turns 80 = .ok (.isub, 1) := by decide +kernel
theorem dX13_turns_81 : decode cX13_turns 81 = .ok (.iload 4, 2) := by decide +kernel
theorem dX13_turns_83 : decode cX13_turns 83 = .ok (.invokevirtual 218, 3) := by decide +kernel
theorem dX13_turns_86 : decode cX13_turns 86 = .ok (.iinc 4 1, 3) := by decide +kernel
theorem dX13_turns_89 : decode cX13_turns 89 = .ok (.goto (-20), 3) := by decide +kernel
theorem dX13_turns_92 : decode cX13_turns 92 = .ok (.aload_n 0, 1) := by decide +kernel
theorem dX13_turns_93 : decode cX13_turns 93 = .ok (.iload_n 1, 1) := by decide +kernel
theorem dX13_turns_94 : decode cX13_turns 94 = .ok (.iconst 4, 1) := by decide +kernel
theorem dX13_turns_95 : decode cX13_turns 95 = .ok (.iload_n 2, 1) := by decide +kernel
theorem dX13_turns_96 : decode cX13_turns 96 = .ok (.iload_n 3, 1) := by decide +kernel
theorem dX13_turns_97 : decode cX13_turns 97 = .ok (.invokevirtual 221, 3) := by decide +kernel
theorem dX13_turns_100 : decode cX13_turns 100 = .ok (.return_, 1) := by decide +kernel
set_option maxRecDepth 4000 in
theorem c_turns (γ : LC) (μ : MU) (w : Mm) (t : Int) (ht : 0 ≤ t ∧ t ≤ 3) (hc : 1 ≤ w 204 0 (5 * t + 4) ∧ w 204 0 (5 * t + 4) ≤ 4) (hl : 0 ≤ w 205 0 (20 * t + 16) ∧ w 205 0 (20 * t + 16) ≤ 20) : CMv γ μ 1 mX13_turns [.int (I t)] w (fun w' => w' = m_trn t w) := by
  refine CMv_of rfl (by simp [rv_cat, Value.category]) rfl ?_
  rintro κ hO hF rfl hR
  have hD := hF.dp
  show X κ 0 0 w 0 [some (rv μ.1), some (.int (I t)), none, none, none] []
  refine X_aload_n 1 hO dX13_turns_0 rfl rfl ?_
  refine ga_22 4 hO hR dX13_turns_1 rfl ?_
  refine X_iconst 5 hO dX13_turns_4 rfl ?_
  refine X_iload_n 6 hO dX13_turns_5 rfl rfl ?_
  refine X_imul 7 hO dX13_turns_6 rfl ?_
  refine X_iconst 8 hO dX13_turns_7 rfl ?_
  refine X_iadd 9 hO dX13_turns_8 rfl ?_
  refine ma_ld (L := 20) (c := 204) 10 hO hR rfl rfl rfl dX13_turns_9 rfl (by omega) (by omega) (fun hi_9 => ?_)
  refine X_iconst 11 hO dX13_turns_10 rfl ?_
  refine X_isub 12 hO dX13_turns_11 rfl ?_
  refine X_istore_n 13 hO dX13_turns_12 rfl rfl ?_
  refine X_aload_n 14 hO dX13_turns_13 rfl rfl ?_
  refine ga_25 17 hO hR dX13_turns_14 rfl ?_
  refine X_bipush 19 hO dX13_turns_17 rfl (by decide) ?_
  refine X_iload_n 20 hO dX13_turns_19 rfl rfl ?_
  refine X_imul 21 hO dX13_turns_20 rfl ?_
  refine X_bipush 23 hO dX13_turns_21 rfl (by decide) ?_
  refine X_iadd 24 hO dX13_turns_23 rfl ?_
  refine ma_ld (L := 80) (c := 205) 25 hO hR rfl rfl rfl dX13_turns_24 rfl (by omega) (by omega) (fun hi_24 => ?_)
  refine X_istore_n 26 hO dX13_turns_25 rfl rfl ?_
  refine X_iconst 27 hO dX13_turns_26 rfl ?_
  refine X_istore 29 hO dX13_turns_27 rfl rfl ?_
  have LP29 : ∀ (n : Nat) (i : Int), (20 - i).toNat < n → (0 ≤ i ∧ i ≤ 20) → RM ((fl w 240 0 i (fun i => w 206 0 (400 * t + 320 + i)))) μ → X κ 0 0 ((fl w 240 0 i (fun i => w 206 0 (400 * t + 320 + i)))) 29 [some (rv μ.1), some (.int (I t)), some (.int (I (w 204 0 (5 * t + 4) - 1))), some (.int (I (w 205 0 (20 * t + 16)))), some (.int (I i))] [] := by
    intro n
    induction n with
    | zero => intro i hm; exact absurd hm (Nat.not_lt_zero _)
    | succ n ih =>
      intro i hm hi hR
      refine X_iload 31 hO dX13_turns_29 rfl rfl ?_
      refine X_bipush 33 hO dX13_turns_31 rfl (by decide) ?_
      refine X_icmp_ge 36 66 hO dX13_turns_33 rfl rfl (by omega) (by omega) (fun hc_33 => ?_) (fun hc_33 => ?_)
      ·
        have e4 : i = 20 := by omega
        subst e4
        refine X_iconst 67 hO dX13_turns_66 rfl ?_
        refine X_istore 69 hO dX13_turns_67 rfl rfl ?_
        have LP69 : ∀ (n : Nat) (i : Int), (w 204 0 (5 * t + 4) - i).toNat < n → (1 ≤ i ∧ i ≤ w 204 0 (5 * t + 4)) → RM ((fl (fl (fl w 240 0 20 (fun i => w 206 0 (400 * t + 320 + i))) 205 (20 * t + 16) ((i) - 1) (fun i => w 205 0 (i + 1))) 206 (400 * t + 320) (20 * ((i) - 1)) (fun i => w 206 0 (i + 20)))) μ → X κ 0 0 ((fl (fl (fl w 240 0 20 (fun i => w 206 0 (400 * t + 320 + i))) 205 (20 * t + 16) ((i) - 1) (fun i => w 205 0 (i + 1))) 206 (400 * t + 320) (20 * ((i) - 1)) (fun i => w 206 0 (i + 20)))) 69 [some (rv μ.1), some (.int (I t)), some (.int (I (w 204 0 (5 * t + 4) - 1))), some (.int (I (w 205 0 (20 * t + 16)))), some (.int (I i))] [] := by
          intro n
          induction n with
          | zero => intro i hm; exact absurd hm (Nat.not_lt_zero _)
          | succ n ih =>
            intro i hm hi hR
            refine X_iload 71 hO dX13_turns_69 rfl rfl ?_
            refine X_iload_n 72 hO dX13_turns_71 rfl rfl ?_
            refine X_icmp_gt 75 92 hO dX13_turns_72 rfl rfl (by omega) (by omega) (fun hc_72 => ?_) (fun hc_72 => ?_)
            ·
              have e4 : i = w 204 0 (5 * t + 4) := by omega
              subst e4
              refine X_aload_n 93 hO dX13_turns_92 rfl rfl ?_
              refine X_iload_n 94 hO dX13_turns_93 rfl rfl ?_
              refine X_iconst 95 hO dX13_turns_94 rfl ?_
              refine X_iload_n 96 hO dX13_turns_95 rfl rfl ?_
              refine X_iload_n 97 hO dX13_turns_96 rfl rfl ?_
              refine XM_callVv 100 hO hD hR lX13_221 [_, _, _, _] rfl dX13_turns_97 rfl (c_takes _ _ _ _ _ _ _ (by omega) (by omega) (by omega) (by omega)) (by decide) (by simp only [List.map_cons, List.map_nil, rv_cat]; exact Nat.le_of_ble_eq_true rfl) (fun w_97 hp_97 hR => ?_)
              subst hp_97
              exact XM_vret hO hF hR rfl dX13_turns_100 rfl
            ·
              refine X_aload_n 76 hO dX13_turns_75 rfl rfl ?_
              refine X_iload_n 77 hO dX13_turns_76 rfl rfl ?_
              refine X_iload 79 hO dX13_turns_77 rfl rfl ?_
              refine X_iconst 80 hO dX13_turns_79 rfl ?_
              refine X_isub 81 hO dX13_turns_80 rfl ?_
              refine X_iload 83 hO dX13_turns_81 rfl rfl ?_
              refine XM_callVv 86 hO hD hR lX13_218 [_, _, _] rfl dX13_turns_83 rfl (c_movesEntry _ _ _ _ _ _ (by omega) (by omega) (by omega) (by omega)) (by decide) (by simp only [List.map_cons, List.map_nil, rv_cat]; exact Nat.le_of_ble_eq_true rfl) (fun w_83 hp_83 hR => ?_)
              subst hp_83
              refine X_iinc 89 hO dX13_turns_86 rfl rfl ?_
              refine X_goto hO dX13_turns_89 (tgt := 69) rfl ?_
              exact X_eqR hR (w2 := (fl (fl (fl w 240 0 20 (fun i => w 206 0 (400 * t + 320 + i))) 205 (20 * t + 16) ((i + 1) - 1) (fun i => w 205 0 (i + 1))) 206 (400 * t + 320) (20 * ((i + 1) - 1)) (fun i => w 206 0 (i + 20)))) (trn_step (by omega) (by omega)) (fun hR => ih (i + 1) (by omega) (by omega) hR)
        exact X_eqR hR (fl_00 (by omega)) (fun hR => X_eqR hR (fl_00 (by omega)) (fun hR => LP69 _ 1 (Nat.lt_succ_self _) (by omega) hR))
      ·
        refine X_aload_n 37 hO dX13_turns_36 rfl rfl ?_
        refine ga_150 40 hO hR dX13_turns_37 rfl ?_
        refine X_iload 42 hO dX13_turns_40 rfl rfl ?_
        refine X_aload_n 43 hO dX13_turns_42 rfl rfl ?_
        refine ga_28 46 hO hR dX13_turns_43 rfl ?_
        refine X_sipush 49 hO dX13_turns_46 rfl (by decide) ?_
        refine X_iload_n 50 hO dX13_turns_49 rfl rfl ?_
        refine X_imul 51 hO dX13_turns_50 rfl ?_
        refine X_sipush 54 hO dX13_turns_51 rfl (by decide) ?_
        refine X_iadd 55 hO dX13_turns_54 rfl ?_
        refine X_iload 57 hO dX13_turns_55 rfl rfl ?_
        refine X_iadd 58 hO dX13_turns_57 rfl ?_
        refine ma_ld (L := 1600) (c := 206) 59 hO hR rfl rfl rfl dX13_turns_58 rfl (by omega) (by omega) (fun hi_58 => ?_)
        refine ma_st (L := 400) (c := 240) 60 hO hR rfl rfl rfl dX13_turns_59 rfl (by omega) (by omega) (by omega) (fun hR => ?_)
        refine X_iinc 63 hO dX13_turns_60 rfl rfl ?_
        refine X_goto hO dX13_turns_63 (tgt := 29) rfl ?_
        exact X_eqR hR (fl_stp (by omega) rfl (by omega) (by clear ih; grind [fl, up])) (fun hR => ih (i + 1) (by omega) (by omega) hR)
  exact X_eqR hR (fl_00 rfl) (fun hR => LP29 _ 0 (Nat.lt_succ_self _) (by omega) hR)
