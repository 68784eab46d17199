theorem wg_lt (X V : BitVec 32) : ∀ r r' : Nat, r' < r → r < 4 → ((((X &&& ((255#32 <<< (8 * r)) ^^^ 4294967295#32)) ||| (V <<< (8 * r))).sshiftRight (8 * r')) &&& 255#32) = ((X.sshiftRight (8 * r')) &&& 255#32) := by
  intro r r' h1 h2
  have hr : r = 1 ∨ r = 2 ∨ r = 3 := by omega
  have hr' : r' = 0 ∨ r' = 1 ∨ r' = 2 := by omega
  apply BitVec.eq_of_getLsbD_eq
  intro i hi
  by_cases h8 : i < 8
  · have h3 : i + 8 * r' < 32 := by omega
    simp only [BitVec.getLsbD_and, BitVec.getLsbD_or, BitVec.getLsbD_xor, BitVec.getLsbD_sshiftRight, BitVec.getLsbD_shiftLeft]
    rcases hr with rfl | rfl | rfl <;> rcases hr' with rfl | rfl | rfl <;> first | omega | skip
    all_goals
      have hi' : i = 0 ∨ i = 1 ∨ i = 2 ∨ i = 3 ∨ i = 4 ∨ i = 5 ∨ i = 6 ∨ i = 7 := by omega
      rcases hi' with rfl | rfl | rfl | rfl | rfl | rfl | rfl | rfl <;> simp
  · have : (255#32).getLsbD i = false := by
      simp only [BitVec.getLsbD_ofNat]
      have : Nat.testBit 255 i = false := by
        apply Nat.testBit_lt_two_pow
        calc 255 < 2 ^ 8 := by decide
          _ ≤ 2 ^ i := Nat.pow_le_pow_right (by decide) (by omega)
      simp [this]
    simp only [BitVec.getLsbD_and, this, Bool.and_false]
theorem wg_eq (X V : BitVec 32) (hV : V.toNat < 256) : ∀ r : Nat, r < 4 → ((((X &&& ((255#32 <<< (8 * r)) ^^^ 4294967295#32)) ||| (V <<< (8 * r))).sshiftRight (8 * r)) &&& 255#32) = V := by
  intro r h2
  have hr : r = 0 ∨ r = 1 ∨ r = 2 ∨ r = 3 := by omega
  have hV8 : ∀ i, 8 ≤ i → V.getLsbD i = false := fun i h => by
    show V.toNat.testBit i = false
    apply Nat.testBit_lt_two_pow
    calc V.toNat < 2 ^ 8 := hV
      _ ≤ 2 ^ i := Nat.pow_le_pow_right (by decide) h
  apply BitVec.eq_of_getLsbD_eq
  intro i hi
  by_cases h8 : i < 8
  · simp only [BitVec.getLsbD_and, BitVec.getLsbD_or, BitVec.getLsbD_xor, BitVec.getLsbD_sshiftRight, BitVec.getLsbD_shiftLeft]
    have hi' : i = 0 ∨ i = 1 ∨ i = 2 ∨ i = 3 ∨ i = 4 ∨ i = 5 ∨ i = 6 ∨ i = 7 := by omega
    rcases hr with rfl | rfl | rfl | rfl <;> rcases hi' with rfl | rfl | rfl | rfl | rfl | rfl | rfl | rfl <;> simp
  · have : (255#32).getLsbD i = false := by
      simp only [BitVec.getLsbD_ofNat]
      have : Nat.testBit 255 i = false := by
        apply Nat.testBit_lt_two_pow
        calc 255 < 2 ^ 8 := by decide
          _ ≤ 2 ^ i := Nat.pow_le_pow_right (by decide) (by omega)
      simp [this]
    simp only [BitVec.getLsbD_and, this, Bool.and_false, hV8 i (by omega)]
theorem sh_k {r : Int} (hr : 0 ≤ r ∧ r < 4) : ((I (8 * r) &&& 31).toBitVec.smod 32).toNat = 8 * r.toNat := by
  have : r = 0 ∨ r = 1 ∨ r = 2 ∨ r = 3 := by omega
  rcases this with rfl | rfl | rfl | rfl <;> decide +kernel
theorem wget_bv {x r : Int} (hr : 0 ≤ r ∧ r < 4) : wget x r = (((I x).toBitVec.sshiftRight (8 * r.toNat)) &&& 255#32).toInt := by
  have e : ((I x >>> (I (8 * r) &&& 31)) &&& I 255).toBitVec = ((I x).toBitVec.sshiftRight (8 * r.toNat)) &&& 255#32 := by
    rw [Int32.toBitVec_and, Int32.toBitVec_shiftRight]
    show BitVec.sshiftRight (I x).toBitVec ((I (8 * r) &&& 31).toBitVec.smod 32).toNat &&& 255#32 = _
    rw [sh_k hr]
  show ((I x >>> (I (8 * r) &&& 31)) &&& I 255).toBitVec.toInt = _
  rw [e]
theorem wput_bv {x r v : Int} (hr : 0 ≤ r ∧ r < 4) : (I (wput x r v)).toBitVec = (((I x).toBitVec &&& ((255#32 <<< (8 * r.toNat)) ^^^ 4294967295#32)) ||| ((I v).toBitVec <<< (8 * r.toNat))) := by
  unfold wput
  rw [I_of, Int32.toBitVec_or, Int32.toBitVec_and, Int32.toBitVec_xor, Int32.toBitVec_shiftLeft, Int32.toBitVec_shiftLeft]
  show (I x).toBitVec &&& ((255#32 <<< ((I (8 * r) &&& 31).toBitVec.smod 32).toNat) ^^^ 4294967295#32) ||| ((I v).toBitVec <<< ((I (8 * r) &&& 31).toBitVec.smod 32).toNat) = _
  rw [sh_k hr]
theorem wget_wput_lt {x r r' v : Int} (h : 0 ≤ r' ∧ r' < r ∧ r < 4) : wget (wput x r v) r' = wget x r' := by
  rw [wget_bv (by omega), wget_bv (by omega), wput_bv (by omega), wg_lt _ _ r.toNat r'.toNat (by omega) (by omega)]
theorem wget_wput_eq {x r v : Int} (h : 0 ≤ r ∧ r < 4) (hv : 0 ≤ v ∧ v < 256) : wget (wput x r v) r = v := by
  have e : (I v).toBitVec.toNat < 256 := by
    obtain ⟨n, rfl⟩ := Int.eq_ofNat_of_zero_le hv.1
    have : (I (n : Int)).toBitVec = BitVec.ofNat 32 n := by rw [← nI_I]; rfl
    rw [this, BitVec.toNat_ofNat]; omega
  rw [wget_bv h, wput_bv h, wg_eq _ _ e r.toNat (by omega)]
  show (I v).toInt = v
  exact I_toInt (by omega)
/-- steps and pool only grow -/
def AP (μ : MU) (w w' : Mm) : Prop := w 120 μ.1 0 ≤ w' 120 μ.1 0 ∧ w 121 μ.1 0 ≤ w' 121 μ.1 0 ∧ (∀ i, 0 ≤ i → i < w 120 μ.1 0 → w' 212 0 i = w 212 0 i) ∧ (∀ j, 0 ≤ j → j < w 121 μ.1 0 → pby w' j = pby w j)
theorem pby_cong {w w' : Mm} {j : Int} (h : w' 213 0 (j / 4) = w 213 0 (j / 4)) : pby w' j = pby w j := by unfold pby; rw [h]
theorem AP.r {μ : MU} {w : Mm} : AP μ w w := ⟨Int.le_refl _, Int.le_refl _, fun _ _ _ => rfl, fun _ _ _ => rfl⟩
theorem AP.t {μ : MU} {w w1 w2 : Mm} (h : AP μ w w1) (g : AP μ w1 w2) : AP μ w w2 :=
  ⟨Int.le_trans h.1 g.1, Int.le_trans h.2.1 g.2.1, fun i a b => (g.2.2.1 i a (Int.lt_of_lt_of_le b h.1)).trans (h.2.2.1 i a b), fun j a b => (g.2.2.2 j a (Int.lt_of_lt_of_le b h.2.1)).trans (h.2.2.2 j a b)⟩
theorem AP.c {μ : MU} {w w1 w2 : Mm} (h : AP μ w w1) (e : ∀ c a i, c = 120 ∨ c = 121 ∨ c = 212 ∨ c = 213 → w2 c a i = w1 c a i) : AP μ w w2 := by
  refine h.t ⟨?_, ?_, fun i a b => e _ _ _ (by omega), fun j a b => pby_cong (e _ _ _ (by omega))⟩
  · rw [e _ _ _ (by omega)]; exact Int.le_refl _
  · rw [e _ _ _ (by omega)]; exact Int.le_refl _
theorem AP.u {μ : MU} {w w1 : Mm} (h : AP μ w w1) {c : Nat} {a i v : Int} (hc : c ≠ 120 ∧ c ≠ 121 ∧ c ≠ 212 ∧ c ≠ 213) : AP μ w (up w1 c a i v) := h.c fun c' _ _ _ => up_k _ (by omega) _ _ _ _ _
theorem AP.f {μ : MU} {w w1 : Mm} (h : AP μ w w1) {c : Nat} {lo n : Int} {f : Int → Int} (hc : c ≠ 120 ∧ c ≠ 121 ∧ c ≠ 212 ∧ c ≠ 213) : AP μ w (fl w1 c lo n f) := h.c fun c' _ _ _ => fl_at (by omega)
theorem AP.step {μ : MU} {k p v : Int} {w w1 : Mm} (h : AP μ w w1) : AP μ w (m_step μ k p v w1) := by
  refine h.t ⟨?_, ?_, fun i a b => ?_, fun j a b => pby_cong (step_at (by decide))⟩
  · unfold m_step; rw [up_s]; omega
  · rw [step_at (by decide)]; exact Int.le_refl _
  · unfold m_step; rw [up_k _ (by decide), up_i _ _ _ _ _ _ (by omega)]
theorem pby_pool {μ : MU} {v j : Int} {w : Mm} (h : 0 ≤ j ∧ j < w 121 μ.1 0) : pby (m_pool μ v w) j = pby w j := by
  unfold pby m_pool
  rw [up_k _ (by decide), up_ii]
  split
  · next e => rw [← e, wget_wput_lt (by omega)]
  · rfl
theorem pby_pool_s {μ : MU} {v : Int} {w : Mm} (h : 0 ≤ w 121 μ.1 0) (hv : 0 ≤ v ∧ v < 256) : pby (m_pool μ v w) (w 121 μ.1 0) = v := by
  unfold pby m_pool
  rw [up_k _ (by decide), up_ii, if_pos rfl, wget_wput_eq (by omega) hv]
theorem AP.pool {μ : MU} {v : Int} {w w1 : Mm} (h : AP μ w w1) : AP μ w (m_pool μ v w1) := by
  refine h.t ⟨?_, ?_, fun i a b => ?_, fun j a b => pby_pool ⟨a, b⟩⟩
  · rw [pool_at (by decide)]; exact Int.le_refl _
  · rw [pool_n]; omega
  · rw [pool_at (by decide)]
theorem AP.poolN {μ : MU} {f : Int → Int} {w w1 : Mm} (h : AP μ w w1) : ∀ {n : Nat}, AP μ w (m_poolN μ f n w1)
  | 0 => h
  | n + 1 => (AP.poolN h (n := n)).pool
theorem AP.opens {μ : MU} {s q k : Int} {w w1 : Mm} (h : AP μ w w1) : AP μ w (m_opens s q k w1) := h.c fun c _ _ _ => opens_at (by omega)
theorem AP.closes {μ : MU} {s q k : Int} {w w1 : Mm} (h : AP μ w w1) : AP μ w (m_closes s q k w1) := h.c fun c _ _ _ => closes_at (by omega)
theorem AP.tak {μ : MU} {t s e k : Int} {w w1 : Mm} (h : AP μ w w1) : AP μ w (m_tak t s e k w1) := h.c fun c _ _ _ => tak_at (by omega)
theorem AP.psh {μ : MU} {t k : Int} {w w1 : Mm} (h : AP μ w w1) : AP μ w (m_psh t k w1) := h.c fun c _ _ _ => psh_at (by omega)
theorem AP.trn {μ : MU} {t : Int} {w w1 : Mm} (h : AP μ w w1) : AP μ w (m_trn t w1) := h.c fun c _ _ _ => trn_at (by omega)
theorem AP.ins {μ : MU} {q k : Int} {w w1 : Mm} (h : AP μ w w1) : AP μ w (m_ins μ q k w1) := (AP.f h.opens.step (by decide)).poolN
theorem AP.del {μ : MU} {q k : Int} {w w1 : Mm} (h : AP μ w w1) : AP μ w (m_del μ q k w1) := h.closes.step
theorem AP.rep {μ : MU} {q k : Int} {w w1 : Mm} (h : AP μ w w1) : AP μ w (m_rep μ q k w1) := (h.u (by decide)).step
theorem AP.pEn {μ : MU} {s e : Int} {b w w1 : Mm} (h : AP μ w w1) : AP μ w (m_pEn μ s e b w1) := h.poolN
theorem AP.puts {μ : MU} {s : Int} {w : Mm} : AP μ w (m_puts μ s w).2 := by
  have h0 : AP μ w (m_ld s w) := AP.r.f (by decide)
  unfold m_puts
  split
  · exact h0
  · split
    · exact h0
    · exact (h0.ins.u (by decide)).u (by decide)
theorem AP.more {μ : MU} {c a b : Int} {w : Mm} : AP μ w (m_more μ c a b w).2 := by
  unfold m_more
  split
  · unfold m_sea m_sea2
    split
    · exact AP.r
    · exact (AP.r.u (by decide)).u (by decide)
  · split
    · have hA : AP μ w (m_kilA μ a w) := AP.del (AP.psh (AP.r.f (by decide)))
      refine AP.u ?_ (by decide)
      split
      · exact hA.step.pEn
      · exact hA
    · split
      · exact AP.puts
      · split
        · unfold m_rots
          split
          · exact AP.r
          · refine AP.u ?_ (by decide)
            split
            · exact AP.step AP.r.trn
            · exact AP.r.trn
        · split
          · have hA : AP μ w (m_copA μ a b w) := AP.tak (AP.f ((AP.r.u (by decide)).u (by decide)) (by decide))
            unfold m_cop
            split
            · exact hA.step.pEn
            · exact hA
          · split
            · exact AP.puts
            · split
              · exact AP.step (((AP.r.u (by decide)).u (by decide)).u (by decide))
              · split
                · unfold m_clr
                  split
                  · exact AP.r
                  · exact AP.step ((AP.r.u (by decide)).u (by decide))
                · unfold m_nar
                  split
                  · exact AP.r
                  · split
                    · exact AP.r
                    · exact (((AP.r.u (by decide)).u (by decide)).u (by decide)).u (by decide)
theorem AP.does {μ : MU} {c a b : Int} {w : Mm} : AP μ w (m_does μ c a b w).2 := by
  unfold m_does
  split
  · exact AP.r
  · split
    · split
      · exact AP.r
      · exact ((AP.ins (AP.r.u (by decide))).u (by decide)).u (by decide)
    · split
      · exact (AP.rep (AP.r.u (by decide))).u (by decide)
      · split
        · exact AP.u (AP.del AP.r) (by decide)
        · split
          · split
            · exact (AP.r.u (by decide)).u (by decide)
            · exact AP.r
          · split
            · split
              · exact (AP.r.u (by decide)).u (by decide)
              · exact AP.r
            · split
              · split
                · exact AP.r
                · exact (AP.r.u (by decide)).u (by decide)
              · exact AP.more
theorem AP.nice {μ : MU} : ∀ (j : Nat) (d : Int) (w : Mm), AP μ w (m_nice μ j d w).2
  | 0, d, w => AP.r
  | j + 1, d, w => by
    unfold m_nice
    split
    · exact AP.r
    · split
      · exact (AP.r.u (by decide)).f (by decide)
      · exact ((AP.r.u (by decide)).rep).t (AP.nice j _ _)
theorem AP.ntf {μ : MU} {w : Mm} (h : bPo w) : AP μ w (m_ntf μ w).2 := by
  obtain ⟨g, _, h2, _⟩ := ntf_ok (μ := μ) h
  rw [h2]
  exact (AP.nice 8 1 w).c fun c _ _ _ => ux_k (by omega)
