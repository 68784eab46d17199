/-! characters of entries, what nodes keep in store, where a line begins -/
section QRF
variable {γ : LC} {p : RP} {w A V : Mm} {μ : MU} {f c k S P M r v i j e s q : Int} {C : Int → Int}
theorem vSr.ent2 (h : vSr C w s V i q) (h00 : w 0 0 0 = 0) (hq : 0 ≤ q ∧ q < 5) (hb : ∀ e, 0 ≤ e → e < m_slt q → 0 ≤ V 205 0 (20 * i + 4 * q + e) ∧ V 205 0 (20 * i + 4 * q + e) ≤ 20) : m_ecn w s q = V 204 0 (5 * i + q) ∧ (0 ≤ V 204 0 (5 * i + q) ∧ V 204 0 (5 * i + q) ≤ m_slt q) ∧ ∀ e, 0 ≤ e → e < V 204 0 (5 * i + q) → w 2 (w 10 (w 3 (w 31 s 0) (q + e)) 0) 0 = V 205 0 (20 * i + 4 * q + e) ∧ ∀ j, 0 ≤ j → j < V 205 0 (20 * i + 4 * q + e) → w 1 (w 10 (w 3 (w 31 s 0) (q + e)) 0) j = V 206 0 (400 * i + 80 * q + 20 * e + j) := by
  refine ⟨h.ecn h00 hq.1, h.1, fun e e0 e1 => ?_⟩
  obtain ⟨-, -, v5, v6⟩ := (h.2 e e0 (by have := h.1; omega)).1 e1
  exact ⟨v5, v6⟩
theorem q_storedByReplay (h : CHB p μ f (lvL p μ A) w A) (hWI : WI w) (hR : RB μ S P M A) (hM : M ≤ 598) (hc : IR c) (hq : IR q) : KI γ 8 mX12_storedByReplay [rv f, .int (I c), .int (I q)] w 2 12 (QP μ f w (o_storedByReplay μ (pl_ p) c q A)) (QX1 μ f w (o_storedByReplay μ (pl_ p) c q A) "java/lang/IndexOutOfBoundsException") := by
  have hT := hR.2.1.2.2.2.1
  have nn := nodeOf_n h hWI hT c
  have hb : alv μ A c → ∀ q, 0 ≤ q ∧ q < 5 → ∀ e, 0 ≤ e → e < m_slt q → 0 ≤ pr_ p c 205 0 (20 * 1 + 4 * q + e) ∧ pr_ p c 205 0 (20 * 1 + 4 * q + e) ≤ 20 := fun ha q hq e e0 e1 => by
    have hm : m_slt q ≤ 4 ∧ (q < 4 → m_slt q = 1) := by unfold m_slt; split <;> omega
    exact (h.2.1.2 c ha).1.2.1.2.2.2.2.1 _ (by omega) (by omega)
  refine (kX12_storedByReplay γ w f c q h.1.toF.1 (trt_of h hWI hT) (hN_of h hWI hT c) hc (fun z => ?_) hq).imp (fun r w' z => ?_) (fun E w' z => ?_)
  · have hn := nn.mp z
    have ha := isN_al hn
    rw [nodeOf_e h hT, if_pos hn]
    exact fun q0 q1 => ((h.1.nd ha).2.1.2.2 q q0 q1).ent (w00 hWI) ⟨q0, q1⟩ (hb ha q ⟨q0, q1⟩)
  · obtain ⟨z1, z2, z3⟩ := z
    have hn := nn.mp z1.1
    have ha := isN_al hn
    have q0 := z1.2.1
    have q1 := z1.2.2
    rw [nodeOf_e h hT, if_pos hn] at z2
    obtain ⟨k1, k2, k3⟩ := ((h.1.nd ha).2.1.2.2 q q0 q1).ent2 (w00 hWI) ⟨q0, q1⟩ (hb ha q ⟨q0, q1⟩)
    rw [k1, sumN_cong (g := fun e => pr_ p c 205 0 (20 * 1 + 4 * q + e)) (fun e e0 e1 => (k3 e e0 (by omega)).1)] at z2
    rw [z3]; unfold o_storedByReplay; rw [if_pos ⟨hn, q0, by omega⟩]
    by_cases y : A 211 0 q = 0
    · rw [if_pos y]
      refine h.q0 hR hM ?_
      have hU := (h.2.1.2 c ha).1.2.2 q q0 q1 (by omega)
      rw [z2, show (5 : Int) * 1 + q = 5 + q by omega, hU]; rfl
    · rw [if_neg y]
      obtain ⟨Q1, Q2, Q3, -⟩ := h.qr hR hM ha (u := 0)
      refine ⟨?_, Q2, p, Q1, UPG.refl⟩
      obtain ⟨e1, e2⟩ := Q3.2.2.2 q q0 q1 trivial
      have e3 : m_rpl μ (pl_ p) c (m_th μ 0 A) 204 0 (5 + q) = pr_ p c 204 0 (5 * 1 + q) := by
        rw [e1, show (5 : Int) * 1 + q = 5 + q by omega]; rfl
      rw [z2]
      show _ = sumN _ (m_rpl μ (pl_ p) c (m_th μ 0 A) 204 0 (5 + q)).toNat
      rw [e3]
      refine sumN_cong fun e a b => ?_
      have := (e2 e a (by omega)).1
      rw [this, show (20 : Int) * 1 + 4 * q + e = 20 + 4 * q + e by omega]; rfl
  · obtain ⟨z1, z2, z3⟩ := z
    have hn : ¬ (isN μ c A ∧ 0 ≤ q ∧ q ≤ 4) := fun y => z2 ⟨nn.mpr y.1, by omega, by omega⟩
    rw [z3, z1]; unfold o_storedByReplay; rw [if_neg hn]
    exact h.q1 hR hM _
end QRF
section LST
variable {g : Int → Int}
theorem fz_flat {a : Int} (ha : 0 ≤ a) : ∀ m : Nat, (∀ j, a ≤ j → j < a + m → g j ≠ 10) → sumN (fun i => bi (g i = 10)) (a + m).toNat = sumN (fun i => bi (g i = 10)) a.toNat
  | 0, _ => by rw [show a + ((0 : Nat) : Int) = a by omega]
  | m + 1, h => by
    rw [show a + ((m + 1 : Nat) : Int) = (a + m) + 1 by omega, sumN_su (by omega), fz_flat ha m (fun j j0 j1 => h j j0 (by omega))]
    show _ + bi (g (a + m) = 10) = _
    rw [bi_0.mpr (h (a + m) (by omega) (by omega))]; omega
theorem fz_mono {a : Int} (ha : 0 ≤ a) : ∀ m : Nat, sumN (fun i => bi (g i = 10)) a.toNat ≤ sumN (fun i => bi (g i = 10)) (a + m).toNat
  | 0 => by rw [show a + ((0 : Nat) : Int) = a by omega]; exact Int.le_refl _
  | m + 1 => by
    rw [show a + ((m + 1 : Nat) : Int) = (a + m) + 1 by omega, sumN_su (by omega)]
    have := fz_mono ha m
    have h1 : 0 ≤ bi (g (a + m) = 10) := bi_n
    show _ ≤ _ + bi (g (a + m) = 10)
    omega
theorem lst_fee {w : Mm} {s : Int} (hz : SZ w s) : ∀ k : Nat, (k : Int) ≤ sumN (fun i => bi (w 1 (w 28 s 0) i = 10)) (w 67 s 0).toNat → sumN (fun i => bi (w 1 (w 28 s 0) i = 10)) (l_st w s k).toNat = k ∧ (k ≠ 0 → 1 ≤ l_st w s k ∧ w 1 (w 28 s 0) (l_st w s k - 1) = 10)
  | 0, _ => ⟨rfl, fun z => absurd rfl z⟩
  | k + 1, h => by
    obtain ⟨h1, h2⟩ := lst_fee hz k (by omega)
    obtain ⟨b0, b1⟩ := l_st_b hz k
    simp only [l_st]
    rcases fnd_spec (fun i => w 1 (w 28 s 0) i) 10 (w 67 s 0 - l_st w s k).toNat (l_st w s k) with ⟨g1, g2⟩ | ⟨g1, g2, g3, g4⟩
    · exfalso
      have := fz_flat (g := fun i => w 1 (w 28 s 0) i) b0 (w 67 s 0 - l_st w s k).toNat g2
      rw [show l_st w s k + ((w 67 s 0 - l_st w s k).toNat : Int) = w 67 s 0 by omega, h1] at this
      omega
    · refine ⟨?_, fun _ => ⟨by omega, ?_⟩⟩
      · rw [sumN_su (by omega)]
        have := fz_flat (g := fun i => w 1 (w 28 s 0) i) b0 (fnd (fun i => w 1 (w 28 s 0) i) 10 (w 67 s 0 - l_st w s k).toNat (l_st w s k) - l_st w s k).toNat (fun j j0 j1 => g4 j j0 (by omega))
        rw [show l_st w s k + ((fnd (fun i => w 1 (w 28 s 0) i) 10 (w 67 s 0 - l_st w s k).toNat (l_st w s k) - l_st w s k).toNat : Int) = fnd (fun i => w 1 (w 28 s 0) i) 10 (w 67 s 0 - l_st w s k).toNat (l_st w s k) by omega, h1] at this
        rw [this, bi_1.mpr g3]; omega
      · rw [show ∀ x : Int, x + 1 - 1 = x by intro x; omega]; exact g3
end LST
section QRG
variable {γ : LC} {p : RP} {w A V : Mm} {μ : MU} {f c k S P M r v i j e s q : Int} {C : Int → Int}
theorem q_lineStart (h : CHB p μ f (lvL p μ A) w A) (hR : RB μ S P M A) (hM : M ≤ 598) (hc : IR c) : KI γ 7 mX12_lineStart [rv f, .int (I c)] w 1 6 (QP μ f w (o_lineStart μ c A)) (QX1 μ f w (o_lineStart μ c A) "java/lang/IndexOutOfBoundsException") := by
  have h67 := h.1.low.2.2.2.1
  refine (kX12_lineStart γ w f c h.1.toF.2.1 h.1.lvs.2.1 h.1.lvs.1 hc).imp (fun r w' z => ?_) (fun E w' z => ?_)
  · obtain ⟨z1, z2, z3⟩ := z
    have z4 := z1.2
    have hF := lst_fee h.1.lvs.2.1 c.toNat (by omega)
    obtain ⟨b0, b1⟩ := l_st_b h.1.lvs.2.1 c.toNat
    rw [h67] at z4 b1
    rw [fee_eq h (Int.le_refl _)] at z4
    rw [z3]; unfold o_lineStart; rw [if_pos (by omega)]
    refine h.q0 hR hM ?_
    rw [z2]
    obtain ⟨F1, F2⟩ := hF
    have hx0 : c.toNat = 0 → l_st w (w 11 (w 41 f 0) 0) c.toNat = 0 := fun e => by rw [e]; rfl
    rw [fee_eq h b1] at F1
    have hA : ∀ n, 0 ≤ n → n + 1 ≤ A 201 0 0 → m_fee (n + 1) A = m_fee n A + bi (A 200 0 n = 10) := fun n n0 n1 => by unfold m_fee; exact sumN_su n0
    unfold m_lns
    generalize l_st w (w 11 (w 41 f 0) 0) c.toNat = x at *
    rcases fnd_spec (fun p => bi (m_fee p A ≥ c)) 1 (A 201 0 0 + 1).toNat 0 with ⟨g1, g2⟩ | ⟨g1, g2, g3, g4⟩
    · exact absurd (bi_1.mpr (by omega)) (g2 x b0 (by omega))
    · generalize fnd (fun p => bi (m_fee p A ≥ c)) 1 (A 201 0 0 + 1).toNat 0 = y at *
      have g5 := bi_1.mp g3
      have g6 : y ≤ x := by
        apply Classical.byContradiction
        intro n
        exact g4 x b0 (by omega) (bi_1.mpr (by omega))
      apply Classical.byContradiction
      intro n
      by_cases c0 : c = 0
      · have := hx0 (by omega)
        omega
      · obtain ⟨F3, F4⟩ := F2 (by omega)
        have m1 := fz_mono (g := fun i => A 200 0 i) (a := y) (by omega) (x - 1 - y).toNat
        rw [show y + ((x - 1 - y).toNat : Int) = x - 1 by omega] at m1
        have m2 := hA (x - 1) (by omega) (by omega)
        rw [show x - 1 + 1 = x by omega] at m2
        rw [h.1.txt (show 0 ≤ x - 1 by omega) (by omega)] at F4
        rw [bi_1.mpr F4] at m2
        unfold m_fee at *
        omega
  · obtain ⟨z1, z2, z3⟩ := z
    rw [h67, fee_eq h (Int.le_refl _)] at z2
    rw [z3, z1]; unfold o_lineStart; rw [if_neg (by omega)]
    exact h.q1 hR hM _
end QRG
