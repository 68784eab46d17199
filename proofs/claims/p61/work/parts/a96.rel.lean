/-! the way between two nodes, counted in two ways -/
def PRq (Q : Int → Prop) (w : Mm) : Prop := ∀ x, Q x → w 0 x 0 = 5 ∧ 0 < x ∧ 0 ≤ w 63 x 0 ∧ w 63 x 0 ≤ 100000 ∧ (w 26 x 0 = 0 ∨ (Q (w 26 x 0) ∧ w 63 (w 26 x 0) 0 < w 63 x 0))
section DST
variable {p : RP} {w A : Mm} {μ : MU} {f k M x : Int} {L : List Int} {Q : Int → Prop}
theorem nnq_b (h : PRq Q w) {x : Int} (hx : x = 0 ∨ Q x) : 0 ≤ nnm w x ∧ nnm w x ≤ 100001 ∧ 0 ≤ x := by
  unfold nnm
  by_cases c : x = 0
  · rw [if_pos c]; omega
  · rw [if_neg c]; have := h x (hx.resolve_left c); omega
theorem nnq_p (h : PRq Q w) {x : Int} (hx : Q x) : (w 26 x 0 = 0 ∨ Q (w 26 x 0)) ∧ nnm w (w 26 x 0) < nnm w x := by
  have h1 := h x hx
  unfold nnm
  rw [if_neg (show ¬ x = 0 by omega)]
  rcases h1.2.2.2.2 with c | ⟨c, c2⟩
  · rw [if_pos c]; exact ⟨Or.inl c, by omega⟩
  · have := h _ c
    rw [if_neg (by omega)]; exact ⟨Or.inr c, by omega⟩
theorem RLm.prq (h : RLm p μ f L w A) (hWI : WI w) (hT : TB μ M A) (hM : M ≤ 600) (hE : bEx μ A) : PRq (fun x => ∃ k, alv μ A k ∧ x = pn_ p k) w := by
  rintro x ⟨k, ha, rfl⟩
  have hk := ha.1
  have h124 := hT.1
  have h5 := h.tg5 ha
  have e26 := (h.nd ha).2.2.2.1.1
  refine ⟨h5.1, h.pos hWI ha, by omega, by omega, ?_⟩
  by_cases z : A 217 0 k = -1
  · exact Or.inl (by rw [e26, if_pos z])
  · rw [e26, if_neg z, h5.2]
    have hp := (hT.2.2.2.2.2.2 k hk.1 hk.2).2.1
    have k0 : k ≠ 0 := fun e => z (by rw [e]; exact hT.p0)
    have hq := (hT.par hE ha k0).1
    exact Or.inr ⟨⟨_, hq, rfl⟩, by rw [(h.tg5 hq).2]; omega⟩
theorem dst_n : ∀ (G : Nat) (a b n : Int), m_dst A G a b n = n + m_dst A G a b 0
  | 0, a, b, n => by simp only [m_dst]; omega
  | G + 1, a, b, n => by
    simp only [m_dst]
    split
    · omega
    · split
      · rw [dst_n G _ _ (n + 1), dst_n G _ _ (0 + 1)]; omega
      · rw [dst_n G _ _ (n + 1), dst_n G _ _ (0 + 1)]; omega
theorem dst_s {G : Nat} {a b : Int} (h : a ≠ b) : m_dst A (G + 1) a b 0 = 1 + (if m_pln A a ≥ m_pln A b then m_dst A G (A 217 0 a) b 0 else m_dst A G a (A 217 0 b) 0) := by
  simp only [m_dst]
  rw [if_neg h]
  split
  · rw [dst_n]; omega
  · rw [dst_n]; omega
theorem dst_e {G : Nat} {a : Int} : m_dst A G a a 0 = 0 := by
  cases G with
  | zero => rfl
  | succ G => unfold m_dst; rw [if_pos rfl]
theorem dist_C (h : RLm p μ f L w A) (hWI : WI w) (hT : TB μ M A) (hE : bEx μ A) : ∀ (N : Nat) (a b : Int), a + b < N → alv μ A a → alv μ A b → ∀ (F G : Nat), a + b + 2 ≤ F → m_pln A a + m_pln A b ≤ G → t_dist w F (pn_ p a) (pn_ p b) = m_dst A G a b 0
  | 0, a, b, hN, ha, hb, _, _, _, _ => by have := ha.1; have := hb.1; omega
  | N + 1, a, b, hN, ha, hb, F, G, hF, hG => by
    have ih := dist_C h hWI hT hE N
    have a0 := ha.1
    have b0 := hb.1
    by_cases e : a = b
    · subst e; rw [t_dist_0 (Or.inr (Or.inr rfl)), dst_e]
    have pl : ∀ k, alv μ A k → 1 ≤ m_pln A k ∧ m_pln A k ≤ k + 1 := fun k hk => by
      have := pln_rng hT.pr (k + 1).toNat k (Nat.le_refl _) (by have := hk.1; omega) hk.1.2
      exact ⟨this.2.2 hk.1.1, this.2.1⟩
    have ps : ∀ k, alv μ A k → m_pln A k = 1 + m_pln A (A 217 0 k) := fun k hk => pln_s hT.pr hk.1
    have pp : ∀ k, alv μ A k → k ≠ 0 → alv μ A (A 217 0 k) ∧ A 217 0 k < k := fun k hk h0 => ⟨(hT.par hE hk h0).1, (hT.2.2.2.2.2.2 k hk.1.1 hk.1.2).2.1.2⟩
    have p0 : m_pln A 0 = 1 := hT.pln0
    have ts : ∀ (F : Nat) (x y : Int), alv μ A x → alv μ A y → x ≠ y → t_dist w (F + 1) (pn_ p x) (pn_ p y) = 1 + (if y < x then t_dist w F (pn_ p (A 217 0 x)) (pn_ p y) else t_dist w F (pn_ p x) (pn_ p (A 217 0 y))) := fun F x y hx hy hxy => by
      have x0 := hx.1
      have y0 := hy.1
      have ex := h.tg5 hx
      have ey := h.tg5 hy
      have px := h.pos hWI hx
      have py := h.pos hWI hy
      simp only [t_dist]
      rw [if_neg (fun z => by
        rcases z with z | z | z
        · omega
        · omega
        · exact hxy (h.inj hx hy |>.mp z)), ex.2, ey.2]
      by_cases z : y < x
      · rw [if_pos z, if_pos z, (h.nd hx).2.2.2.1.1, if_neg (hT.par hE hx (by omega)).2]
      · rw [if_neg z, if_neg z, (h.nd hy).2.2.2.1.1, if_neg (hT.par hE hy (by omega)).2]
    have la := pl a ha
    have lb := pl b hb
    have sa := ps a ha
    have sb := ps b hb
    obtain ⟨F1, rfl⟩ : ∃ F1, F = F1 + 2 := ⟨F - 2, by omega⟩
    obtain ⟨G1, rfl⟩ : ∃ G1, G = G1 + 1 := ⟨G - 1, by omega⟩
    rw [ts (F1 + 1) a b ha hb e, dst_s e]
    by_cases c1 : b < a
    · rw [if_pos c1]
      obtain ⟨qa, qa2⟩ := pp a ha (by omega)
      have qa0 := qa.1
      by_cases c2 : m_pln A a ≥ m_pln A b
      · rw [if_pos c2, ih _ _ (by omega) qa hb (F1 + 1) G1 (by omega) (by omega)]
      · rw [if_neg c2]
        have hb0 : b ≠ 0 := fun z => by rw [z, p0] at c2; omega
        obtain ⟨qb, qb2⟩ := pp b hb hb0
        have qb0 := qb.1
        have n1 : A 217 0 a ≠ b := fun z => by rw [z] at sa; omega
        rw [ih _ _ (by omega) qa hb (F1 + 1) (G1 + 1) (by omega) (by omega), dst_s n1, if_neg (by omega), ← ih a _ (by omega) ha qb (F1 + 1) G1 (by omega) (by omega), ts F1 a _ ha qb (by omega), if_pos (by omega), ih _ _ (by omega) qa qb F1 G1 (by omega) (by omega)]
    · rw [if_neg c1]
      obtain ⟨qb, qb2⟩ := pp b hb (by omega)
      have qb0 := qb.1
      by_cases c2 : m_pln A a ≥ m_pln A b
      · rw [if_pos c2]
        have ha0 : a ≠ 0 := fun z => by
          subst z
          have := ps b hb
          have := pl _ qb
          rw [p0] at c2; omega
        obtain ⟨qa, qa2⟩ := pp a ha ha0
        have qa0 := qa.1
        have n1 : a ≠ A 217 0 b := fun z => by rw [← z] at sb; omega
        rw [ih _ _ (by omega) ha qb (F1 + 1) (G1 + 1) (by omega) (by omega), dst_s n1, if_pos (by omega), ← ih _ b (by omega) qa hb (F1 + 1) G1 (by omega) (by omega), ts F1 _ b qa hb (by omega), if_neg (by omega), ih _ _ (by omega) qa qb F1 G1 (by omega) (by omega)]
      · rw [if_neg c2, ih _ _ (by omega) ha qb (F1 + 1) G1 (by omega) (by omega)]
theorem dist_eq {a b : Int} (h : RLm p μ f L w A) (hWI : WI w) (hT : TB μ M A) (hE : bEx μ A) (ha : alv μ A a) (hb : alv μ A b) : t_dist w (nnm w (pn_ p a) + nnm w (pn_ p b)).toNat (pn_ p a) (pn_ p b) = m_dist A a b := by
  have nn : ∀ k, alv μ A k → nnm w (pn_ p k) = k + 1 := fun k hk => by unfold nnm; rw [if_neg (by have := h.pos hWI hk; omega), (h.tg5 hk).2]
  rw [nn a ha, nn b hb]
  unfold m_dist
  have pl : ∀ k, alv μ A k → 1 ≤ m_pln A k := fun k hk => (pln_rng hT.pr (k + 1).toNat k (Nat.le_refl _) (by have := hk.1; omega) hk.1.2).2.2 hk.1.1
  have := pl a ha
  have := pl b hb
  exact dist_C h hWI hT hE (a + b + 1).toNat a b (by have := ha.1; have := hb.1; omega) ha hb _ _ (by have := ha.1; have := hb.1; omega) (by omega)
end DST
