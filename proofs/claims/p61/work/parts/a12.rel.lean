/-! the relation along the commands that take characters -/
def RBc (μ : MU) (L : List Int) (A : Mm) : Prop := (0 ≤ A 122 μ.1 0 ∧ A 122 μ.1 0 ≤ A 120 μ.1 0) ∧ SB 0 A ∧ VB 0 A ∧ bB A ∧ bTr A ∧ (L.length : Int) ≤ 30000
section RLC
variable {p : RP} {w W w0 w1 w2 w3 A A' A1 : Mm} {μ : MU} {f q n b x y lo v r g m i k s wd z : Int} {c : Int → Int} {L : List Int} {gf : Int → Int}
theorem vDk.cgV {d i : Int} {V V' : Mm} (h : vDk c w d V i) (e : ∀ (k : Nat) (j : Int), 200 ≤ k → k ≤ 210 → V' k 0 j = V k 0 j) : vDk c w d V' i := by
  obtain ⟨h1, h2, h3, h4⟩ := h
  refine ⟨h1.cgV (fun k j a b => e k j a (by omega)), by rw [e _ _ (by decide) (by decide)]; exact h2, by rw [e _ _ (by decide) (by decide)]; exact h3, fun j a b => by rw [e _ _ (by decide) (by decide), e _ _ (by decide) (by decide)]; exact h4 j a b⟩
/-- the step for a store that was set -/
theorem RLm.sto1 (h : RLm p μ f L w A) (hl : 0 ≤ A 122 μ.1 0 ∧ A 122 μ.1 0 ≤ A 120 μ.1 0) (hx : 0 < x ∧ w 0 x 0 = 0) (hA : ∀ (c : Nat) (a i : Int), c ≠ 212 → c ≠ 120 → c ≠ 213 → c ≠ 121 → c ≠ 136 → A' c a i = A c a i) (h120 : A' 120 μ.1 0 = A 120 μ.1 0 + 1) (h212 : ∀ k, 0 ≤ k → k < A 120 μ.1 0 → A' 212 0 k = A 212 0 k) (hw : A' 212 0 (A 120 μ.1 0) = wd) (hk : 3 < wd % 8) : RS1 p μ f L x w A (k_step (w 12 (w 41 f 0) 0) x 5 0 0 0 w) A' (fun _ => True) :=
  RLm.stepN h hl UPd.refl (fun _ _ _ _ _ => rfl) hx (h.2.2.1.1.cgV (fun k j a b => hA _ _ _ (by omega) (by omega) (by omega) (by omega) (by omega))) h.1.2.2.1.1.2 (AgO.of fun c a i hc => hA _ _ _ (by omega) (by omega) (by omega) (by omega) (by omega)) (fun i => hA _ _ _ (by decide) (by decide) (by decide) (by decide) (by decide)) h120 h212 hw (by omega) (by unfold kdC; rw [if_neg (by omega)])
/-- taking characters out, from where they were read -/
theorem takeS (h : RLm p μ f L w A) (hR : RBc μ L A) (hn : 0 ≤ n) (hq : 0 ≤ q ∧ q + n ≤ A 201 0 0) (hN : NCh w W g (w 28 (w 11 (w 41 f 0) 0) 0) q n) (hx : 0 < x ∧ W 0 x 0 = 0) :
    UPd (pc_ p) (fun _ _ => False) w W ∧ RLm p μ f L W A ∧ vCh (pc_ p) W g n (fun j => w 1 (w 28 (w 11 (w 41 f 0) 0) 0) (q + j)) ∧ (∀ j, 0 ≤ j → j < n → w 1 (w 28 (w 11 (w 41 f 0) 0) 0) (q + j) = A 200 0 (q + j)) ∧
    RS1 p μ f L x W A (d_tj (w 41 f 0) q n g x W (W 60 (w 41 f 0) 0)) (up (m_del μ q n A) 207 0 0 (dbF (A 207 0 0) q n)) (fun h => h = fun j => w 1 (w 28 (w 11 (w 41 f 0) 0) 0) (q + j)) := by
  obtain ⟨hl, hSB, hVB, hbB, hbT, hLn⟩ := hR
  have u0 : UPd (pc_ p) (fun _ _ => False) w W := NCh_u hN
  have hW := h.fr0 hl u0
  have hs := h.1.2.2.1.1.1
  have hf := h.1.2.1.1
  have hT := hs.2.1.2.1.1
  have hg := NCh_v hN (by omega) h.1.1
  have e41 : W 41 f 0 = w 41 f 0 := u0.1 _ _ _ (by omega) (fun z => z)
  have e11 : W 11 (w 41 f 0) 0 = w 11 (w 41 f 0) 0 := u0.1 _ _ _ (by have := hs.1.1; omega) (fun z => z)
  have e67 : W 67 (w 11 (w 41 f 0) 0) 0 = w 67 (w 11 (w 41 f 0) 0) 0 := u0.1 _ _ _ (by have := hs.2.1.1.1; omega) (fun z => z)
  have k := hW.take hl ⟨hVB.1, hVB.2.1, hVB.2.2.1⟩ hn (x := x) (q := q) (by rw [e41, e11, e67, h.low.2.2.2.1]; exact hq) hx hg
  rw [e41] at k
  exact ⟨u0, hW, hg, fun j j0 j1 => h.txt (by omega) (by omega), k⟩
theorem takeR (h : RLm p μ f L w A) (hR : RBc μ L A) (hn : 0 ≤ n) (hq : 0 ≤ q ∧ q + n ≤ A 201 0 0) (hN : NCh w W g (w 28 (w 11 (w 41 f 0) 0) 0) q n) (hx : 0 < x ∧ W 0 x 0 = 0) :
    RPF p μ f L w A (d_tj (w 41 f 0) q n g x W (W 60 (w 41 f 0) 0)) (up (m_del μ q n A) 207 0 0 (dbF (A 207 0 0) q n)) := by
  obtain ⟨u0, hW, hg, ht, k⟩ := takeS h hR hn hq hN hx
  have h2 := hR.2.1.1.2
  refine (RPF.of1 k (by rw [up_k _ (by decide), del_120]) (fun g' hg' _ j j0 j1 => ?_)).pre u0
  rw [up_k _ (by decide), del_212, if_pos rfl] at j1 ⊢
  have e2 : wsz (1 + 8 * q + 4096 * n) = n := by unfold wsz; rw [if_neg (by omega)]; omega
  rw [e2] at j1
  rw [hg', show (1 + 8 * q + 4096 * n) / 8 % 512 = q by omega]; exact ht j j0 j1
/-- characters go to the ring -/
theorem kilR (h : RLm p μ f L w A) (hR : RBc μ L A) (hn : 0 ≤ n ∧ n ≤ 20) (hq : 0 ≤ A 207 0 0 ∧ A 207 0 0 + n ≤ A 201 0 0) (hN : NCh w W g (w 28 (w 11 (w 41 f 0) 0) 0) (A 207 0 0) n) (hx : 0 < x ∧ W 0 x 0 = 0) :
    RPF p μ f L w A (up (s_push (w 11 (w 41 f 0) 0) g (d_tj (w 41 f 0) (A 207 0 0) n g x W (W 60 (w 41 f 0) 0))) 91 f 0 v) (m_rs4 μ (m_kilA μ n A)) := by
  obtain ⟨u0, hW, hg, ht, k⟩ := takeS h hR hn.1 hq hN hx
  obtain ⟨hl, hSB, hVB, hbB, hbT, hLn⟩ := hR
  obtain ⟨c, σ, G, h1, h2, h3, h4, u1, hc1⟩ := k
  obtain ⟨w1, hw1⟩ : ∃ w1, w1 = d_tj (w 41 f 0) (A 207 0 0) n g x W (W 60 (w 41 f 0) 0) := ⟨_, rfl⟩
  rw [← hw1] at h1 u1 ⊢
  obtain ⟨A1, hA1⟩ : ∃ A1, A1 = up (m_del μ (A 207 0 0) n A) 207 0 0 (dbF (A 207 0 0) (A 207 0 0) n) := ⟨_, rfl⟩
  rw [← hA1] at h1
  have hs := hW.1.2.2.1.1.1
  have e41 : W 41 f 0 = w 41 f 0 := u0.1 _ _ _ (by have := h.1.2.1.1; omega) (fun z => z)
  have e11 : W 11 (w 41 f 0) 0 = w 11 (w 41 f 0) 0 := u0.1 _ _ _ (by have := h.1.2.2.1.1.1.1.1; omega) (fun z => z)
  have q := hW.eqs hl.1 u1
  rw [e41, e11] at q
  have e41' : w1 41 f 0 = w 41 f 0 := (q.1 41 (by decide)).trans e41
  have e11' : w1 11 (w 41 f 0) 0 = w 11 (w 41 f 0) 0 := q.2.1.1
  have aA : ∀ (c : Nat) (j : Int), 200 ≤ c → c ≤ 206 → A1 c 0 j = m_closes 0 (A 207 0 0) n A c 0 j := fun c j z1 z2 => by rw [hA1, up_k _ (by omega), del_o (by omega)]
  have aE : ∀ (c : Nat) (j : Int), 204 ≤ c → c ≤ 206 → A1 c 0 j = A c 0 j := fun c j z1 z2 => by rw [aA c j (by omega) z2, closes_at (by omega)]
  have hl1 : 0 ≤ A1 122 μ.1 0 ∧ A1 122 μ.1 0 ≤ A1 120 μ.1 0 := by
    rw [hA1, up_k _ (by decide), up_k _ (by decide), del_120, del_o (by decide), closes_at (by decide)]; omega
  have hE1 : bEl 0 A1 := fun i z1 z2 => by rw [aE _ _ (by decide) (by decide)]; exact hSB.2.2.2.2.1 i z1 z2
  obtain ⟨A2, hA2⟩ : ∃ A2 : Mm, A2 = fun c a i => if c = 204 ∨ c = 205 ∨ c = 206 then m_psh 0 n (m_rd n A) c a i else A1 c a i := ⟨_, rfl⟩
  have rdE : ∀ (c : Nat) (a j : Int), c ≠ 240 → m_rd n A c a j = A c a j := fun c a j z => by unfold m_rd; exact fl_at z
  have k2 : RLm (pU p c σ G) μ f (L ++ [x]) (s_push (w1 11 (w1 41 f 0) 0) g w1) A2 :=
    h1.psh (B := m_rd n A) (A' := A2) (k := n) (gf := fun j => w 1 (w 28 (w 11 (w 41 f 0) 0) 0) (A 207 0 0 + j)) hl1 hE1 (hg.fr u1 hc1 (fun k z => by unfold SDb at z; omega)) hn
      (fun c j z1 z2 => by rw [rdE _ _ _ (by omega), aE _ _ z1 z2]) (fun j z1 z2 => by unfold m_rd; rw [fl_v, if_pos (by omega), ht j z1 z2])
      (fun c j z1 z2 => by rw [hA2]; simp only; rw [if_pos (by omega)]) (fun c a j z1 z2 z3 z4 z5 => by rw [hA2]; simp only; rw [if_neg (by omega)])
  rw [e41', e11'] at k2
  have hl2 : 0 ≤ A2 122 μ.1 0 ∧ A2 122 μ.1 0 ≤ A2 120 μ.1 0 := by rw [hA2]; simp only; rw [if_neg (by decide), if_neg (by decide)]; exact hl1
  have kE : ∀ i, 0 ≤ i → i < 20 → 0 ≤ A2 205 0 i ∧ A2 205 0 i ≤ 20 := fun i i0 i1 => by
    rw [hA2]; simp only; rw [if_pos (by decide), psh_205]
    by_cases y1 : i = 20 * 0 + 4 * 4 + 0
    · rw [if_pos y1]; exact hn
    · rw [if_neg y1]
      by_cases y2 : 20 * 0 + 16 + 1 ≤ i ∧ i < 20 * 0 + 16 + 1 + ((if m_rd n A 204 0 (5 * 0 + 4) < 4 then m_rd n A 204 0 (5 * 0 + 4) + 1 else 4) - 1)
      · rw [if_pos y2, rdE _ _ _ (by decide)]; exact hSB.2.2.2.2.1 _ (by omega) (by omega)
      · rw [if_neg y2, rdE _ _ _ (by decide)]; exact hSB.2.2.2.2.1 _ (by omega) (by omega)
  have hX : ∀ (c : Nat) (a j : Int), c ≠ 204 → c ≠ 205 → c ≠ 206 → c ≠ 240 → m_psh 0 n (m_rd n A) c a j = A c a j := fun c a j z1 z2 z3 z4 => by rw [psh_at2 ⟨z1, z2, z3⟩, rdE _ _ _ z4]
  have k4 : RLm (pU p c σ G) μ f (L ++ [x]) (s_push (w 11 (w 41 f 0) 0) g w1) (m_kilA μ n A) := by
    have hm : m_kilA μ n A = m_del μ (A 207 0 0) n (m_psh 0 n (m_rd n A)) := by unfold m_kilA; rw [hX 207 _ _ (by decide) (by decide) (by decide) (by decide)]
    rw [hm]
    refine k2.cA hl2 (fun i z1 z2 => kE i (by omega) (by omega)) (AgO.of fun c a i hc => ?_) (fun i => ?_) ?_ (fun j j0 j1 => ?_) (fun c j z1 z2 j0 j1 => ?_)
    · rw [del_o (by omega), closes_at (by omega), hX _ _ _ (by omega) (by omega) (by omega) (by omega), hA2]; simp only; rw [if_neg (by omega), hA1, up_k _ (by omega), del_o (by omega), closes_at (by omega)]
    · rw [del_o (by decide), closes_at (by decide), hX _ _ _ (by decide) (by decide) (by decide) (by decide), hA2]; simp only; rw [if_neg (by decide), hA1, up_k _ (by decide), del_o (by decide), closes_at (by decide)]
    · rw [del_120, hX _ _ _ (by decide) (by decide) (by decide) (by decide), hA2]; simp only; rw [if_neg (by decide), hA1, up_k _ (by decide), del_120]
    · rw [hA2]; simp only
      rw [if_neg (by decide), hA1, up_k _ (by decide), del_212, del_212, hX 120 _ _ (by decide) (by decide) (by decide) (by decide), hX 212 _ _ (by decide) (by decide) (by decide) (by decide)]
    · rw [del_o (by omega), hA2]; simp only
      by_cases y : c = 204 ∨ c = 205 ∨ c = 206
      · rw [if_pos y, closes_at (by omega)]
      · rw [if_neg y]
        by_cases y7 : c = 207
        · subst y7
          rw [closes_at (by decide), hX _ _ _ (by decide) (by decide) (by decide) (by decide), hA1]
          have e0 : j = 0 := by have : j < 1 := j1; omega
          rw [e0, up_s]; unfold dbF; rw [if_neg (by omega), if_neg (by omega)]
        · rw [hA1, up_k _ y7, del_o (by omega)]
          exact cls_cg (fun k j a b d e f => hX k 0 j d e f (by omega)) c j z1 z2 (by omega) (by omega) (by omega)
  have hl4 : 0 ≤ m_kilA μ n A 122 μ.1 0 ∧ m_kilA μ n A 122 μ.1 0 ≤ m_kilA μ n A 120 μ.1 0 := by
    unfold m_kilA
    rw [del_120, del_o (by decide), closes_at (by decide), hX _ _ _ (by decide) (by decide) (by decide) (by decide), hX _ _ _ (by decide) (by decide) (by decide) (by decide)]; omega
  have k5 := k4.ans (r := v) (v := m_kilA μ n A 204 0 4) hl4
  have hf1 : c f = 1 := (hc1 f (by rw [u0.t (by have := h.1.2.1.1; omega) (Or.inl rfl)]; have := h.1.2.1.1; omega)).trans h.1.2.1.1.2
  have u2 : UPd c (SDb 10 (A 122 μ.1 0)) w1 (up (s_push (w 11 (w 41 f 0) 0) g w1) 91 f 0 v) := by
    have e15 : c (w1 31 (w 11 (w 41 f 0) 0) 0) = 15 := by
      have := h1.1.2.2.1.1.1.2.1.2.2.2.2.2.2
      rwa [e41', e11'] at this
    unfold s_push
    refine ((UPd.refl.sF (by decide) (Or.inr ?_)).sU (by decide) (Or.inr ?_)).sU (by decide) (Or.inr ?_)
    · rw [e15]; unfold SDb; omega
    · rw [e15]; unfold SDb; omega
    · rw [hf1]; unfold SDb; omega
  have k6 : RS1 p μ f L x W A (up (s_push (w 11 (w 41 f 0) 0) g w1) 91 f 0 v) (m_rs4 μ (m_kilA μ n A)) (fun h => h = fun j => w 1 (w 28 (w 11 (w 41 f 0) 0) 0) (A 207 0 0 + j)) := ⟨c, σ, G, k5, h2, h3, h4, u1.trans hc1 u2, hc1⟩
  have ek : m_rs4 μ (m_kilA μ n A) 212 0 (A 120 μ.1 0) = 1 + 8 * A 207 0 0 + 4096 * n := by
    unfold m_rs4 m_kilA
    rw [up_k _ (by decide), del_212, hX _ _ _ (by decide) (by decide) (by decide) (by decide), if_pos rfl, hX _ _ _ (by decide) (by decide) (by decide) (by decide)]
  have h22 := hSB.1.2
  refine (RPF.of1 k6 ?_ (fun g' hg' _ j j0 j1 => ?_)).pre u0
  · unfold m_rs4 m_kilA
    rw [up_k _ (by decide), del_120, hX _ _ _ (by decide) (by decide) (by decide) (by decide)]
  · rw [ek] at j1 ⊢
    have e2 : wsz (1 + 8 * A 207 0 0 + 4096 * n) = n := by unfold wsz; rw [if_neg (by omega)]; omega
    rw [e2] at j1
    rw [hg', show (1 + 8 * A 207 0 0 + 4096 * n) / 8 % 512 = A 207 0 0 by omega]; exact ht j j0 j1
end RLC
