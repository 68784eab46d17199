/-! the class fits the reference: what neither looks at changes; the point; characters come, go, are replaced -/
section RLO
variable {p : RP} {w W A A' : Mm} {μ : MU} {f q n b x lo v r : Int} {c : Int → Int} {L : List Int}
theorem vCh.fc {g n : Int} {h1 h2 : Int → Int} (h : vCh c w g n h1) (e : ∀ j, 0 ≤ j → j < n → h1 j = h2 j) : vCh c w g n h2 := ⟨h.1, h.2.1, h.2.2.1, fun j a b => (h.2.2.2 j a b).trans (e j a b)⟩
theorem vSt.cgV {s i : Int} {V V' : Mm} (h : vSt c w s V i) (e : ∀ (k : Nat) (j : Int), 200 ≤ k → k ≤ 206 → V' k 0 j = V k 0 j) : vSt c w s V' i := by
  obtain ⟨⟨h1, h2, h3, h4⟩, h5⟩ := h
  refine ⟨⟨by rw [e _ _ (by decide) (by decide)]; exact h1, h2, fun j a b => by rw [e _ _ (by decide) (by decide)]; exact h3 j a b, fun j a b => by rw [e _ _ (by decide) (by decide), e _ _ (by decide) (by decide)]; exact h4 j a b⟩, fun r a b => ?_⟩
  obtain ⟨k1, k2⟩ := h5 r a b
  unfold vSr
  rw [e _ _ (by decide) (by decide)]
  refine ⟨k1, fun y y0 y1 => ⟨fun y2 => ?_, (k2 y y0 y1).2⟩⟩
  rw [e _ _ (by decide) (by decide)]
  exact ((k2 y y0 y1).1 y2).fc (fun j _ _ => (e _ _ (by decide) (by decide)).symm)
theorem vSt.cA {s : Int} (h : vSt c w s A 0) (hE : bEl 0 A) (e : ∀ (k : Nat) (i : Int), 200 ≤ k → k ≤ 206 → 0 ≤ i → i < st0 k → A' k 0 i = A k 0 i) : vSt c w s A' 0 := by
  obtain ⟨⟨h1, h2, h3, h4⟩, h5⟩ := h
  refine ⟨⟨?_, h2, fun j a b => ?_, fun j a b => ?_⟩, fun r a b => ?_⟩
  · rw [e 201 0 (by decide) (by decide) (by decide) (by decide)]; exact h1
  · rw [e 200 _ (by decide) (by decide) (by omega) (by show _ < (400 : Int); omega)]; exact h3 j a b
  · rw [e 202 _ (by decide) (by decide) (by omega) (by show _ < (6 : Int); omega), e 203 _ (by decide) (by decide) (by omega) (by show _ < (6 : Int); omega)]; exact h4 j a b
  · obtain ⟨k1, k2⟩ := h5 r a b
    unfold vSr
    rw [e 204 _ (by decide) (by decide) (by omega) (by show _ < (5 : Int); omega)]
    refine ⟨k1, fun y y0 y1 => ⟨fun y2 => ?_, (k2 y y0 y1).2⟩⟩
    have hy : 4 * r + y < 20 := by unfold m_slt at y1; split at y1 <;> omega
    rw [e 205 _ (by decide) (by decide) (by omega) (by show _ < (20 : Int); omega)]
    refine ((k2 y y0 y1).1 y2).fc (fun j j0 j1 => ?_)
    have := (hE (20 * 0 + 4 * r + y) (by omega) (by omega)).2
    exact (e 206 _ (by decide) (by decide) (by omega) (by show _ < (400 : Int); omega)).symm
theorem RLm.cA (h : RLm p μ f L w A) (hl : 0 ≤ A 122 μ.1 0 ∧ A 122 μ.1 0 ≤ A 120 μ.1 0) (hE : bEl 0 A) (h1 : AgO μ A A') (h2 : ∀ i, A' 232 0 i = A 232 0 i) (h3 : A' 120 μ.1 0 = A 120 μ.1 0) (h4 : ∀ k, 0 ≤ k → k < A 120 μ.1 0 → A' 212 0 k = A 212 0 k) (h5 : ∀ (c : Nat) (i : Int), 200 ≤ c → c ≤ 210 → 0 ≤ i → i < st0 c → A' c 0 i = A c 0 i) : RLm p μ f L w A' := by
  obtain ⟨hO, hL, ⟨hV, hQ, hLc⟩, hSp⟩ := h
  have hN : ∀ (b : Int) (k : Nat), (fun _ _ => False : Int → Nat → Prop) b k → STd (A 122 μ.1 0) b k := fun _ _ z => z.elim
  have u : UPd (pc_ p) (fun _ _ => False) w w := UPd.refl
  refine ⟨hO.fr u CXt.refl hN hl.1 h1 hSp hl.2 (fun _ _ _ => rfl) hO.1 hO.2.2.1, hL.fr u CXt.refl hN (fun _ z => z) hl.1 h1 h2, ⟨?_, hQ, fun y hy => ?_⟩, fun k k0 k1 => ?_⟩
  · obtain ⟨v1, v2, v3, v4⟩ := hV
    have b60 := hO.2.2.1.1.2.1
    refine ⟨v1.cA hE (fun k i a b => h5 k i a (by omega)), ?_, ?_, fun j j0 j1 => ?_⟩
    · rw [h5 207 0 (by decide) (by decide) (by decide) (by decide)]; exact v2
    · rw [h5 210 0 (by decide) (by decide) (by decide) (by decide)]; exact v3
    · rw [h5 208 _ (by decide) (by decide) (by omega) (by show _ < (4 : Int); omega), h5 209 _ (by decide) (by decide) (by omega) (by show _ < (4 : Int); omega)]; exact v4 j j0 j1
  · rw [h1.1 122 (by decide) (by decide) (by decide)]; exact hLc y hy
  · exact (hSp k k0 (by omega)).fr u CXt.refl (fun _ _ z => z.elim) (fun _ z => z.elim) (h4 k k0 (by omega))
/-- the live desk's own numbers, and the answer, change -/
theorem RLm.nums (h : RLm p μ f L w A) (hl : 0 ≤ A 122 μ.1 0 ∧ A 122 μ.1 0 ≤ A 120 μ.1 0) (u : UPd (pc_ p) (SDb 10 (A 122 μ.1 0)) w W) (h0 : ∀ (a : Int), W 0 a 0 = w 0 a 0) (e : ∀ (k : Nat) (a i : Int), k ≠ 1 → k ≠ 60 → k ≠ 61 → k ≠ 91 → W k a i = w k a i) (h1 : AgO μ A A') (h2 : ∀ i, A' 232 0 i = A 232 0 i) (h3 : A' 120 μ.1 0 = A 120 μ.1 0) (h4 : ∀ k, 0 ≤ k → k < A 120 μ.1 0 → A' 212 0 k = A 212 0 k)
    (hV : vDk (pc_ p) W (w 41 f 0) A' 0) (hB : bDk W (w 41 f 0)) : RLm p μ f L W A' := by
  obtain ⟨hO, hL, ⟨-, hQ, hLc⟩, hSp⟩ := h
  have hf := hO.2.1.1
  have hS := SDb.std (lo := A 122 μ.1 0) (b0 := 10) (Or.inl rfl)
  have g41 : W 41 f 0 = w 41 f 0 := e _ _ _ (by decide) (by decide) (by decide) (by decide)
  have g46 : W 46 f 0 = w 46 f 0 := e _ _ _ (by decide) (by decide) (by decide) (by decide)
  have g12 : W 12 (w 41 f 0) 0 = w 12 (w 41 f 0) 0 := e _ _ _ (by decide) (by decide) (by decide) (by decide)
  refine ⟨hO.fr u CXt.refl hS hl.1 h1 hSp hl.2 (fun _ _ _ => rfl) (fun a ha => hO.1 a (by rw [← h0]; exact ha)) (hO.2.2.1.live hf u CXt.refl hl.1 hB), ?_, ?_, fun k k0 k1 => ?_⟩
  · rw [g46]; exact hL.fr u CXt.refl hS (fun k z => by unfold SDb at z; omega) hl.1 h1 h2
  · unfold rLv
    rw [g41, g12]
    refine ⟨hV, ?_, fun y hy => by rw [h1.1 122 (by decide) (by decide) (by decide)]; exact hLc y hy⟩
    have ee : ∀ (k : Nat) (a : Int), k ≠ 1 → k ≠ 60 → k ≠ 61 → k ≠ 91 → W k a 0 = w k a 0 := fun k a z1 z2 z3 z4 => e k a 0 z1 z2 z3 z4
    exact hQ.cg (ee _ _ (by decide) (by decide) (by decide) (by decide)) (ee _ _ (by decide) (by decide) (by decide) (by decide)) (ee _ _ (by decide) (by decide) (by decide) (by decide)) (ee _ _ (by decide) (by decide) (by decide) (by decide)) (fun _ _ => ⟨ee _ _ (by decide) (by decide) (by decide) (by decide), ee _ _ (by decide) (by decide) (by decide) (by decide)⟩) (fun _ _ => ee _ _ (by decide) (by decide) (by decide) (by decide))
  · exact (hSp k k0 (by omega)).fr u CXt.refl (fun y hy z => by unfold SDb at z; omega) (fun y z => by unfold SDb at z; omega) (h4 k k0 (by omega))
theorem RLm.lsk (h : RLm p μ f L w A) : lsOk (pc_ p) (A 122 μ.1 0) w (w 12 (w 41 f 0) 0) := by
  obtain ⟨hO, hL, ⟨-, hQ, hLc⟩, hSp⟩ := h
  unfold lsOk
  rw [hQ.2.1]
  rcases lst_or L with rfl | ⟨M, y, rfl⟩
  · exact Or.inl rfl
  · rw [lsA_app]; exact Or.inr (hLc y (by simp))
theorem put_B (hs : sDk c 10 w (w 41 f 0)) (hB : bDk w (w 41 f 0)) (hV : vDk c w (w 41 f 0) A 0) (hW : VW 0 A) (hL1 : bL1 0 A) (hn : w 2 b 0 = n ∧ 0 ≤ n) (hq : 0 ≤ q ∧ q ≤ w 67 (w 11 (w 41 f 0) 0) 0) (hfit : w 67 (w 11 (w 41 f 0) 0) 0 + n ≤ 400) (hx : 0 < x ∧ w 0 x 0 = 0) (hpt : 0 ≤ mvF (A 207 0 0) q n 0 ∧ mvF (A 207 0 0) q n 0 ≤ 400) :
    bDk (d_pj (w 41 f 0) q b x w (w 60 (w 41 f 0) 0)) (w 41 f 0) ∧ d_pj (w 41 f 0) q b x w (w 60 (w 41 f 0) 0) 60 (w 41 f 0) 0 = w 60 (w 41 f 0) 0 ∧ d_pj (w 41 f 0) q b x w (w 60 (w 41 f 0) 0) 61 (w 41 f 0) 0 = mvF (A 207 0 0) q n 0 ∧ ∀ j, 0 ≤ j → j < w 60 (w 41 f 0) 0 → d_pj (w 41 f 0) q b x w (w 60 (w 41 f 0) 0) 1 (w 13 (w 41 f 0) 0) j = m_ins μ q n A 208 0 (4 * 0 + j) ∧ d_pj (w 41 f 0) q b x w (w 60 (w 41 f 0) 0) 1 (w 14 (w 41 f 0) 0) j = m_ins μ q n A 209 0 (4 * 0 + j) := by
  have hD := hs.ap
  obtain ⟨⟨a1, a2⟩, hS, hT, ⟨b1, b2⟩, ⟨c1, c2, c3⟩, d1, d2, d3⟩ := id hs
  obtain ⟨B1, B2, B3, B4⟩ := hB
  obtain ⟨v1, v2, v3, v4⟩ := hV
  obtain ⟨W1, W2, W3⟩ := hW
  have nx : ∀ {a t : Int}, w 0 a 0 = t → t ≠ 0 → a ≠ x := fun h1 h2 e => h2 (by rw [← h1, e]; exact hx.2)
  have x0 := nx a1 (by decide)
  have xs := nx hS.1.1 (by decide)
  have x13 := nx c1 (by decide)
  have x14 := nx d1 (by decide)
  have f60 : d_pj (w 41 f 0) q b x w (w 60 (w 41 f 0) 0) 60 (w 41 f 0) 0 = w 60 (w 41 f 0) 0 := pj_c x0 (by decide)
  have f11 : d_pj (w 41 f 0) q b x w (w 60 (w 41 f 0) 0) 11 (w 41 f 0) 0 = w 11 (w 41 f 0) 0 := pj_c x0 (by decide)
  have f13 : d_pj (w 41 f 0) q b x w (w 60 (w 41 f 0) 0) 13 (w 41 f 0) 0 = w 13 (w 41 f 0) 0 := pj_c x0 (by decide)
  have f14 : d_pj (w 41 f 0) q b x w (w 60 (w 41 f 0) 0) 14 (w 41 f 0) 0 = w 14 (w 41 f 0) 0 := pj_c x0 (by decide)
  have f61 : d_pj (w 41 f 0) q b x w (w 60 (w 41 f 0) 0) 61 (w 41 f 0) 0 = mvF (A 207 0 0) q n 0 := by rw [d_pj_61, hn.1, v2]
  have f67 : d_pj (w 41 f 0) q b x w (w 60 (w 41 f 0) 0) 67 (w 11 (w 41 f 0) 0) 0 = w 67 (w 11 (w 41 f 0) 0) 0 + n := by rw [d_pj_67 xs, hn.1]
  have hmv : ∀ z r, 0 ≤ z → z ≤ A 201 0 0 → 0 ≤ mvF z q n r ∧ mvF z q n r ≤ A 201 0 0 + n := fun z r z0 z1 => by unfold mvF; split <;> omega
  have v1' := v1.1.1
  refine ⟨⟨by rw [f60]; exact B1, by rw [f61]; exact hpt, by rw [f11, f67]; omega, fun j j0 j1 => ?_⟩, f60, f61, fun j j0 j1 => ?_⟩
  · rw [f13, f14, pj_S hD x13, pj_E hD x14, hn.1]
    by_cases y : 0 ≤ j ∧ j < w 60 (w 41 f 0) 0
    · rw [if_pos y, if_pos y, (v4 j y.1 y.2).1, (v4 j y.1 y.2).2]
      have g1 := W3 (4 * 0 + j) (by omega) (by omega)
      have g2 := W2 (4 * 0 + j) (by omega) (by omega)
      have g3 := hmv (A 208 0 (4 * 0 + j)) 0 (by omega) (by omega)
      have g4 := hmv (A 209 0 (4 * 0 + j)) 1 (by omega) (by omega)
      omega
    · rw [if_neg y, if_neg y]; exact B4 j j0 j1
  · rw [pj_S hD x13, pj_E hD x14, hn.1, if_pos ⟨j0, j1⟩, if_pos ⟨j0, j1⟩, (v4 j j0 j1).1, (v4 j j0 j1).2, ins_o (by decide), ins_o (by decide), opn_208, opn_209, if_pos (by omega), if_pos (by omega)]
    exact ⟨rfl, rfl⟩
theorem RLm.put (h : RLm p μ f L w A) (hl : 0 ≤ A 122 μ.1 0 ∧ A 122 μ.1 0 ≤ A 120 μ.1 0) (hSB : SB 0 A) (hW : VW 0 A) (hb0 : w 0 b 0 = 20 ∧ pc_ p b = 0) (hn : w 2 b 0 = n ∧ 0 ≤ n) (hq : 0 ≤ q ∧ q ≤ w 67 (w 11 (w 41 f 0) 0) 0) (hfit : w 67 (w 11 (w 41 f 0) 0) 0 + n ≤ 400) (hx : 0 < x ∧ w 0 x 0 = 0) (hbuf : ∀ j, 0 ≤ j → j < n → w 1 b j = A 240 0 j) (hpt : 0 ≤ mvF (A 207 0 0) q n 0 ∧ mvF (A 207 0 0) q n 0 ≤ 400) :
    RS1 p μ f L x w A (d_pj (w 41 f 0) q b x w (w 60 (w 41 f 0) 0)) (up (m_ins μ q n A) 207 0 0 (mvF (A 207 0 0) q n 0)) (fun _ => True) := by
  have hlo := h.lsk
  obtain ⟨hO, hL, ⟨hV, hQ, hLc⟩, hSp⟩ := id h
  have hs := hO.2.2.1.1.1
  have hB := hO.2.2.1.1.2
  obtain ⟨k1, k2, k3, k4⟩ := put_B (μ := μ) hs hB hV hW hSB.1 hn hq hfit hx hpt
  obtain ⟨x1, x2, x3, x4⟩ := put_X (d := w 41 f 0) (p := q) (b := b) (x := x) (w := w) (j0 := w 60 (w 41 f 0) 0)
  have kS := put_S (μ := μ) (j0 := w 60 (w 41 f 0) 0) hs hlo hl.1 hV.1 hSB.2.2.1 hb0 hn hq hfit hx hbuf
  have nx : ∀ {a t : Int}, w 0 a 0 = t → t ≠ 0 → a ≠ x := fun h1 h2 e => h2 (by rw [← h1, e]; exact hx.2)
  have f11 : d_pj (w 41 f 0) q b x w (w 60 (w 41 f 0) 0) 11 (w 41 f 0) 0 = w 11 (w 41 f 0) 0 := pj_c (nx hs.1.1 (by decide)) (by decide)
  have f13 : d_pj (w 41 f 0) q b x w (w 60 (w 41 f 0) 0) 13 (w 41 f 0) 0 = w 13 (w 41 f 0) 0 := pj_c (nx hs.1.1 (by decide)) (by decide)
  have f14 : d_pj (w 41 f 0) q b x w (w 60 (w 41 f 0) 0) 14 (w 41 f 0) 0 = w 14 (w 41 f 0) 0 := pj_c (nx hs.1.1 (by decide)) (by decide)
  refine ⟨_, _, _, RLm.step (wd := 8 * q + 4096 * n) (g := 0) (gf := fun _ => 0) h hl (put_u hs hlo hx) (AgO.of fun c a i hc => ?_) (fun i => ?_) ?_ (fun k k0 k1 => ?_) ?_ hx x1 ?_ (fun _ => ?_) (fun y => ?_) (fun y => ?_) (put_Q hs hQ hx) ?_ k1, fun k hk => ⟨cset_o hk, if_neg hk⟩, cset_s, trivial, put_u hs hlo hx, cset_new hx.2⟩
  · rw [up_k _ (by omega), ins_o (by omega), opens_at (by omega)]
  · rw [up_k _ (by decide), ins_o (by decide), opens_at (by decide)]
  · rw [up_k _ (by decide), ins_120]
  · rw [up_k _ (by decide), ins_212, if_neg (by omega)]
  · rw [up_k _ (by decide), ins_212, if_pos rfl]
  · rw [x2, show (8 * q + 4096 * n) % 8 = 0 by omega]; rfl
  · have hz := hV.1.1.2.1
    rw [x3, x4, hn.1]; unfold wsz; rw [if_neg (by omega)]; omega
  · omega
  · omega
  · refine ⟨?_, ?_, ?_, fun j j0 j1 => ?_⟩
    · rw [f11]; exact kS.cgV (fun k j a b => up_k _ (by omega) _ _ _ _ _)
    · rw [k3, up_s]
    · rw [k2, up_k _ (by decide), ins_o (by decide), opens_at (by decide)]; exact hV.2.2.1
    · rw [k2] at j1
      rw [f13, f14, up_k _ (by decide), up_k _ (by decide)]; exact k4 j j0 j1
end RLO
