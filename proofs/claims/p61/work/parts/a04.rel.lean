/-! the class fits the reference: new characters, taking out, replacing, the point, views, marks -/
section RLP
variable {p : RP} {w W A A' : Mm} {μ : MU} {f q n b x lo v r g m i : Int} {c : Int → Int} {L : List Int} {gf : Int → Int}
theorem NCh_u (h : NCh w W r b lo n) : UPd c (fun _ _ => False) w W := by
  obtain ⟨q, q0, r0, q1, r1, hn, rfl⟩ := h
  unfold cpA
  exact (((UPd.refl.sA q0 q1).sF (by decide) (Or.inl q1)).sO r0 r1).sU (by decide) (Or.inl r1)
theorem NCh_v (h : NCh w W r b lo n) (hb : w 0 b 0 ≠ 0) (hc : ∀ a, w 0 a 0 = 0 → c a = 0) : vCh c W r n (fun j => w 1 b (lo + j)) := by
  obtain ⟨q, q0, r0, q1, r1, hn, rfl⟩ := h
  have hbq : b ≠ q := fun e => hb (by rw [e]; exact q1)
  have e10 : up (newO (cpA (newA w q 20 n) b q lo 0 n) r 1) 10 r 0 q 10 r 0 = q := up_s _ _ _ _ _
  refine ⟨⟨?_, hc r r1⟩, ?_, ?_, fun j j0 j1 => ?_⟩
  · rw [up_k _ (by decide), newO_t]
  · rw [e10, up_k _ (by decide), newO_o (Ne.symm hn), cpA_k (by decide), newA_t]; exact ⟨rfl, hc q q1⟩
  · rw [e10, up_k _ (by decide), newO_o (Ne.symm hn), cpA_k (by decide), newA_n]
  · rw [e10, up_k _ (by decide), newO_o (Ne.symm hn)]
    unfold cpA
    rw [flA_v, if_pos (by omega), newA_o hbq, show j - 0 + lo = lo + j by omega]
theorem UPd.c0 {S : Int → Nat → Prop} (u : UPd c S w W) (h : ∀ a, w 0 a 0 = 0 → c a = 0) : ∀ a, W 0 a 0 = 0 → c a = 0 := fun a ha => h a (Classical.byContradiction fun hn => hn (by rw [← u.t hn (Or.inl rfl)]; exact ha))
/-- objects come that nobody owns -/
theorem RLm.fr0 (h : RLm p μ f L w A) (hl : 0 ≤ A 122 μ.1 0 ∧ A 122 μ.1 0 ≤ A 120 μ.1 0) (u : UPd (pc_ p) (fun _ _ => False) w W) : RLm p μ f L W A := by
  obtain ⟨hO, hL, ⟨hV, hQ, hLc⟩, hSp⟩ := h
  have hf := hO.2.1.1
  have hN : ∀ (b : Int) (k : Nat), (fun _ _ => False : Int → Nat → Prop) b k → STd (A 122 μ.1 0) b k := fun _ _ z => z.elim
  have e : ∀ {k : Nat} {a i : Int}, w 0 a 0 ≠ 0 → W k a i = w k a i := fun h0 => u.1 _ _ _ h0 (fun z => z)
  have f0 : w 0 f 0 ≠ 0 := by omega
  have g41 : W 41 f 0 = w 41 f 0 := e f0
  have hs := hO.2.2.1.1.1
  have d0 : w 0 (w 41 f 0) 0 ≠ 0 := by have := hs.1.1; omega
  have t0 : w 0 (w 12 (w 41 f 0) 0) 0 ≠ 0 := by have := hs.2.2.2.1.1; omega
  refine ⟨hO.fr u CXt.refl hN hl.1 AgO.refl hSp hl.2 (fun _ _ _ => rfl) (u.c0 hO.1) (hO.2.2.1.live hf (u.mono fun _ _ z => z.elim) CXt.refl hl.1 (hO.2.2.1.1.2.fr hs u (fun _ _ _ _ _ z => z))), ?_, ?_, fun k k0 k1 => ?_⟩
  · rw [e f0]; exact hL.fr u CXt.refl hN (fun _ z => z) hl.1 (AgO.refl (μ := μ)) (fun _ => rfl)
  · unfold rLv
    rw [g41, e d0]
    exact ⟨hV.fr hs u CXt.refl (fun _ _ _ _ _ z => z) (fun _ z => z), hQ.cg (e t0) (e t0) (e t0) (e t0) (fun y hy => ⟨e (by have := hQ.2.2.2.2 y hy; omega), e (by have := hQ.2.2.2.2 y hy; omega)⟩) (fun y hy => e (by have := hQ.2.2.2.2 y hy; omega)), hLc⟩
  · exact (hSp k k0 k1).fr u CXt.refl (fun _ _ z => z) (fun _ z => z) rfl
theorem take_B (hs : sDk c 10 w (w 41 f 0)) (hB : bDk w (w 41 f 0)) (hV : vDk c w (w 41 f 0) A 0) (hW : VW 0 A) (hn : 0 ≤ n) (hq : 0 ≤ q ∧ q + n ≤ w 67 (w 11 (w 41 f 0) 0) 0) (hx : 0 < x ∧ w 0 x 0 = 0) :
    bDk (d_tj (w 41 f 0) q n g x w (w 60 (w 41 f 0) 0)) (w 41 f 0) ∧ d_tj (w 41 f 0) q n g x w (w 60 (w 41 f 0) 0) 60 (w 41 f 0) 0 = w 60 (w 41 f 0) 0 ∧ d_tj (w 41 f 0) q n g x w (w 60 (w 41 f 0) 0) 61 (w 41 f 0) 0 = dbF (A 207 0 0) q n ∧ ∀ j, 0 ≤ j → j < w 60 (w 41 f 0) 0 → d_tj (w 41 f 0) q n g x w (w 60 (w 41 f 0) 0) 1 (w 13 (w 41 f 0) 0) j = m_del μ q n A 208 0 (4 * 0 + j) ∧ d_tj (w 41 f 0) q n g x w (w 60 (w 41 f 0) 0) 1 (w 14 (w 41 f 0) 0) j = m_del μ q n A 209 0 (4 * 0 + j) := by
  have hD := hs.ap
  obtain ⟨⟨a1, a2⟩, hS, hT, ⟨b1, b2⟩, ⟨c1, c2, c3⟩, d1, d2, d3⟩ := id hs
  obtain ⟨B1, B2, B3, B4⟩ := hB
  obtain ⟨v1, v2, v3, v4⟩ := hV
  obtain ⟨W1, W2, W3⟩ := hW
  have nx : ∀ {a t : Int}, w 0 a 0 = t → t ≠ 0 → a ≠ x := fun h1 h2 e => h2 (by rw [← h1, e]; exact hx.2)
  have x0 := nx a1 (by decide)
  have xs := nx hS.1.1 (by decide)
  have x13 := nx c1 (by decide)
  have x14 := nx d1 (by decide)
  have f60 : d_tj (w 41 f 0) q n g x w (w 60 (w 41 f 0) 0) 60 (w 41 f 0) 0 = w 60 (w 41 f 0) 0 := tj_c x0 (by decide)
  have f11 : d_tj (w 41 f 0) q n g x w (w 60 (w 41 f 0) 0) 11 (w 41 f 0) 0 = w 11 (w 41 f 0) 0 := tj_c x0 (by decide)
  have f13 : d_tj (w 41 f 0) q n g x w (w 60 (w 41 f 0) 0) 13 (w 41 f 0) 0 = w 13 (w 41 f 0) 0 := tj_c x0 (by decide)
  have f14 : d_tj (w 41 f 0) q n g x w (w 60 (w 41 f 0) 0) 14 (w 41 f 0) 0 = w 14 (w 41 f 0) 0 := tj_c x0 (by decide)
  have f61 : d_tj (w 41 f 0) q n g x w (w 60 (w 41 f 0) 0) 61 (w 41 f 0) 0 = dbF (A 207 0 0) q n := by
    unfold d_tj; rw [flA_k (by decide), flA_k (by decide), up_s, v2]
  have f67 : d_tj (w 41 f 0) q n g x w (w 60 (w 41 f 0) 0) 67 (w 11 (w 41 f 0) 0) 0 = w 67 (w 11 (w 41 f 0) 0) 0 - n := d_tj_67 xs
  have hdb : ∀ z, 0 ≤ z → z ≤ 400 → 0 ≤ dbF z q n ∧ dbF z q n ≤ 400 := fun z z0 z1 => by unfold dbF; split <;> (try split) <;> omega
  have v1' := v1.1.1
  refine ⟨⟨by rw [f60]; exact B1, by rw [f61, ← v2]; exact hdb _ B2.1 B2.2, by rw [f11, f67]; omega, fun j j0 j1 => ?_⟩, f60, f61, fun j j0 j1 => ?_⟩
  · rw [f13, f14, tj_S hD x13, tj_E hD x14]
    have k := B4 j j0 j1
    have k1 := hdb _ k.1.1 k.1.2
    have k2 := hdb _ k.2.1 k.2.2
    by_cases y : 0 ≤ j ∧ j < w 60 (w 41 f 0) 0
    · rw [if_pos y, if_pos y]; exact ⟨k1, k2⟩
    · rw [if_neg y, if_neg y]; exact k
  · rw [tj_S hD x13, tj_E hD x14, if_pos ⟨j0, j1⟩, if_pos ⟨j0, j1⟩, (v4 j j0 j1).1, (v4 j j0 j1).2, del_o (by decide), del_o (by decide), cls_208, cls_209, if_pos (by omega), if_pos (by omega)]
    exact ⟨rfl, rfl⟩
theorem RLm.take (h : RLm p μ f L w A) (hl : 0 ≤ A 122 μ.1 0 ∧ A 122 μ.1 0 ≤ A 120 μ.1 0) (hW : VW 0 A) (hn : 0 ≤ n) (hq : 0 ≤ q ∧ q + n ≤ w 67 (w 11 (w 41 f 0) 0) 0) (hx : 0 < x ∧ w 0 x 0 = 0) (hg : vCh (pc_ p) w g n gf) :
    RS1 p μ f L x w A (d_tj (w 41 f 0) q n g x w (w 60 (w 41 f 0) 0)) (up (m_del μ q n A) 207 0 0 (dbF (A 207 0 0) q n)) (fun h => h = gf) := by
  have hlo := h.lsk
  obtain ⟨hO, hL, ⟨hV, hQ, hLc⟩, hSp⟩ := id h
  have hs := hO.2.2.1.1.1
  have hB := hO.2.2.1.1.2
  obtain ⟨k1, k2, k3, k4⟩ := take_B (μ := μ) (g := g) hs hB hV hW hn hq hx
  obtain ⟨x1, x2, x3, x4, x5⟩ := take_X (d := w 41 f 0) (p := q) (n := n) (g := g) (x := x) (w := w) (j0 := w 60 (w 41 f 0) 0)
  have kS := take_S (μ := μ) (g := g) (j0 := w 60 (w 41 f 0) 0) hs hlo hl.1 hV.1 hn hq hx
  have nx : ∀ {a t : Int}, w 0 a 0 = t → t ≠ 0 → a ≠ x := fun h1 h2 e => h2 (by rw [← h1, e]; exact hx.2)
  have f11 : d_tj (w 41 f 0) q n g x w (w 60 (w 41 f 0) 0) 11 (w 41 f 0) 0 = w 11 (w 41 f 0) 0 := tj_c (nx hs.1.1 (by decide)) (by decide)
  have f13 : d_tj (w 41 f 0) q n g x w (w 60 (w 41 f 0) 0) 13 (w 41 f 0) 0 = w 13 (w 41 f 0) 0 := tj_c (nx hs.1.1 (by decide)) (by decide)
  have f14 : d_tj (w 41 f 0) q n g x w (w 60 (w 41 f 0) 0) 14 (w 41 f 0) 0 = w 14 (w 41 f 0) 0 := tj_c (nx hs.1.1 (by decide)) (by decide)
  have hz := hV.1.1.2.1
  have hw1 : (1 + 8 * q + 4096 * n) % 8 = 1 := by omega
  have hw2 : wsz (1 + 8 * q + 4096 * n) = n := by unfold wsz; rw [if_neg (by omega)]; omega
  have u := take_u (n := n) (p := q) (g := g) (j0 := w 60 (w 41 f 0) 0) hs hlo hx
  refine ⟨_, _, _, RLm.step (wd := 1 + 8 * q + 4096 * n) (g := 0) (gf := gf) h hl u (AgO.of fun c a i hc => ?_) (fun i => ?_) ?_ (fun k k0 k1 => ?_) ?_ hx x1 ?_ (fun _ => ?_) (fun y => ?_) (fun y => ?_) (take_Q hs hQ hx) ?_ k1, fun k hk => ⟨cset_o hk, if_neg hk⟩, cset_s, if_pos rfl, u, cset_new hx.2⟩
  · rw [up_k _ (by omega), del_o (by omega), closes_at (by omega)]
  · rw [up_k _ (by decide), del_o (by decide), closes_at (by decide)]
  · rw [up_k _ (by decide), del_120]
  · rw [up_k _ (by decide), del_212, if_neg (by omega)]
  · rw [up_k _ (by decide), del_212, if_pos rfl]
  · rw [x2, hw1]; rfl
  · rw [x3, x4, hw2]; exact ⟨by omega, rfl⟩
  · omega
  · rw [x5, hw2]; exact hg.fr u CXt.refl (fun k z => by unfold SDb at z; omega)
  · refine ⟨?_, ?_, ?_, fun j j0 j1 => ?_⟩
    · rw [f11]; exact kS.cgV (fun k j a b => up_k _ (by omega) _ _ _ _ _)
    · rw [k3, up_s]
    · rw [k2, up_k _ (by decide), del_o (by decide), closes_at (by decide)]; exact hV.2.2.1
    · rw [k2] at j1
      rw [f13, f14, up_k _ (by decide), up_k _ (by decide)]; exact k4 j j0 j1
theorem RLm.rp (h : RLm p μ f L w A) (hl : 0 ≤ A 122 μ.1 0 ∧ A 122 μ.1 0 ≤ A 120 μ.1 0) (hq : 0 ≤ q ∧ q < w 67 (w 11 (w 41 f 0) 0) 0) (hv : 0 ≤ v) (hx : 0 < x ∧ w 0 x 0 = 0) (hg : vCh (pc_ p) w g 1 gf) :
    RS1 p μ f L x w A (d_rp (w 41 f 0) q v g x w) (m_rep μ q v A) (fun h => h = gf) := by
  have hlo := h.lsk
  obtain ⟨hO, hL, ⟨hV, hQ, hLc⟩, hSp⟩ := id h
  have hs := hO.2.2.1.1.1
  have hB := hO.2.2.1.1.2
  have hD := hs.ap
  obtain ⟨x1, x2, x3, x4, x5⟩ := rp_X (d := w 41 f 0) (p := q) (v := v) (g := g) (x := x) (w := w)
  have kS := rp_S (μ := μ) (p := q) (v := v) (g := g) hs hlo hl.1 hV.1 hx
  have nx : ∀ {a t : Int}, w 0 a 0 = t → t ≠ 0 → a ≠ x := fun h1 h2 e => h2 (by rw [← h1, e]; exact hx.2)
  have d0 := nx hs.1.1 (by decide)
  have ec : ∀ {k : Nat}, k ≠ 1 ∧ k ≠ 33 ∧ k ≠ 34 ∧ k ≠ 35 ∧ k ≠ 71 ∧ k ≠ 72 → d_rp (w 41 f 0) q v g x w k (w 41 f 0) 0 = w k (w 41 f 0) 0 := fun hk => rp_c d0 hk
  have e13 : ∀ j, d_rp (w 41 f 0) q v g x w 1 (w 13 (w 41 f 0) 0) j = w 1 (w 13 (w 41 f 0) 0) j := fun j => by rw [rp_1 (nx hs.2.2.2.2.1.1 (by decide)), if_neg (fun h => hD.2.1.2.1 h.1)]
  have e14 : ∀ j, d_rp (w 41 f 0) q v g x w 1 (w 14 (w 41 f 0) 0) j = w 1 (w 14 (w 41 f 0) 0) j := fun j => by rw [rp_1 (nx hs.2.2.2.2.2.1 (by decide)), if_neg (fun h => hD.2.2.1 h.1)]
  have hz := hV.1.1.2.1
  have hw1 : (2 + 8 * q + 4096 * v) % 8 = 2 := by omega
  have hw2 : wsz (2 + 8 * q + 4096 * v) = 1 := by unfold wsz; rw [if_pos hw1]
  have u := rp_u (p := q) (v := v) (g := g) hs hlo hx
  refine ⟨_, _, _, RLm.step (wd := 2 + 8 * q + 4096 * v) (g := 0) (gf := gf) h hl u (AgO.of fun c a i hc => rep_o (by omega)) (fun i => rep_o (by decide)) rep_120 (fun k k0 k1 => ?_) ?_ hx x1 ?_ (fun _ => ?_) (fun y => ?_) (fun y => ?_) (rp_Q hs hQ hx) ?_ ?_, fun k hk => ⟨cset_o hk, if_neg hk⟩, cset_s, if_pos rfl, u, cset_new hx.2⟩
  · rw [rep_212, if_neg (by omega)]
  · rw [rep_212, if_pos rfl]
  · rw [x2, hw1]; rfl
  · rw [x3, x4, hw2]; exact ⟨by omega, rfl⟩
  · omega
  · rw [x5, hw2]; exact hg.fr u CXt.refl (fun k z => by unfold SDb at z; omega)
  · refine ⟨?_, ?_, ?_, fun j j0 j1 => ?_⟩
    · rw [ec (by decide)]; exact kS
    · rw [ec (by decide), rep_o (by decide)]; exact hV.2.1
    · rw [ec (by decide), rep_o (by decide)]; exact hV.2.2.1
    · rw [ec (by decide)] at j1
      rw [ec (by decide), ec (by decide), e13, e14, rep_o (by decide), rep_o (by decide)]; exact hV.2.2.2 j j0 j1
  · refine ⟨by rw [ec (by decide)]; exact hB.1, by rw [ec (by decide)]; exact hB.2.1, ?_, fun j j0 j1 => ?_⟩
    · rw [ec (by decide), rp_c (nx hs.2.1.1.1 (by decide)) (by decide)]; exact hB.2.2.1
    · rw [ec (by decide), ec (by decide), e13, e14]; exact hB.2.2.2 j j0 j1
end RLP
