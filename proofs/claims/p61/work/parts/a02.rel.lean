/-! characters leave the live desk; one is replaced -/
section TAK
variable {c : Int → Int} {w A : Mm} {d p x n g lo j0 i v : Int} {μ : MU} {L : List Int}
theorem to1_T : t_to1 (w 11 d 0) p n w 1 (w 28 (w 11 d 0) 0) i = if p ≤ i ∧ i < p + (w 67 (w 11 d 0) 0 - p - n) then w 1 (w 28 (w 11 d 0) 0) (i + n) else w 1 (w 28 (w 11 d 0) 0) i := by
  unfold t_to1
  rw [up_k _ (by decide)]
  unfold cpA
  rw [flA_v, show i - p + (p + n) = i + n by omega]
theorem tj_o {a : Int} (hx : a ≠ x) (h1 : a ≠ w 13 d 0) (h2 : a ≠ w 14 d 0) : d_tj d p n g x w j0 1 a i = t_toj (w 11 d 0) p n w 6 1 a i := by
  unfold d_tj
  rw [flA_a h2, flA_a h1, up_k _ (by decide), k_step_k hx (by decide) (by decide) (by decide) (by decide) (by decide)]
theorem tj_T (hD : Dap w d) (hx : w 28 (w 11 d 0) 0 ≠ x) : d_tj d p n g x w j0 1 (w 28 (w 11 d 0) 0) i = if p ≤ i ∧ i < p + (w 67 (w 11 d 0) 0 - p - n) then w 1 (w 28 (w 11 d 0) 0) (i + n) else w 1 (w 28 (w 11 d 0) 0) i := by
  rw [tj_o hx (Ne.symm hD.2.1.2.1) (Ne.symm hD.2.2.1)]
  unfold t_toj
  rw [flA_a hD.1.1, to1_T]
theorem tj_P (hD : Dap w d) (hx : w 29 (w 11 d 0) 0 ≠ x) (hi : 0 ≤ i ∧ i < 6) : d_tj d p n g x w j0 1 (w 29 (w 11 d 0) 0) i = dbF (w 1 (w 29 (w 11 d 0) 0) i) p n := by
  rw [tj_o hx (Ne.symm hD.2.1.2.2.1) (Ne.symm hD.2.2.2.1)]
  unfold t_toj
  rw [flA_v, if_pos (by omega)]
theorem tj_R (hD : Dap w d) (hx : w 30 (w 11 d 0) 0 ≠ x) : d_tj d p n g x w j0 1 (w 30 (w 11 d 0) 0) i = w 1 (w 30 (w 11 d 0) 0) i := by
  rw [tj_o hx (Ne.symm hD.2.1.2.2.2) (Ne.symm hD.2.2.2.2), t_toj_1 (Ne.symm hD.1.2.1) (Ne.symm hD.1.2.2)]
theorem tj_S (hD : Dap w d) (hx : w 13 d 0 ≠ x) : d_tj d p n g x w j0 1 (w 13 d 0) i = if 0 ≤ i ∧ i < j0 then dbF (w 1 (w 13 d 0) i) p n else w 1 (w 13 d 0) i := by
  unfold d_tj
  rw [flA_a hD.2.1.1, flA_v, Int.zero_add, up_k _ (by decide), k_step_k hx (by decide) (by decide) (by decide) (by decide) (by decide), t_toj_1 hD.2.1.2.1 hD.2.1.2.2.1]
theorem tj_E (hD : Dap w d) (hx : w 14 d 0 ≠ x) : d_tj d p n g x w j0 1 (w 14 d 0) i = if 0 ≤ i ∧ i < j0 then dbF (w 1 (w 14 d 0) i) p n else w 1 (w 14 d 0) i := by
  unfold d_tj
  rw [flA_v, Int.zero_add, flA_a (Ne.symm hD.2.1.1), up_k _ (by decide), k_step_k hx (by decide) (by decide) (by decide) (by decide) (by decide), t_toj_1 hD.2.2.1 hD.2.2.2.1]
theorem tj_c {a : Int} (hx : a ≠ x) {c : Nat} (h : c ≠ 1 ∧ c ≠ 67 ∧ c ≠ 61 ∧ c ≠ 33 ∧ c ≠ 34 ∧ c ≠ 35 ∧ c ≠ 71 ∧ c ≠ 72) : d_tj d p n g x w j0 c a i = w c a i := d_tj_k hx h
theorem dbF_m1 {q k : Int} (hq : 0 ≤ q) (hk : 0 ≤ k) : dbF (-1) q k = -1 := by unfold dbF; rw [if_neg (by omega), if_neg (by omega)]
theorem take_S (hs : sDk c 10 w d) (hl : lsOk c lo w (w 12 d 0)) (hlo : 0 ≤ lo) (hv : vSt c w (w 11 d 0) A 0) (hn : 0 ≤ n) (hp : 0 ≤ p ∧ p + n ≤ w 67 (w 11 d 0) 0) (hx : 0 < x ∧ w 0 x 0 = 0) : vSt c (d_tj d p n g x w j0) (w 11 d 0) (m_del μ p n A) 0 := by
  have hD := hs.ap
  obtain ⟨hd0, ⟨⟨a1, a2⟩, ⟨b1, b2⟩, ⟨c1, c2, c3⟩, ⟨d1, d2, d3⟩, e1, e2, e3⟩, hT, -⟩ := id hs
  have nx : ∀ {a t : Int}, w 0 a 0 = t → t ≠ 0 → a ≠ x := fun h1 h2 e => h2 (by rw [← h1, e]; exact hx.2)
  obtain ⟨⟨v1, v2, v3, v4⟩, v5⟩ := hv
  have f28 : d_tj d p n g x w j0 28 (w 11 d 0) 0 = w 28 (w 11 d 0) 0 := tj_c (nx a1 (by decide)) (by decide)
  have f29 : d_tj d p n g x w j0 29 (w 11 d 0) 0 = w 29 (w 11 d 0) 0 := tj_c (nx a1 (by decide)) (by decide)
  have f30 : d_tj d p n g x w j0 30 (w 11 d 0) 0 = w 30 (w 11 d 0) 0 := tj_c (nx a1 (by decide)) (by decide)
  have f31 : d_tj d p n g x w j0 31 (w 11 d 0) 0 = w 31 (w 11 d 0) 0 := tj_c (nx a1 (by decide)) (by decide)
  have f67 : d_tj d p n g x w j0 67 (w 11 d 0) 0 = w 67 (w 11 d 0) 0 - n := d_tj_67 (nx a1 (by decide))
  have f2 : d_tj d p n g x w j0 2 (w 28 (w 11 d 0) 0) 0 = 400 := by rw [tj_c (nx b1 (by decide)) (by decide)]; exact hT
  refine ⟨⟨?_, ?_, fun j q0 q1 => ?_, fun j q0 q1 => ?_⟩, ?_⟩
  · rw [f67, del_o (by decide), cls_201, if_pos rfl, v1]
  · rw [f28, f67, f2]; omega
  · rw [f67] at q1
    rw [f28, tj_T hD (nx b1 (by decide)), show (400 : Int) * 0 + j = j by omega, del_o (by decide), cls_200, show (400 : Int) * 0 + p = p by omega, v1]
    by_cases y1 : p ≤ j ∧ j < p + (A 201 0 0 - p - n)
    · rw [if_pos y1, if_pos (by omega), v3 _ (by omega) (by omega), show (400 : Int) * 0 + (j + n) = j + n by omega]
    · rw [if_neg y1, if_neg (by omega), v3 _ (by omega) (by omega), show (400 : Int) * 0 + j = j by omega]
  · rw [f29, f30, tj_P hD (nx c1 (by decide)) ⟨q0, q1⟩, tj_R hD (nx d1 (by decide)), show (6 : Int) * 0 + j = j by omega, del_o (by decide), del_o (by decide), cls_202, closes_at (by decide), if_pos (by omega)]
    obtain ⟨m1, m2, m3⟩ := v4 j q0 q1
    rw [show (6 : Int) * 0 + j = j by omega] at m1 m2
    refine ⟨by rw [m1], fun h => m2 (fun e => h (by rw [e, dbF_m1 hp.1 hn])), m3⟩
  · exact sto_fr v5 (take_u hs hl hx) f31 (fun i => tj_c (nx e1 (by decide)) (by decide)) (fun k i k0 k1 => by rw [del_o (by omega), closes_at (by omega)]) hlo
/-- a character of the live desk is replaced: its world -/
def d_rp (d p v g x : Int) (w : Mm) : Mm := up (k_step (w 12 d 0) x 3 p 1 g w) 1 (w 28 (w 11 d 0) 0) p v
theorem rp_u (hs : sDk c 10 w d) (hl : lsOk c lo w (w 12 d 0)) (hx : 0 < x ∧ w 0 x 0 = 0) : UPd c (SDb 10 lo) w (d_rp d p v g x w) := by
  unfold d_rp
  refine UPd.sU (stp_u hs hl hx UPd.refl rfl) (by decide) (Or.inr ?_)
  rw [hs.2.1.2.1.2]; unfold SDb; omega
theorem rp_Q (hs : sDk c 10 w d) (hQ : vQs w (w 12 d 0) L) (hx : 0 < x ∧ w 0 x 0 = 0) : vQs (d_rp d p v g x w) (w 12 d 0) (L ++ [x]) := by
  have h2 := k_step_Q (x := x) (k := 3) (p := p) (n := 1) (g := g) hQ hs.2.2.2.1.1 hx.1 hx.2
  have e : ∀ (k : Nat) (a : Int), k ≠ 1 → d_rp d p v g x w k a 0 = k_step (w 12 d 0) x 3 p 1 g w k a 0 := fun k a h1 => by
    unfold d_rp; rw [up_k _ h1]
  exact h2.cg (e _ _ (by decide)) (e _ _ (by decide)) (e _ _ (by decide)) (e _ _ (by decide)) (fun _ _ => ⟨e _ _ (by decide), e _ _ (by decide)⟩) (fun _ _ => e _ _ (by decide))
theorem rp_X : d_rp d p v g x w 0 x 0 = 7 ∧ d_rp d p v g x w 68 x 0 = 3 ∧ d_rp d p v g x w 69 x 0 = p ∧ d_rp d p v g x w 70 x 0 = 1 ∧ d_rp d p v g x w 32 x 0 = g := by
  obtain ⟨h1, h2, h3, h4, h5⟩ := k_step_v (t := w 12 d 0) (x := x) (k := 3) (p := p) (n := 1) (g := g) (w := w)
  unfold d_rp
  rw [up_k _ (by decide), up_k _ (by decide), up_k _ (by decide), up_k _ (by decide), up_k _ (by decide)]
  exact ⟨h1, h2, h3, h4, h5⟩
theorem rp_c {a : Int} (hx : a ≠ x) {c : Nat} (h : c ≠ 1 ∧ c ≠ 33 ∧ c ≠ 34 ∧ c ≠ 35 ∧ c ≠ 71 ∧ c ≠ 72) : d_rp d p v g x w c a i = w c a i := by
  unfold d_rp
  rw [up_k _ h.1, k_step_k hx h.2.1 h.2.2.1 h.2.2.2.1 h.2.2.2.2.1 h.2.2.2.2.2]
theorem rp_1 {a : Int} (hx : a ≠ x) : d_rp d p v g x w 1 a i = if a = w 28 (w 11 d 0) 0 ∧ i = p then v else w 1 a i := by
  unfold d_rp
  by_cases e : a = w 28 (w 11 d 0) 0 ∧ i = p
  · rw [if_pos e, e.1, e.2, up_s]
  · rw [if_neg e, ← k_step_k (t := w 12 d 0) (x := x) (k := 3) (p := p) (n := 1) (g := g) (w := w) (c := 1) (i := i) hx (by decide) (by decide) (by decide) (by decide) (by decide)]
    by_cases e1 : a = w 28 (w 11 d 0) 0
    · rw [← e1]; exact up_i _ _ _ _ _ _ (fun h => e ⟨e1, h⟩)
    · exact up_a _ _ _ e1 _ _ _
theorem rp_S (hs : sDk c 10 w d) (hl : lsOk c lo w (w 12 d 0)) (hlo : 0 ≤ lo) (hv : vSt c w (w 11 d 0) A 0) (hx : 0 < x ∧ w 0 x 0 = 0) : vSt c (d_rp d p v g x w) (w 11 d 0) (m_rep μ p v A) 0 := by
  have hD := hs.ap
  obtain ⟨hd0, ⟨⟨a1, a2⟩, ⟨b1, b2⟩, ⟨c1, c2, c3⟩, ⟨d1, d2, d3⟩, e1, e2, e3⟩, hT, -⟩ := id hs
  have nx : ∀ {a t : Int}, w 0 a 0 = t → t ≠ 0 → a ≠ x := fun h1 h2 e => h2 (by rw [← h1, e]; exact hx.2)
  obtain ⟨⟨v1, v2, v3, v4⟩, v5⟩ := hv
  have f28 : d_rp d p v g x w 28 (w 11 d 0) 0 = w 28 (w 11 d 0) 0 := rp_c (nx a1 (by decide)) (by decide)
  have f29 : d_rp d p v g x w 29 (w 11 d 0) 0 = w 29 (w 11 d 0) 0 := rp_c (nx a1 (by decide)) (by decide)
  have f30 : d_rp d p v g x w 30 (w 11 d 0) 0 = w 30 (w 11 d 0) 0 := rp_c (nx a1 (by decide)) (by decide)
  have f31 : d_rp d p v g x w 31 (w 11 d 0) 0 = w 31 (w 11 d 0) 0 := rp_c (nx a1 (by decide)) (by decide)
  have f67 : d_rp d p v g x w 67 (w 11 d 0) 0 = w 67 (w 11 d 0) 0 := rp_c (nx a1 (by decide)) (by decide)
  have f2 : d_rp d p v g x w 2 (w 28 (w 11 d 0) 0) 0 = w 2 (w 28 (w 11 d 0) 0) 0 := rp_c (nx b1 (by decide)) (by decide)
  refine ⟨⟨?_, ?_, fun j q0 q1 => ?_, fun j q0 q1 => ?_⟩, ?_⟩
  · rw [f67, rep_o (by decide), v1]
  · rw [f28, f67, f2]; exact v2
  · rw [f67] at q1
    rw [f28, rp_1 (nx b1 (by decide)), show (400 : Int) * 0 + j = j by omega, rep_200]
    by_cases y1 : j = p
    · rw [if_pos ⟨rfl, y1⟩, if_pos y1]
    · rw [if_neg (fun h => y1 h.2), if_neg y1, v3 _ (by omega) (by omega), show (400 : Int) * 0 + j = j by omega]
  · rw [f29, f30, rp_1 (nx c1 (by decide)), rp_1 (nx d1 (by decide)), if_neg (fun h => hD.1.1 h.1.symm), if_neg (fun h => hD.1.2.1 h.1.symm), rep_o (by decide), rep_o (by decide)]
    exact v4 j q0 q1
  · exact sto_fr v5 (rp_u hs hl hx) f31 (fun i => rp_c (nx e1 (by decide)) (by decide)) (fun k i k0 k1 => rep_o (by omega)) hlo
end TAK
