/-! states and desks along copies on the reference's side -/
section CPR
variable {c c' : Int → Int} {S : Int → Nat → Prop} {w w' Y V A A' : Mm} {T : Int → Bool} {s s' d o a b i r : Int} {L : List Int}
theorem vTx.cpy (h : vTx w s A b) : vTx w s (m_cpy T a b A) a := by
  obtain ⟨h1, h2, h3, h4⟩ := h
  refine ⟨by rw [cpy_201, if_pos rfl]; exact h1, h2, fun j j0 j1 => ?_, fun j j0 j1 => ?_⟩
  · rw [cpy_200, if_pos (by omega), show 400 * a + j - 400 * a + 400 * b = 400 * b + j by omega]; exact h3 j j0 j1
  · rw [cpy_202, cpy_203, if_pos (by omega), if_pos (by omega), show 6 * a + j - 6 * a + 6 * b = 6 * b + j by omega]; exact h4 j j0 j1
theorem vSr.cpy (h : vSr c w s A b r) (hr : 0 ≤ r ∧ r < 5) (hT : T r = true) (hE : bEl b A) : vSr c w s (m_cpy T a b A) a r := by
  have hm : m_slt r ≤ 4 := by unfold m_slt; split <;> omega
  have e4 : m_cpy T a b A 204 0 (5 * a + r) = A 204 0 (5 * b + r) := by
    rw [cpy_204, if_pos ⟨by omega, by omega, by rw [show 5 * a + r - 5 * a = r by omega]; exact hT⟩]; congr 1; omega
  refine ⟨by rw [e4]; exact h.1, fun e e0 e1 => ?_⟩
  rw [e4]
  refine ⟨fun y => ?_, (h.2 e e0 e1).2⟩
  have hb := hE (20 * b + 4 * r + e) (by omega) (by omega)
  have e5 : m_cpy T a b A 205 0 (20 * a + 4 * r + e) = A 205 0 (20 * b + 4 * r + e) := by
    rw [cpy_205, if_pos ⟨by omega, by omega, by rw [show (20 * a + 4 * r + e - 20 * a) / 4 = r by omega]; exact hT⟩]; congr 1; omega
  obtain ⟨c1, c2, c3, c4⟩ := (h.2 e e0 e1).1 y
  refine ⟨c1, c2, by rw [e5]; exact c3, fun j j0 j1 => ?_⟩
  rw [e5] at j1
  show _ = m_cpy T a b A 206 0 (400 * a + 80 * r + 20 * e + j)
  rw [cpy_206, if_pos ⟨by omega, by omega, by rw [show (400 * a + 80 * r + 20 * e + j - 400 * a) / 80 = r by omega]; exact hT⟩, show 400 * a + 80 * r + 20 * e + j - 400 * a + 400 * b = 400 * b + 80 * r + 20 * e + j by omega]
  exact c4 j j0 j1
theorem vSr.cpn (h : vSr c w s A a r) (hr : 0 ≤ r ∧ r < 5) (hT : T r = false) (hE : bEl a A) : vSr c w s (m_cpy T a b A) a r := by
  have hm : m_slt r ≤ 4 := by unfold m_slt; split <;> omega
  have nt : ∀ {x : Int}, x = r → ¬ T x = true := fun z => by rw [z, hT]; exact Bool.false_ne_true
  have e4 : m_cpy T a b A 204 0 (5 * a + r) = A 204 0 (5 * a + r) := by
    rw [cpy_204, if_neg (fun z => nt (by omega) z.2.2)]
  refine ⟨by rw [e4]; exact h.1, fun e e0 e1 => ?_⟩
  rw [e4]
  refine ⟨fun y => ?_, (h.2 e e0 e1).2⟩
  have hb := hE (20 * a + 4 * r + e) (by omega) (by omega)
  have e5 : m_cpy T a b A 205 0 (20 * a + 4 * r + e) = A 205 0 (20 * a + 4 * r + e) := by
    rw [cpy_205, if_neg (fun z => nt (by omega) z.2.2)]
  obtain ⟨c1, c2, c3, c4⟩ := (h.2 e e0 e1).1 y
  refine ⟨c1, c2, by rw [e5]; exact c3, fun j j0 j1 => ?_⟩
  rw [e5] at j1
  show _ = m_cpy T a b A 206 0 (400 * a + 80 * r + 20 * e + j)
  rw [cpy_206, if_neg (fun z => nt (by omega) z.2.2)]
  exact c4 j j0 j1
/-- entries that lie elsewhere now -/
theorem vSr.mv (h : vSr c w s' V i r) (u : UPd c S w w') (h0 : ∀ k : Nat, ¬ S 0 k) (e : ∀ e, 0 ≤ e → e < m_slt r → w' 3 (w' 31 s 0) (r + e) = w 3 (w 31 s' 0) (r + e)) : vSr c w' s V i r :=
  ⟨h.1, fun x x0 x1 => by rw [e x x0 x1]; exact ⟨fun y => ((h.2 x x0 x1).1 y).fr u CXt.refl h0, (h.2 x x0 x1).2⟩⟩
/-- a desk but for its stores -/
def vDp (w : Mm) (d : Int) (V : Mm) (i : Int) : Prop := vTx w (w 11 d 0) V i ∧ w 61 d 0 = V 207 0 i ∧ w 60 d 0 = V 210 0 i ∧ ∀ j, 0 ≤ j → j < w 60 d 0 → w 1 (w 13 d 0) j = V 208 0 (4 * i + j) ∧ w 1 (w 14 d 0) j = V 209 0 (4 * i + j)
theorem vDp.cpy (h : vDp w d A b) (hB : bDk w d) : vDp w d (m_cpy T a b A) a := by
  obtain ⟨h1, h2, h3, h4⟩ := h
  refine ⟨h1.cpy, by rw [cpy_207, if_pos rfl]; exact h2, by rw [cpy_210, if_pos rfl]; exact h3, fun j j0 j1 => ?_⟩
  have := hB.1
  rw [cpy_208, cpy_209, if_pos (by omega), if_pos (by omega), show 4 * a + j - 4 * a + 4 * b = 4 * b + j by omega]; exact h4 j j0 j1
theorem vDp.cg (h : vDp w d V i) (e : ∀ (k : Nat) (j : Int), 200 ≤ k → k ≤ 210 → A' k 0 j = V k 0 j) : vDp w d A' i := by
  obtain ⟨⟨h1, h2, h3, h4⟩, h5, h6, h7⟩ := h
  refine ⟨⟨by rw [e _ _ (by decide) (by decide)]; exact h1, h2, fun j j0 j1 => by rw [e _ _ (by decide) (by decide)]; exact h3 j j0 j1, fun j j0 j1 => by rw [e _ _ (by decide) (by decide), e _ _ (by decide) (by decide)]; exact h4 j j0 j1⟩, by rw [e _ _ (by decide) (by decide)]; exact h5, by rw [e _ _ (by decide) (by decide)]; exact h6, fun j j0 j1 => by rw [e _ _ (by decide) (by decide), e _ _ (by decide) (by decide)]; exact h7 j j0 j1⟩
theorem vSr.cg (h : vSr c w s V i r) (e : ∀ (k : Nat) (j : Int), 200 ≤ k → k ≤ 210 → A' k 0 j = V k 0 j) : vSr c w s A' i r := by
  refine ⟨by rw [e _ _ (by decide) (by decide)]; exact h.1, fun x x0 x1 => ?_⟩
  rw [e 204 _ (by decide) (by decide), e 205 _ (by decide) (by decide)]
  simp only [e 206 _ (by decide) (by decide)]
  exact h.2 x x0 x1
/-- the references of both desks stay -/
theorem tkY.rf (h : tkS d o w Y) (x : Int) : tkY d o w Y 11 x 0 = w 11 x 0 ∧ tkY d o w Y 12 x 0 = w 12 x 0 ∧ tkY d o w Y 13 x 0 = w 13 x 0 ∧ tkY d o w Y 14 x 0 = w 14 x 0 ∧ tkY d o w Y 28 x 0 = w 28 x 0 ∧ tkY d o w Y 29 x 0 = w 29 x 0 ∧ tkY d o w Y 30 x 0 = w 30 x 0 ∧ tkY d o w Y 31 x 0 = w 31 x 0 ∧ tkY d o w Y 2 x 0 = w 2 x 0 ∧ tkY d o w Y 0 x 0 = w 0 x 0 := by
  have e : ∀ {k : Nat}, k = 0 ∨ k = 2 ∨ (11 ≤ k ∧ k ≤ 14) ∨ (28 ≤ k ∧ k ≤ 31) → tkY d o w Y k x 0 = w k x 0 := fun z => tkY_k h (by omega) (by omega) (by omega) (by omega) (by omega) (by omega) (by omega) (by omega) (by omega) (by omega)
  exact ⟨e (by decide), e (by decide), e (by decide), e (by decide), e (by decide), e (by decide), e (by decide), e (by decide), e (by decide), e (by decide)⟩
/-- the desk that took over: all but its stores -/
theorem tkY.vDp {b' : Int} (h : tkS d o w Y) (hd : sDk c b w d) (ho : sDk c b' w o) (hb : b + 8 < b' ∨ b' + 8 < b) (hv : vDp w o V i) (hB : bDk w o) : vDp (tkY d o w Y) d V i ∧ bDk (tkY d o w Y) d := by
  obtain ⟨⟨h1, h2, h3, h4⟩, h5, h6, h7⟩ := hv
  obtain ⟨p1, p2, p3⟩ := tkY.pl h hd ho hb
  obtain ⟨q1, q2, q3, -⟩ := tkY.st h hd ho hb
  obtain ⟨r11, -, r13, r14, -⟩ := tkY.rf h d
  obtain ⟨-, -, -, -, s28, s29, s30, -⟩ := tkY.rf h (w 11 d 0)
  have r2 := (tkY.rf h (w 28 (w 11 d 0) 0)).2.2.2.2.2.2.2.2.1
  have hT := hd.2.2.1
  obtain ⟨B1, B2, B3, B4⟩ := hB
  constructor
  · refine ⟨⟨?_, ?_, fun j j0 j1 => ?_, fun j j0 j1 => ?_⟩, p2.trans h5, p1.trans h6, fun j j0 j1 => ?_⟩
    · rw [r11, q1]; exact h1
    · rw [r11, q1, s28, r2, hT]; omega
    · rw [r11, q1] at j1
      rw [r11, s28, q2 j j0 j1]; exact h3 j j0 j1
    · rw [r11, s29, s30, (q3 j j0 j1).1, (q3 j j0 j1).2]; exact h4 j j0 j1
    · rw [p1] at j1
      rw [r13, r14, (p3 j j0 (by omega)).1, (p3 j j0 (by omega)).2]; exact h7 j j0 j1
  · refine ⟨by rw [p1]; exact B1, by rw [p2]; exact B2, by rw [r11, q1]; exact B3, fun j j0 j1 => ?_⟩
    rw [r13, r14, (p3 j j0 j1).1, (p3 j j0 j1).2]; exact B4 j j0 j1
end CPR
/-- what a desk's chain names, whatever its steps are linked to -/
def vQp (w : Mm) (t : Int) (L : List Int) : Prop := w 34 t 0 = L.headD 0 ∧ vQc w t L
section VQP
variable {c c' : Int → Int} {S : Int → Nat → Prop} {w w' Y : Mm} {d o b t e p y : Int} {L M : List Int}
theorem CHa.hd (h : CHa w p L 0) : p = L.headD 0 := by
  cases L with
  | nil => exact h
  | cons x xs => exact h.1.1
theorem vQs.toQp (h : vQs w t L) : vQp w t L := ⟨h.1.hd, h.2⟩
theorem CHa.hd2 (h : CHa w p (L ++ M) 0) (hL : L ≠ []) : p = L.headD 0 := by
  cases L with
  | nil => exact absurd rfl hL
  | cons x xs => exact h.1.1
theorem CHa.lst (h : CHa w p (M ++ [y]) e) : w 33 y 0 = e ∧ y ≠ 0 := by
  obtain ⟨q, -, h2⟩ := CHa.spl h
  obtain ⟨⟨h3, h4⟩, h5⟩ := h2
  exact ⟨h5, h4⟩
/-- cut off behind its last step -/
theorem CHa.cut : ∀ {M : List Int} {p e : Int}, CHa w p (M ++ [y]) e → y ∉ M → (∀ a, w' 33 a 0 = if a = y then 0 else w 33 a 0) → CHa w' p (M ++ [y]) 0
  | [], p, e, h, _, hw => by
    obtain ⟨h1, h2⟩ := h
    exact ⟨h1, by show w' 33 y 0 = 0; rw [hw, if_pos rfl]⟩
  | x :: xs, p, e, h, hy, hw => by
    obtain ⟨h1, h2⟩ := h
    have hx : x ≠ y := fun e => hy (by rw [e]; exact List.mem_cons_self)
    refine ⟨h1, ?_⟩
    rw [hw, if_neg hx]
    exact CHa.cut h2 (fun z => hy (List.mem_cons_of_mem _ z)) hw
/-- the chain that was taken over is whole -/
theorem tkY.vQs (h : tkS d o w Y) (hn : w 12 d 0 ≠ w 12 o 0) (hq : vQp w (w 12 o 0) L) (hch : ∃ p, (L ≠ [] → p = L.headD 0) ∧ CHa w p (L ++ M) 0) (hnd : L.Nodup) : vQs (tkY d o w Y) (w 12 d 0) L := by
  obtain ⟨q1, q2, q3, q4, q5⟩ := tkY.ch h hn
  obtain ⟨h1, h2, h3, h4, h5⟩ := hq
  have e68 : ∀ x, tkY d o w Y 68 x 0 = w 68 x 0 := fun x => tkY_k h (by decide) (by decide) (by decide) (by decide) (by decide) (by decide) (by decide) (by decide) (by decide) (by decide)
  have e0 : ∀ x, tkY d o w Y 0 x 0 = w 0 x 0 := fun x => (tkY.rf h x).2.2.2.2.2.2.2.2.2
  refine ⟨?_, by rw [q2]; exact h2, by rw [q3]; exact h3, by rw [q4, tcA_cg (fun x _ => e68 x)]; exact h4, fun x hx => by rw [e0]; exact h5 x hx⟩
  rw [q1, h1]
  rcases lst_or L with rfl | ⟨N, y, rfl⟩
  · rfl
  · obtain ⟨p, hp, hc⟩ := hch
    rw [← hp (by simp)]
    obtain ⟨e, hc1, -⟩ := CHa.spl hc
    have hl := hc1.lst
    rw [lsA_app] at h2
    have hy : y ∉ N := fun z => (List.nodup_append.mp hnd).2.2 y z y (by simp) rfl
    exact hc1.cut hy (fun a => by
      rw [q5, h2]
      by_cases z : a = y
      · rw [if_pos ⟨hl.2, z⟩, if_pos z]
      · rw [if_neg (fun q => z q.2), if_neg z])
end VQP
