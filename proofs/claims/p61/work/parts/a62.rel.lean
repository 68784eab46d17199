/-! the relation without the tree: frames where tree, desks and the editor's numbers change; codes of one kind are others; chains joined -/
def RLn (c σ : Int → Int) (G : Int → Int → Int) (μ : MU) (f : Int) (L : List Int) (w A : Mm) : Prop :=
  (∀ a, w 0 a 0 = 0 → c a = 0) ∧ (vSc c μ w A f ∧ rDk c w f) ∧ (vMs c w A f ∧ sTl c w f ∧ vTs c w (w 47 f 0) ∧ vLs c w A (w 46 f 0)) ∧ rLv c μ w A f L ∧ ∀ k, 0 ≤ k → k < A 120 μ.1 0 → vSp c σ G w A k
def STe (b : Int) (k : Nat) : Prop := (10 ≤ b ∧ b ≤ 38) ∨ (41 ≤ b ∧ b ≤ 44) ∨ 1000 ≤ b ∨ (b < 0 ∧ k = 33) ∨ (b = 1 ∧ 86 ≤ k ∧ k ≤ 91)
def AgL (A A' : Mm) : Prop := ∀ (c : Nat) (i : Int), (228 ≤ c ∧ c ≤ 232) ∨ c = 235 ∨ c = 236 → A' c 0 i = A c 0 i
def RCb (w : Mm) (c c' : Int → Int) (e : Int) : Prop := ∀ a, w 0 a 0 ≠ 0 → c a ≠ e → c' a = c a
/-- of what was there tags, lengths and the reference stay -/
def UPT (w w' : Mm) : Prop := (∀ (k : Nat) (a i : Int), w 0 a 0 ≠ 0 → (k = 0 ∨ k = 2 ∨ 120 ≤ k) → w' k a i = w k a i) ∧ ∀ (k : Nat) (i : Int), 120 ≤ k → w' k 0 i = w k 0 i
theorem UPT.refl {w : Mm} : UPT w w := ⟨fun _ _ _ _ _ => rfl, fun _ _ _ => rfl⟩
theorem UPT.trans {w w1 w2 : Mm} (h : UPT w w1) (g : UPT w1 w2) : UPT w w2 := ⟨fun k a i h0 hk => by rw [g.1 k a i (by rw [h.1 0 a 0 h0 (Or.inl rfl)]; exact h0) hk, h.1 k a i h0 hk], fun k i hk => by rw [g.2 k i hk, h.2 k i hk]⟩
theorem UPd.toT {c : Int → Int} {S : Int → Nat → Prop} {w w' : Mm} (u : UPd c S w w') : UPT w w' := ⟨u.2.1, u.2.2⟩
/-- the editor's own objects and its trial stay, too -/
def UPE (f : Int) (w w' : Mm) : Prop := UPT w w' ∧ (∀ k : Nat, k < 86 ∨ k = 91 → w' k f 0 = w k f 0) ∧ ∀ k : Nat, w' k (w 50 f 0) 0 = w k (w 50 f 0) 0
theorem UPE.refl {f : Int} {w : Mm} : UPE f w w := ⟨UPT.refl, fun _ _ => rfl, fun _ => rfl⟩
theorem UPE.trans {f : Int} {w w1 w2 : Mm} (h : UPE f w w1) (g : UPE f w1 w2) : UPE f w w2 := ⟨h.1.trans g.1, fun k hk => by rw [g.2.1 k hk, h.2.1 k hk], fun k => by
  have e := g.2.2 k
  rw [h.2.1 50 (by decide)] at e
  rw [e, h.2.2 k]⟩
section RLN
variable {p : RP} {c c' σ : Int → Int} {G : Int → Int → Int} {S : Int → Nat → Prop} {w w' A A' V : Mm} {μ : MU} {f q b e i r k m s d n g t o z x y v : Int} {L L' M : List Int} {h1 : Int → Int}
theorem RLm.spl : RLm p μ f L w A ↔ RLn (pc_ p) (ps_ p) (pg_ p) μ f L w A ∧ rTr p μ w A f :=
  ⟨fun ⟨⟨a1, a2, a3, a4, a5, a6, a7⟩, b, c, d⟩ => ⟨⟨a1, ⟨a2, a3⟩, ⟨a5, a6, a7, b⟩, c, d⟩, a4⟩, fun ⟨⟨a1, ⟨a2, a3⟩, ⟨a5, a6, a7, b⟩, c, d⟩, a4⟩ => ⟨⟨a1, a2, a3, a4, a5, a6, a7⟩, b, c, d⟩⟩
theorem UPd.toE (u : UPd c S w w') (hf : w 0 f 0 = 13 ∧ c f = 1) (ht : sTl c w f) (h1 : ∀ k : Nat, k < 86 ∨ k = 91 → ¬ S 1 k) (h86 : ∀ k, ¬ S 86 k) : UPE f w w' :=
  ⟨u.toT, fun k hk => u.g (by omega) hf.2 (h1 k hk), fun k => u.g (by have := ht.1; omega) ht.2 (h86 k)⟩
theorem STe.no {b' : Int} {k' : Nat} (hS : ∀ b k, S b k → STe b k) (h : ¬ STe b' k') : ¬ S b' k' := fun x => h (hS _ _ x)
theorem STe.nb {b' : Int} (hS : ∀ b k, S b k → STe b k) (h : b' = 0 ∨ (1 < b' ∧ b' < 10) ∨ b' = 39 ∨ b' = 40 ∨ (44 < b' ∧ b' < 1000)) (k' : Nat) : ¬ S b' k' := STe.no hS (by unfold STe; omega)
theorem ed_fre (hf : w 0 f 0 = 13 ∧ c f = 1) (u : UPd c S w w') (hS : ∀ b k, S b k → STe b k) {k : Nat} (hk : k < 86 ∨ 91 < k) {i : Int} : w' k f i = w k f i :=
  u.g (by omega) hf.2 (STe.no hS (by unfold STe; omega))
theorem vMc.frn (h : vMc c b w A q m) (u : UPd c S w w') (hc : CXt w c c') (hs : ∀ (b' : Int) (k : Nat), b ≤ b' → b' ≤ b + 3 → ¬ S b' k) (hA : AgL A A') : vMc c' b w' A' q m := by
  obtain ⟨⟨h1, h2⟩, h3, h4⟩ := h
  obtain ⟨k1, f1, f2, f3, f4⟩ := h1.fr h2 u hs
  obtain ⟨h5, ⟨h6, h7, h8⟩, -⟩ := h1
  obtain ⟨x0, x1, x2, x3⟩ := h2
  refine ⟨⟨k1, (hc _ (by omega)).trans x0, ?_, ?_, ?_⟩, ?_, fun k k0 k1 => ?_⟩
  · rw [f1]; exact (hc _ (by omega)).trans x1
  · rw [f2]; exact (hc _ (by omega)).trans x2
  · rw [f3]; exact (hc _ (by omega)).trans x3
  · rw [f4, hA 236 m (by omega)]; exact h3
  · rw [f1, f2, f3, hA 235 _ (by omega), hA 235 _ (by omega), hA 235 _ (by omega), u.g (by omega) x1 (hs _ 1 (by omega) (by omega)), u.g (by omega) x2 (hs _ 1 (by omega) (by omega)), u.g (by omega) x3 (hs _ 1 (by omega) (by omega))]
    exact h4 k k0 (by omega)
theorem vMs.frn (h : vMs c w A f) (hf : w 0 f 0 = 13 ∧ c f = 1) (u : UPd c S w w') (hc : CXt w c c') (hS : ∀ b k, S b k → STe b k) (hA : AgL A A') : vMs c' w' A' f := by
  obtain ⟨⟨h1, h2, h3⟩, h4, h5⟩ := h
  have f1 : w' 48 f 0 = w 48 f 0 := ed_fre hf u hS (by decide)
  have f2 : w' 49 f 0 = w 49 f 0 := ed_fre hf u hS (by decide)
  refine ⟨?_, fun m m0 m1 => ?_, ?_⟩
  · rw [f1]; exact ⟨u.tag h1 (by decide), (u.t (by omega) (by decide)).trans h2, (hc _ (by omega)).trans h3⟩
  · rw [f1, u.g (by omega) h3 (STe.nb hS (by omega) _)]
    exact (h4 m m0 m1).frn u hc (fun b' k _ _ => STe.nb hS (by omega) k) hA
  · rw [f2]; exact h5.frn u hc (fun b' k _ _ => STe.nb hS (by omega) k) hA
theorem vTs.frn (h : vTs c w q) (u : UPd c S w w') (hc : CXt w c c') (hS : ∀ b k, S b k → STe b k) : vTs c' w' q := by
  obtain ⟨⟨a1, a2⟩, ⟨b1, b2, b3⟩, h3, h4⟩ := h
  have f1 : w' 37 q 0 = w 37 q 0 := u.g (by omega) a2 (STe.nb hS (by omega) _)
  refine ⟨⟨u.tag a1 (by decide), (hc _ (by omega)).trans a2⟩, ?_, fun i i0 i1 => ?_, ?_⟩
  · rw [f1]; exact ⟨u.tag b1 (by decide), (u.t (by omega) (by decide)).trans b2, (hc _ (by omega)).trans b3⟩
  · rw [f1, u.g (by omega) b3 (STe.nb hS (by omega) _)]
    exact ⟨u.tag (h3 i i0 i1).1 (by decide), (hc _ (by have := (h3 i i0 i1).1; omega)).trans (h3 i i0 i1).2⟩
  · rw [u.g (by omega) a2 (STe.nb hS (by omega) _)]; exact h4
theorem sTl.frn (h : sTl c w f) (hf : w 0 f 0 = 13 ∧ c f = 1) (u : UPd c S w w') (hc : CXt w c c') (hS : ∀ b k, S b k → STe b k) : sTl c' w' f ∧ w' 50 f 0 = w 50 f 0 := by
  have f1 : w' 50 f 0 = w 50 f 0 := ed_fre hf u hS (by decide)
  refine ⟨?_, f1⟩
  unfold sTl; rw [f1]; exact ⟨u.tag h.1 (by decide), (hc _ (by have := h.1; omega)).trans h.2⟩
/-- the editor's numbers where neither they nor what is tracked change -/
theorem vSc.frn (h : vSc c μ w A f) (u : UPd c S w w') (hc : CXt w c c') (hS : ∀ k, k ≠ 91 → ¬ S 1 k) (h40 : ∀ k, ¬ S 40 k) (hA : ∀ c : Nat, 129 ≤ c → c ≤ 133 → A' c μ.1 0 = A c μ.1 0) (hA2 : ∀ i, A' 211 0 i = A 211 0 i) : vSc c' μ w' A' f := by
  obtain ⟨hf, ⟨h1, h2, h3⟩, h4, h5, h6, h7, h8, h9⟩ := h
  have g : ∀ {k : Nat}, k ≠ 91 → w' k f 0 = w k f 0 := fun hk => u.g (by omega) hf.2 (hS _ hk)
  refine ⟨⟨u.tag hf.1 (by decide), (hc _ (by omega)).trans hf.2⟩, ?_, fun j j0 j1 => ?_, ?_, ?_, ?_, ?_, ?_⟩
  · rw [g (by decide)]; exact ⟨u.tag h1 (by decide), (u.t (by omega) (by decide)).trans h2, (hc _ (by omega)).trans h3⟩
  · rw [g (by decide), u.g (by omega) h3 (h40 _), hA2 j]; exact h4 j j0 j1
  · rw [g (by decide), hA _ (by decide) (by decide)]; exact h5
  · rw [g (by decide), hA _ (by decide) (by decide)]; exact h6
  · rw [g (by decide), hA _ (by decide) (by decide)]; exact h7
  · rw [g (by decide), hA _ (by decide) (by decide)]; exact h8
  · rw [g (by decide), hA _ (by decide) (by decide)]; exact h9
theorem rDk.frn (h : rDk c w f) (hf : w 0 f 0 = 13 ∧ c f = 1) (u : UPd c S w w') (hc : CXt w c c') (hS : ∀ k, (41 ≤ k ∧ k ≤ 43) → ¬ S 1 k) (hD : ∀ (b : Int) (k : Nat), 10 ≤ b → b ≤ 38 → b ≠ 16 → ¬ S b k) : rDk c' w' f := by
  obtain ⟨⟨a1, a2⟩, ⟨b1, b2⟩, c1, c2⟩ := h
  have g : ∀ {k : Nat}, (41 ≤ k ∧ k ≤ 43) → w' k f 0 = w k f 0 := fun hk => u.g (by omega) hf.2 (hS _ hk)
  unfold rDk
  rw [g (by decide), g (by decide), g (by decide)]
  exact ⟨⟨(a1.fr u hc (fun k x y => ⟨hD _ _ (by omega) (by omega) (by omega), hD _ _ (by omega) (by omega) (by omega)⟩)).1, a2.fr a1 u (fun b' k x y z => hD _ _ (by omega) (by omega) (by omega))⟩, ⟨(b1.fr u hc (fun k x y => ⟨hD _ _ (by omega) (by omega) (by omega), hD _ _ (by omega) (by omega) (by omega)⟩)).1, b2.fr b1 u (fun b' k x y z => hD _ _ (by omega) (by omega) (by omega))⟩, ⟨(c1.fr u hc (fun k x y => ⟨hD _ _ (by omega) (by omega) (by omega), hD _ _ (by omega) (by omega) (by omega)⟩)).1, c2.fr c1 u (fun b' k x y z => hD _ _ (by omega) (by omega) (by omega))⟩⟩
theorem rLv.frn (h : rLv c μ w A f L) (hd : sDk c 10 w (w 41 f 0)) (hf : w 0 f 0 = 13 ∧ c f = 1) (u : UPd c S w w') (hc : CXt w c c') (hS : ¬ S 1 41) (hD : ∀ (b : Int) (k : Nat), 10 ≤ b → b ≤ 18 → ¬ S b k) (h0 : ∀ k, ¬ S 0 k) (hx : ∀ (b : Int) (k : Nat), b ≤ -(A 122 μ.1 0 + 1) → ¬ S b k) (e122 : A' 122 μ.1 0 = A 122 μ.1 0) (hV2 : ∀ (k : Nat) (j : Int), 200 ≤ k → k ≤ 210 → A' k 0 j = A k 0 j) : rLv c' μ w' A' f L := by
  obtain ⟨hV, hQ, hLc⟩ := h
  have g41 : w' 41 f 0 = w 41 f 0 := u.g (by omega) hf.2 hS
  have e12 : w' 12 (w 41 f 0) 0 = w 12 (w 41 f 0) 0 := u.g (by have := hd.1.1; omega) hd.1.2 (hD _ _ (by omega) (by omega))
  have g16 : ∀ k : Nat, w' k (w 12 (w 41 f 0) 0) 0 = w k (w 12 (w 41 f 0) 0) 0 := fun k => u.g (by have := hd.2.2.2.1.1; omega) hd.2.2.2.1.2 (hD _ _ (by omega) (by omega))
  have gL : ∀ (k : Nat), ∀ x ∈ L, w' k x 0 = w k x 0 := fun k x hx' => u.1 k x 0 (by have := hQ.2.2.2.2 x hx'; omega) (hx _ _ (hLc x hx'))
  unfold rLv
  rw [g41, e12]
  refine ⟨(hV.fr hd u hc (fun b' k _ _ _ => hD _ _ (by omega) (by omega)) h0).cgV hV2, hQ.cg (g16 _) (g16 _) (g16 _) (g16 _) (fun x hx => ⟨gL 0 x hx, gL 68 x hx⟩) (gL 33), fun y hy => ?_⟩
  rw [e122, hc y (by have := hQ.2.2.2.2 y hy; omega)]
  exact hLc y hy
theorem RLn.fr (h : RLn c σ G μ f L w A) (u : UPd c S w w') (hc : CXt w c c') (hS : ∀ b k, S b k → STe b k) (c0 : ∀ a, w' 0 a 0 = 0 → c' a = 0) (hA : AgL A A') (e120 : A' 120 μ.1 0 = A 120 μ.1 0) (h212 : ∀ k, 0 ≤ k → k < A 120 μ.1 0 → A' 212 0 k = A 212 0 k) (hs : vSc c' μ w' A' f) (hD : rDk c' w' f) (hLv : rLv c' μ w' A' f L') : RLn c' σ G μ f L' w' A' := by
  obtain ⟨-, ⟨h1, -⟩, ⟨h3, h4, h5, h6⟩, -, h8⟩ := h
  have hf := h1.1
  refine ⟨c0, ⟨hs, hD⟩, ⟨h3.frn hf u hc hS hA, (h4.frn hf u hc hS).1, ?_, ?_⟩, hLv, fun k k0 k1 => ?_⟩
  · rw [ed_fre hf u hS (by decide)]; exact h5.frn u hc hS
  · rw [ed_fre hf u hS (by decide)]; exact h6.gn u hc (fun b' k hb => STe.nb hS (by omega) k) (fun c i hc => hA c i (by omega)) (fun i => hA 232 i (by omega))
  · rw [e120] at k1
    exact (h8 k k0 k1).fr u hc (fun y hy => STe.no hS (by unfold STe; omega)) (STe.nb hS (by omega)) (h212 k k0 k1)
theorem vCh.rc {F : Int → Int} (h : vCh c w g n F) (k : RCb w c c' e) (he : 1000 ≤ e) : vCh c' w g n F := by
  obtain ⟨⟨a1, a2⟩, ⟨b1, b2⟩, h3, h4⟩ := h
  exact ⟨⟨a1, (k _ (by omega) (by omega)).trans a2⟩, ⟨b1, (k _ (by omega) (by omega)).trans b2⟩, h3, h4⟩
theorem sSt.rc (h : sSt c b w s) (k : RCb w c c' e) (he : e < b ∨ b + 4 < e) : sSt c' b w s := by
  obtain ⟨⟨a1, a2⟩, ⟨b1, b2⟩, ⟨c1, c2, c3⟩, ⟨d1, d2, d3⟩, e1, e2, e3⟩ := h
  exact ⟨⟨a1, (k _ (by omega) (by omega)).trans a2⟩, ⟨b1, (k _ (by omega) (by omega)).trans b2⟩, ⟨c1, c2, (k _ (by omega) (by omega)).trans c3⟩, ⟨d1, d2, (k _ (by omega) (by omega)).trans d3⟩, e1, e2, (k _ (by omega) (by omega)).trans e3⟩
theorem vSt.rc (h : vSt c w s V i) (k : RCb w c c' e) (he : 1000 ≤ e) : vSt c' w s V i := ⟨h.1, fun r r0 r1 => ⟨(h.2 r r0 r1).1, fun e e0 e1 => ⟨fun y => (((h.2 r r0 r1).2 e e0 e1).1 y).rc k he, ((h.2 r r0 r1).2 e e0 e1).2⟩⟩⟩
theorem sDk.rc (h : sDk c b w d) (k : RCb w c c' e) (he : 1000 ≤ e) (hb : b + 8 < 1000) : sDk c' b w d := by
  obtain ⟨⟨a1, a2⟩, hS, h2, ⟨b1, b2⟩, ⟨c1, c2, c3⟩, d1, d2, d3⟩ := h
  exact ⟨⟨a1, (k _ (by omega) (by omega)).trans a2⟩, hS.rc k (by omega), h2, ⟨b1, (k _ (by omega) (by omega)).trans b2⟩, ⟨c1, c2, (k _ (by omega) (by omega)).trans c3⟩, d1, d2, (k _ (by omega) (by omega)).trans d3⟩
theorem vMc.rc (h : vMc c b w A q m) (k : RCb w c c' e) (he : 1000 ≤ e) (hb : b + 3 < 1000) : vMc c' b w A q m := by
  obtain ⟨⟨h1, x0, x1, x2, x3⟩, h3, h4⟩ := h
  obtain ⟨t1, ⟨t2, t3, t4⟩, -⟩ := id h1
  exact ⟨⟨h1, (k _ (by omega) (by omega)).trans x0, (k _ (by omega) (by omega)).trans x1, (k _ (by omega) (by omega)).trans x2, (k _ (by omega) (by omega)).trans x3⟩, h3, h4⟩
/-- codes of kind e are others -/
theorem RLn.rc (h : RLn c σ G μ f L w A) (hl : 0 ≤ A 122 μ.1 0) (k : RCb w c c' e) (he : 1000 ≤ e) (c0 : ∀ a, w 0 a 0 = 0 → c' a = 0) : RLn c' σ G μ f L w A := by
  obtain ⟨-, ⟨⟨hf, ⟨h1, h2, h3⟩, hs⟩, ⟨a1, a2⟩, ⟨b1, b2⟩, d1, d2⟩, ⟨⟨⟨m1, m2, m3⟩, m4, m5⟩, t1, ⟨⟨q1, q2⟩, ⟨q3, q4, q5⟩, q6, q7⟩, ⟨⟨l1, l2, l3, l4, l5, l6, l7, l8⟩, l9⟩⟩, ⟨v1, v2, v3⟩, h8⟩ := h
  refine ⟨c0, ⟨⟨⟨hf.1, (k _ (by omega) (by omega)).trans hf.2⟩, ⟨h1, h2, (k _ (by omega) (by omega)).trans h3⟩, hs⟩, ⟨a1.rc k he (by omega), a2⟩, ⟨b1.rc k he (by omega), b2⟩, d1.rc k he (by omega), d2⟩, ⟨⟨⟨m1, m2, (k _ (by omega) (by omega)).trans m3⟩, fun m m0 m1 => (m4 m m0 m1).rc k he (by omega), m5.rc k he (by omega)⟩, ⟨t1.1, (k _ (by have := t1.1; omega) (by have := t1.2; omega)).trans t1.2⟩, ⟨⟨q1, (k _ (by omega) (by omega)).trans q2⟩, ⟨q3, q4, (k _ (by omega) (by omega)).trans q5⟩, fun i i0 i1 => ⟨(q6 i i0 i1).1, (k _ (by have := (q6 i i0 i1).1; omega) (by have := (q6 i i0 i1).2; omega)).trans (q6 i i0 i1).2⟩, q7⟩, ⟨⟨l1, ?_⟩, l9⟩⟩, ⟨⟨v1.1.rc k he, v1.2⟩, v2, fun y hy => ?_⟩, fun j j0 j1 => ?_⟩
  · obtain ⟨t1, ⟨t2, t3, t4, t5, t6, t7⟩, -⟩ := id l1
    exact ⟨(k _ (by omega) (by omega)).trans l2, (k _ (by omega) (by omega)).trans l3, (k _ (by omega) (by omega)).trans l4, (k _ (by omega) (by omega)).trans l5, (k _ (by omega) (by omega)).trans l6, (k _ (by omega) (by omega)).trans l7, (k _ (by omega) (by omega)).trans l8⟩
  · have hy2 := v3 y hy
    rw [k y (by have := v2.2.2.2.2 y hy; omega) (by omega)]; exact hy2
  · obtain ⟨⟨s1, s2⟩, s3, s4, s5, s6⟩ := h8 j j0 j1
    exact ⟨⟨s1, (k _ (by omega) (by omega)).trans s2⟩, s3, s4, s5, fun z => (s6 z).rc k he⟩
end RLN
section QJN
variable {w w' : Mm} {t o y e e' p : Int} {L M : List Int}
theorem CHa.lnk : ∀ {M : List Int} {p e : Int}, CHa w p (M ++ [y]) e → y ∉ M → (∀ a, w' 33 a 0 = if a = y then e' else w 33 a 0) → CHa w' p (M ++ [y]) e'
  | [], p, e, h, _, hw => by
    obtain ⟨h1, h2⟩ := h
    exact ⟨h1, by rw [hw, if_pos rfl]; rfl⟩
  | x :: xs, p, e, h, hy, hw => by
    have hxy : x ≠ y := fun z => hy (by rw [z]; exact List.mem_cons_self)
    exact ⟨h.1, by rw [hw, if_neg hxy]; exact CHa.lnk h.2 (fun z => hy (List.mem_cons_of_mem _ z)) hw⟩
theorem q_join_Q (hs : vQs w t L) (ho : vQs w o M) (hM : ∀ z ∈ M, z ∉ L) : vQs (q_join t o w) t (L ++ M) := by
  obtain ⟨s1, s2, s3, s4, s5⟩ := hs
  obtain ⟨o1, o2, o3, o4, o5⟩ := ho
  unfold q_join
  by_cases c0 : w 34 o 0 = 0
  · rw [if_pos c0]
    have hm : M = [] := by
      cases M with
      | nil => rfl
      | cons x xs => exact absurd c0 (by rw [o1.1.1]; exact o1.1.2)
    subst hm
    rw [List.append_nil]; exact ⟨s1, s2, s3, s4, s5⟩
  · rw [if_neg c0]
    have hm : M ≠ [] := fun z => c0 (by rw [z] at o1; exact o1)
    have fin : ∀ W1 : Mm, (∀ (k : Nat) (a : Int), k ≠ 33 → k ≠ 34 → W1 k a 0 = w k a 0) → CHa W1 (W1 34 t 0) (L ++ M) 0 → vQs (up (up (up W1 35 t 0 (w 35 o 0)) 71 t 0 (w 71 t 0 + w 71 o 0)) 72 t 0 (w 72 t 0 + w 72 o 0)) t (L ++ M) := fun W1 e1 e2 => by
      refine ⟨?_, ?_, ?_, ?_, fun x hx => ?_⟩
      · rw [up_k _ (by decide), up_k _ (by decide), up_k _ (by decide)]
        exact CHa.cg e2 (fun x _ => by rw [up_k _ (by decide), up_k _ (by decide), up_k _ (by decide)])
      · rw [up_k _ (by decide), up_k _ (by decide), up_s, lsA_app2 hm]; exact o2
      · rw [up_k _ (by decide), up_s, List.length_append, s3, o3]; omega
      · rw [up_s, tcA_app, s4, o4]
        congr 1
        · exact (tcA_cg fun x _ => by rw [up_k _ (by decide), up_k _ (by decide), up_k _ (by decide)]; exact e1 _ _ (by decide) (by decide)).symm
        · exact (tcA_cg fun x _ => by rw [up_k _ (by decide), up_k _ (by decide), up_k _ (by decide)]; exact e1 _ _ (by decide) (by decide)).symm
      · rw [up_k _ (by decide), up_k _ (by decide), up_k _ (by decide), e1 _ _ (by decide) (by decide)]
        rcases List.mem_append.mp hx with z | z
        · exact s5 x z
        · exact o5 x z
    rcases lst_or L with rfl | ⟨N, z, rfl⟩
    · have e35 : w 35 t 0 = 0 := s2
      simp only [if_pos e35, List.nil_append]
      refine fin _ (fun k a k1 k2 => up_k _ k2 _ _ _ _ _) ?_
      rw [up_s]
      exact CHa.cg o1 (fun x _ => up_k _ (by decide) _ _ _ _ _)
    · have ez : w 35 t 0 = z := by rw [s2, lsA_app]
      have hz0 : z ≠ 0 := CHa.mem0 s1 z (List.mem_append_right _ (List.mem_singleton.mpr rfl))
      have hzN : z ∉ N := fun hn => by
        obtain ⟨q, q1, q2⟩ := CHa.spl s1
        have hq : q = z := q2.1.1
        have hz := (CHa.nz q1 (by rw [hq]; exact hz0)).2 z hn
        have := (CHa.lst s1).1
        exact hz this
      have hzM : z ∉ M := fun hn => hM z hn (List.mem_append_right _ (List.mem_singleton.mpr rfl))
      simp only [if_neg (show ¬ w 35 t 0 = 0 by rw [ez]; exact hz0)]
      rw [ez]
      refine fin _ (fun k a k1 k2 => up_k _ k1 _ _ _ _ _) ?_
      have hw : ∀ a, up w 33 z 0 (w 34 o 0) 33 a 0 = if a = z then w 34 o 0 else w 33 a 0 := fun a => by
        by_cases c : a = z
        · rw [c, up_s, if_pos rfl]
        · rw [up_a _ _ _ c, if_neg c]
      rw [up_k _ (by decide)]
      refine CHa.app (CHa.lnk s1 hzN hw) (CHa.cg o1 fun x hx => by rw [hw, if_neg (fun e => hzM (by rw [← e]; exact hx))])
end QJN
