/-! the tree with its nodes' states and what its steps took away; a merge keeps it -/
def GNo (b : Mm) (G : Int → Int → Int) : List Int → Mm → Prop
  | [], _ => True
  | p :: ps, V => GNl b G (b 220 0 p).toNat (b 218 0 p) (b 219 0 p) V ∧ GNo b G ps (m_playL (plist b (b 220 0 p).toNat (b 218 0 p) (b 219 0 p)) V)
/-- the tree of the reference beside the class's states ρ and what the steps took away G -/
def BKo (μ : MU) (A : Mm) : Prop := ∀ j, 0 ≤ j → j < 5 → A 227 0 j = -1 ∨ alv μ A (A 227 0 j)
def TX (μ : MU) (ρ : Int → Mm) (G : Int → Int → Int) (PL : Int → List Int) (A : Mm) : Prop :=
  (TI μ PL A ∧ BKo μ A) ∧ ∀ k, alv μ A k → (EQv TA 1 1 (ρ k) (m_rpl μ PL k A) ∧ SB 1 (ρ k) ∧ Unt A (ρ k)) ∧ (1 ≤ k → GNo A G (PL k) (m_rpl μ PL (A 217 0 k) A))
section GNO
variable {μ : MU} {M x y k p z q m P lim : Int} {A A' b b' V V' : Mm} {PL : Int → List Int} {ρ : Int → Mm} {G G' : Int → Int → Int} {i j : Int}
theorem GNo_app : ∀ (X Y : List Int) (V : Mm), GNo b G (X ++ Y) V ↔ GNo b G X V ∧ GNo b G Y (m_playL (nodeL b X) V)
  | [], Y, V => ⟨fun h => ⟨trivial, h⟩, fun h => h.2⟩
  | x :: xs, Y, V => by
    show (_ ∧ GNo b G (xs ++ Y) _) ↔ (_ ∧ GNo b G xs _) ∧ GNo b G Y (m_playL (plist b (b 220 0 x).toNat (b 218 0 x) (b 219 0 x) ++ nodeL b xs) V)
    rw [GNo_app xs Y, playL_app]
    exact and_assoc.symm
theorem GNo_eq (hp : PAg P b b') (h2 : ∀ i, 0 ≤ i → i < lim → b' 212 0 i = b 212 0 i) (hG : ∀ k, 0 ≤ k → k < lim → G' k = G k) (h6 : bPb b') : ∀ (ps : List Int) (p : Int) (V V' : Mm), CHL m b p ps → (∀ (c : Nat) (q : Int), q ∈ ps → 218 ≤ c → c ≤ 220 → b' c 0 q = b c 0 q) → (∀ q ∈ ps, b 218 0 q + b 220 0 q ≤ lim) → BDp P b (nodeL b ps) → EQv TA 1 1 V V' → (∀ j, pby V j = pby b j) → (∀ j, pby V' j = pby b' j) → SB 1 V → bB V → LGL (nodeL b ps) V → GNo b G ps V → GNo b' G' ps V'
  | [], _, _, _, _, _, _, _, _, _, _, _, _, _, _ => trivial
  | x :: xs, p, V, V', ⟨h1, h3, h4, h5, h7, h8⟩, e, hl, hb, hE, hv, hv', s1, s2, hg, hn => by
    have e8 := e 218 x List.mem_cons_self (by decide) (by decide)
    have e9 := e 219 x List.mem_cons_self (by decide) (by decide)
    have e0 := e 220 x List.mem_cons_self (by decide) (by decide)
    have hlx := hl x List.mem_cons_self
    obtain ⟨g1, g2⟩ := (LGL_app _ _ _).mp hg
    have b1 : BDp P b (plist b (b 220 0 x).toNat (b 218 0 x) (b 219 0 x)) := fun y hy => hb y (List.mem_append_left _ hy)
    have hw : ∀ j, b 218 0 x ≤ j → j < b 218 0 x + ((b 220 0 x).toNat : Int) → 0 ≤ b 212 0 j := fun j j0 j1 => (h7 j j0 (by omega)).1
    have o := playL_eq (P := P) _ V V' hE (fun j a c => by rw [hv, hv']; exact hp j a c) (fun j a => by rw [hv']; exact h6 j a) s1 s2 g1 (b1.mv hv)
    have s := SB_L _ _ s1 s2 g1
    unfold GNo
    rw [e8, e9, e0, plist_app2 hp h2 _ _ _ h4.1 (by omega) h5.1 hw b1]
    refine ⟨GNl_eq hp h2 hG _ _ _ V V' h4.1 (by omega) h5.1 hw b1 hE hv hv' h6 s1 s2 g1 hn.1, ?_⟩
    exact GNo_eq hp h2 hG h6 xs _ _ _ h8 (fun c q hq => e c q (List.mem_cons_of_mem _ hq)) (fun q hq => hl q (List.mem_cons_of_mem _ hq)) (fun y hy => hb y (List.mem_append_right _ hy)) o.1 (fun j => by rw [pby_L]; exact hv j) (fun j => by rw [pby_L]; exact hv' j) s.1 s.2 g2 hn.2
theorem pby_rpl (j : Int) : pby (m_rpl μ PL k A) j = pby A j := by unfold m_rpl; rw [pby_L, pby_rp0]
theorem LGL_suf {X Y : List (Int × Int)} {V : Mm} (h : LGL (X ++ Y) V) : LGL Y (m_playL X V) := ((LGL_app _ _ _).mp h).2
/-- a node's replay is its parent's, its own steps behind it -/
theorem TI.par (h : TI μ PL A) (hT : TB μ M A) (hM : M ≤ 600) (s1 : SB 1 A) (s2 : bB A) (h6 : bPb A) (ha : alv μ A k) (hk : 1 ≤ k) :
    EQv TA 1 1 (m_rpl μ PL k A) (m_playL (nodeL A (PL k)) (m_rpl μ PL (A 217 0 k) A)) ∧ LGL (nodeL A (PL k)) (m_rpl μ PL (A 217 0 k) A) ∧ BDp (A 123 μ.1 0) A (nodeL A (PL k)) ∧ alv μ A (A 217 0 k) ∧ (SB 1 (m_rpl μ PL (A 217 0 k) A) ∧ bB (m_rpl μ PL (A 217 0 k) A)) ∧ ∀ q ∈ PL k, A 218 0 q + A 220 0 q ≤ A 122 μ.1 0 := by
  have hk2 : 1 ≤ k ∧ k < A 124 μ.1 0 := ⟨hk, ha.1.2⟩
  have hpk := hT.plp hk2
  have hap : alv μ A (A 217 0 k) := ⟨⟨by omega, by omega⟩, h.1.2.2.1 k hk hk2.2 ha.2⟩
  obtain ⟨r1, r2, r3⟩ := h.2.2.2.1 k ha
  have hq := h.rq hT hM hap
  have st := rpl_st s1 s2 hq.1
  have nd := nd_ok hT hk2 (h.rq hT hM ha) s1 s2 h6
  have hx := hT.rsp (PL := PL) hk2
  have o := rpl_mv (k' := A 217 0 k) s1 s2 h6 (fun j _ _ => rfl) r1 r2
  refine ⟨?_, nd.2.2, fun y hy => r2 y (by rw [hx]; exact List.mem_append_right _ hy), hap, ⟨st.1, st.2.1⟩, (h.2.2.1 k hk ha).2.2.2.2⟩
  have o1 := o.1
  rw [hx, playL_app _ _ (m_rp0 μ (A 217 0 k) A)] at o1
  unfold m_rpl
  rw [hx]; exact o1
theorem TX.mrg1 (h : TX μ ρ G PL A) (hT : TB μ M A) (hM : M ≤ 600) (g : MGx μ A x y) (hTb : TB μ M (m_mrg1 μ x A)) (s1 : SB 1 A) (s2 : bB A) (h6 : bPb A) : TX μ ρ G (PLm PL x y) (m_mrg1 μ x A) := by
  obtain ⟨⟨hI, hBK⟩, hX⟩ := id h
  obtain ⟨hI', hR'⟩ := hI.mrg1 hT g hTb s1 s2 h6
  obtain ⟨⟨a1, a2, a3⟩, ⟨b1, b2, b3⟩, b4, b5, b6⟩ := id g
  have hp : ∀ P, PAg P A (m_mrg1 μ x A) := fun P j _ _ => mrg_pby j
  have h6' : bPb (m_mrg1 μ x A) := fun j a => by rw [mrg_pby]; exact h6 j a
  have o1 : ∀ (L : List Int) (c : Nat) (q : Int), q ∈ L → 218 ≤ c → c ≤ 220 → m_mrg1 μ x A c 0 q = A c 0 q := fun L c q _ c1 c2 => mrg1_o (by omega)
  have o2 : ∀ i, 0 ≤ i → i < A 122 μ.1 0 → m_mrg1 μ x A 212 0 i = A 212 0 i := fun i _ _ => mrg1_o (by decide)
  refine ⟨⟨hI', fun j j0 j1 => ?_⟩, fun k ha => ?_⟩
  · rw [mrg1_o (by decide)]
    refine (hBK j j0 j1).imp id fun z => (alv_mrg g).mpr ⟨z, fun e => ?_⟩
    have := sumN_ge (f := m_bkF x A) (fun j => bi_n) (n := 5) (y := j) ⟨j0, by omega⟩
    rw [b6.2] at this
    have e1 : m_bkF x A j = 1 := (bi_t e).symm
    omega
  have hb := (alv_mrg g).mp ha
  obtain ⟨⟨x1, x2, x3⟩, x4⟩ := hX k hb.1
  refine ⟨⟨x1.trans (hR' k ha).2, x2, fun r r0 r1 r2 => x3 r r0 r1 (by rw [mrg1_o (by decide)] at r2; exact r2)⟩, fun hk => ?_⟩
  obtain ⟨p1, p2, p3, p4, p5, p6⟩ := hI.par hT hM s1 s2 h6 hb.1 hk
  have n1 := (hI.2.2.1 k hk hb.1).1
  rw [mrg1_217]
  by_cases cy : k = y
  · subst cy
    rw [if_pos b5]
    have hax : alv μ A x := ⟨⟨by omega, by omega⟩, b1⟩
    have e : PLm PL x k k = PL x ++ PL k := by unfold PLm; rw [if_pos rfl]
    obtain ⟨q1, q2, q3, q4, q5, q6⟩ := hI.par hT hM s1 s2 h6 hax a1
    have hpx : alv μ (m_mrg1 μ x A) (A 217 0 x) := (alv_mrg g).mpr ⟨q4, by have := hT.plp (k := x) ⟨a1, by omega⟩; omega⟩
    have e2 := (hR' _ hpx).2
    have gx := (hX x hax).2 a1
    rw [e, GNo_app, mrg_nodeL]
    refine ⟨GNo_eq (hp _) o2 (fun _ _ _ => rfl) h6' (PL x) _ _ _ (hI.2.2.1 x a1 hax).1 (o1 _) q6 q3 e2 pby_rpl pby_rpl q5.1 q5.2 q2 gx, ?_⟩
    rw [b3] at p1 p2 p5 x4
    have o := playL_eq (P := A 123 μ.1 0) _ _ _ e2 (fun j _ _ => by rw [pby_rpl, pby_rpl]; exact mrg_pby j) (fun j a => by rw [pby_rpl]; exact h6' j a) q5.1 q5.2 q2 (q3.mv pby_rpl)
    exact GNo_eq (hp _) o2 (fun _ _ _ => rfl) h6' (PL k) _ _ _ n1 (o1 _) p6 p3 (q1.trans o.1) pby_rpl (fun j => by rw [pby_L, pby_rpl]) p5.1 p5.2 p2 (x4 hk)
  · rw [if_neg (by rw [← b5]; exact cy)]
    have e : PLm PL x y k = PL k := by unfold PLm; rw [if_neg cy]
    have hne : A 217 0 k ≠ x := fun z => cy (g.one ⟨hk, hb.1.1.2⟩ hb.1.2 z)
    have hpx : alv μ (m_mrg1 μ x A) (A 217 0 k) := (alv_mrg g).mpr ⟨p4, hne⟩
    rw [e]
    exact GNo_eq (hp _) o2 (fun _ _ _ => rfl) h6' (PL k) _ _ _ n1 (o1 _) p6 p3 (hR' _ hpx).2 pby_rpl pby_rpl p5.1 p5.2 p2 (x4 hk)
end GNO
