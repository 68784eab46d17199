/-! a node is made: the list takes it -/
section MKR
variable {p : RP} {c c' : Int → Int} {w w2 w3 w4 w5 w6 w8 w9 w10 w' A A' : Mm} {μ : MU} {f n e x q1 q2 a1 a2 a3 a4 k m M g i cu : Int} {L : List Int} {PL : Int → List Int}
theorem RLm.mkF (h : RLm p μ f (lvL p μ A) w A) (hK : MKo μ M (pr_ p) (pg_ p) (pl_ p) A) (hSB : SB 0 A) (hbt : bTr A) (hg : g = 0 ∨ g = 1) (hWI : WI w) (hb210 : 0 ≤ A 207 0 0 ∧ A 207 0 0 ≤ 400)
    {C : Int → Int} {w8' V : Mm} (hF : MK8 p μ f g C V w w8' A x q1 q2)
    (h9 : LAd (w 38 (w 45 f 0) 0) x w8' w9)
    (h10 : w10 = up (up w9 78 (w 45 f 0) 0 (A 124 μ.1 0 + 1)) 40 (w 45 f 0) 0 x) :
    ∃ C', MKF p μ f g C' V w w10 A x q1 q2 := by
  obtain ⟨hn, ⟨t1, t2⟩, t3, t4⟩ := RLm.spl.mp h
  have hT := hK.2.2.1
  have h124 := hT.1
  have hcur := hK.1.1.1.1.cur hT
  obtain ⟨⟨c1, c2⟩, ⟨d1, d2⟩, ⟨e1, e2⟩, e3, e4, e5⟩ := id t1
  have tX := (h.tg5 hcur).1
  have tt := (hn.2.1.2.1.1).2.2.2.1.1
  have hQl := hn.2.2.2.1.2.1.2.2.2.2
  have hM := hK.2.2.2.1
  have h125 := hT.2.1
  clear hn t1 t2 t3 t4 hK hSB hbt hb210 hWI h
  obtain ⟨⟨u28, hc1, c08, q8t⟩, eQ, ⟨l8, ⟨a1, a2⟩, a3, a4, a5, a6, a7⟩, ⟨N1, N2⟩, N3, ⟨N4, N4'⟩, ⟨N5, N5'⟩, ⟨⟨N6, N6'⟩, N7⟩, N8, N9, N10, N11, N12⟩ := hF
  have Co : ∀ a, w 0 a 0 ≠ 0 → C a = pc_ p a := hc1
  have Cl : C (w 38 (w 45 f 0) 0) = 42 := by rw [Co _ (by omega)]; exact d2
  have CB : C (w 51 (w 38 (w 45 f 0) 0) 0) = 43 := by rw [Co _ (by omega)]; exact e2
  have CT : C (w 45 f 0) = 41 := by rw [Co _ (by omega)]; exact c2
  have q51 := a3
  obtain ⟨p1, p2, ⟨p3, p4, p5⟩, ⟨p6, p7⟩, p8, p9, p10⟩ := h9.v l8
  have u9 : UPd C (SMh) w8' w9 := by
    have key : ∀ (k : Nat) (a i : Int), w8' 0 a 0 ≠ 0 → (k = 3 → a ≠ w8' 51 (w 38 (w 45 f 0) 0) 0) → (k = 93 ∨ k = 51 → a ≠ w 38 (w 45 f 0) 0) → w9 k a i = w8' k a i := fun k a i h0 z1 z2 => p2 k a i h0 (by
      by_cases c : k = 3
      · exact Or.inr (z1 c)
      · exact Or.inl c) (by
      by_cases c : k = 93
      · exact Or.inr (z2 (Or.inl c))
      · exact Or.inl c) (by
      by_cases c : k = 51
      · exact Or.inr (z2 (Or.inr c))
      · exact Or.inl c)
    refine ⟨fun k a i h0 hS => key k a i h0 (fun z e => hS (by rw [e, q51, CB, z]; unfold SMh; omega)) (fun z e => hS (by rw [e, Cl]; unfold SMh; omega)), fun k a i h0 hk => key k a i h0 (fun z => by omega) (fun z => by omega), fun k i hk => (p8 k i).resolve_right (by omega)⟩
  -- the last codes
  obtain ⟨C', hC'⟩ : ∃ C', C' = if w9 51 (w 38 (w 45 f 0) 0) 0 = w 51 (w 38 (w 45 f 0) 0) 0 then C else cset C (w9 51 (w 38 (w 45 f 0) 0) 0) 43 := ⟨_, rfl⟩
  have hc8 : CXt w8' C C' := by
    rw [hC']
    rw [q51] at p9
    by_cases z : w9 51 (w 38 (w 45 f 0) 0) 0 = w 51 (w 38 (w 45 f 0) 0) 0
    · rw [if_pos z]; exact CXt.refl
    · rw [if_neg z]; exact cset_new (p9.resolve_left z).2
  have CB' : C' (w9 51 (w 38 (w 45 f 0) 0) 0) = 43 := by
    rw [hC']
    by_cases z : w9 51 (w 38 (w 45 f 0) 0) 0 = w 51 (w 38 (w 45 f 0) 0) 0
    · rw [if_pos z, z]; exact CB
    · rw [if_neg z]; exact cset_s
  have u10 : UPd C SMh w8' w10 := by
    rw [h10]
    exact (u9.sU (by decide) (Or.inr (by rw [CT]; unfold SMh; omega))).sU (by decide) (Or.inr (by rw [CT]; unfold SMh; omega))
  have hcx : CXt w (pc_ p) C' := fun a h0 => by rw [hc8 a (by rw [q8t a h0]; exact h0), Co a h0]
  have u : UPd (pc_ p) (SMk (A 126 μ.1 0) (A 124 μ.1 0)) w w10 := u28.trans hc1 (u10.mono fun b k z => by unfold SMh at z; unfold SMk; omega)
  have g10 : ∀ {k : Nat} (a i : Int), k ≠ 40 → k ≠ 78 → w10 k a i = w9 k a i := fun a i z1 z2 => by rw [h10, up_k _ z1, up_k _ z2]
  have g98 : ∀ {k : Nat} (a i : Int), w8' 0 a 0 ≠ 0 → k ≠ 3 → k ≠ 93 → k ≠ 51 → w9 k a i = w8' k a i := fun a i h0 z1 z2 z3 => p2 _ a i h0 (Or.inl z1) (Or.inl z2) (Or.inl z3)
  have gg : ∀ {k : Nat} (a : Int), w8' 0 a 0 ≠ 0 → k ≠ 3 → k ≠ 93 → k ≠ 51 → k ≠ 40 → k ≠ 78 → w10 k a 0 = w8' k a 0 := fun a h0 z1 z2 z3 z4 z5 => by rw [g10 _ _ z4 z5, g98 _ _ h0 z1 z2 z3]
  have c0 : ∀ a, w10 0 a 0 = 0 → C' a = 0 := fun a ha => by
    have h8a : w8' 0 a 0 = 0 := by rw [g10 _ _ (by decide) (by decide)] at ha; exact p10 a ha
    rw [hC']
    by_cases z : w9 51 (w 38 (w 45 f 0) 0) 0 = w 51 (w 38 (w 45 f 0) 0) 0
    · rw [if_pos z]; exact c08 a h8a
    · rw [if_neg z, cset_o (fun e => by rw [e, g10 _ _ (by decide) (by decide), p3] at ha; exact absurd ha (by decide))]; exact c08 a h8a
  have f51 : w10 51 (w 38 (w 45 f 0) 0) 0 = w9 51 (w 38 (w 45 f 0) 0) 0 := g10 _ _ (by decide) (by decide)
  have hx8 : w8' 0 x 0 ≠ 0 := by rw [N1]; decide
  have hq8 : w8' 0 q1 0 ≠ 0 := by rw [N6]; decide
  have ht8 : w8' 0 (w 12 (w 41 f 0) 0) 0 ≠ 0 := by rw [q8t _ (by omega)]; omega
  have hX8 : w8' 0 (pn_ p (A 126 μ.1 0)) 0 ≠ 0 := by rw [q8t _ (by omega)]; omega
  have hT8 : w8' 0 (w 45 f 0) 0 ≠ 0 := by rw [q8t _ (by omega)]; omega
  have hl8' : w8' 0 (w 38 (w 45 f 0) 0) 0 ≠ 0 := by rw [q8t _ (by omega)]; omega
  have hb8 : w8' 0 (w 39 (w 45 f 0) 0) 0 ≠ 0 := by rw [q8t _ (by omega)]; omega
  have hl8 : ∀ y ∈ lvL p μ A, w8' 0 y 0 ≠ 0 := fun y hy => by
    have := hQl y hy
    rw [q8t _ (by omega)]; omega
  have hno : ∀ (b' : Int) (k' : Nat), 1000 ≤ b' → ¬ SMh b' k' := fun b' k' z1 z => by unfold SMh at z; omega
  have hb1 : 1000 ≤ 1000 + 10 * A 124 μ.1 0 + 1 := by omega
  refine ⟨C', ⟨u, hcx, c0⟩, ?_, ⟨⟨?_, ?_⟩, ⟨?_, by rw [f51]; exact CB'⟩, ⟨?_, ?_⟩, fun i i0 i1 => ?_, ?_, fun j => ?_, ?_, ?_, ?_, ?_⟩, ⟨?_, ?_⟩, ?_, ⟨?_, ?_⟩, ⟨?_, ?_⟩, ⟨⟨?_, ?_⟩, ?_⟩, ?_, ?_, ?_, ?_, ?_⟩
  · exact eQ.cg (gg _ ht8 (by decide) (by decide) (by decide) (by decide) (by decide)) (gg _ ht8 (by decide) (by decide) (by decide) (by decide) (by decide)) (gg _ ht8 (by decide) (by decide) (by decide) (by decide) (by decide)) (gg _ ht8 (by decide) (by decide) (by decide) (by decide) (by decide)) (fun x hx => absurd hx List.not_mem_nil) (fun x hx => absurd hx List.not_mem_nil)
  · rw [g10 _ _ (by decide) (by decide), p1, a1]
  · rw [gg _ hl8' (by decide) (by decide) (by decide) (by decide) (by decide), a2]
  · rw [f51, g10 _ _ (by decide) (by decide)]; exact p3
  · rw [f51, g10 _ _ (by decide) (by decide)]; rw [a1] at p5; have := hT.2.1; omega
  · rw [f51, g10 _ _ (by decide) (by decide), g10 _ _ (by decide) (by decide), p1]; exact p4
  · rw [f51, g10 _ _ (by decide) (by decide), p6 i i0 (by rw [a1]; exact i1), q51, a4]
  · rw [f51, g10 _ _ (by decide) (by decide), ← a1]; exact p7
  · rw [g10 _ _ (by decide) (by decide), p2 _ _ _ hb8 (Or.inr (by rw [q51]; intro e; rw [e] at e3; omega)) (Or.inl (by decide)) (Or.inl (by decide)), a5]
  · rw [h10, up_s]
  · rw [h10, up_k _ (by decide), up_s]
  · rw [gg _ hT8 (by decide) (by decide) (by decide) (by decide) (by decide), a6]
  · rw [gg _ hX8 (by decide) (by decide) (by decide) (by decide) (by decide), a7]
  · rw [gg _ hx8 (by decide) (by decide) (by decide) (by decide) (by decide)]; exact N1
  · rw [hc8 _ hx8]; exact N2
  · rw [gg _ hx8 (by decide) (by decide) (by decide) (by decide) (by decide)]; exact N3
  · rw [gg _ hx8 (by decide) (by decide) (by decide) (by decide) (by decide)]; exact N4
  · rw [gg _ hx8 (by decide) (by decide) (by decide) (by decide) (by decide)]; exact N4'
  · exact (N5.fr u10 hc8 (fun k' _ _ => hno _ k' (by omega))).1
  · exact N5'.fr N5 u10 hc8 (fun b' k' z1 z2 => hno b' k' (by omega)) (fun k' z => by unfold SMh at z; omega)
  · rw [gg _ hq8 (by decide) (by decide) (by decide) (by decide) (by decide)]; exact N6
  · rw [hc8 _ hq8]; exact N6'
  · exact N7.cg (gg _ hq8 (by decide) (by decide) (by decide) (by decide) (by decide)) (gg _ hq8 (by decide) (by decide) (by decide) (by decide) (by decide)) (gg _ hq8 (by decide) (by decide) (by decide) (by decide) (by decide)) (gg _ hq8 (by decide) (by decide) (by decide) (by decide) (by decide)) (fun x hx => ⟨gg _ (hl8 x hx) (by decide) (by decide) (by decide) (by decide) (by decide), gg _ (hl8 x hx) (by decide) (by decide) (by decide) (by decide) (by decide)⟩) (fun x hx => gg _ (hl8 x hx) (by decide) (by decide) (by decide) (by decide) (by decide))
  · rw [gg _ hx8 (by decide) (by decide) (by decide) (by decide) (by decide)]; exact N8
  · rw [gg _ hx8 (by decide) (by decide) (by decide) (by decide) (by decide)]; exact N9
  · rw [gg _ hx8 (by decide) (by decide) (by decide) (by decide) (by decide)]; exact N10
  · rw [gg _ hx8 (by decide) (by decide) (by decide) (by decide) (by decide)]; exact N11
  · rw [gg _ hx8 (by decide) (by decide) (by decide) (by decide) (by decide)]; exact N12
end MKR
