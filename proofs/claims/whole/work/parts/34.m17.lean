theorem dX13_fails_0 : decode cX13_fails 0 = .ok (.aload_n 0, 1) := by decide +kernel
theorem dX13_fails_1 : decode cX13_fails 1 = .ok (.iload_n 1, 1) := by decide +kernel
theorem dX13_fails_2 : decode cX13_fails 2 = .ok (.putfield 382, 3) := by decide +kernel
theorem dX13_fails_5 : decode cX13_fails 5 = .ok (.aload_n 0, 1) := by decide +kernel
theorem dX13_fails_6 : decode cX13_fails 6 = .ok (.bipush 100, 2) := by decide +kernel
theorem dX13_fails_8 : decode cX13_fails 8 = .ok (.iload_n 2, 1) := by decide +kernel
theorem dX13_fails_9 : decode cX13_fails 9 = .ok (.imul, 1) := by decide +kernel
theorem dX13_fails_10 : decode cX13_fails 10 = .ok (.iload_n 3, 1) := by decide +kernel
theorem dX13_fails_11 : decode cX13_fails 11 = .ok (.iadd, 1) := by decide +kernel
theorem dX13_fails_12 : decode cX13_fails 12 = .ok (.putfield 147, 3) := by decide +kernel
theorem dX13_fails_15 : decode cX13_fails 15 = .ok (.iload_n 1, 1) := by decide +kernel
theorem dX13_fails_16 : decode cX13_fails 16 = .ok (.ireturn, 1) := by decide +kernel
set_option maxRecDepth 4000 in
theorem c_fails (γ : LC) (μ : MU) (w : Mm) (x m p : Int) (hx : IR x) (hm0 : 0 ≤ m ∧ m ≤ 3) (hp : 0 ≤ p ∧ p ≤ 48) : CMi γ μ 0 mX13_fails [.int (I x), .int (I m), .int (I p)] w (fun r w' => r = x ∧ w' = m_fail μ x m p w) := by
  refine CMi_of rfl (by simp [rv_cat, Value.category]) rfl ?_
  rintro κ hO hF rfl hR
  have hD := hF.dp
  show X κ 0 0 w 0 [some (rv μ.1), some (.int (I x)), some (.int (I m)), some (.int (I p))] []
  refine X_aload_n 1 hO dX13_fails_0 rfl rfl ?_
  refine X_iload_n 2 hO dX13_fails_1 rfl rfl ?_
  refine pa_382 5 hO hR dX13_fails_2 rfl (by omega) (fun hR => ?_)
  refine X_aload_n 6 hO dX13_fails_5 rfl rfl ?_
  refine X_bipush 8 hO dX13_fails_6 rfl (by decide) ?_
  refine X_iload_n 9 hO dX13_fails_8 rfl rfl ?_
  refine X_imul 10 hO dX13_fails_9 rfl ?_
  refine X_iload_n 11 hO dX13_fails_10 rfl rfl ?_
  refine X_iadd 12 hO dX13_fails_11 rfl ?_
  refine pa_147 15 hO hR dX13_fails_12 rfl (by omega) (fun hR => ?_)
  refine X_iload_n 16 hO dX13_fails_15 rfl rfl ?_
  exact XM_iret hO hF hR rfl (by first | exact Or.inl rfl | exact Or.inr ⟨rfl, bi_01 _⟩ | exact Or.inr ⟨rfl, by omega⟩) dX13_fails_16 (by omega) ⟨rfl, rfl⟩
/-- where the command that level l has next lies -/
def m_gat (l : Int) (w : Mm) : Int := 48 * w 237 0 l + 3 * w 239 0 l
def m_gpl (l : Int) (w : Mm) : Mm := up w 239 0 l (w 239 0 l + 1)
def m_gdn (l a b : Int) (w : Mm) : Mm := up (up (up w 237 0 (l + 1) a) 238 0 (l + 1) b) 239 0 (l + 1) 0
def m_gdo (μ : MU) (l : Int) (w : Mm) : Int × Mm := m_does μ (w 235 0 (m_gat l w)) (w 235 0 (m_gat l w + 1)) (w 235 0 (m_gat l w + 2)) (m_gpl l w)
def m_grun (μ : MU) : Nat → Int → Int → Int → Int → Mm → Option (Int × Int × Int × Mm)
  | 0, _, _, _, _, _ => none
  | n + 1, l, s, t, r, w =>
    if l ≤ 0 ∨ r ≠ 0 then some (s, t, r, w)
    else if w 238 0 l = 0 ∨ w 236 0 (w 237 0 l) = 0 then m_grun μ n (l - 1) s t r w
    else if w 239 0 l = w 236 0 (w 237 0 l) then m_grun μ n l s t r (up (up w 239 0 l 0) 238 0 l (w 238 0 l - 1))
    else if s = 24 then m_grun μ n l s t 8 (m_fail μ 8 (w 237 0 l) (w 239 0 l) w)
    else if w 235 0 (m_gat l w) = 16 then m_grun μ n l (s + 1) (s + 1) r (m_saves μ 3 (m_gpl l w))
    else if w 235 0 (m_gat l w) ≠ 15 then
      (if (m_gdo μ l w).1 = 0 then m_grun μ n l (s + 1) t 0 (m_gdo μ l w).2 else m_grun μ n l (s + 1) t (m_gdo μ l w).1 (m_fail μ (m_gdo μ l w).1 (w 237 0 l) (w 239 0 l) (m_gdo μ l w).2))
    else if l = 5 then m_grun μ n l (s + 1) t 7 (m_fail μ 7 (w 237 0 l) (w 239 0 l) (m_gpl l w))
    else m_grun μ n (l + 1) (s + 1) t r (m_gdn l (w 235 0 (m_gat l w + 1)) (w 235 0 (m_gat l w + 2)) (m_gpl l w))
def bGs (l : Int) (w : Mm) : Prop := ∀ i, 1 ≤ i → i ≤ l → (0 ≤ w 237 0 i ∧ w 237 0 i ≤ 3) ∧ (0 ≤ w 238 0 i ∧ w 238 0 i ≤ 10) ∧ (0 ≤ w 239 0 i ∧ w 239 0 i ≤ w 236 0 (w 237 0 i))
def GI (μ : MU) (S P M l s : Int) (w : Mm) : Prop := LB μ (S + 2 * s) (P + 20 * s) w ∧ RK μ (S + 2 * s) (P + 20 * s) M w ∧ bGs l w ∧ (l ≤ 5 ∧ 0 ≤ s ∧ s ≤ 24)
theorem bGs.cong {l : Int} {w w' : Mm} (h : bGs l w) (e : ∀ c i, c = 237 ∨ c = 238 ∨ c = 239 ∨ c = 236 → w' c 0 i = w c 0 i) : bGs l w' := by
  intro i a b
  rw [e _ _ (by omega), e _ _ (by omega), e _ _ (by omega), e _ _ (by omega)]; exact h i a b
theorem GI.pop {μ : MU} {S P M l s : Int} {w : Mm} (h : GI μ S P M l s w) : GI μ S P M (l - 1) s w := ⟨h.1, h.2.1, fun i a b => h.2.2.1 i a (by omega), by have := h.2.2.2; omega⟩
theorem GI.nx {μ : MU} {S P M l s : Int} {w : Mm} (h : GI μ S P M l s w) (hl : 1 ≤ l) (h8 : w 238 0 l ≠ 0) : GI μ S P M l s (up (up w 239 0 l 0) 238 0 l (w 238 0 l - 1)) := by
  obtain ⟨h1, h2, h3, h4⟩ := h
  refine ⟨(h1.up_o (by decide)).up_o (by decide), (h2.up_o (by decide)).up_o (by decide), fun i a b => ?_, h4⟩
  have hi := h3 i a b
  have hc := (h2.2.2.2.2.2.2 (w 237 0 i) hi.1.1 (by omega)).1
  simp (disch := decide) only [up_k, up_ii]
  by_cases c : i = l
  · subst c; rw [if_pos rfl, if_pos rfl]; omega
  · rw [if_neg c, if_neg c]; exact hi
theorem GI.fl {μ : MU} {S P M l s r m p : Int} {w : Mm} (h : GI μ S P M l s w) : GI μ S P M l s (m_fail μ r m p w) := by
  obtain ⟨h1, h2, h3, h4⟩ := h
  refine ⟨(h1.up_o (by decide)).up_o (by decide), (h2.up_o (by decide)).up_o (by decide), h3.cong fun c i hc => ?_, h4⟩
  unfold m_fail
  rw [up_k _ (by omega), up_k _ (by omega)]
/-- the next command is begun -/
theorem GI.on {μ : MU} {S P M l s : Int} {w : Mm} (h : GI μ S P M l s w) (hl : 1 ≤ l) (hp : w 239 0 l ≠ w 236 0 (w 237 0 l)) (hs : s ≠ 24) : GI μ S P M l (s + 1) (m_gpl l w) := by
  obtain ⟨h1, h2, h3, h4⟩ := h
  refine ⟨(h1.up_o (by decide)).mono (by omega) (by omega), (h2.up_o (by decide)).mono (by omega) (by omega), fun i a b => ?_, by omega⟩
  have hi := h3 i a b
  unfold m_gpl
  simp (disch := decide) only [up_k, up_ii]
  by_cases c : i = l
  · subst c; rw [if_pos rfl]; omega
  · rw [if_neg c]; exact hi
theorem GI.cv {μ : MU} {S P M l s : Int} {w : Mm} (h : GI μ S P M l s w) (hl : 1 ≤ l) (hp : w 239 0 l ≠ w 236 0 (w 237 0 l)) : CV (w 235 0 (m_gat l w)) (w 235 0 (m_gat l w + 1)) (w 235 0 (m_gat l w + 2)) ∧ (0 ≤ m_gat l w ∧ m_gat l w ≤ 189) ∧ (0 ≤ w 237 0 l ∧ w 237 0 l ≤ 3) ∧ (0 ≤ w 239 0 l ∧ w 239 0 l ≤ 15) := by
  obtain ⟨h1, h2, h3, h4⟩ := h
  have hi := h3 l hl (Int.le_refl _)
  have hc := h2.2.2.2.2.2.2 (w 237 0 l) hi.1.1 (by omega)
  have := hc.2 (w 239 0 l) hi.2.2.1 (by omega)
  refine ⟨this, ?_, hi.1, by omega⟩
  unfold m_gat; omega
theorem GI.sv {μ : MU} {S P M l s : Int} {w : Mm} (h : GI μ S P M l s w) : GI μ S P M l s (m_saves μ 3 w) := by
  obtain ⟨h1, h2, h3, h4⟩ := h
  exact ⟨h1.saves (by decide), h2.saves h1 (by decide), h3.cong fun c i hc => saves_at (by omega), h4⟩
theorem GI.dn {μ : MU} {S P M l s a b : Int} {w : Mm} (h : GI μ S P M l s w) (hl : l ≠ 5) (ha : 0 ≤ a ∧ a ≤ 3) (hb : 0 ≤ b ∧ b ≤ 10) : GI μ S P M (l + 1) s (m_gdn l a b w) := by
  obtain ⟨h1, h2, h3, h4⟩ := h
  refine ⟨((h1.up_o (by decide)).up_o (by decide)).up_o (by decide), ((h2.up_o (by decide)).up_o (by decide)).up_o (by decide), fun i x y => ?_, by omega⟩
  unfold m_gdn
  simp (disch := decide) only [up_k, up_ii]
  by_cases c : i = l + 1
  · rw [if_pos c, if_pos c, if_pos c]
    have := (h2.2.2.2.2.2.2 a ha.1 (by omega)).1
    exact ⟨ha, hb, by omega, by omega⟩
  · rw [if_neg c, if_neg c, if_neg c]; exact h3 i x (by omega)
/-- of a command that is done: s counts it already -/
theorem GI.ds {μ : MU} {S P M l s c a b : Int} {w w1 : Mm} (h : GI μ S P M l s w) (hs : s ≠ 24) (e : GI μ S P M l (s + 1) w1) (h0 : LB μ (S + 2 * s) (P + 20 * s) w1) (hv : CV c a b) (hc : c ≤ 14) : GI μ S P M l (s + 1) (m_does μ c a b w1).2 := by
  have hL := LO.does h0 hv hc
  exact ⟨(h0.does hv).mono (by omega) (by omega), e.2.1.lo hL, e.2.2.1.cong fun c i hc => hL.2 _ _ _ (by omega) (by unfold LOk; simp; omega), e.2.2.2⟩
theorem GI.f {μ : MU} {S P M l s : Int} {w : Mm} (h : GI μ S P M l s w) (hl : 1 ≤ l) : (0 ≤ w 237 0 l ∧ w 237 0 l ≤ 3) ∧ (0 ≤ w 238 0 l ∧ w 238 0 l ≤ 10) ∧ (0 ≤ w 239 0 l ∧ w 239 0 l ≤ w 236 0 (w 237 0 l)) ∧ (0 ≤ w 236 0 (w 237 0 l) ∧ w 236 0 (w 237 0 l) ≤ 16) := by
  have hi := h.2.2.1 l hl (Int.le_refl _)
  exact ⟨hi.1, hi.2.1, hi.2.2, (h.2.1.2.2.2.2.2.2 (w 237 0 l) hi.1.1 (by omega)).1⟩
def m_gst (μ : MU) (m k : Int) (w : Mm) : Mm := up (up (up (up (up w 237 0 1 m) 238 0 1 k) 239 0 1 0) 134 μ.1 0 0) 135 μ.1 0 (-1)
def m_gen (μ : MU) (q : Int × Int × Int × Mm) : Int × Mm := if q.2.2.1 > 0 then (q.2.1, m_rest μ 3 0 q.2.2.2) else (q.1, q.2.2.2)
theorem grun_step {μ : MU} {n : Nat} {l s t r : Int} {w : Mm} : m_grun μ (n + 1) l s t r w =
    if l ≤ 0 ∨ r ≠ 0 then some (s, t, r, w)
    else if w 238 0 l = 0 ∨ w 236 0 (w 237 0 l) = 0 then m_grun μ n (l - 1) s t r w
    else if w 239 0 l = w 236 0 (w 237 0 l) then m_grun μ n l s t r (up (up w 239 0 l 0) 238 0 l (w 238 0 l - 1))
    else if s = 24 then m_grun μ n l s t 8 (m_fail μ 8 (w 237 0 l) (w 239 0 l) w)
    else if w 235 0 (m_gat l w) = 16 then m_grun μ n l (s + 1) (s + 1) r (m_saves μ 3 (m_gpl l w))
    else if w 235 0 (m_gat l w) ≠ 15 then
      (if (m_gdo μ l w).1 = 0 then m_grun μ n l (s + 1) t 0 (m_gdo μ l w).2 else m_grun μ n l (s + 1) t (m_gdo μ l w).1 (m_fail μ (m_gdo μ l w).1 (w 237 0 l) (w 239 0 l) (m_gdo μ l w).2))
    else if l = 5 then m_grun μ n l (s + 1) t 7 (m_fail μ 7 (w 237 0 l) (w 239 0 l) (m_gpl l w))
    else m_grun μ n (l + 1) (s + 1) t r (m_gdn l (w 235 0 (m_gat l w + 1)) (w 235 0 (m_gat l w + 2)) (m_gpl l w)) := rfl
theorem dX13_goes_0 : decode cX13_goes 0 = .ok (.iconst 1, 1) := by decide +kernel
theorem dX13_goes_1 : decode cX13_goes 1 = .ok (.istore_n 3, 1) := by decide +kernel
theorem dX13_goes_2 : decode cX13_goes 2 = .ok (.iconst 0, 1) := by decide +kernel
theorem dX13_goes_3 : decode cX13_goes 3 = .ok (.istore 4, 2) := by decide +kernel
theorem dX13_goes_5 : decode cX13_goes 5 = .ok (.iconst 0, 1) := by decide +kernel
theorem dX13_goes_6 : decode cX13_goes 6 = .ok (.istore 5, 2) := by decide +kernel
theorem dX13_goes_8 : decode cX13_goes 8 = .ok (.iconst 0, 1) := by decide +kernel
theorem dX13_goes_9 : decode cX13_goes 9 = .ok (.istore 6, 2) := by decide +kernel
theorem dX13_goes_11 : decode cX13_goes 11 = .ok (.aload_n 0, 1) := by decide +kernel
theorem dX13_goes_12 : decode cX13_goes 12 = .ok (.getfield 138, 3) := by decide +kernel
theorem dX13_goes_15 : decode cX13_goes 15 = .ok (.iconst 1, 1) := by decide +kernel
theorem dX13_goes_16 : decode cX13_goes 16 = .ok (.iload_n 1, 1) := by decide +kernel
theorem dX13_goes_17 : decode cX13_goes 17 = .ok (.iastore, 1) := by decide +kernel
theorem dX13_goes_18 : decode cX13_goes 18 = .ok (.aload_n 0, 1) := by decide +kernel
theorem dX13_goes_19 : decode cX13_goes 19 = .ok (.getfield 141, 3) := by decide +kernel
theorem dX13_goes_22 : decode cX13_goes 22 = .ok (.iconst 1, 1) := by decide +kernel
theorem dX13_goes_23 : decode cX13_goes 23 = .ok (.iload_n 2, 1) := by decide +kernel
theorem dX13_goes_24 : decode cX13_goes 24 = .ok (.iastore, 1) := by decide +kernel
theorem dX13_goes_25 : decode cX13_goes 25 = .ok (.aload_n 0, 1) := by decide +kernel
theorem dX13_goes_26 : decode cX13_goes 26 = .ok (.getfield 144, 3) := by decide +kernel
theorem dX13_goes_29 : decode cX13_goes 29 = .ok (.iconst 1, 1) := by decide +kernel
theorem dX13_goes_30 : decode cX13_goes 30 = .ok (.iconst 0, 1) := by decide +kernel
theorem dX13_goes_31 : decode cX13_goes 31 = .ok (.iastore, 1) := by decide +kernel
theorem dX13_goes_32 : decode cX13_goes 32 = .ok (.aload_n 0, 1) := by decide +kernel
theorem dX13_goes_33 : decode cX13_goes 33 = .ok (.iconst 0, 1) := by decide +kernel
theorem dX13_goes_34 : decode cX13_goes 34 = .ok (.putfield 382, 3) := by decide +kernel
theorem dX13_goes_37 : decode cX13_goes 37 = .ok (.aload_n 0, 1) := by decide +kernel
theorem dX13_goes_38 : decode cX13_goes 38 = .ok (.iconst (-1), 1) := by decide +kernel
theorem dX13_goes_39 : decode cX13_goes 39 = .ok (.putfield 147, 3) := by decide +kernel
theorem dX13_goes_42 : decode cX13_goes 42 = .ok (.iload_n 3, 1) := by decide +kernel
theorem dX13_goes_43 : decode cX13_goes 43 = .ok (.ifCond .le 282, 3) := by decide +kernel
theorem dX13_goes_46 : decode cX13_goes 46 = .ok (.iload 6, 2) := by decide +kernel
theorem dX13_goes_48 : decode cX13_goes 48 = .ok (.ifCond .ne 277, 3) := by decide +kernel
theorem dX13_goes_51 : decode cX13_goes 51 = .ok (.aload_n 0, 1) := by decide +kernel
theorem dX13_goes_52 : decode cX13_goes 52 = .ok (.getfield 138, 3) := by decide +kernel
theorem dX13_goes_55 : decode cX13_goes 55 = .ok (.iload_n 3, 1) := by decide +kernel
theorem dX13_goes_56 : decode cX13_goes 56 = .ok (.iaload, 1) := by decide +kernel
theorem dX13_goes_57 : decode cX13_goes 57 = .ok (.istore 7, 2) := by decide +kernel
theorem dX13_goes_59 : decode cX13_goes 59 = .ok (.aload_n 0, 1) := by decide +kernel
theorem dX13_goes_60 : decode cX13_goes 60 = .ok (.getfield 144, 3) := by decide +kernel
theorem dX13_goes_63 : decode cX13_goes 63 = .ok (.iload_n 3, 1) := by decide +kernel
theorem dX13_goes_64 : decode cX13_goes 64 = .ok (.iaload, 1) := by decide +kernel
theorem dX13_goes_65 : decode cX13_goes 65 = .ok (.istore 8, 2) := by decide +kernel
theorem dX13_goes_67 : decode cX13_goes 67 = .ok (.bipush 48, 2) := by decide +kernel
theorem dX13_goes_69 : decode cX13_goes 69 = .ok (.iload 7, 2) := by decide +kernel
theorem dX13_goes_71 : decode cX13_goes 71 = .ok (.imul, 1) := by decide +kernel
theorem dX13_goes_72 : decode cX13_goes 72 = .ok (.iconst 3, 1) := by decide +kernel
theorem dX13_goes_73 : decode cX13_goes 73 = .ok (.iload 8, 2) := by decide +kernel
theorem dX13_goes_75 : decode cX13_goes 75 = .ok (.imul, 1) := by decide +kernel
theorem dX13_goes_76 : decode cX13_goes 76 = .ok (.iadd, 1) := by decide +kernel
theorem dX13_goes_77 : decode cX13_goes 77 = .ok (.istore 9, 2) := by decide +kernel
theorem dX13_goes_79 : decode cX13_goes 79 = .ok (.aload_n 0, 1) := by decide +kernel
theorem dX13_goes_80 : decode cX13_goes 80 = .ok (.getfield 141, 3) := by decide +kernel
theorem dX13_goes_83 : decode cX13_goes 83 = .ok (.iload_n 3, 1) := by decide +kernel
theorem dX13_goes_84 : decode cX13_goes 84 = .ok (.iaload, 1) := by decide +kernel
theorem dX13_goes_85 : decode cX13_goes 85 = .ok (.ifCond .eq 13, 3) := by decide +kernel
theorem dX13_goes_88 : decode cX13_goes 88 = .ok (.aload_n 0, 1) := by decide +kernel
theorem dX13_goes_89 : decode cX13_goes 89 = .ok (.getfield 132, 3) := by decide +kernel
theorem dX13_goes_92 : decode cX13_goes 92 = .ok (.iload 7, 2) := by decide +kernel
theorem dX13_goes_94 : decode cX13_goes 94 = .ok (.iaload, 1) := by decide +kernel
theorem dX13_goes_95 : decode cX13_goes 95 = .ok (.ifCond .ne 9, 3) := by decide +kernel
theorem dX13_goes_98 : decode cX13_goes 98 = .ok (.iinc 3 (-1), 3) := by decide +kernel
theorem dX13_goes_101 : decode cX13_goes 101 = .ok (.goto 221, 3) := by decide +kernel
theorem dX13_goes_104 : decode cX13_goes 104 = .ok (.iload 8, 2) := by decide +kernel
theorem dX13_goes_106 : decode cX13_goes 106 = .ok (.aload_n 0, 1) := by decide +kernel
theorem dX13_goes_107 : decode cX13_goes 107 = .ok (.getfield 132, 3) := by decide +kernel
theorem dX13_goes_110 : decode cX13_goes 110 = .ok (.iload 7, 2) := by decide +kernel
theorem dX13_goes_112 : decode cX13_goes 112 = .ok (.iaload, 1) := by decide +kernel
theorem dX13_goes_113 : decode cX13_goes 113 = .ok (.if_icmp .ne 23, 3) := by decide +kernel
theorem dX13_goes_116 : decode cX13_goes 116 = .ok (.aload_n 0, 1) := by decide +kernel
theorem dX13_goes_117 : decode cX13_goes 117 = .ok (.getfield 144, 3) := by decide +kernel
theorem dX13_goes_120 : decode cX13_goes 120 = .ok (.iload_n 3, 1) := by decide +kernel
theorem dX13_goes_121 : decode cX13_goes 121 = .ok (.iconst 0, 1) := by decide +kernel
theorem dX13_goes_122 : decode cX13_goes 122 = .ok (.iastore, 1) := by decide +kernel
theorem dX13_goes_123 : decode cX13_goes 123 = .ok (.aload_n 0, 1) := by decide +kernel
theorem dX13_goes_124 : decode cX13_goes 124 = .ok (.getfield 141, 3) := by decide +kernel
theorem dX13_goes_127 : decode cX13_goes 127 = .ok (.iload_n 3, 1) := by decide +kernel
theorem dX13_goes_128 : decode cX13_goes 128 = .ok (.dup2, 1) := by decide +kernel
theorem dX13_goes_129 : decode cX13_goes 129 = .ok (.iaload, 1) := by decide +kernel
theorem dX13_goes_130 : decode cX13_goes 130 = .ok (.iconst 1, 1) := by decide +kernel
theorem dX13_goes_131 : decode cX13_goes 131 = .ok (.isub, 1) := by decide +kernel
theorem dX13_goes_132 : decode cX13_goes 132 = .ok (.iastore, 1) := by decide +kernel
theorem dX13_goes_133 : decode cX13_goes 133 = .ok (.goto 189, 3) := by decide +kernel
theorem dX13_goes_136 : decode cX13_goes 136 = .ok (.iload 4, 2) := by decide +kernel
theorem dX13_goes_138 : decode cX13_goes 138 = .ok (.bipush 24, 2) := by decide +kernel
theorem dX13_goes_140 : decode cX13_goes 140 = .ok (.if_icmp .ne 18, 3) := by decide +kernel
theorem dX13_goes_143 : decode cX13_goes 143 = .ok (.aload_n 0, 1) := by decide +kernel
theorem dX13_goes_144 : decode cX13_goes 144 = .ok (.bipush 8, 2) := by decide +kernel
theorem dX13_goes_146 : decode cX13_goes 146 = .ok (.iload 7, 2) := by decide +kernel
theorem dX13_goes_148 : decode cX13_goes 148 = .ok (.iload 8, 2) := by decide +kernel
theorem dX13_goes_150 : decode cX13_goes 150 = .ok (.invokevirtual 385, 3) := by decide +kernel
theorem dX13_goes_153 : decode cX13_goes 153 = .ok (.istore 6, 2) := by decide +kernel
theorem dX13_goes_155 : decode cX13_goes 155 = .ok (.goto 167, 3) := by decide +kernel
theorem dX13_goes_158 : decode cX13_goes 158 = .ok (.iinc 4 1, 3) := by decide +kernel
theorem dX13_goes_161 : decode cX13_goes 161 = .ok (.aload_n 0, 1) := by decide +kernel
theorem dX13_goes_162 : decode cX13_goes 162 = .ok (.getfield 144, 3) := by decide +kernel
theorem dX13_goes_165 : decode cX13_goes 165 = .ok (.iload_n 3, 1) := by decide +kernel
theorem dX13_goes_166 : decode cX13_goes 166 = .ok (.dup2, 1) := by decide +kernel
theorem dX13_goes_167 : decode cX13_goes 167 = .ok (.iaload, 1) := by decide +kernel
theorem dX13_goes_168 : decode cX13_goes 168 = .ok (.iconst 1, 1) := by decide +kernel
theorem dX13_goes_169 : decode cX13_goes 169 = .ok (.iadd, 1) := by decide +kernel
theorem dX13_goes_170 : decode cX13_goes 170 = .ok (.iastore, 1) := by decide +kernel
theorem dX13_goes_171 : decode cX13_goes 171 = .ok (.aload_n 0, 1) := by decide +kernel
theorem dX13_goes_172 : decode cX13_goes 172 = .ok (.getfield 129, 3) := by decide +kernel
theorem dX13_goes_175 : decode cX13_goes 175 = .ok (.iload 9, 2) := by decide +kernel
theorem dX13_goes_177 : decode cX13_goes 177 = .ok (.iaload, 1) := by decide +kernel
theorem dX13_goes_178 : decode cX13_goes 178 = .ok (.bipush 16, 2) := by decide +kernel
theorem dX13_goes_180 : decode cX13_goes 180 = .ok (.if_icmp .ne 15, 3) := by decide +kernel
theorem dX13_goes_183 : decode cX13_goes 183 = .ok (.aload_n 0, 1) := by decide +kernel
theorem dX13_goes_184 : decode cX13_goes 184 = .ok (.iconst 3, 1) := by decide +kernel
theorem dX13_goes_185 : decode cX13_goes 185 = .ok (.invokevirtual 343, 3) := by decide +kernel
theorem dX13_goes_188 : decode cX13_goes 188 = .ok (.iload 4, 2) := by decide +kernel
theorem dX13_goes_190 : decode cX13_goes 190 = .ok (.istore 5, 2) := by decide +kernel
theorem dX13_goes_192 : decode cX13_goes 192 = .ok (.goto 130, 3) := by decide +kernel
theorem dX13_goes_195 : decode cX13_goes 195 = .ok (.aload_n 0, 1) := by decide +kernel
theorem dX13_goes_196 : decode cX13_goes 196 = .ok (.getfield 129, 3) := by decide +kernel
theorem dX13_goes_199 : decode cX13_goes 199 = .ok (.iload 9, 2) := by decide +kernel
theorem dX13_goes_201 : decode cX13_goes 201 = .ok (.iaload, 1) := by decide +kernel
theorem dX13_goes_202 : decode cX13_goes 202 = .ok (.bipush 15, 2) := by decide +kernel
theorem dX13_goes_204 : decode cX13_goes 204 = .ok (.if_icmp .eq 58, 3) := by decide +kernel
theorem dX13_goes_207 : decode cX13_goes 207 = .ok (.aload_n 0, 1) := by decide +kernel
theorem dX13_goes_208 : decode cX13_goes 208 = .ok (.aload_n 0, 1) := by decide +kernel
theorem dX13_goes_209 : decode cX13_goes 209 = .ok (.getfield 129, 3) := by decide +kernel
theorem dX13_goes_212 : decode cX13_goes 212 = .ok (.iload 9, 2) := by decide +kernel
theorem dX13_goes_214 : decode cX13_goes 214 = .ok (.iaload, 1) := by decide +kernel
theorem dX13_goes_215 : decode cX13_goes 215 = .ok (.aload_n 0, 1) := by decide +kernel
theorem dX13_goes_216 : decode cX13_goes 216 = .ok (.getfield 129, 3) := by decide +kernel
theorem dX13_goes_219 : decode cX13_goes 219 = .ok (.iload 9, 2) := by decide +kernel
theorem dX13_goes_221 : decode cX13_goes 221 = .ok (.iconst 1, 1) := by decide +kernel
theorem dX13_goes_222 : decode cX13_goes 222 = .ok (.iadd, 1) := by decide +kernel
theorem dX13_goes_223 : decode cX13_goes 223 = .ok (.iaload, 1) := by decide +kernel
theorem dX13_goes_224 : decode cX13_goes 224 = .ok (.aload_n 0, 1) := by decide +kernel
theorem dX13_goes_225 : decode cX13_goes 225 = .ok (.getfield 129, 3) := by decide +kernel
theorem dX13_goes_228 : decode cX13_goes 228 = .ok (.iload 9, 2) := by decide +kernel
theorem dX13_goes_230 : decode cX13_goes 230 = .ok (.iconst 2, 1) := by decide +kernel
theorem dX13_goes_231 : decode cX13_goes 231 = .ok (.iadd, 1) := by decide +kernel
theorem dX13_goes_232 : decode cX13_goes 232 = .ok (.iaload, 1) := by decide +kernel
theorem dX13_goes_233 : decode cX13_goes 233 = .ok (.invokevirtual 349, 3) := by decide +kernel
theorem dX13_goes_236 : decode cX13_goes 236 = .ok (.istore 10, 2) := by decide +kernel
theorem dX13_goes_238 : decode cX13_goes 238 = .ok (.iload 10, 2) := by decide +kernel
theorem dX13_goes_240 : decode cX13_goes 240 = .ok (.ifCond .ne 7, 3) := by decide +kernel
theorem dX13_goes_243 : decode cX13_goes 243 = .ok (.iconst 0, 1) := by decide +kernel
theorem dX13_goes_244 : decode cX13_goes 244 = .ok (.goto 13, 3) := by decide +kernel
theorem dX13_goes_247 : decode cX13_goes 247 = .ok (.aload_n 0, 1) := by decide +kernel
theorem dX13_goes_248 : decode cX13_goes 248 = .ok (.iload 10, 2) := by decide +kernel
theorem dX13_goes_250 : decode cX13_goes 250 = .ok (.iload 7, 2) := by decide +kernel
theorem dX13_goes_252 : decode cX13_goes 252 = .ok (.iload 8, 2) := by decide +kernel
theorem dX13_goes_254 : decode cX13_goes 254 = .ok (.invokevirtual 385, 3) := by decide +kernel
theorem dX13_goes_257 : decode cX13_goes 257 = .ok (.istore 6, 2) := by decide +kernel
theorem dX13_goes_259 : decode cX13_goes 259 = .ok (.goto 63, 3) := by decide +kernel
theorem dX13_goes_262 : decode cX13_goes 262 = .ok (.iload_n 3, 1) := by decide +kernel
theorem dX13_goes_263 : decode cX13_goes 263 = .ok (.iconst 5, 1) := by decide +kernel
theorem dX13_goes_264 : decode cX13_goes 264 = .ok (.if_icmp .ne 18, 3) := by decide +kernel
theorem dX13_goes_267 : decode cX13_goes 267 = .ok (.aload_n 0, 1) := by decide +kernel
theorem dX13_goes_268 : decode cX13_goes 268 = .ok (.bipush 7, 2) := by decide +kernel
theorem dX13_goes_270 : decode cX13_goes 270 = .ok (.iload 7, 2) := by decide +kernel
theorem dX13_goes_272 : decode cX13_goes 272 = .ok (.iload 8, 2) := by decide +kernel
theorem dX13_goes_274 : decode cX13_goes 274 = .ok (.invokevirtual 385, 3) := by decide +kernel
theorem dX13_goes_277 : decode cX13_goes 277 = .ok (.istore 6, 2) := by decide +kernel
theorem dX13_goes_279 : decode cX13_goes 279 = .ok (.goto 43, 3) := by decide +kernel
theorem dX13_goes_282 : decode cX13_goes 282 = .ok (.iinc 3 1, 3) := by decide +kernel
theorem dX13_goes_285 : decode cX13_goes 285 = .ok (.aload_n 0, 1) := by decide +kernel
theorem dX13_goes_286 : decode cX13_goes 286 = .ok (.getfield 138, 3) := by decide +kernel
theorem dX13_goes_289 : decode cX13_goes 289 = .ok (.iload_n 3, 1) := by decide +kernel
theorem dX13_goes_290 : decode cX13_goes 290 = .ok (.aload_n 0, 1) := by decide +kernel
theorem dX13_goes_291 : decode cX13_goes 291 = .ok (.getfield 129, 3) := by decide +kernel
theorem dX13_goes_294 : decode cX13_goes 294 = .ok (.iload 9, 2) := by decide +kernel
theorem dX13_goes_296 : decode cX13_goes 296 = .ok (.iconst 1, 1) := by decide +kernel
theorem dX13_goes_297 : decode cX13_goes 297 = .ok (.iadd, 1) := by decide +kernel
theorem dX13_goes_298 : decode cX13_goes 298 = .ok (.iaload, 1) := by decide +kernel
theorem dX13_goes_299 : decode cX13_goes 299 = .ok (.iastore, 1) := by decide +kernel
theorem dX13_goes_300 : decode cX13_goes 300 = .ok (.aload_n 0, 1) := by decide +kernel
theorem dX13_goes_301 : decode cX13_goes 301 = .ok (.getfield 141, 3) := by decide +kernel
theorem dX13_goes_304 : decode cX13_goes 304 = .ok (.iload_n 3, 1) := by decide +kernel
theorem dX13_goes_305 : decode cX13_goes 305 = .ok (.aload_n 0, 1) := by decide +kernel
theorem dX13_goes_306 : decode cX13_goes 306 = .ok (.getfield 129, 3) := by decide +kernel
theorem dX13_goes_309 : decode cX13_goes 309 = .ok (.iload 9, 2) := by decide +kernel
theorem dX13_goes_311 : decode cX13_goes 311 = .ok (.iconst 2, 1) := by decide +kernel
theorem dX13_goes_312 : decode cX13_goes 312 = .ok (.iadd, 1) := by decide +kernel
theorem dX13_goes_313 : decode cX13_goes 313 = .ok (.iaload, 1) := by decide +kernel
theorem dX13_goes_314 : decode cX13_goes 314 = .ok (.iastore, 1) := by decide +kernel
theorem dX13_goes_315 : decode cX13_goes 315 = .ok (.aload_n 0, 1) := by decide +kernel
theorem dX13_goes_316 : decode cX13_goes 316 = .ok (.getfield 144, 3) := by decide +kernel
theorem dX13_goes_319 : decode cX13_goes 319 = .ok (.iload_n 3, 1) := by decide +kernel
theorem dX13_goes_320 : decode cX13_goes 320 = .ok (.iconst 0, 1) := by decide +kernel
theorem dX13_goes_321 : decode cX13_goes 321 = .ok (.iastore, 1) := by decide +kernel
theorem dX13_goes_322 : decode cX13_goes 322 = .ok (.goto (-280), 3) := by decide +kernel
theorem dX13_goes_325 : decode cX13_goes 325 = .ok (.iload 6, 2) := by decide +kernel
theorem dX13_goes_327 : decode cX13_goes 327 = .ok (.ifCond .le 9, 3) := by decide +kernel
theorem dX13_goes_330 : decode cX13_goes 330 = .ok (.aload_n 0, 1) := by decide +kernel
theorem dX13_goes_331 : decode cX13_goes 331 = .ok (.iconst 3, 1) := by decide +kernel
theorem dX13_goes_332 : decode cX13_goes 332 = .ok (.iconst 0, 1) := by decide +kernel
theorem dX13_goes_333 : decode cX13_goes 333 = .ok (.invokevirtual 287, 3) := by decide +kernel
theorem dX13_goes_336 : decode cX13_goes 336 = .ok (.iload 6, 2) := by decide +kernel
theorem dX13_goes_338 : decode cX13_goes 338 = .ok (.ifCond .le 8, 3) := by decide +kernel
theorem dX13_goes_341 : decode cX13_goes 341 = .ok (.iload 5, 2) := by decide +kernel
theorem dX13_goes_343 : decode cX13_goes 343 = .ok (.goto 5, 3) := by decide +kernel
theorem dX13_goes_346 : decode cX13_goes 346 = .ok (.iload 4, 2) := by decide +kernel
theorem dX13_goes_348 : decode cX13_goes 348 = .ok (.ireturn, 1) := by decide +kernel
set_option maxRecDepth 4000 in
theorem c_goes (γ : LC) (μ : MU) (w : Mm) (m k S P M : Int) (R : Int × Int × Int × Mm) (hm3 : 0 ≤ m ∧ m ≤ 3) (hk : 1 ≤ k ∧ k ≤ 10) (hG : GI μ S P M 1 0 (m_gst μ m k w)) (hrun0 : m_grun μ 5000 1 0 0 0 (m_gst μ m k w) = some R) (hS : S ≤ 28900) (hP : P ≤ 500000) (hM : M ≤ 590) : CMi γ μ 6 mX13_goes [.int (I m), .int (I k)] w (fun r w' => r = (m_gen μ R).1 ∧ w' = (m_gen μ R).2) := by
  refine CMi_of rfl (by simp [rv_cat, Value.category]) rfl ?_
  rintro κ hO hF rfl hR
  have hD := hF.dp
  show X κ 0 0 w 0 [some (rv μ.1), some (.int (I m)), some (.int (I k)), none, none, none, none, none, none, none, none] []
  refine X_iconst 1 hO dX13_goes_0 rfl ?_
  refine X_istore_n 2 hO dX13_goes_1 rfl rfl ?_
  refine X_iconst 3 hO dX13_goes_2 rfl ?_
  refine X_istore 5 hO dX13_goes_3 rfl rfl ?_
  refine X_iconst 6 hO dX13_goes_5 rfl ?_
  refine X_istore 8 hO dX13_goes_6 rfl rfl ?_
  refine X_iconst 9 hO dX13_goes_8 rfl ?_
  refine X_istore 11 hO dX13_goes_9 rfl rfl ?_
  refine X_aload_n 12 hO dX13_goes_11 rfl rfl ?_
  refine ga_138 15 hO hR dX13_goes_12 rfl ?_
  refine X_iconst 16 hO dX13_goes_15 rfl ?_
  refine X_iload_n 17 hO dX13_goes_16 rfl rfl ?_
  refine ma_st (L := 6) (c := 237) 18 hO hR rfl rfl rfl dX13_goes_17 rfl (by omega) (by omega) (by omega) (fun hR => ?_)
  refine X_aload_n 19 hO dX13_goes_18 rfl rfl ?_
  refine ga_141 22 hO hR dX13_goes_19 rfl ?_
  refine X_iconst 23 hO dX13_goes_22 rfl ?_
  refine X_iload_n 24 hO dX13_goes_23 rfl rfl ?_
  refine ma_st (L := 6) (c := 238) 25 hO hR rfl rfl rfl dX13_goes_24 rfl (by omega) (by omega) (by omega) (fun hR => ?_)
  refine X_aload_n 26 hO dX13_goes_25 rfl rfl ?_
  refine ga_144 29 hO hR dX13_goes_26 rfl ?_
  refine X_iconst 30 hO dX13_goes_29 rfl ?_
  refine X_iconst 31 hO dX13_goes_30 rfl ?_
  refine ma_st (L := 6) (c := 239) 32 hO hR rfl rfl rfl dX13_goes_31 rfl (by omega) (by omega) (by omega) (fun hR => ?_)
  refine X_aload_n 33 hO dX13_goes_32 rfl rfl ?_
  refine X_iconst 34 hO dX13_goes_33 rfl ?_
  refine pa_382 37 hO hR dX13_goes_34 rfl (by omega) (fun hR => ?_)
  refine X_aload_n 38 hO dX13_goes_37 rfl rfl ?_
  refine X_iconst 39 hO dX13_goes_38 rfl ?_
  refine pa_147 42 hO hR dX13_goes_39 rfl (by omega) (fun hR => ?_)
  have LP42 : ∀ (n : Nat) (f : Nat) (l s t r0 : Int) (W : Mm), f < n → (GI μ S P M l s W) → (0 ≤ l) → (0 ≤ t ∧ t ≤ 24) → (0 ≤ r0 ∧ r0 ≤ 8) → (m_grun μ f l s t r0 W = some R) → RM (W) μ → X κ 0 0 (W) 42 [some (rv μ.1), some (.int (I m)), some (.int (I k)), some (.int (I l)), some (.int (I s)), some (.int (I t)), some (.int (I r0)), none, none, none, none] [] := by
    intro n
    induction n with
    | zero => intro f l s t r0 W hm; exact absurd hm (Nat.not_lt_zero _)
    | succ n ih =>
      intro f l s t r0 W hm hI hl0 ht hr0 hrun hR
      cases f with
      | zero => exact absurd hrun (by unfold m_grun; exact fun h => nomatch h)
      | succ n' =>
      obtain ⟨hI1, hI2, hI3, hI4⟩ := hI
      obtain ⟨f1, f2, f3, f4, f5⟩ := hI1.f
      have hI : GI μ S P M l s W := ⟨hI1, hI2, hI3, hI4⟩
      refine X_iload_n 43 hO dX13_goes_42 rfl rfl ?_
      refine X_if_le 46 325 hO dX13_goes_43 rfl rfl (by omega) (fun hc_43 => ?_) (fun hc_43 => ?_)
      ·
        rw [grun_step, if_pos (by omega)] at hrun
        cases hrun
        refine X_iload 327 hO dX13_goes_325 rfl rfl ?_
        refine X_if_le 330 336 hO dX13_goes_327 rfl rfl (by omega) (fun hc_327 => ?_) (fun hc_327 => ?_)
        ·
          refine X_iload 338 hO dX13_goes_336 rfl rfl ?_
          refine X_if_le 341 346 hO dX13_goes_338 rfl rfl (by omega) (fun hc_338 => ?_) (fun hc_338 => ?_)
          ·
            refine X_iload 348 hO dX13_goes_346 rfl rfl ?_
            exact XM_iret hO hF hR rfl (by first | exact Or.inl rfl | exact Or.inr ⟨rfl, bi_01 _⟩ | exact Or.inr ⟨rfl, by omega⟩) dX13_goes_348 (by omega) (by first | (exfalso; omega) | (unfold m_gen; dsimp only; (repeat (first | rw [if_pos (by omega)] | rw [if_neg (by omega)])); exact ⟨rfl, rfl⟩))
          ·
            refine X_iload 343 hO dX13_goes_341 rfl rfl ?_
            refine X_goto hO dX13_goes_343 (tgt := 348) rfl ?_
            exact XM_iret hO hF hR rfl (by first | exact Or.inl rfl | exact Or.inr ⟨rfl, bi_01 _⟩ | exact Or.inr ⟨rfl, by omega⟩) dX13_goes_348 (by omega) (by first | (exfalso; omega) | (unfold m_gen; dsimp only; (repeat (first | rw [if_pos (by omega)] | rw [if_neg (by omega)])); exact ⟨rfl, rfl⟩))
        ·
          refine X_aload_n 331 hO dX13_goes_330 rfl rfl ?_
          refine X_iconst 332 hO dX13_goes_331 rfl ?_
          refine X_iconst 333 hO dX13_goes_332 rfl ?_
          refine XM_callVv 336 hO hD hR lX13_287 [_, _] rfl dX13_goes_333 rfl (c_restores _ _ _ _ _ (by omega) (by omega) hI2.2.1.1.1) (by decide) (by simp only [List.map_cons, List.map_nil, rv_cat]; exact Nat.le_of_ble_eq_true rfl) (fun w_333 hp_333 hR => ?_)
          subst hp_333
          refine X_iload 338 hO dX13_goes_336 rfl rfl ?_
          refine X_if_le 341 346 hO dX13_goes_338 rfl rfl (by omega) (fun hc_338 => ?_) (fun hc_338 => ?_)
          ·
            refine X_iload 348 hO dX13_goes_346 rfl rfl ?_
            exact XM_iret hO hF hR rfl (by first | exact Or.inl rfl | exact Or.inr ⟨rfl, bi_01 _⟩ | exact Or.inr ⟨rfl, by omega⟩) dX13_goes_348 (by omega) (by first | (exfalso; omega) | (unfold m_gen; dsimp only; (repeat (first | rw [if_pos (by omega)] | rw [if_neg (by omega)])); exact ⟨rfl, rfl⟩))
          ·
            refine X_iload 343 hO dX13_goes_341 rfl rfl ?_
            refine X_goto hO dX13_goes_343 (tgt := 348) rfl ?_
            exact XM_iret hO hF hR rfl (by first | exact Or.inl rfl | exact Or.inr ⟨rfl, bi_01 _⟩ | exact Or.inr ⟨rfl, by omega⟩) dX13_goes_348 (by omega) (by first | (exfalso; omega) | (unfold m_gen; dsimp only; (repeat (first | rw [if_pos (by omega)] | rw [if_neg (by omega)])); exact ⟨rfl, rfl⟩))
      ·
        refine X_iload 48 hO dX13_goes_46 rfl rfl ?_
        refine X_if_ne 51 325 hO dX13_goes_48 rfl rfl (by omega) (fun hc_48 => ?_) (fun hc_48 => ?_)
        ·
          rw [grun_step, if_pos (by omega)] at hrun
          cases hrun
          refine X_iload 327 hO dX13_goes_325 rfl rfl ?_
          refine X_if_le 330 336 hO dX13_goes_327 rfl rfl (by omega) (fun hc_327 => ?_) (fun hc_327 => ?_)
          ·
            refine X_iload 338 hO dX13_goes_336 rfl rfl ?_
            refine X_if_le 341 346 hO dX13_goes_338 rfl rfl (by omega) (fun hc_338 => ?_) (fun hc_338 => ?_)
            ·
              refine X_iload 348 hO dX13_goes_346 rfl rfl ?_
              exact XM_iret hO hF hR rfl (by first | exact Or.inl rfl | exact Or.inr ⟨rfl, bi_01 _⟩ | exact Or.inr ⟨rfl, by omega⟩) dX13_goes_348 (by omega) (by first | (exfalso; omega) | (unfold m_gen; dsimp only; (repeat (first | rw [if_pos (by omega)] | rw [if_neg (by omega)])); exact ⟨rfl, rfl⟩))
            ·
              refine X_iload 343 hO dX13_goes_341 rfl rfl ?_
              refine X_goto hO dX13_goes_343 (tgt := 348) rfl ?_
              exact XM_iret hO hF hR rfl (by first | exact Or.inl rfl | exact Or.inr ⟨rfl, bi_01 _⟩ | exact Or.inr ⟨rfl, by omega⟩) dX13_goes_348 (by omega) (by first | (exfalso; omega) | (unfold m_gen; dsimp only; (repeat (first | rw [if_pos (by omega)] | rw [if_neg (by omega)])); exact ⟨rfl, rfl⟩))
          ·
            refine X_aload_n 331 hO dX13_goes_330 rfl rfl ?_
            refine X_iconst 332 hO dX13_goes_331 rfl ?_
            refine X_iconst 333 hO dX13_goes_332 rfl ?_
            refine XM_callVv 336 hO hD hR lX13_287 [_, _] rfl dX13_goes_333 rfl (c_restores _ _ _ _ _ (by omega) (by omega) hI2.2.1.1.1) (by decide) (by simp only [List.map_cons, List.map_nil, rv_cat]; exact Nat.le_of_ble_eq_true rfl) (fun w_333 hp_333 hR => ?_)
            subst hp_333
            refine X_iload 338 hO dX13_goes_336 rfl rfl ?_
            refine X_if_le 341 346 hO dX13_goes_338 rfl rfl (by omega) (fun hc_338 => ?_) (fun hc_338 => ?_)
            ·
              refine X_iload 348 hO dX13_goes_346 rfl rfl ?_
              exact XM_iret hO hF hR rfl (by first | exact Or.inl rfl | exact Or.inr ⟨rfl, bi_01 _⟩ | exact Or.inr ⟨rfl, by omega⟩) dX13_goes_348 (by omega) (by first | (exfalso; omega) | (unfold m_gen; dsimp only; (repeat (first | rw [if_pos (by omega)] | rw [if_neg (by omega)])); exact ⟨rfl, rfl⟩))
            ·
              refine X_iload 343 hO dX13_goes_341 rfl rfl ?_
              refine X_goto hO dX13_goes_343 (tgt := 348) rfl ?_
              exact XM_iret hO hF hR rfl (by first | exact Or.inl rfl | exact Or.inr ⟨rfl, bi_01 _⟩ | exact Or.inr ⟨rfl, by omega⟩) dX13_goes_348 (by omega) (by first | (exfalso; omega) | (unfold m_gen; dsimp only; (repeat (first | rw [if_pos (by omega)] | rw [if_neg (by omega)])); exact ⟨rfl, rfl⟩))
        ·
          obtain ⟨i1, i2, i3, i4⟩ := hI.f (l := l) (by omega)
          refine X_aload_n 52 hO dX13_goes_51 rfl rfl ?_
          refine ga_138 55 hO hR dX13_goes_52 rfl ?_
          refine X_iload_n 56 hO dX13_goes_55 rfl rfl ?_
          refine ma_ld (L := 6) (c := 237) 57 hO hR rfl rfl rfl dX13_goes_56 rfl (by omega) (by omega) (fun hi_56 => ?_)
          try simp (disch := decide) only [up_k, up_s, step_at, pool_at, poolN_at, opens_at, closes_at, fl_at, del_at, ins_at, rep_at, psh_at, trn_at, tak_at, pEn_at, cpQ_at, cpP_at, cpT_at, ti_at, th_at, rec_at, saves_at] at hi_56 ⊢
          refine X_istore 59 hO dX13_goes_57 rfl rfl ?_
          refine X_aload_n 60 hO dX13_goes_59 rfl rfl ?_
          refine ga_144 63 hO hR dX13_goes_60 rfl ?_
          refine X_iload_n 64 hO dX13_goes_63 rfl rfl ?_
          refine ma_ld (L := 6) (c := 239) 65 hO hR rfl rfl rfl dX13_goes_64 rfl (by omega) (by omega) (fun hi_64 => ?_)
          try simp (disch := decide) only [up_k, up_s, step_at, pool_at, poolN_at, opens_at, closes_at, fl_at, del_at, ins_at, rep_at, psh_at, trn_at, tak_at, pEn_at, cpQ_at, cpP_at, cpT_at, ti_at, th_at, rec_at, saves_at] at hi_64 ⊢
          refine X_istore 67 hO dX13_goes_65 rfl rfl ?_
          refine X_bipush 69 hO dX13_goes_67 rfl (by decide) ?_
          refine X_iload 71 hO dX13_goes_69 rfl rfl ?_
          refine X_imul 72 hO dX13_goes_71 rfl ?_
          refine X_iconst 73 hO dX13_goes_72 rfl ?_
          refine X_iload 75 hO dX13_goes_73 rfl rfl ?_
          refine X_imul 76 hO dX13_goes_75 rfl ?_
          refine X_iadd 77 hO dX13_goes_76 rfl ?_
          refine X_istore 79 hO dX13_goes_77 rfl rfl ?_
          refine X_aload_n 80 hO dX13_goes_79 rfl rfl ?_
          refine ga_141 83 hO hR dX13_goes_80 rfl ?_
          refine X_iload_n 84 hO dX13_goes_83 rfl rfl ?_
          refine ma_ld (L := 6) (c := 238) 85 hO hR rfl rfl rfl dX13_goes_84 rfl (by omega) (by omega) (fun hi_84 => ?_)
          try simp (disch := decide) only [up_k, up_s, step_at, pool_at, poolN_at, opens_at, closes_at, fl_at, del_at, ins_at, rep_at, psh_at, trn_at, tak_at, pEn_at, cpQ_at, cpP_at, cpT_at, ti_at, th_at, rec_at, saves_at] at hi_84 ⊢
          refine X_if_eq 88 98 hO dX13_goes_85 rfl rfl (by omega) (fun hc_85 => ?_) (fun hc_85 => ?_)
          ·
            rw [grun_step, if_neg (by omega), if_pos (by omega)] at hrun
            refine X_iinc 101 hO dX13_goes_98 rfl rfl ?_
            refine X_goto hO dX13_goes_101 (tgt := 322) rfl ?_
            refine X_goto hO dX13_goes_322 (tgt := 42) rfl ?_
            (first | exact X_wk (by simp only [lwk, lset, true_or, or_true, and_self]) (ih n' (l + -1) s t r0 _ (by omega) hI.pop (by omega) (by omega) (by omega) hrun hR) | exact X_wk (by simp only [lwk, lset, true_or, or_true, and_self]) (ih n' l s t r0 _ (by omega) (hI.nx (by omega) (by omega)) (by omega) (by omega) (by omega) hrun hR) | exact X_wk (by simp only [lwk, lset, true_or, or_true, and_self]) (ih n' l s t 8 _ (by omega) hI.fl (by omega) (by omega) (by omega) hrun hR) | exact X_wk (by simp only [lwk, lset, true_or, or_true, and_self]) (ih n' l (s + 1) (s + 1) r0 _ (by omega) hOn.sv (by omega) (by omega) (by omega) hrun hR) | exact X_wk (by simp only [lwk, lset, true_or, or_true, and_self]) (ih n' l (s + 1) t 0 _ (by omega) hDs (by omega) (by omega) (by omega) hrun hR) | exact X_wk (by simp only [lwk, lset, true_or, or_true, and_self]) (ih n' l (s + 1) t _ _ (by omega) hDs.fl (by omega) (by omega) (by omega) hrun hR) | exact X_wk (by simp only [lwk, lset, true_or, or_true, and_self]) (ih n' l (s + 1) t 7 _ (by omega) hOn.fl (by omega) (by omega) (by omega) hrun hR) | exact X_wk (by simp only [lwk, lset, true_or, or_true, and_self]) (ih n' (l + 1) (s + 1) t r0 _ (by omega) (hOn.dn (by omega) h15.1 (by omega)) (by omega) (by omega) (by omega) hrun hR))
          ·
            refine X_aload_n 89 hO dX13_goes_88 rfl rfl ?_
            refine ga_132 92 hO hR dX13_goes_89 rfl ?_
            refine X_iload 94 hO dX13_goes_92 rfl rfl ?_
            refine ma_ld (L := 5) (c := 236) 95 hO hR rfl rfl rfl dX13_goes_94 rfl (by omega) (by omega) (fun hi_94 => ?_)
            try simp (disch := decide) only [up_k, up_s, step_at, pool_at, poolN_at, opens_at, closes_at, fl_at, del_at, ins_at, rep_at, psh_at, trn_at, tak_at, pEn_at, cpQ_at, cpP_at, cpT_at, ti_at, th_at, rec_at, saves_at] at hi_94 ⊢
            refine X_if_ne 98 104 hO dX13_goes_95 rfl rfl (by omega) (fun hc_95 => ?_) (fun hc_95 => ?_)
            ·
              rw [grun_step, if_neg (by omega), if_neg (by omega)] at hrun
              unfold m_gdo m_gat m_gpl at hrun
              refine X_iload 106 hO dX13_goes_104 rfl rfl ?_
              refine X_aload_n 107 hO dX13_goes_106 rfl rfl ?_
              refine ga_132 110 hO hR dX13_goes_107 rfl ?_
              refine X_iload 112 hO dX13_goes_110 rfl rfl ?_
              refine ma_ld (L := 5) (c := 236) 113 hO hR rfl rfl rfl dX13_goes_112 rfl (by omega) (by omega) (fun hi_112 => ?_)
              try simp (disch := decide) only [up_k, up_s, step_at, pool_at, poolN_at, opens_at, closes_at, fl_at, del_at, ins_at, rep_at, psh_at, trn_at, tak_at, pEn_at, cpQ_at, cpP_at, cpT_at, ti_at, th_at, rec_at, saves_at] at hi_112 ⊢
              refine X_icmp_ne 116 136 hO dX13_goes_113 rfl rfl (by omega) (by omega) (fun hc_113 => ?_) (fun hc_113 => ?_)
              ·
                rw [if_neg (by omega)] at hrun
                refine X_iload 138 hO dX13_goes_136 rfl rfl ?_
                refine X_bipush 140 hO dX13_goes_138 rfl (by decide) ?_
                refine X_icmp_ne 143 158 hO dX13_goes_140 rfl rfl (by omega) (by omega) (fun hc_140 => ?_) (fun hc_140 => ?_)
                ·
                  rw [if_neg (by omega)] at hrun
                  have hOn := hI.on (by omega) (by omega) (by omega)
                  have h0 : LB μ (S + 2 * s) (P + 20 * s) (m_gpl l W) := hI.1.up_o (by decide)
                  obtain ⟨hcv, hat, hm4, hp15⟩ := hI.cv (by omega) (by omega)
                  unfold m_gat at hcv hat
                  unfold m_gpl at hOn h0
                  refine X_iinc 161 hO dX13_goes_158 rfl rfl ?_
                  refine X_aload_n 162 hO dX13_goes_161 rfl rfl ?_
                  refine ga_144 165 hO hR dX13_goes_162 rfl ?_
                  refine X_iload_n 166 hO dX13_goes_165 rfl rfl ?_
                  refine X_dup2 167 hO dX13_goes_166 rfl (by first | rfl | exact rv_cat _) (by first | rfl | exact rv_cat _) ?_
                  refine ma_ld (L := 6) (c := 239) 168 hO hR rfl rfl rfl dX13_goes_167 rfl (by omega) (by omega) (fun hi_167 => ?_)
                  try simp (disch := decide) only [up_k, up_s, step_at, pool_at, poolN_at, opens_at, closes_at, fl_at, del_at, ins_at, rep_at, psh_at, trn_at, tak_at, pEn_at, cpQ_at, cpP_at, cpT_at, ti_at, th_at, rec_at, saves_at] at hi_167 ⊢
                  refine X_iconst 169 hO dX13_goes_168 rfl ?_
                  refine X_iadd 170 hO dX13_goes_169 rfl ?_
                  refine ma_st (L := 6) (c := 239) 171 hO hR rfl rfl rfl dX13_goes_170 rfl (by omega) (by omega) (by omega) (fun hR => ?_)
                  refine X_aload_n 172 hO dX13_goes_171 rfl rfl ?_
                  refine ga_129 175 hO hR dX13_goes_172 rfl ?_
                  refine X_iload 177 hO dX13_goes_175 rfl rfl ?_
                  refine ma_ld (L := 240) (c := 235) 178 hO hR rfl rfl rfl dX13_goes_177 rfl (by omega) (by omega) (fun hi_177 => ?_)
                  try simp (disch := decide) only [up_k, up_s, step_at, pool_at, poolN_at, opens_at, closes_at, fl_at, del_at, ins_at, rep_at, psh_at, trn_at, tak_at, pEn_at, cpQ_at, cpP_at, cpT_at, ti_at, th_at, rec_at, saves_at] at hi_177 ⊢
                  refine X_bipush 180 hO dX13_goes_178 rfl (by decide) ?_
                  refine X_icmp_ne 183 195 hO dX13_goes_180 rfl rfl (by omega) (by omega) (fun hc_180 => ?_) (fun hc_180 => ?_)
                  ·
                    rw [if_neg (by omega)] at hrun
                    refine X_aload_n 196 hO dX13_goes_195 rfl rfl ?_
                    refine ga_129 199 hO hR dX13_goes_196 rfl ?_
                    refine X_iload 201 hO dX13_goes_199 rfl rfl ?_
                    refine ma_ld (L := 240) (c := 235) 202 hO hR rfl rfl rfl dX13_goes_201 rfl (by omega) (by omega) (fun hi_201 => ?_)
                    try simp (disch := decide) only [up_k, up_s, step_at, pool_at, poolN_at, opens_at, closes_at, fl_at, del_at, ins_at, rep_at, psh_at, trn_at, tak_at, pEn_at, cpQ_at, cpP_at, cpT_at, ti_at, th_at, rec_at, saves_at] at hi_201 ⊢
                    refine X_bipush 204 hO dX13_goes_202 rfl (by decide) ?_
                    refine X_icmp_eq 207 262 hO dX13_goes_204 rfl rfl (by omega) (by omega) (fun hc_204 => ?_) (fun hc_204 => ?_)
                    ·
                      rw [if_neg (by omega)] at hrun
                      have h15 : (0 ≤ W 235 0 ((48 * W 237 0 l + 3 * W 239 0 l) + 1) ∧ W 235 0 ((48 * W 237 0 l + 3 * W 239 0 l) + 1) ≤ 3) ∧ (1 ≤ W 235 0 ((48 * W 237 0 l + 3 * W 239 0 l) + 2) ∧ W 235 0 ((48 * W 237 0 l + 3 * W 239 0 l) + 2) ≤ 10) := by unfold CV at hcv; omega
                      refine X_iload_n 263 hO dX13_goes_262 rfl rfl ?_
                      refine X_iconst 264 hO dX13_goes_263 rfl ?_
                      refine X_icmp_ne 267 282 hO dX13_goes_264 rfl rfl (by omega) (by omega) (fun hc_264 => ?_) (fun hc_264 => ?_)
                      ·
                        rw [if_neg (by omega)] at hrun
                        refine X_iinc 285 hO dX13_goes_282 rfl rfl ?_
                        refine X_aload_n 286 hO dX13_goes_285 rfl rfl ?_
                        refine ga_138 289 hO hR dX13_goes_286 rfl ?_
                        refine X_iload_n 290 hO dX13_goes_289 rfl rfl ?_
                        refine X_aload_n 291 hO dX13_goes_290 rfl rfl ?_
                        refine ga_129 294 hO hR dX13_goes_291 rfl ?_
                        refine X_iload 296 hO dX13_goes_294 rfl rfl ?_
                        refine X_iconst 297 hO dX13_goes_296 rfl ?_
                        refine X_iadd 298 hO dX13_goes_297 rfl ?_
                        refine ma_ld (L := 240) (c := 235) 299 hO hR rfl rfl rfl dX13_goes_298 rfl (by omega) (by omega) (fun hi_298 => ?_)
                        try simp (disch := decide) only [up_k, up_s, step_at, pool_at, poolN_at, opens_at, closes_at, fl_at, del_at, ins_at, rep_at, psh_at, trn_at, tak_at, pEn_at, cpQ_at, cpP_at, cpT_at, ti_at, th_at, rec_at, saves_at] at hi_298 ⊢
                        refine ma_st (L := 6) (c := 237) 300 hO hR rfl rfl rfl dX13_goes_299 rfl (by omega) (by omega) (by omega) (fun hR => ?_)
                        refine X_aload_n 301 hO dX13_goes_300 rfl rfl ?_
                        refine ga_141 304 hO hR dX13_goes_301 rfl ?_
                        refine X_iload_n 305 hO dX13_goes_304 rfl rfl ?_
                        refine X_aload_n 306 hO dX13_goes_305 rfl rfl ?_
                        refine ga_129 309 hO hR dX13_goes_306 rfl ?_
                        refine X_iload 311 hO dX13_goes_309 rfl rfl ?_
                        refine X_iconst 312 hO dX13_goes_311 rfl ?_
                        refine X_iadd 313 hO dX13_goes_312 rfl ?_
                        refine ma_ld (L := 240) (c := 235) 314 hO hR rfl rfl rfl dX13_goes_313 rfl (by omega) (by omega) (fun hi_313 => ?_)
                        try simp (disch := decide) only [up_k, up_s, step_at, pool_at, poolN_at, opens_at, closes_at, fl_at, del_at, ins_at, rep_at, psh_at, trn_at, tak_at, pEn_at, cpQ_at, cpP_at, cpT_at, ti_at, th_at, rec_at, saves_at] at hi_313 ⊢
                        refine ma_st (L := 6) (c := 238) 315 hO hR rfl rfl rfl dX13_goes_314 rfl (by omega) (by omega) (by omega) (fun hR => ?_)
                        refine X_aload_n 316 hO dX13_goes_315 rfl rfl ?_
                        refine ga_144 319 hO hR dX13_goes_316 rfl ?_
                        refine X_iload_n 320 hO dX13_goes_319 rfl rfl ?_
                        refine X_iconst 321 hO dX13_goes_320 rfl ?_
                        refine ma_st (L := 6) (c := 239) 322 hO hR rfl rfl rfl dX13_goes_321 rfl (by omega) (by omega) (by omega) (fun hR => ?_)
                        refine X_goto hO dX13_goes_322 (tgt := 42) rfl ?_
                        (first | exact X_wk (by simp only [lwk, lset, true_or, or_true, and_self]) (ih n' (l + -1) s t r0 _ (by omega) hI.pop (by omega) (by omega) (by omega) hrun hR) | exact X_wk (by simp only [lwk, lset, true_or, or_true, and_self]) (ih n' l s t r0 _ (by omega) (hI.nx (by omega) (by omega)) (by omega) (by omega) (by omega) hrun hR) | exact X_wk (by simp only [lwk, lset, true_or, or_true, and_self]) (ih n' l s t 8 _ (by omega) hI.fl (by omega) (by omega) (by omega) hrun hR) | exact X_wk (by simp only [lwk, lset, true_or, or_true, and_self]) (ih n' l (s + 1) (s + 1) r0 _ (by omega) hOn.sv (by omega) (by omega) (by omega) hrun hR) | exact X_wk (by simp only [lwk, lset, true_or, or_true, and_self]) (ih n' l (s + 1) t 0 _ (by omega) hDs (by omega) (by omega) (by omega) hrun hR) | exact X_wk (by simp only [lwk, lset, true_or, or_true, and_self]) (ih n' l (s + 1) t _ _ (by omega) hDs.fl (by omega) (by omega) (by omega) hrun hR) | exact X_wk (by simp only [lwk, lset, true_or, or_true, and_self]) (ih n' l (s + 1) t 7 _ (by omega) hOn.fl (by omega) (by omega) (by omega) hrun hR) | exact X_wk (by simp only [lwk, lset, true_or, or_true, and_self]) (ih n' (l + 1) (s + 1) t r0 _ (by omega) (hOn.dn (by omega) h15.1 (by omega)) (by omega) (by omega) (by omega) hrun hR))
                      ·
                        rw [if_pos (by omega)] at hrun
                        refine X_aload_n 268 hO dX13_goes_267 rfl rfl ?_
                        refine X_bipush 270 hO dX13_goes_268 rfl (by decide) ?_
                        refine X_iload 272 hO dX13_goes_270 rfl rfl ?_
                        refine X_iload 274 hO dX13_goes_272 rfl rfl ?_
                        refine XM_callVi 277 hO hD hR lX13_385 [_, _, _] rfl dX13_goes_274 rfl (c_fails _ _ _ _ _ _ (by omega) (by omega) (by omega)) (by decide) (by simp only [List.map_cons, List.map_nil, rv_cat]; exact Nat.le_of_ble_eq_true rfl) (fun r_274 w_274 hr_274 hp_274 hR => ?_)
                        obtain ⟨e1_274, e2_274⟩ := hp_274
                        subst e1_274
                        subst e2_274
                        refine X_istore 279 hO dX13_goes_277 rfl rfl ?_
                        refine X_goto hO dX13_goes_279 (tgt := 322) rfl ?_
                        refine X_goto hO dX13_goes_322 (tgt := 42) rfl ?_
                        (first | exact X_wk (by simp only [lwk, lset, true_or, or_true, and_self]) (ih n' (l + -1) s t r0 _ (by omega) hI.pop (by omega) (by omega) (by omega) hrun hR) | exact X_wk (by simp only [lwk, lset, true_or, or_true, and_self]) (ih n' l s t r0 _ (by omega) (hI.nx (by omega) (by omega)) (by omega) (by omega) (by omega) hrun hR) | exact X_wk (by simp only [lwk, lset, true_or, or_true, and_self]) (ih n' l s t 8 _ (by omega) hI.fl (by omega) (by omega) (by omega) hrun hR) | exact X_wk (by simp only [lwk, lset, true_or, or_true, and_self]) (ih n' l (s + 1) (s + 1) r0 _ (by omega) hOn.sv (by omega) (by omega) (by omega) hrun hR) | exact X_wk (by simp only [lwk, lset, true_or, or_true, and_self]) (ih n' l (s + 1) t 0 _ (by omega) hDs (by omega) (by omega) (by omega) hrun hR) | exact X_wk (by simp only [lwk, lset, true_or, or_true, and_self]) (ih n' l (s + 1) t _ _ (by omega) hDs.fl (by omega) (by omega) (by omega) hrun hR) | exact X_wk (by simp only [lwk, lset, true_or, or_true, and_self]) (ih n' l (s + 1) t 7 _ (by omega) hOn.fl (by omega) (by omega) (by omega) hrun hR) | exact X_wk (by simp only [lwk, lset, true_or, or_true, and_self]) (ih n' (l + 1) (s + 1) t r0 _ (by omega) (hOn.dn (by omega) h15.1 (by omega)) (by omega) (by omega) (by omega) hrun hR))
                    ·
                      rw [if_pos (by omega)] at hrun
                      have hc14 : W 235 0 (48 * W 237 0 l + 3 * W 239 0 l) ≤ 14 := by have := hcv.1; omega
                      have hDs := hI.ds (by omega) hOn h0 hcv hc14
                      have hd8 := does_nn (μ := μ) (c := W 235 0 (48 * W 237 0 l + 3 * W 239 0 l)) (a := W 235 0 ((48 * W 237 0 l + 3 * W 239 0 l) + 1)) (b := W 235 0 ((48 * W 237 0 l + 3 * W 239 0 l) + 2)) (w := up W 239 0 l (W 239 0 l + 1))
                      refine X_aload_n 208 hO dX13_goes_207 rfl rfl ?_
                      refine X_aload_n 209 hO dX13_goes_208 rfl rfl ?_
                      refine ga_129 212 hO hR dX13_goes_209 rfl ?_
                      refine X_iload 214 hO dX13_goes_212 rfl rfl ?_
                      refine ma_ld (L := 240) (c := 235) 215 hO hR rfl rfl rfl dX13_goes_214 rfl (by omega) (by omega) (fun hi_214 => ?_)
                      try simp (disch := decide) only [up_k, up_s, step_at, pool_at, poolN_at, opens_at, closes_at, fl_at, del_at, ins_at, rep_at, psh_at, trn_at, tak_at, pEn_at, cpQ_at, cpP_at, cpT_at, ti_at, th_at, rec_at, saves_at] at hi_214 ⊢
                      refine X_aload_n 216 hO dX13_goes_215 rfl rfl ?_
                      refine ga_129 219 hO hR dX13_goes_216 rfl ?_
                      refine X_iload 221 hO dX13_goes_219 rfl rfl ?_
                      refine X_iconst 222 hO dX13_goes_221 rfl ?_
                      refine X_iadd 223 hO dX13_goes_222 rfl ?_
                      refine ma_ld (L := 240) (c := 235) 224 hO hR rfl rfl rfl dX13_goes_223 rfl (by omega) (by omega) (fun hi_223 => ?_)
                      try simp (disch := decide) only [up_k, up_s, step_at, pool_at, poolN_at, opens_at, closes_at, fl_at, del_at, ins_at, rep_at, psh_at, trn_at, tak_at, pEn_at, cpQ_at, cpP_at, cpT_at, ti_at, th_at, rec_at, saves_at] at hi_223 ⊢
                      refine X_aload_n 225 hO dX13_goes_224 rfl rfl ?_
                      refine ga_129 228 hO hR dX13_goes_225 rfl ?_
                      refine X_iload 230 hO dX13_goes_228 rfl rfl ?_
                      refine X_iconst 231 hO dX13_goes_230 rfl ?_
                      refine X_iadd 232 hO dX13_goes_231 rfl ?_
                      refine ma_ld (L := 240) (c := 235) 233 hO hR rfl rfl rfl dX13_goes_232 rfl (by omega) (by omega) (fun hi_232 => ?_)
                      try simp (disch := decide) only [up_k, up_s, step_at, pool_at, poolN_at, opens_at, closes_at, fl_at, del_at, ins_at, rep_at, psh_at, trn_at, tak_at, pEn_at, cpQ_at, cpP_at, cpT_at, ti_at, th_at, rec_at, saves_at] at hi_232 ⊢
                      refine XM_callVi 236 hO hD hR lX13_349 [_, _, _] rfl dX13_goes_233 rfl (c_does _ _ _ _ _ _ _ _ hcv hc14 h0 (by omega) (by omega)) (by decide) (by simp only [List.map_cons, List.map_nil, rv_cat]; exact Nat.le_of_ble_eq_true rfl) (fun r_233 w_233 hr_233 hp_233 hR => ?_)
                      obtain ⟨e1_233, e2_233⟩ := hp_233
                      subst e1_233
                      subst e2_233
                      refine X_istore 238 hO dX13_goes_236 rfl rfl ?_
                      refine X_iload 240 hO dX13_goes_238 rfl rfl ?_
                      refine X_if_ne 243 247 hO dX13_goes_240 rfl rfl (by omega) (fun hc_240 => ?_) (fun hc_240 => ?_)
                      ·
                        rw [if_neg (by omega)] at hrun
                        refine X_aload_n 248 hO dX13_goes_247 rfl rfl ?_
                        refine X_iload 250 hO dX13_goes_248 rfl rfl ?_
                        refine X_iload 252 hO dX13_goes_250 rfl rfl ?_
                        refine X_iload 254 hO dX13_goes_252 rfl rfl ?_
                        refine XM_callVi 257 hO hD hR lX13_385 [_, _, _] rfl dX13_goes_254 rfl (c_fails _ _ _ _ _ _ (by omega) (by omega) (by omega)) (by decide) (by simp only [List.map_cons, List.map_nil, rv_cat]; exact Nat.le_of_ble_eq_true rfl) (fun r_254 w_254 hr_254 hp_254 hR => ?_)
                        obtain ⟨e1_254, e2_254⟩ := hp_254
                        subst e1_254
                        subst e2_254
                        refine X_istore 259 hO dX13_goes_257 rfl rfl ?_
                        refine X_goto hO dX13_goes_259 (tgt := 322) rfl ?_
                        refine X_goto hO dX13_goes_322 (tgt := 42) rfl ?_
                        (first | exact X_wk (by simp only [lwk, lset, true_or, or_true, and_self]) (ih n' (l + -1) s t r0 _ (by omega) hI.pop (by omega) (by omega) (by omega) hrun hR) | exact X_wk (by simp only [lwk, lset, true_or, or_true, and_self]) (ih n' l s t r0 _ (by omega) (hI.nx (by omega) (by omega)) (by omega) (by omega) (by omega) hrun hR) | exact X_wk (by simp only [lwk, lset, true_or, or_true, and_self]) (ih n' l s t 8 _ (by omega) hI.fl (by omega) (by omega) (by omega) hrun hR) | exact X_wk (by simp only [lwk, lset, true_or, or_true, and_self]) (ih n' l (s + 1) (s + 1) r0 _ (by omega) hOn.sv (by omega) (by omega) (by omega) hrun hR) | exact X_wk (by simp only [lwk, lset, true_or, or_true, and_self]) (ih n' l (s + 1) t 0 _ (by omega) hDs (by omega) (by omega) (by omega) hrun hR) | exact X_wk (by simp only [lwk, lset, true_or, or_true, and_self]) (ih n' l (s + 1) t _ _ (by omega) hDs.fl (by omega) (by omega) (by omega) hrun hR) | exact X_wk (by simp only [lwk, lset, true_or, or_true, and_self]) (ih n' l (s + 1) t 7 _ (by omega) hOn.fl (by omega) (by omega) (by omega) hrun hR) | exact X_wk (by simp only [lwk, lset, true_or, or_true, and_self]) (ih n' (l + 1) (s + 1) t r0 _ (by omega) (hOn.dn (by omega) h15.1 (by omega)) (by omega) (by omega) (by omega) hrun hR))
                      ·
                        rw [if_pos (by omega)] at hrun
                        refine X_iconst 244 hO dX13_goes_243 rfl ?_
                        refine X_goto hO dX13_goes_244 (tgt := 257) rfl ?_
                        refine X_istore 259 hO dX13_goes_257 rfl rfl ?_
                        refine X_goto hO dX13_goes_259 (tgt := 322) rfl ?_
                        refine X_goto hO dX13_goes_322 (tgt := 42) rfl ?_
                        (first | exact X_wk (by simp only [lwk, lset, true_or, or_true, and_self]) (ih n' (l + -1) s t r0 _ (by omega) hI.pop (by omega) (by omega) (by omega) hrun hR) | exact X_wk (by simp only [lwk, lset, true_or, or_true, and_self]) (ih n' l s t r0 _ (by omega) (hI.nx (by omega) (by omega)) (by omega) (by omega) (by omega) hrun hR) | exact X_wk (by simp only [lwk, lset, true_or, or_true, and_self]) (ih n' l s t 8 _ (by omega) hI.fl (by omega) (by omega) (by omega) hrun hR) | exact X_wk (by simp only [lwk, lset, true_or, or_true, and_self]) (ih n' l (s + 1) (s + 1) r0 _ (by omega) hOn.sv (by omega) (by omega) (by omega) hrun hR) | exact X_wk (by simp only [lwk, lset, true_or, or_true, and_self]) (ih n' l (s + 1) t 0 _ (by omega) hDs (by omega) (by omega) (by omega) hrun hR) | exact X_wk (by simp only [lwk, lset, true_or, or_true, and_self]) (ih n' l (s + 1) t _ _ (by omega) hDs.fl (by omega) (by omega) (by omega) hrun hR) | exact X_wk (by simp only [lwk, lset, true_or, or_true, and_self]) (ih n' l (s + 1) t 7 _ (by omega) hOn.fl (by omega) (by omega) (by omega) hrun hR) | exact X_wk (by simp only [lwk, lset, true_or, or_true, and_self]) (ih n' (l + 1) (s + 1) t r0 _ (by omega) (hOn.dn (by omega) h15.1 (by omega)) (by omega) (by omega) (by omega) hrun hR))
                  ·
                    rw [if_pos (by omega)] at hrun
                    refine X_aload_n 184 hO dX13_goes_183 rfl rfl ?_
                    refine X_iconst 185 hO dX13_goes_184 rfl ?_
                    refine XM_callVv 188 hO hD hR lX13_343 [_] rfl dX13_goes_185 rfl (c_saves _ _ _ _ (by omega) (by rw [up_k _ (by decide)]; omega)) (by decide) (by simp only [List.map_cons, List.map_nil, rv_cat]; exact Nat.le_of_ble_eq_true rfl) (fun w_185 hp_185 hR => ?_)
                    subst hp_185
                    refine X_iload 190 hO dX13_goes_188 rfl rfl ?_
                    refine X_istore 192 hO dX13_goes_190 rfl rfl ?_
                    refine X_goto hO dX13_goes_192 (tgt := 322) rfl ?_
                    refine X_goto hO dX13_goes_322 (tgt := 42) rfl ?_
                    (first | exact X_wk (by simp only [lwk, lset, true_or, or_true, and_self]) (ih n' (l + -1) s t r0 _ (by omega) hI.pop (by omega) (by omega) (by omega) hrun hR) | exact X_wk (by simp only [lwk, lset, true_or, or_true, and_self]) (ih n' l s t r0 _ (by omega) (hI.nx (by omega) (by omega)) (by omega) (by omega) (by omega) hrun hR) | exact X_wk (by simp only [lwk, lset, true_or, or_true, and_self]) (ih n' l s t 8 _ (by omega) hI.fl (by omega) (by omega) (by omega) hrun hR) | exact X_wk (by simp only [lwk, lset, true_or, or_true, and_self]) (ih n' l (s + 1) (s + 1) r0 _ (by omega) hOn.sv (by omega) (by omega) (by omega) hrun hR) | exact X_wk (by simp only [lwk, lset, true_or, or_true, and_self]) (ih n' l (s + 1) t 0 _ (by omega) hDs (by omega) (by omega) (by omega) hrun hR) | exact X_wk (by simp only [lwk, lset, true_or, or_true, and_self]) (ih n' l (s + 1) t _ _ (by omega) hDs.fl (by omega) (by omega) (by omega) hrun hR) | exact X_wk (by simp only [lwk, lset, true_or, or_true, and_self]) (ih n' l (s + 1) t 7 _ (by omega) hOn.fl (by omega) (by omega) (by omega) hrun hR) | exact X_wk (by simp only [lwk, lset, true_or, or_true, and_self]) (ih n' (l + 1) (s + 1) t r0 _ (by omega) (hOn.dn (by omega) h15.1 (by omega)) (by omega) (by omega) (by omega) hrun hR))
                ·
                  rw [if_pos (by omega)] at hrun
                  refine X_aload_n 144 hO dX13_goes_143 rfl rfl ?_
                  refine X_bipush 146 hO dX13_goes_144 rfl (by decide) ?_
                  refine X_iload 148 hO dX13_goes_146 rfl rfl ?_
                  refine X_iload 150 hO dX13_goes_148 rfl rfl ?_
                  refine XM_callVi 153 hO hD hR lX13_385 [_, _, _] rfl dX13_goes_150 rfl (c_fails _ _ _ _ _ _ (by omega) (by omega) (by omega)) (by decide) (by simp only [List.map_cons, List.map_nil, rv_cat]; exact Nat.le_of_ble_eq_true rfl) (fun r_150 w_150 hr_150 hp_150 hR => ?_)
                  obtain ⟨e1_150, e2_150⟩ := hp_150
                  subst e1_150
                  subst e2_150
                  refine X_istore 155 hO dX13_goes_153 rfl rfl ?_
                  refine X_goto hO dX13_goes_155 (tgt := 322) rfl ?_
                  refine X_goto hO dX13_goes_322 (tgt := 42) rfl ?_
                  (first | exact X_wk (by simp only [lwk, lset, true_or, or_true, and_self]) (ih n' (l + -1) s t r0 _ (by omega) hI.pop (by omega) (by omega) (by omega) hrun hR) | exact X_wk (by simp only [lwk, lset, true_or, or_true, and_self]) (ih n' l s t r0 _ (by omega) (hI.nx (by omega) (by omega)) (by omega) (by omega) (by omega) hrun hR) | exact X_wk (by simp only [lwk, lset, true_or, or_true, and_self]) (ih n' l s t 8 _ (by omega) hI.fl (by omega) (by omega) (by omega) hrun hR) | exact X_wk (by simp only [lwk, lset, true_or, or_true, and_self]) (ih n' l (s + 1) (s + 1) r0 _ (by omega) hOn.sv (by omega) (by omega) (by omega) hrun hR) | exact X_wk (by simp only [lwk, lset, true_or, or_true, and_self]) (ih n' l (s + 1) t 0 _ (by omega) hDs (by omega) (by omega) (by omega) hrun hR) | exact X_wk (by simp only [lwk, lset, true_or, or_true, and_self]) (ih n' l (s + 1) t _ _ (by omega) hDs.fl (by omega) (by omega) (by omega) hrun hR) | exact X_wk (by simp only [lwk, lset, true_or, or_true, and_self]) (ih n' l (s + 1) t 7 _ (by omega) hOn.fl (by omega) (by omega) (by omega) hrun hR) | exact X_wk (by simp only [lwk, lset, true_or, or_true, and_self]) (ih n' (l + 1) (s + 1) t r0 _ (by omega) (hOn.dn (by omega) h15.1 (by omega)) (by omega) (by omega) (by omega) hrun hR))
              ·
                rw [if_pos (by omega)] at hrun
                refine X_aload_n 117 hO dX13_goes_116 rfl rfl ?_
                refine ga_144 120 hO hR dX13_goes_117 rfl ?_
                refine X_iload_n 121 hO dX13_goes_120 rfl rfl ?_
                refine X_iconst 122 hO dX13_goes_121 rfl ?_
                refine ma_st (L := 6) (c := 239) 123 hO hR rfl rfl rfl dX13_goes_122 rfl (by omega) (by omega) (by omega) (fun hR => ?_)
                refine X_aload_n 124 hO dX13_goes_123 rfl rfl ?_
                refine ga_141 127 hO hR dX13_goes_124 rfl ?_
                refine X_iload_n 128 hO dX13_goes_127 rfl rfl ?_
                refine X_dup2 129 hO dX13_goes_128 rfl (by first | rfl | exact rv_cat _) (by first | rfl | exact rv_cat _) ?_
                refine ma_ld (L := 6) (c := 238) 130 hO hR rfl rfl rfl dX13_goes_129 rfl (by omega) (by omega) (fun hi_129 => ?_)
                try simp (disch := decide) only [up_k, up_s, step_at, pool_at, poolN_at, opens_at, closes_at, fl_at, del_at, ins_at, rep_at, psh_at, trn_at, tak_at, pEn_at, cpQ_at, cpP_at, cpT_at, ti_at, th_at, rec_at, saves_at] at hi_129 ⊢
                refine X_iconst 131 hO dX13_goes_130 rfl ?_
                refine X_isub 132 hO dX13_goes_131 rfl ?_
                refine ma_st (L := 6) (c := 238) 133 hO hR rfl rfl rfl dX13_goes_132 rfl (by omega) (by omega) (by omega) (fun hR => ?_)
                refine X_goto hO dX13_goes_133 (tgt := 322) rfl ?_
                refine X_goto hO dX13_goes_322 (tgt := 42) rfl ?_
                (first | exact X_wk (by simp only [lwk, lset, true_or, or_true, and_self]) (ih n' (l + -1) s t r0 _ (by omega) hI.pop (by omega) (by omega) (by omega) hrun hR) | exact X_wk (by simp only [lwk, lset, true_or, or_true, and_self]) (ih n' l s t r0 _ (by omega) (hI.nx (by omega) (by omega)) (by omega) (by omega) (by omega) hrun hR) | exact X_wk (by simp only [lwk, lset, true_or, or_true, and_self]) (ih n' l s t 8 _ (by omega) hI.fl (by omega) (by omega) (by omega) hrun hR) | exact X_wk (by simp only [lwk, lset, true_or, or_true, and_self]) (ih n' l (s + 1) (s + 1) r0 _ (by omega) hOn.sv (by omega) (by omega) (by omega) hrun hR) | exact X_wk (by simp only [lwk, lset, true_or, or_true, and_self]) (ih n' l (s + 1) t 0 _ (by omega) hDs (by omega) (by omega) (by omega) hrun hR) | exact X_wk (by simp only [lwk, lset, true_or, or_true, and_self]) (ih n' l (s + 1) t _ _ (by omega) hDs.fl (by omega) (by omega) (by omega) hrun hR) | exact X_wk (by simp only [lwk, lset, true_or, or_true, and_self]) (ih n' l (s + 1) t 7 _ (by omega) hOn.fl (by omega) (by omega) (by omega) hrun hR) | exact X_wk (by simp only [lwk, lset, true_or, or_true, and_self]) (ih n' (l + 1) (s + 1) t r0 _ (by omega) (hOn.dn (by omega) h15.1 (by omega)) (by omega) (by omega) (by omega) hrun hR))
            ·
              rw [grun_step, if_neg (by omega), if_pos (by omega)] at hrun
              refine X_iinc 101 hO dX13_goes_98 rfl rfl ?_
              refine X_goto hO dX13_goes_101 (tgt := 322) rfl ?_
              refine X_goto hO dX13_goes_322 (tgt := 42) rfl ?_
              (first | exact X_wk (by simp only [lwk, lset, true_or, or_true, and_self]) (ih n' (l + -1) s t r0 _ (by omega) hI.pop (by omega) (by omega) (by omega) hrun hR) | exact X_wk (by simp only [lwk, lset, true_or, or_true, and_self]) (ih n' l s t r0 _ (by omega) (hI.nx (by omega) (by omega)) (by omega) (by omega) (by omega) hrun hR) | exact X_wk (by simp only [lwk, lset, true_or, or_true, and_self]) (ih n' l s t 8 _ (by omega) hI.fl (by omega) (by omega) (by omega) hrun hR) | exact X_wk (by simp only [lwk, lset, true_or, or_true, and_self]) (ih n' l (s + 1) (s + 1) r0 _ (by omega) hOn.sv (by omega) (by omega) (by omega) hrun hR) | exact X_wk (by simp only [lwk, lset, true_or, or_true, and_self]) (ih n' l (s + 1) t 0 _ (by omega) hDs (by omega) (by omega) (by omega) hrun hR) | exact X_wk (by simp only [lwk, lset, true_or, or_true, and_self]) (ih n' l (s + 1) t _ _ (by omega) hDs.fl (by omega) (by omega) (by omega) hrun hR) | exact X_wk (by simp only [lwk, lset, true_or, or_true, and_self]) (ih n' l (s + 1) t 7 _ (by omega) hOn.fl (by omega) (by omega) (by omega) hrun hR) | exact X_wk (by simp only [lwk, lset, true_or, or_true, and_self]) (ih n' (l + 1) (s + 1) t r0 _ (by omega) (hOn.dn (by omega) h15.1 (by omega)) (by omega) (by omega) (by omega) hrun hR))
  exact X_eqR hR (w2 := m_gst μ m k w) rfl (fun hR => X_wk (by simp only [lwk, lset, true_or, or_true, and_self]) (LP42 _ 5000 1 0 0 0 _ (Nat.lt_succ_self _) hG (by decide) (by decide) (by decide) hrun0 hR))
