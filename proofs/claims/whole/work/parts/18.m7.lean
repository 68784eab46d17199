def m_ld (s : Int) (w : Mm) : Mm := fl w 240 0 (w 205 0 (4 * s)) (fun i => w 206 0 (80 * s + i))
def m_pt (μ : MU) (k : Int) (w : Mm) : Mm := up (up w 207 0 0 (w 207 0 0 + k)) 136 μ.1 0 (w 201 0 0)
def m_puts (μ : MU) (s : Int) (w : Mm) : Int × Mm := if m_ld s w 204 0 s = 0 then (4, m_ld s w) else if m_ld s w 201 0 0 + w 205 0 (4 * s) > 400 then (5, m_ld s w) else (0, m_pt μ (w 205 0 (4 * s)) (m_ins μ (m_ld s w 207 0 0) (w 205 0 (4 * s)) (m_ld s w)))
def m_rs4 (μ : MU) (w : Mm) : Mm := up w 136 μ.1 0 (w 204 0 4)
def m_rots (μ : MU) (w : Mm) : Int × Mm := if w 204 0 4 < 2 then (4, w) else (0, m_rs4 μ (if m_trn 0 w 211 0 4 = 1 then m_step μ 6 0 0 (m_trn 0 w) else m_trn 0 w))
def m_psS (μ : MU) (kind place value s : Int) (w : Mm) : Mm := m_pEn μ s 0 (m_step μ kind place value w) (m_step μ kind place value w)
def m_kilA (μ : MU) (k : Int) (w : Mm) : Mm := m_del μ (m_psh 0 k (m_rd k w) 207 0 0) k (m_psh 0 k (m_rd k w))
def m_kil (μ : MU) (k : Int) (w : Mm) : Mm := m_rs4 μ (if m_kilA μ k w 211 0 4 = 1 then m_psS μ 5 0 k 4 (m_kilA μ k w) else m_kilA μ k w)
def m_copA (μ : MU) (s k : Int) (w : Mm) : Mm := m_tak 0 s 0 k (m_rd k (up (up w 136 μ.1 0 (if w 204 0 s = 0 then 0 else w 205 0 (4 * s))) 204 0 s 1))
def m_cop (μ : MU) (s k : Int) (w : Mm) : Mm := if m_copA μ s k w 211 0 s = 1 then m_psS μ 7 s k s (m_copA μ s k w) else m_copA μ s k w
theorem LB.ld {μ : MU} {S P s : Int} {w : Mm} (h : LB μ S P w) (hs : 0 ≤ s ∧ s ≤ 4) : LB μ S P (m_ld s w) := by
  have h1 := h.el (i := 4 * s) (by omega)
  exact h.store h.1.f240 (h.2.2.1.ld fun i a b => h.1.2.2.2.2.2 _ (by omega) (by omega)) fun c a i _ hc => fl_at hc
theorem ld_at {s : Int} {w : Mm} {c : Nat} {a i : Int} (h : c ≠ 240) : m_ld s w c a i = w c a i := fl_at h
theorem psS_at {μ : MU} {x y z s : Int} {w : Mm} {c : Nat} {a i : Int} (h : c ≠ 212 ∧ c ≠ 120 ∧ c ≠ 213 ∧ c ≠ 121) : m_psS μ x y z s w c a i = w c a i := by
  unfold m_psS; rw [pEn_at ⟨h.2.2.1, h.2.2.2⟩, step_at ⟨h.1, h.2.1⟩]
theorem LB.psS {μ : MU} {S P x y z s : Int} {w : Mm} (h : LB μ S P w) (hs : 0 ≤ s ∧ s ≤ 4) : LB μ (S + 1) (P + 20) (m_psS μ x y z s w) :=
  h.step.pEn h.step.1 (by omega)
theorem LB.rs4 {μ : MU} {S P : Int} {w : Mm} (h : LB μ S P w) : LB μ S P (m_rs4 μ w) := h.up_int (by decide)
theorem LB.pts {μ : MU} {S P k : Int} {w : Mm} (h : LB μ S P w) (hk : 0 ≤ k ∧ w 207 0 0 + k ≤ m_vT w) : LB μ S P (m_pt μ k w) := by
  obtain ⟨f1, f2, f3, f4, f5⟩ := h.f
  exact (h.w.pt (by omega)).up_int (by decide)
theorem LB.puts {μ : MU} {S P s : Int} {w : Mm} (h : LB μ S P w) (hs : 0 ≤ s ∧ s ≤ 4) : LB μ (S + 1) (P + 20) (m_puts μ s w).2 := by
  have h1 := h.ld hs
  have h2 := h.el (i := 4 * s) (by omega)
  obtain ⟨f1, f2, f3, f4, f5⟩ := h1.f
  unfold m_puts
  split
  · exact h1.mono (by omega) (by omega)
  · split
    · exact h1.mono (by omega) (by omega)
    · refine ((h1.ins (k := w 205 0 (4 * s)) (by omega)).mono (Int.le_refl _) (by omega)).pts ?_
      rw [ins_vT f2 (by omega), ins_at (by decide), if_pos (by omega)]
      omega
theorem LB.rots {μ : MU} {S P : Int} {w : Mm} (h : LB μ S P w) : LB μ (S + 1) P (m_rots μ w).2 := by
  unfold m_rots
  split
  · exact h.mono (by omega) (by omega)
  · refine LB.rs4 ?_
    split
    · exact h.trn.step
    · exact h.trn.mono (by omega) (by omega)
theorem LB.kilA {μ : MU} {S P k : Int} {w : Mm} (h : LB μ S P w) (hk : 0 ≤ k ∧ k ≤ 20) (hp : w 207 0 0 + k ≤ m_vT w) : LB μ (S + 1) P (m_kilA μ k w) := by
  obtain ⟨f1, f2, f3, f4, f5⟩ := h.f
  have h1 := (h.rd (k := k) (by omega)).psh hk
  refine h1.del ⟨hk.1, ?_⟩
  rw [psh_at (by decide), psh_at (by decide)]
  unfold m_rd
  rw [fl_at (by decide), fl_at (by decide)]; omega
theorem LB.kil {μ : MU} {S P k : Int} {w : Mm} (h : LB μ S P w) (hk : 0 ≤ k ∧ k ≤ 20) (hp : w 207 0 0 + k ≤ m_vT w) : LB μ (S + 2) (P + 20) (m_kil μ k w) := by
  have h1 := h.kilA hk hp
  refine LB.rs4 ?_
  split
  · exact (h1.psS (by omega)).mono (by omega) (by omega)
  · exact h1.mono (by omega) (by omega)
theorem LB.copA {μ : MU} {S P s k : Int} {w : Mm} (h : LB μ S P w) (hk : 0 ≤ k ∧ k ≤ 20) (hp : w 207 0 0 + k ≤ m_vT w) : LB μ S P (m_copA μ s k w) := by
  obtain ⟨f1, f2, f3, f4, f5⟩ := h.f
  refine LB.tak (LB.rd ((h.up_int (by decide)).cnt (by omega) (Or.inl (by omega))) ?_) hk
  rw [up_k _ (by decide), up_k _ (by decide)]; omega
theorem LB.cop {μ : MU} {S P s k : Int} {w : Mm} (h : LB μ S P w) (hs : 0 ≤ s ∧ s ≤ 4) (hk : 0 ≤ k ∧ k ≤ 20) (hp : w 207 0 0 + k ≤ m_vT w) : LB μ (S + 1) (P + 20) (m_cop μ s k w) := by
  have h1 := h.copA (s := s) hk hp
  unfold m_cop
  split
  · exact h1.psS hs
  · exact h1.mono (by omega) (by omega)
theorem dX13_puts_0 : decode cX13_puts 0 = .ok (.aload_n 0, 1) := by decide +kernel
theorem dX13_puts_1 : decode cX13_puts 1 = .ok (.getfield 25, 3) := by decide +kernel
theorem dX13_puts_4 : decode cX13_puts 4 = .ok (.iconst 4, 1) := by decide +kernel
theorem dX13_puts_5 : decode cX13_puts 5 = .ok (.iload_n 1, 1) := by decide +kernel
theorem dX13_puts_6 : decode cX13_puts 6 = .ok (.imul, 1) := by decide +kernel
theorem dX13_puts_7 : decode cX13_puts 7 = .ok (.iaload, 1) := by decide +kernel
theorem dX13_puts_8 : decode cX13_puts 8 = .ok (.istore_n 2, 1) := by decide +kernel
theorem dX13_puts_9 : decode cX13_puts 9 = .ok (.iconst 0, 1) := by decide +kernel
theorem dX13_puts_10 : decode cX13_puts 10 = .ok (.istore_n 3, 1) := by decide +kernel
theorem dX13_puts_11 : decode cX13_puts 11 = .ok (.iload_n 3, 1) := by decide +kernel
theorem dX13_puts_12 : decode cX13_puts 12 = .ok (.iload_n 2, 1) := by decide +kernel
theorem dX13_puts_13 : decode cX13_puts 13 = .ok (.if_icmp .ge 26, 3) := by decide +kernel
theorem dX13_puts_16 : decode cX13_puts 16 = .ok (.aload_n 0, 1) := by decide +kernel
theorem dX13_puts_17 : decode cX13_puts 17 = .ok (.getfield 150, 3) := by decide +kernel
theorem dX13_puts_20 : decode cX13_puts 20 = .ok (.iload_n 3, 1) := by decide +kernel
theorem dX13_puts_21 : decode cX13_puts 21 = .ok (.aload_n 0, 1) := by decide +kernel
theorem dX13_puts_22 : decode cX13_puts 22 = .ok (.getfield 28, 3) := by decide +kernel
theorem dX13_puts_25 : decode cX13_puts 25 = .ok (.bipush 80, 2) := by decide +kernel
theorem dX13_puts_27 : decode cX13_puts 27 = .ok (.iload_n 1, 1) := by decide +kernel
theorem dX13_puts_28 : decode cX13_puts 28 = .ok (.imul, 1) := by decide +kernel
theorem dX13_puts_29 : decode cX13_puts 29 = .ok (.iload_n 3, 1) := by decide +kernel
theorem dX13_puts_30 : decode cX13_puts 30 = .ok (.iadd, 1) := by decide +kernel
theorem dX13_puts_31 : decode cX13_puts 31 = .ok (.iaload, 1) := by decide +kernel
theorem dX13_puts_32 : decode cX13_puts 32 = .ok (.iastore, 1) := by decide +kernel
theorem dX13_puts_33 : decode cX13_puts 33 = .ok (.iinc 3 1, 3) := by decide +kernel
theorem dX13_puts_36 : decode cX13_puts 36 = .ok (.goto (-25), 3) := by decide +kernel
theorem dX13_puts_39 : decode cX13_puts 39 = .ok (.aload_n 0, 1) := by decide +kernel
theorem dX13_puts_40 : decode cX13_puts 40 = .ok (.getfield 22, 3) := by decide +kernel
theorem dX13_puts_43 : decode cX13_puts 43 = .ok (.iload_n 1, 1) := by decide +kernel
theorem dX13_puts_44 : decode cX13_puts 44 = .ok (.iaload, 1) := by decide +kernel
theorem dX13_puts_45 : decode cX13_puts 45 = .ok (.ifCond .ne 5, 3) := by decide +kernel
theorem dX13_puts_48 : decode cX13_puts 48 = .ok (.iconst 4, 1) := by decide +kernel
theorem dX13_puts_49 : decode cX13_puts 49 = .ok (.ireturn, 1) := by decide +kernel
theorem dX13_puts_50 : decode cX13_puts 50 = .ok (.aload_n 0, 1) := by decide +kernel
theorem dX13_puts_51 : decode cX13_puts 51 = .ok (.getfield 13, 3) := by decide +kernel
theorem dX13_puts_54 : decode cX13_puts 54 = .ok (.iconst 0, 1) := by decide +kernel
theorem dX13_puts_55 : decode cX13_puts 55 = .ok (.iaload, 1) := by decide +kernel
theorem dX13_puts_56 : decode cX13_puts 56 = .ok (.iload_n 2, 1) := by decide +kernel
theorem dX13_puts_57 : decode cX13_puts 57 = .ok (.iadd, 1) := by decide +kernel
theorem dX13_puts_58 : decode cX13_puts 58 = .ok (.sipush 400, 3) := by decide +kernel
theorem dX13_puts_61 : decode cX13_puts 61 = .ok (.if_icmp .le 5, 3) := by decide +kernel
theorem dX13_puts_64 : decode cX13_puts 64 = .ok (.iconst 5, 1) := by decide +kernel
theorem dX13_puts_65 : decode cX13_puts 65 = .ok (.ireturn, 1) := by decide +kernel
theorem dX13_puts_66 : decode cX13_puts 66 = .ok (.aload_n 0, 1) := by decide +kernel
theorem dX13_puts_67 : decode cX13_puts 67 = .ok (.aload_n 0, 1) := by decide +kernel
theorem dX13_puts_68 : decode cX13_puts 68 = .ok (.getfield 31, 3) := by decide +kernel
theorem dX13_puts_71 : decode cX13_puts 71 = .ok (.iconst 0, 1) := by decide +kernel
theorem dX13_puts_72 : decode cX13_puts 72 = .ok (.iaload, 1) := by decide +kernel
theorem dX13_puts_73 : decode cX13_puts 73 = .ok (.iload_n 2, 1) := by decide +kernel
theorem dX13_puts_74 : decode cX13_puts 74 = .ok (.invokevirtual 300, 3) := by decide +kernel
theorem dX13_puts_77 : decode cX13_puts 77 = .ok (.aload_n 0, 1) := by decide +kernel
theorem dX13_puts_78 : decode cX13_puts 78 = .ok (.getfield 31, 3) := by decide +kernel
theorem dX13_puts_81 : decode cX13_puts 81 = .ok (.iconst 0, 1) := by decide +kernel
theorem dX13_puts_82 : decode cX13_puts 82 = .ok (.dup2, 1) := by decide +kernel
theorem dX13_puts_83 : decode cX13_puts 83 = .ok (.iaload, 1) := by decide +kernel
theorem dX13_puts_84 : decode cX13_puts 84 = .ok (.iload_n 2, 1) := by decide +kernel
theorem dX13_puts_85 : decode cX13_puts 85 = .ok (.iadd, 1) := by decide +kernel
theorem dX13_puts_86 : decode cX13_puts 86 = .ok (.iastore, 1) := by decide +kernel
theorem dX13_puts_87 : decode cX13_puts 87 = .ok (.aload_n 0, 1) := by decide +kernel
theorem dX13_puts_88 : decode cX13_puts 88 = .ok (.aload_n 0, 1) := by decide +kernel
theorem dX13_puts_89 : decode cX13_puts 89 = .ok (.getfield 13, 3) := by decide +kernel
theorem dX13_puts_92 : decode cX13_puts 92 = .ok (.iconst 0, 1) := by decide +kernel
theorem dX13_puts_93 : decode cX13_puts 93 = .ok (.iaload, 1) := by decide +kernel
theorem dX13_puts_94 : decode cX13_puts 94 = .ok (.putfield 303, 3) := by decide +kernel
theorem dX13_puts_97 : decode cX13_puts 97 = .ok (.iconst 0, 1) := by decide +kernel
theorem dX13_puts_98 : decode cX13_puts 98 = .ok (.ireturn, 1) := by decide +kernel
set_option maxRecDepth 4000 in
theorem c_puts (γ : LC) (μ : MU) (w : Mm) (s S P : Int) (hs : 0 ≤ s ∧ s ≤ 4) (hB : LB μ S P w) (hS : S ≤ 29900) (hP : P ≤ 524000) : CMi γ μ 3 mX13_puts [.int (I s)] w (fun r w' => r = (m_puts μ s w).1 ∧ w' = (m_puts μ s w).2) := by
  refine CMi_of rfl (by simp [rv_cat, Value.category]) rfl ?_
  rintro κ hO hF rfl hR
  have hD := hF.dp
  show X κ 0 0 w 0 [some (rv μ.1), some (.int (I s)), none, none] []
  obtain ⟨f1, f2, f3, f4, f5⟩ := hB.f
  have g5 := hB.el (i := 4 * s) (by omega)
  refine X_aload_n 1 hO dX13_puts_0 rfl rfl ?_
  refine ga_25 4 hO hR dX13_puts_1 rfl ?_
  refine X_iconst 5 hO dX13_puts_4 rfl ?_
  refine X_iload_n 6 hO dX13_puts_5 rfl rfl ?_
  refine X_imul 7 hO dX13_puts_6 rfl ?_
  refine ma_ld (L := 80) (c := 205) 8 hO hR rfl rfl rfl dX13_puts_7 rfl (by omega) (by omega) (fun hi_7 => ?_)
  refine X_istore_n 9 hO dX13_puts_8 rfl rfl ?_
  refine X_iconst 10 hO dX13_puts_9 rfl ?_
  refine X_istore_n 11 hO dX13_puts_10 rfl rfl ?_
  have LP11 : ∀ (n : Nat) (i : Int), (w 205 0 (4 * s) - i).toNat < n → (0 ≤ i ∧ i ≤ w 205 0 (4 * s)) → RM ((fl w 240 0 i (fun i => w 206 0 (80 * s + i)))) μ → X κ 0 0 ((fl w 240 0 i (fun i => w 206 0 (80 * s + i)))) 11 [some (rv μ.1), some (.int (I s)), some (.int (I (w 205 0 (4 * s)))), some (.int (I i))] [] := by
    intro n
    induction n with
    | zero => intro i hm; exact absurd hm (Nat.not_lt_zero _)
    | succ n ih =>
      intro i hm hi hR
      refine X_iload_n 12 hO dX13_puts_11 rfl rfl ?_
      refine X_iload_n 13 hO dX13_puts_12 rfl rfl ?_
      refine X_icmp_ge 16 39 hO dX13_puts_13 rfl rfl (by omega) (by omega) (fun hc_13 => ?_) (fun hc_13 => ?_)
      ·
        have e13 : i = w 205 0 (4 * s) := by omega
        subst e13
        have hL : LB μ S P (fl w 240 0 (w 205 0 (4 * s)) (fun i => w 206 0 (80 * s + i))) := hB.ld hs
        obtain ⟨l1, l2, l3, l4, l5⟩ := hL.f
        refine X_aload_n 40 hO dX13_puts_39 rfl rfl ?_
        refine ga_22 43 hO hR dX13_puts_40 rfl ?_
        refine X_iload_n 44 hO dX13_puts_43 rfl rfl ?_
        refine ma_ld (L := 20) (c := 204) 45 hO hR rfl rfl rfl dX13_puts_44 rfl (by omega) (by omega) (fun hi_44 => ?_)
        refine X_if_ne 48 50 hO dX13_puts_45 rfl rfl (by omega) (fun hc_45 => ?_) (fun hc_45 => ?_)
        ·
          refine X_aload_n 51 hO dX13_puts_50 rfl rfl ?_
          refine ga_13 54 hO hR dX13_puts_51 rfl ?_
          refine X_iconst 55 hO dX13_puts_54 rfl ?_
          refine ma_ld (L := 4) (c := 201) 56 hO hR rfl rfl rfl dX13_puts_55 rfl (by omega) (by omega) (fun hi_55 => ?_)
          refine X_iload_n 57 hO dX13_puts_56 rfl rfl ?_
          refine X_iadd 58 hO dX13_puts_57 rfl ?_
          refine X_sipush 61 hO dX13_puts_58 rfl (by decide) ?_
          refine X_icmp_le 64 66 hO dX13_puts_61 rfl rfl (by omega) (by omega) (fun hc_61 => ?_) (fun hc_61 => ?_)
          ·
            refine X_aload_n 67 hO dX13_puts_66 rfl rfl ?_
            refine X_aload_n 68 hO dX13_puts_67 rfl rfl ?_
            refine ga_31 71 hO hR dX13_puts_68 rfl ?_
            refine X_iconst 72 hO dX13_puts_71 rfl ?_
            refine ma_ld (L := 4) (c := 207) 73 hO hR rfl rfl rfl dX13_puts_72 rfl (by omega) (by omega) (fun hi_72 => ?_)
            refine X_iload_n 74 hO dX13_puts_73 rfl rfl ?_
            refine XM_callVv 77 hO hD hR lX13_300 [_, _] rfl dX13_puts_74 rfl (c_inserts _ _ _ _ _ (by omega) (by omega) (SB.m (s := 0) hL.1) (by omega) hL.2.1.e (by omega) (by omega)) (by decide) (by simp only [List.map_cons, List.map_nil, rv_cat]; exact Nat.le_of_ble_eq_true rfl) (fun w_74 hp_74 hR => ?_)
            subst hp_74
            have hN := hL.ins (k := w 205 0 (4 * s)) (by omega)
            obtain ⟨n1, n2, n3, n4, n5⟩ := hN.f
            refine X_aload_n 78 hO dX13_puts_77 rfl rfl ?_
            refine ga_31 81 hO hR dX13_puts_78 rfl ?_
            refine X_iconst 82 hO dX13_puts_81 rfl ?_
            refine X_dup2 83 hO dX13_puts_82 rfl (by first | rfl | exact rv_cat _) (by first | rfl | exact rv_cat _) ?_
            refine ma_ld (L := 4) (c := 207) 84 hO hR rfl rfl rfl dX13_puts_83 rfl (by omega) (by omega) (fun hi_83 => ?_)
            refine X_iload_n 85 hO dX13_puts_84 rfl rfl ?_
            refine X_iadd 86 hO dX13_puts_85 rfl ?_
            refine ma_st (L := 4) (c := 207) 87 hO hR rfl rfl rfl dX13_puts_86 rfl (by omega) (by omega) (by omega) (fun hR => ?_)
            refine X_aload_n 88 hO dX13_puts_87 rfl rfl ?_
            refine X_aload_n 89 hO dX13_puts_88 rfl rfl ?_
            refine ga_13 92 hO hR dX13_puts_89 rfl ?_
            refine X_iconst 93 hO dX13_puts_92 rfl ?_
            refine ma_ld (L := 4) (c := 201) 94 hO hR rfl rfl rfl dX13_puts_93 rfl (by omega) (by omega) (fun hi_93 => ?_)
            refine pa_303 97 hO hR dX13_puts_94 rfl (by omega) (fun hR => ?_)
            refine X_iconst 98 hO dX13_puts_97 rfl ?_
            exact XM_iret hO hF hR rfl (by first | exact Or.inl rfl | exact Or.inr ⟨rfl, bi_01 _⟩ | exact Or.inr ⟨rfl, by omega⟩) dX13_puts_98 (by omega) (by unfold m_puts m_ld m_pt; (repeat (first | rw [if_pos (by omega)] | rw [if_neg (by omega)])); refine ⟨rfl, ?_⟩; dsimp only; rw [up_k _ (show (201 : Nat) ≠ 207 by decide)])
          ·
            refine X_iconst 65 hO dX13_puts_64 rfl ?_
            exact XM_iret hO hF hR rfl (by first | exact Or.inl rfl | exact Or.inr ⟨rfl, bi_01 _⟩ | exact Or.inr ⟨rfl, by omega⟩) dX13_puts_65 (by omega) (by first | (exfalso; omega) | (unfold m_puts m_ld; (repeat (first | rw [if_pos (by omega)] | rw [if_neg (by omega)])); exact ⟨rfl, rfl⟩))
        ·
          refine X_iconst 49 hO dX13_puts_48 rfl ?_
          exact XM_iret hO hF hR rfl (by first | exact Or.inl rfl | exact Or.inr ⟨rfl, bi_01 _⟩ | exact Or.inr ⟨rfl, by omega⟩) dX13_puts_49 (by omega) (by first | (exfalso; omega) | (unfold m_puts m_ld; (repeat (first | rw [if_pos (by omega)] | rw [if_neg (by omega)])); exact ⟨rfl, rfl⟩))
      ·
        refine X_aload_n 17 hO dX13_puts_16 rfl rfl ?_
        refine ga_150 20 hO hR dX13_puts_17 rfl ?_
        refine X_iload_n 21 hO dX13_puts_20 rfl rfl ?_
        refine X_aload_n 22 hO dX13_puts_21 rfl rfl ?_
        refine ga_28 25 hO hR dX13_puts_22 rfl ?_
        refine X_bipush 27 hO dX13_puts_25 rfl (by decide) ?_
        refine X_iload_n 28 hO dX13_puts_27 rfl rfl ?_
        refine X_imul 29 hO dX13_puts_28 rfl ?_
        refine X_iload_n 30 hO dX13_puts_29 rfl rfl ?_
        refine X_iadd 31 hO dX13_puts_30 rfl ?_
        refine ma_ld (L := 1600) (c := 206) 32 hO hR rfl rfl rfl dX13_puts_31 rfl (by omega) (by omega) (fun hi_31 => ?_)
        refine ma_st (L := 400) (c := 240) 33 hO hR rfl rfl rfl dX13_puts_32 rfl (by omega) (by omega) (by omega) (fun hR => ?_)
        refine X_iinc 36 hO dX13_puts_33 rfl rfl ?_
        refine X_goto hO dX13_puts_36 (tgt := 11) rfl ?_
        exact X_eqR hR (fl_stp (by omega) rfl (by omega) (by rw [fl_at (by decide)])) (fun hR => ih (i + 1) (by omega) (by omega) hR)
  exact X_eqR hR (fl_00 rfl) (fun hR => LP11 _ 0 (Nat.lt_succ_self _) (by omega) hR)
theorem dX13_rotates_0 : decode cX13_rotates 0 = .ok (.aload_n 0, 1) := by decide +kernel
theorem dX13_rotates_1 : decode cX13_rotates 1 = .ok (.getfield 22, 3) := by decide +kernel
theorem dX13_rotates_4 : decode cX13_rotates 4 = .ok (.iconst 4, 1) := by decide +kernel
theorem dX13_rotates_5 : decode cX13_rotates 5 = .ok (.iaload, 1) := by decide +kernel
theorem dX13_rotates_6 : decode cX13_rotates 6 = .ok (.iconst 2, 1) := by decide +kernel
theorem dX13_rotates_7 : decode cX13_rotates 7 = .ok (.if_icmp .ge 5, 3) := by decide +kernel
theorem dX13_rotates_10 : decode cX13_rotates 10 = .ok (.iconst 4, 1) := by decide +kernel
theorem dX13_rotates_11 : decode cX13_rotates 11 = .ok (.ireturn, 1) := by decide +kernel
theorem dX13_rotates_12 : decode cX13_rotates 12 = .ok (.aload_n 0, 1) := by decide +kernel
theorem dX13_rotates_13 : decode cX13_rotates 13 = .ok (.iconst 0, 1) := by decide +kernel
theorem dX13_rotates_14 : decode cX13_rotates 14 = .ok (.invokevirtual 229, 3) := by decide +kernel
theorem dX13_rotates_17 : decode cX13_rotates 17 = .ok (.aload_n 0, 1) := by decide +kernel
theorem dX13_rotates_18 : decode cX13_rotates 18 = .ok (.getfield 43, 3) := by decide +kernel
theorem dX13_rotates_21 : decode cX13_rotates 21 = .ok (.iconst 4, 1) := by decide +kernel
theorem dX13_rotates_22 : decode cX13_rotates 22 = .ok (.iaload, 1) := by decide +kernel
theorem dX13_rotates_23 : decode cX13_rotates 23 = .ok (.iconst 1, 1) := by decide +kernel
theorem dX13_rotates_24 : decode cX13_rotates 24 = .ok (.if_icmp .ne 11, 3) := by decide +kernel
theorem dX13_rotates_27 : decode cX13_rotates 27 = .ok (.aload_n 0, 1) := by decide +kernel
theorem dX13_rotates_28 : decode cX13_rotates 28 = .ok (.bipush 6, 2) := by decide +kernel
theorem dX13_rotates_30 : decode cX13_rotates 30 = .ok (.iconst 0, 1) := by decide +kernel
theorem dX13_rotates_31 : decode cX13_rotates 31 = .ok (.iconst 0, 1) := by decide +kernel
theorem dX13_rotates_32 : decode cX13_rotates 32 = .ok (.invokevirtual 206, 3) := by decide +kernel
theorem dX13_rotates_35 : decode cX13_rotates 35 = .ok (.aload_n 0, 1) := by decide +kernel
theorem dX13_rotates_36 : decode cX13_rotates 36 = .ok (.aload_n 0, 1) := by decide +kernel
theorem dX13_rotates_37 : decode cX13_rotates 37 = .ok (.getfield 22, 3) := by decide +kernel
theorem dX13_rotates_40 : decode cX13_rotates 40 = .ok (.iconst 4, 1) := by decide +kernel
theorem dX13_rotates_41 : decode cX13_rotates 41 = .ok (.iaload, 1) := by decide +kernel
theorem dX13_rotates_42 : decode cX13_rotates 42 = .ok (.putfield 303, 3) := by decide +kernel
theorem dX13_rotates_45 : decode cX13_rotates 45 = .ok (.iconst 0, 1) := by decide +kernel
theorem dX13_rotates_46 : decode cX13_rotates 46 = .ok (.ireturn, 1) := by decide +kernel
set_option maxRecDepth 4000 in
theorem c_rotates (γ : LC) (μ : MU) (w : Mm) (S P : Int) (hB : LB μ S P w) (hS : S ≤ 29900) (hP : P ≤ 524000) : CMi γ μ 2 mX13_rotates [] w (fun r w' => r = (m_rots μ w).1 ∧ w' = (m_rots μ w).2) := by
  refine CMi_of rfl (by simp [rv_cat, Value.category]) rfl ?_
  rintro κ hO hF rfl hR
  have hD := hF.dp
  show X κ 0 0 w 0 [some (rv μ.1)] []
  obtain ⟨f1, f2, f3, f4, f5⟩ := hB.f
  have g4 := hB.cn (s := 4) (by omega)
  have g5 := hB.el (i := 16) (by omega)
  have hT := hB.trn
  obtain ⟨l1, l2, l3, l4, l5⟩ := hT.f
  have t2 : 0 ≤ m_step μ 6 0 0 (m_trn 0 w) 204 0 4 := by rw [step_at (by decide)]; exact (hT.cn (s := 4) (by omega)).1
  refine X_aload_n 1 hO dX13_rotates_0 rfl rfl ?_
  refine ga_22 4 hO hR dX13_rotates_1 rfl ?_
  refine X_iconst 5 hO dX13_rotates_4 rfl ?_
  refine ma_ld (L := 20) (c := 204) 6 hO hR rfl rfl rfl dX13_rotates_5 rfl (by omega) (by omega) (fun hi_5 => ?_)
  refine X_iconst 7 hO dX13_rotates_6 rfl ?_
  refine X_icmp_ge 10 12 hO dX13_rotates_7 rfl rfl (by omega) (by omega) (fun hc_7 => ?_) (fun hc_7 => ?_)
  ·
    refine X_aload_n 13 hO dX13_rotates_12 rfl rfl ?_
    refine X_iconst 14 hO dX13_rotates_13 rfl ?_
    refine XM_callVv 17 hO hD hR lX13_229 [_] rfl dX13_rotates_14 rfl (c_turns _ _ _ _ (by omega) (by show 1 ≤ w 204 0 4 ∧ w 204 0 4 ≤ 4; omega) (by show 0 ≤ w 205 0 16 ∧ w 205 0 16 ≤ 20; omega)) (by decide) (by simp only [List.map_cons, List.map_nil, rv_cat]; exact Nat.le_of_ble_eq_true rfl) (fun w_14 hp_14 hR => ?_)
    subst hp_14
    refine X_aload_n 18 hO dX13_rotates_17 rfl rfl ?_
    refine ga_43 21 hO hR dX13_rotates_18 rfl ?_
    refine X_iconst 22 hO dX13_rotates_21 rfl ?_
    refine ma_ld (L := 5) (c := 211) 23 hO hR rfl rfl rfl dX13_rotates_22 rfl (by omega) (by omega) (fun hi_22 => ?_)
    refine X_iconst 24 hO dX13_rotates_23 rfl ?_
    refine X_icmp_ne 27 35 hO dX13_rotates_24 rfl rfl (by omega) (by omega) (fun hc_24 => ?_) (fun hc_24 => ?_)
    ·
      refine X_aload_n 36 hO dX13_rotates_35 rfl rfl ?_
      refine X_aload_n 37 hO dX13_rotates_36 rfl rfl ?_
      refine ga_22 40 hO hR dX13_rotates_37 rfl ?_
      refine X_iconst 41 hO dX13_rotates_40 rfl ?_
      refine ma_ld (L := 20) (c := 204) 42 hO hR rfl rfl rfl dX13_rotates_41 rfl (by omega) (by omega) (fun hi_41 => ?_)
      refine pa_303 45 hO hR dX13_rotates_42 rfl (by omega) (fun hR => ?_)
      refine X_iconst 46 hO dX13_rotates_45 rfl ?_
      exact XM_iret hO hF hR rfl (by first | exact Or.inl rfl | exact Or.inr ⟨rfl, bi_01 _⟩ | exact Or.inr ⟨rfl, by omega⟩) dX13_rotates_46 (by omega) (by first | (exfalso; omega) | (unfold m_rots m_rs4; (repeat (first | rw [if_pos (by omega)] | rw [if_neg (by omega)])); exact ⟨rfl, rfl⟩))
    ·
      refine X_aload_n 28 hO dX13_rotates_27 rfl rfl ?_
      refine X_bipush 30 hO dX13_rotates_28 rfl (by decide) ?_
      refine X_iconst 31 hO dX13_rotates_30 rfl ?_
      refine X_iconst 32 hO dX13_rotates_31 rfl ?_
      refine XM_callVv 35 hO hD hR lX13_206 [_, _, _] rfl dX13_rotates_32 rfl (c_steps _ _ _ _ _ _ (by omega) (by omega) (by omega) (by omega)) (by decide) (by simp only [List.map_cons, List.map_nil, rv_cat]; exact Nat.le_of_ble_eq_true rfl) (fun w_32 hp_32 hR => ?_)
      subst hp_32
      refine X_aload_n 36 hO dX13_rotates_35 rfl rfl ?_
      refine X_aload_n 37 hO dX13_rotates_36 rfl rfl ?_
      refine ga_22 40 hO hR dX13_rotates_37 rfl ?_
      refine X_iconst 41 hO dX13_rotates_40 rfl ?_
      refine ma_ld (L := 20) (c := 204) 42 hO hR rfl rfl rfl dX13_rotates_41 rfl (by omega) (by omega) (fun hi_41 => ?_)
      refine pa_303 45 hO hR dX13_rotates_42 rfl (by omega) (fun hR => ?_)
      refine X_iconst 46 hO dX13_rotates_45 rfl ?_
      exact XM_iret hO hF hR rfl (by first | exact Or.inl rfl | exact Or.inr ⟨rfl, bi_01 _⟩ | exact Or.inr ⟨rfl, by omega⟩) dX13_rotates_46 (by omega) (by first | (exfalso; omega) | (unfold m_rots m_rs4; (repeat (first | rw [if_pos (by omega)] | rw [if_neg (by omega)])); exact ⟨rfl, rfl⟩))
  ·
    refine X_iconst 11 hO dX13_rotates_10 rfl ?_
    exact XM_iret hO hF hR rfl (by first | exact Or.inl rfl | exact Or.inr ⟨rfl, bi_01 _⟩ | exact Or.inr ⟨rfl, by omega⟩) dX13_rotates_11 (by omega) (by first | (exfalso; omega) | (unfold m_rots; (repeat (first | rw [if_pos (by omega)] | rw [if_neg (by omega)])); exact ⟨rfl, rfl⟩))
theorem dX13_kills_0 : decode cX13_kills 0 = .ok (.aload_n 0, 1) := by decide +kernel
theorem dX13_kills_1 : decode cX13_kills 1 = .ok (.iload_n 1, 1) := by decide +kernel
theorem dX13_kills_2 : decode cX13_kills 2 = .ok (.invokevirtual 306, 3) := by decide +kernel
theorem dX13_kills_5 : decode cX13_kills 5 = .ok (.aload_n 0, 1) := by decide +kernel
theorem dX13_kills_6 : decode cX13_kills 6 = .ok (.iconst 0, 1) := by decide +kernel
theorem dX13_kills_7 : decode cX13_kills 7 = .ok (.iload_n 1, 1) := by decide +kernel
theorem dX13_kills_8 : decode cX13_kills 8 = .ok (.invokevirtual 232, 3) := by decide +kernel
theorem dX13_kills_11 : decode cX13_kills 11 = .ok (.aload_n 0, 1) := by decide +kernel
theorem dX13_kills_12 : decode cX13_kills 12 = .ok (.aload_n 0, 1) := by decide +kernel
theorem dX13_kills_13 : decode cX13_kills 13 = .ok (.getfield 31, 3) := by decide +kernel
theorem dX13_kills_16 : decode cX13_kills 16 = .ok (.iconst 0, 1) := by decide +kernel
theorem dX13_kills_17 : decode cX13_kills 17 = .ok (.iaload, 1) := by decide +kernel
theorem dX13_kills_18 : decode cX13_kills 18 = .ok (.iload_n 1, 1) := by decide +kernel
theorem dX13_kills_19 : decode cX13_kills 19 = .ok (.invokevirtual 309, 3) := by decide +kernel
theorem dX13_kills_22 : decode cX13_kills 22 = .ok (.aload_n 0, 1) := by decide +kernel
theorem dX13_kills_23 : decode cX13_kills 23 = .ok (.getfield 43, 3) := by decide +kernel
theorem dX13_kills_26 : decode cX13_kills 26 = .ok (.iconst 4, 1) := by decide +kernel
theorem dX13_kills_27 : decode cX13_kills 27 = .ok (.iaload, 1) := by decide +kernel
theorem dX13_kills_28 : decode cX13_kills 28 = .ok (.iconst 1, 1) := by decide +kernel
theorem dX13_kills_29 : decode cX13_kills 29 = .ok (.if_icmp .ne 16, 3) := by decide +kernel
theorem dX13_kills_32 : decode cX13_kills 32 = .ok (.aload_n 0, 1) := by decide +kernel
theorem dX13_kills_33 : decode cX13_kills 33 = .ok (.iconst 5, 1) := by decide +kernel
theorem dX13_kills_34 : decode cX13_kills 34 = .ok (.iconst 0, 1) := by decide +kernel
theorem dX13_kills_35 : decode cX13_kills 35 = .ok (.iload_n 1, 1) := by decide +kernel
theorem dX13_kills_36 : decode cX13_kills 36 = .ok (.invokevirtual 206, 3) := by decide +kernel
theorem dX13_kills_39 : decode cX13_kills 39 = .ok (.aload_n 0, 1) := by decide +kernel
theorem dX13_kills_40 : decode cX13_kills 40 = .ok (.iconst 4, 1) := by decide +kernel
theorem dX13_kills_41 : decode cX13_kills 41 = .ok (.iconst 0, 1) := by decide +kernel
theorem dX13_kills_42 : decode cX13_kills 42 = .ok (.invokevirtual 215, 3) := by decide +kernel
theorem dX13_kills_45 : decode cX13_kills 45 = .ok (.aload_n 0, 1) := by decide +kernel
theorem dX13_kills_46 : decode cX13_kills 46 = .ok (.aload_n 0, 1) := by decide +kernel
theorem dX13_kills_47 : decode cX13_kills 47 = .ok (.getfield 22, 3) := by decide +kernel
theorem dX13_kills_50 : decode cX13_kills 50 = .ok (.iconst 4, 1) := by decide +kernel
theorem dX13_kills_51 : decode cX13_kills 51 = .ok (.iaload, 1) := by decide +kernel
theorem dX13_kills_52 : decode cX13_kills 52 = .ok (.putfield 303, 3) := by decide +kernel
theorem dX13_kills_55 : decode cX13_kills 55 = .ok (.iconst 0, 1) := by decide +kernel
theorem dX13_kills_56 : decode cX13_kills 56 = .ok (.ireturn, 1) := by decide +kernel
set_option maxRecDepth 4000 in
theorem c_kills (γ : LC) (μ : MU) (w : Mm) (k S P : Int) (hk : 0 ≤ k ∧ k ≤ 20) (hp : w 207 0 0 + k ≤ m_vT w) (hB : LB μ S P w) (hS : S ≤ 29900) (hP : P ≤ 524000) : CMi γ μ 3 mX13_kills [.int (I k)] w (fun r w' => r = 0 ∧ w' = m_kil μ k w) := by
  refine CMi_of rfl (by simp [rv_cat, Value.category]) rfl ?_
  rintro κ hO hF rfl hR
  have hD := hF.dp
  show X κ 0 0 w 0 [some (rv μ.1), some (.int (I k))] []
  obtain ⟨f1, f2, f3, f4, f5⟩ := hB.f
  have g4 := hB.cn (s := 4) (by omega)
  have h1 := (hB.rd (k := k) (by omega))
  have h2 := h1.psh hk
  have h3 := hB.kilA hk hp
  have h4 := h3.step (k := 5) (p := 0) (v := k)
  have f6 := h1.cn (s := 4) (by omega)
  have f7 := h4.el (i := 16) (by omega)
  obtain ⟨l1, l2, l3, l4, l5⟩ := h2.f
  obtain ⟨k1, k2, k3, k4, k5⟩ := h3.f
  obtain ⟨j1, j2, j3, j4, j5⟩ := h4.f
  have e7 : m_psh 0 k (m_rd k w) 207 0 0 = w 207 0 0 := by rw [psh_at (by decide)]; exact fl_at (by decide)
  have e8 : m_psh 0 k (m_rd k w) 201 0 0 = w 201 0 0 := by rw [psh_at (by decide)]; exact fl_at (by decide)
  refine X_aload_n 1 hO dX13_kills_0 rfl rfl ?_
  refine X_iload_n 2 hO dX13_kills_1 rfl rfl ?_
  refine XM_callVv 5 hO hD hR lX13_306 [_] rfl dX13_kills_2 rfl (c_reads _ _ _ _ (by omega) (by omega)) (by decide) (by simp only [List.map_cons, List.map_nil, rv_cat]; exact Nat.le_of_ble_eq_true rfl) (fun w_2 hp_2 hR => ?_)
  subst hp_2
  refine X_aload_n 6 hO dX13_kills_5 rfl rfl ?_
  refine X_iconst 7 hO dX13_kills_6 rfl ?_
  refine X_iload_n 8 hO dX13_kills_7 rfl rfl ?_
  refine XM_callVv 11 hO hD hR lX13_232 [_, _] rfl dX13_kills_8 rfl (c_pushes _ _ _ _ _ (by omega) (by omega) (by show 0 ≤ m_rd k w 204 0 4 ∧ m_rd k w 204 0 4 ≤ 4; omega)) (by decide) (by simp only [List.map_cons, List.map_nil, rv_cat]; exact Nat.le_of_ble_eq_true rfl) (fun w_8 hp_8 hR => ?_)
  subst hp_8
  refine X_aload_n 12 hO dX13_kills_11 rfl rfl ?_
  refine X_aload_n 13 hO dX13_kills_12 rfl rfl ?_
  refine ga_31 16 hO hR dX13_kills_13 rfl ?_
  refine X_iconst 17 hO dX13_kills_16 rfl ?_
  refine ma_ld (L := 4) (c := 207) 18 hO hR rfl rfl rfl dX13_kills_17 rfl (by omega) (by omega) (fun hi_17 => ?_)
  refine X_iload_n 19 hO dX13_kills_18 rfl rfl ?_
  refine XM_callVv 22 hO hD hR lX13_309 [_, _] rfl dX13_kills_19 rfl (c_deletes _ _ _ _ _ (by omega) (by omega) (SB.m (s := 0) h2.1) (by omega) h2.2.1.e (by omega)) (by decide) (by simp only [List.map_cons, List.map_nil, rv_cat]; exact Nat.le_of_ble_eq_true rfl) (fun w_19 hp_19 hR => ?_)
  subst hp_19
  rw [show m_del μ (m_psh 0 k (m_rd k w) 207 0 0) k (m_psh 0 k (m_rd k w)) = m_kilA μ k w from rfl] at hR ⊢
  refine X_aload_n 23 hO dX13_kills_22 rfl rfl ?_
  refine ga_43 26 hO hR dX13_kills_23 rfl ?_
  refine X_iconst 27 hO dX13_kills_26 rfl ?_
  refine ma_ld (L := 5) (c := 211) 28 hO hR rfl rfl rfl dX13_kills_27 rfl (by omega) (by omega) (fun hi_27 => ?_)
  refine X_iconst 29 hO dX13_kills_28 rfl ?_
  refine X_icmp_ne 32 45 hO dX13_kills_29 rfl rfl (by omega) (by omega) (fun hc_29 => ?_) (fun hc_29 => ?_)
  ·
    refine X_aload_n 46 hO dX13_kills_45 rfl rfl ?_
    refine X_aload_n 47 hO dX13_kills_46 rfl rfl ?_
    refine ga_22 50 hO hR dX13_kills_47 rfl ?_
    refine X_iconst 51 hO dX13_kills_50 rfl ?_
    refine ma_ld (L := 20) (c := 204) 52 hO hR rfl rfl rfl dX13_kills_51 rfl (by omega) (by omega) (fun hi_51 => ?_)
    refine pa_303 55 hO hR dX13_kills_52 rfl (by omega) (fun hR => ?_)
    refine X_iconst 56 hO dX13_kills_55 rfl ?_
    exact XM_iret hO hF hR rfl (by first | exact Or.inl rfl | exact Or.inr ⟨rfl, bi_01 _⟩ | exact Or.inr ⟨rfl, by omega⟩) dX13_kills_56 (by omega) (by unfold m_kil m_rs4 m_psS; (repeat (first | rw [if_pos (by omega)] | rw [if_neg (by omega)])); exact ⟨rfl, rfl⟩)
  ·
    refine X_aload_n 33 hO dX13_kills_32 rfl rfl ?_
    refine X_iconst 34 hO dX13_kills_33 rfl ?_
    refine X_iconst 35 hO dX13_kills_34 rfl ?_
    refine X_iload_n 36 hO dX13_kills_35 rfl rfl ?_
    refine XM_callVv 39 hO hD hR lX13_206 [_, _, _] rfl dX13_kills_36 rfl (c_steps _ _ _ _ _ _ (by omega) (by omega) (by omega) (by omega)) (by decide) (by simp only [List.map_cons, List.map_nil, rv_cat]; exact Nat.le_of_ble_eq_true rfl) (fun w_36 hp_36 hR => ?_)
    subst hp_36
    refine X_aload_n 40 hO dX13_kills_39 rfl rfl ?_
    refine X_iconst 41 hO dX13_kills_40 rfl ?_
    refine X_iconst 42 hO dX13_kills_41 rfl ?_
    refine XM_callVv 45 hO hD hR lX13_215 [_, _] rfl dX13_kills_42 rfl (c_poolsEntry _ _ _ _ _ (by omega) (by omega) (by show 0 ≤ m_step μ 5 0 k (m_kilA μ k w) 205 0 16 ∧ m_step μ 5 0 k (m_kilA μ k w) 205 0 16 ≤ 20; omega) (by show 0 ≤ m_step μ 5 0 k (m_kilA μ k w) 121 μ.1 0 ∧ m_step μ 5 0 k (m_kilA μ k w) 121 μ.1 0 + m_step μ 5 0 k (m_kilA μ k w) 205 0 16 ≤ 524288; omega)) (by decide) (by simp only [List.map_cons, List.map_nil, rv_cat]; exact Nat.le_of_ble_eq_true rfl) (fun w_42 hp_42 hR => ?_)
    subst hp_42
    refine X_aload_n 46 hO dX13_kills_45 rfl rfl ?_
    refine X_aload_n 47 hO dX13_kills_46 rfl rfl ?_
    refine ga_22 50 hO hR dX13_kills_47 rfl ?_
    refine X_iconst 51 hO dX13_kills_50 rfl ?_
    refine ma_ld (L := 20) (c := 204) 52 hO hR rfl rfl rfl dX13_kills_51 rfl (by omega) (by omega) (fun hi_51 => ?_)
    refine pa_303 55 hO hR dX13_kills_52 rfl (by omega) (fun hR => ?_)
    refine X_iconst 56 hO dX13_kills_55 rfl ?_
    exact XM_iret hO hF hR rfl (by first | exact Or.inl rfl | exact Or.inr ⟨rfl, bi_01 _⟩ | exact Or.inr ⟨rfl, by omega⟩) dX13_kills_56 (by omega) (by unfold m_kil m_rs4 m_psS; (repeat (first | rw [if_pos (by omega)] | rw [if_neg (by omega)])); exact ⟨rfl, rfl⟩)
theorem dX13_copies_0 : decode cX13_copies 0 = .ok (.aload_n 0, 1) := by decide +kernel
theorem dX13_copies_1 : decode cX13_copies 1 = .ok (.aload_n 0, 1) := by decide +kernel
theorem dX13_copies_2 : decode cX13_copies 2 = .ok (.getfield 22, 3) := by decide +kernel
theorem dX13_copies_5 : decode cX13_copies 5 = .ok (.iload_n 1, 1) := by decide +kernel
theorem dX13_copies_6 : decode cX13_copies 6 = .ok (.iaload, 1) := by decide +kernel
theorem dX13_copies_7 : decode cX13_copies 7 = .ok (.ifCond .ne 7, 3) := by decide +kernel
theorem dX13_copies_10 : decode cX13_copies 10 = .ok (.iconst 0, 1) := by decide +kernel
theorem dX13_copies_11 : decode cX13_copies 11 = .ok (.goto 11, 3) := by decide +kernel
theorem dX13_copies_14 : decode cX13_copies 14 = .ok (.aload_n 0, 1) := by decide +kernel
theorem dX13_copies_15 : decode cX13_copies 15 = .ok (.getfield 25, 3) := by decide +kernel
theorem dX13_copies_18 : decode cX13_copies 18 = .ok (.iconst 4, 1) := by decide +kernel
theorem dX13_copies_19 : decode cX13_copies 19 = .ok (.iload_n 1, 1) := by decide +kernel
theorem dX13_copies_20 : decode cX13_copies 20 = .ok (.imul, 1) := by decide +kernel
theorem dX13_copies_21 : decode cX13_copies 21 = .ok (.iaload, 1) := by decide +kernel
theorem dX13_copies_22 : decode cX13_copies 22 = .ok (.putfield 303, 3) := by decide +kernel
theorem dX13_copies_25 : decode cX13_copies 25 = .ok (.aload_n 0, 1) := by decide +kernel
theorem dX13_copies_26 : decode cX13_copies 26 = .ok (.getfield 22, 3) := by decide +kernel
theorem dX13_copies_29 : decode cX13_copies 29 = .ok (.iload_n 1, 1) := by decide +kernel
theorem dX13_copies_30 : decode cX13_copies 30 = .ok (.iconst 1, 1) := by decide +kernel
theorem dX13_copies_31 : decode cX13_copies 31 = .ok (.iastore, 1) := by decide +kernel
theorem dX13_copies_32 : decode cX13_copies 32 = .ok (.aload_n 0, 1) := by decide +kernel
theorem dX13_copies_33 : decode cX13_copies 33 = .ok (.iload_n 2, 1) := by decide +kernel
theorem dX13_copies_34 : decode cX13_copies 34 = .ok (.invokevirtual 306, 3) := by decide +kernel
theorem dX13_copies_37 : decode cX13_copies 37 = .ok (.aload_n 0, 1) := by decide +kernel
theorem dX13_copies_38 : decode cX13_copies 38 = .ok (.iconst 0, 1) := by decide +kernel
theorem dX13_copies_39 : decode cX13_copies 39 = .ok (.iload_n 1, 1) := by decide +kernel
theorem dX13_copies_40 : decode cX13_copies 40 = .ok (.iconst 0, 1) := by decide +kernel
theorem dX13_copies_41 : decode cX13_copies 41 = .ok (.iload_n 2, 1) := by decide +kernel
theorem dX13_copies_42 : decode cX13_copies 42 = .ok (.invokevirtual 221, 3) := by decide +kernel
theorem dX13_copies_45 : decode cX13_copies 45 = .ok (.aload_n 0, 1) := by decide +kernel
theorem dX13_copies_46 : decode cX13_copies 46 = .ok (.getfield 43, 3) := by decide +kernel
theorem dX13_copies_49 : decode cX13_copies 49 = .ok (.iload_n 1, 1) := by decide +kernel
theorem dX13_copies_50 : decode cX13_copies 50 = .ok (.iaload, 1) := by decide +kernel
theorem dX13_copies_51 : decode cX13_copies 51 = .ok (.iconst 1, 1) := by decide +kernel
theorem dX13_copies_52 : decode cX13_copies 52 = .ok (.if_icmp .ne 17, 3) := by decide +kernel
theorem dX13_copies_55 : decode cX13_copies 55 = .ok (.aload_n 0, 1) := by decide +kernel
theorem dX13_copies_56 : decode cX13_copies 56 = .ok (.bipush 7, 2) := by decide +kernel
theorem dX13_copies_58 : decode cX13_copies 58 = .ok (.iload_n 1, 1) := by decide +kernel
theorem dX13_copies_59 : decode cX13_copies 59 = .ok (.iload_n 2, 1) := by decide +kernel
theorem dX13_copies_60 : decode cX13_copies 60 = .ok (.invokevirtual 206, 3) := by decide +kernel
theorem dX13_copies_63 : decode cX13_copies 63 = .ok (.aload_n 0, 1) := by decide +kernel
theorem dX13_copies_64 : decode cX13_copies 64 = .ok (.iload_n 1, 1) := by decide +kernel
theorem dX13_copies_65 : decode cX13_copies 65 = .ok (.iconst 0, 1) := by decide +kernel
theorem dX13_copies_66 : decode cX13_copies 66 = .ok (.invokevirtual 215, 3) := by decide +kernel
theorem dX13_copies_69 : decode cX13_copies 69 = .ok (.iconst 0, 1) := by decide +kernel
theorem dX13_copies_70 : decode cX13_copies 70 = .ok (.ireturn, 1) := by decide +kernel
set_option maxRecDepth 4000 in
theorem c_copies (γ : LC) (μ : MU) (w : Mm) (s k S P : Int) (hs : 0 ≤ s ∧ s ≤ 3) (hk : 0 ≤ k ∧ k ≤ 20) (hp : w 207 0 0 + k ≤ m_vT w) (hB : LB μ S P w) (hS : S ≤ 29900) (hP : P ≤ 524000) : CMi γ μ 2 mX13_copies [.int (I s), .int (I k)] w (fun r w' => r = 0 ∧ w' = m_cop μ s k w) := by
  refine CMi_of rfl (by simp [rv_cat, Value.category]) rfl ?_
  rintro κ hO hF rfl hR
  have hD := hF.dp
  show X κ 0 0 w 0 [some (rv μ.1), some (.int (I s)), some (.int (I k))] []
  obtain ⟨f1, f2, f3, f4, f5⟩ := hB.f
  have g4 := hB.cn (s := s) (by omega)
  have g5 := hB.el (i := 4 * s) (by omega)
  have e7 : ∀ v, up (up w 136 μ.1 0 v) 204 0 s 1 207 0 0 = w 207 0 0 := fun v => by rw [up_k _ (by decide), up_k _ (by decide)]
  have h3 := hB.copA (s := s) hk hp
  have h4 := h3.step (k := 7) (p := s) (v := k)
  have f7 := h4.el (i := 4 * s + 0) (by omega)
  obtain ⟨k1, k2, k3, k4, k5⟩ := h3.f
  obtain ⟨j1, j2, j3, j4, j5⟩ := h4.f
  refine X_aload_n 1 hO dX13_copies_0 rfl rfl ?_
  refine X_aload_n 2 hO dX13_copies_1 rfl rfl ?_
  refine ga_22 5 hO hR dX13_copies_2 rfl ?_
  refine X_iload_n 6 hO dX13_copies_5 rfl rfl ?_
  refine ma_ld (L := 20) (c := 204) 7 hO hR rfl rfl rfl dX13_copies_6 rfl (by omega) (by omega) (fun hi_6 => ?_)
  refine X_if_ne 10 14 hO dX13_copies_7 rfl rfl (by omega) (fun hc_7 => ?_) (fun hc_7 => ?_)
  ·
    have hA : m_copA μ s k w = m_tak 0 s 0 k (m_rd k (up (up w 136 μ.1 0 (w 205 0 (4 * s))) 204 0 s 1)) := by unfold m_copA; first | rw [if_pos (by omega)] | rw [if_neg (by omega)]
    rw [hA] at h3 h4 f7 k1 k2 k3 k4 k5 j1 j2 j3 j4 j5
    refine X_aload_n 15 hO dX13_copies_14 rfl rfl ?_
    refine ga_25 18 hO hR dX13_copies_15 rfl ?_
    refine X_iconst 19 hO dX13_copies_18 rfl ?_
    refine X_iload_n 20 hO dX13_copies_19 rfl rfl ?_
    refine X_imul 21 hO dX13_copies_20 rfl ?_
    refine ma_ld (L := 80) (c := 205) 22 hO hR rfl rfl rfl dX13_copies_21 rfl (by omega) (by omega) (fun hi_21 => ?_)
    refine pa_303 25 hO hR dX13_copies_22 rfl (by omega) (fun hR => ?_)
    refine X_aload_n 26 hO dX13_copies_25 rfl rfl ?_
    refine ga_22 29 hO hR dX13_copies_26 rfl ?_
    refine X_iload_n 30 hO dX13_copies_29 rfl rfl ?_
    refine X_iconst 31 hO dX13_copies_30 rfl ?_
    refine ma_st (L := 20) (c := 204) 32 hO hR rfl rfl rfl dX13_copies_31 rfl (by omega) (by omega) (by omega) (fun hR => ?_)
    refine X_aload_n 33 hO dX13_copies_32 rfl rfl ?_
    refine X_iload_n 34 hO dX13_copies_33 rfl rfl ?_
    refine XM_callVv 37 hO hD hR lX13_306 [_] rfl dX13_copies_34 rfl (c_reads _ _ _ _ (by omega) (by rw [e7]; omega)) (by decide) (by simp only [List.map_cons, List.map_nil, rv_cat]; exact Nat.le_of_ble_eq_true rfl) (fun w_34 hp_34 hR => ?_)
    subst hp_34
    refine X_aload_n 38 hO dX13_copies_37 rfl rfl ?_
    refine X_iconst 39 hO dX13_copies_38 rfl ?_
    refine X_iload_n 40 hO dX13_copies_39 rfl rfl ?_
    refine X_iconst 41 hO dX13_copies_40 rfl ?_
    refine X_iload_n 42 hO dX13_copies_41 rfl rfl ?_
    refine XM_callVv 45 hO hD hR lX13_221 [_, _, _, _] rfl dX13_copies_42 rfl (c_takes _ _ _ _ _ _ _ (by omega) (by omega) (by omega) (by omega)) (by decide) (by simp only [List.map_cons, List.map_nil, rv_cat]; exact Nat.le_of_ble_eq_true rfl) (fun w_42 hp_42 hR => ?_)
    subst hp_42
    refine X_aload_n 46 hO dX13_copies_45 rfl rfl ?_
    refine ga_43 49 hO hR dX13_copies_46 rfl ?_
    refine X_iload_n 50 hO dX13_copies_49 rfl rfl ?_
    refine ma_ld (L := 5) (c := 211) 51 hO hR rfl rfl rfl dX13_copies_50 rfl (by omega) (by omega) (fun hi_50 => ?_)
    refine X_iconst 52 hO dX13_copies_51 rfl ?_
    refine X_icmp_ne 55 69 hO dX13_copies_52 rfl rfl (by omega) (by omega) (fun hc_52 => ?_) (fun hc_52 => ?_)
    ·
      refine X_iconst 70 hO dX13_copies_69 rfl ?_
      exact XM_iret hO hF hR rfl (by first | exact Or.inl rfl | exact Or.inr ⟨rfl, bi_01 _⟩ | exact Or.inr ⟨rfl, by omega⟩) dX13_copies_70 (by omega) (by unfold m_cop m_psS; rw [hA]; (repeat (first | rw [if_pos (by omega)] | rw [if_neg (by omega)])); exact ⟨rfl, rfl⟩)
    ·
      refine X_aload_n 56 hO dX13_copies_55 rfl rfl ?_
      refine X_bipush 58 hO dX13_copies_56 rfl (by decide) ?_
      refine X_iload_n 59 hO dX13_copies_58 rfl rfl ?_
      refine X_iload_n 60 hO dX13_copies_59 rfl rfl ?_
      refine XM_callVv 63 hO hD hR lX13_206 [_, _, _] rfl dX13_copies_60 rfl (c_steps _ _ _ _ _ _ (by omega) (by omega) (by omega) (by omega)) (by decide) (by simp only [List.map_cons, List.map_nil, rv_cat]; exact Nat.le_of_ble_eq_true rfl) (fun w_60 hp_60 hR => ?_)
      subst hp_60
      refine X_aload_n 64 hO dX13_copies_63 rfl rfl ?_
      refine X_iload_n 65 hO dX13_copies_64 rfl rfl ?_
      refine X_iconst 66 hO dX13_copies_65 rfl ?_
      refine XM_callVv 69 hO hD hR lX13_215 [_, _] rfl dX13_copies_66 rfl (c_poolsEntry _ _ _ _ _ (by omega) (by omega) (by omega) (by omega)) (by decide) (by simp only [List.map_cons, List.map_nil, rv_cat]; exact Nat.le_of_ble_eq_true rfl) (fun w_66 hp_66 hR => ?_)
      subst hp_66
      refine X_iconst 70 hO dX13_copies_69 rfl ?_
      exact XM_iret hO hF hR rfl (by first | exact Or.inl rfl | exact Or.inr ⟨rfl, bi_01 _⟩ | exact Or.inr ⟨rfl, by omega⟩) dX13_copies_70 (by omega) (by unfold m_cop m_psS; rw [hA]; (repeat (first | rw [if_pos (by omega)] | rw [if_neg (by omega)])); exact ⟨rfl, rfl⟩)
  ·
    have hA : m_copA μ s k w = m_tak 0 s 0 k (m_rd k (up (up w 136 μ.1 0 (0)) 204 0 s 1)) := by unfold m_copA; first | rw [if_pos (by omega)] | rw [if_neg (by omega)]
    rw [hA] at h3 h4 f7 k1 k2 k3 k4 k5 j1 j2 j3 j4 j5
    refine X_iconst 11 hO dX13_copies_10 rfl ?_
    refine X_goto hO dX13_copies_11 (tgt := 22) rfl ?_
    refine pa_303 25 hO hR dX13_copies_22 rfl (by omega) (fun hR => ?_)
    refine X_aload_n 26 hO dX13_copies_25 rfl rfl ?_
    refine ga_22 29 hO hR dX13_copies_26 rfl ?_
    refine X_iload_n 30 hO dX13_copies_29 rfl rfl ?_
    refine X_iconst 31 hO dX13_copies_30 rfl ?_
    refine ma_st (L := 20) (c := 204) 32 hO hR rfl rfl rfl dX13_copies_31 rfl (by omega) (by omega) (by omega) (fun hR => ?_)
    refine X_aload_n 33 hO dX13_copies_32 rfl rfl ?_
    refine X_iload_n 34 hO dX13_copies_33 rfl rfl ?_
    refine XM_callVv 37 hO hD hR lX13_306 [_] rfl dX13_copies_34 rfl (c_reads _ _ _ _ (by omega) (by rw [e7]; omega)) (by decide) (by simp only [List.map_cons, List.map_nil, rv_cat]; exact Nat.le_of_ble_eq_true rfl) (fun w_34 hp_34 hR => ?_)
    subst hp_34
    refine X_aload_n 38 hO dX13_copies_37 rfl rfl ?_
    refine X_iconst 39 hO dX13_copies_38 rfl ?_
    refine X_iload_n 40 hO dX13_copies_39 rfl rfl ?_
    refine X_iconst 41 hO dX13_copies_40 rfl ?_
    refine X_iload_n 42 hO dX13_copies_41 rfl rfl ?_
    refine XM_callVv 45 hO hD hR lX13_221 [_, _, _, _] rfl dX13_copies_42 rfl (c_takes _ _ _ _ _ _ _ (by omega) (by omega) (by omega) (by omega)) (by decide) (by simp only [List.map_cons, List.map_nil, rv_cat]; exact Nat.le_of_ble_eq_true rfl) (fun w_42 hp_42 hR => ?_)
    subst hp_42
    refine X_aload_n 46 hO dX13_copies_45 rfl rfl ?_
    refine ga_43 49 hO hR dX13_copies_46 rfl ?_
    refine X_iload_n 50 hO dX13_copies_49 rfl rfl ?_
    refine ma_ld (L := 5) (c := 211) 51 hO hR rfl rfl rfl dX13_copies_50 rfl (by omega) (by omega) (fun hi_50 => ?_)
    refine X_iconst 52 hO dX13_copies_51 rfl ?_
    refine X_icmp_ne 55 69 hO dX13_copies_52 rfl rfl (by omega) (by omega) (fun hc_52 => ?_) (fun hc_52 => ?_)
    ·
      refine X_iconst 70 hO dX13_copies_69 rfl ?_
      exact XM_iret hO hF hR rfl (by first | exact Or.inl rfl | exact Or.inr ⟨rfl, bi_01 _⟩ | exact Or.inr ⟨rfl, by omega⟩) dX13_copies_70 (by omega) (by unfold m_cop m_psS; rw [hA]; (repeat (first | rw [if_pos (by omega)] | rw [if_neg (by omega)])); exact ⟨rfl, rfl⟩)
    ·
      refine X_aload_n 56 hO dX13_copies_55 rfl rfl ?_
      refine X_bipush 58 hO dX13_copies_56 rfl (by decide) ?_
      refine X_iload_n 59 hO dX13_copies_58 rfl rfl ?_
      refine X_iload_n 60 hO dX13_copies_59 rfl rfl ?_
      refine XM_callVv 63 hO hD hR lX13_206 [_, _, _] rfl dX13_copies_60 rfl (c_steps _ _ _ _ _ _ (by omega) (by omega) (by omega) (by omega)) (by decide) (by simp only [List.map_cons, List.map_nil, rv_cat]; exact Nat.le_of_ble_eq_true rfl) (fun w_60 hp_60 hR => ?_)
      subst hp_60
      refine X_aload_n 64 hO dX13_copies_63 rfl rfl ?_
      refine X_iload_n 65 hO dX13_copies_64 rfl rfl ?_
      refine X_iconst 66 hO dX13_copies_65 rfl ?_
      refine XM_callVv 69 hO hD hR lX13_215 [_, _] rfl dX13_copies_66 rfl (c_poolsEntry _ _ _ _ _ (by omega) (by omega) (by omega) (by omega)) (by decide) (by simp only [List.map_cons, List.map_nil, rv_cat]; exact Nat.le_of_ble_eq_true rfl) (fun w_66 hp_66 hR => ?_)
      subst hp_66
      refine X_iconst 70 hO dX13_copies_69 rfl ?_
      exact XM_iret hO hF hR rfl (by first | exact Or.inl rfl | exact Or.inr ⟨rfl, bi_01 _⟩ | exact Or.inr ⟨rfl, by omega⟩) dX13_copies_70 (by omega) (by unfold m_cop m_psS; rw [hA]; (repeat (first | rw [if_pos (by omega)] | rw [if_neg (by omega)])); exact ⟨rfl, rfl⟩)
