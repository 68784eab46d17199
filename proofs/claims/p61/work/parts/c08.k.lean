/-! a store is tracked -/
/-- where the listeners are calm, or a group is open -/
def TRG (μ : MU) (f s M : Int) (w A B w5 : Mm) : Prop :=
  (A 132 μ.1 0 = 1 ∧ ∃ p1, (RLm p1 μ f (lvL p1 μ B) w5 B ∧ TX μ (pr_ p1) (pg_ p1) (pl_ p1) B ∧ LIV μ (pg_ p1) (pr_ p1 (B 126 μ.1 0)) (up B 211 0 s 1)) ∧ UPG f w w5) ∨
  (A 132 μ.1 0 = 0 ∧ (m_ntf μ B).1 = 1 ∧ ∃ p1, RLm p1 μ f (lvL p1 μ (m_ntf μ B).2) w5 (m_ntf μ B).2 ∧ MKo μ M (pr_ p1) (pg_ p1) (pl_ p1) (up (m_ntf μ B).2 211 0 s 1) ∧ (SB 0 (m_ntf μ B).2 ∧ bTr (m_ntf μ B).2) ∧ (0 ≤ (m_ntf μ B).2 207 0 0 ∧ (m_ntf μ B).2 207 0 0 ≤ 400) ∧ (0 ≤ (m_ntf μ B).2 121 μ.1 0 ∧ (m_ntf μ B).2 121 μ.1 0 ≤ 524288) ∧ UPG f w w5)
section TRK
variable {p : RP} {w w5 w' A B N : Mm} {μ : MU} {f s S P M v : Int} {L : List Int} {ρ : Int → Mm} {G : Int → Int → Int} {PL : Int → List Int}
theorem TRG.fx (h : TRG μ f s M w A B w5) (e1 : B 132 μ.1 0 = A 132 μ.1 0) (e2 : (m_ntf μ B).2 132 μ.1 0 = A 132 μ.1 0) : w5 0 f 0 = 13 ∧ (w5 0 (w5 44 f 0) 0 = 21 ∧ w5 2 (w5 44 f 0) 0 = 5) ∧ w5 87 f 0 = A 132 μ.1 0 := by
  rcases h with ⟨-, p1, ⟨h1, -⟩, -⟩ | ⟨-, -, p1, h1, -⟩
  · exact ⟨h1.toF.1, h1.toTr.1, by rw [← e1]; exact h1.1.2.1.2.2.2.2.1⟩
  · exact ⟨h1.toF.1, h1.toTr.1, by rw [← e2]; exact h1.1.2.1.2.2.2.2.1⟩
theorem lv211 : lvL p μ (up A 211 0 s v) = lvL p μ A := by unfold lvL; rw [up_k _ (by decide), up_k _ (by decide)]
theorem MKo.trk (h2 : TX μ ρ G PL A) (h3 : LIV μ G (ρ (A 126 μ.1 0)) (up A 211 0 s 1)) (h4 : TB μ M A) (hM : M ≤ 598) (h5 : SB 1 A) (hb : bPb A) (h6 : A 120 μ.1 0 ≤ 30000 ∧ A 123 μ.1 0 ≤ 520000 ∧ A 123 μ.1 0 ≤ A 121 μ.1 0) : MKo μ M ρ G PL (up A 211 0 s 1) := by
  have u0 : ∀ {c : Nat} {a i : Int}, c ≠ 211 → up A 211 0 s 1 c a i = A c a i := fun z => up_k _ z _ _ _ _ _
  refine ⟨h2.trk h4 (by omega) h5 (h3.b0.2.2.2.cong fun i => (u0 (by decide)).symm) hb (Or.inl rfl), ?_, h4.cong fun c a i z => u0 (by omega), by omega, h5.cong fun c a i y z => u0 (by omega), ?_⟩
  · rw [u0 (by decide)]; exact h3
  · rw [u0 (by decide), u0 (by decide), u0 (by decide)]; exact h6
theorem CHB.trk (h1 : RLm p μ f (lvL p μ A) w A) (h2 : TX μ (pr_ p) (pg_ p) (pl_ p) A) (h3 : LIV μ (pg_ p) (pr_ p (A 126 μ.1 0)) (up A 211 0 s 1)) (h4 : TB μ M A) (hM : M ≤ 600) (h5 : SB 1 A) (hb : bPb A) : CHB p μ f (lvL p μ (up A 211 0 s 1)) (up w 1 (w 44 f 0) s 1) (up A 211 0 s 1) := by
  have u0 : ∀ {c : Nat} {a i : Int}, c ≠ 211 → up A 211 0 s 1 c a i = A c a i := fun z => up_k _ z _ _ _ _ _
  refine ⟨by rw [lv211]; exact h1.trk, h2.trk h4 hM h5 (h3.b0.2.2.2.cong fun i => (u0 (by decide)).symm) hb (Or.inl rfl), ?_⟩
  rw [u0 (by decide)]; exact h3
theorem TRG.u (h1 : w 0 f 0 = 13 ∧ w 0 (w 50 f 0) 0 = 12) (h2 : w 0 (w 44 f 0) 0 = 21) : UPG f w (up w 1 (w 44 f 0) s v) := UPG.refl.u2 h1 (by decide) (Or.inl (by omega))
end TRK
theorem dX12_track_0 : decode cX12_track 0 = .ok (.iload_n 1, 1) := by decide +kernel
theorem dX12_track_1 : decode cX12_track 1 = .ok (.iconst 5, 1) := by decide +kernel
theorem dX12_track_2 : decode cX12_track 2 = .ok (.invokestatic 132, 3) := by decide +kernel
theorem dX12_track_5 : decode cX12_track 5 = .ok (.aload_n 0, 1) := by decide +kernel
theorem dX12_track_6 : decode cX12_track 6 = .ok (.getfield 22, 3) := by decide +kernel
theorem dX12_track_9 : decode cX12_track 9 = .ok (.iload_n 1, 1) := by decide +kernel
theorem dX12_track_10 : decode cX12_track 10 = .ok (.baload, 1) := by decide +kernel
theorem dX12_track_11 : decode cX12_track 11 = .ok (.ifCond .eq 13, 3) := by decide +kernel
theorem dX12_track_14 : decode cX12_track 14 = .ok (.new 163, 3) := by decide +kernel
theorem dX12_track_17 : decode cX12_track 17 = .ok (.dup, 1) := by decide +kernel
theorem dX12_track_18 : decode cX12_track 18 = .ok (.ldc 190, 2) := by decide +kernel
theorem dX12_track_20 : decode cX12_track 20 = .ok (.invokespecial 167, 3) := by decide +kernel
theorem dX12_track_23 : decode cX12_track 23 = .ok (.athrow, 1) := by decide +kernel
theorem dX12_track_24 : decode cX12_track 24 = .ok (.aload_n 0, 1) := by decide +kernel
theorem dX12_track_25 : decode cX12_track 25 = .ok (.getfield 16, 3) := by decide +kernel
theorem dX12_track_28 : decode cX12_track 28 = .ok (.aload_n 0, 1) := by decide +kernel
theorem dX12_track_29 : decode cX12_track 29 = .ok (.getfield 10, 3) := by decide +kernel
theorem dX12_track_32 : decode cX12_track 32 = .ok (.invokevirtual 136, 3) := by decide +kernel
theorem dX12_track_35 : decode cX12_track 35 = .ok (.aload_n 0, 1) := by decide +kernel
theorem dX12_track_36 : decode cX12_track 36 = .ok (.getfield 10, 3) := by decide +kernel
theorem dX12_track_39 : decode cX12_track 39 = .ok (.iconst 5, 1) := by decide +kernel
theorem dX12_track_40 : decode cX12_track 40 = .ok (.invokevirtual 192, 3) := by decide +kernel
theorem dX12_track_43 : decode cX12_track 43 = .ok (.aload_n 0, 1) := by decide +kernel
theorem dX12_track_44 : decode cX12_track 44 = .ok (.getfield 87, 3) := by decide +kernel
theorem dX12_track_47 : decode cX12_track 47 = .ok (.ifCond .ne 7, 3) := by decide +kernel
theorem dX12_track_50 : decode cX12_track 50 = .ok (.aload_n 0, 1) := by decide +kernel
theorem dX12_track_51 : decode cX12_track 51 = .ok (.invokevirtual 195, 3) := by decide +kernel
theorem dX12_track_54 : decode cX12_track 54 = .ok (.aload_n 0, 1) := by decide +kernel
theorem dX12_track_55 : decode cX12_track 55 = .ok (.getfield 22, 3) := by decide +kernel
theorem dX12_track_58 : decode cX12_track 58 = .ok (.iload_n 1, 1) := by decide +kernel
theorem dX12_track_59 : decode cX12_track 59 = .ok (.iconst 1, 1) := by decide +kernel
theorem dX12_track_60 : decode cX12_track 60 = .ok (.bastore, 1) := by decide +kernel
theorem dX12_track_61 : decode cX12_track 61 = .ok (.aload_n 0, 1) := by decide +kernel
theorem dX12_track_62 : decode cX12_track 62 = .ok (.getfield 87, 3) := by decide +kernel
theorem dX12_track_65 : decode cX12_track 65 = .ok (.ifCond .ne 8, 3) := by decide +kernel
theorem dX12_track_68 : decode cX12_track 68 = .ok (.aload_n 0, 1) := by decide +kernel
theorem dX12_track_69 : decode cX12_track 69 = .ok (.iconst 0, 1) := by decide +kernel
theorem dX12_track_70 : decode cX12_track 70 = .ok (.invokevirtual 198, 3) := by decide +kernel
theorem dX12_track_73 : decode cX12_track 73 = .ok (.aload_n 0, 1) := by decide +kernel
theorem dX12_track_74 : decode cX12_track 74 = .ok (.iconst 0, 1) := by decide +kernel
theorem dX12_track_75 : decode cX12_track 75 = .ok (.putfield 113, 3) := by decide +kernel
theorem dX12_track_78 : decode cX12_track 78 = .ok (.return_, 1) := by decide +kernel
set_option maxRecDepth 4000 in
theorem kX12_track (γ : LC) (w : Mm) (f s : Int) (p : RP) (μ : MU) (A : Mm) (S P M : Int) (h : CHB p μ f (lvL p μ A) w A) (hRB : RB μ S P M A) (hS : S ≤ 28900) (hP : P ≤ 500000) (hM : M ≤ 598) (hb28 : ∀ j, 0 ≤ j → j < 3 → A 228 0 j = 0 ∨ A 228 0 j = 1) (hs : IR s) : KV γ 13 mX12_track [rv f, .int (I s)] w (48) (3200) (fun w' => o_track μ s A 139 μ.1 0 = 0 ∧ RES μ f w w' (o_track μ s A)) (fun E w' => ((E = "java/lang/IndexOutOfBoundsException" ∧ o_track μ s A 139 μ.1 0 = 1) ∨ (E = "java/lang/IllegalStateException" ∧ o_track μ s A 139 μ.1 0 = 2)) ∧ RES μ f w w' (o_track μ s A)) := by
  refine MX_of rfl rfl (by simp [rv_cat, int_cat]) rfl ?_
  rintro κ hO hF rfl
  have hD := hF.dp
  show X κ (48) (3200) w 0 [some (rv f), some (.int (I s))] []
  obtain ⟨hr, hTX, hLV⟩ := id (h.o9 (v := 0) hRB hM)
  have hR0 : RB μ S P M (up A 139 μ.1 0 0) := hRB.o9
  obtain ⟨t0, hFB, t2, -⟩ := hr.toF
  obtain ⟨⟨tt0, tt1⟩, tt2⟩ := hr.toTr
  obtain ⟨hB0, hK0, hZ0, hY0⟩ := id hR0
  have hT := hK0.2.2.2.1
  have hl := hLV.b0.1
  have h120 := hB0.2.2.2.2.1
  have h121 := hB0.2.2.2.2.2
  have hSB := hB0.1
  have hLn : ((lvL p μ (up A 139 μ.1 0 0)).length : Int) ≤ 30000 := by unfold lvL; rw [List.length_map, rng_len]; omega
  obtain ⟨b1, b2, b5⟩ := cal_pre hR0
  have hz1 : A 132 μ.1 0 = 0 ∨ A 132 μ.1 0 = 1 := hRB.2.2.1.1
  have e87 : w 87 f 0 = A 132 μ.1 0 := h.1.1.2.1.2.2.2.2.1
  have hq : sqD w f (w 42 f 0) 20 2 := Or.inl ⟨rfl, rfl, rfl⟩
  have hd2 := (hr.1.2.2.1.sq hq).1
  have t42 := hd2.1.1
  obtain ⟨hDA, h67⟩ := hr.DAs hq (by omega)
  refine X_iload_n 1 hO dX12_track_0 rfl rfl ?_
  refine X_iconst 2 hO dX12_track_1 rfl ?_
  refine X_kSv 5 hO hD lX12_132 [_, _] rfl dX12_track_2 rfl (kX12_requireIndex _ _ _ _ (by omega) (by omega)) (by decide) (by simp [rv_cat, int_cat]) (by first | decide | exact Nat.zero_le _ | omega) (by first | decide | exact Nat.zero_le _ | omega) (fun w_2 hp_2 => ?_) (fun E w_ hx_ => (XE_out hO hF (by
  obtain ⟨x1, x2, x3⟩ := hx_
  have hn : ¬ (0 ≤ s ∧ s ≤ 4) := by omega
  have eo : o_track μ s A = m_th μ 1 A := by unfold o_track; rw [if_neg hn]
  rw [eo, x3]
  exact ⟨Or.inl ⟨x1, up_s _ _ _ _ _⟩, h.r9 hRB hM⟩)))
  obtain ⟨e1_2, e2_2⟩ := hp_2
  subst w_2
  have hs0 : 0 ≤ s ∧ s ≤ 4 := by omega
  have es : w 1 (w 44 f 0) s = A 211 0 s := by rw [tt2 s (by omega) (by omega), up_k _ (by decide)]
  refine X_aload_n 6 hO dX12_track_5 rfl rfl ?_
  refine gX12_22 9 hO dX12_track_6 rfl (by first | assumption | omega | (simp (disch := first | decide | assumption | omega) only [up_k, up_s, up_a, up_i, flA_k, flA_a, flA_n, cpA_k, cpA_a, newO_o, newA_o, newO_t, newA_t, newA_n, cpQ_k, cpQ_a] <;> first | assumption | omega)) ?_
  try simp (disch := first | decide | assumption | omega) only [up_k, up_s, up_a, up_i, flA_k, flA_a, flA_n, cpA_k, cpA_a, newO_o, newA_o, newO_t, newA_t, newA_n, cpQ_k, cpQ_a]
  refine X_iload_n 10 hO dX12_track_9 rfl rfl ?_
  refine X_zald 11 hO dX12_track_10 rfl (by first | assumption | omega | (simp (disch := first | decide | assumption | omega) only [up_k, up_s, up_a, up_i, flA_k, flA_a, flA_n, cpA_k, cpA_a, newO_o, newA_o, newO_t, newA_t, newA_n, cpQ_k, cpQ_a] <;> first | assumption | omega)) (by first | assumption | omega | (simp (disch := first | decide | assumption | omega) only [up_k, up_s, up_a, up_i, flA_k, flA_a, flA_n, cpA_k, cpA_a, newO_o, newA_o, newO_t, newA_t, newA_n, cpQ_k, cpQ_a] <;> first | assumption | omega)) (fun hi_10 => ?_)
  try simp (disch := first | decide | assumption | omega) only [up_k, up_s, up_a, up_i, flA_k, flA_a, flA_n, cpA_k, cpA_a, newO_o, newA_o, newO_t, newA_t, newA_n, cpQ_k, cpQ_a] at hi_10 ⊢
  refine X_if_eq 14 24 hO dX12_track_11 rfl rfl (by omega) (fun hc_11 => ?_) (fun hc_11 => ?_)
  ·
    refine X_aload_n 25 hO dX12_track_24 rfl rfl ?_
    refine gX12_16 28 hO dX12_track_25 rfl (by first | assumption | omega | (simp (disch := first | decide | assumption | omega) only [up_k, up_s, up_a, up_i, flA_k, flA_a, flA_n, cpA_k, cpA_a, newO_o, newA_o, newO_t, newA_t, newA_n, cpQ_k, cpQ_a] <;> first | assumption | omega)) ?_
    try simp (disch := first | decide | assumption | omega) only [up_k, up_s, up_a, up_i, flA_k, flA_a, flA_n, cpA_k, cpA_a, newO_o, newA_o, newO_t, newA_t, newA_n, cpQ_k, cpQ_a]
    refine X_aload_n 29 hO dX12_track_28 rfl rfl ?_
    refine gX12_10 32 hO dX12_track_29 rfl (by first | assumption | omega | (simp (disch := first | decide | assumption | omega) only [up_k, up_s, up_a, up_i, flA_k, flA_a, flA_n, cpA_k, cpA_a, newO_o, newA_o, newO_t, newA_t, newA_n, cpQ_k, cpQ_a] <;> first | assumption | omega)) ?_
    try simp (disch := first | decide | assumption | omega) only [up_k, up_s, up_a, up_i, flA_k, flA_a, flA_n, cpA_k, cpA_a, newO_o, newA_o, newO_t, newA_t, newA_n, cpQ_k, cpQ_a]
    refine X_kVv (t := 2) 35 hO hD lX12_136 rfl (by decide) [_] rfl dX12_track_32 rfl (by first | assumption | omega | (simp (disch := first | decide | assumption | omega) only [up_k, up_s, up_a, up_i, flA_k, flA_a, flA_n, cpA_k, cpA_a, newO_o, newA_o, newO_t, newA_t, newA_n, cpQ_k, cpQ_a] <;> first | assumption | omega)) (kX1_takeAll _ _ _ _ 400 hDA (by omega)) (by decide) (by simp [rv_cat, int_cat]) (by first | decide | exact Nat.zero_le _ | omega) (by first | decide | exact Nat.zero_le _ | omega) (fun w_32 hp_32 => ?_) (fun E w_ hx_ => hx_.elim)
    have hT0 : A 211 0 s ≠ 1 := by omega
    obtain ⟨r1, s2, s3, r3⟩ := hr.saveP hl hSB.2.2.2.2.1 hSB.1.2 hq hp_32
    have n12 : w_32 12 (w 42 f 0) 0 = w 12 (w 42 f 0) 0 := r3.g (by omega) hd2.1.2 (fun z => by unfold SDb at z; omega)
    have f42 : w_32 42 f 0 = w 42 f 0 := ed_fr hr.1.2.1.1 r3 (SDb.std (Or.inr (Or.inl rfl))) hl.1 (by decide)
    have c13 : w_32 0 f 0 = 13 := r1.toF.1
    have g1 : UPG f w w_32 := r3.toG hr.1.2.1.1 hr.1.2.2.2.2.2.1 (fun k z1 z => by unfold SDb at z; omega) (fun k z => by unfold SDb at z; omega)
    have k1 : CHK p μ f w_32 (m_saves μ 2 (up A 139 μ.1 0 0)) := CHK.ini ⟨hr, hTX, hLV⟩ hT (by omega) hK0.2.2.1 hSB r1 (by rw [f42]; exact ⟨s2, by rw [n12]; exact s3⟩)
    obtain ⟨A1, hA1⟩ : ∃ A1, A1 = m_saves μ 2 (up A 139 μ.1 0 0) := ⟨_, rfl⟩
    have eLn : ((lvL p μ A1).length : Int) ≤ 30000 := by unfold lvL; rw [List.length_map, rng_len, hA1, b5 _ _ _ (by decide), b5 _ _ _ (by decide)]; omega
    have b123 : A1 123 μ.1 0 ≤ A1 121 μ.1 0 := by rw [hA1, b5 _ _ _ (by decide), b5 _ _ _ (by decide)]; exact hZ0.2.2.1.2
    have b211 : A1 211 0 s ≠ 1 := by rw [hA1, b5 _ _ _ (by decide), up_k _ (by decide)]; exact hT0
    have b139 : A1 139 μ.1 0 = 0 := by rw [hA1, b5 _ _ _ (by decide), up_s]
    have b132 : A1 132 μ.1 0 = A 132 μ.1 0 := by rw [hA1, b5 _ _ _ (by decide), up_k _ (by decide)]
    have b28 : ∀ j, 0 ≤ j → j < 3 → A1 228 0 j = 0 ∨ A1 228 0 j = 1 := fun j j0 j1 => by rw [hA1, b5 _ _ _ (by decide), up_k _ (by decide)]; exact hb28 j j0 j1
    have eo : o_track μ s A = m_tr1 μ s (m_ends μ 0 (up (m_tells μ s A1) 211 0 s 1)) := by
      unfold o_track; rw [if_pos hs0, if_neg hT0, trW_eq, hA1]; rfl
    rw [← hA1] at k1 b1 b2
    have c41 : w_32 0 (w_32 41 f 0) 0 = 2 := k1.1.1.toF.2.2.1
    have hQT := k1.1.1.toQT (by omega)
    refine X_aload_n 36 hO dX12_track_35 rfl rfl ?_
    refine gX12_10 39 hO dX12_track_36 rfl (by first | assumption | omega | (simp (disch := first | decide | assumption | omega) only [up_k, up_s, up_a, up_i, flA_k, flA_a, flA_n, cpA_k, cpA_a, newO_o, newA_o, newO_t, newA_t, newA_n, cpQ_k, cpQ_a] <;> first | assumption | omega)) ?_
    try simp (disch := first | decide | assumption | omega) only [up_k, up_s, up_a, up_i, flA_k, flA_a, flA_n, cpA_k, cpA_a, newO_o, newA_o, newO_t, newA_t, newA_n, cpQ_k, cpQ_a]
    refine X_iconst 40 hO dX12_track_39 rfl ?_
    refine X_kVv (t := 2) 43 hO hD lX12_192 rfl (by decide) [_] rfl dX12_track_40 rfl (by first | assumption | omega | (simp (disch := first | decide | assumption | omega) only [up_k, up_s, up_a, up_i, flA_k, flA_a, flA_n, cpA_k, cpA_a, newO_o, newA_o, newO_t, newA_t, newA_n, cpQ_k, cpQ_a] <;> first | assumption | omega)) (kX1_addStep _ _ _ _ (by assumption) (by assumption) (by decide)) (by decide) (by simp [rv_cat, int_cat]) (by first | decide | exact Nat.zero_le _ | omega) (by first | decide | exact Nat.zero_le _ | omega) (fun w_40 hp_40 => ?_) (fun E w_ hx_ => hx_.elim)
    obtain ⟨x, x0, x1, x2⟩ := hp_40
    have eB : ∀ {c : Nat} {a i : Int}, c ≠ 212 → c ≠ 120 → c ≠ 213 → c ≠ 121 → m_tells μ s A1 c a i = A1 c a i := fun z1 z2 z3 z4 => tells_at ⟨z1, z2, z3, z4⟩
    have q1 := k1.1.1.sto1 (A' := m_tells μ s A1) (wd := 4 + 8 * 0 + 4096 * s) k1.1.2.2.b0.1 ⟨x0, x1⟩ (fun c a i z1 z2 z3 z4 _ => eB z1 z2 z3 z4) tells_120 (fun k z1 z2 => by rw [tells_212 (by omega), if_neg (by omega)]) (by rw [tells_212 (Int.le_refl _), if_pos rfl]) (by omega)
    rw [← x2] at q1
    have q2 : RPF p μ f (lvL p μ A1) w_32 A1 w_40 (m_tells μ s A1) := RPF.of1 q1 tells_120 (fun g _ z => by rw [tells_212 (Int.le_refl _), if_pos rfl] at z; omega)
    obtain ⟨p1, ⟨m1, m2, m3⟩, m4, ⟨m5, m5b⟩, m6, m7, m8, m9⟩ := k1.trk b2.2.2.2.1 (by omega) b2.2.2.1 b123 b1 (by omega) b2.1.1 (by omega) b211 q2
    have B132 : m_tells μ s A1 132 μ.1 0 = A 132 μ.1 0 := by rw [eB (by decide) (by decide) (by decide) (by decide)]; exact b132
    have bLB : LB μ (S + 1) (P + 85) (m_tells μ s A1) := b1.tells hs0
    have bRK : RK μ (S + 1) (P + 85) M (m_tells μ s A1) := (b2.lo LO.r.tells).mono (by omega) (by omega)
    have B120 : m_tells μ s A1 120 μ.1 0 ≠ m_tells μ s A1 122 μ.1 0 := by
      rw [tells_120, eB (by decide) (by decide) (by decide) (by decide)]
      have := k1.1.2.2.b0.1.2; omega
    obtain ⟨B, hB⟩ : ∃ B, B = m_tells μ s A1 := ⟨_, rfl⟩
    rw [← hB] at m1 m2 m3 m4 m5 m5b m6 m8 m9 B132 bLB bRK B120 eo
    have B139 : B 139 μ.1 0 = 0 := by rw [hB, eB (by decide) (by decide) (by decide) (by decide)]; exact b139
    have B211 : B 211 0 s ≠ 1 := by rw [hB, eB (by decide) (by decide) (by decide) (by decide)]; exact b211
    have B28 : ∀ j, 0 ≤ j → j < 3 → B 228 0 j = 0 ∨ B 228 0 j = 1 := fun j j0 j1 => by rw [hB, eB (by decide) (by decide) (by decide) (by decide)]; exact b28 j j0 j1
    have bT : TB μ M B := bRK.2.2.2.1
    obtain ⟨nLN, nLB, nRK, n01⟩ := ntf_rk bLB bRK
    have nx : ∀ {c : Nat} {a i : Int}, c ≠ 200 → c ≠ 212 → c ≠ 120 → c ≠ 232 → c ≠ 233 → c ≠ 234 → (m_ntf μ B).2 c a i = B c a i := fun z1 z2 z3 z4 z5 z6 => nLN.2 _ _ _ z1 z2 z3 z4 z5 z6
    have N132 : (m_ntf μ B).2 132 μ.1 0 = A 132 μ.1 0 := (nx (by decide) (by decide) (by decide) (by decide) (by decide) (by decide)).trans B132
    have n211 := ntf_211 (s := s) (v := 1) bLB bRK
    obtain ⟨g0, -, hg2, -⟩ := ntf_ok (μ := μ) bRK.2.2.2.2.1
    have hn1 : (m_ntf μ B).1 = (m_nice μ 8 1 B).1 := by rw [hg2]
    have hn2 : (m_ntf μ B).2 = ux g0 (m_nice μ 8 1 B).2 := by rw [hg2]
    have bLn : ((lvL p1 μ B).length : Int) ≤ 30000 := by unfold lvL; rw [List.length_map, rng_len]; have := bLB.2.2.2.2.1; omega
    have bKn : ((lvK (ps_ p1) μ B 2).length : Int) ≤ 100000 := by unfold lvK; rw [List.length_map, rng_len]; have := m4.2.2.2.2; have := bLB.2.2.2.2.1; omega
    have c13b : w_40 0 f 0 = 13 := m1.toF.1
    have e87b : w_40 87 f 0 = A 132 μ.1 0 := by rw [← B132]; exact m1.1.2.1.2.2.2.2.1
    have S120 : B 120 μ.1 0 ≤ 29000 := by have := bLB.2.2.2.2.1; omega
    have gw : UPG f w w_40 := g1.trans m7
    have n50 : ∀ {w5 : Mm} {p5 : RP} {L5 : List Int} {A5 : Mm}, RLm p5 μ f L5 w5 A5 → w5 0 f 0 = 13 ∧ w5 0 (w5 50 f 0) 0 = 12 := fun q => ⟨q.toF.1, q.1.2.2.2.2.2.1.1⟩
    refine X_aload_n 44 hO dX12_track_43 rfl rfl ?_
    refine gX12_87 47 hO dX12_track_44 rfl (by first | assumption | omega | (simp (disch := first | decide | assumption | omega) only [up_k, up_s, up_a, up_i, flA_k, flA_a, flA_n, cpA_k, cpA_a, newO_o, newA_o, newO_t, newA_t, newA_n, cpQ_k, cpQ_a] <;> first | assumption | omega)) (fun hi_44 => ?_)
    try simp (disch := first | decide | assumption | omega) only [up_k, up_s, up_a, up_i, flA_k, flA_a, flA_n, cpA_k, cpA_a, newO_o, newA_o, newO_t, newA_t, newA_n, cpQ_k, cpQ_a] at hi_44 ⊢
    have JP54 : ∀ (w5 : Mm), (TRG μ f s M w A B w5) → X κ 12 2000 (w5) 54 [some (rv f), some (.int (I s))] [] := by
      intro w5 hj
      obtain ⟨c13c, ⟨c44, c44b⟩, c87⟩ := hj.fx B132 N132
      refine X_aload_n 55 hO dX12_track_54 rfl rfl ?_
      refine gX12_22 58 hO dX12_track_55 rfl (by first | assumption | omega | (simp (disch := first | decide | assumption | omega) only [up_k, up_s, up_a, up_i, flA_k, flA_a, flA_n, cpA_k, cpA_a, newO_o, newA_o, newO_t, newA_t, newA_n, cpQ_k, cpQ_a] <;> first | assumption | omega)) ?_
      try simp (disch := first | decide | assumption | omega) only [up_k, up_s, up_a, up_i, flA_k, flA_a, flA_n, cpA_k, cpA_a, newO_o, newA_o, newO_t, newA_t, newA_n, cpQ_k, cpQ_a]
      refine X_iload_n 59 hO dX12_track_58 rfl rfl ?_
      refine X_iconst 60 hO dX12_track_59 rfl ?_
      refine X_zast 61 hO dX12_track_60 rfl (by first | assumption | omega | (simp (disch := first | decide | assumption | omega) only [up_k, up_s, up_a, up_i, flA_k, flA_a, flA_n, cpA_k, cpA_a, newO_o, newA_o, newO_t, newA_t, newA_n, cpQ_k, cpQ_a] <;> first | assumption | omega)) (by first | assumption | omega | (simp (disch := first | decide | assumption | omega) only [up_k, up_s, up_a, up_i, flA_k, flA_a, flA_n, cpA_k, cpA_a, newO_o, newA_o, newO_t, newA_t, newA_n, cpQ_k, cpQ_a] <;> first | assumption | omega)) (by omega) ?_
      refine X_aload_n 62 hO dX12_track_61 rfl rfl ?_
      refine gX12_87 65 hO dX12_track_62 rfl (by first | assumption | omega | (simp (disch := first | decide | assumption | omega) only [up_k, up_s, up_a, up_i, flA_k, flA_a, flA_n, cpA_k, cpA_a, newO_o, newA_o, newO_t, newA_t, newA_n, cpQ_k, cpQ_a] <;> first | assumption | omega)) (fun hi_62 => ?_)
      try simp (disch := first | decide | assumption | omega) only [up_k, up_s, up_a, up_i, flA_k, flA_a, flA_n, cpA_k, cpA_a, newO_o, newA_o, newO_t, newA_t, newA_n, cpQ_k, cpQ_a] at hi_62 ⊢
      refine X_if_ne 68 73 hO dX12_track_65 rfl rfl (by omega) (fun hc_65 => ?_) (fun hc_65 => ?_)
      ·
        try simp only [bi_0, bi_ne, ne_eq, Classical.not_not] at hc_65
        obtain ⟨h132, p3, ⟨z1, z2, z3⟩, z4⟩ := hj.resolve_right (fun z => by have := z.1; omega)
        have hfin : o_track μ s A 139 μ.1 0 = 0 ∧ RES μ f w (up (up w5 1 (w5 44 f 0) s 1) 88 f 0 0) (o_track μ s A) := by
          have oe : o_track μ s A = up (up B 211 0 s 1) 129 μ.1 0 (-1) := by
            rw [eo, ends_0 (Or.inl (by rw [up_k _ (by decide), B132]; exact h132))]; unfold m_tr1; rw [if_neg (show ¬ (((1 : Int), up B 211 0 s 1).1 = 0) from by show ¬ ((1 : Int) = 0); decide)]
          have c9 := (CHB.trk z1 z2 z3 bT (by omega) bRK.2.2.1 m8).ty0 (bT.cong fun c a i y => up_k _ (by omega) _ _ _ _ _) (by omega) (bRK.2.2.1.cong fun c a i y1 y2 => up_k _ (by omega) _ _ _ _ _)
          rw [oe]
          refine ⟨by rw [up_k _ (by decide), up_k _ (by decide)]; exact B139, p3, c9, (z4.trans (TRG.u (s := s) (v := 1) (n50 z1) c44)).trans ?_⟩
          exact (UPG.refl (w := up w5 1 (w5 44 f 0) s 1)).u2 ⟨by rw [up_k _ (by decide)]; exact c13c, by rw [up_k _ (by decide), up_k _ (by decide)]; exact (n50 z1).2⟩ (by decide) (Or.inr ⟨rfl, by decide⟩)
        refine X_aload_n 74 hO dX12_track_73 rfl rfl ?_
        refine X_iconst 75 hO dX12_track_74 rfl ?_
        refine pX12_113 78 hO dX12_track_75 rfl (by first | assumption | omega | (simp (disch := first | decide | assumption | omega) only [up_k, up_s, up_a, up_i, flA_k, flA_a, flA_n, cpA_k, cpA_a, newO_o, newA_o, newO_t, newA_t, newA_n, cpQ_k, cpQ_a] <;> first | assumption | omega)) (by omega) ?_
        exact X_vret hO hF rfl dX12_track_78 ⟨rfl, hfin⟩
      ·
        try simp only [bi_0, bi_ne, ne_eq, Classical.not_not] at hc_65
        obtain ⟨h132, z0, p3, z1, z2, z3, z4, z5, z6⟩ := hj.resolve_left (fun z => by have := z.1; omega)
        have tb5 : bTr (up (m_ntf μ B).2 211 0 s 1) := fun i i0 i1 => by
          by_cases y : i = s
          · rw [y, up_s]; exact Or.inr rfl
          · rw [up_i _ _ _ _ _ _ y]; exact z3.2 i i0 i1
        refine X_aload_n 69 hO dX12_track_68 rfl rfl ?_
        refine X_iconst 70 hO dX12_track_69 rfl ?_
        refine X_kVv (t := 13) 73 hO hD lX12_198 rfl (by decide) [_] rfl dX12_track_70 rfl (by first | assumption | omega | (simp (disch := first | decide | assumption | omega) only [up_k, up_s, up_a, up_i, flA_k, flA_a, flA_n, cpA_k, cpA_a, newO_o, newA_o, newO_t, newA_t, newA_n, cpQ_k, cpQ_a] <;> first | assumption | omega)) (kX12_makeNode _ _ _ 0 p3 μ (up (m_ntf μ B).2 211 0 s 1) M (by rw [lv211]; exact z1.trk) z2 (z3.1.cong fun c a i y1 y2 => up_k _ (by omega) _ _ _ _ _) tb5 (Or.inl rfl) (by rw [up_k _ (by decide)]; exact z4) (by rw [up_k _ (by decide)]; exact z5)) (by decide) (by simp [rv_cat, int_cat]) (by first | decide | exact Nat.zero_le _ | omega) (by first | decide | exact Nat.zero_le _ | omega) (fun w_70 hp_70 => ?_) (fun E w_ hx_ => hx_.elim)
        obtain ⟨p4, s1, s2, s3⟩ := hp_70
        have ck := mks_lv s1 s2
        have c13e : w_70 0 f 0 = 13 := ck.1.toF.1
        have hfin : o_track μ s A 139 μ.1 0 = 0 ∧ RES μ f w (up w_70 88 f 0 0) (o_track μ s A) := by
          have oe : o_track μ s A = up (m_mks μ 0 (up (m_ntf μ B).2 211 0 s 1)) 129 μ.1 0 (-1) := by
            rw [eo, ends_1 (by rw [up_k _ (by decide), B132]; exact h132) (by rw [up_k _ (by decide), up_k _ (by decide)]; exact B120) (by rw [n211]; exact z0), n211]; unfold m_tr1; rw [if_neg (show ¬ (((1 : Int), m_mks μ 0 (up (m_ntf μ B).2 211 0 s 1)).1 = 0) from by show ¬ ((1 : Int) = 0); decide)]
          have c9 := ck.ty0 s1.2.2.1 (by omega) s1.2.2.2.1.1
          have em : m_mks μ 0 (up (m_ntf μ B).2 211 0 s 1) 139 μ.1 0 = 0 := by
            unfold m_mks m_mrgs; rw [mrg_o (by decide), mk1_n (by decide), up_k _ (by decide), nx (by decide) (by decide) (by decide) (by decide) (by decide) (by decide)]; exact B139
          rw [oe]
          refine ⟨by rw [up_k _ (by decide)]; exact em, p4, c9, ((z6.trans (TRG.u (s := s) (v := 1) (n50 z1) c44)).trans s3.gg).trans ?_⟩
          exact (UPG.refl (w := w_70)).u2 (n50 ck.1) (by decide) (Or.inr ⟨rfl, by decide⟩)
        refine X_aload_n 74 hO dX12_track_73 rfl rfl ?_
        refine X_iconst 75 hO dX12_track_74 rfl ?_
        refine pX12_113 78 hO dX12_track_75 rfl (by first | assumption | omega | (simp (disch := first | decide | assumption | omega) only [up_k, up_s, up_a, up_i, flA_k, flA_a, flA_n, cpA_k, cpA_a, newO_o, newA_o, newO_t, newA_t, newA_n, cpQ_k, cpQ_a] <;> first | assumption | omega)) (by omega) ?_
        exact X_vret hO hF rfl dX12_track_78 ⟨rfl, hfin⟩
    refine X_if_ne 50 54 hO dX12_track_47 rfl rfl (by omega) (fun hc_47 => ?_) (fun hc_47 => ?_)
    ·
      try simp only [bi_0, bi_ne, ne_eq, Classical.not_not] at hc_47
      have hj : TRG μ f s M w A B w_40 := Or.inl ⟨by omega, p1, ⟨m1, m2, m3⟩, gw⟩
      exact X_mono (by omega) (by omega) (JP54 _ hj)
    ·
      try simp only [bi_0, bi_ne, ne_eq, Classical.not_not] at hc_47
      
      refine X_aload_n 51 hO dX12_track_50 rfl rfl ?_
      refine X_kVv (t := 13) 54 hO hD lX12_195 rfl (by decide) [] rfl dX12_track_51 rfl (by first | assumption | omega | (simp (disch := first | decide | assumption | omega) only [up_k, up_s, up_a, up_i, flA_k, flA_a, flA_n, cpA_k, cpA_a, newO_o, newA_o, newO_t, newA_t, newA_n, cpQ_k, cpQ_a] <;> first | assumption | omega)) (kX12_requireCalmListeners2 _ _ _ p1 μ (lvL p1 μ B) B (pr_ p1 (B 126 μ.1 0)) s 1 (lvK (ps_ p1) μ B 2) g0 m1 m9 S120 bLn B28 bRK.2.2.2.2.2.1 m3 (bLB.mono (by omega) (by omega)) m4 bKn) (by decide) (by simp [rv_cat, int_cat]) (by first | decide | exact Nat.zero_le _ | omega) (by first | decide | exact Nat.zero_le _ | omega) (fun w_51 hp_51 => ?_) (fun E w_ hx_ => (XE_out hO hF (by
  obtain ⟨x1, x2, x3⟩ := hx_
  rw [← hn2] at x3
  have h132 : A 132 μ.1 0 = 0 := by omega
  have o1 : (m_ntf μ (up B 211 0 s 1)).1 = 0 := by rw [n211]; show (m_ntf μ B).1 = 0; rw [hn1]; exact x2
  have o2 : (m_ntf μ (up B 211 0 s 1)).2 = up (m_ntf μ B).2 211 0 s 1 := by rw [n211]
  have B211z : B 211 0 s = 0 := (bLB.2.2.2.1 s (by omega) (by omega)).resolve_right B211
  have oe : o_track μ s A = up (m_rest μ 2 1 (m_ntf μ B).2) 139 μ.1 0 2 := by
    rw [eo, ends_2 (by rw [up_k _ (by decide), B132]; exact h132) (by rw [up_k _ (by decide), up_k _ (by decide)]; exact B120) o1, o2]
    unfold m_tr1
    rw [if_pos rfl]
    show up (up (m_rest μ 2 1 (up (m_ntf μ B).2 211 0 s 1)) 211 0 s 0) 139 μ.1 0 2 = _
    have e3 : m_rest μ 2 1 (up (m_ntf μ B).2 211 0 s 1) = up (m_rest μ 2 1 (m_ntf μ B).2) 211 0 s 1 := by
      rw [up211 (B := (m_ntf μ B).2), lq_rest1 K2_ok, pc211 fun a i => rest_at (by decide)]
    rw [e3, up_up]
    have e4 : up (m_rest μ 2 1 (m_ntf μ B).2) 211 0 s 0 = m_rest μ 2 1 (m_ntf μ B).2 := up_sv (by rw [rest_at (by decide), nx (by decide) (by decide) (by decide) (by decide) (by decide) (by decide)]; exact B211z)
    rw [e4]
  obtain ⟨p9, x4, x5⟩ := x3.go2 m1 m2 m9 m8 m6 bLB bRK (by omega) m5b rfl m4.2.2.2.2 m5
  rw [oe]
  exact ⟨Or.inr ⟨x1, up_s _ _ _ _ _⟩, p9, x4.o34 (nRK.rest (Or.inl rfl)).2.2.2.1 (by omega) (nRK.rest (Or.inl rfl)).2.2.1 (by decide), gw.trans x5⟩)))
      obtain ⟨y0, p2, y1, ⟨y2, y3, y4, y5, y6⟩, ⟨y7, y8⟩, y9, y10, y11⟩ := hp_51.go m1 m2 m9 m8 bLB bRK (by omega) (by omega) (by omega) m5b
      have nb : bPb (m_ntf μ B).2 := m8.cong fun i => nx (by decide) (by decide) (by decide) (by decide) (by decide) (by decide)
      have hj : TRG μ f s M w A B w_51 := Or.inr ⟨by omega, y0, p2, y1, MKo.trk y2 y3 y4 hM y5 nb y6, ⟨y7, y8⟩, y9, y10, gw.trans y11.gg⟩
      exact X_mono (by omega) (by omega) (JP54 _ hj)
  ·
    exact X_throwISE hO hF (by decide) (text := "the store is tracked") (by decide) dX12_track_14 dX12_track_17 dX12_track_18 dX12_track_20 dX12_track_23 (by first | exact (by
  have h1 : A 211 0 s = 1 := by
    have := hB0.2.2.2.1 s (by omega) (by omega)
    rw [up_k _ (by decide)] at this; omega
  have eo : o_track μ s A = m_th μ 2 A := by unfold o_track; rw [if_pos hs0, if_pos h1]
  rw [eo]
  exact ⟨Or.inr ⟨rfl, up_s _ _ _ _ _⟩, h.r9 hRB hM⟩)) (by first | decide | omega) (by first | decide | omega) (by simp [rv_cat, int_cat])
