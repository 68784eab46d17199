/-! the class is made -/
def FTl (w : Mm) (t : Int) : Prop := w 84 t 0 = 0 ∧ w 85 t 0 = -1
def FDs (c : Int → Int) (b : Int) (w : Mm) (d : Int) : Prop := sDk c b w d ∧ FDk w d
/-- the class as it is made, but for its macros; N is its first node -/
def INC (c : Int → Int) (w : Mm) (f N : Int) : Prop :=
  OBt c w f 13 1 ∧ (FDs c 10 w (w 41 f 0) ∧ FDs c 20 w (w 42 f 0) ∧ FDs c 30 w (w 43 f 0)) ∧ ARt c w (w 44 f 0) 21 5 40 ∧ (FTr c w (w 45 f 0) N ∧ FNd c w N) ∧ FLs c w (w 46 f 0) ∧ vTs c w (w 47 f 0) ∧ FMc c 63 w (w 49 f 0) ∧ (OBt c w (w 50 f 0) 12 86 ∧ FTl w (w 50 f 0)) ∧ (w 86 f 0 = -1 ∧ w 87 f 0 = 0 ∧ w 88 f 0 = 0 ∧ w 89 f 0 = 0 ∧ w 90 f 0 = 0)
/-- and i of its macros -/
def MCi (c : Int → Int) (w : Mm) (f i : Int) : Prop := (w 0 (w 48 f 0) 0 = 24 ∧ w 2 (w 48 f 0) 0 = 4 ∧ c (w 48 f 0) = 62) ∧ ∀ m, 0 ≤ m → m < i → FMc c (70 + 4 * m) w (w 3 (w 48 f 0) m)
def FIi (f : Int) (c0 : Int → Int) (w0 : Mm) (i : Int) (W : Mm) : Prop := ∃ c' N, NW f c0 c' w0 W ∧ INC c' W f N ∧ MCi c' W f i ∧ w0 0 (W 48 f 0) 0 = 0
section INC
variable {c c' : Int → Int} {S : Int → Nat → Prop} {w w' w0 W w2 : Mm} {b d f N i t q : Int} {c0 : Int → Int}
theorem FTl.fr (h : FTl w t) (g : OBt c w t 12 b) (u : UPd c S w w') (hs : ∀ k : Nat, ¬ S b k) : FTl w' t := by
  have o : ∀ k : Nat, w' k t 0 = w k t 0 := fun k => u.g (by have := g.1; omega) g.2 (hs k)
  unfold FTl
  rw [o, o]; exact h
theorem FDs.fr (h : FDs c b w d) (u : UPd c S w w') (hc : CXt w c c') (hs : ∀ (b' : Int) (k : Nat), b ≤ b' → b' ≤ b + 8 → ¬ S b' k) : FDs c' b w' d :=
  ⟨(h.1.fr u hc (fun k _ _ => ⟨hs b k (by omega) (by omega), hs (b + 1) k (by omega) (by omega)⟩)).1, h.2.fr h.1 u hs⟩
theorem INC.fr (h : INC c w f N) (u : UPd c S w w') (hc : CXt w c c') (hs : ∀ (b' : Int) (k : Nat), ((1 ≤ b' ∧ b' ≤ 61) ∨ (63 ≤ b' ∧ b' ≤ 66) ∨ b' = 86 ∨ (1000 ≤ b' ∧ b' ≤ 1006)) → ¬ S b' k) : INC c' w' f N := by
  obtain ⟨h1, ⟨h2, h3, h4⟩, h5, ⟨h6, h7⟩, h8, h9, h10, ⟨h11, h12⟩, h13⟩ := h
  have o : ∀ k : Nat, w' k f 0 = w k f 0 := fun k => u.g (by have := h1.1; omega) h1.2 (hs 1 k (by omega))
  unfold INC
  rw [o, o, o, o, o, o, o, o, o, o, o, o, o, o]
  exact ⟨h1.fr (by decide) u hc, ⟨h2.fr u hc (fun b' k x y => hs b' k (by omega)), h3.fr u hc (fun b' k x y => hs b' k (by omega)), h4.fr u hc (fun b' k x y => hs b' k (by omega))⟩, h5.fr (by decide) u hc (fun k => hs _ k (by omega)), ⟨h6.fr u hc (fun b' k x y => hs b' k (by omega)), h7.fr u hc (fun b' k x y => hs b' k (by omega))⟩, h8.fr u hc (fun b' k x y => hs b' k (by omega)), h9.fr2 u hc (fun b' k x y => hs b' k (by omega)), h10.fr u hc (fun b' k x y => hs b' k (by omega)), ⟨h11.fr (by decide) u hc, h12.fr h11 u (fun k => hs _ k (by omega))⟩, h13⟩
theorem FIi.st (h : FIi f c0 w0 i W) (hi : 0 ≤ i ∧ i < 4) (hf : w0 0 f 0 ≠ 0) (hq : 0 < q) (h0 : W 0 q 0 = 0) (hp : ∃ q1 q2 q3, (0 < q1 ∧ 0 < q2 ∧ 0 < q3) ∧ (newO W q 4 0 q1 0 = 0 ∧ newO W q 4 0 q2 0 = 0 ∧ newO W q 4 0 q3 0 = 0) ∧ (q1 ≠ q2 ∧ q1 ≠ q3 ∧ q2 ≠ q3) ∧ w2 = up (newA (up (newA (up (newA (newO W q 4) q1 20 16) 21 q 0 q1) q2 20 16) 22 q 0 q2) q3 20 16) 23 q 0 q3) :
    w2 0 (W 48 f 0) 0 = 24 ∧ w2 2 (W 48 f 0) 0 = 4 ∧ w2 0 q 0 = 4 ∧ FIi f c0 w0 (i + 1) (up w2 3 (W 48 f 0) i q) := by
  obtain ⟨c1, N, hN, hI, ⟨⟨m1, m2, m3⟩, m4⟩, hu⟩ := h
  obtain ⟨k2, hk2⟩ : ∃ k : Int → Int, k = (fun a => if a = q then 70 + 4 * i else c1 a) := ⟨_, rfl⟩
  obtain ⟨W1, hW1⟩ : ∃ W1, W1 = newO W q 4 := ⟨_, rfl⟩
  have M1 : NW q c1 k2 W W1 := by rw [hk2, hW1]; exact (NW.refl hN.2.1).O hq h0 (by decide)
  have o1 : OBt k2 W1 q 4 (70 + 4 * i) := ⟨by rw [hW1]; exact newO_t, by rw [hk2]; exact if_pos rfl⟩
  have z1 : ∀ k : Nat, 10 ≤ k → W1 k q 0 = 0 := fun k hk => by rw [hW1]; exact newO_f hk
  rw [← hW1] at hp
  obtain ⟨c3, M2, fm⟩ := NW.mc M1.2.1 o1 z1 hq hp
  have M3 : NW q c1 c3 W w2 := M1.trans M2 (Or.inl rfl)
  have fq : W 48 f 0 ≠ q := fun e => by rw [e] at m1; omega
  have ff : f ≠ q := fun e => by have := hI.1.1; rw [e] at this; omega
  have t1 : w2 0 (W 48 f 0) 0 = 24 := M3.tt m1 (by decide)
  have t2 : w2 2 (W 48 f 0) 0 = 4 := (M3.f h0 (by omega)).trans m2
  have u3 := M3.u1 (b := 62) h0
  have I3 := hI.fr u3 M3.1 (fun b' k x => SX_n (by omega))
  have c62 : c3 (W 48 f 0) = 62 := (M3.1 _ (by omega)).trans m3
  have f48 : w2 48 f 0 = W 48 f 0 := M3.f h0 (by have := hI.1.1; omega)
  obtain ⟨w3, hw3⟩ : ∃ w3, w3 = up w2 3 (W 48 f 0) i q := ⟨_, rfl⟩
  have M4 : NW (W 48 f 0) c3 c3 w2 w3 := by rw [hw3]; exact (NW.refl M3.2.1).p (Or.inl rfl) (fun e => by rw [e] at m1 hu; have z := hN.2.2.2 0 0; omega) (by decide)
  have u4 := M4.u c62
  have I4 := I3.fr u4 M4.1 (fun b' k x => SX_n (by omega))
  have g48 : w3 48 f 0 = W 48 f 0 := by rw [hw3, up_k _ (by decide)]; exact f48
  refine ⟨t1, t2, fm.1.1, ?_⟩
  rw [← hw3]
  refine ⟨c3, N, (hN.trans M3 (Or.inr (hN.un h0))).trans M4 (Or.inr hu), I4, ⟨by rw [g48]; exact ⟨M4.tt t1 (by decide), (u4.t (by omega) (by decide)).trans t2, c62⟩, fun m m0 m1' => ?_⟩, by rw [g48]; exact hu⟩
  rw [g48]
  by_cases e : m = i
  · subst e
    have e3 : w3 3 (W 48 f 0) m = q := by rw [hw3, up_s]
    rw [e3]
    exact fm.fr u4 M4.1 (fun b' k x y => SX_n (by omega))
  · have e3 : w3 3 (W 48 f 0) m = W 3 (W 48 f 0) m := by rw [hw3, up_i _ _ _ _ _ _ e]; exact M3.f h0 (by omega)
    rw [e3]
    exact ((m4 m m0 (by omega)).fr u3 M3.1 (fun b' k x y => SX_n (by omega))).fr u4 M4.1 (fun b' k x y => SX_n (by omega))
end INC
theorem dX12_init_0 : decode cX12_init 0 = .ok (.aload_n 0, 1) := by decide +kernel
theorem dX12_init_1 : decode cX12_init 1 = .ok (.invokespecial 1, 3) := by decide +kernel
theorem dX12_init_4 : decode cX12_init 4 = .ok (.aload_n 0, 1) := by decide +kernel
theorem dX12_init_5 : decode cX12_init 5 = .ok (.new 7, 3) := by decide +kernel
theorem dX12_init_8 : decode cX12_init 8 = .ok (.dup, 1) := by decide +kernel
theorem dX12_init_9 : decode cX12_init 9 = .ok (.invokespecial 9, 3) := by decide +kernel
theorem dX12_init_12 : decode cX12_init 12 = .ok (.putfield 10, 3) := by decide +kernel
theorem dX12_init_15 : decode cX12_init 15 = .ok (.aload_n 0, 1) := by decide +kernel
theorem dX12_init_16 : decode cX12_init 16 = .ok (.new 7, 3) := by decide +kernel
theorem dX12_init_19 : decode cX12_init 19 = .ok (.dup, 1) := by decide +kernel
theorem dX12_init_20 : decode cX12_init 20 = .ok (.invokespecial 9, 3) := by decide +kernel
theorem dX12_init_23 : decode cX12_init 23 = .ok (.putfield 16, 3) := by decide +kernel
theorem dX12_init_26 : decode cX12_init 26 = .ok (.aload_n 0, 1) := by decide +kernel
theorem dX12_init_27 : decode cX12_init 27 = .ok (.new 7, 3) := by decide +kernel
theorem dX12_init_30 : decode cX12_init 30 = .ok (.dup, 1) := by decide +kernel
theorem dX12_init_31 : decode cX12_init 31 = .ok (.invokespecial 9, 3) := by decide +kernel
theorem dX12_init_34 : decode cX12_init 34 = .ok (.putfield 19, 3) := by decide +kernel
theorem dX12_init_37 : decode cX12_init 37 = .ok (.aload_n 0, 1) := by decide +kernel
theorem dX12_init_38 : decode cX12_init 38 = .ok (.iconst 5, 1) := by decide +kernel
theorem dX12_init_39 : decode cX12_init 39 = .ok (.newarray .boolean, 2) := by decide +kernel
theorem dX12_init_41 : decode cX12_init 41 = .ok (.putfield 22, 3) := by decide +kernel
theorem dX12_init_44 : decode cX12_init 44 = .ok (.aload_n 0, 1) := by decide +kernel
theorem dX12_init_45 : decode cX12_init 45 = .ok (.new 26, 3) := by decide +kernel
theorem dX12_init_48 : decode cX12_init 48 = .ok (.dup, 1) := by decide +kernel
theorem dX12_init_49 : decode cX12_init 49 = .ok (.invokespecial 28, 3) := by decide +kernel
theorem dX12_init_52 : decode cX12_init 52 = .ok (.putfield 29, 3) := by decide +kernel
theorem dX12_init_55 : decode cX12_init 55 = .ok (.aload_n 0, 1) := by decide +kernel
theorem dX12_init_56 : decode cX12_init 56 = .ok (.new 33, 3) := by decide +kernel
theorem dX12_init_59 : decode cX12_init 59 = .ok (.dup, 1) := by decide +kernel
theorem dX12_init_60 : decode cX12_init 60 = .ok (.invokespecial 35, 3) := by decide +kernel
theorem dX12_init_63 : decode cX12_init 63 = .ok (.putfield 36, 3) := by decide +kernel
theorem dX12_init_66 : decode cX12_init 66 = .ok (.aload_n 0, 1) := by decide +kernel
theorem dX12_init_67 : decode cX12_init 67 = .ok (.new 40, 3) := by decide +kernel
theorem dX12_init_70 : decode cX12_init 70 = .ok (.dup, 1) := by decide +kernel
theorem dX12_init_71 : decode cX12_init 71 = .ok (.invokespecial 42, 3) := by decide +kernel
theorem dX12_init_74 : decode cX12_init 74 = .ok (.putfield 43, 3) := by decide +kernel
theorem dX12_init_77 : decode cX12_init 77 = .ok (.aload_n 0, 1) := by decide +kernel
theorem dX12_init_78 : decode cX12_init 78 = .ok (.iconst 4, 1) := by decide +kernel
theorem dX12_init_79 : decode cX12_init 79 = .ok (.anewarray 47, 3) := by decide +kernel
theorem dX12_init_82 : decode cX12_init 82 = .ok (.putfield 49, 3) := by decide +kernel
theorem dX12_init_85 : decode cX12_init 85 = .ok (.aload_n 0, 1) := by decide +kernel
theorem dX12_init_86 : decode cX12_init 86 = .ok (.new 47, 3) := by decide +kernel
theorem dX12_init_89 : decode cX12_init 89 = .ok (.dup, 1) := by decide +kernel
theorem dX12_init_90 : decode cX12_init 90 = .ok (.invokespecial 53, 3) := by decide +kernel
theorem dX12_init_93 : decode cX12_init 93 = .ok (.putfield 54, 3) := by decide +kernel
theorem dX12_init_96 : decode cX12_init 96 = .ok (.aload_n 0, 1) := by decide +kernel
theorem dX12_init_97 : decode cX12_init 97 = .ok (.new 58, 3) := by decide +kernel
theorem dX12_init_100 : decode cX12_init 100 = .ok (.dup, 1) := by decide +kernel
theorem dX12_init_101 : decode cX12_init 101 = .ok (.invokespecial 60, 3) := by decide +kernel
theorem dX12_init_104 : decode cX12_init 104 = .ok (.putfield 61, 3) := by decide +kernel
theorem dX12_init_107 : decode cX12_init 107 = .ok (.aload_n 0, 1) := by decide +kernel
theorem dX12_init_108 : decode cX12_init 108 = .ok (.iconst (-1), 1) := by decide +kernel
theorem dX12_init_109 : decode cX12_init 109 = .ok (.putfield 65, 3) := by decide +kernel
theorem dX12_init_112 : decode cX12_init 112 = .ok (.iconst 0, 1) := by decide +kernel
theorem dX12_init_113 : decode cX12_init 113 = .ok (.istore_n 1, 1) := by decide +kernel
theorem dX12_init_114 : decode cX12_init 114 = .ok (.iload_n 1, 1) := by decide +kernel
theorem dX12_init_115 : decode cX12_init 115 = .ok (.iconst 4, 1) := by decide +kernel
theorem dX12_init_116 : decode cX12_init 116 = .ok (.if_icmp .ge 22, 3) := by decide +kernel
theorem dX12_init_119 : decode cX12_init 119 = .ok (.aload_n 0, 1) := by decide +kernel
theorem dX12_init_120 : decode cX12_init 120 = .ok (.getfield 49, 3) := by decide +kernel
theorem dX12_init_123 : decode cX12_init 123 = .ok (.iload_n 1, 1) := by decide +kernel
theorem dX12_init_124 : decode cX12_init 124 = .ok (.new 47, 3) := by decide +kernel
theorem dX12_init_127 : decode cX12_init 127 = .ok (.dup, 1) := by decide +kernel
theorem dX12_init_128 : decode cX12_init 128 = .ok (.invokespecial 53, 3) := by decide +kernel
theorem dX12_init_131 : decode cX12_init 131 = .ok (.aastore, 1) := by decide +kernel
theorem dX12_init_132 : decode cX12_init 132 = .ok (.iinc 1 1, 3) := by decide +kernel
theorem dX12_init_135 : decode cX12_init 135 = .ok (.goto (-21), 3) := by decide +kernel
theorem dX12_init_138 : decode cX12_init 138 = .ok (.return_, 1) := by decide +kernel
set_option maxRecDepth 4000 in
theorem kX12_init (γ : LC) (w : Mm) (f : Int) (c : Int → Int) (hq : 0 < f) (ht : w 0 f 0 = 13) (hz : ∀ k : Nat, 10 ≤ k → w k f 0 = 0) (hc : c f = 1) (hk : KPc c w) : KV γ 10 mX12_init [rv f] w (78) (1748) (fun w' => FIi f c w 4 w') NX := by
  refine MX_of rfl rfl (by simp [rv_cat, int_cat]) rfl ?_
  rintro κ hO hF rfl
  have hD := hF.dp
  show X κ (78) (1748) w 0 [some (rv f), none] []
  refine X_aload_n 1 hO dX12_init_0 rfl rfl ?_
  refine X_objInit 4 hO w_157 dX12_init_1 rfl hD (by decide) (by assumption) (by simp [rv_cat, int_cat]) ?_
  have f87 : w 87 f 0 = 0 := hz 87 (by decide)
  have f88 : w 88 f 0 = 0 := hz 88 (by decide)
  have f89 : w 89 f 0 = 0 := hz 89 (by decide)
  have f90 : w 90 f 0 = 0 := hz 90 (by decide)
  refine X_aload_n 5 hO dX12_init_4 rfl rfl ?_
  refine n_2 8 hO w_160 (by omega) (by omega) dX12_init_5 rfl (fun q_5 hq_5 hf_5 => ?_)
  have u_1 : w 0 q_5 0 = 0 := hf_5
  have ne_1 : f ≠ q_5 := fun e => by rw [e] at ht; omega
  obtain ⟨k1, e_k1⟩ : ∃ k : Int → Int, k = (fun a => if a = q_5 then 10 else c a) := ⟨_, rfl⟩
  obtain ⟨W1, e_W1⟩ : ∃ W, W = newO w q_5 2 := ⟨_, rfl⟩
  have M_ : NW q_5 c k1 w W1 := by rw [e_k1, e_W1]; exact (NW.refl hk).O hq_5 hf_5 (by decide)
  rw [← e_W1]
  have o_1 : OBt k1 W1 q_5 2 (10) := ⟨by rw [e_W1]; exact newO_t, by rw [e_k1]; exact if_pos rfl⟩
  have z_1 : ∀ k : Nat, 10 ≤ k → W1 k q_5 0 = 0 := fun k hk => by rw [e_W1]; exact newO_f hk
  have U_ := M_.u1 (b := 1) hf_5
  have X_ := M_.1
  have ht_ : W1 0 f 0 = 13 := M_.tt ht (by decide)
  have hc_ : k1 f = 1 := (X_ f (by omega)).trans hc
  have f87' : W1 87 f 0 = 0 := (M_.f hf_5 (by omega)).trans f87
  have f88' : W1 88 f 0 = 0 := (M_.f hf_5 (by omega)).trans f88
  have f89' : W1 89 f 0 = 0 := (M_.f hf_5 (by omega)).trans f89
  have f90' : W1 90 f 0 = 0 := (M_.f hf_5 (by omega)).trans f90
  have N_ : NW f c k1 w W1 := (NW.refl hk).trans M_ (Or.inr (hf_5))
  have N0 := N_
  clear N_ U_ X_
  have ht0 := ht_
  have hc0 := hc_
  clear ht_ hc_
  clear f87
  have f87 := f87'
  clear f87'
  clear f88
  have f88 := f88'
  clear f88'
  clear f89
  have f89 := f89'
  clear f89'
  clear f90
  have f90 := f90'
  clear f90'
  clear M_ e_k1 e_W1
  refine X_dup 9 hO dX12_init_8 rfl (by first | rfl | exact rv_cat _) ?_
  refine X_kNv 12 hO hD nX12_9 [] rfl dX12_init_9 rfl (by assumption) (kX1_init _ _ _ 10 k1 hq_5 o_1.1 (z_1 60 (by decide)) (z_1 61 (by decide)) o_1.2 (by decide) N0.2.1) (by decide) (by simp [rv_cat, int_cat]) (by first | decide | exact Nat.zero_le _ | omega) (by first | decide | exact Nat.zero_le _ | omega) (fun w_9 hp_9 => ?_) (fun E w_ hx_ => hx_.elim)
  obtain ⟨c9, M9, d_9⟩ := hp_9
  have U_ := M9.u o_1.2
  have X_ := M9.1
  have ht_ : w_9 0 f 0 = 13 := M9.tt ht0 (by decide)
  have hc_ : c9 f = 1 := (X_ f (by omega)).trans hc0
  have f87' : w_9 87 f 0 = 0 := (M9.o (by omega) ne_1).trans f87
  have f88' : w_9 88 f 0 = 0 := (M9.o (by omega) ne_1).trans f88
  have f89' : w_9 89 f 0 = 0 := (M9.o (by omega) ne_1).trans f89
  have f90' : w_9 90 f 0 = 0 := (M9.o (by omega) ne_1).trans f90
  have N_ : NW f c c9 w w_9 := (N0).trans M9 (Or.inr u_1)
  clear N0 ht0 hc0
  have N0 := N_
  clear N_ U_ X_
  have ht0 := ht_
  have hc0 := hc_
  clear ht_ hc_
  clear f87
  have f87 := f87'
  clear f87'
  clear f88
  have f88 := f88'
  clear f88'
  clear f89
  have f89 := f89'
  clear f89'
  clear f90
  have f90 := f90'
  clear f90'
  clear M9 z_1 o_1
  have d_9 : FDs c9 10 w_9 q_5 := d_9
  refine pX12_10 15 hO hF.2.2.2.2 dX12_init_12 rfl (by first | assumption | omega | (simp (disch := first | decide | assumption | omega) only [up_k, up_s, up_a, up_i, flA_k, flA_a, newO_o, newA_o]; first | assumption | omega)) ?_
  obtain ⟨W2, e_W2⟩ : ∃ W, W = up w_9 41 f 0 q_5 := ⟨_, rfl⟩
  have M_ : NW f c9 c9 w_9 W2 := by rw [e_W2]; exact (NW.refl N0.2.1).p (Or.inl rfl) (by omega) (by decide)
  rw [← e_W2]
  have U_ := M_.u hc0
  have X_ := M_.1
  have d_9' := d_9.fr U_ X_ (fun b' k _ _ => SX_n (by omega))
  clear d_9
  have d_9 := d_9'
  clear d_9'
  have ht_ : W2 0 f 0 = 13 := M_.tt ht0 (by decide)
  have hc_ : c9 f = 1 := (X_ f (by omega)).trans hc0
  have f87' : W2 87 f 0 = 0 := by rw [e_W2, up_k _ (by decide)]; exact f87
  have f88' : W2 88 f 0 = 0 := by rw [e_W2, up_k _ (by decide)]; exact f88
  have f89' : W2 89 f 0 = 0 := by rw [e_W2, up_k _ (by decide)]; exact f89
  have f90' : W2 90 f 0 = 0 := by rw [e_W2, up_k _ (by decide)]; exact f90
  have N_ : NW f c c9 w W2 := (N0).trans M_ (Or.inl rfl)
  clear N0 ht0 hc0
  have N0 := N_
  clear N_ U_ X_
  have ht0 := ht_
  have hc0 := hc_
  clear ht_ hc_
  clear f87
  have f87 := f87'
  clear f87'
  clear f88
  have f88 := f88'
  clear f88'
  clear f89
  have f89 := f89'
  clear f89'
  clear f90
  have f90 := f90'
  clear f90'
  have f41 : W2 41 f 0 = q_5 := by rw [e_W2]; exact up_s _ _ _ _ _
  clear M_ e_W2
  refine X_aload_n 16 hO dX12_init_15 rfl rfl ?_
  refine n_2 19 hO w_160 (by omega) (by omega) dX12_init_16 rfl (fun q_16 hq_16 hf_16 => ?_)
  have u_3 : w 0 q_16 0 = 0 := N0.un hf_16
  have ne_3 : f ≠ q_16 := fun e => by rw [e] at ht; omega
  obtain ⟨k3, e_k3⟩ : ∃ k : Int → Int, k = (fun a => if a = q_16 then 20 else c9 a) := ⟨_, rfl⟩
  obtain ⟨W3, e_W3⟩ : ∃ W, W = newO W2 q_16 2 := ⟨_, rfl⟩
  have M_ : NW q_16 c9 k3 W2 W3 := by rw [e_k3, e_W3]; exact (NW.refl N0.2.1).O hq_16 hf_16 (by decide)
  rw [← e_W3]
  have o_3 : OBt k3 W3 q_16 2 (20) := ⟨by rw [e_W3]; exact newO_t, by rw [e_k3]; exact if_pos rfl⟩
  have z_3 : ∀ k : Nat, 10 ≤ k → W3 k q_16 0 = 0 := fun k hk => by rw [e_W3]; exact newO_f hk
  have U_ := M_.u1 (b := 1) hf_16
  have X_ := M_.1
  have d_9' := d_9.fr U_ X_ (fun b' k _ _ => SX_n (by omega))
  clear d_9
  have d_9 := d_9'
  clear d_9'
  have ht_ : W3 0 f 0 = 13 := M_.tt ht0 (by decide)
  have hc_ : k3 f = 1 := (X_ f (by omega)).trans hc0
  have f87' : W3 87 f 0 = 0 := (M_.f hf_16 (by omega)).trans f87
  have f88' : W3 88 f 0 = 0 := (M_.f hf_16 (by omega)).trans f88
  have f89' : W3 89 f 0 = 0 := (M_.f hf_16 (by omega)).trans f89
  have f90' : W3 90 f 0 = 0 := (M_.f hf_16 (by omega)).trans f90
  have f41' : W3 41 f 0 = q_5 := (M_.f hf_16 (by omega)).trans f41
  have N_ : NW f c k3 w W3 := (N0).trans M_ (Or.inr (N0.un hf_16))
  clear N0 ht0 hc0
  have N0 := N_
  clear N_ U_ X_
  have ht0 := ht_
  have hc0 := hc_
  clear ht_ hc_
  clear f87
  have f87 := f87'
  clear f87'
  clear f88
  have f88 := f88'
  clear f88'
  clear f89
  have f89 := f89'
  clear f89'
  clear f90
  have f90 := f90'
  clear f90'
  clear f41
  have f41 := f41'
  clear f41'
  clear M_ e_k3 e_W3
  refine X_dup 20 hO dX12_init_19 rfl (by first | rfl | exact rv_cat _) ?_
  refine X_kNv 23 hO hD nX12_9 [] rfl dX12_init_20 rfl (by assumption) (kX1_init _ _ _ 20 k3 hq_16 o_3.1 (z_3 60 (by decide)) (z_3 61 (by decide)) o_3.2 (by decide) N0.2.1) (by decide) (by simp [rv_cat, int_cat]) (by first | decide | exact Nat.zero_le _ | omega) (by first | decide | exact Nat.zero_le _ | omega) (fun w_20 hp_20 => ?_) (fun E w_ hx_ => hx_.elim)
  obtain ⟨c20, M20, d_20⟩ := hp_20
  have U_ := M20.u o_3.2
  have X_ := M20.1
  have d_9' := d_9.fr U_ X_ (fun b' k _ _ => SX_n (by omega))
  clear d_9
  have d_9 := d_9'
  clear d_9'
  have ht_ : w_20 0 f 0 = 13 := M20.tt ht0 (by decide)
  have hc_ : c20 f = 1 := (X_ f (by omega)).trans hc0
  have f87' : w_20 87 f 0 = 0 := (M20.o (by omega) ne_3).trans f87
  have f88' : w_20 88 f 0 = 0 := (M20.o (by omega) ne_3).trans f88
  have f89' : w_20 89 f 0 = 0 := (M20.o (by omega) ne_3).trans f89
  have f90' : w_20 90 f 0 = 0 := (M20.o (by omega) ne_3).trans f90
  have f41' : w_20 41 f 0 = q_5 := (M20.o (by omega) ne_3).trans f41
  have N_ : NW f c c20 w w_20 := (N0).trans M20 (Or.inr u_3)
  clear N0 ht0 hc0
  have N0 := N_
  clear N_ U_ X_
  have ht0 := ht_
  have hc0 := hc_
  clear ht_ hc_
  clear f87
  have f87 := f87'
  clear f87'
  clear f88
  have f88 := f88'
  clear f88'
  clear f89
  have f89 := f89'
  clear f89'
  clear f90
  have f90 := f90'
  clear f90'
  clear f41
  have f41 := f41'
  clear f41'
  clear M20 z_3 o_3
  have d_20 : FDs c20 20 w_20 q_16 := d_20
  refine pX12_16 26 hO hF.2.2.2.2 dX12_init_23 rfl (by first | assumption | omega | (simp (disch := first | decide | assumption | omega) only [up_k, up_s, up_a, up_i, flA_k, flA_a, newO_o, newA_o]; first | assumption | omega)) ?_
  obtain ⟨W4, e_W4⟩ : ∃ W, W = up w_20 42 f 0 q_16 := ⟨_, rfl⟩
  have M_ : NW f c20 c20 w_20 W4 := by rw [e_W4]; exact (NW.refl N0.2.1).p (Or.inl rfl) (by omega) (by decide)
  rw [← e_W4]
  have U_ := M_.u hc0
  have X_ := M_.1
  have d_9' := d_9.fr U_ X_ (fun b' k _ _ => SX_n (by omega))
  have d_20' := d_20.fr U_ X_ (fun b' k _ _ => SX_n (by omega))
  clear d_20 d_9
  have d_9 := d_9'
  clear d_9'
  have d_20 := d_20'
  clear d_20'
  have ht_ : W4 0 f 0 = 13 := M_.tt ht0 (by decide)
  have hc_ : c20 f = 1 := (X_ f (by omega)).trans hc0
  have f87' : W4 87 f 0 = 0 := by rw [e_W4, up_k _ (by decide)]; exact f87
  have f88' : W4 88 f 0 = 0 := by rw [e_W4, up_k _ (by decide)]; exact f88
  have f89' : W4 89 f 0 = 0 := by rw [e_W4, up_k _ (by decide)]; exact f89
  have f90' : W4 90 f 0 = 0 := by rw [e_W4, up_k _ (by decide)]; exact f90
  have f41' : W4 41 f 0 = q_5 := by rw [e_W4, up_k _ (by decide)]; exact f41
  have N_ : NW f c c20 w W4 := (N0).trans M_ (Or.inl rfl)
  clear N0 ht0 hc0
  have N0 := N_
  clear N_ U_ X_
  have ht0 := ht_
  have hc0 := hc_
  clear ht_ hc_
  clear f87
  have f87 := f87'
  clear f87'
  clear f88
  have f88 := f88'
  clear f88'
  clear f89
  have f89 := f89'
  clear f89'
  clear f90
  have f90 := f90'
  clear f90'
  clear f41
  have f41 := f41'
  clear f41'
  have f42 : W4 42 f 0 = q_16 := by rw [e_W4]; exact up_s _ _ _ _ _
  clear M_ e_W4
  refine X_aload_n 27 hO dX12_init_26 rfl rfl ?_
  refine n_2 30 hO w_160 (by omega) (by omega) dX12_init_27 rfl (fun q_27 hq_27 hf_27 => ?_)
  have u_5 : w 0 q_27 0 = 0 := N0.un hf_27
  have ne_5 : f ≠ q_27 := fun e => by rw [e] at ht; omega
  obtain ⟨k5, e_k5⟩ : ∃ k : Int → Int, k = (fun a => if a = q_27 then 30 else c20 a) := ⟨_, rfl⟩
  obtain ⟨W5, e_W5⟩ : ∃ W, W = newO W4 q_27 2 := ⟨_, rfl⟩
  have M_ : NW q_27 c20 k5 W4 W5 := by rw [e_k5, e_W5]; exact (NW.refl N0.2.1).O hq_27 hf_27 (by decide)
  rw [← e_W5]
  have o_5 : OBt k5 W5 q_27 2 (30) := ⟨by rw [e_W5]; exact newO_t, by rw [e_k5]; exact if_pos rfl⟩
  have z_5 : ∀ k : Nat, 10 ≤ k → W5 k q_27 0 = 0 := fun k hk => by rw [e_W5]; exact newO_f hk
  have U_ := M_.u1 (b := 1) hf_27
  have X_ := M_.1
  have d_9' := d_9.fr U_ X_ (fun b' k _ _ => SX_n (by omega))
  have d_20' := d_20.fr U_ X_ (fun b' k _ _ => SX_n (by omega))
  clear d_20 d_9
  have d_9 := d_9'
  clear d_9'
  have d_20 := d_20'
  clear d_20'
  have ht_ : W5 0 f 0 = 13 := M_.tt ht0 (by decide)
  have hc_ : k5 f = 1 := (X_ f (by omega)).trans hc0
  have f87' : W5 87 f 0 = 0 := (M_.f hf_27 (by omega)).trans f87
  have f88' : W5 88 f 0 = 0 := (M_.f hf_27 (by omega)).trans f88
  have f89' : W5 89 f 0 = 0 := (M_.f hf_27 (by omega)).trans f89
  have f90' : W5 90 f 0 = 0 := (M_.f hf_27 (by omega)).trans f90
  have f41' : W5 41 f 0 = q_5 := (M_.f hf_27 (by omega)).trans f41
  have f42' : W5 42 f 0 = q_16 := (M_.f hf_27 (by omega)).trans f42
  have N_ : NW f c k5 w W5 := (N0).trans M_ (Or.inr (N0.un hf_27))
  clear N0 ht0 hc0
  have N0 := N_
  clear N_ U_ X_
  have ht0 := ht_
  have hc0 := hc_
  clear ht_ hc_
  clear f87
  have f87 := f87'
  clear f87'
  clear f88
  have f88 := f88'
  clear f88'
  clear f89
  have f89 := f89'
  clear f89'
  clear f90
  have f90 := f90'
  clear f90'
  clear f41
  have f41 := f41'
  clear f41'
  clear f42
  have f42 := f42'
  clear f42'
  clear M_ e_k5 e_W5
  refine X_dup 31 hO dX12_init_30 rfl (by first | rfl | exact rv_cat _) ?_
  refine X_kNv 34 hO hD nX12_9 [] rfl dX12_init_31 rfl (by assumption) (kX1_init _ _ _ 30 k5 hq_27 o_5.1 (z_5 60 (by decide)) (z_5 61 (by decide)) o_5.2 (by decide) N0.2.1) (by decide) (by simp [rv_cat, int_cat]) (by first | decide | exact Nat.zero_le _ | omega) (by first | decide | exact Nat.zero_le _ | omega) (fun w_31 hp_31 => ?_) (fun E w_ hx_ => hx_.elim)
  obtain ⟨c31, M31, d_31⟩ := hp_31
  have U_ := M31.u o_5.2
  have X_ := M31.1
  have d_9' := d_9.fr U_ X_ (fun b' k _ _ => SX_n (by omega))
  have d_20' := d_20.fr U_ X_ (fun b' k _ _ => SX_n (by omega))
  clear d_20 d_9
  have d_9 := d_9'
  clear d_9'
  have d_20 := d_20'
  clear d_20'
  have ht_ : w_31 0 f 0 = 13 := M31.tt ht0 (by decide)
  have hc_ : c31 f = 1 := (X_ f (by omega)).trans hc0
  have f87' : w_31 87 f 0 = 0 := (M31.o (by omega) ne_5).trans f87
  have f88' : w_31 88 f 0 = 0 := (M31.o (by omega) ne_5).trans f88
  have f89' : w_31 89 f 0 = 0 := (M31.o (by omega) ne_5).trans f89
  have f90' : w_31 90 f 0 = 0 := (M31.o (by omega) ne_5).trans f90
  have f41' : w_31 41 f 0 = q_5 := (M31.o (by omega) ne_5).trans f41
  have f42' : w_31 42 f 0 = q_16 := (M31.o (by omega) ne_5).trans f42
  have N_ : NW f c c31 w w_31 := (N0).trans M31 (Or.inr u_5)
  clear N0 ht0 hc0
  have N0 := N_
  clear N_ U_ X_
  have ht0 := ht_
  have hc0 := hc_
  clear ht_ hc_
  clear f87
  have f87 := f87'
  clear f87'
  clear f88
  have f88 := f88'
  clear f88'
  clear f89
  have f89 := f89'
  clear f89'
  clear f90
  have f90 := f90'
  clear f90'
  clear f41
  have f41 := f41'
  clear f41'
  clear f42
  have f42 := f42'
  clear f42'
  clear M31 z_5 o_5
  have d_31 : FDs c31 30 w_31 q_27 := d_31
  refine pX12_19 37 hO hF.2.2.2.2 dX12_init_34 rfl (by first | assumption | omega | (simp (disch := first | decide | assumption | omega) only [up_k, up_s, up_a, up_i, flA_k, flA_a, newO_o, newA_o]; first | assumption | omega)) ?_
  obtain ⟨W6, e_W6⟩ : ∃ W, W = up w_31 43 f 0 q_27 := ⟨_, rfl⟩
  have M_ : NW f c31 c31 w_31 W6 := by rw [e_W6]; exact (NW.refl N0.2.1).p (Or.inl rfl) (by omega) (by decide)
  rw [← e_W6]
  have U_ := M_.u hc0
  have X_ := M_.1
  have d_9' := d_9.fr U_ X_ (fun b' k _ _ => SX_n (by omega))
  have d_20' := d_20.fr U_ X_ (fun b' k _ _ => SX_n (by omega))
  have d_31' := d_31.fr U_ X_ (fun b' k _ _ => SX_n (by omega))
  clear d_31 d_20 d_9
  have d_9 := d_9'
  clear d_9'
  have d_20 := d_20'
  clear d_20'
  have d_31 := d_31'
  clear d_31'
  have ht_ : W6 0 f 0 = 13 := M_.tt ht0 (by decide)
  have hc_ : c31 f = 1 := (X_ f (by omega)).trans hc0
  have f87' : W6 87 f 0 = 0 := by rw [e_W6, up_k _ (by decide)]; exact f87
  have f88' : W6 88 f 0 = 0 := by rw [e_W6, up_k _ (by decide)]; exact f88
  have f89' : W6 89 f 0 = 0 := by rw [e_W6, up_k _ (by decide)]; exact f89
  have f90' : W6 90 f 0 = 0 := by rw [e_W6, up_k _ (by decide)]; exact f90
  have f41' : W6 41 f 0 = q_5 := by rw [e_W6, up_k _ (by decide)]; exact f41
  have f42' : W6 42 f 0 = q_16 := by rw [e_W6, up_k _ (by decide)]; exact f42
  have N_ : NW f c c31 w W6 := (N0).trans M_ (Or.inl rfl)
  clear N0 ht0 hc0
  have N0 := N_
  clear N_ U_ X_
  have ht0 := ht_
  have hc0 := hc_
  clear ht_ hc_
  clear f87
  have f87 := f87'
  clear f87'
  clear f88
  have f88 := f88'
  clear f88'
  clear f89
  have f89 := f89'
  clear f89'
  clear f90
  have f90 := f90'
  clear f90'
  clear f41
  have f41 := f41'
  clear f41'
  clear f42
  have f42 := f42'
  clear f42'
  have f43 : W6 43 f 0 = q_27 := by rw [e_W6]; exact up_s _ _ _ _ _
  clear M_ e_W6
  refine X_aload_n 38 hO dX12_init_37 rfl rfl ?_
  refine X_iconst 39 hO dX12_init_38 rfl ?_
  refine X_newz 41 hO w_acz (by omega) (by omega) (by omega) dX12_init_39 rfl (fun q_39 hq_39 hf_39 => ?_)
  have u_7 : w 0 q_39 0 = 0 := N0.un hf_39
  have ne_7 : f ≠ q_39 := fun e => by rw [e] at ht; omega
  obtain ⟨k7, e_k7⟩ : ∃ k : Int → Int, k = (fun a => if a = q_39 then 40 else c31 a) := ⟨_, rfl⟩
  obtain ⟨W7, e_W7⟩ : ∃ W, W = newA W6 q_39 21 5 := ⟨_, rfl⟩
  have M_ : NW q_39 c31 k7 W6 W7 := by rw [e_k7, e_W7]; exact (NW.refl N0.2.1).A hq_39 hf_39 (by decide)
  rw [← e_W7]
  have o_7 : OBt k7 W7 q_39 21 (40) := ⟨by rw [e_W7]; exact newA_t, by rw [e_k7]; exact if_pos rfl⟩
  have a_7 : ARt k7 W7 q_39 21 (5) (40) := ⟨⟨o_7.1, by rw [e_W7]; exact newA_n, o_7.2⟩, fun j => by rw [e_W7]; exact ⟨newA_1 (Or.inl rfl), newA_1 (Or.inr rfl)⟩⟩
  have U_ := M_.u1 (b := 1) hf_39
  have X_ := M_.1
  have d_9' := d_9.fr U_ X_ (fun b' k _ _ => SX_n (by omega))
  have d_20' := d_20.fr U_ X_ (fun b' k _ _ => SX_n (by omega))
  have d_31' := d_31.fr U_ X_ (fun b' k _ _ => SX_n (by omega))
  clear d_31 d_20 d_9
  have d_9 := d_9'
  clear d_9'
  have d_20 := d_20'
  clear d_20'
  have d_31 := d_31'
  clear d_31'
  have ht_ : W7 0 f 0 = 13 := M_.tt ht0 (by decide)
  have hc_ : k7 f = 1 := (X_ f (by omega)).trans hc0
  have f87' : W7 87 f 0 = 0 := (M_.f hf_39 (by omega)).trans f87
  have f88' : W7 88 f 0 = 0 := (M_.f hf_39 (by omega)).trans f88
  have f89' : W7 89 f 0 = 0 := (M_.f hf_39 (by omega)).trans f89
  have f90' : W7 90 f 0 = 0 := (M_.f hf_39 (by omega)).trans f90
  have f41' : W7 41 f 0 = q_5 := (M_.f hf_39 (by omega)).trans f41
  have f42' : W7 42 f 0 = q_16 := (M_.f hf_39 (by omega)).trans f42
  have f43' : W7 43 f 0 = q_27 := (M_.f hf_39 (by omega)).trans f43
  have N_ : NW f c k7 w W7 := (N0).trans M_ (Or.inr (N0.un hf_39))
  clear N0 ht0 hc0
  have N0 := N_
  clear N_ U_ X_
  have ht0 := ht_
  have hc0 := hc_
  clear ht_ hc_
  clear f87
  have f87 := f87'
  clear f87'
  clear f88
  have f88 := f88'
  clear f88'
  clear f89
  have f89 := f89'
  clear f89'
  clear f90
  have f90 := f90'
  clear f90'
  clear f41
  have f41 := f41'
  clear f41'
  clear f42
  have f42 := f42'
  clear f42'
  clear f43
  have f43 := f43'
  clear f43'
  clear M_ e_k7 e_W7
  refine pX12_22 44 hO hF.2.2.2.2 dX12_init_41 rfl (by first | assumption | omega | (simp (disch := first | decide | assumption | omega) only [up_k, up_s, up_a, up_i, flA_k, flA_a, newO_o, newA_o]; first | assumption | omega)) ?_
  obtain ⟨W8, e_W8⟩ : ∃ W, W = up W7 44 f 0 q_39 := ⟨_, rfl⟩
  have M_ : NW f k7 k7 W7 W8 := by rw [e_W8]; exact (NW.refl N0.2.1).p (Or.inl rfl) (by omega) (by decide)
  rw [← e_W8]
  have U_ := M_.u hc0
  have X_ := M_.1
  have d_9' := d_9.fr U_ X_ (fun b' k _ _ => SX_n (by omega))
  have d_20' := d_20.fr U_ X_ (fun b' k _ _ => SX_n (by omega))
  have d_31' := d_31.fr U_ X_ (fun b' k _ _ => SX_n (by omega))
  have a_7' := a_7.fr (by decide) U_ X_ (fun k => SX_n (by omega))
  clear a_7 d_31 d_20 d_9
  have d_9 := d_9'
  clear d_9'
  have d_20 := d_20'
  clear d_20'
  have d_31 := d_31'
  clear d_31'
  have a_7 := a_7'
  clear a_7'
  have ht_ : W8 0 f 0 = 13 := M_.tt ht0 (by decide)
  have hc_ : k7 f = 1 := (X_ f (by omega)).trans hc0
  have f87' : W8 87 f 0 = 0 := by rw [e_W8, up_k _ (by decide)]; exact f87
  have f88' : W8 88 f 0 = 0 := by rw [e_W8, up_k _ (by decide)]; exact f88
  have f89' : W8 89 f 0 = 0 := by rw [e_W8, up_k _ (by decide)]; exact f89
  have f90' : W8 90 f 0 = 0 := by rw [e_W8, up_k _ (by decide)]; exact f90
  have f41' : W8 41 f 0 = q_5 := by rw [e_W8, up_k _ (by decide)]; exact f41
  have f42' : W8 42 f 0 = q_16 := by rw [e_W8, up_k _ (by decide)]; exact f42
  have f43' : W8 43 f 0 = q_27 := by rw [e_W8, up_k _ (by decide)]; exact f43
  have N_ : NW f c k7 w W8 := (N0).trans M_ (Or.inl rfl)
  clear N0 ht0 hc0
  have N0 := N_
  clear N_ U_ X_
  have ht0 := ht_
  have hc0 := hc_
  clear ht_ hc_
  clear f87
  have f87 := f87'
  clear f87'
  clear f88
  have f88 := f88'
  clear f88'
  clear f89
  have f89 := f89'
  clear f89'
  clear f90
  have f90 := f90'
  clear f90'
  clear f41
  have f41 := f41'
  clear f41'
  clear f42
  have f42 := f42'
  clear f42'
  clear f43
  have f43 := f43'
  clear f43'
  have f44 : W8 44 f 0 = q_39 := by rw [e_W8]; exact up_s _ _ _ _ _
  clear M_ e_W8
  refine X_aload_n 45 hO dX12_init_44 rfl rfl ?_
  refine n_11 48 hO w_252 (by omega) (by omega) dX12_init_45 rfl (fun q_45 hq_45 hf_45 => ?_)
  have u_9 : w 0 q_45 0 = 0 := N0.un hf_45
  have ne_9 : f ≠ q_45 := fun e => by rw [e] at ht; omega
  obtain ⟨k9, e_k9⟩ : ∃ k : Int → Int, k = (fun a => if a = q_45 then 41 else k7 a) := ⟨_, rfl⟩
  obtain ⟨W9, e_W9⟩ : ∃ W, W = newO W8 q_45 11 := ⟨_, rfl⟩
  have M_ : NW q_45 k7 k9 W8 W9 := by rw [e_k9, e_W9]; exact (NW.refl N0.2.1).O hq_45 hf_45 (by decide)
  rw [← e_W9]
  have o_9 : OBt k9 W9 q_45 11 (41) := ⟨by rw [e_W9]; exact newO_t, by rw [e_k9]; exact if_pos rfl⟩
  have z_9 : ∀ k : Nat, 10 ≤ k → W9 k q_45 0 = 0 := fun k hk => by rw [e_W9]; exact newO_f hk
  have U_ := M_.u1 (b := 1) hf_45
  have X_ := M_.1
  have d_9' := d_9.fr U_ X_ (fun b' k _ _ => SX_n (by omega))
  have d_20' := d_20.fr U_ X_ (fun b' k _ _ => SX_n (by omega))
  have d_31' := d_31.fr U_ X_ (fun b' k _ _ => SX_n (by omega))
  have a_7' := a_7.fr (by decide) U_ X_ (fun k => SX_n (by omega))
  clear a_7 d_31 d_20 d_9
  have d_9 := d_9'
  clear d_9'
  have d_20 := d_20'
  clear d_20'
  have d_31 := d_31'
  clear d_31'
  have a_7 := a_7'
  clear a_7'
  have ht_ : W9 0 f 0 = 13 := M_.tt ht0 (by decide)
  have hc_ : k9 f = 1 := (X_ f (by omega)).trans hc0
  have f87' : W9 87 f 0 = 0 := (M_.f hf_45 (by omega)).trans f87
  have f88' : W9 88 f 0 = 0 := (M_.f hf_45 (by omega)).trans f88
  have f89' : W9 89 f 0 = 0 := (M_.f hf_45 (by omega)).trans f89
  have f90' : W9 90 f 0 = 0 := (M_.f hf_45 (by omega)).trans f90
  have f41' : W9 41 f 0 = q_5 := (M_.f hf_45 (by omega)).trans f41
  have f42' : W9 42 f 0 = q_16 := (M_.f hf_45 (by omega)).trans f42
  have f43' : W9 43 f 0 = q_27 := (M_.f hf_45 (by omega)).trans f43
  have f44' : W9 44 f 0 = q_39 := (M_.f hf_45 (by omega)).trans f44
  have N_ : NW f c k9 w W9 := (N0).trans M_ (Or.inr (N0.un hf_45))
  clear N0 ht0 hc0
  have N0 := N_
  clear N_ U_ X_
  have ht0 := ht_
  have hc0 := hc_
  clear ht_ hc_
  clear f87
  have f87 := f87'
  clear f87'
  clear f88
  have f88 := f88'
  clear f88'
  clear f89
  have f89 := f89'
  clear f89'
  clear f90
  have f90 := f90'
  clear f90'
  clear f41
  have f41 := f41'
  clear f41'
  clear f42
  have f42 := f42'
  clear f42'
  clear f43
  have f43 := f43'
  clear f43'
  clear f44
  have f44 := f44'
  clear f44'
  clear M_ e_k9 e_W9
  refine X_dup 49 hO dX12_init_48 rfl (by first | rfl | exact rv_cat _) ?_
  refine X_kIv 52 hO hD lX12_28 [] rfl dX12_init_49 rfl (by assumption) (kX10_init _ _ _ k9 hq_45 o_9.1 o_9.2 N0.2.1) (by decide) (by simp [rv_cat, int_cat]) (by first | decide | exact Nat.zero_le _ | omega) (by first | decide | exact Nat.zero_le _ | omega) (fun w_49 hp_49 => ?_) (fun E w_ hx_ => hx_.elim)
  obtain ⟨c49, nd0, M49, ft, fn⟩ := hp_49
  have U_ := M49.u o_9.2
  have X_ := M49.1
  have d_9' := d_9.fr U_ X_ (fun b' k _ _ => SX_n (by omega))
  have d_20' := d_20.fr U_ X_ (fun b' k _ _ => SX_n (by omega))
  have d_31' := d_31.fr U_ X_ (fun b' k _ _ => SX_n (by omega))
  have a_7' := a_7.fr (by decide) U_ X_ (fun k => SX_n (by omega))
  clear a_7 d_31 d_20 d_9
  have d_9 := d_9'
  clear d_9'
  have d_20 := d_20'
  clear d_20'
  have d_31 := d_31'
  clear d_31'
  have a_7 := a_7'
  clear a_7'
  have ht_ : w_49 0 f 0 = 13 := M49.tt ht0 (by decide)
  have hc_ : c49 f = 1 := (X_ f (by omega)).trans hc0
  have f87' : w_49 87 f 0 = 0 := (M49.o (by omega) ne_9).trans f87
  have f88' : w_49 88 f 0 = 0 := (M49.o (by omega) ne_9).trans f88
  have f89' : w_49 89 f 0 = 0 := (M49.o (by omega) ne_9).trans f89
  have f90' : w_49 90 f 0 = 0 := (M49.o (by omega) ne_9).trans f90
  have f41' : w_49 41 f 0 = q_5 := (M49.o (by omega) ne_9).trans f41
  have f42' : w_49 42 f 0 = q_16 := (M49.o (by omega) ne_9).trans f42
  have f43' : w_49 43 f 0 = q_27 := (M49.o (by omega) ne_9).trans f43
  have f44' : w_49 44 f 0 = q_39 := (M49.o (by omega) ne_9).trans f44
  have N_ : NW f c c49 w w_49 := (N0).trans M49 (Or.inr u_9)
  clear N0 ht0 hc0
  have N0 := N_
  clear N_ U_ X_
  have ht0 := ht_
  have hc0 := hc_
  clear ht_ hc_
  clear f87
  have f87 := f87'
  clear f87'
  clear f88
  have f88 := f88'
  clear f88'
  clear f89
  have f89 := f89'
  clear f89'
  clear f90
  have f90 := f90'
  clear f90'
  clear f41
  have f41 := f41'
  clear f41'
  clear f42
  have f42 := f42'
  clear f42'
  clear f43
  have f43 := f43'
  clear f43'
  clear f44
  have f44 := f44'
  clear f44'
  clear M49 z_9 o_9
  refine pX12_29 55 hO hF.2.2.2.2 dX12_init_52 rfl (by first | assumption | omega | (simp (disch := first | decide | assumption | omega) only [up_k, up_s, up_a, up_i, flA_k, flA_a, newO_o, newA_o]; first | assumption | omega)) ?_
  obtain ⟨W10, e_W10⟩ : ∃ W, W = up w_49 45 f 0 q_45 := ⟨_, rfl⟩
  have M_ : NW f c49 c49 w_49 W10 := by rw [e_W10]; exact (NW.refl N0.2.1).p (Or.inl rfl) (by omega) (by decide)
  rw [← e_W10]
  have U_ := M_.u hc0
  have X_ := M_.1
  have d_9' := d_9.fr U_ X_ (fun b' k _ _ => SX_n (by omega))
  have d_20' := d_20.fr U_ X_ (fun b' k _ _ => SX_n (by omega))
  have d_31' := d_31.fr U_ X_ (fun b' k _ _ => SX_n (by omega))
  have a_7' := a_7.fr (by decide) U_ X_ (fun k => SX_n (by omega))
  have ft' := ft.fr U_ X_ (fun b' k _ _ => SX_n (by omega))
  have fn' := fn.fr U_ X_ (fun b' k _ _ => SX_n (by omega))
  clear fn ft a_7 d_31 d_20 d_9
  have d_9 := d_9'
  clear d_9'
  have d_20 := d_20'
  clear d_20'
  have d_31 := d_31'
  clear d_31'
  have a_7 := a_7'
  clear a_7'
  have ft := ft'
  clear ft'
  have fn := fn'
  clear fn'
  have ht_ : W10 0 f 0 = 13 := M_.tt ht0 (by decide)
  have hc_ : c49 f = 1 := (X_ f (by omega)).trans hc0
  have f87' : W10 87 f 0 = 0 := by rw [e_W10, up_k _ (by decide)]; exact f87
  have f88' : W10 88 f 0 = 0 := by rw [e_W10, up_k _ (by decide)]; exact f88
  have f89' : W10 89 f 0 = 0 := by rw [e_W10, up_k _ (by decide)]; exact f89
  have f90' : W10 90 f 0 = 0 := by rw [e_W10, up_k _ (by decide)]; exact f90
  have f41' : W10 41 f 0 = q_5 := by rw [e_W10, up_k _ (by decide)]; exact f41
  have f42' : W10 42 f 0 = q_16 := by rw [e_W10, up_k _ (by decide)]; exact f42
  have f43' : W10 43 f 0 = q_27 := by rw [e_W10, up_k _ (by decide)]; exact f43
  have f44' : W10 44 f 0 = q_39 := by rw [e_W10, up_k _ (by decide)]; exact f44
  have N_ : NW f c c49 w W10 := (N0).trans M_ (Or.inl rfl)
  clear N0 ht0 hc0
  have N0 := N_
  clear N_ U_ X_
  have ht0 := ht_
  have hc0 := hc_
  clear ht_ hc_
  clear f87
  have f87 := f87'
  clear f87'
  clear f88
  have f88 := f88'
  clear f88'
  clear f89
  have f89 := f89'
  clear f89'
  clear f90
  have f90 := f90'
  clear f90'
  clear f41
  have f41 := f41'
  clear f41'
  clear f42
  have f42 := f42'
  clear f42'
  clear f43
  have f43 := f43'
  clear f43'
  clear f44
  have f44 := f44'
  clear f44'
  have f45 : W10 45 f 0 = q_45 := by rw [e_W10]; exact up_s _ _ _ _ _
  clear M_ e_W10
  refine X_aload_n 56 hO dX12_init_55 rfl rfl ?_
  refine n_3 59 hO w_421 (by omega) (by omega) dX12_init_56 rfl (fun q_56 hq_56 hf_56 => ?_)
  have u_11 : w 0 q_56 0 = 0 := N0.un hf_56
  have ne_11 : f ≠ q_56 := fun e => by rw [e] at ht; omega
  obtain ⟨k11, e_k11⟩ : ∃ k : Int → Int, k = (fun a => if a = q_56 then 45 else c49 a) := ⟨_, rfl⟩
  obtain ⟨W11, e_W11⟩ : ∃ W, W = newO W10 q_56 3 := ⟨_, rfl⟩
  have M_ : NW q_56 c49 k11 W10 W11 := by rw [e_k11, e_W11]; exact (NW.refl N0.2.1).O hq_56 hf_56 (by decide)
  rw [← e_W11]
  have o_11 : OBt k11 W11 q_56 3 (45) := ⟨by rw [e_W11]; exact newO_t, by rw [e_k11]; exact if_pos rfl⟩
  have z_11 : ∀ k : Nat, 10 ≤ k → W11 k q_56 0 = 0 := fun k hk => by rw [e_W11]; exact newO_f hk
  have U_ := M_.u1 (b := 1) hf_56
  have X_ := M_.1
  have d_9' := d_9.fr U_ X_ (fun b' k _ _ => SX_n (by omega))
  have d_20' := d_20.fr U_ X_ (fun b' k _ _ => SX_n (by omega))
  have d_31' := d_31.fr U_ X_ (fun b' k _ _ => SX_n (by omega))
  have a_7' := a_7.fr (by decide) U_ X_ (fun k => SX_n (by omega))
  have ft' := ft.fr U_ X_ (fun b' k _ _ => SX_n (by omega))
  have fn' := fn.fr U_ X_ (fun b' k _ _ => SX_n (by omega))
  clear fn ft a_7 d_31 d_20 d_9
  have d_9 := d_9'
  clear d_9'
  have d_20 := d_20'
  clear d_20'
  have d_31 := d_31'
  clear d_31'
  have a_7 := a_7'
  clear a_7'
  have ft := ft'
  clear ft'
  have fn := fn'
  clear fn'
  have ht_ : W11 0 f 0 = 13 := M_.tt ht0 (by decide)
  have hc_ : k11 f = 1 := (X_ f (by omega)).trans hc0
  have f87' : W11 87 f 0 = 0 := (M_.f hf_56 (by omega)).trans f87
  have f88' : W11 88 f 0 = 0 := (M_.f hf_56 (by omega)).trans f88
  have f89' : W11 89 f 0 = 0 := (M_.f hf_56 (by omega)).trans f89
  have f90' : W11 90 f 0 = 0 := (M_.f hf_56 (by omega)).trans f90
  have f41' : W11 41 f 0 = q_5 := (M_.f hf_56 (by omega)).trans f41
  have f42' : W11 42 f 0 = q_16 := (M_.f hf_56 (by omega)).trans f42
  have f43' : W11 43 f 0 = q_27 := (M_.f hf_56 (by omega)).trans f43
  have f44' : W11 44 f 0 = q_39 := (M_.f hf_56 (by omega)).trans f44
  have f45' : W11 45 f 0 = q_45 := (M_.f hf_56 (by omega)).trans f45
  have N_ : NW f c k11 w W11 := (N0).trans M_ (Or.inr (N0.un hf_56))
  clear N0 ht0 hc0
  have N0 := N_
  clear N_ U_ X_
  have ht0 := ht_
  have hc0 := hc_
  clear ht_ hc_
  clear f87
  have f87 := f87'
  clear f87'
  clear f88
  have f88 := f88'
  clear f88'
  clear f89
  have f89 := f89'
  clear f89'
  clear f90
  have f90 := f90'
  clear f90'
  clear f41
  have f41 := f41'
  clear f41'
  clear f42
  have f42 := f42'
  clear f42'
  clear f43
  have f43 := f43'
  clear f43'
  clear f44
  have f44 := f44'
  clear f44'
  clear f45
  have f45 := f45'
  clear f45'
  clear M_ e_k11 e_W11
  refine X_dup 60 hO dX12_init_59 rfl (by first | rfl | exact rv_cat _) ?_
  refine X_kIv 63 hO hD lX12_35 [] rfl dX12_init_60 rfl (by assumption) (kX2_init _ _ _ k11 hq_56 o_11.1 o_11.2 N0.2.1) (by decide) (by simp [rv_cat, int_cat]) (by first | decide | exact Nat.zero_le _ | omega) (by first | decide | exact Nat.zero_le _ | omega) (fun w_60 hp_60 => ?_) (fun E w_ hx_ => hx_.elim)
  obtain ⟨c60, M60, fl⟩ := hp_60
  have U_ := M60.u o_11.2
  have X_ := M60.1
  have d_9' := d_9.fr U_ X_ (fun b' k _ _ => SX_n (by omega))
  have d_20' := d_20.fr U_ X_ (fun b' k _ _ => SX_n (by omega))
  have d_31' := d_31.fr U_ X_ (fun b' k _ _ => SX_n (by omega))
  have a_7' := a_7.fr (by decide) U_ X_ (fun k => SX_n (by omega))
  have ft' := ft.fr U_ X_ (fun b' k _ _ => SX_n (by omega))
  have fn' := fn.fr U_ X_ (fun b' k _ _ => SX_n (by omega))
  clear fn ft a_7 d_31 d_20 d_9
  have d_9 := d_9'
  clear d_9'
  have d_20 := d_20'
  clear d_20'
  have d_31 := d_31'
  clear d_31'
  have a_7 := a_7'
  clear a_7'
  have ft := ft'
  clear ft'
  have fn := fn'
  clear fn'
  have ht_ : w_60 0 f 0 = 13 := M60.tt ht0 (by decide)
  have hc_ : c60 f = 1 := (X_ f (by omega)).trans hc0
  have f87' : w_60 87 f 0 = 0 := (M60.o (by omega) ne_11).trans f87
  have f88' : w_60 88 f 0 = 0 := (M60.o (by omega) ne_11).trans f88
  have f89' : w_60 89 f 0 = 0 := (M60.o (by omega) ne_11).trans f89
  have f90' : w_60 90 f 0 = 0 := (M60.o (by omega) ne_11).trans f90
  have f41' : w_60 41 f 0 = q_5 := (M60.o (by omega) ne_11).trans f41
  have f42' : w_60 42 f 0 = q_16 := (M60.o (by omega) ne_11).trans f42
  have f43' : w_60 43 f 0 = q_27 := (M60.o (by omega) ne_11).trans f43
  have f44' : w_60 44 f 0 = q_39 := (M60.o (by omega) ne_11).trans f44
  have f45' : w_60 45 f 0 = q_45 := (M60.o (by omega) ne_11).trans f45
  have N_ : NW f c c60 w w_60 := (N0).trans M60 (Or.inr u_11)
  clear N0 ht0 hc0
  have N0 := N_
  clear N_ U_ X_
  have ht0 := ht_
  have hc0 := hc_
  clear ht_ hc_
  clear f87
  have f87 := f87'
  clear f87'
  clear f88
  have f88 := f88'
  clear f88'
  clear f89
  have f89 := f89'
  clear f89'
  clear f90
  have f90 := f90'
  clear f90'
  clear f41
  have f41 := f41'
  clear f41'
  clear f42
  have f42 := f42'
  clear f42'
  clear f43
  have f43 := f43'
  clear f43'
  clear f44
  have f44 := f44'
  clear f44'
  clear f45
  have f45 := f45'
  clear f45'
  clear M60 z_11 o_11
  refine pX12_36 66 hO hF.2.2.2.2 dX12_init_63 rfl (by first | assumption | omega | (simp (disch := first | decide | assumption | omega) only [up_k, up_s, up_a, up_i, flA_k, flA_a, newO_o, newA_o]; first | assumption | omega)) ?_
  obtain ⟨W12, e_W12⟩ : ∃ W, W = up w_60 46 f 0 q_56 := ⟨_, rfl⟩
  have M_ : NW f c60 c60 w_60 W12 := by rw [e_W12]; exact (NW.refl N0.2.1).p (Or.inl rfl) (by omega) (by decide)
  rw [← e_W12]
  have U_ := M_.u hc0
  have X_ := M_.1
  have d_9' := d_9.fr U_ X_ (fun b' k _ _ => SX_n (by omega))
  have d_20' := d_20.fr U_ X_ (fun b' k _ _ => SX_n (by omega))
  have d_31' := d_31.fr U_ X_ (fun b' k _ _ => SX_n (by omega))
  have a_7' := a_7.fr (by decide) U_ X_ (fun k => SX_n (by omega))
  have ft' := ft.fr U_ X_ (fun b' k _ _ => SX_n (by omega))
  have fn' := fn.fr U_ X_ (fun b' k _ _ => SX_n (by omega))
  have fl' := fl.fr U_ X_ (fun b' k _ _ => SX_n (by omega))
  clear fl fn ft a_7 d_31 d_20 d_9
  have d_9 := d_9'
  clear d_9'
  have d_20 := d_20'
  clear d_20'
  have d_31 := d_31'
  clear d_31'
  have a_7 := a_7'
  clear a_7'
  have ft := ft'
  clear ft'
  have fn := fn'
  clear fn'
  have fl := fl'
  clear fl'
  have ht_ : W12 0 f 0 = 13 := M_.tt ht0 (by decide)
  have hc_ : c60 f = 1 := (X_ f (by omega)).trans hc0
  have f87' : W12 87 f 0 = 0 := by rw [e_W12, up_k _ (by decide)]; exact f87
  have f88' : W12 88 f 0 = 0 := by rw [e_W12, up_k _ (by decide)]; exact f88
  have f89' : W12 89 f 0 = 0 := by rw [e_W12, up_k _ (by decide)]; exact f89
  have f90' : W12 90 f 0 = 0 := by rw [e_W12, up_k _ (by decide)]; exact f90
  have f41' : W12 41 f 0 = q_5 := by rw [e_W12, up_k _ (by decide)]; exact f41
  have f42' : W12 42 f 0 = q_16 := by rw [e_W12, up_k _ (by decide)]; exact f42
  have f43' : W12 43 f 0 = q_27 := by rw [e_W12, up_k _ (by decide)]; exact f43
  have f44' : W12 44 f 0 = q_39 := by rw [e_W12, up_k _ (by decide)]; exact f44
  have f45' : W12 45 f 0 = q_45 := by rw [e_W12, up_k _ (by decide)]; exact f45
  have N_ : NW f c c60 w W12 := (N0).trans M_ (Or.inl rfl)
  clear N0 ht0 hc0
  have N0 := N_
  clear N_ U_ X_
  have ht0 := ht_
  have hc0 := hc_
  clear ht_ hc_
  clear f87
  have f87 := f87'
  clear f87'
  clear f88
  have f88 := f88'
  clear f88'
  clear f89
  have f89 := f89'
  clear f89'
  clear f90
  have f90 := f90'
  clear f90'
  clear f41
  have f41 := f41'
  clear f41'
  clear f42
  have f42 := f42'
  clear f42'
  clear f43
  have f43 := f43'
  clear f43'
  clear f44
  have f44 := f44'
  clear f44'
  clear f45
  have f45 := f45'
  clear f45'
  have f46 : W12 46 f 0 = q_56 := by rw [e_W12]; exact up_s _ _ _ _ _
  clear M_ e_W12
  refine X_aload_n 67 hO dX12_init_66 rfl rfl ?_
  refine n_10 70 hO w_448 (by omega) (by omega) dX12_init_67 rfl (fun q_67 hq_67 hf_67 => ?_)
  have u_13 : w 0 q_67 0 = 0 := N0.un hf_67
  have ne_13 : f ≠ q_67 := fun e => by rw [e] at ht; omega
  obtain ⟨k13, e_k13⟩ : ∃ k : Int → Int, k = (fun a => if a = q_67 then 52 else c60 a) := ⟨_, rfl⟩
  obtain ⟨W13, e_W13⟩ : ∃ W, W = newO W12 q_67 10 := ⟨_, rfl⟩
  have M_ : NW q_67 c60 k13 W12 W13 := by rw [e_k13, e_W13]; exact (NW.refl N0.2.1).O hq_67 hf_67 (by decide)
  rw [← e_W13]
  have o_13 : OBt k13 W13 q_67 10 (52) := ⟨by rw [e_W13]; exact newO_t, by rw [e_k13]; exact if_pos rfl⟩
  have z_13 : ∀ k : Nat, 10 ≤ k → W13 k q_67 0 = 0 := fun k hk => by rw [e_W13]; exact newO_f hk
  have U_ := M_.u1 (b := 1) hf_67
  have X_ := M_.1
  have d_9' := d_9.fr U_ X_ (fun b' k _ _ => SX_n (by omega))
  have d_20' := d_20.fr U_ X_ (fun b' k _ _ => SX_n (by omega))
  have d_31' := d_31.fr U_ X_ (fun b' k _ _ => SX_n (by omega))
  have a_7' := a_7.fr (by decide) U_ X_ (fun k => SX_n (by omega))
  have ft' := ft.fr U_ X_ (fun b' k _ _ => SX_n (by omega))
  have fn' := fn.fr U_ X_ (fun b' k _ _ => SX_n (by omega))
  have fl' := fl.fr U_ X_ (fun b' k _ _ => SX_n (by omega))
  clear fl fn ft a_7 d_31 d_20 d_9
  have d_9 := d_9'
  clear d_9'
  have d_20 := d_20'
  clear d_20'
  have d_31 := d_31'
  clear d_31'
  have a_7 := a_7'
  clear a_7'
  have ft := ft'
  clear ft'
  have fn := fn'
  clear fn'
  have fl := fl'
  clear fl'
  have ht_ : W13 0 f 0 = 13 := M_.tt ht0 (by decide)
  have hc_ : k13 f = 1 := (X_ f (by omega)).trans hc0
  have f87' : W13 87 f 0 = 0 := (M_.f hf_67 (by omega)).trans f87
  have f88' : W13 88 f 0 = 0 := (M_.f hf_67 (by omega)).trans f88
  have f89' : W13 89 f 0 = 0 := (M_.f hf_67 (by omega)).trans f89
  have f90' : W13 90 f 0 = 0 := (M_.f hf_67 (by omega)).trans f90
  have f41' : W13 41 f 0 = q_5 := (M_.f hf_67 (by omega)).trans f41
  have f42' : W13 42 f 0 = q_16 := (M_.f hf_67 (by omega)).trans f42
  have f43' : W13 43 f 0 = q_27 := (M_.f hf_67 (by omega)).trans f43
  have f44' : W13 44 f 0 = q_39 := (M_.f hf_67 (by omega)).trans f44
  have f45' : W13 45 f 0 = q_45 := (M_.f hf_67 (by omega)).trans f45
  have f46' : W13 46 f 0 = q_56 := (M_.f hf_67 (by omega)).trans f46
  have N_ : NW f c k13 w W13 := (N0).trans M_ (Or.inr (N0.un hf_67))
  clear N0 ht0 hc0
  have N0 := N_
  clear N_ U_ X_
  have ht0 := ht_
  have hc0 := hc_
  clear ht_ hc_
  clear f87
  have f87 := f87'
  clear f87'
  clear f88
  have f88 := f88'
  clear f88'
  clear f89
  have f89 := f89'
  clear f89'
  clear f90
  have f90 := f90'
  clear f90'
  clear f41
  have f41 := f41'
  clear f41'
  clear f42
  have f42 := f42'
  clear f42'
  clear f43
  have f43 := f43'
  clear f43'
  clear f44
  have f44 := f44'
  clear f44'
  clear f45
  have f45 := f45'
  clear f45'
  clear f46
  have f46 := f46'
  clear f46'
  clear M_ e_k13 e_W13
  refine X_dup 71 hO dX12_init_70 rfl (by first | rfl | exact rv_cat _) ?_
  refine X_kIv 74 hO hD lX12_42 [] rfl dX12_init_71 rfl (by assumption) (kX9_init _ _ _ k13 hq_67 o_13.1 (z_13 77 (by decide)) o_13.2 N0.2.1) (by decide) (by simp [rv_cat, int_cat]) (by first | decide | exact Nat.zero_le _ | omega) (by first | decide | exact Nat.zero_le _ | omega) (fun w_71 hp_71 => ?_) (fun E w_ hx_ => hx_.elim)
  obtain ⟨c71, M71, vt⟩ := hp_71
  have U_ := M71.u o_13.2
  have X_ := M71.1
  have d_9' := d_9.fr U_ X_ (fun b' k _ _ => SX_n (by omega))
  have d_20' := d_20.fr U_ X_ (fun b' k _ _ => SX_n (by omega))
  have d_31' := d_31.fr U_ X_ (fun b' k _ _ => SX_n (by omega))
  have a_7' := a_7.fr (by decide) U_ X_ (fun k => SX_n (by omega))
  have ft' := ft.fr U_ X_ (fun b' k _ _ => SX_n (by omega))
  have fn' := fn.fr U_ X_ (fun b' k _ _ => SX_n (by omega))
  have fl' := fl.fr U_ X_ (fun b' k _ _ => SX_n (by omega))
  clear fl fn ft a_7 d_31 d_20 d_9
  have d_9 := d_9'
  clear d_9'
  have d_20 := d_20'
  clear d_20'
  have d_31 := d_31'
  clear d_31'
  have a_7 := a_7'
  clear a_7'
  have ft := ft'
  clear ft'
  have fn := fn'
  clear fn'
  have fl := fl'
  clear fl'
  have ht_ : w_71 0 f 0 = 13 := M71.tt ht0 (by decide)
  have hc_ : c71 f = 1 := (X_ f (by omega)).trans hc0
  have f87' : w_71 87 f 0 = 0 := (M71.o (by omega) ne_13).trans f87
  have f88' : w_71 88 f 0 = 0 := (M71.o (by omega) ne_13).trans f88
  have f89' : w_71 89 f 0 = 0 := (M71.o (by omega) ne_13).trans f89
  have f90' : w_71 90 f 0 = 0 := (M71.o (by omega) ne_13).trans f90
  have f41' : w_71 41 f 0 = q_5 := (M71.o (by omega) ne_13).trans f41
  have f42' : w_71 42 f 0 = q_16 := (M71.o (by omega) ne_13).trans f42
  have f43' : w_71 43 f 0 = q_27 := (M71.o (by omega) ne_13).trans f43
  have f44' : w_71 44 f 0 = q_39 := (M71.o (by omega) ne_13).trans f44
  have f45' : w_71 45 f 0 = q_45 := (M71.o (by omega) ne_13).trans f45
  have f46' : w_71 46 f 0 = q_56 := (M71.o (by omega) ne_13).trans f46
  have N_ : NW f c c71 w w_71 := (N0).trans M71 (Or.inr u_13)
  clear N0 ht0 hc0
  have N0 := N_
  clear N_ U_ X_
  have ht0 := ht_
  have hc0 := hc_
  clear ht_ hc_
  clear f87
  have f87 := f87'
  clear f87'
  clear f88
  have f88 := f88'
  clear f88'
  clear f89
  have f89 := f89'
  clear f89'
  clear f90
  have f90 := f90'
  clear f90'
  clear f41
  have f41 := f41'
  clear f41'
  clear f42
  have f42 := f42'
  clear f42'
  clear f43
  have f43 := f43'
  clear f43'
  clear f44
  have f44 := f44'
  clear f44'
  clear f45
  have f45 := f45'
  clear f45'
  clear f46
  have f46 := f46'
  clear f46'
  clear M71 z_13 o_13
  refine pX12_43 77 hO hF.2.2.2.2 dX12_init_74 rfl (by first | assumption | omega | (simp (disch := first | decide | assumption | omega) only [up_k, up_s, up_a, up_i, flA_k, flA_a, newO_o, newA_o]; first | assumption | omega)) ?_
  obtain ⟨W14, e_W14⟩ : ∃ W, W = up w_71 47 f 0 q_67 := ⟨_, rfl⟩
  have M_ : NW f c71 c71 w_71 W14 := by rw [e_W14]; exact (NW.refl N0.2.1).p (Or.inl rfl) (by omega) (by decide)
  rw [← e_W14]
  have U_ := M_.u hc0
  have X_ := M_.1
  have d_9' := d_9.fr U_ X_ (fun b' k _ _ => SX_n (by omega))
  have d_20' := d_20.fr U_ X_ (fun b' k _ _ => SX_n (by omega))
  have d_31' := d_31.fr U_ X_ (fun b' k _ _ => SX_n (by omega))
  have a_7' := a_7.fr (by decide) U_ X_ (fun k => SX_n (by omega))
  have ft' := ft.fr U_ X_ (fun b' k _ _ => SX_n (by omega))
  have fn' := fn.fr U_ X_ (fun b' k _ _ => SX_n (by omega))
  have fl' := fl.fr U_ X_ (fun b' k _ _ => SX_n (by omega))
  have vt' := vt.fr2 U_ X_ (fun b' k _ _ => SX_n (by omega))
  clear vt fl fn ft a_7 d_31 d_20 d_9
  have d_9 := d_9'
  clear d_9'
  have d_20 := d_20'
  clear d_20'
  have d_31 := d_31'
  clear d_31'
  have a_7 := a_7'
  clear a_7'
  have ft := ft'
  clear ft'
  have fn := fn'
  clear fn'
  have fl := fl'
  clear fl'
  have vt := vt'
  clear vt'
  have ht_ : W14 0 f 0 = 13 := M_.tt ht0 (by decide)
  have hc_ : c71 f = 1 := (X_ f (by omega)).trans hc0
  have f87' : W14 87 f 0 = 0 := by rw [e_W14, up_k _ (by decide)]; exact f87
  have f88' : W14 88 f 0 = 0 := by rw [e_W14, up_k _ (by decide)]; exact f88
  have f89' : W14 89 f 0 = 0 := by rw [e_W14, up_k _ (by decide)]; exact f89
  have f90' : W14 90 f 0 = 0 := by rw [e_W14, up_k _ (by decide)]; exact f90
  have f41' : W14 41 f 0 = q_5 := by rw [e_W14, up_k _ (by decide)]; exact f41
  have f42' : W14 42 f 0 = q_16 := by rw [e_W14, up_k _ (by decide)]; exact f42
  have f43' : W14 43 f 0 = q_27 := by rw [e_W14, up_k _ (by decide)]; exact f43
  have f44' : W14 44 f 0 = q_39 := by rw [e_W14, up_k _ (by decide)]; exact f44
  have f45' : W14 45 f 0 = q_45 := by rw [e_W14, up_k _ (by decide)]; exact f45
  have f46' : W14 46 f 0 = q_56 := by rw [e_W14, up_k _ (by decide)]; exact f46
  have N_ : NW f c c71 w W14 := (N0).trans M_ (Or.inl rfl)
  clear N0 ht0 hc0
  have N0 := N_
  clear N_ U_ X_
  have ht0 := ht_
  have hc0 := hc_
  clear ht_ hc_
  clear f87
  have f87 := f87'
  clear f87'
  clear f88
  have f88 := f88'
  clear f88'
  clear f89
  have f89 := f89'
  clear f89'
  clear f90
  have f90 := f90'
  clear f90'
  clear f41
  have f41 := f41'
  clear f41'
  clear f42
  have f42 := f42'
  clear f42'
  clear f43
  have f43 := f43'
  clear f43'
  clear f44
  have f44 := f44'
  clear f44'
  clear f45
  have f45 := f45'
  clear f45'
  clear f46
  have f46 := f46'
  clear f46'
  have f47 : W14 47 f 0 = q_67 := by rw [e_W14]; exact up_s _ _ _ _ _
  clear M_ e_W14
  refine X_aload_n 78 hO dX12_init_77 rfl rfl ?_
  refine X_iconst 79 hO dX12_init_78 rfl ?_
  refine X_newq (t := 24) 82 hO rfl (by decide) w_489 (by decide) (by omega) (by omega) (by omega) dX12_init_79 rfl (fun q_79 hq_79 hf_79 => ?_)
  have u_15 : w 0 q_79 0 = 0 := N0.un hf_79
  have ne_15 : f ≠ q_79 := fun e => by rw [e] at ht; omega
  obtain ⟨k15, e_k15⟩ : ∃ k : Int → Int, k = (fun a => if a = q_79 then 62 else c71 a) := ⟨_, rfl⟩
  obtain ⟨W15, e_W15⟩ : ∃ W, W = newA W14 q_79 ((24 : Nat) : Int) 4 := ⟨_, rfl⟩
  have M_ : NW q_79 c71 k15 W14 W15 := by rw [e_k15, e_W15]; exact (NW.refl N0.2.1).A hq_79 hf_79 (by decide)
  rw [← e_W15]
  have o_15 : OBt k15 W15 q_79 24 (62) := ⟨by rw [e_W15]; exact newA_t, by rw [e_k15]; exact if_pos rfl⟩
  have a_15 : ARt k15 W15 q_79 24 (4) (62) := ⟨⟨o_15.1, by rw [e_W15]; exact newA_n, o_15.2⟩, fun j => by rw [e_W15]; exact ⟨newA_1 (Or.inl rfl), newA_1 (Or.inr rfl)⟩⟩
  have U_ := M_.u1 (b := 1) hf_79
  have X_ := M_.1
  have d_9' := d_9.fr U_ X_ (fun b' k _ _ => SX_n (by omega))
  have d_20' := d_20.fr U_ X_ (fun b' k _ _ => SX_n (by omega))
  have d_31' := d_31.fr U_ X_ (fun b' k _ _ => SX_n (by omega))
  have a_7' := a_7.fr (by decide) U_ X_ (fun k => SX_n (by omega))
  have ft' := ft.fr U_ X_ (fun b' k _ _ => SX_n (by omega))
  have fn' := fn.fr U_ X_ (fun b' k _ _ => SX_n (by omega))
  have fl' := fl.fr U_ X_ (fun b' k _ _ => SX_n (by omega))
  have vt' := vt.fr2 U_ X_ (fun b' k _ _ => SX_n (by omega))
  clear vt fl fn ft a_7 d_31 d_20 d_9
  have d_9 := d_9'
  clear d_9'
  have d_20 := d_20'
  clear d_20'
  have d_31 := d_31'
  clear d_31'
  have a_7 := a_7'
  clear a_7'
  have ft := ft'
  clear ft'
  have fn := fn'
  clear fn'
  have fl := fl'
  clear fl'
  have vt := vt'
  clear vt'
  have ht_ : W15 0 f 0 = 13 := M_.tt ht0 (by decide)
  have hc_ : k15 f = 1 := (X_ f (by omega)).trans hc0
  have f87' : W15 87 f 0 = 0 := (M_.f hf_79 (by omega)).trans f87
  have f88' : W15 88 f 0 = 0 := (M_.f hf_79 (by omega)).trans f88
  have f89' : W15 89 f 0 = 0 := (M_.f hf_79 (by omega)).trans f89
  have f90' : W15 90 f 0 = 0 := (M_.f hf_79 (by omega)).trans f90
  have f41' : W15 41 f 0 = q_5 := (M_.f hf_79 (by omega)).trans f41
  have f42' : W15 42 f 0 = q_16 := (M_.f hf_79 (by omega)).trans f42
  have f43' : W15 43 f 0 = q_27 := (M_.f hf_79 (by omega)).trans f43
  have f44' : W15 44 f 0 = q_39 := (M_.f hf_79 (by omega)).trans f44
  have f45' : W15 45 f 0 = q_45 := (M_.f hf_79 (by omega)).trans f45
  have f46' : W15 46 f 0 = q_56 := (M_.f hf_79 (by omega)).trans f46
  have f47' : W15 47 f 0 = q_67 := (M_.f hf_79 (by omega)).trans f47
  have N_ : NW f c k15 w W15 := (N0).trans M_ (Or.inr (N0.un hf_79))
  clear N0 ht0 hc0
  have N0 := N_
  clear N_ U_ X_
  have ht0 := ht_
  have hc0 := hc_
  clear ht_ hc_
  clear f87
  have f87 := f87'
  clear f87'
  clear f88
  have f88 := f88'
  clear f88'
  clear f89
  have f89 := f89'
  clear f89'
  clear f90
  have f90 := f90'
  clear f90'
  clear f41
  have f41 := f41'
  clear f41'
  clear f42
  have f42 := f42'
  clear f42'
  clear f43
  have f43 := f43'
  clear f43'
  clear f44
  have f44 := f44'
  clear f44'
  clear f45
  have f45 := f45'
  clear f45'
  clear f46
  have f46 := f46'
  clear f46'
  clear f47
  have f47 := f47'
  clear f47'
  clear M_ e_k15 e_W15
  refine pX12_49 85 hO hF.2.2.2.2 dX12_init_82 rfl (by first | assumption | omega | (simp (disch := first | decide | assumption | omega) only [up_k, up_s, up_a, up_i, flA_k, flA_a, newO_o, newA_o]; first | assumption | omega)) ?_
  obtain ⟨W16, e_W16⟩ : ∃ W, W = up W15 48 f 0 q_79 := ⟨_, rfl⟩
  have M_ : NW f k15 k15 W15 W16 := by rw [e_W16]; exact (NW.refl N0.2.1).p (Or.inl rfl) (by omega) (by decide)
  rw [← e_W16]
  have U_ := M_.u hc0
  have X_ := M_.1
  have d_9' := d_9.fr U_ X_ (fun b' k _ _ => SX_n (by omega))
  have d_20' := d_20.fr U_ X_ (fun b' k _ _ => SX_n (by omega))
  have d_31' := d_31.fr U_ X_ (fun b' k _ _ => SX_n (by omega))
  have a_7' := a_7.fr (by decide) U_ X_ (fun k => SX_n (by omega))
  have ft' := ft.fr U_ X_ (fun b' k _ _ => SX_n (by omega))
  have fn' := fn.fr U_ X_ (fun b' k _ _ => SX_n (by omega))
  have fl' := fl.fr U_ X_ (fun b' k _ _ => SX_n (by omega))
  have vt' := vt.fr2 U_ X_ (fun b' k _ _ => SX_n (by omega))
  have a_15' := a_15.fr (by decide) U_ X_ (fun k => SX_n (by omega))
  clear a_15 vt fl fn ft a_7 d_31 d_20 d_9
  have d_9 := d_9'
  clear d_9'
  have d_20 := d_20'
  clear d_20'
  have d_31 := d_31'
  clear d_31'
  have a_7 := a_7'
  clear a_7'
  have ft := ft'
  clear ft'
  have fn := fn'
  clear fn'
  have fl := fl'
  clear fl'
  have vt := vt'
  clear vt'
  have a_15 := a_15'
  clear a_15'
  have ht_ : W16 0 f 0 = 13 := M_.tt ht0 (by decide)
  have hc_ : k15 f = 1 := (X_ f (by omega)).trans hc0
  have f87' : W16 87 f 0 = 0 := by rw [e_W16, up_k _ (by decide)]; exact f87
  have f88' : W16 88 f 0 = 0 := by rw [e_W16, up_k _ (by decide)]; exact f88
  have f89' : W16 89 f 0 = 0 := by rw [e_W16, up_k _ (by decide)]; exact f89
  have f90' : W16 90 f 0 = 0 := by rw [e_W16, up_k _ (by decide)]; exact f90
  have f41' : W16 41 f 0 = q_5 := by rw [e_W16, up_k _ (by decide)]; exact f41
  have f42' : W16 42 f 0 = q_16 := by rw [e_W16, up_k _ (by decide)]; exact f42
  have f43' : W16 43 f 0 = q_27 := by rw [e_W16, up_k _ (by decide)]; exact f43
  have f44' : W16 44 f 0 = q_39 := by rw [e_W16, up_k _ (by decide)]; exact f44
  have f45' : W16 45 f 0 = q_45 := by rw [e_W16, up_k _ (by decide)]; exact f45
  have f46' : W16 46 f 0 = q_56 := by rw [e_W16, up_k _ (by decide)]; exact f46
  have f47' : W16 47 f 0 = q_67 := by rw [e_W16, up_k _ (by decide)]; exact f47
  have N_ : NW f c k15 w W16 := (N0).trans M_ (Or.inl rfl)
  clear N0 ht0 hc0
  have N0 := N_
  clear N_ U_ X_
  have ht0 := ht_
  have hc0 := hc_
  clear ht_ hc_
  clear f87
  have f87 := f87'
  clear f87'
  clear f88
  have f88 := f88'
  clear f88'
  clear f89
  have f89 := f89'
  clear f89'
  clear f90
  have f90 := f90'
  clear f90'
  clear f41
  have f41 := f41'
  clear f41'
  clear f42
  have f42 := f42'
  clear f42'
  clear f43
  have f43 := f43'
  clear f43'
  clear f44
  have f44 := f44'
  clear f44'
  clear f45
  have f45 := f45'
  clear f45'
  clear f46
  have f46 := f46'
  clear f46'
  clear f47
  have f47 := f47'
  clear f47'
  have f48 : W16 48 f 0 = q_79 := by rw [e_W16]; exact up_s _ _ _ _ _
  clear M_ e_W16
  refine X_aload_n 86 hO dX12_init_85 rfl rfl ?_
  refine n_4 89 hO w_489 (by omega) (by omega) dX12_init_86 rfl (fun q_86 hq_86 hf_86 => ?_)
  have u_17 : w 0 q_86 0 = 0 := N0.un hf_86
  have ne_17 : f ≠ q_86 := fun e => by rw [e] at ht; omega
  obtain ⟨k17, e_k17⟩ : ∃ k : Int → Int, k = (fun a => if a = q_86 then 63 else k15 a) := ⟨_, rfl⟩
  obtain ⟨W17, e_W17⟩ : ∃ W, W = newO W16 q_86 4 := ⟨_, rfl⟩
  have M_ : NW q_86 k15 k17 W16 W17 := by rw [e_k17, e_W17]; exact (NW.refl N0.2.1).O hq_86 hf_86 (by decide)
  rw [← e_W17]
  have o_17 : OBt k17 W17 q_86 4 (63) := ⟨by rw [e_W17]; exact newO_t, by rw [e_k17]; exact if_pos rfl⟩
  have z_17 : ∀ k : Nat, 10 ≤ k → W17 k q_86 0 = 0 := fun k hk => by rw [e_W17]; exact newO_f hk
  have U_ := M_.u1 (b := 1) hf_86
  have X_ := M_.1
  have d_9' := d_9.fr U_ X_ (fun b' k _ _ => SX_n (by omega))
  have d_20' := d_20.fr U_ X_ (fun b' k _ _ => SX_n (by omega))
  have d_31' := d_31.fr U_ X_ (fun b' k _ _ => SX_n (by omega))
  have a_7' := a_7.fr (by decide) U_ X_ (fun k => SX_n (by omega))
  have ft' := ft.fr U_ X_ (fun b' k _ _ => SX_n (by omega))
  have fn' := fn.fr U_ X_ (fun b' k _ _ => SX_n (by omega))
  have fl' := fl.fr U_ X_ (fun b' k _ _ => SX_n (by omega))
  have vt' := vt.fr2 U_ X_ (fun b' k _ _ => SX_n (by omega))
  have a_15' := a_15.fr (by decide) U_ X_ (fun k => SX_n (by omega))
  clear a_15 vt fl fn ft a_7 d_31 d_20 d_9
  have d_9 := d_9'
  clear d_9'
  have d_20 := d_20'
  clear d_20'
  have d_31 := d_31'
  clear d_31'
  have a_7 := a_7'
  clear a_7'
  have ft := ft'
  clear ft'
  have fn := fn'
  clear fn'
  have fl := fl'
  clear fl'
  have vt := vt'
  clear vt'
  have a_15 := a_15'
  clear a_15'
  have ht_ : W17 0 f 0 = 13 := M_.tt ht0 (by decide)
  have hc_ : k17 f = 1 := (X_ f (by omega)).trans hc0
  have f87' : W17 87 f 0 = 0 := (M_.f hf_86 (by omega)).trans f87
  have f88' : W17 88 f 0 = 0 := (M_.f hf_86 (by omega)).trans f88
  have f89' : W17 89 f 0 = 0 := (M_.f hf_86 (by omega)).trans f89
  have f90' : W17 90 f 0 = 0 := (M_.f hf_86 (by omega)).trans f90
  have f41' : W17 41 f 0 = q_5 := (M_.f hf_86 (by omega)).trans f41
  have f42' : W17 42 f 0 = q_16 := (M_.f hf_86 (by omega)).trans f42
  have f43' : W17 43 f 0 = q_27 := (M_.f hf_86 (by omega)).trans f43
  have f44' : W17 44 f 0 = q_39 := (M_.f hf_86 (by omega)).trans f44
  have f45' : W17 45 f 0 = q_45 := (M_.f hf_86 (by omega)).trans f45
  have f46' : W17 46 f 0 = q_56 := (M_.f hf_86 (by omega)).trans f46
  have f47' : W17 47 f 0 = q_67 := (M_.f hf_86 (by omega)).trans f47
  have f48' : W17 48 f 0 = q_79 := (M_.f hf_86 (by omega)).trans f48
  have N_ : NW f c k17 w W17 := (N0).trans M_ (Or.inr (N0.un hf_86))
  clear N0 ht0 hc0
  have N0 := N_
  clear N_ U_ X_
  have ht0 := ht_
  have hc0 := hc_
  clear ht_ hc_
  clear f87
  have f87 := f87'
  clear f87'
  clear f88
  have f88 := f88'
  clear f88'
  clear f89
  have f89 := f89'
  clear f89'
  clear f90
  have f90 := f90'
  clear f90'
  clear f41
  have f41 := f41'
  clear f41'
  clear f42
  have f42 := f42'
  clear f42'
  clear f43
  have f43 := f43'
  clear f43'
  clear f44
  have f44 := f44'
  clear f44'
  clear f45
  have f45 := f45'
  clear f45'
  clear f46
  have f46 := f46'
  clear f46'
  clear f47
  have f47 := f47'
  clear f47'
  clear f48
  have f48 := f48'
  clear f48'
  clear M_ e_k17 e_W17
  refine X_dup 90 hO dX12_init_89 rfl (by first | rfl | exact rv_cat _) ?_
  refine X_kNv 93 hO hD nX12_53 [] rfl dX12_init_90 rfl (by assumption) (kX3_init _ _ _ hq_86 o_17.1) (by decide) (by simp [rv_cat, int_cat]) (by first | decide | exact Nat.zero_le _ | omega) (by first | decide | exact Nat.zero_le _ | omega) (fun w_90 hp_90 => ?_) (fun E w_ hx_ => hx_.elim)
  obtain ⟨c90, M90, fm⟩ := NW.mc N0.2.1 o_17 z_17 hq_86 hp_90
  have U_ := M90.u o_17.2
  have X_ := M90.1
  have d_9' := d_9.fr U_ X_ (fun b' k _ _ => SX_n (by omega))
  have d_20' := d_20.fr U_ X_ (fun b' k _ _ => SX_n (by omega))
  have d_31' := d_31.fr U_ X_ (fun b' k _ _ => SX_n (by omega))
  have a_7' := a_7.fr (by decide) U_ X_ (fun k => SX_n (by omega))
  have ft' := ft.fr U_ X_ (fun b' k _ _ => SX_n (by omega))
  have fn' := fn.fr U_ X_ (fun b' k _ _ => SX_n (by omega))
  have fl' := fl.fr U_ X_ (fun b' k _ _ => SX_n (by omega))
  have vt' := vt.fr2 U_ X_ (fun b' k _ _ => SX_n (by omega))
  have a_15' := a_15.fr (by decide) U_ X_ (fun k => SX_n (by omega))
  clear a_15 vt fl fn ft a_7 d_31 d_20 d_9
  have d_9 := d_9'
  clear d_9'
  have d_20 := d_20'
  clear d_20'
  have d_31 := d_31'
  clear d_31'
  have a_7 := a_7'
  clear a_7'
  have ft := ft'
  clear ft'
  have fn := fn'
  clear fn'
  have fl := fl'
  clear fl'
  have vt := vt'
  clear vt'
  have a_15 := a_15'
  clear a_15'
  have ht_ : w_90 0 f 0 = 13 := M90.tt ht0 (by decide)
  have hc_ : c90 f = 1 := (X_ f (by omega)).trans hc0
  have f87' : w_90 87 f 0 = 0 := (M90.o (by omega) ne_17).trans f87
  have f88' : w_90 88 f 0 = 0 := (M90.o (by omega) ne_17).trans f88
  have f89' : w_90 89 f 0 = 0 := (M90.o (by omega) ne_17).trans f89
  have f90' : w_90 90 f 0 = 0 := (M90.o (by omega) ne_17).trans f90
  have f41' : w_90 41 f 0 = q_5 := (M90.o (by omega) ne_17).trans f41
  have f42' : w_90 42 f 0 = q_16 := (M90.o (by omega) ne_17).trans f42
  have f43' : w_90 43 f 0 = q_27 := (M90.o (by omega) ne_17).trans f43
  have f44' : w_90 44 f 0 = q_39 := (M90.o (by omega) ne_17).trans f44
  have f45' : w_90 45 f 0 = q_45 := (M90.o (by omega) ne_17).trans f45
  have f46' : w_90 46 f 0 = q_56 := (M90.o (by omega) ne_17).trans f46
  have f47' : w_90 47 f 0 = q_67 := (M90.o (by omega) ne_17).trans f47
  have f48' : w_90 48 f 0 = q_79 := (M90.o (by omega) ne_17).trans f48
  have N_ : NW f c c90 w w_90 := (N0).trans M90 (Or.inr u_17)
  clear N0 ht0 hc0
  have N0 := N_
  clear N_ U_ X_
  have ht0 := ht_
  have hc0 := hc_
  clear ht_ hc_
  clear f87
  have f87 := f87'
  clear f87'
  clear f88
  have f88 := f88'
  clear f88'
  clear f89
  have f89 := f89'
  clear f89'
  clear f90
  have f90 := f90'
  clear f90'
  clear f41
  have f41 := f41'
  clear f41'
  clear f42
  have f42 := f42'
  clear f42'
  clear f43
  have f43 := f43'
  clear f43'
  clear f44
  have f44 := f44'
  clear f44'
  clear f45
  have f45 := f45'
  clear f45'
  clear f46
  have f46 := f46'
  clear f46'
  clear f47
  have f47 := f47'
  clear f47'
  clear f48
  have f48 := f48'
  clear f48'
  clear M90 z_17 o_17
  refine pX12_54 96 hO hF.2.2.2.2 dX12_init_93 rfl (by first | assumption | omega | (simp (disch := first | decide | assumption | omega) only [up_k, up_s, up_a, up_i, flA_k, flA_a, newO_o, newA_o]; first | assumption | omega)) ?_
  obtain ⟨W18, e_W18⟩ : ∃ W, W = up w_90 49 f 0 q_86 := ⟨_, rfl⟩
  have M_ : NW f c90 c90 w_90 W18 := by rw [e_W18]; exact (NW.refl N0.2.1).p (Or.inl rfl) (by omega) (by decide)
  rw [← e_W18]
  have U_ := M_.u hc0
  have X_ := M_.1
  have d_9' := d_9.fr U_ X_ (fun b' k _ _ => SX_n (by omega))
  have d_20' := d_20.fr U_ X_ (fun b' k _ _ => SX_n (by omega))
  have d_31' := d_31.fr U_ X_ (fun b' k _ _ => SX_n (by omega))
  have a_7' := a_7.fr (by decide) U_ X_ (fun k => SX_n (by omega))
  have ft' := ft.fr U_ X_ (fun b' k _ _ => SX_n (by omega))
  have fn' := fn.fr U_ X_ (fun b' k _ _ => SX_n (by omega))
  have fl' := fl.fr U_ X_ (fun b' k _ _ => SX_n (by omega))
  have vt' := vt.fr2 U_ X_ (fun b' k _ _ => SX_n (by omega))
  have a_15' := a_15.fr (by decide) U_ X_ (fun k => SX_n (by omega))
  have fm' := fm.fr U_ X_ (fun b' k _ _ => SX_n (by omega))
  clear fm a_15 vt fl fn ft a_7 d_31 d_20 d_9
  have d_9 := d_9'
  clear d_9'
  have d_20 := d_20'
  clear d_20'
  have d_31 := d_31'
  clear d_31'
  have a_7 := a_7'
  clear a_7'
  have ft := ft'
  clear ft'
  have fn := fn'
  clear fn'
  have fl := fl'
  clear fl'
  have vt := vt'
  clear vt'
  have a_15 := a_15'
  clear a_15'
  have fm := fm'
  clear fm'
  have ht_ : W18 0 f 0 = 13 := M_.tt ht0 (by decide)
  have hc_ : c90 f = 1 := (X_ f (by omega)).trans hc0
  have f87' : W18 87 f 0 = 0 := by rw [e_W18, up_k _ (by decide)]; exact f87
  have f88' : W18 88 f 0 = 0 := by rw [e_W18, up_k _ (by decide)]; exact f88
  have f89' : W18 89 f 0 = 0 := by rw [e_W18, up_k _ (by decide)]; exact f89
  have f90' : W18 90 f 0 = 0 := by rw [e_W18, up_k _ (by decide)]; exact f90
  have f41' : W18 41 f 0 = q_5 := by rw [e_W18, up_k _ (by decide)]; exact f41
  have f42' : W18 42 f 0 = q_16 := by rw [e_W18, up_k _ (by decide)]; exact f42
  have f43' : W18 43 f 0 = q_27 := by rw [e_W18, up_k _ (by decide)]; exact f43
  have f44' : W18 44 f 0 = q_39 := by rw [e_W18, up_k _ (by decide)]; exact f44
  have f45' : W18 45 f 0 = q_45 := by rw [e_W18, up_k _ (by decide)]; exact f45
  have f46' : W18 46 f 0 = q_56 := by rw [e_W18, up_k _ (by decide)]; exact f46
  have f47' : W18 47 f 0 = q_67 := by rw [e_W18, up_k _ (by decide)]; exact f47
  have f48' : W18 48 f 0 = q_79 := by rw [e_W18, up_k _ (by decide)]; exact f48
  have N_ : NW f c c90 w W18 := (N0).trans M_ (Or.inl rfl)
  clear N0 ht0 hc0
  have N0 := N_
  clear N_ U_ X_
  have ht0 := ht_
  have hc0 := hc_
  clear ht_ hc_
  clear f87
  have f87 := f87'
  clear f87'
  clear f88
  have f88 := f88'
  clear f88'
  clear f89
  have f89 := f89'
  clear f89'
  clear f90
  have f90 := f90'
  clear f90'
  clear f41
  have f41 := f41'
  clear f41'
  clear f42
  have f42 := f42'
  clear f42'
  clear f43
  have f43 := f43'
  clear f43'
  clear f44
  have f44 := f44'
  clear f44'
  clear f45
  have f45 := f45'
  clear f45'
  clear f46
  have f46 := f46'
  clear f46'
  clear f47
  have f47 := f47'
  clear f47'
  clear f48
  have f48 := f48'
  clear f48'
  have f49 : W18 49 f 0 = q_86 := by rw [e_W18]; exact up_s _ _ _ _ _
  clear M_ e_W18
  refine X_aload_n 97 hO dX12_init_96 rfl rfl ?_
  refine n_12 100 hO w_513 (by omega) (by omega) dX12_init_97 rfl (fun q_97 hq_97 hf_97 => ?_)
  have u_19 : w 0 q_97 0 = 0 := N0.un hf_97
  have ne_19 : f ≠ q_97 := fun e => by rw [e] at ht; omega
  obtain ⟨k19, e_k19⟩ : ∃ k : Int → Int, k = (fun a => if a = q_97 then 86 else c90 a) := ⟨_, rfl⟩
  obtain ⟨W19, e_W19⟩ : ∃ W, W = newO W18 q_97 12 := ⟨_, rfl⟩
  have M_ : NW q_97 c90 k19 W18 W19 := by rw [e_k19, e_W19]; exact (NW.refl N0.2.1).O hq_97 hf_97 (by decide)
  rw [← e_W19]
  have o_19 : OBt k19 W19 q_97 12 (86) := ⟨by rw [e_W19]; exact newO_t, by rw [e_k19]; exact if_pos rfl⟩
  have z_19 : ∀ k : Nat, 10 ≤ k → W19 k q_97 0 = 0 := fun k hk => by rw [e_W19]; exact newO_f hk
  have U_ := M_.u1 (b := 1) hf_97
  have X_ := M_.1
  have d_9' := d_9.fr U_ X_ (fun b' k _ _ => SX_n (by omega))
  have d_20' := d_20.fr U_ X_ (fun b' k _ _ => SX_n (by omega))
  have d_31' := d_31.fr U_ X_ (fun b' k _ _ => SX_n (by omega))
  have a_7' := a_7.fr (by decide) U_ X_ (fun k => SX_n (by omega))
  have ft' := ft.fr U_ X_ (fun b' k _ _ => SX_n (by omega))
  have fn' := fn.fr U_ X_ (fun b' k _ _ => SX_n (by omega))
  have fl' := fl.fr U_ X_ (fun b' k _ _ => SX_n (by omega))
  have vt' := vt.fr2 U_ X_ (fun b' k _ _ => SX_n (by omega))
  have a_15' := a_15.fr (by decide) U_ X_ (fun k => SX_n (by omega))
  have fm' := fm.fr U_ X_ (fun b' k _ _ => SX_n (by omega))
  clear fm a_15 vt fl fn ft a_7 d_31 d_20 d_9
  have d_9 := d_9'
  clear d_9'
  have d_20 := d_20'
  clear d_20'
  have d_31 := d_31'
  clear d_31'
  have a_7 := a_7'
  clear a_7'
  have ft := ft'
  clear ft'
  have fn := fn'
  clear fn'
  have fl := fl'
  clear fl'
  have vt := vt'
  clear vt'
  have a_15 := a_15'
  clear a_15'
  have fm := fm'
  clear fm'
  have ht_ : W19 0 f 0 = 13 := M_.tt ht0 (by decide)
  have hc_ : k19 f = 1 := (X_ f (by omega)).trans hc0
  have f87' : W19 87 f 0 = 0 := (M_.f hf_97 (by omega)).trans f87
  have f88' : W19 88 f 0 = 0 := (M_.f hf_97 (by omega)).trans f88
  have f89' : W19 89 f 0 = 0 := (M_.f hf_97 (by omega)).trans f89
  have f90' : W19 90 f 0 = 0 := (M_.f hf_97 (by omega)).trans f90
  have f41' : W19 41 f 0 = q_5 := (M_.f hf_97 (by omega)).trans f41
  have f42' : W19 42 f 0 = q_16 := (M_.f hf_97 (by omega)).trans f42
  have f43' : W19 43 f 0 = q_27 := (M_.f hf_97 (by omega)).trans f43
  have f44' : W19 44 f 0 = q_39 := (M_.f hf_97 (by omega)).trans f44
  have f45' : W19 45 f 0 = q_45 := (M_.f hf_97 (by omega)).trans f45
  have f46' : W19 46 f 0 = q_56 := (M_.f hf_97 (by omega)).trans f46
  have f47' : W19 47 f 0 = q_67 := (M_.f hf_97 (by omega)).trans f47
  have f48' : W19 48 f 0 = q_79 := (M_.f hf_97 (by omega)).trans f48
  have f49' : W19 49 f 0 = q_86 := (M_.f hf_97 (by omega)).trans f49
  have N_ : NW f c k19 w W19 := (N0).trans M_ (Or.inr (N0.un hf_97))
  clear N0 ht0 hc0
  have N0 := N_
  clear N_ U_ X_
  have ht0 := ht_
  have hc0 := hc_
  clear ht_ hc_
  clear f87
  have f87 := f87'
  clear f87'
  clear f88
  have f88 := f88'
  clear f88'
  clear f89
  have f89 := f89'
  clear f89'
  clear f90
  have f90 := f90'
  clear f90'
  clear f41
  have f41 := f41'
  clear f41'
  clear f42
  have f42 := f42'
  clear f42'
  clear f43
  have f43 := f43'
  clear f43'
  clear f44
  have f44 := f44'
  clear f44'
  clear f45
  have f45 := f45'
  clear f45'
  clear f46
  have f46 := f46'
  clear f46'
  clear f47
  have f47 := f47'
  clear f47'
  clear f48
  have f48 := f48'
  clear f48'
  clear f49
  have f49 := f49'
  clear f49'
  clear M_ e_k19 e_W19
  refine X_dup 101 hO dX12_init_100 rfl (by first | rfl | exact rv_cat _) ?_
  refine X_kNv 104 hO hD nX12_60 [] rfl dX12_init_101 rfl (by assumption) (kX11_init _ _ _ hq_97 o_19.1) (by decide) (by simp [rv_cat, int_cat]) (by first | decide | exact Nat.zero_le _ | omega) (by first | decide | exact Nat.zero_le _ | omega) (fun w_101 hp_101 => ?_) (fun E w_ hx_ => hx_.elim)
  have M101 : NW q_97 k19 k19 W19 w_101 := by rw [hp_101]; exact ((NW.refl N0.2.1).p (Or.inl rfl) (by omega) (by decide)).p (Or.inl rfl) (by omega) (by decide)
  have U_ := M101.u o_19.2
  have X_ := M101.1
  have d_9' := d_9.fr U_ X_ (fun b' k _ _ => SX_n (by omega))
  have d_20' := d_20.fr U_ X_ (fun b' k _ _ => SX_n (by omega))
  have d_31' := d_31.fr U_ X_ (fun b' k _ _ => SX_n (by omega))
  have a_7' := a_7.fr (by decide) U_ X_ (fun k => SX_n (by omega))
  have ft' := ft.fr U_ X_ (fun b' k _ _ => SX_n (by omega))
  have fn' := fn.fr U_ X_ (fun b' k _ _ => SX_n (by omega))
  have fl' := fl.fr U_ X_ (fun b' k _ _ => SX_n (by omega))
  have vt' := vt.fr2 U_ X_ (fun b' k _ _ => SX_n (by omega))
  have a_15' := a_15.fr (by decide) U_ X_ (fun k => SX_n (by omega))
  have fm' := fm.fr U_ X_ (fun b' k _ _ => SX_n (by omega))
  have o_19' := o_19.fr (by decide) U_ X_
  clear o_19 fm a_15 vt fl fn ft a_7 d_31 d_20 d_9
  have d_9 := d_9'
  clear d_9'
  have d_20 := d_20'
  clear d_20'
  have d_31 := d_31'
  clear d_31'
  have a_7 := a_7'
  clear a_7'
  have ft := ft'
  clear ft'
  have fn := fn'
  clear fn'
  have fl := fl'
  clear fl'
  have vt := vt'
  clear vt'
  have a_15 := a_15'
  clear a_15'
  have fm := fm'
  clear fm'
  have o_19 := o_19'
  clear o_19'
  have ht_ : w_101 0 f 0 = 13 := M101.tt ht0 (by decide)
  have hc_ : k19 f = 1 := (X_ f (by omega)).trans hc0
  have f87' : w_101 87 f 0 = 0 := (M101.o (by omega) ne_19).trans f87
  have f88' : w_101 88 f 0 = 0 := (M101.o (by omega) ne_19).trans f88
  have f89' : w_101 89 f 0 = 0 := (M101.o (by omega) ne_19).trans f89
  have f90' : w_101 90 f 0 = 0 := (M101.o (by omega) ne_19).trans f90
  have f41' : w_101 41 f 0 = q_5 := (M101.o (by omega) ne_19).trans f41
  have f42' : w_101 42 f 0 = q_16 := (M101.o (by omega) ne_19).trans f42
  have f43' : w_101 43 f 0 = q_27 := (M101.o (by omega) ne_19).trans f43
  have f44' : w_101 44 f 0 = q_39 := (M101.o (by omega) ne_19).trans f44
  have f45' : w_101 45 f 0 = q_45 := (M101.o (by omega) ne_19).trans f45
  have f46' : w_101 46 f 0 = q_56 := (M101.o (by omega) ne_19).trans f46
  have f47' : w_101 47 f 0 = q_67 := (M101.o (by omega) ne_19).trans f47
  have f48' : w_101 48 f 0 = q_79 := (M101.o (by omega) ne_19).trans f48
  have f49' : w_101 49 f 0 = q_86 := (M101.o (by omega) ne_19).trans f49
  have N_ : NW f c k19 w w_101 := (N0).trans M101 (Or.inr u_19)
  clear N0 ht0 hc0
  have N0 := N_
  clear N_ U_ X_
  have ht0 := ht_
  have hc0 := hc_
  clear ht_ hc_
  clear f87
  have f87 := f87'
  clear f87'
  clear f88
  have f88 := f88'
  clear f88'
  clear f89
  have f89 := f89'
  clear f89'
  clear f90
  have f90 := f90'
  clear f90'
  clear f41
  have f41 := f41'
  clear f41'
  clear f42
  have f42 := f42'
  clear f42'
  clear f43
  have f43 := f43'
  clear f43'
  clear f44
  have f44 := f44'
  clear f44'
  clear f45
  have f45 := f45'
  clear f45'
  clear f46
  have f46 := f46'
  clear f46'
  clear f47
  have f47 := f47'
  clear f47'
  clear f48
  have f48 := f48'
  clear f48'
  clear f49
  have f49 := f49'
  clear f49'
  have tl : FTl w_101 q_97 := ⟨by rw [hp_101, up_k _ (by decide), up_k _ (by decide)]; exact z_19 84 (by decide), by rw [hp_101, up_s]⟩
  clear M101 hp_101 z_19
  refine pX12_61 107 hO hF.2.2.2.2 dX12_init_104 rfl (by first | assumption | omega | (simp (disch := first | decide | assumption | omega) only [up_k, up_s, up_a, up_i, flA_k, flA_a, newO_o, newA_o]; first | assumption | omega)) ?_
  obtain ⟨W20, e_W20⟩ : ∃ W, W = up w_101 50 f 0 q_97 := ⟨_, rfl⟩
  have M_ : NW f k19 k19 w_101 W20 := by rw [e_W20]; exact (NW.refl N0.2.1).p (Or.inl rfl) (by omega) (by decide)
  rw [← e_W20]
  have U_ := M_.u hc0
  have X_ := M_.1
  have d_9' := d_9.fr U_ X_ (fun b' k _ _ => SX_n (by omega))
  have d_20' := d_20.fr U_ X_ (fun b' k _ _ => SX_n (by omega))
  have d_31' := d_31.fr U_ X_ (fun b' k _ _ => SX_n (by omega))
  have a_7' := a_7.fr (by decide) U_ X_ (fun k => SX_n (by omega))
  have ft' := ft.fr U_ X_ (fun b' k _ _ => SX_n (by omega))
  have fn' := fn.fr U_ X_ (fun b' k _ _ => SX_n (by omega))
  have fl' := fl.fr U_ X_ (fun b' k _ _ => SX_n (by omega))
  have vt' := vt.fr2 U_ X_ (fun b' k _ _ => SX_n (by omega))
  have a_15' := a_15.fr (by decide) U_ X_ (fun k => SX_n (by omega))
  have fm' := fm.fr U_ X_ (fun b' k _ _ => SX_n (by omega))
  have o_19' := o_19.fr (by decide) U_ X_
  have tl' := tl.fr o_19 U_ (fun k => SX_n (by omega))
  clear tl o_19 fm a_15 vt fl fn ft a_7 d_31 d_20 d_9
  have d_9 := d_9'
  clear d_9'
  have d_20 := d_20'
  clear d_20'
  have d_31 := d_31'
  clear d_31'
  have a_7 := a_7'
  clear a_7'
  have ft := ft'
  clear ft'
  have fn := fn'
  clear fn'
  have fl := fl'
  clear fl'
  have vt := vt'
  clear vt'
  have a_15 := a_15'
  clear a_15'
  have fm := fm'
  clear fm'
  have o_19 := o_19'
  clear o_19'
  have tl := tl'
  clear tl'
  have ht_ : W20 0 f 0 = 13 := M_.tt ht0 (by decide)
  have hc_ : k19 f = 1 := (X_ f (by omega)).trans hc0
  have f87' : W20 87 f 0 = 0 := by rw [e_W20, up_k _ (by decide)]; exact f87
  have f88' : W20 88 f 0 = 0 := by rw [e_W20, up_k _ (by decide)]; exact f88
  have f89' : W20 89 f 0 = 0 := by rw [e_W20, up_k _ (by decide)]; exact f89
  have f90' : W20 90 f 0 = 0 := by rw [e_W20, up_k _ (by decide)]; exact f90
  have f41' : W20 41 f 0 = q_5 := by rw [e_W20, up_k _ (by decide)]; exact f41
  have f42' : W20 42 f 0 = q_16 := by rw [e_W20, up_k _ (by decide)]; exact f42
  have f43' : W20 43 f 0 = q_27 := by rw [e_W20, up_k _ (by decide)]; exact f43
  have f44' : W20 44 f 0 = q_39 := by rw [e_W20, up_k _ (by decide)]; exact f44
  have f45' : W20 45 f 0 = q_45 := by rw [e_W20, up_k _ (by decide)]; exact f45
  have f46' : W20 46 f 0 = q_56 := by rw [e_W20, up_k _ (by decide)]; exact f46
  have f47' : W20 47 f 0 = q_67 := by rw [e_W20, up_k _ (by decide)]; exact f47
  have f48' : W20 48 f 0 = q_79 := by rw [e_W20, up_k _ (by decide)]; exact f48
  have f49' : W20 49 f 0 = q_86 := by rw [e_W20, up_k _ (by decide)]; exact f49
  have N_ : NW f c k19 w W20 := (N0).trans M_ (Or.inl rfl)
  clear N0 ht0 hc0
  have N0 := N_
  clear N_ U_ X_
  have ht0 := ht_
  have hc0 := hc_
  clear ht_ hc_
  clear f87
  have f87 := f87'
  clear f87'
  clear f88
  have f88 := f88'
  clear f88'
  clear f89
  have f89 := f89'
  clear f89'
  clear f90
  have f90 := f90'
  clear f90'
  clear f41
  have f41 := f41'
  clear f41'
  clear f42
  have f42 := f42'
  clear f42'
  clear f43
  have f43 := f43'
  clear f43'
  clear f44
  have f44 := f44'
  clear f44'
  clear f45
  have f45 := f45'
  clear f45'
  clear f46
  have f46 := f46'
  clear f46'
  clear f47
  have f47 := f47'
  clear f47'
  clear f48
  have f48 := f48'
  clear f48'
  clear f49
  have f49 := f49'
  clear f49'
  have f50 : W20 50 f 0 = q_97 := by rw [e_W20]; exact up_s _ _ _ _ _
  clear M_ e_W20
  refine X_aload_n 108 hO dX12_init_107 rfl rfl ?_
  refine X_iconst 109 hO dX12_init_108 rfl ?_
  refine pX12_65 112 hO dX12_init_109 rfl (by first | assumption | omega | (simp (disch := first | decide | assumption | omega) only [up_k, up_s, up_a, up_i, flA_k, flA_a, newO_o, newA_o]; first | assumption | omega)) (by omega) ?_
  obtain ⟨W21, e_W21⟩ : ∃ W, W = up W20 86 f 0 (-1) := ⟨_, rfl⟩
  have M_ : NW f k19 k19 W20 W21 := by rw [e_W21]; exact (NW.refl N0.2.1).p (Or.inl rfl) (by omega) (by decide)
  rw [← e_W21]
  have U_ := M_.u hc0
  have X_ := M_.1
  have d_9' := d_9.fr U_ X_ (fun b' k _ _ => SX_n (by omega))
  have d_20' := d_20.fr U_ X_ (fun b' k _ _ => SX_n (by omega))
  have d_31' := d_31.fr U_ X_ (fun b' k _ _ => SX_n (by omega))
  have a_7' := a_7.fr (by decide) U_ X_ (fun k => SX_n (by omega))
  have ft' := ft.fr U_ X_ (fun b' k _ _ => SX_n (by omega))
  have fn' := fn.fr U_ X_ (fun b' k _ _ => SX_n (by omega))
  have fl' := fl.fr U_ X_ (fun b' k _ _ => SX_n (by omega))
  have vt' := vt.fr2 U_ X_ (fun b' k _ _ => SX_n (by omega))
  have a_15' := a_15.fr (by decide) U_ X_ (fun k => SX_n (by omega))
  have fm' := fm.fr U_ X_ (fun b' k _ _ => SX_n (by omega))
  have o_19' := o_19.fr (by decide) U_ X_
  have tl' := tl.fr o_19 U_ (fun k => SX_n (by omega))
  clear tl o_19 fm a_15 vt fl fn ft a_7 d_31 d_20 d_9
  have d_9 := d_9'
  clear d_9'
  have d_20 := d_20'
  clear d_20'
  have d_31 := d_31'
  clear d_31'
  have a_7 := a_7'
  clear a_7'
  have ft := ft'
  clear ft'
  have fn := fn'
  clear fn'
  have fl := fl'
  clear fl'
  have vt := vt'
  clear vt'
  have a_15 := a_15'
  clear a_15'
  have fm := fm'
  clear fm'
  have o_19 := o_19'
  clear o_19'
  have tl := tl'
  clear tl'
  have ht_ : W21 0 f 0 = 13 := M_.tt ht0 (by decide)
  have hc_ : k19 f = 1 := (X_ f (by omega)).trans hc0
  have f87' : W21 87 f 0 = 0 := by rw [e_W21, up_k _ (by decide)]; exact f87
  have f88' : W21 88 f 0 = 0 := by rw [e_W21, up_k _ (by decide)]; exact f88
  have f89' : W21 89 f 0 = 0 := by rw [e_W21, up_k _ (by decide)]; exact f89
  have f90' : W21 90 f 0 = 0 := by rw [e_W21, up_k _ (by decide)]; exact f90
  have f41' : W21 41 f 0 = q_5 := by rw [e_W21, up_k _ (by decide)]; exact f41
  have f42' : W21 42 f 0 = q_16 := by rw [e_W21, up_k _ (by decide)]; exact f42
  have f43' : W21 43 f 0 = q_27 := by rw [e_W21, up_k _ (by decide)]; exact f43
  have f44' : W21 44 f 0 = q_39 := by rw [e_W21, up_k _ (by decide)]; exact f44
  have f45' : W21 45 f 0 = q_45 := by rw [e_W21, up_k _ (by decide)]; exact f45
  have f46' : W21 46 f 0 = q_56 := by rw [e_W21, up_k _ (by decide)]; exact f46
  have f47' : W21 47 f 0 = q_67 := by rw [e_W21, up_k _ (by decide)]; exact f47
  have f48' : W21 48 f 0 = q_79 := by rw [e_W21, up_k _ (by decide)]; exact f48
  have f49' : W21 49 f 0 = q_86 := by rw [e_W21, up_k _ (by decide)]; exact f49
  have f50' : W21 50 f 0 = q_97 := by rw [e_W21, up_k _ (by decide)]; exact f50
  have N_ : NW f c k19 w W21 := (N0).trans M_ (Or.inl rfl)
  clear N0 ht0 hc0
  have N0 := N_
  clear N_ U_ X_
  have ht0 := ht_
  have hc0 := hc_
  clear ht_ hc_
  clear f87
  have f87 := f87'
  clear f87'
  clear f88
  have f88 := f88'
  clear f88'
  clear f89
  have f89 := f89'
  clear f89'
  clear f90
  have f90 := f90'
  clear f90'
  clear f41
  have f41 := f41'
  clear f41'
  clear f42
  have f42 := f42'
  clear f42'
  clear f43
  have f43 := f43'
  clear f43'
  clear f44
  have f44 := f44'
  clear f44'
  clear f45
  have f45 := f45'
  clear f45'
  clear f46
  have f46 := f46'
  clear f46'
  clear f47
  have f47 := f47'
  clear f47'
  clear f48
  have f48 := f48'
  clear f48'
  clear f49
  have f49 := f49'
  clear f49'
  clear f50
  have f50 := f50'
  clear f50'
  have f86 : W21 86 f 0 = (-1) := by rw [e_W21]; exact up_s _ _ _ _ _
  clear M_ e_W21
  refine X_iconst 113 hO dX12_init_112 rfl ?_
  refine X_istore_n 114 hO dX12_init_113 rfl rfl ?_
  have LP114 : ∀ (nn : Nat) (i : Int) (W : Mm), (4 - i).toNat < nn → (0 ≤ i ∧ i ≤ 4) → (FIi f c w i W) → X κ (4 * (4 - i).toNat) (52 * (4 - i).toNat) (W) 114 [some (rv f), some (.int (I i))] [] := by
    intro nn
    induction nn with
    | zero => intro i W hm; exact absurd hm (Nat.not_lt_zero _)
    | succ nn ih =>
      intro i W hm hi hT
      have t13 : W 0 f 0 = 13 := by obtain ⟨_, _, _, z, _⟩ := id hT; exact z.1.1
      refine X_iload_n 115 hO dX12_init_114 rfl rfl ?_
      refine X_iconst 116 hO dX12_init_115 rfl ?_
      refine X_icmp_ge 119 138 hO dX12_init_116 rfl rfl (by omega) (by omega) (fun hc_116 => ?_) (fun hc_116 => ?_)
      ·
        have e8 : i = 4 := by omega
        subst e8
        exact X_vret hO hF rfl dX12_init_138 ⟨rfl, hT⟩
      ·
        refine X_aload_n 120 hO dX12_init_119 rfl rfl ?_
        refine gX12_49 123 hO dX12_init_120 rfl (by first | assumption | omega | (simp (disch := first | decide | assumption | omega) only [up_k, up_s, up_a, up_i, flA_k, flA_a, newO_o, newA_o]; first | assumption | omega)) ?_
        try simp (disch := first | decide | assumption | omega) only [up_k, up_s, up_a, up_i, flA_k, flA_a, newO_o, newA_o]
        refine X_iload_n 124 hO dX12_init_123 rfl rfl ?_
        refine n_4 127 hO w_489 (by omega) (by omega) dX12_init_124 rfl (fun q_124 hq_124 hf_124 => ?_)
        have f0 : w 0 f 0 ≠ 0 := by omega
        refine X_dup 128 hO dX12_init_127 rfl (by first | rfl | exact rv_cat _) ?_
        refine X_kNv 131 hO hD nX12_53 [] rfl dX12_init_128 rfl (by assumption) (kX3_init _ _ _ hq_124 newO_t) (by decide) (by simp [rv_cat, int_cat]) (by first | decide | exact Nat.zero_le _ | omega) (by first | decide | exact Nat.zero_le _ | omega) (fun w_128 hp_128 => ?_) (fun E w_ hx_ => hx_.elim)
        obtain ⟨g1, g2, g3, hnx⟩ := FIi.st hT (by omega) f0 hq_124 hf_124 hp_128
        refine X_aast (t := 24) (tv := 4) (C := "Foldback$Macro") 132 hO rfl (by decide) (by decide) rfl (Or.inr rfl) dX12_init_131 rfl (by first | assumption | omega | (simp (disch := first | decide | assumption | omega) only [up_k, up_s, up_a, up_i, flA_k, flA_a, newO_o, newA_o]; first | assumption | omega)) (by rw [g2]; omega) (by first | assumption | omega | (simp (disch := first | decide | assumption | omega) only [up_k, up_s, up_a, up_i, flA_k, flA_a, newO_o, newA_o]; first | assumption | omega)) ?_
        refine X_iinc 135 hO dX12_init_132 rfl rfl ?_
        refine X_goto hO dX12_init_135 (tgt := 114) rfl ?_
        refine X_mono (by omega) (by omega) (ih (i + 1) _ (by omega) (by omega) hnx)
  have hI0 : INC k19 W21 f nd0 := ⟨⟨ht0, hc0⟩, ⟨by rw [f41]; exact d_9, by rw [f42]; exact d_20, by rw [f43]; exact d_31⟩, by rw [f44]; exact a_7, ⟨by rw [f45]; exact ft, fn⟩, by rw [f46]; exact fl, by rw [f47]; exact vt, by rw [f49]; exact fm, by rw [f50]; exact ⟨o_19, tl⟩, f86, f87, f88, f89, f90⟩
  have hT0 : FIi f c w 0 W21 := ⟨k19, nd0, N0, hI0, ⟨by rw [f48]; exact a_15.1, fun m m0 m1 => by omega⟩, by rw [f48]; exact u_15⟩
  exact X_mono (by decide) (by decide) (LP114 _ 0 _ (Nat.lt_succ_self _) (by omega) hT0)
