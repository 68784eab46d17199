/-! the class's small parts are made: a list, its first node, a trace, a desk -/
theorem pJxc12de_7 {κ : KC} {P S : Nat} {w : Mm} {pc : Nat} {ls : List (Option Value)} {st : List Value} {cc : ByteArray} (np : Nat) (hO : Ok κ RJxc12de cc) {z v : Int} (d : decode cc pc = .ok (.putfield 7, 3)) (hn : np = pc + 3) (ht : w 0 z 0 = 15) (hv : IR v) (kk : X κ P S (up w 92 z 0 v) np ls st) : X κ P S w pc ls (.int (I v) :: rv z :: st) := X_putG np hO (t := 15) (k := 0) (N := 3) (C := RJx4a65c) (T := TJx4a65c) (x := (92, false)) (by decide) (by decide) rfl rfl (by decide) inJx4a65c tyJx4a65c_ok nmJx4a65c w_274 (Or.inl rfl) (Or.inl rfl) (by decide) (fun _ => hv) rfl rfl d hn ht kk
theorem dJxa1e45_init_da8c8_0 : decode cJxa1e45_init_da8c8 0 = .ok (.aload_n 0, 1) := by decide +kernel
theorem dJxa1e45_init_da8c8_1 : decode cJxa1e45_init_da8c8 1 = .ok (.invokespecial 1, 3) := by decide +kernel
theorem dJxa1e45_init_da8c8_4 : decode cJxa1e45_init_da8c8 4 = .ok (.return_, 1) := by decide +kernel
set_option maxRecDepth 4000 in
theorem kJxa1e45_init_da8c8 (γ : LC) (w : Mm) (l : Int) (hq : 0 < l) : KV γ 1 mJxa1e45_init_da8c8 [rv l] w (0) (0) (fun w' => w' = w) NX := by
  refine MX_of rfl rfl (by simp [rv_cat, int_cat]) rfl ?_
  rintro κ hO hF rfl
  have hD := hF.dp
  show X κ (0) (0) w 0 [some (rv l)] []
  refine X_aload_n 1 hO dJxa1e45_init_da8c8_0 rfl rfl ?_
  refine X_objInit 4 hO w_269 dJxa1e45_init_da8c8_1 rfl hD (by decide) (by assumption) (by simp [rv_cat, int_cat]) ?_
  exact X_vret hO hF rfl dJxa1e45_init_da8c8_4 ⟨rfl, rfl⟩
theorem dJxc12de_init_da8c8_0 : decode cJxc12de_init_da8c8 0 = .ok (.aload_n 0, 1) := by decide +kernel
theorem dJxc12de_init_da8c8_1 : decode cJxc12de_init_da8c8 1 = .ok (.invokespecial 1, 3) := by decide +kernel
theorem dJxc12de_init_da8c8_4 : decode cJxc12de_init_da8c8 4 = .ok (.aload_n 0, 1) := by decide +kernel
theorem dJxc12de_init_da8c8_5 : decode cJxc12de_init_da8c8 5 = .ok (.iconst 0, 1) := by decide +kernel
theorem dJxc12de_init_da8c8_6 : decode cJxc12de_init_da8c8 6 = .ok (.putfield 7, 3) := by decide +kernel
theorem dJxc12de_init_da8c8_9 : decode cJxc12de_init_da8c8 9 = .ok (.return_, 1) := by decide +kernel
set_option maxRecDepth 4000 in
theorem kJxc12de_init_da8c8 (γ : LC) (w : Mm) (l : Int) (hq : 0 < l) (ht : w 0 l 0 = 15) : KV γ 2 mJxc12de_init_da8c8 [rv l] w (0) (0) (fun w' => w' = up w 92 l 0 0) NX := by
  refine MX_of rfl rfl (by simp [rv_cat, int_cat]) rfl ?_
  rintro κ hO hF rfl
  have hD := hF.dp
  show X κ (0) (0) w 0 [some (rv l)] []
  refine X_aload_n 1 hO dJxc12de_init_da8c8_0 rfl rfl ?_
  refine X_kIv 4 hO hD lJxc12de_1 [] rfl dJxc12de_init_da8c8_1 rfl (by assumption) (kJxa1e45_init_da8c8 _ _ _ (by assumption)) (by decide) (by simp [rv_cat, int_cat]) (by first | decide | exact Nat.zero_le _ | omega) (by first | decide | exact Nat.zero_le _ | omega) (fun w_1 hp_1 => ?_) (fun E w_ hx_ => hx_.elim)
  subst w_1
  refine X_aload_n 5 hO dJxc12de_init_da8c8_4 rfl rfl ?_
  refine X_iconst 6 hO dJxc12de_init_da8c8_5 rfl ?_
  refine pJxc12de_7 9 hO dJxc12de_init_da8c8_6 rfl ht (by omega) ?_
  exact X_vret hO hF rfl dJxc12de_init_da8c8_9 ⟨rfl, rfl⟩
theorem dJx4a65c_init_da8c8_0 : decode cJx4a65c_init_da8c8 0 = .ok (.aload_n 0, 1) := by decide +kernel
theorem dJx4a65c_init_da8c8_1 : decode cJx4a65c_init_da8c8 1 = .ok (.invokespecial 1, 3) := by decide +kernel
theorem dJx4a65c_init_da8c8_4 : decode cJx4a65c_init_da8c8 4 = .ok (.aload_n 0, 1) := by decide +kernel
theorem dJx4a65c_init_da8c8_5 : decode cJx4a65c_init_da8c8 5 = .ok (.getstatic 39, 3) := by decide +kernel
theorem dJx4a65c_init_da8c8_8 : decode cJx4a65c_init_da8c8 8 = .ok (.putfield 9, 3) := by decide +kernel
theorem dJx4a65c_init_da8c8_11 : decode cJx4a65c_init_da8c8 11 = .ok (.return_, 1) := by decide +kernel
set_option maxRecDepth 4000 in
theorem kJx4a65c_init_da8c8 (γ : LC) (w : Mm) (l : Int) (hq : 0 < l) (ht : w 0 l 0 = 15) : KV γ 3 mJx4a65c_init_da8c8 [rv l] w (0) (0) (fun w' => w' = up (up w 92 l 0 0) 51 l 0 (eN (γ.2.1.2 9))) NX := by
  refine MX_of rfl rfl (by simp [rv_cat, int_cat]) rfl ?_
  rintro κ hO hF rfl
  have hD := hF.dp
  show X κ (0) (0) w 0 [some (rv l)] []
  refine X_aload_n 1 hO dJx4a65c_init_da8c8_0 rfl rfl ?_
  refine X_kIv 4 hO hD lJx4a65c_1 [] rfl dJx4a65c_init_da8c8_1 rfl (by assumption) (kJxc12de_init_da8c8 _ _ _ (by assumption) (by assumption)) (by decide) (by simp [rv_cat, int_cat]) (by first | decide | exact Nat.zero_le _ | omega) (by first | decide | exact Nat.zero_le _ | omega) (fun w_1 hp_1 => ?_) (fun E w_ hx_ => hx_.elim)
  subst w_1
  refine X_aload_n 5 hO dJx4a65c_init_da8c8_4 rfl rfl ?_
  refine X_gsE 8 hO dJx4a65c_init_da8c8_5 rfl ?_
  refine pJx4a65c_9 11 hO dJx4a65c_init_da8c8_8 rfl (by first | assumption | omega | (simp (disch := first | decide | assumption | omega) only [up_k, up_s, up_a, up_i, flA_k, flA_a, newO_o, newA_o]; first | assumption | omega)) ?_
  exact X_vret hO hF rfl dJx4a65c_init_da8c8_11 ⟨rfl, rfl⟩
set_option maxRecDepth 4000 in
theorem kJx4a65c_grow_92f84_E (γ : LC) (w : Mm) (l m : Int) (l0 : w 0 l 0 = 15) (l1 : w 51 l 0 = eN (γ.2.1.2 9)) (hm : m = 1) : KR γ 5 mJx4a65c_grow_92f84 [rv l, .int (I m)] w (1) (10) (fun r w' => (0 < r ∧ w 0 r 0 = 0) ∧ w' = up (newA w r 27 10) 51 l 0 r) NX := by
  refine MX_of rfl rfl (by simp [rv_cat, int_cat]) rfl ?_
  rintro κ hO hF rfl
  have hD := hF.dp
  show X κ (1) (10) w 0 [some (rv l), some (.int (I m)), none, none] []
  refine X_aload_n 1 hO dJx4a65c_grow_92f84_0 rfl rfl ?_
  refine gJx4a65c_9 4 hO dJx4a65c_grow_92f84_1 rfl (by first | assumption | omega | (simp (disch := first | decide | assumption | omega) only [up_k, up_s, up_a, up_i, flA_k, flA_a, newO_o, newA_o]; first | assumption | omega)) ?_
  try simp (disch := first | decide | assumption | omega) only [up_k, up_s, up_a, up_i, flA_k, flA_a, newO_o, newA_o]
  rw [l1]
  refine X_alenE 5 hO dJx4a65c_grow_92f84_4 rfl ?_
  refine X_istore_n 6 hO dJx4a65c_grow_92f84_5 rfl rfl ?_
  refine X_iload_n 7 hO dJx4a65c_grow_92f84_6 rfl rfl ?_
  refine X_if_gt 10 20 hO dJx4a65c_grow_92f84_7 rfl rfl (by omega) (fun hc_7 => ?_) (fun hc_7 => ?_)
  ·
    exfalso; omega
  ·
    refine X_aload_n 11 hO dJx4a65c_grow_92f84_10 rfl rfl ?_
    refine gJx4a65c_9 14 hO dJx4a65c_grow_92f84_11 rfl (by first | assumption | omega | (simp (disch := first | decide | assumption | omega) only [up_k, up_s, up_a, up_i, flA_k, flA_a, newO_o, newA_o]; first | assumption | omega)) ?_
    try simp (disch := first | decide | assumption | omega) only [up_k, up_s, up_a, up_i, flA_k, flA_a, newO_o, newA_o]
    rw [l1]
    refine X_gsE 17 hO dJx4a65c_grow_92f84_14 rfl ?_
    refine X_acmp_eqS 45 hO dJx4a65c_grow_92f84_17 rfl ?_
    refine X_aload_n 46 hO dJx4a65c_grow_92f84_45 rfl rfl ?_
    refine X_bipush 48 hO dJx4a65c_grow_92f84_46 rfl (by decide) ?_
    refine X_iload_n 49 hO dJx4a65c_grow_92f84_48 rfl rfl ?_
    refine X_mmax 52 hO w_398 dJx4a65c_grow_92f84_49 rfl (by omega) (by omega) hD (by decide) (by simp [rv_cat, int_cat]) ?_
    rw [if_neg (by omega)]
    refine X_newq (t := 27) 55 hO rfl (by decide) w_399 (by decide) (by omega) (by omega) (by omega) dJx4a65c_grow_92f84_52 rfl (fun q_52 hq_52 hf_52 => ?_)
    have hlq : l ≠ q_52 := fun e => by rw [e] at l0; omega
    have t15 : newA w q_52 27 10 0 l 0 = 15 := by rw [newA_o hlq]; exact l0
    refine X_dup_x1 56 hO dJx4a65c_grow_92f84_55 rfl (by first | rfl | exact rv_cat _) (by first | rfl | exact rv_cat _) ?_
    refine pJx4a65c_9 59 hO dJx4a65c_grow_92f84_56 rfl (by first | assumption | omega | (simp (disch := first | decide | assumption | omega) only [up_k, up_s, up_a, up_i, flA_k, flA_a, newO_o, newA_o]; first | assumption | omega)) ?_
    exact X_aret hO hF rfl (by first | exact Or.inl ⟨_, rfl⟩ | exact Or.inr ⟨_, rfl⟩) dJx4a65c_grow_92f84_59 ⟨_, rfl, ⟨⟨hq_52, hf_52⟩, rfl⟩⟩
set_option maxRecDepth 4000 in
theorem kJx4a65c_grow_d5877_E (γ : LC) (w : Mm) (l : Int) (l0 : w 0 l 0 = 15) (l1 : w 51 l 0 = eN (γ.2.1.2 9)) (l2 : w 93 l 0 = 0) : KR γ 6 mJx4a65c_grow_d5877 [rv l] w (1) (10) (fun r w' => (0 < r ∧ w 0 r 0 = 0) ∧ w' = up (newA w r 27 10) 51 l 0 r) NX := by
  refine MX_of rfl rfl (by simp [rv_cat, int_cat]) rfl ?_
  rintro κ hO hF rfl
  have hD := hF.dp
  show X κ (1) (10) w 0 [some (rv l)] []
  refine X_aload_n 1 hO dJx4a65c_grow_d5877_0 rfl rfl ?_
  refine X_aload_n 2 hO dJx4a65c_grow_d5877_1 rfl rfl ?_
  refine gJx4a65c_48 5 hO dJx4a65c_grow_d5877_2 rfl (by first | assumption | omega | (simp (disch := first | decide | assumption | omega) only [up_k, up_s, up_a, up_i, flA_k, flA_a, newO_o, newA_o]; first | assumption | omega)) (fun hi_2 => ?_)
  try simp (disch := first | decide | assumption | omega) only [up_k, up_s, up_a, up_i, flA_k, flA_a, newO_o, newA_o] at hi_2 ⊢
  refine X_iconst 6 hO dJx4a65c_grow_d5877_5 rfl ?_
  refine X_iadd 7 hO dJx4a65c_grow_d5877_6 rfl ?_
  refine X_kVr (t := 15) 10 hO hD lJx4a65c_69 rfl (by decide) [_] rfl dJx4a65c_grow_d5877_7 rfl (by first | assumption | omega | (simp (disch := first | decide | assumption | omega) only [up_k, up_s, up_a, up_i, flA_k, flA_a, newO_o, newA_o]; first | assumption | omega)) (kJx4a65c_grow_92f84_E _ _ _ _ l0 l1 (by omega)) (by decide) (by simp [rv_cat, int_cat]) (by first | decide | exact Nat.zero_le _ | omega) (by first | decide | exact Nat.zero_le _ | omega) (fun r_7 w_7 hp_7 => ?_) (fun E w_ hx_ => hx_.elim)
  exact X_aret hO hF rfl (by first | exact Or.inl ⟨_, rfl⟩ | exact Or.inr ⟨_, rfl⟩) dJx4a65c_grow_d5877_10 ⟨_, rfl, hp_7⟩
set_option maxRecDepth 4000 in
theorem kJx4a65c_add_72be8_E (γ : LC) (w : Mm) (l x : Int) (l0 : w 0 l 0 = 15) (l1 : w 51 l 0 = eN (γ.2.1.2 9)) (l2 : w 93 l 0 = 0) (hx : w 0 x 0 = 5) : KV γ 7 mJx4a65c_add_72be8 [rv l, rv x, rv (eN (γ.2.1.2 9)), .int (I 0)] w (1) (10) (fun w' => ∃ q, (0 < q ∧ w 0 q 0 = 0) ∧ w' = up (up (up (newA w q 27 10) 51 l 0 q) 3 q 0 x) 93 l 0 (0 + 1)) NX := by
  refine MX_of rfl rfl (by simp [rv_cat, int_cat]) rfl ?_
  rintro κ hO hF rfl
  have hD := hF.dp
  show X κ (1) (10) w 0 [some (rv l), some (rv x), some (rv (eN ((kg κ).2 9))), some (.int (I 0))] []
  refine X_iload_n 1 hO dJx4a65c_add_72be8_0 rfl rfl ?_
  refine X_aload_n 2 hO dJx4a65c_add_72be8_1 rfl rfl ?_
  refine X_alenE 3 hO dJx4a65c_add_72be8_2 rfl ?_
  refine X_icmp_ne 6 11 hO dJx4a65c_add_72be8_3 rfl rfl (by omega) (by omega) (fun hc_3 => ?_) (fun hc_3 => ?_)
  ·
    exact absurd rfl hc_3
  ·
    refine X_aload_n 7 hO dJx4a65c_add_72be8_6 rfl rfl ?_
    refine X_kVr (t := 15) 10 hO hD lJx4a65c_129 rfl (by decide) [] rfl dJx4a65c_add_72be8_7 rfl (by first | assumption | omega | (simp (disch := first | decide | assumption | omega) only [up_k, up_s, up_a, up_i, flA_k, flA_a, newO_o, newA_o]; first | assumption | omega)) (kJx4a65c_grow_d5877_E _ _ _ l0 l1 l2) (by decide) (by simp [rv_cat, int_cat]) (by first | decide | exact Nat.zero_le _ | omega) (by first | decide | exact Nat.zero_le _ | omega) (fun r_7 w_7 hp_7 => ?_) (fun E w_ hx_ => hx_.elim)
    obtain ⟨⟨c1, c2⟩, c3⟩ := hp_7
    have hlr : l ≠ r_7 := fun e => by rw [e] at l0; omega
    have hxr : x ≠ r_7 := fun e => by rw [e] at hx; omega
    have c5 : w_7 0 l 0 = 15 := by rw [c3, up_k _ (by decide), newA_o hlr]; exact l0
    have c6 : w_7 0 x 0 = 5 := by rw [c3, up_k _ (by decide), newA_o hxr]; exact hx
    have c7 : w_7 0 r_7 0 = 27 := by rw [c3, up_k _ (by decide), newA_t]
    have c8 : w_7 2 r_7 0 = 10 := by rw [c3, up_k _ (by decide), newA_n]
    refine X_astore_n 11 hO dJx4a65c_add_72be8_10 rfl rfl ?_
    refine X_aload_n 12 hO dJx4a65c_add_72be8_11 rfl rfl ?_
    refine X_iload_n 13 hO dJx4a65c_add_72be8_12 rfl rfl ?_
    refine X_aload_n 14 hO dJx4a65c_add_72be8_13 rfl rfl ?_
    refine X_aast (t := 27) (tv := 5) (C := "java/lang/Object") 15 hO rfl (by decide) (by decide) rfl (Or.inl (by decide)) dJx4a65c_add_72be8_14 rfl (by first | assumption | omega | (simp (disch := first | decide | assumption | omega) only [up_k, up_s, up_a, up_i, flA_k, flA_a, newO_o, newA_o]; first | assumption | omega)) (by first | assumption | omega | (simp (disch := first | decide | assumption | omega) only [up_k, up_s, up_a, up_i, flA_k, flA_a, newO_o, newA_o]; first | assumption | omega)) (by first | assumption | omega | (simp (disch := first | decide | assumption | omega) only [up_k, up_s, up_a, up_i, flA_k, flA_a, newO_o, newA_o]; first | assumption | omega)) ?_
    refine X_aload_n 16 hO dJx4a65c_add_72be8_15 rfl rfl ?_
    refine X_iload_n 17 hO dJx4a65c_add_72be8_16 rfl rfl ?_
    refine X_iconst 18 hO dJx4a65c_add_72be8_17 rfl ?_
    refine X_iadd 19 hO dJx4a65c_add_72be8_18 rfl ?_
    refine pJx4a65c_48 22 hO dJx4a65c_add_72be8_19 rfl (by first | assumption | omega | (simp (disch := first | decide | assumption | omega) only [up_k, up_s, up_a, up_i, flA_k, flA_a, newO_o, newA_o]; first | assumption | omega)) (by omega) ?_
    exact X_vret hO hF rfl dJx4a65c_add_72be8_22 ⟨rfl, ⟨r_7, ⟨c1, c2⟩, by rw [c3]⟩⟩
set_option maxRecDepth 4000 in
theorem kJx4a65c_add_9ea2d_E (γ : LC) (w : Mm) (l x : Int) (l0 : w 0 l 0 = 15) (l1 : w 51 l 0 = eN (γ.2.1.2 9)) (l2 : w 93 l 0 = 0) (l3 : w 92 l 0 = 0) (hx : w 0 x 0 = 5) : KI γ 8 mJx4a65c_add_9ea2d [rv l, rv x] w (1) (10) (fun r w' => r = 1 ∧ ∃ q, (0 < q ∧ w 0 q 0 = 0) ∧ w' = up (up (up (newA (up w 92 l 0 (0 + 1)) q 27 10) 51 l 0 q) 3 q 0 x) 93 l 0 (0 + 1)) NX := by
  refine MX_of rfl rfl (by simp [rv_cat, int_cat]) rfl ?_
  rintro κ hO hF rfl
  have hD := hF.dp
  show X κ (1) (10) w 0 [some (rv l), some (rv x)] []
  refine X_aload_n 1 hO dJx4a65c_add_9ea2d_0 rfl rfl ?_
  refine X_dup 2 hO dJx4a65c_add_9ea2d_1 rfl (by first | rfl | exact rv_cat _) ?_
  refine gJx4a65c_63 5 hO dJx4a65c_add_9ea2d_2 rfl (by first | assumption | omega | (simp (disch := first | decide | assumption | omega) only [up_k, up_s, up_a, up_i, flA_k, flA_a, newO_o, newA_o]; first | assumption | omega)) (fun hi_2 => ?_)
  try simp (disch := first | decide | assumption | omega) only [up_k, up_s, up_a, up_i, flA_k, flA_a, newO_o, newA_o] at hi_2 ⊢
  rw [l3]
  refine X_iconst 6 hO dJx4a65c_add_9ea2d_5 rfl ?_
  refine X_iadd 7 hO dJx4a65c_add_9ea2d_6 rfl ?_
  refine pJx4a65c_63 10 hO dJx4a65c_add_9ea2d_7 rfl (by first | assumption | omega | (simp (disch := first | decide | assumption | omega) only [up_k, up_s, up_a, up_i, flA_k, flA_a, newO_o, newA_o]; first | assumption | omega)) (by omega) ?_
  refine X_aload_n 11 hO dJx4a65c_add_9ea2d_10 rfl rfl ?_
  refine X_aload_n 12 hO dJx4a65c_add_9ea2d_11 rfl rfl ?_
  refine X_aload_n 13 hO dJx4a65c_add_9ea2d_12 rfl rfl ?_
  refine gJx4a65c_9 16 hO dJx4a65c_add_9ea2d_13 rfl (by first | assumption | omega | (simp (disch := first | decide | assumption | omega) only [up_k, up_s, up_a, up_i, flA_k, flA_a, newO_o, newA_o]; first | assumption | omega)) ?_
  try simp (disch := first | decide | assumption | omega) only [up_k, up_s, up_a, up_i, flA_k, flA_a, newO_o, newA_o]
  refine X_aload_n 17 hO dJx4a65c_add_9ea2d_16 rfl rfl ?_
  refine gJx4a65c_48 20 hO dJx4a65c_add_9ea2d_17 rfl (by first | assumption | omega | (simp (disch := first | decide | assumption | omega) only [up_k, up_s, up_a, up_i, flA_k, flA_a, newO_o, newA_o]; first | assumption | omega)) (fun hi_17 => ?_)
  try simp (disch := first | decide | assumption | omega) only [up_k, up_s, up_a, up_i, flA_k, flA_a, newO_o, newA_o] at hi_17 ⊢
  rw [l1, l2]
  refine X_kVv (t := 15) 23 hO hD lJx4a65c_131 rfl (by decide) [_, _, _] rfl dJx4a65c_add_9ea2d_20 rfl (by first | assumption | omega | (simp (disch := first | decide | assumption | omega) only [up_k, up_s, up_a, up_i, flA_k, flA_a, newO_o, newA_o]; first | assumption | omega)) (kJx4a65c_add_72be8_E _ _ _ _ ((up_k _ (by decide) _ _ _ _ _).trans l0) ((up_k _ (by decide) _ _ _ _ _).trans l1) ((up_k _ (by decide) _ _ _ _ _).trans l2) ((up_k _ (by decide) _ _ _ _ _).trans hx)) (by decide) (by simp [rv_cat, int_cat]) (by first | decide | exact Nat.zero_le _ | omega) (by first | decide | exact Nat.zero_le _ | omega) (fun w_20 hp_20 => ?_) (fun E w_ hx_ => hx_.elim)
  refine X_iconst 24 hO dJx4a65c_add_9ea2d_23 rfl ?_
  exact X_iret hO hF rfl (by first | exact Or.inl rfl | exact Or.inr ⟨rfl, bi_01 _⟩ | exact Or.inr ⟨rfl, by omega⟩) dJx4a65c_add_9ea2d_24 ⟨_, rfl, (by omega), ⟨rfl, hp_20⟩⟩
theorem dX8_init_0 : decode cX8_init 0 = .ok (.aload_n 0, 1) := by decide +kernel
theorem dX8_init_1 : decode cX8_init 1 = .ok (.invokespecial 3, 3) := by decide +kernel
theorem dX8_init_4 : decode cX8_init 4 = .ok (.return_, 1) := by decide +kernel
set_option maxRecDepth 4000 in
theorem kX8_init (γ : LC) (w : Mm) (q : Int) (hq : 0 < q) : KV γ 1 mX8_init [rv q] w (0) (0) (fun w' => w' = w) NX := by
  refine MX_of rfl rfl (by simp [rv_cat, int_cat]) rfl ?_
  rintro κ hO hF rfl
  have hD := hF.dp
  show X κ (0) (0) w 0 [some (rv q)] []
  refine X_aload_n 1 hO dX8_init_0 rfl rfl ?_
  refine X_objInit 4 hO w_460 dX8_init_1 rfl hD (by decide) (by assumption) (by simp [rv_cat, int_cat]) ?_
  exact X_vret hO hF rfl dX8_init_4 ⟨rfl, rfl⟩
theorem dX1_init_0 : decode cX1_init 0 = .ok (.aload_n 0, 1) := by decide +kernel
theorem dX1_init_1 : decode cX1_init 1 = .ok (.invokespecial 3, 3) := by decide +kernel
theorem dX1_init_4 : decode cX1_init 4 = .ok (.aload_n 0, 1) := by decide +kernel
theorem dX1_init_5 : decode cX1_init 5 = .ok (.new 9, 3) := by decide +kernel
theorem dX1_init_8 : decode cX1_init 8 = .ok (.dup, 1) := by decide +kernel
theorem dX1_init_9 : decode cX1_init 9 = .ok (.sipush 400, 3) := by decide +kernel
theorem dX1_init_12 : decode cX1_init 12 = .ok (.invokespecial 11, 3) := by decide +kernel
theorem dX1_init_15 : decode cX1_init 15 = .ok (.putfield 14, 3) := by decide +kernel
theorem dX1_init_18 : decode cX1_init 18 = .ok (.aload_n 0, 1) := by decide +kernel
theorem dX1_init_19 : decode cX1_init 19 = .ok (.new 20, 3) := by decide +kernel
theorem dX1_init_22 : decode cX1_init 22 = .ok (.dup, 1) := by decide +kernel
theorem dX1_init_23 : decode cX1_init 23 = .ok (.invokespecial 22, 3) := by decide +kernel
theorem dX1_init_26 : decode cX1_init 26 = .ok (.putfield 23, 3) := by decide +kernel
theorem dX1_init_29 : decode cX1_init 29 = .ok (.aload_n 0, 1) := by decide +kernel
theorem dX1_init_30 : decode cX1_init 30 = .ok (.iconst 4, 1) := by decide +kernel
theorem dX1_init_31 : decode cX1_init 31 = .ok (.newarray .int, 2) := by decide +kernel
theorem dX1_init_33 : decode cX1_init 33 = .ok (.putfield 27, 3) := by decide +kernel
theorem dX1_init_36 : decode cX1_init 36 = .ok (.aload_n 0, 1) := by decide +kernel
theorem dX1_init_37 : decode cX1_init 37 = .ok (.iconst 4, 1) := by decide +kernel
theorem dX1_init_38 : decode cX1_init 38 = .ok (.newarray .int, 2) := by decide +kernel
theorem dX1_init_40 : decode cX1_init 40 = .ok (.putfield 31, 3) := by decide +kernel
theorem dX1_init_43 : decode cX1_init 43 = .ok (.return_, 1) := by decide +kernel
set_option maxRecDepth 4000 in
theorem kX1_init (γ : LC) (w : Mm) (d b : Int) (c : Int → Int) (hq : 0 < d) (ht : w 0 d 0 = 2) (h60 : w 60 d 0 = 0) (h61 : w 61 d 0 = 0) (hc : c d = b) (hb : 0 < b) (hk : KPc c w) : KV γ 4 mX1_init [rv d] w (8) (437) (fun w' => ∃ c', NW d c c' w w' ∧ sDk c' b w' d ∧ FDk w' d) NX := by
  refine MX_of rfl rfl (by simp [rv_cat, int_cat]) rfl ?_
  rintro κ hO hF rfl
  have hD := hF.dp
  show X κ (8) (437) w 0 [some (rv d)] []
  refine X_aload_n 1 hO dX1_init_0 rfl rfl ?_
  refine X_objInit 4 hO w_165 dX1_init_1 rfl hD (by decide) (by assumption) (by simp [rv_cat, int_cat]) ?_
  have f60 : w 60 d 0 = 0 := h60
  have f61 : w 61 d 0 = 0 := h61
  refine X_aload_n 5 hO dX1_init_4 rfl rfl ?_
  refine n_6 8 hO w_166 (by omega) (by omega) dX1_init_5 rfl (fun q_5 hq_5 hf_5 => ?_)
  have u_1 : w 0 q_5 0 = 0 := hf_5
  have ne_1 : d ≠ q_5 := fun e => by rw [e] at ht; omega
  obtain ⟨k1, e_k1⟩ : ∃ k : Int → Int, k = (fun a => if a = q_5 then b + 1 else c a) := ⟨_, rfl⟩
  obtain ⟨W1, e_W1⟩ : ∃ W, W = newO w q_5 6 := ⟨_, rfl⟩
  have M_ : NW q_5 c k1 w W1 := by rw [e_k1, e_W1]; exact (NW.refl hk).O hq_5 hf_5 (by decide)
  rw [← e_W1]
  have o_1 : OBt k1 W1 q_5 6 (b + 1) := ⟨by rw [e_W1]; exact newO_t, by rw [e_k1]; exact if_pos rfl⟩
  have z_1 : ∀ k : Nat, 10 ≤ k → W1 k q_5 0 = 0 := fun k hk => by rw [e_W1]; exact newO_f hk
  have U_ := M_.u1 (b := b) hf_5
  have X_ := M_.1
  have ht_ : W1 0 d 0 = 2 := M_.tt ht (by decide)
  have hc_ : k1 d = b := (X_ d (by omega)).trans hc
  have f60' : W1 60 d 0 = 0 := (M_.f hf_5 (by omega)).trans f60
  have f61' : W1 61 d 0 = 0 := (M_.f hf_5 (by omega)).trans f61
  have N_ : NW d c k1 w W1 := (NW.refl hk).trans M_ (Or.inr (hf_5))
  have N0 := N_
  clear N_ U_ X_
  have ht0 := ht_
  have hc0 := hc_
  clear ht_ hc_
  clear f60
  have f60 := f60'
  clear f60'
  clear f61
  have f61 := f61'
  clear f61'
  clear M_ e_k1 e_W1
  refine X_dup 9 hO dX1_init_8 rfl (by first | rfl | exact rv_cat _) ?_
  refine X_sipush 12 hO dX1_init_9 rfl (by decide) ?_
  refine X_kIv 15 hO hD lX1_11 [_] rfl dX1_init_12 rfl (by assumption) (kX5_init _ _ _ _ 400 hq_5 o_1.1 (by omega) (by omega) (by omega)) (by decide) (by simp [rv_cat, int_cat]) (by first | decide | exact Nat.zero_le _ | omega) (by first | decide | exact Nat.zero_le _ | omega) (fun w_12 hp_12 => ?_) (fun E w_ hx_ => hx_.elim)
  obtain ⟨c12, M12, s_5, f_5⟩ := NW.st2 (b := b + 1) N0.2.1 o_1 z_1 hq_5 hp_12
  have U_ := M12.u o_1.2
  have X_ := M12.1
  have ht_ : w_12 0 d 0 = 2 := M12.tt ht0 (by decide)
  have hc_ : c12 d = b := (X_ d (by omega)).trans hc0
  have f60' : w_12 60 d 0 = 0 := (M12.o (by omega) ne_1).trans f60
  have f61' : w_12 61 d 0 = 0 := (M12.o (by omega) ne_1).trans f61
  have N_ : NW d c c12 w w_12 := (N0).trans M12 (Or.inr u_1)
  clear N0 ht0 hc0
  have N0 := N_
  clear N_ U_ X_
  have ht0 := ht_
  have hc0 := hc_
  clear ht_ hc_
  clear f60
  have f60 := f60'
  clear f60'
  clear f61
  have f61 := f61'
  clear f61'
  clear M12 hp_12 z_1 o_1
  refine pX1_14 18 hO hF.2.2.2.2 dX1_init_15 rfl (by first | assumption | omega | (simp (disch := first | decide | assumption | omega) only [up_k, up_s, up_a, up_i, flA_k, flA_a, newO_o, newA_o]; first | assumption | omega)) ?_
  obtain ⟨W2, e_W2⟩ : ∃ W, W = up w_12 11 d 0 q_5 := ⟨_, rfl⟩
  have M_ : NW d c12 c12 w_12 W2 := by rw [e_W2]; exact (NW.refl N0.2.1).p (Or.inl rfl) (by omega) (by decide)
  rw [← e_W2]
  have U_ := M_.u hc0
  have X_ := M_.1
  have s_5' := (s_5.fr U_ X_ (fun k _ _ => SX_n (by omega))).1
  have f_5' := f_5.fr s_5 U_ (fun b' k _ _ => SX_n (by omega))
  clear f_5 s_5
  have s_5 := s_5'
  clear s_5'
  have f_5 := f_5'
  clear f_5'
  have ht_ : W2 0 d 0 = 2 := M_.tt ht0 (by decide)
  have hc_ : c12 d = b := (X_ d (by omega)).trans hc0
  have f60' : W2 60 d 0 = 0 := by rw [e_W2, up_k _ (by decide)]; exact f60
  have f61' : W2 61 d 0 = 0 := by rw [e_W2, up_k _ (by decide)]; exact f61
  have N_ : NW d c c12 w W2 := (N0).trans M_ (Or.inl rfl)
  clear N0 ht0 hc0
  have N0 := N_
  clear N_ U_ X_
  have ht0 := ht_
  have hc0 := hc_
  clear ht_ hc_
  clear f60
  have f60 := f60'
  clear f60'
  clear f61
  have f61 := f61'
  clear f61'
  have f11 : W2 11 d 0 = q_5 := by rw [e_W2]; exact up_s _ _ _ _ _
  clear M_ e_W2
  refine X_aload_n 19 hO dX1_init_18 rfl rfl ?_
  refine n_8 22 hO w_203 (by omega) (by omega) dX1_init_19 rfl (fun q_19 hq_19 hf_19 => ?_)
  have u_3 : w 0 q_19 0 = 0 := N0.un hf_19
  have ne_3 : d ≠ q_19 := fun e => by rw [e] at ht; omega
  obtain ⟨k3, e_k3⟩ : ∃ k : Int → Int, k = (fun a => if a = q_19 then b + 6 else c12 a) := ⟨_, rfl⟩
  obtain ⟨W3, e_W3⟩ : ∃ W, W = newO W2 q_19 8 := ⟨_, rfl⟩
  have M_ : NW q_19 c12 k3 W2 W3 := by rw [e_k3, e_W3]; exact (NW.refl N0.2.1).O hq_19 hf_19 (by decide)
  rw [← e_W3]
  have o_3 : OBt k3 W3 q_19 8 (b + 6) := ⟨by rw [e_W3]; exact newO_t, by rw [e_k3]; exact if_pos rfl⟩
  have z_3 : ∀ k : Nat, 10 ≤ k → W3 k q_19 0 = 0 := fun k hk => by rw [e_W3]; exact newO_f hk
  have U_ := M_.u1 (b := b) hf_19
  have X_ := M_.1
  have s_5' := (s_5.fr U_ X_ (fun k _ _ => SX_n (by omega))).1
  have f_5' := f_5.fr s_5 U_ (fun b' k _ _ => SX_n (by omega))
  clear f_5 s_5
  have s_5 := s_5'
  clear s_5'
  have f_5 := f_5'
  clear f_5'
  have ht_ : W3 0 d 0 = 2 := M_.tt ht0 (by decide)
  have hc_ : k3 d = b := (X_ d (by omega)).trans hc0
  have f60' : W3 60 d 0 = 0 := (M_.f hf_19 (by omega)).trans f60
  have f61' : W3 61 d 0 = 0 := (M_.f hf_19 (by omega)).trans f61
  have f11' : W3 11 d 0 = q_5 := (M_.f hf_19 (by omega)).trans f11
  have N_ : NW d c k3 w W3 := (N0).trans M_ (Or.inr (N0.un hf_19))
  clear N0 ht0 hc0
  have N0 := N_
  clear N_ U_ X_
  have ht0 := ht_
  have hc0 := hc_
  clear ht_ hc_
  clear f60
  have f60 := f60'
  clear f60'
  clear f61
  have f61 := f61'
  clear f61'
  clear f11
  have f11 := f11'
  clear f11'
  clear M_ e_k3 e_W3
  have fq : FQs W3 q_19 := ⟨z_3 34 (by decide), z_3 35 (by decide), z_3 71 (by decide), z_3 72 (by decide)⟩
  clear z_3
  refine X_dup 23 hO dX1_init_22 rfl (by first | rfl | exact rv_cat _) ?_
  refine X_kNv 26 hO hD nX1_22 [] rfl dX1_init_23 rfl (by assumption) (kX7_init _ _ _ (by assumption)) (by decide) (by simp [rv_cat, int_cat]) (by first | decide | exact Nat.zero_le _ | omega) (by first | decide | exact Nat.zero_le _ | omega) (fun w_23 hp_23 => ?_) (fun E w_ hx_ => hx_.elim)
  subst w_23
  refine pX1_23 29 hO hF.2.2.2.2 dX1_init_26 rfl (by first | assumption | omega | (simp (disch := first | decide | assumption | omega) only [up_k, up_s, up_a, up_i, flA_k, flA_a, newO_o, newA_o]; first | assumption | omega)) ?_
  obtain ⟨W4, e_W4⟩ : ∃ W, W = up W3 12 d 0 q_19 := ⟨_, rfl⟩
  have M_ : NW d k3 k3 W3 W4 := by rw [e_W4]; exact (NW.refl N0.2.1).p (Or.inl rfl) (by omega) (by decide)
  rw [← e_W4]
  have U_ := M_.u hc0
  have X_ := M_.1
  have s_5' := (s_5.fr U_ X_ (fun k _ _ => SX_n (by omega))).1
  have f_5' := f_5.fr s_5 U_ (fun b' k _ _ => SX_n (by omega))
  have fq' := fq.fr2 o_3 U_ (fun k => SX_n (by omega))
  have o_3' := o_3.fr (by decide) U_ X_
  clear o_3 fq f_5 s_5
  have s_5 := s_5'
  clear s_5'
  have f_5 := f_5'
  clear f_5'
  have fq := fq'
  clear fq'
  have o_3 := o_3'
  clear o_3'
  have ht_ : W4 0 d 0 = 2 := M_.tt ht0 (by decide)
  have hc_ : k3 d = b := (X_ d (by omega)).trans hc0
  have f60' : W4 60 d 0 = 0 := by rw [e_W4, up_k _ (by decide)]; exact f60
  have f61' : W4 61 d 0 = 0 := by rw [e_W4, up_k _ (by decide)]; exact f61
  have f11' : W4 11 d 0 = q_5 := by rw [e_W4, up_k _ (by decide)]; exact f11
  have N_ : NW d c k3 w W4 := (N0).trans M_ (Or.inl rfl)
  clear N0 ht0 hc0
  have N0 := N_
  clear N_ U_ X_
  have ht0 := ht_
  have hc0 := hc_
  clear ht_ hc_
  clear f60
  have f60 := f60'
  clear f60'
  clear f61
  have f61 := f61'
  clear f61'
  clear f11
  have f11 := f11'
  clear f11'
  have f12 : W4 12 d 0 = q_19 := by rw [e_W4]; exact up_s _ _ _ _ _
  clear M_ e_W4
  refine X_aload_n 30 hO dX1_init_29 rfl rfl ?_
  refine X_iconst 31 hO dX1_init_30 rfl ?_
  refine X_newi 33 hO w_aci (by omega) (by omega) (by omega) dX1_init_31 rfl (fun q_31 hq_31 hf_31 => ?_)
  have u_5 : w 0 q_31 0 = 0 := N0.un hf_31
  have ne_5 : d ≠ q_31 := fun e => by rw [e] at ht; omega
  obtain ⟨k5, e_k5⟩ : ∃ k : Int → Int, k = (fun a => if a = q_31 then b + 7 else k3 a) := ⟨_, rfl⟩
  obtain ⟨W5, e_W5⟩ : ∃ W, W = newA W4 q_31 20 4 := ⟨_, rfl⟩
  have M_ : NW q_31 k3 k5 W4 W5 := by rw [e_k5, e_W5]; exact (NW.refl N0.2.1).A hq_31 hf_31 (by decide)
  rw [← e_W5]
  have o_5 : OBt k5 W5 q_31 20 (b + 7) := ⟨by rw [e_W5]; exact newA_t, by rw [e_k5]; exact if_pos rfl⟩
  have a_5 : ARt k5 W5 q_31 20 (4) (b + 7) := ⟨⟨o_5.1, by rw [e_W5]; exact newA_n, o_5.2⟩, fun j => by rw [e_W5]; exact ⟨newA_1 (Or.inl rfl), newA_1 (Or.inr rfl)⟩⟩
  have U_ := M_.u1 (b := b) hf_31
  have X_ := M_.1
  have s_5' := (s_5.fr U_ X_ (fun k _ _ => SX_n (by omega))).1
  have f_5' := f_5.fr s_5 U_ (fun b' k _ _ => SX_n (by omega))
  have fq' := fq.fr2 o_3 U_ (fun k => SX_n (by omega))
  have o_3' := o_3.fr (by decide) U_ X_
  clear o_3 fq f_5 s_5
  have s_5 := s_5'
  clear s_5'
  have f_5 := f_5'
  clear f_5'
  have fq := fq'
  clear fq'
  have o_3 := o_3'
  clear o_3'
  have ht_ : W5 0 d 0 = 2 := M_.tt ht0 (by decide)
  have hc_ : k5 d = b := (X_ d (by omega)).trans hc0
  have f60' : W5 60 d 0 = 0 := (M_.f hf_31 (by omega)).trans f60
  have f61' : W5 61 d 0 = 0 := (M_.f hf_31 (by omega)).trans f61
  have f11' : W5 11 d 0 = q_5 := (M_.f hf_31 (by omega)).trans f11
  have f12' : W5 12 d 0 = q_19 := (M_.f hf_31 (by omega)).trans f12
  have N_ : NW d c k5 w W5 := (N0).trans M_ (Or.inr (N0.un hf_31))
  clear N0 ht0 hc0
  have N0 := N_
  clear N_ U_ X_
  have ht0 := ht_
  have hc0 := hc_
  clear ht_ hc_
  clear f60
  have f60 := f60'
  clear f60'
  clear f61
  have f61 := f61'
  clear f61'
  clear f11
  have f11 := f11'
  clear f11'
  clear f12
  have f12 := f12'
  clear f12'
  clear M_ e_k5 e_W5
  refine pX1_27 36 hO hF.2.2.2.2 dX1_init_33 rfl (by first | assumption | omega | (simp (disch := first | decide | assumption | omega) only [up_k, up_s, up_a, up_i, flA_k, flA_a, newO_o, newA_o]; first | assumption | omega)) ?_
  obtain ⟨W6, e_W6⟩ : ∃ W, W = up W5 13 d 0 q_31 := ⟨_, rfl⟩
  have M_ : NW d k5 k5 W5 W6 := by rw [e_W6]; exact (NW.refl N0.2.1).p (Or.inl rfl) (by omega) (by decide)
  rw [← e_W6]
  have U_ := M_.u hc0
  have X_ := M_.1
  have s_5' := (s_5.fr U_ X_ (fun k _ _ => SX_n (by omega))).1
  have f_5' := f_5.fr s_5 U_ (fun b' k _ _ => SX_n (by omega))
  have fq' := fq.fr2 o_3 U_ (fun k => SX_n (by omega))
  have o_3' := o_3.fr (by decide) U_ X_
  have a_5' := a_5.fr (by decide) U_ X_ (fun k => SX_n (by omega))
  clear a_5 o_3 fq f_5 s_5
  have s_5 := s_5'
  clear s_5'
  have f_5 := f_5'
  clear f_5'
  have fq := fq'
  clear fq'
  have o_3 := o_3'
  clear o_3'
  have a_5 := a_5'
  clear a_5'
  have ht_ : W6 0 d 0 = 2 := M_.tt ht0 (by decide)
  have hc_ : k5 d = b := (X_ d (by omega)).trans hc0
  have f60' : W6 60 d 0 = 0 := by rw [e_W6, up_k _ (by decide)]; exact f60
  have f61' : W6 61 d 0 = 0 := by rw [e_W6, up_k _ (by decide)]; exact f61
  have f11' : W6 11 d 0 = q_5 := by rw [e_W6, up_k _ (by decide)]; exact f11
  have f12' : W6 12 d 0 = q_19 := by rw [e_W6, up_k _ (by decide)]; exact f12
  have N_ : NW d c k5 w W6 := (N0).trans M_ (Or.inl rfl)
  clear N0 ht0 hc0
  have N0 := N_
  clear N_ U_ X_
  have ht0 := ht_
  have hc0 := hc_
  clear ht_ hc_
  clear f60
  have f60 := f60'
  clear f60'
  clear f61
  have f61 := f61'
  clear f61'
  clear f11
  have f11 := f11'
  clear f11'
  clear f12
  have f12 := f12'
  clear f12'
  have f13 : W6 13 d 0 = q_31 := by rw [e_W6]; exact up_s _ _ _ _ _
  clear M_ e_W6
  refine X_aload_n 37 hO dX1_init_36 rfl rfl ?_
  refine X_iconst 38 hO dX1_init_37 rfl ?_
  refine X_newi 40 hO w_aci (by omega) (by omega) (by omega) dX1_init_38 rfl (fun q_38 hq_38 hf_38 => ?_)
  have u_7 : w 0 q_38 0 = 0 := N0.un hf_38
  have ne_7 : d ≠ q_38 := fun e => by rw [e] at ht; omega
  obtain ⟨k7, e_k7⟩ : ∃ k : Int → Int, k = (fun a => if a = q_38 then b + 8 else k5 a) := ⟨_, rfl⟩
  obtain ⟨W7, e_W7⟩ : ∃ W, W = newA W6 q_38 20 4 := ⟨_, rfl⟩
  have M_ : NW q_38 k5 k7 W6 W7 := by rw [e_k7, e_W7]; exact (NW.refl N0.2.1).A hq_38 hf_38 (by decide)
  rw [← e_W7]
  have o_7 : OBt k7 W7 q_38 20 (b + 8) := ⟨by rw [e_W7]; exact newA_t, by rw [e_k7]; exact if_pos rfl⟩
  have a_7 : ARt k7 W7 q_38 20 (4) (b + 8) := ⟨⟨o_7.1, by rw [e_W7]; exact newA_n, o_7.2⟩, fun j => by rw [e_W7]; exact ⟨newA_1 (Or.inl rfl), newA_1 (Or.inr rfl)⟩⟩
  have U_ := M_.u1 (b := b) hf_38
  have X_ := M_.1
  have s_5' := (s_5.fr U_ X_ (fun k _ _ => SX_n (by omega))).1
  have f_5' := f_5.fr s_5 U_ (fun b' k _ _ => SX_n (by omega))
  have fq' := fq.fr2 o_3 U_ (fun k => SX_n (by omega))
  have o_3' := o_3.fr (by decide) U_ X_
  have a_5' := a_5.fr (by decide) U_ X_ (fun k => SX_n (by omega))
  clear a_5 o_3 fq f_5 s_5
  have s_5 := s_5'
  clear s_5'
  have f_5 := f_5'
  clear f_5'
  have fq := fq'
  clear fq'
  have o_3 := o_3'
  clear o_3'
  have a_5 := a_5'
  clear a_5'
  have ht_ : W7 0 d 0 = 2 := M_.tt ht0 (by decide)
  have hc_ : k7 d = b := (X_ d (by omega)).trans hc0
  have f60' : W7 60 d 0 = 0 := (M_.f hf_38 (by omega)).trans f60
  have f61' : W7 61 d 0 = 0 := (M_.f hf_38 (by omega)).trans f61
  have f11' : W7 11 d 0 = q_5 := (M_.f hf_38 (by omega)).trans f11
  have f12' : W7 12 d 0 = q_19 := (M_.f hf_38 (by omega)).trans f12
  have f13' : W7 13 d 0 = q_31 := (M_.f hf_38 (by omega)).trans f13
  have N_ : NW d c k7 w W7 := (N0).trans M_ (Or.inr (N0.un hf_38))
  clear N0 ht0 hc0
  have N0 := N_
  clear N_ U_ X_
  have ht0 := ht_
  have hc0 := hc_
  clear ht_ hc_
  clear f60
  have f60 := f60'
  clear f60'
  clear f61
  have f61 := f61'
  clear f61'
  clear f11
  have f11 := f11'
  clear f11'
  clear f12
  have f12 := f12'
  clear f12'
  clear f13
  have f13 := f13'
  clear f13'
  clear M_ e_k7 e_W7
  refine pX1_31 43 hO hF.2.2.2.2 dX1_init_40 rfl (by first | assumption | omega | (simp (disch := first | decide | assumption | omega) only [up_k, up_s, up_a, up_i, flA_k, flA_a, newO_o, newA_o]; first | assumption | omega)) ?_
  obtain ⟨W8, e_W8⟩ : ∃ W, W = up W7 14 d 0 q_38 := ⟨_, rfl⟩
  have M_ : NW d k7 k7 W7 W8 := by rw [e_W8]; exact (NW.refl N0.2.1).p (Or.inl rfl) (by omega) (by decide)
  rw [← e_W8]
  have U_ := M_.u hc0
  have X_ := M_.1
  have s_5' := (s_5.fr U_ X_ (fun k _ _ => SX_n (by omega))).1
  have f_5' := f_5.fr s_5 U_ (fun b' k _ _ => SX_n (by omega))
  have fq' := fq.fr2 o_3 U_ (fun k => SX_n (by omega))
  have o_3' := o_3.fr (by decide) U_ X_
  have a_5' := a_5.fr (by decide) U_ X_ (fun k => SX_n (by omega))
  have a_7' := a_7.fr (by decide) U_ X_ (fun k => SX_n (by omega))
  clear a_7 a_5 o_3 fq f_5 s_5
  have s_5 := s_5'
  clear s_5'
  have f_5 := f_5'
  clear f_5'
  have fq := fq'
  clear fq'
  have o_3 := o_3'
  clear o_3'
  have a_5 := a_5'
  clear a_5'
  have a_7 := a_7'
  clear a_7'
  have ht_ : W8 0 d 0 = 2 := M_.tt ht0 (by decide)
  have hc_ : k7 d = b := (X_ d (by omega)).trans hc0
  have f60' : W8 60 d 0 = 0 := by rw [e_W8, up_k _ (by decide)]; exact f60
  have f61' : W8 61 d 0 = 0 := by rw [e_W8, up_k _ (by decide)]; exact f61
  have f11' : W8 11 d 0 = q_5 := by rw [e_W8, up_k _ (by decide)]; exact f11
  have f12' : W8 12 d 0 = q_19 := by rw [e_W8, up_k _ (by decide)]; exact f12
  have f13' : W8 13 d 0 = q_31 := by rw [e_W8, up_k _ (by decide)]; exact f13
  have N_ : NW d c k7 w W8 := (N0).trans M_ (Or.inl rfl)
  clear N0 ht0 hc0
  have N0 := N_
  clear N_ U_ X_
  have ht0 := ht_
  have hc0 := hc_
  clear ht_ hc_
  clear f60
  have f60 := f60'
  clear f60'
  clear f61
  have f61 := f61'
  clear f61'
  clear f11
  have f11 := f11'
  clear f11'
  clear f12
  have f12 := f12'
  clear f12'
  clear f13
  have f13 := f13'
  clear f13'
  have f14 : W8 14 d 0 = q_38 := by rw [e_W8]; exact up_s _ _ _ _ _
  clear M_ e_W8
  exact X_vret hO hF rfl dX1_init_43 ⟨rfl, ⟨_, N0, ⟨⟨ht0, hc0⟩, by rw [f11]; exact s_5, by rw [f11]; exact f_5.2.1, by rw [f12]; exact o_3, by rw [f13]; exact a_5.1, by rw [f14]; exact a_7.1⟩, by rw [f11]; exact f_5, ⟨f60, f61⟩, by rw [f12]; exact fq, fun j j0 j1 => by rw [f13, f14]; exact ⟨(a_5.2 j).1, (a_7.2 j).1⟩⟩⟩
