/-! ROWS OF THE CLASS, fourth part: casts, dup_x1, calls of List -/
theorem asg_self (vm : Vm) (c : ClassId) : vm.assignable c c = true := by
  show vm.assignableAux (255 + 1) c c = true
  rw [Vm.assignableAux]
  simp only [beq_self_eq_true, Bool.true_or]
section XK4
variable {κ : KC} {P S : Nat} {w : Mm} {pc : Nat} {ls : List (Option Value)} {st : List Value} {own : String} {cc : ByteArray}
theorem X_dup_x1 (np : Nat) (hO : Ok κ own cc) {u v : Value} (d : decode cc pc = .ok (.dup_x1, 1)) (hn : np = pc + 1) (hu : u.category = 1) (hv : v.category = 1) (k : X κ P S w np ls (u :: v :: u :: st)) : X κ P S w pc ls (u :: v :: st) := by
  subst hn
  intro H locs la a b h1 h2 h3 h4 h5 h6
  exact lv_dup_x1 hO.1 hO.2.1 d hu hv (k H locs la a b h1 h2 h3 h4 h5 h6)
theorem X_cast (np : Nat) (hO : Ok κ own cc) {ix t N : Nat} {C : String} {T : u_T} {z : Int} (hl : Cond.classLink own ix C ∈ lwG) (hc : cls_[t - 1]? = some (C, T, N)) (ht1 : 1 ≤ t ∧ t < 20) (d : decode cc pc = .ok (.checkcast ix, 3)) (hn : np = pc + 3) (ht : z = 0 ∨ w 0 z 0 = (t : Int)) (kk : X κ P S w np ls (rv z :: st)) : X κ P S w pc ls (rv z :: st) := by
  subst hn
  intro H locs la a b h1 h2 h3 h4 h5 h6
  intro T hT X
  obtain ⟨e1, e2, e3, e4, e5, e6, e7, e8⟩ := id hO
  subst e2
  rcases ht with hz | hz
  · subst hz
    obtain ⟨t2, a1, b1⟩ := kk H locs la a b h1 h2 h3 h4 h5 h6 T hT X
    exact ⟨t2, X.checkcastNull e1 (g := F0 (km κ) pc la (rv 0 :: st)) rfl rfl d t2 a1, b1⟩
  · obtain ⟨cell, hcell, hst, hcls⟩ := recv_at hO h1 h2 ht1.1 ht1.2 hc hz
    have z0 := (zpos h1 hz ht1.1).1
    obtain ⟨vm', X', sg⟩ := X.checkcastYes e1 e4 (hO.w hl) (by rw [hT]; exact hcell) hst hcls (asg_self _ _) (g := F0 (km κ) pc la (rv z :: st)) rfl (show rv z :: st = _ by rw [rv_pos z0]) d
    obtain ⟨t2, a1, b1⟩ := kk H locs la a b h1 h2 h3 h4 h5 h6 (T.setVm vm') hT X'
    exact ⟨t2, sg t2 a1, b1⟩
end XK4
theorem fX10_38 : LkF RX10 38 ⟨"java/util/List", "add", "(Ljava/lang/Object;)Z"⟩ mJx4a65c_add_9ea2d 1 := ⟨w_340, w_332, w_336, w_338, w_131, by decide, ⟨by decide, by decide, by decide +kernel⟩, by decide⟩
theorem fX12_297 : LkF RX12 297 ⟨"java/util/List", "size", "()I"⟩ mJx4a65c_size_8abf5 0 := ⟨w_640, w_633, w_636, w_638, w_131, by decide, ⟨by decide, by decide, by decide +kernel⟩, by decide⟩
theorem fX10_44 : LkF RX10 44 ⟨"java/util/List", "size", "()I"⟩ mJx4a65c_size_8abf5 0 := ⟨w_640, w_1032, w_636, w_638, w_131, by decide, ⟨by decide, by decide, by decide +kernel⟩, by decide⟩
theorem fX10_54 : LkF RX10 54 ⟨"java/util/List", "get", "(I)Ljava/lang/Object;"⟩ mJx4a65c_get_915e3 1 := ⟨w_1041, w_1034, w_1037, w_1039, w_131, by decide, ⟨by decide, by decide, by decide +kernel⟩, by decide⟩
theorem fX10_75 : LkF RX10 75 ⟨"java/util/List", "remove", "(I)Ljava/lang/Object;"⟩ mJx4a65c_remove_915e3 1 := ⟨w_1073, w_1066, w_1069, w_1071, w_131, by decide, ⟨by decide, by decide, by decide +kernel⟩, by decide⟩
