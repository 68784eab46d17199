/-! ROWS OF THE CLASS: objects and arrays come, references in arrays, whole arrays copied, throws, what no cell shows -/
/-- an object of tag t comes, its fields 0 -/
def newO (w : Mm) (q t : Int) : Mm := fun k a i => if a = q ∧ i = 0 ∧ (k = 0 ∨ 10 ≤ k) then (if k = 0 then t else 0) else w k a i
/-- an array of tag t and length n comes -/
def newA (w : Mm) (q t n : Int) : Mm := fun k a i => if a = q ∧ (k = 1 ∨ k = 3) then 0 else if a = q ∧ i = 0 ∧ k = 2 then n else if a = q ∧ i = 0 ∧ k = 0 then t else w k a i
/-- components that no cell shows -/
def GHo (w w' : Mm) : Prop := (∀ k a i, k < 600 → w' k a i = w k a i) ∧ ∀ k i, w' k 0 i = w k 0 i
theorem FLd_lt : ∀ t, t < 20 → ∀ x ∈ FLd t, x.1 < 600 ∧ 10 ≤ x.1 := by decide
theorem cf_gh {g : GC} {w w' : Mm} {a : Nat} (h : GHo w w') : cf g w' a = cf g w a := by
  unfold cf
  rw [h.1 0 _ _ (by decide)]
  unfold cfT
  have e : ∀ t, t < 20 → (FLd t).map (fv w' a) = (FLd t).map (fv w a) := fun t ht => by
    apply List.map_congr_left
    intro x hx
    unfold fv
    rw [h.1 _ _ _ (FLd_lt t ht x hx).1]
  by_cases c : (w 0 a 0).toNat < 20
  · rw [if_pos c, if_pos c, e _ c]
  · rw [if_neg c, if_neg c, h.1 2 _ _ (by decide), show (fun j : Nat => I (w' 1 a j)) = (fun j : Nat => I (w 1 a j)) from funext fun j => by rw [h.1 1 _ _ (by decide)], show (fun j : Nat => ro (w' 3 a j)) = (fun j : Nat => ro (w 3 a j)) from funext fun j => by rw [h.1 3 _ _ (by decide)], show (fun j : Nat => Int64.ofInt (w' 4 a j)) = (fun j : Nat => Int64.ofInt (w 4 a j)) from funext fun j => by rw [h.1 4 _ _ (by decide)], show (fun j : Nat => I (w' (100 + (w 0 a 0).toNat) 0 j)) = (fun j : Nat => I (w (100 + (w 0 a 0).toNat) 0 j)) from funext fun j => by rw [h.2]]
theorem WI_gh {w w' : Mm} (h : GHo w w') (g : WI w) : WI w' := by
  refine ⟨fun k a i hk => ?_, fun z hz => ?_, fun a b e h1 => ?_⟩
  · have : k < 600 := by
      unfold ik at hk
      simp only [Bool.or_eq_true, beq_iff_eq, Bool.and_eq_true, Nat.ble_eq, Nat.blt_eq] at hk
      omega
    rw [h.1 _ _ _ this]; exact g.1 k a i hk
  · rw [h.1 0 _ _ (by decide)] at hz ⊢; exact g.2.1 z hz
  · rw [h.1 0 _ _ (by decide), h.1 0 _ _ (by decide)] at e
    rw [h.1 0 _ _ (by decide)] at h1
    exact g.2.2 a b e h1
theorem XH_gh {g : GC} {A : Nat → Prop} {w w' : Mm} {H : Heap} (h : GHo w w') (x : XH g A w H) : XH g A w' H := by
  obtain ⟨L, h1, h2, h3⟩ := x
  have e : va_pl L (cf g w') = va_pl L (cf g w) := by
    show List.map _ _ = List.map _ _
    apply List.map_congr_left
    intro b _
    show (b, cf g w' b) = (b, cf g w b)
    rw [cf_gh h]
  exact ⟨L, fun a => by rw [h.1 0 _ _ (by decide)]; exact h1 a, by rw [e]; exact h2, by rw [e]; exact h3⟩
section XR2
variable {κ : KC} {P S : Nat} {w : Mm} {pc : Nat} {ls : List (Option Value)} {st : List Value} {own : String} {cc : ByteArray}
theorem X_gh {w' : Mm} (h : GHo w w') (k : X κ P S w' pc ls st) : X κ P S w pc ls st := fun H locs la a b h1 h2 h3 h4 h5 h6 => k H locs la a b (WI_gh h h1) (XH_gh h h2) h3 h4 h5 h6
theorem newO_o {q t : Int} {k : Nat} {a i : Int} (h : a ≠ q) : newO w q t k a i = w k a i := by unfold newO; rw [if_neg (fun c => h c.1)]
theorem newA_o {q t n : Int} {k : Nat} {a i : Int} (h : a ≠ q) : newA w q t n k a i = w k a i := by unfold newA; rw [if_neg (fun c => h c.1), if_neg (fun c => h c.1), if_neg (fun c => h c.1)]
theorem WI_newO {q t : Int} (h : WI w) (hq : 0 < q) (h0 : w 0 q 0 = 0) (ht : 1 ≤ t ∧ t < 20) : WI (newO w q t) := by
  refine ⟨fun k a i hk => ?_, fun z hz => ?_, fun a b e h1 => ?_⟩
  · unfold newO
    by_cases c : a = q ∧ i = 0 ∧ (k = 0 ∨ 10 ≤ k)
    · rw [if_pos c]; split <;> omega
    · rw [if_neg c]; exact h.1 k a i hk
  · by_cases c : z = q
    · subst c; refine ⟨hq, ?_⟩; unfold newO; rw [if_pos ⟨rfl, rfl, Or.inl rfl⟩, if_pos rfl]; omega
    · rw [newO_o c] at hz ⊢; exact h.2.1 z hz
  · have e0 : newO w q t 0 q 0 = t := by unfold newO; rw [if_pos ⟨rfl, rfl, Or.inl rfl⟩, if_pos rfl]
    by_cases c : a = q
    · subst c; rw [e0] at h1; omega
    · by_cases c2 : b = q
      · subst c2; rw [e0] at e; rw [e] at h1; omega
      · rw [newO_o c, newO_o c2] at e
        rw [newO_o c] at h1
        exact h.2.2 a b e h1
theorem WI_newA {q t n : Int} (h : WI w) (hq : 0 < q) (ht : 20 ≤ t ∧ t < 100) (hn : IR n) : WI (newA w q t n) := by
  refine ⟨fun k a i hk => ?_, fun z hz => ?_, fun a b e h1 => ?_⟩
  · unfold newA
    by_cases c : a = q ∧ (k = 1 ∨ k = 3)
    · rw [if_pos c]; omega
    · rw [if_neg c]
      by_cases c2 : a = q ∧ i = 0 ∧ k = 2
      · rw [if_pos c2]; exact hn
      · rw [if_neg c2]
        by_cases c3 : a = q ∧ i = 0 ∧ k = 0
        · rw [if_pos c3]; omega
        · rw [if_neg c3]; exact h.1 k a i hk
  · by_cases c : z = q
    · subst c; refine ⟨hq, ?_⟩; unfold newA; rw [if_neg (by omega), if_neg (by omega), if_pos ⟨rfl, rfl, rfl⟩]; omega
    · rw [newA_o c] at hz ⊢; exact h.2.1 z hz
  · have e0 : newA w q t n 0 q 0 = t := by unfold newA; rw [if_neg (by omega), if_neg (by omega), if_pos ⟨rfl, rfl, rfl⟩]
    by_cases c : a = q
    · subst c; rw [e0] at h1; omega
    · by_cases c2 : b = q
      · subst c2; rw [e0] at e; rw [e] at h1; omega
      · rw [newA_o c, newA_o c2] at e
        rw [newA_o c] at h1
        exact h.2.2 a b e h1
theorem X_newG (np : Nat) (hO : Ok κ own cc) {t N ix : Nat} {C : String} {T : u_T} {tyf : Nat → FieldType} (ht1 : 1 ≤ t) (ht2 : t < 20) (hc : cls_[t - 1]? = some (C, T, N)) (hin : ∀ q ∈ u_ws C T N, q ∈ lwG) (hty : ∀ k, k < N → parseFieldDescriptor (T k).2.2.1 = some (tyf k)) (hcl : Cond.classLink own ix C ∈ lwG) (hinst : Cond.instantiable C N ∈ lwG) (hini : Cond.initialized C ∈ lwG) (hdf : ∀ j, j < N → defaultValue (tyf j) = vp_V ((FLd t).map (fun x => if x.2 then Value.null else .int 0)) j) (hP : 1 ≤ P) (hS : N ≤ S) (d : decode cc pc = .ok (.new ix, 3)) (hn : np = pc + 3)
    (kk : ∀ q : Int, 0 < q → w 0 q 0 = 0 → X κ (P - 1) (S - N) (newO w q t) np ls (rv q :: st)) : X κ P S w pc ls st := by
  subst hn
  intro H locs la a b h1 h2 h3 h4 h5 h6
  obtain ⟨L, hPv, hDv, hadd⟩ := h2.add
  refine va_new (D := (kg κ).1) (cl := cls_) (tys := tys_ (kg κ)) (ws := va_pl L (cf (kg κ) w)) (Ts := lwG) (ci := t - 1) (fs := (FLd t).map (fun x => if x.2 then Value.null else .int 0)) hO.1 hO.2.1 hO.2.2.2.2.1 hin tyf hty hO.2.2.2.1 (hO.w hcl) (hO.w hinst) (hO.w hini) hO.2.2.2.2.2.2.1 hPv hDv h3 (fun q hq => Nat.le_trans hO.2.2.2.2.2.2.2.1 hq) hc hdf (by omega) (by omega) d (fun q H1 q1 q2 q3 => ?_)
  have hq : kB κ ≤ q := (q2.2 (va_pl L (cf (kg κ) w)).length (q, .inr (t - 1, (FLd t).map (fun x => if x.2 then Value.null else .int 0))) (by simp))
  have hq0 : (0 : Int) < (q : Int) := by have := hO.2.2.2.2.2.2.2.2.1; omega
  have e0 : newO w q t 0 q 0 = (t : Int) := by unfold newO; rw [if_pos ⟨rfl, rfl, Or.inl rfl⟩, if_pos rfl]
  have ec : cf (kg κ) (newO w q t) q = .inr (t - 1, (FLd t).map (fun x => if x.2 then Value.null else .int 0)) := by
    rw [cf_obj e0 ht2]
    congr 2
    apply List.map_congr_left
    intro x hx
    have e1 : newO w q t x.1 q 0 = 0 := by
      unfold newO
      rw [if_pos ⟨rfl, rfl, Or.inr (FLd_lt t ht2 x hx).2⟩, if_neg (by have := (FLd_lt t ht2 x hx).2; omega)]
    unfold fv
    rw [e1]
    rfl
  obtain ⟨r1, r2⟩ := hadd H1 q (newO w q t) (by rw [ec]; exact q1) (by rw [ec]; exact q2) (by rw [e0]; omega) (fun b hb => newO_o (by omega)) (fun b hb hb0 => cf_congr (fun k i => newO_o (by omega)) (fun k i _ _ => newO_o (by omega)))
  rw [show (Value.ref q) = rv (q : Int) by rw [rv_pos hq0]; rfl]
  exact kk q hq0 r2 H1 locs la (a + 1) (b + N) (WI_newO h1 hq0 r2 ⟨by omega, by omega⟩) r1 q3 h4 (by omega) (by omega)
theorem X_newaG (np : Nat) (hO : Ok κ own cc) {n : Int} {atype : ArrayType} {ty : FieldType} {t : Nat} (a0 : Nat → vp_A) (hty : newarray.typeOf atype = ty) (hcb : componentBytes ty ≤ 8) (ht : t = 20 ∨ t = 21 ∨ t = 22) (htys : (tys_ (kg κ))[t - 20]? = some ((kg κ).2 (t - 20), ty)) (hra : ∀ cA, va_RA (ks κ) cA ty → (ks κ).vm.findClass ("[" ++ ty.toString) = some cA) (ha : ∀ (N : Nat) (cA : ClassId), vp_cell cA (a0 N) = arrV cA N (fun _ => defaultValue ty)) (hcf : ∀ (u : Mm) (q N : Nat), u 0 q 0 = (t : Int) → (u 2 q 0).toNat = N → (∀ j : Nat, u 1 q j = 0) → cf (kg κ) u q = .inl ((kg κ).2 (t - 20), a0 N)) (harr : Cond.arrayClass ty ∈ lwG) (hn0 : 0 ≤ n ∧ n ≤ 60000000) (hP : 1 ≤ P) (hS : n ≤ S) (d : decode cc pc = .ok (.newarray atype, 2)) (hn : np = pc + 2)
    (kk : ∀ q : Int, 0 < q → w 0 q 0 = 0 → X κ (P - 1) (S - n.toNat) (newA w q t n) np ls (rv q :: st)) : X κ P S w pc ls (.int (I n) :: st) := by
  subst hn
  subst hty
  intro H locs la a b h1 h2 h3 h4 h5 h6
  obtain ⟨L, hPv, hDv, hadd⟩ := h2.add
  have hin : IR n := by omega
  have hz : IR 0 := by omega
  refine va_newa (D := (kg κ).1) (cl := cls_) (tys := tys_ (kg κ)) (ws := va_pl L (cf (kg κ) w)) (N' := n.toNat) (a0 := a0 n.toNat) hO.1 hO.2.1 (hO.w harr) rfl hO.2.2.2.2.2.2.1 hPv hDv h3 (fun q hq => Nat.le_trans hO.2.2.2.2.2.2.2.1 hq) (ha _) (fun q => absurd ((I_lt hin hz).mp q) (by omega)) (I_clamp hin) (by have : n.toNat * componentBytes (newarray.typeOf atype) ≤ n.toNat * 8 := Nat.mul_le_mul_left _ hcb; omega) (by omega) (by omega) d (fun q cA H1 q0 q1 q2 q3 => ?_)
  have hk := q0.2 (tys_ (kg κ)).length (cA, newarray.typeOf atype) (by simp)
  have hk2 := hO.2.2.2.2.2.2.1.2 _ _ htys
  have ecA : cA = (kg κ).2 (t - 20) := Option.some.inj ((hra _ hk.2).symm.trans (hra _ hk2.2))
  subst ecA
  have hq : kB κ ≤ q := (q2.2 (va_pl L (cf (kg κ) w)).length (q, .inl ((kg κ).2 (t - 20), a0 n.toNat)) (by simp))
  have hq0 : (0 : Int) < (q : Int) := by have := hO.2.2.2.2.2.2.2.2.1; omega
  have e0 : newA w q t n 0 q 0 = (t : Int) := by unfold newA; rw [if_neg (by omega), if_neg (by omega), if_pos ⟨rfl, rfl, rfl⟩]
  have ec : cf (kg κ) (newA w q t n) q = .inl ((kg κ).2 (t - 20), a0 n.toNat) := hcf _ q n.toNat e0 (by unfold newA; rw [if_neg (by omega), if_pos ⟨rfl, rfl, rfl⟩]) (fun j => by unfold newA; rw [if_pos ⟨rfl, Or.inl rfl⟩])
  obtain ⟨r1, r2⟩ := hadd H1 q (newA w q t n) (by rw [ec]; exact q1) (by rw [ec]; exact q2) (by rw [e0]; omega) (fun b hb => newA_o (by omega)) (fun b hb hb0 => cf_congr (fun k i => newA_o (by omega)) (fun k i _ _ => newA_o (by omega)))
  rw [show (Value.ref q) = rv (q : Int) by rw [rv_pos hq0]; rfl]
  exact kk q hq0 r2 H1 locs la (a + 1) (b + n.toNat) (WI_newA h1 hq0 ⟨by omega, by omega⟩ hin) r1 q3 h4 (by omega) (by omega)
theorem X_newi (np : Nat) (hO : Ok κ own cc) {n : Int} (harr : Cond.arrayClass .int ∈ lwG) (hn0 : 0 ≤ n ∧ n ≤ 60000000) (hP : 1 ≤ P) (hS : n ≤ S) (d : decode cc pc = .ok (.newarray .int, 2)) (hn : np = pc + 2)
    (kk : ∀ q : Int, 0 < q → w 0 q 0 = 0 → X κ (P - 1) (S - n.toNat) (newA w q 20 n) np ls (rv q :: st)) : X κ P S w pc ls (.int (I n) :: st) :=
  X_newaG np hO (atype := .int) (ty := .int) (t := 20) (fun N => (N, .inl (fun _ => 0))) rfl (by decide) (Or.inl rfl) rfl (fun _ h => h) (fun _ _ => rfl) (fun u q N h0 h2 h1 => by
    rw [cf_int h0, h2]
    congr 4
    funext j
    rw [h1]; rfl) harr hn0 hP hS d hn kk
theorem X_newz (np : Nat) (hO : Ok κ own cc) {n : Int} (harr : Cond.arrayClass .boolean ∈ lwG) (hn0 : 0 ≤ n ∧ n ≤ 60000000) (hP : 1 ≤ P) (hS : n ≤ S) (d : decode cc pc = .ok (.newarray .boolean, 2)) (hn : np = pc + 2)
    (kk : ∀ q : Int, 0 < q → w 0 q 0 = 0 → X κ (P - 1) (S - n.toNat) (newA w q 21 n) np ls (rv q :: st)) : X κ P S w pc ls (.int (I n) :: st) :=
  X_newaG np hO (atype := .boolean) (ty := .boolean) (t := 21) (fun N => (N, .inl (fun _ => 0))) rfl (by decide) (Or.inr (Or.inl rfl)) rfl (fun _ h => h) (fun _ _ => rfl) (fun u q N h0 h2 h1 => by
    rw [cf_bool h0, h2]
    congr 4
    funext j
    rw [h1]; rfl) harr hn0 hP hS d hn kk
theorem X_newq (np : Nat) (hO : Ok κ own cc) {n : Int} {C : String} {t ix : Nat} (htys : (tys_ (kg κ))[t - 20]? = some ((kg κ).2 (t - 20), .object C)) (ht : 23 ≤ t ∧ t < 28) (hcl : Cond.classLink own ix C ∈ lwG) (hao : C ∈ aov_) (hn0 : 0 ≤ n ∧ n ≤ 60000000) (hP : 1 ≤ P) (hS : n ≤ S) (d : decode cc pc = .ok (.anewarray ix, 3)) (hn : np = pc + 3)
    (kk : ∀ q : Int, 0 < q → w 0 q 0 = 0 → X κ (P - 1) (S - n.toNat) (newA w q t n) np ls (rv q :: st)) : X κ P S w pc ls (.int (I n) :: st) := by
  subst hn
  intro H locs la a b h1 h2 h3 h4 h5 h6
  obtain ⟨L, hPv, hDv, hadd⟩ := h2.add
  have hin : IR n := by omega
  have hz : IR 0 := by omega
  refine va_newq (D := (kg κ).1) (cl := cls_) (tys := tys_ (kg κ)) (ws := va_pl L (cf (kg κ) w)) (N' := n.toNat) hO.1 hO.2.1 hO.2.2.2.1 (hO.w hcl) (hO.2.2.2.2.2.2.2.2.2.2.2.2.2.2.2.2.2.1 C hao) hO.2.2.2.2.2.2.1 hPv hDv h3 (fun q hq => Nat.le_trans hO.2.2.2.2.2.2.2.1 hq) (fun q => absurd ((I_lt hin hz).mp q) (by omega)) (I_clamp hin) (by omega) (by omega) (by omega) d (fun q cA H1 q0 q1 q2 q3 => ?_)
  have hk := q0.2 (tys_ (kg κ)).length (cA, .object C) (by simp)
  have hk2 := hO.2.2.2.2.2.2.1.2 _ _ htys
  have ecA : cA = (kg κ).2 (t - 20) := by
    obtain ⟨_, _, _, _, _, z1⟩ := hk.2
    obtain ⟨_, _, _, _, _, z2⟩ := hk2.2
    exact Option.some.inj (z1.symm.trans z2)
  subst ecA
  have hq : kB κ ≤ q := (q2.2 (va_pl L (cf (kg κ) w)).length (q, .inl ((kg κ).2 (t - 20), n.toNat, .inr (.inr (.inr (.inr (fun _ => none)))))) (by simp))
  have hq0 : (0 : Int) < (q : Int) := by have := hO.2.2.2.2.2.2.2.2.1; omega
  have e0 : newA w q t n 0 q 0 = (t : Int) := by unfold newA; rw [if_neg (by omega), if_neg (by omega), if_pos ⟨rfl, rfl, rfl⟩]
  have ec : cf (kg κ) (newA w q t n) q = .inl ((kg κ).2 (t - 20), n.toNat, .inr (.inr (.inr (.inr (fun _ => none))))) := by
    rw [cf_refs e0 ht.1 (by omega)]
    have e2 : newA w q t n 2 q 0 = n := by unfold newA; rw [if_neg (by omega), if_pos ⟨rfl, rfl, rfl⟩]
    rw [e2]
    congr 7
    funext j
    have e3 : newA w q t n 3 q j = 0 := by unfold newA; rw [if_pos ⟨rfl, Or.inr rfl⟩]
    rw [e3]; rfl
  obtain ⟨r1, r2⟩ := hadd H1 q (newA w q t n) (by rw [ec]; exact q1) (by rw [ec]; exact q2) (by rw [e0]; omega) (fun b hb => newA_o (by omega)) (fun b hb hb0 => cf_congr (fun k i => newA_o (by omega)) (fun k i _ _ => newA_o (by omega)))
  rw [show (Value.ref q) = rv (q : Int) by rw [rv_pos hq0]; rfl]
  exact kk q hq0 r2 H1 locs la (a + 1) (b + n.toNat) (WI_newA h1 hq0 ⟨by omega, by omega⟩ hin) r1 q3 h4 (by omega) (by omega)
theorem X_alen (np : Nat) (hO : Ok κ own cc) {z : Int} {t : Nat} (ht : w 0 z 0 = (t : Int)) (ht1 : 20 ≤ t ∧ t < 28) (d : decode cc pc = .ok (.arraylength, 1)) (hn : np = pc + 1) (h0 : 0 ≤ w 2 z 0) (kk : IR (w 2 z 0) → X κ P S w np ls (.int (I (w 2 z 0)) :: st)) : X κ P S w pc ls (rv z :: st) := by
  subst hn
  intro H locs la a b h1 h2 h3 h4 h5 h6
  obtain ⟨z0, z1⟩ := zpos h1 ht (by omega)
  rw [rv_pos z0]
  have hi : IR (w 2 z 0) := h1.1 2 z 0 rfl
  have ht' : w 0 (z.toNat : Nat) 0 = (t : Int) := by rw [z1]; exact ht
  obtain ⟨hP, -, -⟩ := h2.tag (a := z.toNat) (by rw [ht']; omega)
  have hz : Int32.ofNat (w 2 (z.toNat : Nat) 0).toNat = I (w 2 z 0) := by
    rw [z1]
    show Int32.ofNat _ = Int32.ofInt _
    rw [← Int32.ofInt_eq_ofNat]; congr 1; omega
  have k := kk hi H locs la a b h1 h2 h3 h4 h5 h6
  have key : ∀ (i0 : Nat) (ty : FieldType) (x : (Nat → Int32) ⊕ (Nat → Int64) ⊕ (Nat → UInt32) ⊕ (Nat → UInt64) ⊕ (Nat → Option Nat)), (tys_ (kg κ))[i0]? = some ((kg κ).2 i0, ty) → cf (kg κ) w z.toNat = .inl ((kg κ).2 i0, ((w 2 (z.toNat : Nat) 0).toNat, x)) → _ := fun i0 ty x e1 e2 => by
    rw [e2] at hP
    exact va_alen hO.1 hO.2.1 hO.2.2.2.2.2.2.1 hP 0 i0 rfl e1 hz d k
  rcases (show t = 20 ∨ t = 21 ∨ t = 22 ∨ t = 23 ∨ t = 24 ∨ t = 25 ∨ t = 26 ∨ t = 27 by omega) with rfl | rfl | rfl | rfl | rfl | rfl | rfl | rfl
  · exact key 0 _ _ rfl (cf_int ht')
  · exact key 1 _ _ rfl (cf_bool ht')
  · exact key 2 _ _ rfl (cf_long ht')
  · exact key 3 _ _ rfl (cf_refs ht' (by decide) (by decide))
  · exact key 4 _ _ rfl (cf_refs ht' (by decide) (by decide))
  · exact key 5 _ _ rfl (cf_refs ht' (by decide) (by decide))
  · exact key 6 _ _ rfl (cf_refs ht' (by decide) (by decide))
  · exact key 7 _ _ rfl (cf_refs ht' (by decide) (by decide))
theorem X_aald (np : Nat) (hO : Ok κ own cc) {z i : Int} {t : Nat} {C : String} (htys : (tys_ (kg κ))[t - 20]? = some ((kg κ).2 (t - 20), .object C)) (ht1 : 23 ≤ t ∧ t < 28) (d : decode cc pc = .ok (.aaload, 1)) (hn : np = pc + 1) (ht : w 0 z 0 = (t : Int)) (hb : 0 ≤ i ∧ i < w 2 z 0) (kk : X κ P S w np ls (rv (w 3 z i) :: st)) : X κ P S w pc ls (.int (I i) :: rv z :: st) := by
  subst hn
  intro H locs la a b h1 h2 h3 h4 h5 h6
  obtain ⟨z0, z1⟩ := zpos h1 ht (by omega)
  rw [rv_pos z0]
  have hi : IR i := by have := h1.1 2 z 0 rfl; omega
  have ht' : w 0 (z.toNat : Nat) 0 = (t : Int) := by rw [z1]; exact ht
  obtain ⟨hP, -, -⟩ := h2.tag (a := z.toNat) (by rw [ht']; omega)
  rw [cf_refs ht' ht1.1 (by omega)] at hP
  refine va_aldq hO.1 hO.2.1 hO.2.2.2.2.2.2.1 hP 0 (t - 20) rfl htys (by rw [z1]; exact I_in hi hb.1 (by omega)) d ?_
  rw [I_clamp hi, z1, show ((i.toNat : Nat) : Int) = i by omega, ro_rf]
  exact kk H locs la a b h1 h2 h3 h4 h5 h6
theorem ro_upd {f f' : Int → Int} {i v : Int} (h0 : 0 ≤ i) (hi : IR i) (h1 : f' i = v) (h2 : ∀ j, j ≠ i → f' j = f j) : (fun j : Nat => ro (f' j)) = va_up (fun j : Nat => ro (f j)) (I i).toNatClampNeg (ro v) := by
  funext j
  rw [I_clamp hi]
  unfold va_up
  by_cases c : j = i.toNat
  · rw [if_pos c, ← h1]; congr 2; omega
  · rw [if_neg c, h2 _ (by omega)]
/-- an object's reference, or null, is stored -/
theorem X_aast (np : Nat) (hO : Ok κ own cc) {z i v : Int} {t tv N : Nat} {C Cv : String} {Tv : u_T} (htys : (tys_ (kg κ))[t - 20]? = some ((kg κ).2 (t - 20), .object C)) (ht1 : 23 ≤ t ∧ t < 28) (htv : 1 ≤ tv ∧ tv < 20) (hcv : cls_[tv - 1]? = some (Cv, Tv, N)) (hcast : (Cv, C) ∈ casts_ ∨ Cv = C) (d : decode cc pc = .ok (.aastore, 1)) (hn : np = pc + 1) (ht : w 0 z 0 = (t : Int)) (hb : 0 ≤ i ∧ i < w 2 z 0) (hv : v = 0 ∨ w 0 v 0 = (tv : Int)) (kk : X κ P S (up w 3 z i v) np ls st) : X κ P S w pc ls (rv v :: .int (I i) :: rv z :: st) := by
  subst hn
  intro H locs la a b h1 h2 h3 h4 h5 h6
  obtain ⟨z0, z1⟩ := zpos h1 ht (by omega)
  rw [rv_pos z0]
  have hi : IR i := by have := h1.1 2 z 0 rfl; omega
  have hw1 : WI (up w 3 z i v) := WI_up h1 (by decide) (fun h => by cases h)
  have ht' : (up w 3 z i v) 0 z 0 = (t : Int) := by rw [up_k w (by decide)]; exact ht
  obtain ⟨L, q0, hL, hP, hD, hq, hset⟩ := h2.set (a := z.toNat) (w1 := up w 3 z i v) (by rw [z1, ht]; omega) (fun b => up_k w (by decide) _ _ _ _ _) (fun b hb hb0 => cf_congr (fun k i => up_a w _ _ (by omega) _ _ _) (fun k i hk2 _ => up_k w (by omega) _ _ _ _ _))
  have hz : w 0 (z.toNat : Nat) 0 = (t : Int) := by rw [z1]; exact ht
  have hz' : (up w 3 z i v) 0 (z.toNat : Nat) 0 = (t : Int) := by rw [z1]; exact ht'
  rw [cf_refs hz ht1.1 (by omega), z1] at hq
  have hin : vp_in (I i) (w 2 z 0).toNat := I_in hi hb.1 (by omega)
  rw [cf_refs hz' ht1.1 (by omega), z1, up_k w (show (2 : Nat) ≠ 3 by decide), ro_upd (f := w 3 z) hb.1 hi (up_s w 3 z i v) (fun j hj => up_i w _ _ _ _ _ hj)] at hset
  by_cases hv0 : v = 0
  · subst hv0
    have e : ro 0 = none := rfl
    rw [e] at hset
    exact va_astqN hO.1 hO.2.1 hO.2.2.2.2.2.2.1 hP hD h3 q0 (t - 20) hq htys hin d (fun H1 l1 q1 q2 q3 => kk H1 l1 la a b hw1 (hset H1 q1 q2) q3 h4 h5 h6)
  · have hv : w 0 v 0 = (tv : Int) := by omega
    obtain ⟨v0, v1⟩ := zpos h1 hv htv.1
    rw [rv_pos v0]
    have hvt : w 0 (v.toNat : Nat) 0 = (tv : Int) := by rw [v1]; exact hv
    have hmem : v.toNat ∈ L := (hL v.toNat).mpr (by rw [hvt]; omega)
    obtain ⟨qk, hqk⟩ := va_pl_get (X := []) (L := L) (f := cf (kg κ) w) hmem
    have hqk : (va_pl L (cf (kg κ) w))[qk]? = some (v.toNat, cf (kg κ) w v.toNat) := hqk
    rw [cf_obj hvt htv.2] at hqk
    have e : ro v = some v.toNat := by unfold ro; rw [if_neg hv0]
    rw [e] at hset
    rcases hcast with hcast | hcast
    · exact va_astqO hO.1 hO.2.1 hO.2.2.2.2.2.2.1 hP hD h3 q0 (t - 20) qk (tv - 1) hq htys (hO.2.2.2.2.2.2.2.2.2.2.2.2.2.2.2.1 (Cv, C) hcast) hqk hcv hin d (fun H1 l1 q1 q2 q3 => kk H1 l1 la a b hw1 (hset H1 q1 q2) q3 h4 h5 h6)
    · subst hcast
      exact va_astq hO.1 hO.2.1 hO.2.2.2.2.2.2.1 hP hD h3 q0 (t - 20) qk (tv - 1) (r := (Cv, Tv, N)) hq htys hqk hcv hin d (fun H1 l1 q1 q2 q3 => kk H1 l1 la a b hw1 (hset H1 q1 q2) q3 h4 h5 h6)
end XR2
