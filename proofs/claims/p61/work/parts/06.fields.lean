/-! fields -/
theorem cf_obj {g : GC} {w : Mm} {a : Nat} {t : Nat} (h : w 0 a 0 = (t : Int)) (ht : t < 20) : cf g w a = .inr (t - 1, (FLd t).map (fv w a)) := by
  unfold cf cfT; rw [h]; simp only [Int.toNat_natCast, if_pos ht]
theorem cf_int {g : GC} {w : Mm} {a : Nat} (h : w 0 a 0 = 20) : cf g w a = .inl (g.2 0, ((w 2 a 0).toNat, .inl (fun j => I (w 1 a j)))) := by
  unfold cf cfT; rw [h]; rfl
theorem cf_bool {g : GC} {w : Mm} {a : Nat} (h : w 0 a 0 = 21) : cf g w a = .inl (g.2 1, ((w 2 a 0).toNat, .inl (fun j => I (w 1 a j)))) := by
  unfold cf cfT; rw [h]; rfl
theorem cf_long {g : GC} {w : Mm} {a : Nat} (h : w 0 a 0 = 22) : cf g w a = .inl (g.2 2, ((w 2 a 0).toNat, .inr (.inl (fun j => Int64.ofInt (w 4 a j))))) := by
  unfold cf cfT; rw [h]; rfl
theorem cf_refs {g : GC} {w : Mm} {a : Nat} {t : Nat} (h : w 0 a 0 = (t : Int)) (h1 : 23 ≤ t) (h2 : t < 100) : cf g w a = .inl (g.2 (t - 20), ((w 2 a 0).toNat, .inr (.inr (.inr (.inr (fun j => ro (w 3 a j))))))) := by
  unfold cf cfT; rw [h]; simp only [Int.toNat_natCast, if_neg (show ¬ t < 20 by omega), if_neg (show ¬ t < 22 by omega), if_neg (show ¬ t = 22 by omega), if_pos h2]
theorem cf_mod {g : GC} {w : Mm} {a : Nat} {t : Nat} (h : w 0 a 0 = (t : Int)) (h1 : 100 ≤ t) : cf g w a = .inl (g.2 0, ((w 2 a 0).toNat, .inl (fun j => I (w (100 + t) 0 j)))) := by
  unfold cf cfT; rw [h]; simp only [Int.toNat_natCast, if_neg (show ¬ t < 20 by omega), if_neg (show ¬ t < 22 by omega), if_neg (show ¬ t = 22 by omega), if_neg (show ¬ t < 100 by omega)]
theorem FLd_nd : ∀ t, t < 20 → ((FLd t).map Prod.fst).Nodup := by decide
theorem FLd_ne {t k k2 : Nat} {x y : Nat × Bool} (ht : t < 20) (hx : (FLd t)[k]? = some x) (hy : (FLd t)[k2]? = some y) (h : k2 ≠ k) : y.1 ≠ x.1 := by
  intro e
  have hn := FLd_nd t ht
  have h1 : ((FLd t).map Prod.fst)[k]? = some x.1 := by rw [List.getElem?_map, hx]; rfl
  have h2 : ((FLd t).map Prod.fst)[k2]? = some y.1 := by rw [List.getElem?_map, hy]; rfl
  rw [e] at h2
  obtain ⟨l1, g1⟩ := List.getElem?_eq_some_iff.mp h1
  obtain ⟨l2, g2⟩ := List.getElem?_eq_some_iff.mp h2
  have hp := List.pairwise_iff_getElem.mp hn
  rcases Nat.lt_trichotomy k2 k with c | c | c
  · exact hp k2 k l2 l1 c (g2.trans g1.symm)
  · exact h c
  · exact hp k k2 l1 l2 c (g1.trans g2.symm)
theorem fv_set {w : Mm} {a v : Int} {t k : Nat} {x : Nat × Bool} (ht : t < 20) (hx : (FLd t)[k]? = some x) : (FLd t).map (fv (up w x.1 a 0 v) a) = ((FLd t).map (fv w a)).set k (if x.2 then rv v else .int (I v)) := by
  apply List.ext_getElem?
  intro j
  rw [List.getElem?_map]
  by_cases c : j = k
  · subst c
    rw [hx, List.getElem?_set_self (by rw [List.length_map]; exact (List.getElem?_eq_some_iff.mp hx).1)]
    simp [fv, up_s]
  · rw [List.getElem?_set_ne (Ne.symm c), List.getElem?_map]
    cases hy : (FLd t)[j]? with
    | none => rfl
    | some y =>
      simp only [Option.map_some, fv, up_k w (FLd_ne ht hx hy c)]
theorem zpos {w : Mm} (h : WI w) {z : Int} {t : Nat} (ht : w 0 z 0 = (t : Int)) (h1 : 1 ≤ t) : 0 < z ∧ ((z.toNat : Nat) : Int) = z := by
  have := (h.2.1 z (by rw [ht]; omega)).1
  omega
section XF
variable {κ : KC} {P S : Nat} {w : Mm} {pc : Nat} {ls : List (Option Value)} {st : List Value} {own : String} {cc : ByteArray}
theorem X_getG (np : Nat) (hO : Ok κ own cc) {z : Int} {t k N ix : Nat} {C ref : String} {T : u_T} {x : Nat × Bool} (ht1 : 1 ≤ t) (ht2 : t < 20) (hc : cls_[t - 1]? = some (C, T, N)) (hx : (FLd t)[k]? = some x) (hk : k < N) (hin : ∀ q ∈ u_ws C T N, q ∈ lwG) (hl : Cond.fieldLink own ix ref (T k).2.1 (T k).2.2.1 ∈ lwG) (hs : ref = (T k).1 ∨ Cond.sameField ref (T k).1 (T k).2.1 (T k).2.2.1 ∈ lwG)
    (d : decode cc pc = .ok (.getfield ix, 3)) (hn : np = pc + 3) (ht : w 0 z 0 = (t : Int)) (kk : X κ P S w np ls (fv w z x :: st)) : X κ P S w pc ls (rv z :: st) := by
  subst hn
  intro H locs la a b h1 h2 h3 h4 h5 h6
  obtain ⟨z0, z1⟩ := zpos h1 ht ht1
  rw [rv_pos z0]
  have ht' : w 0 (z.toNat : Nat) 0 = (t : Int) := by rw [z1]; exact ht
  obtain ⟨hP, -, -⟩ := h2.tag (a := z.toNat) (by rw [ht']; omega)
  rw [cf_obj ht' ht2, z1] at hP
  refine va_get (Ts := lwG) hO.1 hO.2.1 hO.2.2.2.2.1 hin hO.2.2.2.1 hO.2.2.2.2.2.2.1 hP 0 rfl hc k hk (hO.w hl) ?_ (v := fv w z x) ?_ d (kk H locs la a b h1 h2 h3 h4 h5 h6)
  · rcases hs with rfl | hs
    · exact fun _ h => h
    · exact fun y h => u_same (hO.w hs) y h
  · rw [List.getElem?_map, hx]; rfl
theorem X_putG (np : Nat) (hO : Ok κ own cc) {z vv : Int} {t k N ix : Nat} {C ref : String} {T : u_T} {x : Nat × Bool} {tyf : Nat → FieldType} (ht1 : 1 ≤ t) (ht2 : t < 20) (hc : cls_[t - 1]? = some (C, T, N)) (hx : (FLd t)[k]? = some x) (hk : k < N) (hin : ∀ q ∈ u_ws C T N, q ∈ lwG) (hty : ∀ k, k < N → parseFieldDescriptor (T k).2.2.1 = some (tyf k)) (hnm : ∀ a, a < N → ∀ b, b < N → a ≠ b → (T a).2.1 ≠ (T b).2.1) (hl : Cond.fieldLink own ix ref (T k).2.1 (T k).2.2.1 ∈ lwG) (hs : ref = (T k).1 ∨ Cond.sameField ref (T k).1 (T k).2.1 (T k).2.2.1 ∈ lwG)
    (hfin : (T k).2.2.2 = false ∨ ((T k).2.2.2 = true ∧ (kt κ).name = "<init>" ∧ (T k).1 = own)) (hx0 : x.1 ≠ 0) (hx1 : ik x.1 = true → IR vv) (hnar : narrow (tyf k) (if x.2 then rv vv else .int (I vv)) = (if x.2 then rv vv else .int (I vv))) (hfit : fits (tyf k) (if x.2 then rv vv else .int (I vv)) = true)
    (d : decode cc pc = .ok (.putfield ix, 3)) (hn : np = pc + 3) (ht : w 0 z 0 = (t : Int)) (kk : X κ P S (up w x.1 z 0 vv) np ls st) : X κ P S w pc ls ((if x.2 then rv vv else .int (I vv)) :: rv z :: st) := by
  subst hn
  intro H locs la a b h1 h2 h3 h4 h5 h6
  obtain ⟨z0, z1⟩ := zpos h1 ht ht1
  rw [rv_pos z0]
  have ht' : w 0 (z.toNat : Nat) 0 = (t : Int) := by rw [z1]; exact ht
  have hw1 : WI (up w x.1 z 0 vv) := WI_up h1 hx0 hx1
  have hob : cf (kg κ) (up w x.1 z 0 vv) z.toNat = .inr (t - 1, ((FLd t).map (fv w z)).set k (if x.2 then rv vv else .int (I vv))) := by
    rw [cf_obj (t := t) (by rw [up_k w (Ne.symm hx0)]; exact ht') ht2, z1, fv_set ht2 hx]
  obtain ⟨L, q0, -, hP, hD, hq, hset⟩ := h2.set (a := z.toNat) (w1 := up w x.1 z 0 vv) (by rw [ht']; omega) (fun b => up_k w (Ne.symm hx0) _ _ _ _ _) (fun b hb _ => cf_congr (fun k i => up_a w _ _ (by omega) _ _ _) (fun k i _ _ => up_a w _ _ (by omega) _ _ _))
  rw [cf_obj ht' ht2, z1] at hq
  rw [hob] at hset
  have hs' : ∀ y, (ks κ).fieldFound? (T k).1 (T k).2.1 (T k).2.2.1 = some y → (ks κ).fieldFound? ref (T k).2.1 (T k).2.2.1 = some y := by
    rcases hs with rfl | hs
    · exact fun _ h => h
    · exact fun y h => u_same (hO.w hs) y h
  have hlen : k < ((FLd t).map (fv w z)).length := by rw [List.length_map]; exact (List.getElem?_eq_some_iff.mp hx).1
  rcases hfin with hf | ⟨hf, hi, ho⟩
  · exact va_put (Ts := lwG) hO.1 hO.2.1 hO.2.2.2.2.1 hin tyf hty hnm hO.2.2.2.1 hO.2.2.2.2.2.2.1 hP hD h3 q0 hq hc k hk (hO.w hl) hs' hf (hty k hk) hnar hfit hlen d (fun H1 l1 q1 q2 q3 => kk H1 l1 la a b hw1 (hset H1 q1 q2) q3 h4 h5 h6)
  · exact va_putF (Ts := lwG) hO.1 hO.2.1 hO.2.2.2.2.1 hin tyf hty hnm hO.2.2.2.1 hO.2.2.2.2.2.2.1 hP hD h3 q0 hq hc k hk (hO.w hl) hs' hf hi ho (hty k hk) hnar hfit hlen d (fun H1 l1 q1 q2 q3 => kk H1 l1 la a b hw1 (hset H1 q1 q2) q3 h4 h5 h6)
/-! arrays of numbers -/
theorem X_aldG (np : Nat) (hO : Ok κ own cc) {z i : Int} {t : Nat} {f : Int → Int} {i0 : Nat} (ht1 : 1 ≤ t) (ht : w 0 z 0 = (t : Int)) (hf : ∀ a : Nat, (a : Int) = z → cf (kg κ) w a = .inl ((kg κ).2 i0, ((w 2 a 0).toNat, .inl (fun j => I (f j))))) (ins : Instr) (ty : FieldType) (hins : (ins = .iaload ∧ ty = .int) ∨ (ins = .baload ∧ ty = .boolean)) (htys : (tys_ (kg κ))[i0]? = some ((kg κ).2 i0, ty)) (d : decode cc pc = .ok (ins, 1)) (hn : np = pc + 1) (hb : 0 ≤ i ∧ i < w 2 z 0) (kk : X κ P S w np ls (.int (I (f i)) :: st)) : X κ P S w pc ls (.int (I i) :: rv z :: st) := by
  subst hn
  intro H locs la a b h1 h2 h3 h4 h5 h6
  obtain ⟨z0, z1⟩ := zpos h1 ht ht1
  rw [rv_pos z0]
  have hi : IR i := by have := h1.1 2 z 0 rfl; omega
  obtain ⟨hP, -, -⟩ := h2.tag (a := z.toNat) (by rw [z1, ht]; omega)
  rw [hf _ z1] at hP
  have hin : vp_in (I i) (w 2 (z.toNat : Nat) 0).toNat := by rw [z1]; exact I_in hi hb.1 (by omega)
  have e : I (f ((I i).toNatClampNeg : Nat)) = I (f i) := by rw [I_clamp hi]; congr 2; omega
  have k1 := kk H locs la a b h1 h2 h3 h4 h5 h6
  rw [← e] at k1
  rcases hins with ⟨rfl, rfl⟩ | ⟨rfl, rfl⟩
  · exact va_iald (f := fun j => I (f j)) hO.1 hO.2.1 hO.2.2.2.2.2.2.1 hP 0 i0 rfl htys hin d k1
  · exact va_zald (f := fun j => I (f j)) hO.1 hO.2.1 hO.2.2.2.2.2.2.1 hP 0 i0 rfl htys hin d k1
theorem X_iald (np : Nat) (hO : Ok κ own cc) {z i : Int} (d : decode cc pc = .ok (.iaload, 1)) (hn : np = pc + 1) (ht : w 0 z 0 = 20) (hb : 0 ≤ i ∧ i < w 2 z 0) (kk : IR (w 1 z i) → X κ P S w np ls (.int (I (w 1 z i)) :: st)) : X κ P S w pc ls (.int (I i) :: rv z :: st) :=
  X_wi fun hw => X_aldG np hO (t := 20) (f := w 1 z) (i0 := 0) (by omega) ht (fun a ha => by rw [cf_int (by rw [ha]; exact ht), ha]) _ .int (Or.inl ⟨rfl, rfl⟩) rfl d hn hb (kk (hw.1 1 z i rfl))
theorem X_zald (np : Nat) (hO : Ok κ own cc) {z i : Int} (d : decode cc pc = .ok (.baload, 1)) (hn : np = pc + 1) (ht : w 0 z 0 = 21) (hb : 0 ≤ i ∧ i < w 2 z 0) (kk : IR (w 1 z i) → X κ P S w np ls (.int (I (w 1 z i)) :: st)) : X κ P S w pc ls (.int (I i) :: rv z :: st) :=
  X_wi fun hw => X_aldG np hO (t := 21) (f := w 1 z) (i0 := 1) (by omega) ht (fun a ha => by rw [cf_bool (by rw [ha]; exact ht), ha]) _ .boolean (Or.inr ⟨rfl, rfl⟩) rfl d hn hb (kk (hw.1 1 z i rfl))
theorem X_mald (np : Nat) (hO : Ok κ own cc) {z i : Int} {t : Nat} (h1 : Nat.ble 100 t = true) (h2 : ik (100 + t) = true) (d : decode cc pc = .ok (.iaload, 1)) (hn : np = pc + 1) (ht : w 0 z 0 = (t : Int)) (hb : 0 ≤ i ∧ i < w 2 z 0) (kk : IR (w (100 + t) 0 i) → X κ P S w np ls (.int (I (w (100 + t) 0 i)) :: st)) : X κ P S w pc ls (.int (I i) :: rv z :: st) :=
  X_wi fun hw => X_aldG np hO (t := t) (f := w (100 + t) 0) (i0 := 0) (by have := Nat.le_of_ble_eq_true h1; omega) ht (fun a ha => by rw [cf_mod (t := t) (by rw [ha]; exact ht) (Nat.le_of_ble_eq_true h1), ha]) _ .int (Or.inl ⟨rfl, rfl⟩) rfl d hn hb (kk (hw.1 (100 + t) 0 i h2))
theorem I_upd {f f' : Int → Int} {i v : Int} (hi : IR i) (h0 : 0 ≤ i) (h1 : f' i = v) (h2 : ∀ j, j ≠ i → f' j = f j) : (fun j : Nat => I (f' j)) = upd (fun j : Nat => I (f j)) (I i).toNatClampNeg (I v) := by
  funext j
  rw [I_clamp hi]
  unfold upd
  by_cases c : j = i.toNat
  · rw [if_pos c, ← h1]; congr 2; omega
  · rw [if_neg c, h2 j (by omega)]
theorem X_astG (np : Nat) (hO : Ok κ own cc) {z i v : Int} {t i0 : Nat} {kc : Nat} {ac : Int} (ht1 : 1 ≤ t) (ht : w 0 z 0 = (t : Int)) (hf : ∀ (u : Mm) (a : Nat), (a : Int) = z → u 0 z 0 = (t : Int) → cf (kg κ) u a = .inl ((kg κ).2 i0, ((u 2 a 0).toNat, .inl (fun j => I (u kc ac j))))) (hk : kc ≠ 0 ∧ kc ≠ 2) (hac : (ac = z ∧ kc < 200) ∨ (ac = 0 ∧ kc = 100 + t ∧ 100 ≤ t)) (hv : IR v) (ins : Instr) (ty : FieldType) (hins : (ins = .iastore ∧ ty = .int) ∨ (ins = .bastore ∧ ty = .boolean ∧ (v = 0 ∨ v = 1))) (htys : (tys_ (kg κ))[i0]? = some ((kg κ).2 i0, ty)) (d : decode cc pc = .ok (ins, 1)) (hn : np = pc + 1) (hb : 0 ≤ i ∧ i < w 2 z 0) (kk : X κ P S (up w kc ac i v) np ls st) : X κ P S w pc ls (.int (I v) :: .int (I i) :: rv z :: st) := by
  subst hn
  intro H locs la a b h1 h2 h3 h4 h5 h6
  obtain ⟨z0, z1⟩ := zpos h1 ht ht1
  rw [rv_pos z0]
  have hi : IR i := by have := h1.1 2 z 0 rfl; omega
  have hw1 : WI (up w kc ac i v) := WI_up h1 hk.1 (fun _ => hv)
  have ht' : (up w kc ac i v) 0 z 0 = (t : Int) := by rw [up_k w (Ne.symm hk.1)]; exact ht
  obtain ⟨L, q0, hL, hP, hD, hq, hset⟩ := h2.set (a := z.toNat) (w1 := up w kc ac i v) (by rw [z1, ht]; omega) (fun b => up_k w (Ne.symm hk.1) _ _ _ _ _) (fun b hb hb0 => by
    rcases hac with ⟨rfl, hlt⟩ | ⟨rfl, rfl, hge⟩
    · exact cf_congr (fun k i => up_a w _ _ (by omega) _ _ _) (fun k i hk2 _ => up_k w (by omega) _ _ _ _ _)
    · have hbp : (0 : Int) < b := (h1.2.1 _ hb0).1
      refine cf_congr (fun k i => up_a w _ _ (by omega) _ _ _) (fun k i hk2 hk3 => up_k w (fun e => ?_) _ _ _ _ _)
      have e1 : w 0 b 0 = w 0 z 0 := by
        have := (h1.2.1 _ hb0).2
        rw [ht]; omega
      have := h1.2.2 _ _ e1 (by rw [e1, ht]; omega)
      omega)
  rw [hf w _ z1 ht] at hq
  rw [hf _ _ z1 ht', up_k w (show (2 : Nat) ≠ kc from Ne.symm hk.2), I_upd (f := w kc ac) hi hb.1 (up_s w kc ac i v) (fun j hj => up_i w _ _ _ _ _ hj)] at hset
  have hin : vp_in (I i) (w 2 (z.toNat : Nat) 0).toNat := by rw [z1]; exact I_in hi hb.1 (by omega)
  rcases hins with ⟨rfl, rfl⟩ | ⟨rfl, rfl, h01⟩
  · exact va_iast (f := fun j => I (w kc ac j)) hO.1 hO.2.1 hO.2.2.2.2.2.2.1 hP hD h3 q0 i0 hq htys hin d (fun H1 l1 q1 q2 q3 => kk H1 l1 la a b hw1 (hset H1 q1 q2) q3 h4 h5 h6)
  · have en : vp_nar .boolean (I v) = I v := by rcases h01 with rfl | rfl <;> rfl
    exact va_zast (f := fun j => I (w kc ac j)) hO.1 hO.2.1 hO.2.2.2.2.2.2.1 hP hD h3 q0 i0 hq htys hin d (fun H1 l1 q1 q2 q3 => kk H1 l1 la a b hw1 (hset H1 (by rw [en] at q1; exact q1) (by rw [en] at q2; exact q2)) q3 h4 h5 h6)
theorem X_iast (np : Nat) (hO : Ok κ own cc) {z i v : Int} (d : decode cc pc = .ok (.iastore, 1)) (hn : np = pc + 1) (ht : w 0 z 0 = 20) (hb : 0 ≤ i ∧ i < w 2 z 0) (hv : IR v) (kk : X κ P S (up w 1 z i v) np ls st) : X κ P S w pc ls (.int (I v) :: .int (I i) :: rv z :: st) :=
  X_astG np hO (t := 20) (i0 := 0) (kc := 1) (ac := z) (by omega) ht (fun u a ha hu => by rw [cf_int (by rw [ha]; exact hu), ha]) (by decide) (Or.inl ⟨rfl, by omega⟩) hv _ .int (Or.inl ⟨rfl, rfl⟩) rfl d hn hb kk
theorem X_zast (np : Nat) (hO : Ok κ own cc) {z i v : Int} (d : decode cc pc = .ok (.bastore, 1)) (hn : np = pc + 1) (ht : w 0 z 0 = 21) (hb : 0 ≤ i ∧ i < w 2 z 0) (hv : v = 0 ∨ v = 1) (kk : X κ P S (up w 1 z i v) np ls st) : X κ P S w pc ls (.int (I v) :: .int (I i) :: rv z :: st) :=
  X_astG np hO (t := 21) (i0 := 1) (kc := 1) (ac := z) (by omega) ht (fun u a ha hu => by rw [cf_bool (by rw [ha]; exact hu), ha]) (by decide) (Or.inl ⟨rfl, by omega⟩) (by omega) _ .boolean (Or.inr ⟨rfl, rfl, hv⟩) rfl d hn hb kk
theorem X_mast (np : Nat) (hO : Ok κ own cc) {z i v : Int} {t : Nat} (h1 : Nat.ble 100 t = true) (d : decode cc pc = .ok (.iastore, 1)) (hn : np = pc + 1) (ht : w 0 z 0 = (t : Int)) (hb : 0 ≤ i ∧ i < w 2 z 0) (hv : IR v) (kk : X κ P S (up w (100 + t) 0 i v) np ls st) : X κ P S w pc ls (.int (I v) :: .int (I i) :: rv z :: st) :=
  have h1' := Nat.le_of_ble_eq_true h1
  X_astG np hO (t := t) (i0 := 0) (kc := 100 + t) (ac := 0) (by omega) ht (fun u a ha hu => by rw [cf_mod (t := t) (by rw [ha]; exact hu) h1', ha]) ⟨by omega, by omega⟩ (Or.inr ⟨rfl, rfl, h1'⟩) hv _ .int (Or.inl ⟨rfl, rfl⟩) rfl d hn hb kk
end XF
