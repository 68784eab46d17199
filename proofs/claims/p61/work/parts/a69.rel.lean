/-! ROWS OF THE CLASS: class objects, the list's first array -/
theorem EV.pt {γ : LC} {U : State} {H : Heap} (h : EV γ U H) : va_Mi "[Ljava/lang/Object;" (γ.2.1.2 8) U ∧ (∀ x ∈ decls_, va_Nw (.declares x) U) ∧ va_Z RJx4a65c DCE "[Ljava/lang/Object;" (.ref (γ.2.1.2 9)) (aB γ.2.2) U H ∧ va_T (.object "java/lang/Object") (γ.2.1.2 9) 0 (fun _ => .null) (aB γ.2.2) U H := by
  obtain ⟨h0, h1, h2, h3, h4, h5, h6, h7, h8, h9, h10, h11, h12, e, h13, h14, h17, h18⟩ := h
  subst h18
  exact ⟨h17, h10, h13, h14⟩
/-- the number of an address that may be 0 -/
def eN (e : Nat) : Int := if e = 0 then -1 else (e : Int)
theorem rv_eN (e : Nat) : rv (eN e) = .ref e := by
  unfold eN
  cases e with
  | zero => rfl
  | succ n => rw [if_neg (Nat.succ_ne_zero n), rv_pos (by omega)]; rfl
section XK6
variable {κ : KC} {P S : Nat} {w : Mm} {pc : Nat} {ls : List (Option Value)} {st : List Value} {own : String} {cc : ByteArray} {d : Nat}
theorem Ok.ev (hO : Ok κ own cc) : EV (kl κ, kg κ, kB κ) (ks κ) (ks κ).heap := hO.2.2.2.2.2.2.2.2.2
theorem X_ldcM (np : Nat) (hO : Ok κ own cc) {ix : Nat} (hl : Cond.classLink own ix "[Ljava/lang/Object;" ∈ lwG) (dg : decode cc pc = .ok (.ldc ix, 2)) (hn : np = pc + 2) (kk : X κ P S w np ls (.ref ((kg κ).2 8) :: st)) : X κ P S w pc ls st := by
  subst hn
  intro H locs la a b h1 h2 h3 h4 h5 h6
  exact va_ldcM hO.1 hO.2.1 hO.2.2.2.1 (hO.w hl) hO.ev.pt.1 dg (kk H locs la a b h1 h2 h3 h4 h5 h6)
theorem X_getC (np : Nat) (hO : Ok κ own cc) {ix : Nat} (hl : Cond.methodLink own ix ⟨"java/lang/Object", "getClass", "()Ljava/lang/Class;"⟩ ∈ lwG) {z : Int} (tz : w 0 z 0 = 27) (hD : Dp κ d) (hd : 1 ≤ d) (hrest : (st.map fun v => v.category).sum ≤ 8) (dg : decode cc pc = .ok (.invokevirtual ix, 3)) (hn : np = pc + 3) (kk : X κ P S w np ls (.ref ((kg κ).2 8) :: st)) : X κ P S w pc ls (rv z :: st) := by
  subst hn
  intro H locs la a b h1 h2 h3 h4 h5 h6
  obtain ⟨z0, z1⟩ := zpos h1 (t := 27) tz (by decide)
  rw [rv_pos z0]
  have tz' : w 0 (z.toNat : Nat) 0 = ((27 : Nat) : Int) := by rw [z1]; exact tz
  obtain ⟨hP, -, -⟩ := h2.tag (a := z.toNat) (by rw [tz']; decide)
  rw [cf_refs tz' (by decide) (by decide)] at hP
  have hc := hP 0 _ rfl
  have hK := hO.2.2.2.2.2.2.1.2 7 ((kg κ).2 7, .object "java/lang/Object") rfl
  have hnm : (ks κ).vm.findClass "[Ljava/lang/Object;" = some ((kg κ).2 7) := va_nmO hK.2 (by decide)
  exact va_getC hO.1 hO.2.1 (hO.2.2.1.trans h4.1.symm) hO.2.2.2.1 (hO.w hl) (va_Nw.use rfl (hO.ev.pt.2.1 _ (by decide))) (hO.w w_2350) (hO.w w_365) (hO.w w_385) hO.ev.pt.1 ⟨_, hc, rfl, hnm⟩ (by have := hD.1; omega) (by have := hD.2; omega) dg (kk H locs la a b h1 h2 h3 h4 h5 h6)
theorem X_acmp_neR {off : Int} {n : Nat} (np : Nat) (tgt : Nat) (hO : Ok κ own cc) (d : decode cc pc = .ok (.if_acmp .ne off, 3)) (ht : (pc : Int) + off = (tgt : Int)) (hn : np = pc + 3) (kf : X κ P S w np ls st) : X κ P S w pc ls (.ref n :: .ref n :: st) := by
  subst hn
  intro H locs la a b h1 h2 h3 h4 h5 h6
  rw [show (Value.ref n) = va_rf (some n) from rfl]
  exact lv_acmp_ne hO.1 hO.2.1 d ht (fun c => absurd rfl c) (fun _ => kf H locs la a b h1 h2 h3 h4 h5 h6)
/-- the list's first array, which no world shows -/
theorem X_gsE (np : Nat) (hO : Ok κ RJx4a65c cc) (dg : decode cc pc = .ok (.getstatic 39, 3)) (hn : np = pc + 3) (kk : X κ P S w np ls (rv (eN ((kg κ).2 9)) :: st)) : X κ P S w pc ls st := by
  subst hn
  intro H locs la a b h1 h2 h3 h4 h5 h6
  have hp := hO.ev.pt.2.2
  have k := kk H locs la a b h1 h2 h3 h4 h5 h6
  rw [rv_eN] at k
  exact va_gets hO.1 hO.2.1 hp.1 h3 hO.2.2.2.1 (hO.w w_270) (fun _ h => h) dg k
theorem X_alenE (np : Nat) (hO : Ok κ own cc) (d : decode cc pc = .ok (.arraylength, 1)) (hn : np = pc + 1) (kk : X κ P S w np ls (.int (I 0) :: st)) : X κ P S w pc ls (rv (eN ((kg κ).2 9)) :: st) := by
  subst hn
  intro H locs la a b h1 h2 h3 h4 h5 h6
  rw [rv_eN]
  exact va_tlen hO.1 hO.2.1 hO.ev.pt.2.2.2 h3 (v := I 0) rfl d (kk H locs la a b h1 h2 h3 h4 h5 h6)
theorem X_acmp_eqS {off : Int} {n : Nat} (tgt : Nat) (hO : Ok κ own cc) (d : decode cc pc = .ok (.if_acmp .eq off, 3)) (ht : (pc : Int) + off = (tgt : Int)) (k : X κ P S w tgt ls st) : X κ P S w pc ls (rv (eN n) :: rv (eN n) :: st) := by
  intro H locs la a b h1 h2 h3 h4 h5 h6
  rw [rv_eN, show (Value.ref n) = va_rf (some n) from rfl]
  exact lv_acmp_eq hO.1 hO.2.1 d ht (fun _ => k H locs la a b h1 h2 h3 h4 h5 h6) (fun c => absurd rfl c)
theorem X_aload_nR (np : Nat) (hO : Ok κ own cc) {j : Fin 4} {n : Nat} (d : decode cc pc = .ok (.aload_n j, 1)) (hn : np = pc + 1) (hl : lget ls (j : Nat) = some (.ref n)) (k : X κ P S w np ls (.ref n :: st)) : X κ P S w pc ls st := by
  subst hn
  intro H locs la a b h1 h2 h3 h4 h5 h6
  exact lv_aload_n hO.1 hO.2.1 d rfl (h4.2.2.2 _ _ hl).1 (k H locs la a b h1 h2 h3 h4 h5 h6)
end XK6
