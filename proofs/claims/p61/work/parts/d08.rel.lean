/-! p61: rows of the law: a method that reads the script, methods with handlers, numbers -/
def SCR (κ : KC) (b L : Nat) (xs : Nat → Int32) : Prop := va_X b L xs (ks κ) (ks κ).heap ∧ b < (ks κ).heap.size ∧ b < kB κ ∧ L ≤ 2560
def XS (γ : LC) (b L : Nat) (xs : Nat → Int32) (w : Mm) (U : State) : Prop := XU γ w U ∧ va_X b L xs U U.heap ∧ b < U.heap.size ∧ b < γ.2.2
def MS (γ : LC) (b L : Nat) (xs : Nat → Int32) (d : Nat) (mr : MR) (args : List Value) (w : Mm) (P S : Nat) (Post : Option Value → Mm → Prop) : Prop :=
  vx_Met γ.1 mr.1 (wsM mr) (rmD d P S) (va_Pc args (XS γ b L xs w)) (QR γ Post) (QX γ NX) P S (aB γ.2.2)
theorem MS_of {γ : LC} {b0 L : Nat} {xs : Nat → Int32} (hL : L ≤ 2560) {d P S : Nat} {mr : MR} {own : String} {args : List Value} {w : Mm} {Post : Option Value → Mm → Prop} (hy : plainName mr.1.cls = true) (hown : mr.1.cls = own) (hc : ∀ v ∈ args, v.category = 1) (hlen : Nat.ble args.length mr.2.2.1 = true)
    (body : ∀ κ : KC, Ok κ own mr.2.1 → Fn κ mr d P S Post NX → γof κ = γ → SCR κ b0 L xs → X κ P S w 0 (args.map some ++ List.replicate (mr.2.2.1 - args.length) none) []) : MS γ b0 L xs d mr args w P S Post := by
  obtain ⟨l, g, b⟩ := γ
  obtain ⟨y, cc, maxL, ret⟩ := mr
  dsimp only at hy hown hlen body
  refine vx_ofW (cc := cc) (maxL := maxL) (ret := ret) hy rfl ?_
  intro p e s m a0 below meth c s₁ B hml ht hP
  obtain ⟨rfl, ⟨⟨hW, hH⟩, hE⟩, hX, hbl, hbA⟩ := hP
  have hts : ∀ q ∈ wsM (y, cc, maxL, ret), q.before args.toArray s = true := atoms_spec (ws := wsM (y, cc, maxL, ret)) B.pre
  have hO : Ok (((p, l, e, (headSpec (wsM (y, cc, maxL, ret)) (rmD d P S)).room), (s, m, args.toArray, below), (meth, c, maxL), vx_MQ below (QR (l, g, b) Post) (QX (l, g, b) NX) args.toArray s P S (aB b), g, b) : KC) own cc := by
    refine ⟨B.exec, B.bytes, hml, ?_, fun q hq => hts q (List.mem_cons_of_mem _ hq), B.notSynchronized, hE.2.1, hE.2.2.2.2.2.2.2.2.2.2.2.1, hE.2.2.2.2.2.2.2.2.2.2.2.2.1, hE⟩
    rw [← hown]; exact findClass_of_methodNamed B.named
  have hF : Fn (((p, l, e, (headSpec (wsM (y, cc, maxL, ret)) (rmD d P S)).room), (s, m, args.toArray, below), (meth, c, maxL), vx_MQ below (QR (l, g, b) Post) (QX (l, g, b) NX) args.toArray s P S (aB b), g, b) : KC) (y, cc, maxL, ret) d P S Post NX := ⟨rfl, B.returns, rfl, ht, (name_of_methodNamed B.named B.method).1⟩
  have k := body _ hO hF rfl ⟨hX, hbl, hbA, hL⟩
  rw [lg_entry_eq]
  exact k s.heap [] _ 0 0 hW hH va_S.rf (LV_entry args hc (Nat.le_of_ble_eq_true hlen)) (by show 0 + P ≤ P; omega) (by show 0 + S ≤ S; omega)
theorem Pc_blindS {γ : LC} {b L : Nat} {xs : Nat → Int32} {args : List Value} {w : Mm} : FrameBlind (va_Pc args (XS γ b L xs w)) := by
  intro a U g mk ⟨e, h1, h2, h3, h4⟩
  obtain ⟨e', h1'⟩ := Pc_blind (γ := γ) (args := args) (w := w) a U g mk ⟨e, h1⟩
  exact ⟨e', h1', va_X.moved (u := U) (U := U.calling g mk a) (Vm.Alike.refl U.vm) h2, h3, h4⟩
def KW (γ : LC) (d : Nat) (mr : MR) (hh : List (Nat × Nat × Nat × Nat)) (args : List Value) (w : Mm) (P S : Nat) (Post : Int → Mm → Prop) : Prop := MXW γ d mr hh args w P S (fun v w' => ∃ r, v = some (.int (I r)) ∧ IR r ∧ Post r w')
section XLS
variable {κ : KC} {P S : Nat} {w : Mm} {pc : Nat} {ls : List (Option Value)} {st : List Value} {own : String} {cc : ByteArray} {mr : MR} {hh : List (Nat × Nat × Nat × Nat)} {d P0 S0 : Nat} {Post : Option Value → Mm → Prop}
theorem Pc_atS {b L : Nat} {xs : Nat → Int32} {As : List Value} {H : Heap} {locs : List Loc} (hO : Ok κ own cc) (hs : SCR κ b L xs) (h1 : WI w) (h2 : XH (kg κ) (aB (kB κ)) w H) (h3 : va_S (aB (kB κ)) (ks κ).heap H locs) : ∀ U : State, U.heap = H → (ks κ).WarmedH U.vm → va_Pc As (XS (γof κ) b L xs w) As.toArray U := fun U hU hW => by
  obtain ⟨q1, q2⟩ := Pc_at (As := As) hO h1 h2 h3 U hU hW
  obtain ⟨s1, s2, s3, -⟩ := hs
  refine ⟨q1, q2, ?_, ?_, s3⟩
  · rw [hU]
    exact (s1.moved hW.alike).kept (h3.2.1 b s2 (Nat.not_le.mpr s3))
  · rw [hU]; exact Nat.lt_of_lt_of_le s2 h3.1
theorem X_callC (np : Nat) (hO : Ok κ own cc) (hD : Dp κ d) {b L : Nat} {xs : Nat → Int32} (hs : SCR κ b L xs) {ix n : Nat} {mr : MR} (hL : LkS own ix mr n) {d1 P1 S1 : Nat} {Post1 : Option Value → Mm → Prop} (As : List Value) {rest : List Value} (hn' : As.length = n) (dg : decode cc pc = .ok (.invokestatic ix, 3)) (hn : np = pc + 3) (hM : MS (γof κ) b L xs d1 mr As w P1 S1 Post1) (hd : d1 + 1 ≤ d) (hrest : (rest.map fun v => v.category).sum ≤ 8) (hP : P1 ≤ P) (hS : S1 ≤ S)
    (kk : ∀ v w', Post1 v w' → X κ (P - P1) (S - S1) w' np ls (v.toList ++ rest)) : X κ P S w pc ls (As.reverse ++ rest) := by
  refine X_ofRun hn hP hS (fun H locs la a b h1 h2 h3 h4 h5 h6 => ⟨_, vx_runS (Ts := lwG) (own := own) (nL := kn κ) ⟨hO.1, hO.2.1, hO.2.2.1, hO.2.2.2.1, hO.2.2.2.2.1⟩ hM (va_cwS n hO.2.2.2.2.1 ?_ rfl rfl rfl hL.2.2.2.2.1 ?_) ⟨Pc_blindS, Pc_atS hO hs h1 h2 h3⟩ rfl hn' h4.1 rfl (lv_room hrest) dg ⟨by omega, by omega⟩⟩) kk (fun _ _ h => h.elim)
  · intro q hq
    rcases List.mem_append.mp hq with hq | hq
    · rcases List.mem_cons.mp hq with rfl | hq
      · exact lwG_good hL.2.1
      · rcases List.mem_cons.mp hq with rfl | hq
        · exact lwG_good hL.2.2.1
        · rcases List.mem_cons.mp hq with rfl | hq
          · exact lwG_good hL.2.2.2.1
          · cases hq
    · exact wsM_good hL.1 q hq
  · have := hL.2.2.2.2.2
    exact ⟨by show d1 + 1 ≤ _; have := hD.1; omega, by show 8 + (mr.2.2.1 + 11) + 64 * d1 ≤ _; have := hD.2; omega⟩
theorem X_kWi (np : Nat) (hO : Ok κ own cc) (hD : Dp κ d) {ix n : Nat} {mr : MR} (hL : LkW own ix mr hh n) {d1 P1 S1 : Nat} {Post1 : Int → Mm → Prop} (As : List Value) {rest : List Value} (hn' : As.length = n) (dg : decode cc pc = .ok (.invokestatic ix, 3)) (hn : np = pc + 3) (hM : KW (γof κ) d1 mr hh As w P1 S1 Post1) (hd : d1 + 1 ≤ d) (hrest : (rest.map fun v => v.category).sum ≤ 8) (hP : P1 ≤ P) (hS : S1 ≤ S)
    (kk : ∀ r w', IR r → Post1 r w' → X κ (P - P1) (S - S1) w' np ls (.int (I r) :: rest)) : X κ P S w pc ls (As.reverse ++ rest) :=
  X_callSX np hO hD hL As hn' dg hn hM hd hrest hP hS (fun v w' ⟨r, hv, hi, hp⟩ => by subst hv; exact kk r w' hi hp)
/-- c ? 1 : 0, c true -/
theorem X_tru {g : Int} (np en : Nat) (hO : Ok κ own cc) (d1 : decode cc pc = .ok (.iconst 1, 1)) (hn : np = pc + 1) (d2 : decode cc np = .ok (.goto g, 3)) (hg : (np : Int) + g = (en : Int)) (k : X κ P S w en ls (.int (I 1) :: st)) : X κ P S w pc ls st :=
  X_iconst np hO d1 hn (X_goto hO d2 hg k)
end XLS
theorem bits31 (v : Int) : ∃ z, I v &&& I 2147483647 = I z ∧ 0 ≤ z ∧ z ≤ 2147483647 := by
  refine ⟨(I v &&& I 2147483647).toInt, (I_of _).symm, ?_⟩
  have h : ((I v &&& I 2147483647).toBitVec).toNat ≤ 2147483647 := by
    show ((I v).toBitVec &&& 2147483647#32).toNat ≤ 2147483647
    rw [BitVec.toNat_and]
    show (I v).toBitVec.toNat &&& 2147483647 ≤ 2147483647
    exact Nat.and_le_right
  show 0 ≤ (I v &&& I 2147483647).toBitVec.toInt ∧ (I v &&& I 2147483647).toBitVec.toInt ≤ 2147483647
  rw [BitVec.toInt_eq_toNat_cond]
  rw [if_pos (by omega)]
  omega
theorem I_remn {x n : Int} (hx : 0 ≤ x) (hb : x < 2147483648) (hn : 1 ≤ n) (hn2 : n < 2147483648) : I x - I x / I n * I n = I (x % n) := by
  obtain ⟨a, rfl⟩ := Int.eq_ofNat_of_zero_le hx
  obtain ⟨m, rfl⟩ := Int.eq_ofNat_of_zero_le (show 0 ≤ n by omega)
  rw [← nI_I, ← nI_I, pk_rem (by omega) (by omega) (by omega), nI_I]
  push_cast
  rfl
theorem I_nz {n : Int} (hn : 1 ≤ n) (hn2 : n < 2147483648) : ¬ I n = 0 := by
  rw [show (0 : Int32) = I 0 from rfl, I_eq (by omega) (by omega)]; omega
theorem I_any (x : Int32) : ∃ z, x = I z ∧ IR z := ⟨x.toInt, (I_of _).symm, I_rng x⟩
