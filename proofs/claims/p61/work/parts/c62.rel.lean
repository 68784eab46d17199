/-! ROWS OF THE LAW: longs, the script, handlers, a static method with handlers; an array of the reference gets its tag -/
/-- an array of longs comes, its numbers 0 -/
def newL (w : Mm) (q n : Int) : Mm := fun k a i => if k = 4 ∧ a = q then 0 else newA w q 22 n k a i
def wsW (mr : MR) (hh : List (Nat × Nat × Nat × Nat)) : List Cond := .codeWith mr.1 mr.2.1 mr.2.2.1 mr.2.2.2 hh :: lwG
/-- the contract of a method with handlers that throws nothing -/
def MXW (γ : LC) (d : Nat) (mr : MR) (hh : List (Nat × Nat × Nat × Nat)) (args : List Value) (w : Mm) (P S : Nat) (Post : Option Value → Mm → Prop) : Prop :=
  vx_Met γ.1 mr.1 (wsW mr hh) (rmD d P S) (va_Pc args (XU γ w)) (QR γ Post) (QX γ NX) P S (aB γ.2.2)
def FnW (κ : KC) (mr : MR) (hh : List (Nat × Nat × Nat × Nat)) (d P S : Nat) (Post : Option Value → Mm → Prop) : Prop :=
  kQ κ = vx_MQ (kb κ) (QR (γof κ) Post) (QX (γof κ) NX) (ka κ) (ks κ) P S (aB (kB κ)) ∧ (kt κ).sig.returnType = mr.2.2.2 ∧ kR κ = rmD d P S ∧ (kc κ).exceptionTable.toList = tableOf hh
theorem FnW.dp {κ : KC} {mr : MR} {hh : List (Nat × Nat × Nat × Nat)} {d P S : Nat} {Post : Option Value → Mm → Prop} (h : FnW κ mr hh d P S Post) : Dp κ d := by
  obtain ⟨-, -, h, -⟩ := h
  unfold Dp; rw [h]; exact ⟨Nat.le_refl _, Nat.le_refl _⟩
theorem MXW_of {γ : LC} {d P S : Nat} {mr : MR} {hh : List (Nat × Nat × Nat × Nat)} {own : String} {args : List Value} {w : Mm} {Post : Option Value → Mm → Prop} (hy : plainName mr.1.cls = true) (hown : mr.1.cls = own) (hc : ∀ v ∈ args, v.category = 1) (hlen : Nat.ble args.length mr.2.2.1 = true)
    (body : ∀ κ : KC, Ok κ own mr.2.1 → FnW κ mr hh d P S Post → γof κ = γ → X κ P S w 0 (args.map some ++ List.replicate (mr.2.2.1 - args.length) none) []) : MXW γ d mr hh args w P S Post := by
  obtain ⟨l, g, b⟩ := γ
  obtain ⟨y, cc, maxL, ret⟩ := mr
  dsimp only at hy hown hlen body
  refine vx_ofWH (cc := cc) (maxL := maxL) (ret := ret) (hh := hh) hy rfl ?_
  intro p e s m a0 below meth c s₁ B hml hP
  obtain ⟨rfl, ⟨hW, hH⟩, hE⟩ := hP
  have hts : ∀ q ∈ wsW (y, cc, maxL, ret) hh, q.before args.toArray s = true := atoms_spec (ws := wsW (y, cc, maxL, ret) hh) B.pre
  have ht := vx_table (x := y) B (hts _ List.mem_cons_self)
  have hO : Ok (((p, l, e, (headSpec (wsW (y, cc, maxL, ret) hh) (rmD d P S)).room), (s, m, args.toArray, below), (meth, c, maxL), vx_MQ below (QR (l, g, b) Post) (QX (l, g, b) NX) args.toArray s P S (aB b), g, b) : KC) own cc := by
    refine ⟨B.exec, B.bytes, hml, ?_, fun q hq => hts q (List.mem_cons_of_mem _ hq), B.notSynchronized, hE.2.1, hE.2.2.2.2.2.2.2.2.2.2.2.1, hE.2.2.2.2.2.2.2.2.2.2.2.2.1, hE⟩
    rw [← hown]; exact findClass_of_methodNamed B.named
  have hF : FnW (((p, l, e, (headSpec (wsW (y, cc, maxL, ret) hh) (rmD d P S)).room), (s, m, args.toArray, below), (meth, c, maxL), vx_MQ below (QR (l, g, b) Post) (QX (l, g, b) NX) args.toArray s P S (aB b), g, b) : KC) (y, cc, maxL, ret) hh d P S Post := ⟨rfl, B.returns, rfl, ht⟩
  have k := body _ hO hF rfl
  rw [lg_entry_eq]
  exact k s.heap [] _ 0 0 hW hH va_S.rf (LV_entry args hc (Nat.le_of_ble_eq_true hlen)) (by show 0 + P ≤ P; omega) (by show 0 + S ≤ S; omega)
theorem wsW_good {mr : MR} {hh : List (Nat × Nat × Nat × Nat)} (h : Cond.codeWith mr.1 mr.2.1 mr.2.2.1 mr.2.2.2 hh ∈ lwG) : GoodIn lwG (wsW mr hh) := by
  intro w hw
  rcases List.mem_cons.mp hw with rfl | hw
  · exact lwG_good h
  · exact lwG_good hw
def LkW (own : String) (ix : Nat) (mr : MR) (hh : List (Nat × Nat × Nat × Nat)) (n : Nat) : Prop :=
  Cond.codeWith mr.1 mr.2.1 mr.2.2.1 mr.2.2.2 hh ∈ lwG ∧ Cond.methodLink own ix mr.1 ∈ lwG ∧ Cond.static mr.1 ∈ lwG ∧ Cond.initialized mr.1.cls ∈ lwG ∧ (mr.1.cls ≠ "java/lang/invoke/MethodHandle" ∧ mr.1.cls ≠ "java/lang/invoke/VarHandle" ∧ (parseMethodDescriptor mr.1.desc).map (fun d => d.parameters.length) = some n) ∧ mr.2.2.1 ≤ 45
theorem newL_o {w : Mm} {q n : Int} {k : Nat} {a i : Int} (h : a ≠ q) : newL w q n k a i = w k a i := by unfold newL; rw [if_neg (fun c => h c.2), newA_o h]
theorem WI_newL {w : Mm} {q n : Int} (h : WI w) (hq : 0 < q) (hn : IR n) : WI (newL w q n) := by
  have g := WI_newA (t := 22) h hq (by decide) hn
  have e : ∀ z, newL w q n 0 z 0 = newA w q 22 n 0 z 0 := fun z => by unfold newL; rw [if_neg (by omega)]
  refine ⟨fun k a i hk => ?_, fun z hz => ?_, fun a b e1 h1 => ?_⟩
  · unfold newL
    by_cases c : k = 4 ∧ a = q
    · rw [if_pos c]; omega
    · rw [if_neg c]; exact g.1 k a i hk
  · rw [e] at hz ⊢; exact g.2.1 z hz
  · rw [e, e] at e1
    rw [e] at h1
    exact g.2.2 a b e1 h1
section XLW
variable {κ : KC} {P S : Nat} {w : Mm} {pc : Nat} {ls : List (Option Value)} {st : List Value} {own : String} {cc : ByteArray} {mr : MR} {hh : List (Nat × Nat × Nat × Nat)} {d P0 S0 : Nat} {Post : Option Value → Mm → Prop}
theorem X_lcmpE (np : Nat) (hO : Ok κ own cc) {x : Int64} (d : decode cc pc = .ok (.lcmp, 1)) (hn : np = pc + 1) (kk : X κ P S w np ls (.int (I 0) :: st)) : X κ P S w pc ls (.long x :: .long x :: st) := by
  subst hn
  intro H locs la a b h1 h2 h3 h4 h5 h6
  have e : lg_cmp x x = I 0 := by rw [I_0]; simp [lg_cmp]
  exact W.lcmp hO.1 hO.2.1 d (by rw [e]; exact kk H locs la a b h1 h2 h3 h4 h5 h6)
theorem X_sld (np : Nat) (hO : Ok κ own cc) {b L : Nat} {xs : Nat → Int32} (hX : va_X b L xs (ks κ) (ks κ).heap) (hbl : b < (ks κ).heap.size) (hbA : b < kB κ) {i : Int} (hi : 0 ≤ i ∧ i < L) (hL : L ≤ 2560) (d : decode cc pc = .ok (.iaload, 1)) (hn : np = pc + 1) (kk : ∀ v, v = (xs i.toNat).toInt → IR v → X κ P S w np ls (.int (I v) :: st)) : X κ P S w pc ls (.int (I i) :: .ref b :: st) := by
  subst hn
  intro H locs la a k h1 h2 h3 h4 h5 h6
  have hir : IR i := by omega
  refine va_sld hO.1 hO.2.1 hX hbl (Nat.not_le.mpr hbA) h3 (I_in hir hi.1 hi.2) d ?_
  rw [I_clamp hir, ← I_of (xs i.toNat)]
  exact kk _ rfl (I_rng _) H locs la a k h1 h2 h3 h4 h5 h6
theorem X_slen (np : Nat) (hO : Ok κ own cc) {b L : Nat} {xs : Nat → Int32} (hX : va_X b L xs (ks κ) (ks κ).heap) (hbl : b < (ks κ).heap.size) (hbA : b < kB κ) (d : decode cc pc = .ok (.arraylength, 1)) (hn : np = pc + 1) (kk : X κ P S w np ls (.int (I L) :: st)) : X κ P S w pc ls (.ref b :: st) := by
  subst hn
  intro H locs la a k h1 h2 h3 h4 h5 h6
  refine va_slen hO.1 hO.2.1 hX hbl (Nat.not_le.mpr hbA) h3 d ?_
  rw [show Int32.ofNat L = I (L : Int) from by show _ = Int32.ofInt _; rw [← Int32.ofInt_eq_ofNat]]
  exact kk H locs la a k h1 h2 h3 h4 h5 h6
theorem X_astore_nR (np : Nat) (hO : Ok κ own cc) {j : Fin 4} {n : Nat} (d : decode cc pc = .ok (.astore_n j, 1)) (hn : np = pc + 1) (hl : Nat.blt (j : Nat) ls.length = true) (k : X κ P S w np (lset ls (j : Nat) (.ref n)) st) : X κ P S w pc ls (.ref n :: st) := by
  subst hn
  intro H locs la a b h1 h2 h3 h4 h5 h6
  exact lv_astore_n hO.1 hO.2.1 d rfl h4.has (by rw [← h4.2.2.1]; exact Nat.le_of_ble_eq_true hl) rfl (fun l2 q => k H locs l2 a b h1 h2 h3 (h4.back rfl q) h5 h6)
theorem X_iretW (hO : Ok κ own cc) (hF : FnW κ mr hh d P0 S0 Post) {z : Int} {ty : FieldType} (hr : mr.2.2.2 = some ty) (hty : ty = .int ∨ (ty = .boolean ∧ (z = 0 ∨ z = 1))) (dg : decode cc pc = .ok (.ireturn, 1)) (hp : Post (some (.int (I z))) w) : X κ P S w pc ls [.int (I z)] := by
  intro H locs la a b h1 h2 h3 h4 h5 h6
  obtain ⟨f1, f2, f3, f4⟩ := hF
  rw [f3] at h5 h6
  have h5' : a + P ≤ P0 := h5
  have h6' : b + S ≤ S0 := h6
  rw [f1]
  refine vx_ret (W.widen (k := P0) (n := S0) (by omega) (by omega) ?_)
  have hn : narrow ty (.int (I z)) = .int (I z) := by
    rcases hty with rfl | ⟨rfl, rfl | rfl⟩ <;> rfl
  exact W.zret hO.1 hO.2.1 (f2.trans hr) hn (fun t ht hW => ⟨_, w, rfl, hp, ⟨h1, by rw [ht]; exact h2⟩, h3.F ht⟩) h3.2.2 dg hO.2.2.2.2.2.1
/-- what is thrown here comes to a handler of this frame -/
theorem X_catch (hO : Ok κ own cc) (hF : FnW κ mr hh d P0 S0 Post) {E name : String} (pre : List ExceptionTableEntry) (x : ExceptionTableEntry) (suf : List ExceptionTableEntry) (hsplit : tableOf hh = pre ++ x :: suf) (hpass : ∀ z ∈ pre, z.catchType ≠ 0 ∧ ∃ nm : String, Cond.classLink own z.catchType nm ∈ lwG ∧ (E, nm) ∈ ncs_) (hx : covers x pc = true) (h0 : x.catchType ≠ 0) (hlink : Cond.classLink own x.catchType name ∈ lwG) (hcast : (E, name) ∈ casts_)
    (kk : ∀ q : Nat, X κ P S w x.handlerPc ls [.ref q]) : XE κ P S w pc ls E := by
  intro H locs la a b ce q rest h1 h2 h3 h4 h5 h6 h7 h8 h9
  obtain ⟨g0, g1, g2, g3, g4, g5, gc, gn, -⟩ := hO.ev
  exact vx_catch hO.2.2.2.1 pre x suf (hF.2.2.2.trans hsplit) (fun z hz => by
    obtain ⟨z0, nm, z1, z2⟩ := hpass z hz
    exact Or.inr ⟨z0, nm, hO.w z1, gn _ z2⟩) hx h0 (hO.w hlink) (va_Nw.use rfl (gc _ hcast)) h7 h8 h9 (kk q H locs la a b h1 h2 h3 h4 h5 h6)
theorem X_callSX (np : Nat) (hO : Ok κ own cc) (hD : Dp κ d) {ix n : Nat} {mr : MR} (hL : LkW own ix mr hh n) {d1 P1 S1 : Nat} {Post1 : Option Value → Mm → Prop} (As : List Value) {rest : List Value} (hn' : As.length = n) (dg : decode cc pc = .ok (.invokestatic ix, 3)) (hn : np = pc + 3) (hM : MXW (γof κ) d1 mr hh As w P1 S1 Post1) (hd : d1 + 1 ≤ d) (hrest : (rest.map fun v => v.category).sum ≤ 8) (hP : P1 ≤ P) (hS : S1 ≤ S)
    (kk : ∀ v w', Post1 v w' → X κ (P - P1) (S - S1) w' np ls (v.toList ++ rest)) : X κ P S w pc ls (As.reverse ++ rest) := by
  refine X_ofRun hn hP hS (fun H locs la a b h1 h2 h3 h4 h5 h6 => ⟨_, vx_runSX (Ts := lwG) (own := own) (nL := kn κ) (hh := hh) ⟨hO.1, hO.2.1, hO.2.2.1, hO.2.2.2.1, hO.2.2.2.2.1⟩ hM (vx_cwSW n hO.2.2.2.2.1 ?_ rfl rfl rfl hL.2.2.2.2.1 ?_) ⟨Pc_blind, Pc_at hO h1 h2 h3⟩ rfl hn' h4.1 rfl (lv_room hrest) dg ⟨by omega, by omega⟩⟩) kk (fun _ _ h => h.elim)
  · intro q hq
    rcases List.mem_append.mp hq with hq | hq
    · rcases List.mem_cons.mp hq with rfl | hq
      · exact lwG_good hL.2.1
      · rcases List.mem_cons.mp hq with rfl | hq
        · exact lwG_good hL.2.2.1
        · rcases List.mem_cons.mp hq with rfl | hq
          · exact lwG_good hL.2.2.2.1
          · cases hq
    · exact wsW_good hL.1 q hq
  · have := hL.2.2.2.2.2
    exact ⟨by show d1 + 1 ≤ _; have := hD.1; omega, by show 8 + (mr.2.2.1 + 11) + 64 * d1 ≤ _; have := hD.2; omega⟩
end XLW
