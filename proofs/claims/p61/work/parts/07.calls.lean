/-! CONTRACTS: a method by its record (name, code, locals, type of its answer) -/
abbrev MR : Type := MethodName × ByteArray × Nat × Option FieldType
def XQ (γ : LC) (w : Mm) (U : State) : Prop := WI w ∧ XH γ.2.1 (aB γ.2.2) w U.heap
def XU (γ : LC) (w : Mm) (U : State) : Prop := XQ γ w U ∧ EV γ U U.heap
def rmD (d P S : Nat) : Room := { frames := d, cells := P, slots := S, locals := 64 * d }
def QR (γ : LC) (Post : Option Value → Mm → Prop) : Array Value → State → Outcome → State → Prop := fun _ st o t => ∃ v w', o = .returned v ∧ Post v w' ∧ XQ γ w' t ∧ va_F (aB γ.2.2) st t
def QX (γ : LC) (PX : String → Mm → Prop) : String → State → State → Prop := fun E st t => ∃ w', PX E w' ∧ XQ γ w' t ∧ va_F (aB γ.2.2) st t
def wsM (mr : MR) : List Cond := .code mr.1 mr.2.1 mr.2.2.1 mr.2.2.2 :: lwG
/-- from every state that holds w, with room for P cells and S slots, the method returns with Post or throws with PX -/
def MX (γ : LC) (d : Nat) (mr : MR) (args : List Value) (w : Mm) (P S : Nat) (Post : Option Value → Mm → Prop) (PX : String → Mm → Prop) : Prop :=
  vx_Met γ.1 mr.1 (wsM mr) (rmD d P S) (va_Pc args (XU γ w)) (QR γ Post) (QX γ PX) P S (aB γ.2.2)
abbrev γof (κ : KC) : LC := (kl κ, kg κ, kB κ)
/-- the method's frame: what its end asks -/
def Fn (κ : KC) (mr : MR) (d P S : Nat) (Post : Option Value → Mm → Prop) (PX : String → Mm → Prop) : Prop :=
  kQ κ = vx_MQ (kb κ) (QR (γof κ) Post) (QX (γof κ) PX) (ka κ) (ks κ) P S (aB (kB κ)) ∧ (kt κ).sig.returnType = mr.2.2.2 ∧ kR κ = rmD d P S ∧ (∀ x ∈ (kc κ).exceptionTable.toList, False) ∧ (kt κ).name = mr.1.name
def Dp (κ : KC) (d : Nat) : Prop := d ≤ (kR κ).frames ∧ 64 * d ≤ (kR κ).locals
theorem Fn.dp {κ : KC} {mr : MR} {d P S : Nat} {Post : Option Value → Mm → Prop} {PX : String → Mm → Prop} (h : Fn κ mr d P S Post PX) : Dp κ d := by
  obtain ⟨-, -, h, -⟩ := h
  unfold Dp; rw [h]; exact ⟨Nat.le_refl _, Nat.le_refl _⟩
theorem MX_of {γ : LC} {d P S : Nat} {mr : MR} {own : String} {args : List Value} {w : Mm} {Post : Option Value → Mm → Prop} {PX : String → Mm → Prop} (hy : plainName mr.1.cls = true) (hown : mr.1.cls = own) (hc : ∀ v ∈ args, v.category = 1) (hlen : Nat.ble args.length mr.2.2.1 = true)
    (body : ∀ κ : KC, Ok κ own mr.2.1 → Fn κ mr d P S Post PX → γof κ = γ → X κ P S w 0 (args.map some ++ List.replicate (mr.2.2.1 - args.length) none) []) : MX γ d mr args w P S Post PX := by
  obtain ⟨l, g, b⟩ := γ
  obtain ⟨y, cc, maxL, ret⟩ := mr
  dsimp only at hy hown hlen body
  refine vx_ofW (cc := cc) (maxL := maxL) (ret := ret) hy rfl ?_
  intro p e s m a0 below meth c s₁ B hml ht hP
  obtain ⟨rfl, ⟨hW, hH⟩, hE⟩ := hP
  have hts : ∀ q ∈ wsM (y, cc, maxL, ret), q.before args.toArray s = true := atoms_spec (ws := wsM (y, cc, maxL, ret)) B.pre
  have hO : Ok (((p, l, e, (headSpec (wsM (y, cc, maxL, ret)) (rmD d P S)).room), (s, m, args.toArray, below), (meth, c, maxL), vx_MQ below (QR (l, g, b) Post) (QX (l, g, b) PX) args.toArray s P S (aB b), g, b) : KC) own cc := by
    refine ⟨B.exec, B.bytes, hml, ?_, fun q hq => hts q (List.mem_cons_of_mem _ hq), B.notSynchronized, hE.2.1, hE.2.2.2.2.2.2.2.2.2.2.2.1, hE.2.2.2.2.2.2.2.2.2.2.2.2.1, hE⟩
    rw [← hown]; exact findClass_of_methodNamed B.named
  have hF : Fn (((p, l, e, (headSpec (wsM (y, cc, maxL, ret)) (rmD d P S)).room), (s, m, args.toArray, below), (meth, c, maxL), vx_MQ below (QR (l, g, b) Post) (QX (l, g, b) PX) args.toArray s P S (aB b), g, b) : KC) (y, cc, maxL, ret) d P S Post PX := ⟨rfl, B.returns, rfl, ht, (name_of_methodNamed B.named B.method).1⟩
  have k := body _ hO hF rfl
  rw [lg_entry_eq]
  exact k s.heap [] _ 0 0 hW hH va_S.rf (LV_entry args hc (Nat.le_of_ble_eq_true hlen)) (by show 0 + P ≤ P; omega) (by show 0 + S ≤ S; omega)
section XE
variable {κ : KC} {P S : Nat} {w : Mm} {pc : Nat} {ls : List (Option Value)} {st : List Value} {own : String} {cc : ByteArray} {mr : MR} {d P0 S0 : Nat} {Post : Option Value → Mm → Prop} {PX : String → Mm → Prop}
theorem X_iret (hO : Ok κ own cc) (hF : Fn κ mr d P0 S0 Post PX) {z : Int} {ty : FieldType} (hr : mr.2.2.2 = some ty) (hty : ty = .int ∨ (ty = .boolean ∧ (z = 0 ∨ z = 1))) (dg : decode cc pc = .ok (.ireturn, 1)) (hp : Post (some (.int (I z))) w) : X κ P S w pc ls [.int (I z)] := by
  intro H locs la a b h1 h2 h3 h4 h5 h6
  obtain ⟨f1, f2, f3, f4, f5⟩ := hF
  rw [f3] at h5 h6
  have h5' : a + P ≤ P0 := h5
  have h6' : b + S ≤ S0 := h6
  rw [f1]
  refine vx_ret (W.widen (k := P0) (n := S0) (by omega) (by omega) ?_)
  have hn : narrow ty (.int (I z)) = .int (I z) := by
    rcases hty with rfl | ⟨rfl, rfl | rfl⟩ <;> rfl
  exact W.zret hO.1 hO.2.1 (f2.trans hr) hn (fun t ht hW => ⟨_, w, rfl, hp, ⟨h1, by rw [ht]; exact h2⟩, h3.F ht⟩) h3.2.2 dg hO.2.2.2.2.2.1
theorem X_vret (hO : Ok κ own cc) (hF : Fn κ mr d P0 S0 Post PX) (hr : mr.2.2.2 = none) (dg : decode cc pc = .ok (.return_, 1)) (hp : Post none w) : X κ P S w pc ls [] := by
  intro H locs la a b h1 h2 h3 h4 h5 h6
  obtain ⟨f1, f2, f3, f4, f5⟩ := hF
  rw [f3] at h5 h6
  have h5' : a + P ≤ P0 := h5
  have h6' : b + S ≤ S0 := h6
  rw [f1]
  refine vx_ret (W.widen (k := P0) (n := S0) (by omega) (by omega) ?_)
  exact W.vret hO.1 hO.2.1 (f2.trans hr) (fun t ht hW => ⟨_, w, rfl, hp, ⟨h1, by rw [ht]; exact h2⟩, h3.F ht⟩) h3.2.2 dg hO.2.2.2.2.2.1
theorem X_aret (hO : Ok κ own cc) (hF : Fn κ mr d P0 S0 Post PX) {z : Int} {ty : FieldType} (hr : mr.2.2.2 = some ty) (hty : (∃ n, ty = .object n) ∨ ∃ t, ty = .array t) (dg : decode cc pc = .ok (.areturn, 1)) (hp : Post (some (rv z)) w) : X κ P S w pc ls [rv z] := by
  intro H locs la a b h1 h2 h3 h4 h5 h6
  obtain ⟨f1, f2, f3, f4, f5⟩ := hF
  rw [f3] at h5 h6
  have h5' : a + P ≤ P0 := h5
  have h6' : b + S ≤ S0 := h6
  rw [f1]
  refine vx_ret (W.widen (k := P0) (n := S0) (by omega) (by omega) ?_)
  exact W.aret hO.1 hO.2.1 (f2.trans hr) hty (by unfold rv; by_cases c : z = 0 <;> simp [c]) (fun t ht hW => ⟨_, w, rfl, hp, ⟨h1, by rw [ht]; exact h2⟩, h3.F ht⟩) h3.2.2 dg hO.2.2.2.2.2.1
/-- q, of class E, is thrown in this frame -/
def XE (κ : KC) (P S : Nat) (w : Mm) (pc : Nat) (ls : List (Option Value)) (E : String) : Prop :=
  ∀ (H : Heap) (locs : List Loc) (la : Array Slot) (k n : Nat) (ce : Cell) (q : Addr) (rest : List Value), WI w → XH (kg κ) (aB (kB κ)) w H → va_S (aB (kB κ)) (ks κ).heap H locs → LV la (kn κ) ls → k + P ≤ (kR κ).cells → n + S ≤ (kR κ).slots → H[q]? = some ce → ce.vm = .none → (ks κ).vm.findClass E = some ce.cls →
    vx_W (kp κ) (kl κ) (ke κ) (kR κ) (ks κ) (km κ) (ka κ) (kb κ) (kt κ) (kc κ) H locs k n (kQ κ) (F0 (km κ) pc la rest) q
theorem XE_out (hO : Ok κ own cc) (hF : Fn κ mr d P0 S0 Post PX) {E : String} (hp : PX E w) : XE κ P S w pc ls E := by
  intro H locs la a b ce q rest h1 h2 h3 h4 h5 h6 h7 h8 h9
  obtain ⟨f1, f2, f3, f4, f5⟩ := hF
  rw [f3] at h5 h6
  have h5' : a + P ≤ P0 := h5
  have h6' : b + S ≤ S0 := h6
  rw [f1]
  exact vx_out (fun x hx => (f4 x hx).elim) hO.2.2.2.2.2.1 h7 h8 h9 (fun t ht hW => ⟨w, hp, ⟨h1, by rw [ht]; exact h2⟩, h3.F ht⟩) h3.2.2 (by omega) (by omega)
theorem Pc_blind {γ : LC} {args : List Value} {w : Mm} : FrameBlind (va_Pc args (XU γ w)) := by
  intro a U g mk ⟨e, ⟨h1, h2⟩, h3⟩
  refine ⟨e, ⟨h1, h2⟩, ?_⟩
  obtain ⟨e0, e1, e2, e3, e4, e5, e6, e7, e8, e9, e10, e11, e12, x, e13, e14, e17, e18⟩ := h3
  refine ⟨e0, va_K.moved (u := U) (U := U.calling g mk a) (Vm.Alike.refl U.vm) e1, e2.moved (u := U) (U := U.calling g mk a) (Vm.Alike.refl U.vm), e3.moved (u := U) (U := U.calling g mk a) (Vm.Alike.refl U.vm), fun q hm => ?_, fun q hm => va_Nw.same (u := U) (U := U.calling g mk a) rfl rfl (e5 q hm), fun q hm => va_Nw.same (u := U) (U := U.calling g mk a) rfl rfl (e6 q hm), fun q hm => va_Nc.moved (u := U) (U := U.calling g mk a) (Vm.Alike.refl U.vm) (e7 q hm), fun C hm => va_AO.moved (u := U) (U := U.calling g mk a) (Vm.Alike.refl U.vm) (e8 C hm), fun q hm => va_Fw.moved (u := U) (U := U.calling g mk a) ?_ (Vm.Alike.refl U.vm) (e9 q hm), fun y hm => va_Nw.same (u := U) (U := U.calling g mk a) rfl rfl (e10 y hm), e11, e12, x, va_Z.moved (u := U) (U := U.calling g mk a) (Vm.Alike.refl U.vm) e13, va_T.moved (u := U) (U := U.calling g mk a) (Vm.Alike.refl U.vm) e14, va_Mi.moved (u := U) (U := U.calling g mk a) (Vm.Alike.refl U.vm) e17, e18⟩
  · obtain ⟨z, hz⟩ := e4 q hm
    exact ⟨z, vk_R.same (u := U) (U := U.calling g mk a) rfl hz⟩
  · have : ∀ q ∈ ifs_, q.1.cls ≠ "java/lang/invoke/MethodHandle" ∧ q.1.cls ≠ "java/lang/invoke/VarHandle" := by decide
    exact this q hm
/-- a call's run gives the judgement behind it -/
theorem X_ofRun {st0 rest : List Value} {np : Nat} {P1 S1 : Nat} {Post1 : Option Value → Mm → Prop} {PX1 : String → Mm → Prop} (hn : np = pc + 3) (hP : P1 ≤ P) (hS : S1 ≤ S)
    (hr : ∀ (H : Heap) (locs : List Loc) (la : Array Slot) (k n : Nat), WI w → XH (kg κ) (aB (kB κ)) w H → va_S (aB (kB κ)) (ks κ).heap H locs → LV la (kn κ) ls → k + P ≤ (kR κ).cells → n + S ≤ (kR κ).slots → ∃ aa : Array Value,
      vx_Run (kp κ) (kl κ) (ke κ) (kR κ) (ks κ) (km κ) (ka κ) (kb κ) (kt κ) (kc κ) H locs k n P1 S1 (F0 (km κ) pc la st0) rest (QR (γof κ) Post1 aa) (QX (γof κ) PX1) (aB (kB κ)))
    (kk : ∀ v w', Post1 v w' → X κ (P - P1) (S - S1) w' np ls (v.toList ++ rest)) (kx : ∀ E w', PX1 E w' → XE κ (P - P1) (S - S1) w' pc ls E) : X κ P S w pc ls st0 := by
  subst hn
  intro H locs la a b h1 h2 h3 h4 h5 h6 T hT X
  obtain ⟨aa, hr⟩ := hr H locs la a b h1 h2 h3 h4 h5 h6
  rcases hr T hT X with ⟨v, st₀, t, T', L, h0, X', hL, e1, e2, ⟨v2, w', hv, hp, ⟨q1, q2⟩, hF⟩, sg⟩ | ⟨q, st₀, t, T', L, E, ce, h0, X', hL, e1, e2, ⟨w', hp, ⟨q1, q2⟩, hF⟩, hce, hcv, hcl, sg⟩
  · cases hv
    obtain ⟨k1, k2, k3⟩ := vx_keep h0 e1 h3 (A1 := aB (kB κ)) (fun _ _ h => h) (fun _ h => h) hL hF
    obtain ⟨t2, a1, b1⟩ := kk v w' hp T'.heap (locs ++ L) la (a + P1) (b + S1) q1 (by rw [e1]; exact q2) k3 h4 (by omega) (by omega) T' rfl X'
    exact ⟨t2, sg t2 a1, b1⟩
  · obtain ⟨k1, k2, k3⟩ := vx_keep h0 e1 h3 (A1 := aB (kB κ)) (fun _ _ h => h) (fun _ h => h) hL hF
    obtain ⟨t2, a1, b1⟩ := kx E w' hp T'.heap (locs ++ L) la (a + P1) (b + S1) ce q rest q1 (by rw [e1]; exact q2) k3 h4 (by omega) (by omega) (by rw [e1]; exact hce) hcv hcl T' rfl X'
    exact ⟨t2, sg.trans a1, b1⟩
theorem lwG_good {w : Cond} (h : w ∈ lwG) : w ∈ lwG ∧ ((w.onTables && w.keeps) = true ∨ ∃ ty, w = .arrayClass ty) := ⟨h, good_of_word (List.mem_filter.mp h).2⟩
theorem wsM_good {mr : MR} (h : Cond.code mr.1 mr.2.1 mr.2.2.1 mr.2.2.2 ∈ lwG) : GoodIn lwG (wsM mr) := by
  intro w hw
  rcases List.mem_cons.mp hw with rfl | hw
  · exact lwG_good h
  · exact lwG_good hw
/-- what a call site of a virtual method links: its place in the pool, the method, how many arguments -/
def LkV (own : String) (ix : Nat) (C : String) (mr : MR) (n : Nat) : Prop :=
  Cond.code mr.1 mr.2.1 mr.2.2.1 mr.2.2.2 ∈ lwG ∧ Cond.methodLink own ix mr.1 ∈ lwG ∧ Cond.instanceMethod mr.1 ∈ lwG ∧ Cond.selects C mr.1 mr.1 ∈ lwG ∧ Cond.initialized C ∈ lwG ∧ (mr.1.cls = C ∧ mr.1.cls ≠ "java/lang/invoke/MethodHandle" ∧ mr.1.cls ≠ "java/lang/invoke/VarHandle" ∧ (parseMethodDescriptor mr.1.desc).map (fun d => d.parameters.length) = some n) ∧ mr.2.2.1 ≤ 45
def LkS (own : String) (ix : Nat) (mr : MR) (n : Nat) : Prop :=
  Cond.code mr.1 mr.2.1 mr.2.2.1 mr.2.2.2 ∈ lwG ∧ Cond.methodLink own ix mr.1 ∈ lwG ∧ Cond.static mr.1 ∈ lwG ∧ Cond.initialized mr.1.cls ∈ lwG ∧ (mr.1.cls ≠ "java/lang/invoke/MethodHandle" ∧ mr.1.cls ≠ "java/lang/invoke/VarHandle" ∧ (parseMethodDescriptor mr.1.desc).map (fun d => d.parameters.length) = some n) ∧ mr.2.2.1 ≤ 45
def LkI (own : String) (ix : Nat) (mr : MR) (n : Nat) : Prop :=
  Cond.code mr.1 mr.2.1 mr.2.2.1 mr.2.2.2 ∈ lwG ∧ Cond.methodLink own ix mr.1 ∈ lwG ∧ Cond.instanceMethod mr.1 ∈ lwG ∧ Cond.initialized mr.1.cls ∈ lwG ∧ mr.1.name = "<init>" ∧ mr.2.2.2 = none ∧ (mr.1.cls ≠ "java/lang/invoke/MethodHandle" ∧ mr.1.cls ≠ "java/lang/invoke/VarHandle" ∧ (parseMethodDescriptor mr.1.desc).map (fun d => d.parameters.length) = some n) ∧ mr.2.2.1 ≤ 45
/-- the receiver's cell -/
theorem recv_at {z : Int} {t N : Nat} {C : String} {T : u_T} {H : Heap} (hO : Ok κ own cc) (h1 : WI w) (h2 : XH (kg κ) (aB (kB κ)) w H) (ht1 : 1 ≤ t) (ht2 : t < 20) (hc : cls_[t - 1]? = some (C, T, N)) (ht : w 0 z 0 = (t : Int)) : ∃ cellB : Cell, H[z.toNat]? = some cellB ∧ cellB.vm.isStatics = false ∧ (ks κ).vm.findClass C = some cellB.cls := by
  obtain ⟨z0, z1⟩ := zpos h1 ht ht1
  have ht' : w 0 (z.toNat : Nat) 0 = (t : Int) := by rw [z1]; exact ht
  obtain ⟨hP, -, -⟩ := h2.tag (a := z.toNat) (by rw [ht']; omega)
  rw [cf_obj ht' ht2] at hP
  exact va_recv hO.2.2.2.2.2.2.1 hP hc (q0 := 0) rfl
theorem Pc_at {As : List Value} {H : Heap} {locs : List Loc} (hO : Ok κ own cc) (h1 : WI w) (h2 : XH (kg κ) (aB (kB κ)) w H) (h3 : va_S (aB (kB κ)) (ks κ).heap H locs) : ∀ U : State, U.heap = H → (ks κ).WarmedH U.vm → va_Pc As (XU (γof κ) w) As.toArray U :=
  fun U hU hW => ⟨rfl, ⟨h1, by rw [hU]; exact h2⟩, hO.2.2.2.2.2.2.2.2.2.to hW (by rw [hU]; exact h3.1) (fun q g1 g2 => by rw [hU]; exact h3.2.1 q g1 g2)⟩
theorem X_callV (np : Nat) (hO : Ok κ own cc) (hD : Dp κ d) {ix n : Nat} {C : String} {mr : MR} (hL : LkV own ix C mr n) {z : Int} {t N : Nat} {T : u_T} (hc : cls_[t - 1]? = some (C, T, N)) (ht2 : 1 ≤ t ∧ t < 20) {d1 P1 S1 : Nat} {Post1 : Option Value → Mm → Prop} {PX1 : String → Mm → Prop} (As : List Value) {rest : List Value} (hn' : As.length = n) (dg : decode cc pc = .ok (.invokevirtual ix, 3)) (hn : np = pc + 3) (ht : w 0 z 0 = (t : Int)) (hM : MX (γof κ) d1 mr (rv z :: As) w P1 S1 Post1 PX1) (hd : d1 + 1 ≤ d) (hrest : (rest.map fun v => v.category).sum ≤ 8) (hP : P1 ≤ P) (hS : S1 ≤ S)
    (kk : ∀ v w', Post1 v w' → X κ (P - P1) (S - S1) w' np ls (v.toList ++ rest)) (kx : ∀ E w', PX1 E w' → XE κ (P - P1) (S - S1) w' pc ls E) : X κ P S w pc ls (As.reverse ++ rv z :: rest) := by
  refine X_wi fun h0 => ?_
  have hz := (zpos h0 ht ht2.1).1
  rw [rv_pos hz] at hM ⊢
  refine X_ofRun hn hP hS (fun H locs la a b h1 h2 h3 h4 h5 h6 => ⟨_, vx_runV (Ts := lwG) (own := own) (nL := kn κ) ⟨hO.1, hO.2.1, hO.2.2.1, hO.2.2.2.1, hO.2.2.2.2.1⟩ hM (cwV n hO.2.2.2.2.1 ?_ rfl rfl rfl hL.2.2.2.2.2.1 ?_) ⟨Pc_blind, recv_at hO h1 h2 ht2.1 ht2.2 hc ht, Pc_at hO h1 h2 h3⟩ rfl hn' h4.1 rfl (lv_room hrest) dg ⟨by omega, by omega⟩⟩) kk kx
  · intro q hq
    rcases List.mem_append.mp hq with hq | hq
    · rcases List.mem_cons.mp hq with rfl | hq
      · exact lwG_good hL.2.1
      · rcases List.mem_cons.mp hq with rfl | hq
        · exact lwG_good hL.2.2.1
        · rcases List.mem_cons.mp hq with rfl | hq
          · exact lwG_good hL.2.2.2.1
          · rcases List.mem_cons.mp hq with rfl | hq
            · exact lwG_good hL.2.2.2.2.1
            · cases hq
    · exact wsM_good hL.1 q hq
  · have := hL.2.2.2.2.2.2
    exact ⟨by show d1 + 1 ≤ _; have := hD.1; omega, by show 8 + (mr.2.2.1 + 11) + 64 * d1 ≤ _; have := hD.2; omega⟩
theorem X_callS (np : Nat) (hO : Ok κ own cc) (hD : Dp κ d) {ix n : Nat} {mr : MR} (hL : LkS own ix mr n) {d1 P1 S1 : Nat} {Post1 : Option Value → Mm → Prop} {PX1 : String → Mm → Prop} (As : List Value) {rest : List Value} (hn' : As.length = n) (dg : decode cc pc = .ok (.invokestatic ix, 3)) (hn : np = pc + 3) (hM : MX (γof κ) d1 mr As w P1 S1 Post1 PX1) (hd : d1 + 1 ≤ d) (hrest : (rest.map fun v => v.category).sum ≤ 8) (hP : P1 ≤ P) (hS : S1 ≤ S)
    (kk : ∀ v w', Post1 v w' → X κ (P - P1) (S - S1) w' np ls (v.toList ++ rest)) (kx : ∀ E w', PX1 E w' → XE κ (P - P1) (S - S1) w' pc ls E) : X κ P S w pc ls (As.reverse ++ rest) := by
  refine X_ofRun hn hP hS (fun H locs la a b h1 h2 h3 h4 h5 h6 => ⟨_, vx_runS (Ts := lwG) (own := own) (nL := kn κ) ⟨hO.1, hO.2.1, hO.2.2.1, hO.2.2.2.1, hO.2.2.2.2.1⟩ hM (va_cwS n hO.2.2.2.2.1 ?_ rfl rfl rfl hL.2.2.2.2.1 ?_) ⟨Pc_blind, Pc_at hO h1 h2 h3⟩ rfl hn' h4.1 rfl (lv_room hrest) dg ⟨by omega, by omega⟩⟩) kk kx
  · intro q hq
    rcases List.mem_append.mp hq with hq | hq
    · rcases List.mem_cons.mp hq with rfl | hq
      · exact lwG_good hL.2.1
      · rcases List.mem_cons.mp hq with rfl | hq
        · exact lwG_good hL.2.2.1
        · rcases List.mem_cons.mp hq with rfl | hq
          · exact lwG_good hL.2.2.2.1
          · cases hq
    · exact wsM_good hL.1 q hq
  · have := hL.2.2.2.2.2
    exact ⟨by show d1 + 1 ≤ _; have := hD.1; omega, by show 8 + (mr.2.2.1 + 11) + 64 * d1 ≤ _; have := hD.2; omega⟩
theorem X_callI (np : Nat) (hO : Ok κ own cc) (hD : Dp κ d) {ix n : Nat} {y : MethodName} {bytes : ByteArray} {maxL : Nat} (hL : LkI own ix (y, bytes, maxL, none) n) {z : Int} {d1 P1 S1 : Nat} {Post1 : Option Value → Mm → Prop} {PX1 : String → Mm → Prop} (As : List Value) {rest : List Value} (hn' : As.length = n) (dg : decode cc pc = .ok (.invokespecial ix, 3)) (hn : np = pc + 3) (hz : 0 < z) (hM : MX (γof κ) d1 (y, bytes, maxL, none) (rv z :: As) w P1 S1 Post1 PX1) (hd : d1 + 1 ≤ d) (hrest : (rest.map fun v => v.category).sum ≤ 8) (hP : P1 ≤ P) (hS : S1 ≤ S)
    (kk : ∀ v w', Post1 v w' → X κ (P - P1) (S - S1) w' np ls (v.toList ++ rest)) (kx : ∀ E w', PX1 E w' → XE κ (P - P1) (S - S1) w' pc ls E) : X κ P S w pc ls (As.reverse ++ rv z :: rest) := by
  rw [rv_pos hz] at hM ⊢
  refine X_ofRun hn hP hS (fun H locs la a b h1 h2 h3 h4 h5 h6 => ⟨_, vx_runI (Ts := lwG) (own := own) (nL := kn κ) ⟨hO.1, hO.2.1, hO.2.2.1, hO.2.2.2.1, hO.2.2.2.2.1⟩ hM (cwI n hO.2.2.2.2.1 (wsM_good hL.1) rfl rfl rfl (hO.w hL.2.2.2.1) (hO.w hL.2.1) (hO.w hL.2.2.1) hL.2.2.2.2.1 hL.2.2.2.2.2.2.1 ?_) ⟨Pc_blind, Pc_at hO h1 h2 h3⟩ rfl hn' h4.1 rfl (lv_room hrest) dg ⟨by omega, by omega⟩⟩) kk kx
  have h9 : maxL ≤ 45 := hL.2.2.2.2.2.2.2
  exact ⟨by show d1 + 1 ≤ _; have := hD.1; omega, by show 8 + (maxL + 11) + 64 * d1 ≤ _; have := hD.2; omega⟩
end XE
