/-! ROWS OF THE CLASS, third part: contracts by the answer's kind, calls over them, constructors of Object, whole arrays, Math -/
abbrev KV (γ : LC) (d : Nat) (mr : MR) (args : List Value) (w : Mm) (P S : Nat) (Post : Mm → Prop) (PX : String → Mm → Prop) : Prop := MX γ d mr args w P S (fun v w' => v = none ∧ Post w') PX
abbrev KI (γ : LC) (d : Nat) (mr : MR) (args : List Value) (w : Mm) (P S : Nat) (Post : Int → Mm → Prop) (PX : String → Mm → Prop) : Prop := MX γ d mr args w P S (fun v w' => ∃ r, v = some (.int (I r)) ∧ IR r ∧ Post r w') PX
abbrev KR (γ : LC) (d : Nat) (mr : MR) (args : List Value) (w : Mm) (P S : Nat) (Post : Int → Mm → Prop) (PX : String → Mm → Prop) : Prop := MX γ d mr args w P S (fun v w' => ∃ r, v = some (rv r) ∧ Post r w') PX
/-- places lo to lo + n of the array at b, of component c -/
def flA (w : Mm) (c : Nat) (b lo n : Int) (f : Int → Int) : Mm := fun c' a i => if c' = c ∧ a = b ∧ lo ≤ i ∧ i < lo + n then f i else w c' a i
theorem flA_k {w : Mm} {c c' : Nat} {b lo n a i : Int} {f : Int → Int} (h : c' ≠ c) : flA w c b lo n f c' a i = w c' a i := by unfold flA; rw [if_neg (fun x => h x.1)]
theorem flA_a {w : Mm} {c c' : Nat} {b lo n a i : Int} {f : Int → Int} (h : a ≠ b) : flA w c b lo n f c' a i = w c' a i := by unfold flA; rw [if_neg (fun x => h x.2.1)]
theorem flA_v {w : Mm} {c : Nat} {b lo n i : Int} {f : Int → Int} : flA w c b lo n f c b i = if lo ≤ i ∧ i < lo + n then f i else w c b i := by
  unfold flA; simp only [true_and]
theorem flA_0 {w : Mm} {c : Nat} {b lo : Int} {f : Int → Int} : flA w c b lo 0 f = w := by
  funext c' a i; unfold flA; rw [if_neg (by omega)]
theorem flA_s {w : Mm} {c : Nat} {b lo n v : Int} {f : Int → Int} (hn : 0 ≤ n) (hv : v = f (lo + n)) : up (flA w c b lo n f) c b (lo + n) v = flA w c b lo (n + 1) f := by
  funext c' a i
  simp only [up, flA]
  by_cases h : c' = c ∧ a = b
  · by_cases h2 : i = lo + n
    · rw [if_pos ⟨h.1, h.2, h2⟩, if_pos ⟨h.1, h.2, by omega, by omega⟩, hv, h2]
    · rw [if_neg (fun x => h2 x.2.2)]
      by_cases h3 : lo ≤ i ∧ i < lo + n
      · rw [if_pos ⟨h.1, h.2, h3⟩, if_pos ⟨h.1, h.2, by omega, by omega⟩]
      · rw [if_neg (fun x => h3 x.2.2), if_neg (fun x => by omega)]
  · rw [if_neg (fun x => h ⟨x.1, x.2.1⟩), if_neg (fun x => h ⟨x.1, x.2.1⟩), if_neg (fun x => h ⟨x.1, x.2.1⟩)]
/-- n numbers of the array a from sp on come into the array b from dp on -/
def cpA (w : Mm) (a b sp dp n : Int) : Mm := flA w 1 b dp n (fun i => w 1 a (i - dp + sp))
section XK
variable {κ : KC} {P S : Nat} {w : Mm} {pc : Nat} {ls : List (Option Value)} {st : List Value} {own : String} {cc : ByteArray} {mr : MR} {d P0 S0 : Nat} {Post : Option Value → Mm → Prop} {PX : String → Mm → Prop}
theorem X_eqW {w2 : Mm} (e : w = w2) (k : X κ P S w2 pc ls st) : X κ P S w pc ls st := by subst e; exact k
theorem X_ofRun5 {st0 rest : List Value} {np : Nat} {P1 S1 : Nat} {Post1 : Option Value → Mm → Prop} {PX1 : String → Mm → Prop} (hn : np = pc + 5) (hP : P1 ≤ P) (hS : S1 ≤ S)
    (hr : ∀ (H : Heap) (locs : List Loc) (la : Array Slot) (k n : Nat), WI w → XH (kg κ) (aB (kB κ)) w H → va_S (aB (kB κ)) (ks κ).heap H locs → LV la (kn κ) ls → k + P ≤ (kR κ).cells → n + S ≤ (kR κ).slots → ∃ aa : Array Value,
      vx_Run5 (kp κ) (kl κ) (ke κ) (kR κ) (ks κ) (km κ) (ka κ) (kb κ) (kt κ) (kc κ) H locs k n P1 S1 (F0 (km κ) pc la st0) rest (QR (γof κ) Post1 aa) (QX (γof κ) PX1) (aB (kB κ)))
    (kk : ∀ v w', Post1 v w' → X κ (P - P1) (S - S1) w' np ls (v.toList ++ rest)) (kx : ∀ E w', PX1 E w' → XE κ (P - P1) (S - S1) w' pc ls E) : X κ P S w pc ls st0 := by
  subst hn
  intro H locs la a b h1 h2 h3 h4 h5 h6 T hT X
  obtain ⟨aa, hr⟩ := hr H locs la a b h1 h2 h3 h4 h5 h6
  rcases hr T hT X with ⟨v, st₀, t, T', L, h0, X', hL, e1, e2, ⟨v2, w', hv, hp, ⟨q1, q2⟩, hF⟩, sg⟩ | ⟨q, st₀, t, T', L, E, ce, h0, X', hL, e1, e2, ⟨w', hp, ⟨q1, q2⟩, hF⟩, hce, hcv, hcl, sg⟩
  · cases hv
    obtain ⟨k1, k2, k3⟩ := vx_keep h0 e1 h3 (A1 := aB (kB κ)) (fun _ _ h => h) (fun _ h => h) hL hF
    obtain ⟨t2, a1, b1⟩ := kk v w' hp T'.heap (locs ++ L) la (a + P1) (b + S1) q1 (by rw [e1]; exact q2) k3 h4 (by omega) (by omega) T' rfl X'
    exact ⟨t2, sg t2 a1, b1⟩
  · obtain ⟨k1, k2, k3⟩ := vx_keep h0 e1 h3 (A1 := aB (kB κ)) (fun _ _ h => h) (fun _ h => h) hL hF
    obtain ⟨t2, a1, b1⟩ := kx E w' hp T'.heap (locs ++ L) la (a + P1) (b + S1) ce q rest q1 (by rw [e1]; exact q2) k3 h4 (by omega) (by omega) (by rw [e1]; exact hce) hcv hcl T' rfl X'
    exact ⟨t2, sg.trans a1, b1⟩
def LkN (own : String) (ix : Nat) (host : String) (mr : MR) (n : Nat) : Prop :=
  Cond.code mr.1 mr.2.1 mr.2.2.1 mr.2.2.2 ∈ lwG ∧ (own, ix, mr.1, host) ∈ nests_ ∧ Cond.instanceMethod mr.1 ∈ lwG ∧ Cond.initialized mr.1.cls ∈ lwG ∧ mr.1.name = "<init>" ∧ mr.2.2.2 = none ∧ (mr.1.cls ≠ "java/lang/invoke/MethodHandle" ∧ mr.1.cls ≠ "java/lang/invoke/VarHandle" ∧ (parseMethodDescriptor mr.1.desc).map (fun d => d.parameters.length) = some n) ∧ mr.2.2.1 ≤ 45
theorem X_callIN (np : Nat) (hO : Ok κ own cc) (hD : Dp κ d) {ix n : Nat} {host : String} {y : MethodName} {bytes : ByteArray} {maxL : Nat} (hL : LkN own ix host (y, bytes, maxL, none) n) {z : Int} {d1 P1 S1 : Nat} {Post1 : Option Value → Mm → Prop} {PX1 : String → Mm → Prop} (As : List Value) {rest : List Value} (hn' : As.length = n) (dg : decode cc pc = .ok (.invokespecial ix, 3)) (hn : np = pc + 3) (hz : 0 < z) (hM : MX (γof κ) d1 (y, bytes, maxL, none) (rv z :: As) w P1 S1 Post1 PX1) (hd : d1 + 1 ≤ d) (hrest : (rest.map fun v => v.category).sum ≤ 8) (hP : P1 ≤ P) (hS : S1 ≤ S)
    (kk : ∀ v w', Post1 v w' → X κ (P - P1) (S - S1) w' np ls (v.toList ++ rest)) (kx : ∀ E w', PX1 E w' → XE κ (P - P1) (S - S1) w' pc ls E) : X κ P S w pc ls (As.reverse ++ rv z :: rest) := by
  rw [rv_pos hz] at hM ⊢
  refine X_ofRun hn hP hS (fun H locs la a b h1 h2 h3 h4 h5 h6 => ⟨_, vx_runIN (Ts := lwG) (own := own) (nL := kn κ) ⟨hO.1, hO.2.1, hO.2.2.1, hO.2.2.2.1, hO.2.2.2.2.1⟩ hM ⟨va_cnB n hO.2.2.2.2.1 (wsM_good hL.1) rfl rfl rfl (hO.2.2.2.2.2.2.2.2.2.2.2.2.2.2.1 _ hL.2.1) (hO.w hL.2.2.2.1) hL.2.2.2.2.2.2.1 ?_, hL.2.2.2.2.1, hO.w hL.2.2.1⟩ ⟨Pc_blind, Pc_at hO h1 h2 h3⟩ rfl hn' h4.1 rfl (lv_room hrest) dg ⟨by omega, by omega⟩⟩) kk kx
  have h9 : maxL ≤ 45 := hL.2.2.2.2.2.2.2
  exact ⟨by show d1 + 1 ≤ _; have := hD.1; omega, by show 8 + (maxL + 11) + 64 * d1 ≤ _; have := hD.2; omega⟩
def LkF (own : String) (ix : Nat) (x : MethodName) (mr : MR) (n : Nat) : Prop :=
  Cond.code mr.1 mr.2.1 mr.2.2.1 mr.2.2.2 ∈ lwG ∧ Cond.methodLink own ix x ∈ lwG ∧ Cond.selects RJx4a65c x mr.1 ∈ lwG ∧ Cond.instanceMethod mr.1 ∈ lwG ∧ Cond.initialized mr.1.cls ∈ lwG ∧ (x, mr.1) ∈ ifs_ ∧ (x.cls ≠ "java/lang/invoke/MethodHandle" ∧ x.cls ≠ "java/lang/invoke/VarHandle" ∧ (parseMethodDescriptor x.desc).map (fun d => d.parameters.length) = some n) ∧ mr.2.2.1 ≤ 45
theorem X_callF (np : Nat) (hO : Ok κ own cc) (hD : Dp κ d) {ix n ct : Nat} {x : MethodName} {mr : MR} (hL : LkF own ix x mr n) {z : Int} {d1 P1 S1 : Nat} {Post1 : Option Value → Mm → Prop} {PX1 : String → Mm → Prop} (As : List Value) {rest : List Value} (hn' : As.length = n) (dg : decode cc pc = .ok (.invokeinterface ix ct, 5)) (hn : np = pc + 5) (ht : w 0 z 0 = 15) (hM : MX (γof κ) d1 mr (rv z :: As) w P1 S1 Post1 PX1) (hd : d1 + 1 ≤ d) (hrest : (rest.map fun v => v.category).sum ≤ 8) (hP : P1 ≤ P) (hS : S1 ≤ S)
    (kk : ∀ v w', Post1 v w' → X κ (P - P1) (S - S1) w' np ls (v.toList ++ rest)) (kx : ∀ E w', PX1 E w' → XE κ (P - P1) (S - S1) w' pc ls E) : X κ P S w pc ls (As.reverse ++ rv z :: rest) := by
  refine X_wi fun h0 => ?_
  have hz := (zpos h0 (t := 15) ht (by decide)).1
  rw [rv_pos hz] at hM ⊢
  have hK := hO.2.2.2.2.2.2.1.1 14 _ rfl
  refine X_ofRun5 hn hP hS (fun H locs la a b h1 h2 h3 h4 h5 h6 => ⟨_, vx_runF (Ts := lwG) (own := own) (nL := kn κ) hK.2 ⟨hO.1, hO.2.1, hO.2.2.1, hO.2.2.2.1, hO.2.2.2.2.1⟩ hM (va_cwF n hO.2.2.2.2.1 ?_ rfl rfl rfl (hO.2.2.2.2.2.2.2.2.2.2.2.2.2.2.2.2.2.2.1 _ hL.2.2.2.2.2.1) hL.2.2.2.2.2.2.1 ?_) ⟨Pc_blind, recv_at hO h1 h2 (t := 15) (by decide) (by decide) rfl ht, Pc_at hO h1 h2 h3⟩ rfl hn' h4.1 rfl (lv_room hrest) dg ⟨by omega, by omega⟩⟩) kk kx
  · intro q hq
    rcases List.mem_append.mp hq with hq | hq
    · rcases List.mem_cons.mp hq with rfl | hq
      · exact lwG_good hL.2.1
      · rcases List.mem_cons.mp hq with rfl | hq
        · exact lwG_good hL.2.2.1
        · rcases List.mem_cons.mp hq with rfl | hq
          · exact lwG_good hL.2.2.2.1
          · rcases List.mem_cons.mp hq with rfl | hq
            · exact lwG_good hL.2.2.2.2.1
            · cases hq
    · exact wsM_good hL.1 q hq
  · have := hL.2.2.2.2.2.2.2
    exact ⟨by show d1 + 1 ≤ _; have := hD.1; omega, by show 8 + (mr.2.2.1 + 11) + 64 * d1 ≤ _; have := hD.2; omega⟩
theorem X_kVi (np : Nat) (hO : Ok κ own cc) (hD : Dp κ d) {ix n : Nat} {C : String} {mr : MR} (hL : LkV own ix C mr n) {z : Int} {t N : Nat} {T : u_T} (hc : cls_[t - 1]? = some (C, T, N)) (ht2 : 1 ≤ t ∧ t < 20) {d1 P1 S1 : Nat} {Post1 : Int → Mm → Prop} {PX1 : String → Mm → Prop} (As : List Value) {rest : List Value} (hn' : As.length = n) (dg : decode cc pc = .ok (.invokevirtual ix, 3)) (hn : np = pc + 3) (ht : w 0 z 0 = (t : Int)) (hM : KI (γof κ) d1 mr (rv z :: As) w P1 S1 Post1 PX1) (hd : d1 + 1 ≤ d) (hrest : (rest.map fun v => v.category).sum ≤ 8) (hP : P1 ≤ P) (hS : S1 ≤ S) (kk : ∀ r w', IR r → Post1 r w' → X κ (P - P1) (S - S1) w' np ls (.int (I r) :: rest)) (kx : ∀ E w', PX1 E w' → XE κ (P - P1) (S - S1) w' pc ls E) : X κ P S w pc ls (As.reverse ++ rv z :: rest) :=
  X_callV np hO hD hL hc ht2 As hn' dg hn ht hM hd hrest hP hS (fun v w' ⟨r, e, h1, h2⟩ => by subst e; exact kk r w' h1 h2) kx
theorem X_kVv (np : Nat) (hO : Ok κ own cc) (hD : Dp κ d) {ix n : Nat} {C : String} {mr : MR} (hL : LkV own ix C mr n) {z : Int} {t N : Nat} {T : u_T} (hc : cls_[t - 1]? = some (C, T, N)) (ht2 : 1 ≤ t ∧ t < 20) {d1 P1 S1 : Nat} {Post1 : Mm → Prop} {PX1 : String → Mm → Prop} (As : List Value) {rest : List Value} (hn' : As.length = n) (dg : decode cc pc = .ok (.invokevirtual ix, 3)) (hn : np = pc + 3) (ht : w 0 z 0 = (t : Int)) (hM : KV (γof κ) d1 mr (rv z :: As) w P1 S1 Post1 PX1) (hd : d1 + 1 ≤ d) (hrest : (rest.map fun v => v.category).sum ≤ 8) (hP : P1 ≤ P) (hS : S1 ≤ S) (kk : ∀ w', Post1 w' → X κ (P - P1) (S - S1) w' np ls rest) (kx : ∀ E w', PX1 E w' → XE κ (P - P1) (S - S1) w' pc ls E) : X κ P S w pc ls (As.reverse ++ rv z :: rest) :=
  X_callV np hO hD hL hc ht2 As hn' dg hn ht hM hd hrest hP hS (fun v w' ⟨e, h2⟩ => by subst e; exact kk w' h2) kx
theorem X_kVr (np : Nat) (hO : Ok κ own cc) (hD : Dp κ d) {ix n : Nat} {C : String} {mr : MR} (hL : LkV own ix C mr n) {z : Int} {t N : Nat} {T : u_T} (hc : cls_[t - 1]? = some (C, T, N)) (ht2 : 1 ≤ t ∧ t < 20) {d1 P1 S1 : Nat} {Post1 : Int → Mm → Prop} {PX1 : String → Mm → Prop} (As : List Value) {rest : List Value} (hn' : As.length = n) (dg : decode cc pc = .ok (.invokevirtual ix, 3)) (hn : np = pc + 3) (ht : w 0 z 0 = (t : Int)) (hM : KR (γof κ) d1 mr (rv z :: As) w P1 S1 Post1 PX1) (hd : d1 + 1 ≤ d) (hrest : (rest.map fun v => v.category).sum ≤ 8) (hP : P1 ≤ P) (hS : S1 ≤ S) (kk : ∀ r w', Post1 r w' → X κ (P - P1) (S - S1) w' np ls (rv r :: rest)) (kx : ∀ E w', PX1 E w' → XE κ (P - P1) (S - S1) w' pc ls E) : X κ P S w pc ls (As.reverse ++ rv z :: rest) :=
  X_callV np hO hD hL hc ht2 As hn' dg hn ht hM hd hrest hP hS (fun v w' ⟨r, e, h2⟩ => by subst e; exact kk r w' h2) kx
theorem X_kSi (np : Nat) (hO : Ok κ own cc) (hD : Dp κ d) {ix n : Nat} {mr : MR} (hL : LkS own ix mr n) {d1 P1 S1 : Nat} {Post1 : Int → Mm → Prop} {PX1 : String → Mm → Prop} (As : List Value) {rest : List Value} (hn' : As.length = n) (dg : decode cc pc = .ok (.invokestatic ix, 3)) (hn : np = pc + 3) (hM : KI (γof κ) d1 mr As w P1 S1 Post1 PX1) (hd : d1 + 1 ≤ d) (hrest : (rest.map fun v => v.category).sum ≤ 8) (hP : P1 ≤ P) (hS : S1 ≤ S) (kk : ∀ r w', IR r → Post1 r w' → X κ (P - P1) (S - S1) w' np ls (.int (I r) :: rest)) (kx : ∀ E w', PX1 E w' → XE κ (P - P1) (S - S1) w' pc ls E) : X κ P S w pc ls (As.reverse ++ rest) :=
  X_callS np hO hD hL As hn' dg hn hM hd hrest hP hS (fun v w' ⟨r, e, h1, h2⟩ => by subst e; exact kk r w' h1 h2) kx
theorem X_kSv (np : Nat) (hO : Ok κ own cc) (hD : Dp κ d) {ix n : Nat} {mr : MR} (hL : LkS own ix mr n) {d1 P1 S1 : Nat} {Post1 : Mm → Prop} {PX1 : String → Mm → Prop} (As : List Value) {rest : List Value} (hn' : As.length = n) (dg : decode cc pc = .ok (.invokestatic ix, 3)) (hn : np = pc + 3) (hM : KV (γof κ) d1 mr As w P1 S1 Post1 PX1) (hd : d1 + 1 ≤ d) (hrest : (rest.map fun v => v.category).sum ≤ 8) (hP : P1 ≤ P) (hS : S1 ≤ S) (kk : ∀ w', Post1 w' → X κ (P - P1) (S - S1) w' np ls rest) (kx : ∀ E w', PX1 E w' → XE κ (P - P1) (S - S1) w' pc ls E) : X κ P S w pc ls (As.reverse ++ rest) :=
  X_callS np hO hD hL As hn' dg hn hM hd hrest hP hS (fun v w' ⟨e, h2⟩ => by subst e; exact kk w' h2) kx
theorem X_kSr (np : Nat) (hO : Ok κ own cc) (hD : Dp κ d) {ix n : Nat} {mr : MR} (hL : LkS own ix mr n) {d1 P1 S1 : Nat} {Post1 : Int → Mm → Prop} {PX1 : String → Mm → Prop} (As : List Value) {rest : List Value} (hn' : As.length = n) (dg : decode cc pc = .ok (.invokestatic ix, 3)) (hn : np = pc + 3) (hM : KR (γof κ) d1 mr As w P1 S1 Post1 PX1) (hd : d1 + 1 ≤ d) (hrest : (rest.map fun v => v.category).sum ≤ 8) (hP : P1 ≤ P) (hS : S1 ≤ S) (kk : ∀ r w', Post1 r w' → X κ (P - P1) (S - S1) w' np ls (rv r :: rest)) (kx : ∀ E w', PX1 E w' → XE κ (P - P1) (S - S1) w' pc ls E) : X κ P S w pc ls (As.reverse ++ rest) :=
  X_callS np hO hD hL As hn' dg hn hM hd hrest hP hS (fun v w' ⟨r, e, h2⟩ => by subst e; exact kk r w' h2) kx
theorem X_kIv (np : Nat) (hO : Ok κ own cc) (hD : Dp κ d) {ix n : Nat} {y : MethodName} {bytes : ByteArray} {maxL : Nat} (hL : LkI own ix (y, bytes, maxL, none) n) {z : Int} {d1 P1 S1 : Nat} {Post1 : Mm → Prop} {PX1 : String → Mm → Prop} (As : List Value) {rest : List Value} (hn' : As.length = n) (dg : decode cc pc = .ok (.invokespecial ix, 3)) (hn : np = pc + 3) (hz : 0 < z) (hM : KV (γof κ) d1 (y, bytes, maxL, none) (rv z :: As) w P1 S1 Post1 PX1) (hd : d1 + 1 ≤ d) (hrest : (rest.map fun v => v.category).sum ≤ 8) (hP : P1 ≤ P) (hS : S1 ≤ S) (kk : ∀ w', Post1 w' → X κ (P - P1) (S - S1) w' np ls rest) (kx : ∀ E w', PX1 E w' → XE κ (P - P1) (S - S1) w' pc ls E) : X κ P S w pc ls (As.reverse ++ rv z :: rest) :=
  X_callI np hO hD hL As hn' dg hn hz hM hd hrest hP hS (fun v w' ⟨e, h2⟩ => by subst e; exact kk w' h2) kx
theorem X_kNv (np : Nat) (hO : Ok κ own cc) (hD : Dp κ d) {ix n : Nat} {host : String} {y : MethodName} {bytes : ByteArray} {maxL : Nat} (hL : LkN own ix host (y, bytes, maxL, none) n) {z : Int} {d1 P1 S1 : Nat} {Post1 : Mm → Prop} {PX1 : String → Mm → Prop} (As : List Value) {rest : List Value} (hn' : As.length = n) (dg : decode cc pc = .ok (.invokespecial ix, 3)) (hn : np = pc + 3) (hz : 0 < z) (hM : KV (γof κ) d1 (y, bytes, maxL, none) (rv z :: As) w P1 S1 Post1 PX1) (hd : d1 + 1 ≤ d) (hrest : (rest.map fun v => v.category).sum ≤ 8) (hP : P1 ≤ P) (hS : S1 ≤ S) (kk : ∀ w', Post1 w' → X κ (P - P1) (S - S1) w' np ls rest) (kx : ∀ E w', PX1 E w' → XE κ (P - P1) (S - S1) w' pc ls E) : X κ P S w pc ls (As.reverse ++ rv z :: rest) :=
  X_callIN np hO hD hL As hn' dg hn hz hM hd hrest hP hS (fun v w' ⟨e, h2⟩ => by subst e; exact kk w' h2) kx
theorem X_kFi (np : Nat) (hO : Ok κ own cc) (hD : Dp κ d) {ix n ct : Nat} {x : MethodName} {mr : MR} (hL : LkF own ix x mr n) {z : Int} {d1 P1 S1 : Nat} {Post1 : Int → Mm → Prop} {PX1 : String → Mm → Prop} (As : List Value) {rest : List Value} (hn' : As.length = n) (dg : decode cc pc = .ok (.invokeinterface ix ct, 5)) (hn : np = pc + 5) (ht : w 0 z 0 = 15) (hM : KI (γof κ) d1 mr (rv z :: As) w P1 S1 Post1 PX1) (hd : d1 + 1 ≤ d) (hrest : (rest.map fun v => v.category).sum ≤ 8) (hP : P1 ≤ P) (hS : S1 ≤ S) (kk : ∀ r w', IR r → Post1 r w' → X κ (P - P1) (S - S1) w' np ls (.int (I r) :: rest)) (kx : ∀ E w', PX1 E w' → XE κ (P - P1) (S - S1) w' pc ls E) : X κ P S w pc ls (As.reverse ++ rv z :: rest) :=
  X_callF np hO hD hL As hn' dg hn ht hM hd hrest hP hS (fun v w' ⟨r, e, h1, h2⟩ => by subst e; exact kk r w' h1 h2) kx
theorem X_kFv (np : Nat) (hO : Ok κ own cc) (hD : Dp κ d) {ix n ct : Nat} {x : MethodName} {mr : MR} (hL : LkF own ix x mr n) {z : Int} {d1 P1 S1 : Nat} {Post1 : Mm → Prop} {PX1 : String → Mm → Prop} (As : List Value) {rest : List Value} (hn' : As.length = n) (dg : decode cc pc = .ok (.invokeinterface ix ct, 5)) (hn : np = pc + 5) (ht : w 0 z 0 = 15) (hM : KV (γof κ) d1 mr (rv z :: As) w P1 S1 Post1 PX1) (hd : d1 + 1 ≤ d) (hrest : (rest.map fun v => v.category).sum ≤ 8) (hP : P1 ≤ P) (hS : S1 ≤ S) (kk : ∀ w', Post1 w' → X κ (P - P1) (S - S1) w' np ls rest) (kx : ∀ E w', PX1 E w' → XE κ (P - P1) (S - S1) w' pc ls E) : X κ P S w pc ls (As.reverse ++ rv z :: rest) :=
  X_callF np hO hD hL As hn' dg hn ht hM hd hrest hP hS (fun v w' ⟨e, h2⟩ => by subst e; exact kk w' h2) kx
theorem X_kFr (np : Nat) (hO : Ok κ own cc) (hD : Dp κ d) {ix n ct : Nat} {x : MethodName} {mr : MR} (hL : LkF own ix x mr n) {z : Int} {d1 P1 S1 : Nat} {Post1 : Int → Mm → Prop} {PX1 : String → Mm → Prop} (As : List Value) {rest : List Value} (hn' : As.length = n) (dg : decode cc pc = .ok (.invokeinterface ix ct, 5)) (hn : np = pc + 5) (ht : w 0 z 0 = 15) (hM : KR (γof κ) d1 mr (rv z :: As) w P1 S1 Post1 PX1) (hd : d1 + 1 ≤ d) (hrest : (rest.map fun v => v.category).sum ≤ 8) (hP : P1 ≤ P) (hS : S1 ≤ S) (kk : ∀ r w', Post1 r w' → X κ (P - P1) (S - S1) w' np ls (rv r :: rest)) (kx : ∀ E w', PX1 E w' → XE κ (P - P1) (S - S1) w' pc ls E) : X κ P S w pc ls (As.reverse ++ rv z :: rest) :=
  X_callF np hO hD hL As hn' dg hn ht hM hd hrest hP hS (fun v w' ⟨r, e, h2⟩ => by subst e; exact kk r w' h2) kx
theorem X_objInit (np : Nat) (hO : Ok κ own cc) {ix : Nat} (hl : Cond.methodLink own ix Lib.objectInit ∈ lwG) (dg : decode cc pc = .ok (.invokespecial ix, 3)) (hn : np = pc + 3) (hD : Dp κ d) (hd : 1 ≤ d) {z : Int} {rest : List Value} (hz : 0 < z) (hrest : (rest.map fun v => v.category).sum ≤ 8) (kk : X κ P S w np ls rest) : X κ P S w pc ls (rv z :: rest) := by
  subst hn
  rw [rv_pos hz]
  intro H locs la a b h1 h2 h3 h4 h5 h6
  exact W.objInit hO.1 hO.2.1 hO.2.2.2.1 (hO.w hl) (hO.w w_158) (hO.w w_159) (g := F0 (km κ) pc la (.ref z.toNat :: rest)) rfl (h4.1.trans hO.2.2.1.symm) rfl dg (by have := hD.1; omega) (by have := hD.2; show 2 * 0 + _ + 12 ≤ _; omega) (kk H locs la a b h1 h2 h3 h4 h5 h6)
theorem XH.two {g : GC} {A : Nat → Prop} {w : Mm} {H : Heap} (h : XH g A w H) {a b : Nat} {w1 : Mm} (ha : w 0 a 0 ≠ 0) (hb : w 0 b 0 ≠ 0) (h0 : ∀ c : Nat, w1 0 c 0 = w 0 c 0) (ho : ∀ c : Nat, c ≠ b → w 0 c 0 ≠ 0 → cf g w1 c = cf g w c) :
    ∃ (L : List Nat) (qa qb : Nat), va_P g.1 cls_ (va_pl L (cf g w)) H ∧ va_D A (va_pl L (cf g w)) ∧ (va_pl L (cf g w))[qa]? = some (a, cf g w a) ∧ (va_pl L (cf g w))[qb]? = some (b, cf g w b) ∧
      ∀ H1 : Heap, va_P g.1 cls_ ((va_pl L (cf g w)).set qb (b, cf g w1 b)) H1 → va_D A ((va_pl L (cf g w)).set qb (b, cf g w1 b)) → XH g A w1 H1 := by
  obtain ⟨L, q0, hL, hP, hD, hq, hset⟩ := h.set hb h0 ho
  obtain ⟨k, hk⟩ := va_pl_get (X := []) (L := L) (f := cf g w) ((hL a).mpr ha)
  exact ⟨L, k, q0, hP, hD, hk, hq, hset⟩
theorem X_copyi (np : Nat) (hO : Ok κ own cc) {ix : Nat} (hl : Cond.methodLink own ix arraycopyName ∈ lwG) {a b sp dp n : Int} {rest : List Value} (dg : decode cc pc = .ok (.invokestatic ix, 3)) (hn : np = pc + 3) (ta : w 0 a 0 = 20) (tb : w 0 b 0 = 20) (h1 : 0 ≤ sp ∧ sp + n ≤ w 2 a 0) (h2 : 0 ≤ dp ∧ dp + n ≤ w 2 b 0) (h3 : 0 ≤ n) (hD : Dp κ d) (hd : 1 ≤ d) (hrest : (rest.map fun v => v.category).sum ≤ 8) (kk : X κ P S (cpA w a b sp dp n) np ls rest) : X κ P S w pc ls (.int (I n) :: .int (I dp) :: rv b :: .int (I sp) :: rv a :: rest) := by
  subst hn
  intro H locs la k m q1 q2 q3 q4 q5 q6
  obtain ⟨a0, a1⟩ := zpos q1 (t := 20) ta (by decide)
  obtain ⟨b0, b1⟩ := zpos q1 (t := 20) tb (by decide)
  rw [rv_pos a0, rv_pos b0]
  have ia : IR (w 2 a 0) := q1.1 2 a 0 rfl
  have ib : IR (w 2 b 0) := q1.1 2 b 0 rfl
  have i1 : IR sp := by omega
  have i2 : IR dp := by omega
  have i3 : IR n := by omega
  have hz : IR 0 := by omega
  have ta' : w 0 (a.toNat : Nat) 0 = 20 := by rw [a1]; exact ta
  have tb' : w 0 (b.toNat : Nat) 0 = 20 := by rw [b1]; exact tb
  have hk0 : ∀ c : Nat, cpA w a b sp dp n 0 c 0 = w 0 c 0 := fun c => flA_k (by decide)
  have tb2 : cpA w a b sp dp n 0 (b.toNat : Nat) 0 = 20 := by rw [hk0]; exact tb'
  obtain ⟨L, qa, qb, hP, hDd, hqa, hqb, hset⟩ := q2.two (a := a.toNat) (b := b.toNat) (w1 := cpA w a b sp dp n) (by rw [ta']; decide) (by rw [tb']; decide) hk0 (fun c hc hc0 => cf_congr (fun k i => flA_a (by omega)) (fun k i hk2 _ => flA_k (by omega)))
  rw [cf_int ta', a1] at hqa
  rw [cf_int tb', b1] at hqb
  rw [cf_int tb2, b1] at hset
  have hlen : (cpA w a b sp dp n 2 b 0) = w 2 b 0 := flA_k (by decide)
  have hfun : (fun j : Nat => I (cpA w a b sp dp n 1 b j)) = va_cpy (fun j : Nat => I (w 1 a j)) (fun j : Nat => I (w 1 b j)) (I sp).toNatClampNeg (I dp).toNatClampNeg (I n).toNatClampNeg := by
    funext j
    rw [I_clamp i1, I_clamp i2, I_clamp i3]
    unfold cpA va_cpy
    rw [flA_v]
    by_cases c : dp ≤ (j : Int) ∧ (j : Int) < dp + n
    · rw [if_pos c, if_pos (by omega)]
      congr 2; omega
    · rw [if_neg c, if_neg (by omega)]
  rw [hlen, hfun] at hset
  have hw1 : WI (cpA w a b sp dp n) := by
    refine ⟨fun c x i hc => ?_, fun z hz0 => ?_, fun x y e hx => ?_⟩
    · unfold cpA flA
      by_cases e : c = 1 ∧ x = b ∧ dp ≤ i ∧ i < dp + n
      · rw [if_pos e]; exact q1.1 1 a _ rfl
      · rw [if_neg e]; exact q1.1 c x i hc
    · have e : cpA w a b sp dp n 0 z 0 = w 0 z 0 := flA_k (by decide)
      rw [e] at hz0 ⊢; exact q1.2.1 z hz0
    · have e1 : ∀ z, cpA w a b sp dp n 0 z 0 = w 0 z 0 := fun z => flA_k (by decide)
      rw [e1, e1] at e
      rw [e1] at hx
      exact q1.2.2 x y e hx
  have h9 : nativeFrameWords "java/lang/System" "arraycopy" 5 + 11 ≤ 50 := by decide +kernel
  refine va_copyi hO.1 hO.2.1 (hO.2.2.1.trans q4.1.symm) hO.2.2.2.1 (hO.w hl) (hO.w w_397) (hO.w w_396) (hO.w w_135) hO.2.2.2.2.2.2.1 hP hDd q3 qa qb 0 0 hqa hqb rfl rfl rfl (fun q => absurd ((I_lt i1 hz).mp q) (by omega)) (fun q => absurd ((I_lt i2 hz).mp q) (by omega)) (fun q => absurd ((I_lt i3 hz).mp q) (by omega)) (by rw [I_clamp i1, I_clamp i3]; omega) (by rw [I_clamp i2, I_clamp i3]; omega) (fun _ _ => rfl) (by have := hD.1; omega) (by have := hD.2; omega) dg (fun H1 l1 r1 r2 r3 => kk H1 l1 la k m hw1 (hset H1 r1 r2) r3 q4 q5 q6)
theorem X_mmax (np : Nat) (hO : Ok κ own cc) {ix : Nat} (hl : Cond.methodLink own ix Lib.Math.max.name ∈ lwG) {a b : Int} {rest : List Value} (dg : decode cc pc = .ok (.invokestatic ix, 3)) (hn : np = pc + 3) (ha : IR a) (hb : IR b) (hD : Dp κ d) (hd : 1 ≤ d) (hrest : (rest.map fun v => v.category).sum ≤ 8) (kk : X κ P S w np ls (.int (I (if a < b then b else a)) :: rest)) : X κ P S w pc ls (.int (I b) :: .int (I a) :: rest) := by
  subst hn
  intro H locs la k m q1 q2 q3 q4 q5 q6
  refine va_mmax hO.1 hO.2.1 (hO.2.2.1.trans q4.1.symm) hO.2.2.2.1 (hO.w hl) (hO.w w_175) (hO.w w_126) (hO.w w_176) (by have := hD.1; omega) (by have := hD.2; omega) (by omega) (by omega) dg ?_
  have e : (if I a < I b then I b else I a) = I (if a < b then b else a) := by
    by_cases c : I a < I b
    · rw [if_pos c, if_pos ((I_lt ha hb).mp c)]
    · rw [if_neg c, if_neg (fun x => c ((I_lt ha hb).mpr x))]
  rw [e]
  exact kk H locs la k m q1 q2 q3 q4 q5 q6
theorem X_mmin (np : Nat) (hO : Ok κ own cc) {ix : Nat} (hl : Cond.methodLink own ix Lib.Math.min.name ∈ lwG) {a b : Int} {rest : List Value} (dg : decode cc pc = .ok (.invokestatic ix, 3)) (hn : np = pc + 3) (ha : IR a) (hb : IR b) (hD : Dp κ d) (hd : 1 ≤ d) (hrest : (rest.map fun v => v.category).sum ≤ 8) (kk : X κ P S w np ls (.int (I (if b < a then b else a)) :: rest)) : X κ P S w pc ls (.int (I b) :: .int (I a) :: rest) := by
  subst hn
  intro H locs la k m q1 q2 q3 q4 q5 q6
  refine va_mmin hO.1 hO.2.1 (hO.2.2.1.trans q4.1.symm) hO.2.2.2.1 (hO.w hl) (hO.w w_393) (hO.w w_126) (hO.w w_394) (by have := hD.1; omega) (by have := hD.2; omega) (by omega) (by omega) dg ?_
  have e : (if I b < I a then I b else I a) = I (if b < a then b else a) := by
    by_cases c : I b < I a
    · rw [if_pos c, if_pos ((I_lt hb ha).mp c)]
    · rw [if_neg c, if_neg (fun x => c ((I_lt hb ha).mpr x))]
  rw [e]
  exact kk H locs la k m q1 q2 q3 q4 q5 q6
theorem n_1 (np : Nat) (hO : Ok κ own cc) {ix : Nat} (hcl : Cond.classLink own ix "Foldback$Chars" ∈ lwG) (hP : 1 ≤ P) (hS : 1 ≤ S) (dg : decode cc pc = .ok (.new ix, 3)) (hn : np = pc + 3) (kk : ∀ q : Int, 0 < q → w 0 q 0 = 0 → X κ (P - 1) (S - 1) (newO w q 1) np ls (rv q :: st)) : X κ P S w pc ls st := X_newG np hO (t := 1) (N := 1) (C := "Foldback$Chars") (T := TX0) (tyf := tyX0) (by decide) (by decide) rfl inX0 tyX0_ok hcl w_782 w_147 (fun j hj => match j, hj with | 0, _ => rfl | n + 1, h => absurd h (by omega)) hP hS dg hn kk
theorem n_2 (np : Nat) (hO : Ok κ own cc) {ix : Nat} (hcl : Cond.classLink own ix "Foldback$Desk" ∈ lwG) (hP : 1 ≤ P) (hS : 6 ≤ S) (dg : decode cc pc = .ok (.new ix, 3)) (hn : np = pc + 3) (kk : ∀ q : Int, 0 < q → w 0 q 0 = 0 → X κ (P - 1) (S - 6) (newO w q 2) np ls (rv q :: st)) : X κ P S w pc ls st := X_newG np hO (t := 2) (N := 6) (C := "Foldback$Desk") (T := TX1) (tyf := tyX1) (by decide) (by decide) rfl inX1 tyX1_ok hcl w_161 w_124 (fun j hj => match j, hj with | 0, _ => rfl | 1, _ => rfl | 2, _ => rfl | 3, _ => rfl | 4, _ => rfl | 5, _ => rfl | n + 6, h => absurd h (by omega)) hP hS dg hn kk
theorem n_3 (np : Nat) (hO : Ok κ own cc) {ix : Nat} (hcl : Cond.classLink own ix "Foldback$Listeners" ∈ lwG) (hP : 1 ≤ P) (hS : 6 ≤ S) (dg : decode cc pc = .ok (.new ix, 3)) (hn : np = pc + 3) (kk : ∀ q : Int, 0 < q → w 0 q 0 = 0 → X κ (P - 1) (S - 6) (newO w q 3) np ls (rv q :: st)) : X κ P S w pc ls st := X_newG np hO (t := 3) (N := 6) (C := "Foldback$Listeners") (T := TX2) (tyf := tyX2) (by decide) (by decide) rfl inX2 tyX2_ok hcl w_422 w_136 (fun j hj => match j, hj with | 0, _ => rfl | 1, _ => rfl | 2, _ => rfl | 3, _ => rfl | 4, _ => rfl | 5, _ => rfl | n + 6, h => absurd h (by omega)) hP hS dg hn kk
theorem n_4 (np : Nat) (hO : Ok κ own cc) {ix : Nat} (hcl : Cond.classLink own ix "Foldback$Macro" ∈ lwG) (hP : 1 ≤ P) (hS : 4 ≤ S) (dg : decode cc pc = .ok (.new ix, 3)) (hn : np = pc + 3) (kk : ∀ q : Int, 0 < q → w 0 q 0 = 0 → X κ (P - 1) (S - 4) (newO w q 4) np ls (rv q :: st)) : X κ P S w pc ls st := X_newG np hO (t := 4) (N := 4) (C := "Foldback$Macro") (T := TX3) (tyf := tyX3) (by decide) (by decide) rfl inX3 tyX3_ok hcl w_491 w_139 (fun j hj => match j, hj with | 0, _ => rfl | 1, _ => rfl | 2, _ => rfl | 3, _ => rfl | n + 4, h => absurd h (by omega)) hP hS dg hn kk
theorem n_5 (np : Nat) (hO : Ok κ own cc) {ix : Nat} (hcl : Cond.classLink own ix "Foldback$Node" ∈ lwG) (hP : 1 ≤ P) (hS : 8 ≤ S) (dg : decode cc pc = .ok (.new ix, 3)) (hn : np = pc + 3) (kk : ∀ q : Int, 0 < q → w 0 q 0 = 0 → X κ (P - 1) (S - 8) (newO w q 5) np ls (rv q :: st)) : X κ P S w pc ls st := X_newG np hO (t := 5) (N := 8) (C := "Foldback$Node") (T := TX4) (tyf := tyX4) (by decide) (by decide) rfl inX4 tyX4_ok hcl w_286 w_132 (fun j hj => match j, hj with | 0, _ => rfl | 1, _ => rfl | 2, _ => rfl | 3, _ => rfl | 4, _ => rfl | 5, _ => rfl | 6, _ => rfl | 7, _ => rfl | n + 8, h => absurd h (by omega)) hP hS dg hn kk
theorem n_6 (np : Nat) (hO : Ok κ own cc) {ix : Nat} (hcl : Cond.classLink own ix "Foldback$State" ∈ lwG) (hP : 1 ≤ P) (hS : 5 ≤ S) (dg : decode cc pc = .ok (.new ix, 3)) (hn : np = pc + 3) (kk : ∀ q : Int, 0 < q → w 0 q 0 = 0 → X κ (P - 1) (S - 5) (newO w q 6) np ls (rv q :: st)) : X κ P S w pc ls st := X_newG np hO (t := 6) (N := 5) (C := "Foldback$State") (T := TX5) (tyf := tyX5) (by decide) (by decide) rfl inX5 tyX5_ok hcl w_167 w_125 (fun j hj => match j, hj with | 0, _ => rfl | 1, _ => rfl | 2, _ => rfl | 3, _ => rfl | 4, _ => rfl | n + 5, h => absurd h (by omega)) hP hS dg hn kk
theorem n_7 (np : Nat) (hO : Ok κ own cc) {ix : Nat} (hcl : Cond.classLink own ix "Foldback$Step" ∈ lwG) (hP : 1 ≤ P) (hS : 5 ≤ S) (dg : decode cc pc = .ok (.new ix, 3)) (hn : np = pc + 3) (kk : ∀ q : Int, 0 < q → w 0 q 0 = 0 → X κ (P - 1) (S - 5) (newO w q 7) np ls (rv q :: st)) : X κ P S w pc ls st := X_newG np hO (t := 7) (N := 5) (C := "Foldback$Step") (T := TX6) (tyf := tyX6) (by decide) (by decide) rfl inX6 tyX6_ok hcl w_811 w_148 (fun j hj => match j, hj with | 0, _ => rfl | 1, _ => rfl | 2, _ => rfl | 3, _ => rfl | 4, _ => rfl | n + 5, h => absurd h (by omega)) hP hS dg hn kk
theorem n_8 (np : Nat) (hO : Ok κ own cc) {ix : Nat} (hcl : Cond.classLink own ix "Foldback$Steps" ∈ lwG) (hP : 1 ≤ P) (hS : 4 ≤ S) (dg : decode cc pc = .ok (.new ix, 3)) (hn : np = pc + 3) (kk : ∀ q : Int, 0 < q → w 0 q 0 = 0 → X κ (P - 1) (S - 4) (newO w q 8) np ls (rv q :: st)) : X κ P S w pc ls st := X_newG np hO (t := 8) (N := 4) (C := "Foldback$Steps") (T := TX7) (tyf := tyX7) (by decide) (by decide) rfl inX7 tyX7_ok hcl w_204 w_127 (fun j hj => match j, hj with | 0, _ => rfl | 1, _ => rfl | 2, _ => rfl | 3, _ => rfl | n + 4, h => absurd h (by omega)) hP hS dg hn kk
theorem n_9 (np : Nat) (hO : Ok κ own cc) {ix : Nat} (hcl : Cond.classLink own ix "Foldback$Trace" ∈ lwG) (hP : 1 ≤ P) (hS : 5 ≤ S) (dg : decode cc pc = .ok (.new ix, 3)) (hn : np = pc + 3) (kk : ∀ q : Int, 0 < q → w 0 q 0 = 0 → X κ (P - 1) (S - 5) (newO w q 9) np ls (rv q :: st)) : X κ P S w pc ls st := X_newG np hO (t := 9) (N := 5) (C := "Foldback$Trace") (T := TX8) (tyf := tyX8) (by decide) (by decide) rfl inX8 tyX8_ok hcl w_456 w_138 (fun j hj => match j, hj with | 0, _ => rfl | 1, _ => rfl | 2, _ => rfl | 3, _ => rfl | 4, _ => rfl | n + 5, h => absurd h (by omega)) hP hS dg hn kk
theorem n_10 (np : Nat) (hO : Ok κ own cc) {ix : Nat} (hcl : Cond.classLink own ix "Foldback$Traces" ∈ lwG) (hP : 1 ≤ P) (hS : 2 ≤ S) (dg : decode cc pc = .ok (.new ix, 3)) (hn : np = pc + 3) (kk : ∀ q : Int, 0 < q → w 0 q 0 = 0 → X κ (P - 1) (S - 2) (newO w q 10) np ls (rv q :: st)) : X κ P S w pc ls st := X_newG np hO (t := 10) (N := 2) (C := "Foldback$Traces") (T := TX9) (tyf := tyX9) (by decide) (by decide) rfl inX9 tyX9_ok hcl w_449 w_137 (fun j hj => match j, hj with | 0, _ => rfl | 1, _ => rfl | n + 2, h => absurd h (by omega)) hP hS dg hn kk
theorem n_11 (np : Nat) (hO : Ok κ own cc) {ix : Nat} (hcl : Cond.classLink own ix "Foldback$Tree" ∈ lwG) (hP : 1 ≤ P) (hS : 5 ≤ S) (dg : decode cc pc = .ok (.new ix, 3)) (hn : np = pc + 3) (kk : ∀ q : Int, 0 < q → w 0 q 0 = 0 → X κ (P - 1) (S - 5) (newO w q 11) np ls (rv q :: st)) : X κ P S w pc ls st := X_newG np hO (t := 11) (N := 5) (C := "Foldback$Tree") (T := TX10) (tyf := tyX10) (by decide) (by decide) rfl inX10 tyX10_ok hcl w_253 w_128 (fun j hj => match j, hj with | 0, _ => rfl | 1, _ => rfl | 2, _ => rfl | 3, _ => rfl | 4, _ => rfl | n + 5, h => absurd h (by omega)) hP hS dg hn kk
theorem n_12 (np : Nat) (hO : Ok κ own cc) {ix : Nat} (hcl : Cond.classLink own ix "Foldback$Trial" ∈ lwG) (hP : 1 ≤ P) (hS : 6 ≤ S) (dg : decode cc pc = .ok (.new ix, 3)) (hn : np = pc + 3) (kk : ∀ q : Int, 0 < q → w 0 q 0 = 0 → X κ (P - 1) (S - 6) (newO w q 12) np ls (rv q :: st)) : X κ P S w pc ls st := X_newG np hO (t := 12) (N := 6) (C := "Foldback$Trial") (T := TX11) (tyf := tyX11) (by decide) (by decide) rfl inX11 tyX11_ok hcl w_514 w_140 (fun j hj => match j, hj with | 0, _ => rfl | 1, _ => rfl | 2, _ => rfl | 3, _ => rfl | 4, _ => rfl | 5, _ => rfl | n + 6, h => absurd h (by omega)) hP hS dg hn kk
theorem n_13 (np : Nat) (hO : Ok κ own cc) {ix : Nat} (hcl : Cond.classLink own ix "Foldback" ∈ lwG) (hP : 1 ≤ P) (hS : 16 ≤ S) (dg : decode cc pc = .ok (.new ix, 3)) (hn : np = pc + 3) (kk : ∀ q : Int, 0 < q → w 0 q 0 = 0 → X κ (P - 1) (S - 16) (newO w q 13) np ls (rv q :: st)) : X κ P S w pc ls st := X_newG np hO (t := 13) (N := 16) (C := "Foldback") (T := TX12) (tyf := tyX12) (by decide) (by decide) rfl inX12 tyX12_ok hcl w_153 w_123 (fun j hj => match j, hj with | 0, _ => rfl | 1, _ => rfl | 2, _ => rfl | 3, _ => rfl | 4, _ => rfl | 5, _ => rfl | 6, _ => rfl | 7, _ => rfl | 8, _ => rfl | 9, _ => rfl | 10, _ => rfl | 11, _ => rfl | 12, _ => rfl | 13, _ => rfl | 14, _ => rfl | 15, _ => rfl | n + 16, h => absurd h (by omega)) hP hS dg hn kk
theorem n_15 (np : Nat) (hO : Ok κ own cc) {ix : Nat} (hcl : Cond.classLink own ix "java/util/ArrayList" ∈ lwG) (hP : 1 ≤ P) (hS : 3 ≤ S) (dg : decode cc pc = .ok (.new ix, 3)) (hn : np = pc + 3) (kk : ∀ q : Int, 0 < q → w 0 q 0 = 0 → X κ (P - 1) (S - 3) (newO w q 15) np ls (rv q :: st)) : X κ P S w pc ls st := X_newG np hO (t := 15) (N := 3) (C := "java/util/ArrayList") (T := TJx4a65c) (tyf := tyJx4a65c) (by decide) (by decide) rfl inJx4a65c tyJx4a65c_ok hcl w_259 w_131 (fun j hj => match j, hj with | 0, _ => rfl | 1, _ => rfl | 2, _ => rfl | n + 3, h => absurd h (by omega)) hP hS dg hn kk
end XK
theorem w_aci : Cond.arrayClass .int ∈ lwG := w_201
theorem w_acz : Cond.arrayClass .boolean ∈ lwG := w_202
theorem nX12_9 : LkN RX12 9 "Foldback" mX1_init 0 := ⟨w_164, by decide, w_163, w_124, rfl, rfl, ⟨by decide, by decide, by decide +kernel⟩, by decide⟩
theorem nX1_22 : LkN RX1 22 "Foldback" mX7_init 0 := ⟨w_207, by decide, w_206, w_127, rfl, rfl, ⟨by decide, by decide, by decide +kernel⟩, by decide⟩
theorem nX4_9 : LkN RX4 9 "Foldback" mX7_init 0 := ⟨w_207, by decide, w_206, w_127, rfl, rfl, ⟨by decide, by decide, by decide +kernel⟩, by decide⟩
theorem nX9_17 : LkN RX9 17 "Foldback" mX8_init 0 := ⟨w_459, by decide, w_458, w_138, rfl, rfl, ⟨by decide, by decide, by decide +kernel⟩, by decide⟩
theorem nX12_53 : LkN RX12 53 "Foldback" mX3_init 0 := ⟨w_494, by decide, w_493, w_139, rfl, rfl, ⟨by decide, by decide, by decide +kernel⟩, by decide⟩
theorem nX12_60 : LkN RX12 60 "Foldback" mX11_init 0 := ⟨w_517, by decide, w_516, w_140, rfl, rfl, ⟨by decide, by decide, by decide +kernel⟩, by decide⟩
