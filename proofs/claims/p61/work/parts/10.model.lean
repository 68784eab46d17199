/-! the reference: its object at m, its arrays at ad j; its cells are numbers alone: components 120.. the fields, 200 + j what array j holds -/
abbrev MU : Type := Int × (Nat → Int)
def mlen : Nat → Int
  | 0 => 1600
  | 1 => 4
  | 2 => 24
  | 3 => 24
  | 4 => 20
  | 5 => 80
  | 6 => 1600
  | 7 => 4
  | 8 => 16
  | 9 => 16
  | 10 => 4
  | 11 => 5
  | 12 => 30000
  | 13 => 131072
  | 14 => 4
  | 15 => 4
  | 16 => 640
  | 17 => 640
  | 18 => 640
  | 19 => 640
  | 20 => 640
  | 21 => 640
  | 22 => 640
  | 23 => 640
  | 24 => 640
  | 25 => 640
  | 26 => 640
  | 27 => 5
  | 28 => 3
  | 29 => 3
  | 30 => 3
  | 31 => 3
  | 32 => 8
  | 33 => 9
  | 34 => 9
  | 35 => 240
  | 36 => 5
  | 37 => 6
  | 38 => 6
  | 39 => 6
  | 40 => 400
  | 41 => 8
  | 42 => 8
  | 43 => 8
  | 44 => 8
  | 45 => 8
  | 46 => 64
  | _ => 0
def RM (w : Mm) (μ : MU) : Prop := w 0 μ.1 0 = 14 ∧ ∀ j : Nat, j < 47 → w (500 + j) μ.1 0 = μ.2 j ∧ w 0 (μ.2 j) 0 = ((100 + j : Nat) : Int) ∧ w 2 (μ.2 j) 0 = mlen j
theorem RM_up {w : Mm} {μ : MU} {k : Nat} {a i v : Int} (h : RM w μ) (hk : (Nat.blt 2 k && Nat.blt k 500) = true) : RM (up w k a i v) μ := by
  have h1 : 2 < k := Nat.le_of_ble_eq_true (Bool.and_eq_true_iff.mp hk).1
  have h2 : k < 500 := Nat.le_of_ble_eq_true (Bool.and_eq_true_iff.mp hk).2
  refine ⟨by rw [up_k w (by omega)]; exact h.1, fun j hj => ?_⟩
  rw [up_k w (by omega), up_k w (by omega), up_k w (by omega)]
  exact h.2 j hj
/-- a world that differs from w in the reference's numbers alone -/
theorem RM_of {w w' : Mm} {μ : MU} (h : RM w μ) (h0 : ∀ a, w' 0 a 0 = w 0 a 0) (h2 : ∀ a, w' 2 a 0 = w 2 a 0) (h5 : ∀ k a, 500 ≤ k → w' k a 0 = w k a 0) : RM w' μ := by
  refine ⟨by rw [h0]; exact h.1, fun j hj => ?_⟩
  rw [h0, h2, h5 _ _ (by omega)]; exact h.2 j hj
abbrev NX : String → Mm → Prop := fun _ _ => False
def PI (μ : MU) (Post : Int → Mm → Prop) : Option Value → Mm → Prop := fun v w' => ∃ r, v = some (.int (I r)) ∧ IR r ∧ Post r w' ∧ RM w' μ
def PV (μ : MU) (Post : Mm → Prop) : Option Value → Mm → Prop := fun v w' => v = none ∧ Post w' ∧ RM w' μ
def PS (w : Mm) (Post : Int → Prop) : Option Value → Mm → Prop := fun v w' => ∃ r, v = some (.int (I r)) ∧ IR r ∧ Post r ∧ w' = w
def CMi (γ : LC) (μ : MU) (d : Nat) (mr : MR) (args : List Value) (w : Mm) (Post : Int → Mm → Prop) : Prop := RM w μ → MX γ d mr (rv μ.1 :: args) w 0 0 (PI μ Post) NX
def CMv (γ : LC) (μ : MU) (d : Nat) (mr : MR) (args : List Value) (w : Mm) (Post : Mm → Prop) : Prop := RM w μ → MX γ d mr (rv μ.1 :: args) w 0 0 (PV μ Post) NX
def CSi (γ : LC) (d : Nat) (mr : MR) (args : List Value) (w : Mm) (Post : Int → Prop) : Prop := MX γ d mr args w 0 0 (PS w Post) NX
theorem CMi_of {γ : LC} {μ : MU} {d : Nat} {mr : MR} {args : List Value} {w : Mm} {Post : Int → Mm → Prop} (hm : mr.1.cls = RX13) (hc : ∀ v ∈ args, v.category = 1) (hlen : Nat.ble (args.length + 1) mr.2.2.1 = true)
    (body : ∀ κ : KC, Ok κ RX13 mr.2.1 → Fn κ mr d 0 0 (PI μ Post) NX → γof κ = γ → RM w μ → X κ 0 0 w 0 (some (rv μ.1) :: args.map some ++ List.replicate (mr.2.2.1 - (args.length + 1)) none) []) : CMi γ μ d mr args w Post :=
  fun hR => MX_of (own := RX13) (by rw [hm]; decide) hm (fun v hv => (List.mem_cons.mp hv).elim (fun e => e ▸ rv_cat _) (hc v)) hlen (fun κ hO hF hg => body κ hO hF hg hR)
theorem CMv_of {γ : LC} {μ : MU} {d : Nat} {mr : MR} {args : List Value} {w : Mm} {Post : Mm → Prop} (hm : mr.1.cls = RX13) (hc : ∀ v ∈ args, v.category = 1) (hlen : Nat.ble (args.length + 1) mr.2.2.1 = true)
    (body : ∀ κ : KC, Ok κ RX13 mr.2.1 → Fn κ mr d 0 0 (PV μ Post) NX → γof κ = γ → RM w μ → X κ 0 0 w 0 (some (rv μ.1) :: args.map some ++ List.replicate (mr.2.2.1 - (args.length + 1)) none) []) : CMv γ μ d mr args w Post :=
  fun hR => MX_of (own := RX13) (by rw [hm]; decide) hm (fun v hv => (List.mem_cons.mp hv).elim (fun e => e ▸ rv_cat _) (hc v)) hlen (fun κ hO hF hg => body κ hO hF hg hR)
theorem CSi_of {γ : LC} {d : Nat} {mr : MR} {args : List Value} {w : Mm} {Post : Int → Prop} (hm : mr.1.cls = RX13) (hc : ∀ v ∈ args, v.category = 1) (hlen : Nat.ble args.length mr.2.2.1 = true)
    (body : ∀ κ : KC, Ok κ RX13 mr.2.1 → Fn κ mr d 0 0 (PS w Post) NX → γof κ = γ → X κ 0 0 w 0 (args.map some ++ List.replicate (mr.2.2.1 - args.length) none) []) : CSi γ d mr args w Post :=
  MX_of (own := RX13) (by rw [hm]; decide) hm hc hlen body
theorem X_eqR {κ : KC} {μ : MU} {P S : Nat} {w w2 : Mm} {pc : Nat} {ls : List (Option Value)} {st : List Value} (hR : RM w μ) (e : w = w2) (k : RM w2 μ → X κ P S w2 pc ls st) : X κ P S w pc ls st := by subst e; exact k hR
section XRM
variable {κ : KC} {P S : Nat} {w : Mm} {pc : Nat} {ls : List (Option Value)} {st : List Value} {cc : ByteArray} {own : String} {μ : MU} {mr : MR} {d : Nat}
theorem ma_ld {j c : Nat} {L i : Int} (np : Nat) (hO : Ok κ own cc) (hR : RM w μ) (hj : Nat.blt j 47 = true) (hL : mlen j = L) (hc : c = 100 + (100 + j)) (dg : decode cc pc = .ok (.iaload, 1)) (hn : np = pc + 1) (h0 : 0 ≤ i) (h1 : i < L) (kk : IR (w c 0 i) → X κ P S w np ls (.int (I (w c 0 i)) :: st)) : X κ P S w pc ls (.int (I i) :: rv (μ.2 j) :: st) := by
  have hj' := Nat.le_of_ble_eq_true hj
  subst hc
  refine X_mald (t := 100 + j) np hO (Nat.ble_eq_true_of_le (by omega)) ?_ dg hn (hR.2 j (by omega)).2.1 ⟨h0, by rw [(hR.2 j (by omega)).2.2, hL]; exact h1⟩ kk
  unfold ik
  rw [show Nat.ble 60 (100 + (100 + j)) = true from Nat.ble_eq_true_of_le (by omega), show Nat.blt (100 + (100 + j)) 400 = true from Nat.ble_eq_true_of_le (by omega)]
  simp
theorem ma_st {j c : Nat} {L i v : Int} (np : Nat) (hO : Ok κ own cc) (hR : RM w μ) (hj : Nat.blt j 47 = true) (hL : mlen j = L) (hc : c = 100 + (100 + j)) (dg : decode cc pc = .ok (.iastore, 1)) (hn : np = pc + 1) (h0 : 0 ≤ i) (h1 : i < L) (hv : IR v) (kk : RM (up w c 0 i v) μ → X κ P S (up w c 0 i v) np ls st) : X κ P S w pc ls (.int (I v) :: .int (I i) :: rv (μ.2 j) :: st) := by
  have hj' := Nat.le_of_ble_eq_true hj
  subst hc
  refine X_mast (t := 100 + j) np hO (Nat.ble_eq_true_of_le (by omega)) dg hn (hR.2 j (by omega)).2.1 ⟨h0, by rw [(hR.2 j (by omega)).2.2, hL]; exact h1⟩ hv (kk (RM_up hR ?_))
  rw [show Nat.blt 2 (100 + (100 + j)) = true from Nat.ble_eq_true_of_le (by omega), show Nat.blt (100 + (100 + j)) 500 = true from Nat.ble_eq_true_of_le (by omega)]
  rfl
theorem XM_callSi (np : Nat) (hO : Ok κ own cc) (hD : Dp κ d) {ix n : Nat} {mr : MR} (hL : LkS own ix mr n) {d1 : Nat} {Post1 : Int → Prop} (As : List Value) {rest : List Value} (hn' : As.length = n) (dg : decode cc pc = .ok (.invokestatic ix, 3)) (hn : np = pc + 3) (hM : CSi (γof κ) d1 mr As w Post1) (hd : d1 + 1 ≤ d) (hrest : (rest.map fun v => v.category).sum ≤ 8)
    (kk : ∀ r, IR r → Post1 r → X κ P S w np ls (.int (I r) :: rest)) : X κ P S w pc ls (As.reverse ++ rest) :=
  X_callS np hO hD hL As hn' dg hn hM hd hrest (Nat.zero_le _) (Nat.zero_le _) (fun v w' ⟨r, hv, hi, hp, hw⟩ => by subst hv; subst hw; exact kk r hi hp) (fun _ _ h => h.elim)
theorem XM_iret {Post : Int → Mm → Prop} {z : Int} {ty : FieldType} (hO : Ok κ own cc) (hF : Fn κ mr d 0 0 (PI μ Post) NX) (hR : RM w μ) (hr : mr.2.2.2 = some ty) (hty : ty = .int ∨ (ty = .boolean ∧ (z = 0 ∨ z = 1))) (dg : decode cc pc = .ok (.ireturn, 1)) (hz : IR z) (hp : Post z w) : X κ P S w pc ls [.int (I z)] :=
  X_iret hO hF hr hty dg ⟨z, rfl, hz, hp, hR⟩
theorem XM_vret {Post : Mm → Prop} (hO : Ok κ own cc) (hF : Fn κ mr d 0 0 (PV μ Post) NX) (hR : RM w μ) (hr : mr.2.2.2 = none) (dg : decode cc pc = .ok (.return_, 1)) (hp : Post w) : X κ P S w pc ls [] :=
  X_vret hO hF hr dg ⟨rfl, hp, hR⟩
theorem XS_iret {w0 : Mm} {Post : Int → Prop} {z : Int} {ty : FieldType} (hO : Ok κ own cc) (hF : Fn κ mr d 0 0 (PS w0 Post) NX) (hr : mr.2.2.2 = some ty) (hty : ty = .int ∨ (ty = .boolean ∧ (z = 0 ∨ z = 1))) (dg : decode cc pc = .ok (.ireturn, 1)) (hz : IR z) (hp : Post z) (hw : w = w0) : X κ P S w pc ls [.int (I z)] :=
  X_iret hO hF hr hty dg ⟨z, rfl, hz, hp, hw⟩
end XRM
