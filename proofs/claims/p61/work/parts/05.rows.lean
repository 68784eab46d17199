/-! THE JUDGEMENT X: the machine, now in this method at pc with these locals and this stack, in the world w, with room for P cells and S slots more, comes to the method's end as owed. -/
abbrev KC : Type := (Program × Launch × Env × Room) × (State × MethodId × Array Value × List Frame) × (Method × Code × Nat) × (State → Prop) × GC × Nat
abbrev kp (κ : KC) := κ.1.1
abbrev kl (κ : KC) := κ.1.2.1
abbrev ke (κ : KC) := κ.1.2.2.1
abbrev kR (κ : KC) := κ.1.2.2.2
abbrev ks (κ : KC) := κ.2.1.1
abbrev km (κ : KC) := κ.2.1.2.1
abbrev ka (κ : KC) := κ.2.1.2.2.1
abbrev kb (κ : KC) := κ.2.1.2.2.2
abbrev kt (κ : KC) := κ.2.2.1.1
abbrev kc (κ : KC) := κ.2.2.1.2.1
abbrev kn (κ : KC) := κ.2.2.1.2.2
abbrev kQ (κ : KC) := κ.2.2.2.1
abbrev kg (κ : KC) := κ.2.2.2.2.1
abbrev kB (κ : KC) := κ.2.2.2.2.2
def aB (b : Nat) : Nat → Prop := fun q => b ≤ q
def lget : List (Option Value) → Nat → Option Value
  | [], _ => none
  | x :: _, 0 => x
  | _ :: xs, n + 1 => lget xs n
def lset : List (Option Value) → Nat → Value → List (Option Value)
  | [], _, _ => []
  | _ :: xs, 0, v => some v :: xs
  | x :: xs, n + 1, v => x :: lset xs n v
def LV (la : Array Slot) (nL : Nat) (ls : List (Option Value)) : Prop := la.size = nL ∧ lv_wf la ∧ ls.length = nL ∧ ∀ (i : Nat) (v : Value), lget ls i = some v → la[i]? = some (.val v) ∧ v.category = 1
def X (κ : KC) (P S : Nat) (w : Mm) (pc : Nat) (ls : List (Option Value)) (st : List Value) : Prop :=
  ∀ (H : Heap) (locs : List Loc) (la : Array Slot) (k n : Nat), WI w → XH (kg κ) (aB (kB κ)) w H → va_S (aB (kB κ)) (ks κ).heap H locs → LV la (kn κ) ls → k + P ≤ (kR κ).cells → n + S ≤ (kR κ).slots →
    W (kp κ) (kl κ) (ke κ) (kR κ) (ks κ) (km κ) (ka κ) (kb κ) (kt κ) (kc κ) H locs k n (kQ κ) (F0 (km κ) pc la st)
/-! what a launch gives beside the good words: strings, nest mates, casts, array classes, List as ArrayList has it -/
def strs_ : List (String × Nat × String) := [("Foldback", 340, "the character is out of range"), ("Foldback", 351, "the recorded list is full"), ("Foldback", 356, "the command cannot be done"), ("Foldback", 349, "listeners make a replacement at depth 8"), ("Foldback", 338, "the argument is out of range"), ("Foldback", 335, "there is none with this number"), ("Foldback", 165, "a macro is being recorded"), ("Foldback", 171, "no macro is being recorded"), ("Foldback", 177, "a group is open"), ("Foldback", 179, "no group is open"), ("Foldback", 190, "the store is tracked"), ("Foldback", 403, "there is no node to walk to"), ("Foldback", 344, "there is no such node"), ("Foldback", 236, "no change to undo in the region"), ("Foldback", 242, "the text would be too long"), ("Foldback", 257, "a character is not replaced by itself")]
def nests_ : List (String × Nat × MethodName × String) := [("Foldback", 9, ⟨"Foldback$Desk", "<init>", "()V"⟩, "Foldback"), ("Foldback$Desk", 22, ⟨"Foldback$Steps", "<init>", "()V"⟩, "Foldback"), ("Foldback$Node", 9, ⟨"Foldback$Steps", "<init>", "()V"⟩, "Foldback"), ("Foldback$Traces", 17, ⟨"Foldback$Trace", "<init>", "()V"⟩, "Foldback"), ("Foldback", 53, ⟨"Foldback$Macro", "<init>", "()V"⟩, "Foldback"), ("Foldback", 60, ⟨"Foldback$Trial", "<init>", "()V"⟩, "Foldback")]
def casts_ : List (String × String) := [("java/util/ArrayList", "java/util/List"), ("java/lang/IllegalArgumentException", "java/lang/IllegalArgumentException"), ("java/lang/IllegalStateException", "java/lang/IllegalStateException"), ("java/lang/IndexOutOfBoundsException", "java/lang/IndexOutOfBoundsException"), ("Foldback$Chars", "java/lang/Object"), ("Foldback$Node", "java/lang/Object"), ("Foldback$Trace", "java/lang/Object"), ("Foldback$Macro", "java/lang/Object"), ("Foldback", "java/lang/Object"), ("Foldback$Desk", "java/lang/Object"), ("Foldback$State", "java/lang/Object"), ("Foldback$Steps", "java/lang/Object"), ("Foldback$Tree", "java/lang/Object"), ("java/util/ArrayList", "java/lang/Object"), ("Foldback$Listeners", "java/lang/Object"), ("Foldback$Traces", "java/lang/Object"), ("Foldback$Trial", "java/lang/Object"), ("java/lang/IllegalArgumentException", "java/lang/Object"), ("java/lang/IllegalStateException", "java/lang/Object"), ("Foldback$Step", "java/lang/Object"), ("java/lang/IndexOutOfBoundsException", "java/lang/Object"), ("java/lang/Throwable", "java/lang/Object"), ("java/lang/String", "java/lang/Object"), ("[LFoldback$Chars;", "java/lang/Object"), ("[I", "java/lang/Object"), ("[Z", "java/lang/Object"), ("[LFoldback$Node;", "java/lang/Object"), ("[Ljava/lang/Object;", "java/lang/Object"), ("[LFoldback$Trace;", "java/lang/Object"), ("[LFoldback$Macro;", "java/lang/Object"), ("[B", "java/lang/Object")]
def ncs_ : List (String × String) := [("java/lang/IllegalArgumentException", "java/lang/IllegalStateException"), ("java/lang/IllegalArgumentException", "java/lang/IndexOutOfBoundsException"), ("java/lang/IllegalStateException", "java/lang/IndexOutOfBoundsException"), ("java/lang/IndexOutOfBoundsException", "java/lang/IllegalStateException")]
def aov_ : List String := ["Foldback$Chars", "Foldback$Node", "java/lang/Object", "Foldback$Trace", "Foldback$Macro"]
def decls_ : List MethodName := [⟨"java/util/List", "add", "(Ljava/lang/Object;)Z"⟩, ⟨"java/util/List", "size", "()I"⟩, ⟨"java/lang/RuntimeException", "<init>", "()V"⟩, ⟨"java/lang/RuntimeException", "<init>", "(Ljava/lang/String;)V"⟩, ⟨"java/lang/Exception", "<init>", "()V"⟩, ⟨"java/lang/Exception", "<init>", "(Ljava/lang/String;)V"⟩, ⟨"java/lang/Throwable", "<init>", "()V"⟩, ⟨"java/lang/Throwable", "<init>", "(Ljava/lang/String;)V"⟩, ⟨"java/util/List", "get", "(I)Ljava/lang/Object;"⟩, ⟨"java/util/List", "remove", "(I)Ljava/lang/Object;"⟩, ⟨"java/lang/Object", "getClass", "()Ljava/lang/Class;"⟩]
def ifs_ : List (MethodName × MethodName) := [(⟨"java/util/List", "add", "(Ljava/lang/Object;)Z"⟩, yJx4a65c_add_9ea2d), (⟨"java/util/List", "size", "()I"⟩, yJx4a65c_size_8abf5), (⟨"java/util/List", "get", "(I)Ljava/lang/Object;"⟩, yJx4a65c_get_915e3), (⟨"java/util/List", "remove", "(I)Ljava/lang/Object;"⟩, yJx4a65c_remove_915e3)]
def lwG : List Cond := lw_tbl.filter goodWord
abbrev LC : Type := Launch × GC × Nat
def DCE : String := "DEFAULTCAPACITY_EMPTY_ELEMENTDATA"
def EV (γ : LC) (U : State) (H : Heap) : Prop :=
  γ.1.stackTraces = false ∧ va_K γ.2.1.1 cls_ (tys_ γ.2.1) U ∧ vx_Zq Bundle.tN "UNASSIGNED_STACK" Bundle.steD (aB γ.2.2) U H ∧ vx_Zq Bundle.tN "SUPPRESSED_SENTINEL" Bundle.listD (aB γ.2.2) U H ∧ (∀ q ∈ strs_, ∃ a, vk_R q.1 q.2.1 q.2.2 a U) ∧ (∀ q ∈ nests_, va_Nw (.methodLinkNest q.1 q.2.1 q.2.2.1 q.2.2.2) U) ∧ (∀ q ∈ casts_, va_Nw (.castable q.1 q.2) U) ∧ (∀ q ∈ ncs_, va_Nc q.1 q.2 U) ∧ (∀ C ∈ aov_, va_AO C U) ∧ (∀ q ∈ ifs_, va_Fw RJx4a65c q.1 q.2 U) ∧ (∀ x ∈ decls_, va_Nw (.declares x) U) ∧ γ.2.2 ≤ H.size ∧ 1 ≤ γ.2.2 ∧
  ∃ e : Nat, va_Z RJx4a65c DCE "[Ljava/lang/Object;" (.ref e) (aB γ.2.2) U H ∧ va_T (.object "java/lang/Object") e 0 (fun _ => .null) (aB γ.2.2) U H ∧ va_Mi "[Ljava/lang/Object;" (γ.2.1.2 8) U ∧ e = γ.2.1.2 9
theorem EV.to {γ : LC} {s U : State} {H : Heap} (h : EV γ s s.heap) (hW : s.WarmedH U.vm) (hz : s.heap.size ≤ H.size) (hq : ∀ q : Nat, q < s.heap.size → ¬ aB γ.2.2 q → H[q]? = s.heap[q]?) : EV γ U H := by
  obtain ⟨h0, h1, h2, h3, h4, h5, h6, h7, h8, h9, h10, h11, h12, e, h13, h14, h17, h18⟩ := h
  refine ⟨h0, va_K.moved hW.alike h1, (h2.moved hW.alike).kept hq, (h3.moved hW.alike).kept hq, fun q hm => ?_, fun q hm => va_Nw.warmM hW (h5 q hm), fun q hm => va_Nw.warmC hW (h6 q hm), fun q hm => va_Nc.moved hW.alike (h7 q hm), fun C hm => va_AO.moved hW.alike (h8 C hm), fun q hm => va_Fw.moved ?_ hW.alike (h9 q hm), fun x hm => va_Nw.warmD hW (h10 x hm), by omega, h12, e, (va_Z.moved hW.alike h13).kept hq, (va_T.moved hW.alike h14).kept hq, h17.moved hW.alike, h18⟩
  · obtain ⟨a, ha⟩ := h4 q hm
    exact ⟨a, vk_R.warm hW ha⟩
  · have : ∀ q ∈ ifs_, q.1.cls ≠ "java/lang/invoke/MethodHandle" ∧ q.1.cls ≠ "java/lang/invoke/VarHandle" := by decide
    exact this q hm
/-- what stays true in a method: the machine, its code cc, its class own, the tables' good words, the statics and class objects that are there -/
def Ok (κ : KC) (own : String) (cc : ByteArray) : Prop :=
  (kp κ).tables.exec = Jvm.exec ∧ (kc κ).code = cc ∧ (kc κ).maxLocals = kn κ ∧ (ks κ).vm.findClass own = some (km κ).cls ∧ (∀ w ∈ lwG, w.before (ka κ) (ks κ) = true) ∧ (kt κ).locks = false ∧ va_K (kg κ).1 cls_ (tys_ (kg κ)) (ks κ) ∧ kB κ ≤ (ks κ).heap.size ∧ 1 ≤ kB κ ∧ EV (kl κ, kg κ, kB κ) (ks κ) (ks κ).heap
theorem lwG_at {w : Cond} {i : Nat} (h : lw_tbl[i]? = some w) (hg : goodWord w = true) : w ∈ lwG := List.mem_filter.mpr ⟨List.mem_of_getElem? h, hg⟩
theorem Ok.w {κ : KC} {own : String} {cc : ByteArray} (h : Ok κ own cc) {w : Cond} (hw : w ∈ lwG) : w.before (ka κ) (ks κ) = true := h.2.2.2.2.1 w hw
/-! whole numbers -/
theorem I_toInt {z : Int} (h : IR z) : (I z).toInt = z := by
  unfold I; exact Int32.toInt_ofInt_of_le (by omega) (by omega)
theorem I_add (a b : Int) : I a + I b = I (a + b) := (Int32.ofInt_add a b).symm
theorem I_sub (a b : Int) : I a - I b = I (a - b) := (Int32.ofInt_sub a b).symm
theorem I_mul (a b : Int) : I a * I b = I (a * b) := (Int32.ofInt_mul a b).symm
theorem I_neg (a : Int) : - I a = I (-a) := (Int32.ofInt_neg a).symm
theorem I_lt {a b : Int} (ha : IR a) (hb : IR b) : I a < I b ↔ a < b := by rw [Int32.lt_iff_toInt_lt, I_toInt ha, I_toInt hb]
theorem I_le {a b : Int} (ha : IR a) (hb : IR b) : I a ≤ I b ↔ a ≤ b := by rw [Int32.le_iff_toInt_le, I_toInt ha, I_toInt hb]
theorem I_eq {a b : Int} (ha : IR a) (hb : IR b) : I a = I b ↔ a = b := ⟨fun h => by rw [← I_toInt ha, ← I_toInt hb, h], fun h => by rw [h]⟩
theorem I_0 : I 0 = 0 := rfl
theorem I_clamp {z : Int} (h : IR z) : (I z).toNatClampNeg = z.toNat := by
  show (I z).toInt.toNat = z.toNat
  rw [I_toInt h]
theorem I_in {z : Int} {n : Nat} (h : IR z) (h0 : 0 ≤ z) (hn : z < n) : vp_in (I z) n := by
  rw [vp_in_iff, I_toInt h]; exact ⟨h0, hn⟩
/-! locals -/
theorem lget_lset (ls : List (Option Value)) (i j : Nat) (v : Value) : lget (lset ls i v) j = if j = i ∧ i < ls.length then some v else lget ls j := by
  induction ls generalizing i j with
  | nil => simp [lset, lget]
  | cons x xs ih =>
    cases i with
    | zero => cases j <;> simp [lset, lget]
    | succ i => cases j with
      | zero => simp [lset, lget]
      | succ j => simp [lset, lget, ih]
theorem lset_len (ls : List (Option Value)) (i : Nat) (v : Value) : (lset ls i v).length = ls.length := by
  induction ls generalizing i with
  | nil => rfl
  | cons x xs ih => cases i <;> simp [lset, ih]
def lpr (ls : List (Option Value)) : List (Nat × Value) := (List.range ls.length).filterMap (fun i => (lget ls i).map (fun v => (i, v)))
theorem lget_lt {ls : List (Option Value)} {i : Nat} {v : Value} (h : lget ls i = some v) : i < ls.length := by
  induction ls generalizing i with
  | nil => simp [lget] at h
  | cons x xs ih => cases i with
    | zero => simp
    | succ i => have := ih h; simp; omega
theorem lpr_mem {ls : List (Option Value)} {i : Nat} {v : Value} : (i, v) ∈ lpr ls ↔ lget ls i = some v := by
  unfold lpr
  rw [List.mem_filterMap]
  constructor
  · rintro ⟨j, -, hj⟩
    cases hg : lget ls j with
    | none => rw [hg] at hj; cases hj
    | some u => rw [hg] at hj; cases hj; exact hg
  · intro h
    exact ⟨i, List.mem_range.mpr (lget_lt h), by rw [h]; rfl⟩
theorem LV.has {la : Array Slot} {nL : Nat} {ls : List (Option Value)} (h : LV la nL ls) : lv_has la nL (lpr ls) := ⟨h.1, h.2.1, fun q hq => (h.2.2.2 q.1 q.2 (lpr_mem.mp hq)).1⟩
theorem LV.back {la la' : Array Slot} {nL : Nat} {ls : List (Option Value)} {i : Nat} {v : Value} (h : LV la nL ls) (hv : v.category = 1) (h' : lv_has la' nL ((i, v) :: (lpr ls).filter (fun q => !(q.1 == i) && !(q.1 + 1 == i && q.2.category == 2)))) : LV la' nL (lset ls i v) := by
  refine ⟨h'.1, h'.2.1, by rw [lset_len]; exact h.2.2.1, fun j u hj => ?_⟩
  rw [lget_lset] at hj
  by_cases c : j = i ∧ i < ls.length
  · rw [if_pos c] at hj
    cases hj
    exact ⟨by rw [c.1]; exact h'.2.2 (i, v) List.mem_cons_self, hv⟩
  · rw [if_neg c] at hj
    have hu := h.2.2.2 j u hj
    have hji : j ≠ i := fun e => c ⟨e, e ▸ lget_lt hj⟩
    refine ⟨h'.2.2 (j, u) (List.mem_cons_of_mem _ (List.mem_filter.mpr ⟨lpr_mem.mpr hj, ?_⟩)), hu.2⟩
    simp [hji, hu.2]
theorem lv_args_mem : ∀ (vs : List Value) (b : Nat), (∀ v ∈ vs, v.category = 1) → ∀ (i : Nat) (v : Value), lget (vs.map some) i = some v → (b + i, v) ∈ lv_args b vs
  | [], _, _, i, v, h => by simp [lget] at h
  | x :: xs, b, hc, i, v, h => by
    have hx : x.category = 1 := hc x List.mem_cons_self
    cases i with
    | zero => simp only [List.map_cons, lget] at h; cases h; simp [lv_args]
    | succ i =>
      have := lv_args_mem xs (b + 1) (fun v hv => hc v (List.mem_cons_of_mem _ hv)) i v h
      simp only [lv_args, hx]
      refine List.mem_cons_of_mem _ ?_
      rw [show b + (i + 1) = b + 1 + i by omega]
      simpa using this
theorem lget_app (xs : List (Option Value)) : ∀ (n i : Nat) (v : Value), lget (xs ++ List.replicate n none) i = some v → lget xs i = some v := by
  induction xs with
  | nil =>
    intro n i v h
    induction n generalizing i with
    | zero => simp [lget] at h
    | succ n ih => cases i with
      | zero => simp [List.replicate_succ, lget] at h
      | succ i => simp only [List.nil_append, List.replicate_succ, lget] at h; exact ih i (by simpa using h)
  | cons x xs ih =>
    intro n i v h
    cases i with
    | zero => simpa [lget] using h
    | succ i => exact ih n i v (by simpa [lget] using h)
theorem lg_sl_len (vs : List Value) (hc : ∀ v ∈ vs, v.category = 1) : (lg_sl vs).length = vs.length := by
  induction vs with
  | nil => rfl
  | cons x xs ih =>
    have hx : x.category = 1 := hc x List.mem_cons_self
    have := ih (fun v hv => hc v (List.mem_cons_of_mem _ hv))
    simp only [lg_sl, List.flatMap_cons, hx] at this ⊢
    simp [this]
theorem LV_entry (vs : List Value) {n : Nat} (hc : ∀ v ∈ vs, v.category = 1) (h : vs.length ≤ n) : LV ((lg_sl vs ++ List.replicate (n - (lg_sl vs).length) Slot.unset).toArray) n (vs.map some ++ List.replicate (n - vs.length) none) := by
  have e := lv_entry vs (n := n) (by rw [lg_sl_len vs hc]; exact h)
  refine ⟨e.1, e.2.1, by simp; omega, fun i v hv => ?_⟩
  have h1 := lget_app _ _ _ _ hv
  have h2 := lv_args_mem vs 0 hc i v h1
  rw [Nat.zero_add] at h2
  refine ⟨e.2.2 _ h2, ?_⟩
  have : v ∈ vs := by
    have h3 : some v ∈ vs.map some := by
      clear hv h2 e h hc
      generalize vs.map some = xs at h1 ⊢
      induction xs generalizing i with
      | nil => simp [lget] at h1
      | cons x xs ih => cases i with
        | zero => simp only [lget] at h1; subst h1; exact List.mem_cons_self
        | succ i => exact List.mem_cons_of_mem _ (ih i h1)
    simpa using h3
  exact hc v this
/-! rows: constants, locals, stack -/
section XR
variable {κ : KC} {P S : Nat} {w : Mm} {pc : Nat} {ls : List (Option Value)} {st : List Value} {own : String} {cc : ByteArray}
theorem X_iconst (np : Nat) (hO : Ok κ own cc) {n : Int} (d : decode cc pc = .ok (.iconst n, 1)) (hn : np = pc + 1) (k : X κ P S w np ls (.int (I n) :: st)) : X κ P S w pc ls st := by
  subst hn
  intro H locs la a b h1 h2 h3 h4 h5 h6
  exact lv_iconst hO.1 hO.2.1 d rfl (k H locs la a b h1 h2 h3 h4 h5 h6)
theorem X_bipush (np : Nat) (hO : Ok κ own cc) {n : Int} (d : decode cc pc = .ok (.bipush n, 2)) (hn : np = pc + 2) (hv : (Int8.ofInt n).toInt32 = I n) (k : X κ P S w np ls (.int (I n) :: st)) : X κ P S w pc ls st := by
  subst hn
  intro H locs la a b h1 h2 h3 h4 h5 h6
  exact lv_bipush hO.1 hO.2.1 d hv (k H locs la a b h1 h2 h3 h4 h5 h6)
theorem X_sipush (np : Nat) (hO : Ok κ own cc) {n : Int} (d : decode cc pc = .ok (.sipush n, 3)) (hn : np = pc + 3) (hv : (Int16.ofInt n).toInt32 = I n) (k : X κ P S w np ls (.int (I n) :: st)) : X κ P S w pc ls st := by
  subst hn
  intro H locs la a b h1 h2 h3 h4 h5 h6
  exact lv_sipush hO.1 hO.2.1 d hv (k H locs la a b h1 h2 h3 h4 h5 h6)
theorem X_lconst (np : Nat) (hO : Ok κ own cc) {n : Fin 2} (d : decode cc pc = .ok (.lconst n, 1)) (hn : np = pc + 1) (k : X κ P S w np ls (.long (Int64.ofInt (n : Nat)) :: st)) : X κ P S w pc ls st := by
  subst hn
  intro H locs la a b h1 h2 h3 h4 h5 h6
  exact lv_lconst hO.1 hO.2.1 d rfl (k H locs la a b h1 h2 h3 h4 h5 h6)
theorem X_null (np : Nat) (hO : Ok κ own cc)  (d : decode cc pc = .ok (.aconst_null, 1)) (hn : np = pc + 1) (k : X κ P S w np ls (rv 0 :: st)) : X κ P S w pc ls st := by
  subst hn
  intro H locs la a b h1 h2 h3 h4 h5 h6
  exact lv_null hO.1 hO.2.1 d (k H locs la a b h1 h2 h3 h4 h5 h6)
theorem X_iload_n (np : Nat) (hO : Ok κ own cc) {j : Fin 4} {x : Int32} (d : decode cc pc = .ok (.iload_n j, 1)) (hn : np = pc + 1) (hl : lget ls (j : Nat) = some (.int x)) (k : X κ P S w np ls (.int x :: st)) : X κ P S w pc ls st := by
  subst hn
  intro H locs la a b h1 h2 h3 h4 h5 h6
  exact lv_iload_n hO.1 hO.2.1 d rfl (h4.2.2.2 _ _ hl).1 (k H locs la a b h1 h2 h3 h4 h5 h6)
theorem X_iload (np : Nat) (hO : Ok κ own cc) {j : Nat} {x : Int32} (d : decode cc pc = .ok (.iload j, 2)) (hn : np = pc + 2) (hl : lget ls j = some (.int x)) (k : X κ P S w np ls (.int x :: st)) : X κ P S w pc ls st := by
  subst hn
  intro H locs la a b h1 h2 h3 h4 h5 h6
  exact lv_iload hO.1 hO.2.1 d (h4.2.2.2 _ _ hl).1 (k H locs la a b h1 h2 h3 h4 h5 h6)
theorem X_aload_n (np : Nat) (hO : Ok κ own cc) {j : Fin 4} {z : Int} (d : decode cc pc = .ok (.aload_n j, 1)) (hn : np = pc + 1) (hl : lget ls (j : Nat) = some (rv z)) (k : X κ P S w np ls (rv z :: st)) : X κ P S w pc ls st := by
  subst hn
  intro H locs la a b h1 h2 h3 h4 h5 h6
  have hq := (h4.2.2.2 _ _ hl).1
  have kk := k H locs la a b h1 h2 h3 h4 h5 h6
  by_cases c : z = 0
  · rw [show rv z = .null by simp [rv, c]] at hq kk
    exact lv_aload_nN hO.1 hO.2.1 d rfl hq kk
  · rw [show rv z = .ref z.toNat by simp [rv, c]] at hq kk
    exact lv_aload_n hO.1 hO.2.1 d rfl hq kk
theorem X_aload (np : Nat) (hO : Ok κ own cc) {j : Nat} {z : Int} (d : decode cc pc = .ok (.aload j, 2)) (hn : np = pc + 2) (hl : lget ls j = some (rv z)) (k : X κ P S w np ls (rv z :: st)) : X κ P S w pc ls st := by
  subst hn
  intro H locs la a b h1 h2 h3 h4 h5 h6
  have hq := (h4.2.2.2 _ _ hl).1
  have kk := k H locs la a b h1 h2 h3 h4 h5 h6
  by_cases c : z = 0
  · rw [show rv z = .null by simp [rv, c]] at hq kk
    exact lv_aloadN hO.1 hO.2.1 d hq kk
  · rw [show rv z = .ref z.toNat by simp [rv, c]] at hq kk
    exact lv_aload hO.1 hO.2.1 d hq kk
theorem X_istore_n (np : Nat) (hO : Ok κ own cc) {j : Fin 4} {x : Int32} (d : decode cc pc = .ok (.istore_n j, 1)) (hn : np = pc + 1) (hl : Nat.blt (j : Nat) ls.length = true) (k : X κ P S w np (lset ls (j : Nat) (.int x)) st) : X κ P S w pc ls (.int x :: st) := by
  subst hn
  intro H locs la a b h1 h2 h3 h4 h5 h6
  exact lv_istore_n hO.1 hO.2.1 d rfl h4.has (by rw [← h4.2.2.1]; exact Nat.le_of_ble_eq_true hl) rfl (fun l2 q => k H locs l2 a b h1 h2 h3 (h4.back rfl q) h5 h6)
theorem X_istore (np : Nat) (hO : Ok κ own cc) {j : Nat} {x : Int32} (d : decode cc pc = .ok (.istore j, 2)) (hn : np = pc + 2) (hl : Nat.blt j ls.length = true) (k : X κ P S w np (lset ls j (.int x)) st) : X κ P S w pc ls (.int x :: st) := by
  subst hn
  intro H locs la a b h1 h2 h3 h4 h5 h6
  exact lv_istore hO.1 hO.2.1 d h4.has (by rw [← h4.2.2.1]; exact Nat.le_of_ble_eq_true hl) rfl (fun l2 q => k H locs l2 a b h1 h2 h3 (h4.back rfl q) h5 h6)
theorem X_astore_n (np : Nat) (hO : Ok κ own cc) {j : Fin 4} {z : Int} (d : decode cc pc = .ok (.astore_n j, 1)) (hn : np = pc + 1) (hl : Nat.blt (j : Nat) ls.length = true) (k : X κ P S w np (lset ls (j : Nat) (rv z)) st) : X κ P S w pc ls (rv z :: st) := by
  subst hn
  intro H locs la a b h1 h2 h3 h4 h5 h6
  by_cases c : z = 0
  · have e : rv z = .null := by simp [rv, c]
    rw [e] at k ⊢
    exact lv_astore_nN hO.1 hO.2.1 d rfl h4.has (by rw [← h4.2.2.1]; exact Nat.le_of_ble_eq_true hl) rfl (fun l2 q => k H locs l2 a b h1 h2 h3 (h4.back rfl q) h5 h6)
  · have e : rv z = .ref z.toNat := by simp [rv, c]
    rw [e] at k ⊢
    exact lv_astore_n hO.1 hO.2.1 d rfl h4.has (by rw [← h4.2.2.1]; exact Nat.le_of_ble_eq_true hl) rfl (fun l2 q => k H locs l2 a b h1 h2 h3 (h4.back rfl q) h5 h6)
theorem X_astore (np : Nat) (hO : Ok κ own cc) {j : Nat} {z : Int} (d : decode cc pc = .ok (.astore j, 2)) (hn : np = pc + 2) (hl : Nat.blt j ls.length = true) (k : X κ P S w np (lset ls j (rv z)) st) : X κ P S w pc ls (rv z :: st) := by
  subst hn
  intro H locs la a b h1 h2 h3 h4 h5 h6
  by_cases c : z = 0
  · have e : rv z = .null := by simp [rv, c]
    rw [e] at k ⊢
    exact lv_astoreN hO.1 hO.2.1 d h4.has (by rw [← h4.2.2.1]; exact Nat.le_of_ble_eq_true hl) rfl (fun l2 q => k H locs l2 a b h1 h2 h3 (h4.back rfl q) h5 h6)
  · have e : rv z = .ref z.toNat := by simp [rv, c]
    rw [e] at k ⊢
    exact lv_astore hO.1 hO.2.1 d h4.has (by rw [← h4.2.2.1]; exact Nat.le_of_ble_eq_true hl) rfl (fun l2 q => k H locs l2 a b h1 h2 h3 (h4.back rfl q) h5 h6)
theorem X_iinc (np : Nat) (hO : Ok κ own cc) {j : Nat} {n z : Int} (d : decode cc pc = .ok (.iinc j n, 3)) (hn : np = pc + 3) (hl : lget ls j = some (.int (I z))) (k : X κ P S w np (lset ls j (.int (I (z + n)))) st) : X κ P S w pc ls st := by
  subst hn
  intro H locs la a b h1 h2 h3 h4 h5 h6
  obtain ⟨q, hq⟩ := List.getElem?_of_mem (lpr_mem.mpr hl)
  exact lv_iinc hO.1 hO.2.1 d h4.has hq (by rw [← I_add]; rfl) (by rw [← h4.2.2.1]; exact lget_lt hl) rfl (fun l2 q => k H locs l2 a b h1 h2 h3 (h4.back rfl q) h5 h6)
theorem X_iadd (np : Nat) (hO : Ok κ own cc) {x y : Int} (d : decode cc pc = .ok (.iadd, 1)) (hn : np = pc + 1) (k : X κ P S w np ls (.int (I (x + y)) :: st)) : X κ P S w pc ls (.int (I y) :: .int (I x) :: st) := by
  subst hn
  intro H locs la a b h1 h2 h3 h4 h5 h6
  rw [← I_add] at k
  exact lv_iadd hO.1 hO.2.1 d (k H locs la a b h1 h2 h3 h4 h5 h6)
theorem X_isub (np : Nat) (hO : Ok κ own cc) {x y : Int} (d : decode cc pc = .ok (.isub, 1)) (hn : np = pc + 1) (k : X κ P S w np ls (.int (I (x - y)) :: st)) : X κ P S w pc ls (.int (I y) :: .int (I x) :: st) := by
  subst hn
  intro H locs la a b h1 h2 h3 h4 h5 h6
  rw [← I_sub] at k
  exact lv_isub hO.1 hO.2.1 d (k H locs la a b h1 h2 h3 h4 h5 h6)
theorem X_imul (np : Nat) (hO : Ok κ own cc) {x y : Int} (d : decode cc pc = .ok (.imul, 1)) (hn : np = pc + 1) (k : X κ P S w np ls (.int (I (x * y)) :: st)) : X κ P S w pc ls (.int (I y) :: .int (I x) :: st) := by
  subst hn
  intro H locs la a b h1 h2 h3 h4 h5 h6
  rw [← I_mul] at k
  exact lv_imul hO.1 hO.2.1 d (k H locs la a b h1 h2 h3 h4 h5 h6)
theorem X_ineg (np : Nat) (hO : Ok κ own cc) {x : Int} (d : decode cc pc = .ok (.ineg, 1)) (hn : np = pc + 1) (k : X κ P S w np ls (.int (I (-x)) :: st)) : X κ P S w pc ls (.int (I x) :: st) := by
  subst hn
  intro H locs la a b h1 h2 h3 h4 h5 h6
  rw [← I_neg] at k
  exact lv_ineg hO.1 hO.2.1 d (k H locs la a b h1 h2 h3 h4 h5 h6)
theorem X_iand (np : Nat) (hO : Ok κ own cc) {x y : Int32} {z : Int} (d : decode cc pc = .ok (.iand, 1)) (hn : np = pc + 1) (hz : x &&& y = I z) (k : X κ P S w np ls (.int (I z) :: st)) : X κ P S w pc ls (.int y :: .int x :: st) := by
  subst hn
  intro H locs la a b h1 h2 h3 h4 h5 h6
  rw [← hz] at k
  exact lv_iand hO.1 hO.2.1 d (k H locs la a b h1 h2 h3 h4 h5 h6)
theorem X_ior (np : Nat) (hO : Ok κ own cc) {x y : Int32} {z : Int} (d : decode cc pc = .ok (.ior, 1)) (hn : np = pc + 1) (hz : x ||| y = I z) (k : X κ P S w np ls (.int (I z) :: st)) : X κ P S w pc ls (.int y :: .int x :: st) := by
  subst hn
  intro H locs la a b h1 h2 h3 h4 h5 h6
  rw [← hz] at k
  exact lv_ior hO.1 hO.2.1 d (k H locs la a b h1 h2 h3 h4 h5 h6)
theorem X_ixor (np : Nat) (hO : Ok κ own cc) {x y : Int32} {z : Int} (d : decode cc pc = .ok (.ixor, 1)) (hn : np = pc + 1) (hz : x ^^^ y = I z) (k : X κ P S w np ls (.int (I z) :: st)) : X κ P S w pc ls (.int y :: .int x :: st) := by
  subst hn
  intro H locs la a b h1 h2 h3 h4 h5 h6
  rw [← hz] at k
  exact lv_ixor hO.1 hO.2.1 d (k H locs la a b h1 h2 h3 h4 h5 h6)
theorem X_ishl (np : Nat) (hO : Ok κ own cc) {x y : Int32} {z : Int} (d : decode cc pc = .ok (.ishl, 1)) (hn : np = pc + 1) (hz : x <<< (y &&& 31) = I z) (k : X κ P S w np ls (.int (I z) :: st)) : X κ P S w pc ls (.int y :: .int x :: st) := by
  subst hn
  intro H locs la a b h1 h2 h3 h4 h5 h6
  rw [← hz] at k
  exact lv_ishl hO.1 hO.2.1 d (k H locs la a b h1 h2 h3 h4 h5 h6)
theorem X_ishr (np : Nat) (hO : Ok κ own cc) {x y : Int32} {z : Int} (d : decode cc pc = .ok (.ishr, 1)) (hn : np = pc + 1) (hz : x >>> (y &&& 31) = I z) (k : X κ P S w np ls (.int (I z) :: st)) : X κ P S w pc ls (.int y :: .int x :: st) := by
  subst hn
  intro H locs la a b h1 h2 h3 h4 h5 h6
  rw [← hz] at k
  exact lv_ishr hO.1 hO.2.1 d (k H locs la a b h1 h2 h3 h4 h5 h6)
theorem X_idiv (np : Nat) (hO : Ok κ own cc) {x y : Int32} {z : Int} (d : decode cc pc = .ok (.idiv, 1)) (hn : np = pc + 1) (h0 : ¬ y = 0) (hz : x / y = I z) (k : X κ P S w np ls (.int (I z) :: st)) : X κ P S w pc ls (.int y :: .int x :: st) := by
  subst hn
  intro H locs la a b h1 h2 h3 h4 h5 h6
  rw [← hz] at k
  exact lv_idiv hO.1 hO.2.1 d h0 (k H locs la a b h1 h2 h3 h4 h5 h6)
theorem X_irem (np : Nat) (hO : Ok κ own cc) {x y : Int32} {z : Int} (d : decode cc pc = .ok (.irem, 1)) (hn : np = pc + 1) (h0 : ¬ y = 0) (hz : x - x / y * y = I z) (k : X κ P S w np ls (.int (I z) :: st)) : X κ P S w pc ls (.int y :: .int x :: st) := by
  subst hn
  intro H locs la a b h1 h2 h3 h4 h5 h6
  rw [← hz] at k
  exact lv_irem hO.1 hO.2.1 d h0 (k H locs la a b h1 h2 h3 h4 h5 h6)
theorem X_i2l (np : Nat) (hO : Ok κ own cc) {x : Int} (d : decode cc pc = .ok (.i2l, 1)) (hn : np = pc + 1) (hx : IR x) (k : X κ P S w np ls (.long (Int64.ofInt x) :: st)) : X κ P S w pc ls (.int (I x) :: st) := by
  subst hn
  intro H locs la a b h1 h2 h3 h4 h5 h6
  exact lv_i2l hO.1 hO.2.1 d (by apply Int64.toInt_inj.mp; rw [Int32.toInt_toInt64, I_toInt hx, Int64.toInt_ofInt_of_le (by omega) (by omega)]) (k H locs la a b h1 h2 h3 h4 h5 h6)
theorem X_dup (np : Nat) (hO : Ok κ own cc) {v : Value} (d : decode cc pc = .ok (.dup, 1)) (hn : np = pc + 1) (hv : v.category = 1) (k : X κ P S w np ls (v :: v :: st)) : X κ P S w pc ls (v :: st) := by
  subst hn
  intro H locs la a b h1 h2 h3 h4 h5 h6
  exact lv_dup hO.1 hO.2.1 d hv (k H locs la a b h1 h2 h3 h4 h5 h6)
theorem X_dup2 (np : Nat) (hO : Ok κ own cc) {u v : Value} (d : decode cc pc = .ok (.dup2, 1)) (hn : np = pc + 1) (hu : u.category = 1) (hv : v.category = 1) (k : X κ P S w np ls (u :: v :: u :: v :: st)) : X κ P S w pc ls (u :: v :: st) := by
  subst hn
  intro H locs la a b h1 h2 h3 h4 h5 h6
  exact lv_dup2_11 hO.1 hO.2.1 d hu hv (k H locs la a b h1 h2 h3 h4 h5 h6)
theorem X_pop (np : Nat) (hO : Ok κ own cc) {v : Value} (d : decode cc pc = .ok (.pop, 1)) (hn : np = pc + 1) (hv : v.category = 1) (k : X κ P S w np ls st) : X κ P S w pc ls (v :: st) := by
  subst hn
  intro H locs la a b h1 h2 h3 h4 h5 h6
  exact lv_pop hO.1 hO.2.1 d hv (k H locs la a b h1 h2 h3 h4 h5 h6)
theorem X_goto {off : Int} {tgt : Nat} (hO : Ok κ own cc) (d : decode cc pc = .ok (.goto off, 3)) (ht : (pc : Int) + off = (tgt : Int)) (k : X κ P S w tgt ls st) : X κ P S w pc ls st := by
  intro H locs la a b h1 h2 h3 h4 h5 h6
  exact lv_goto hO.1 hO.2.1 d ht (k H locs la a b h1 h2 h3 h4 h5 h6)
theorem X_icmp_lt {x y off : Int} (np : Nat) (tgt : Nat) (hO : Ok κ own cc) (d : decode cc pc = .ok (.if_icmp .lt off, 3)) (ht : (pc : Int) + off = (tgt : Int)) (hn : np = pc + 3) (hx : IR x) (hy : IR y) (kt : x < y → X κ P S w tgt ls st) (kf : ¬ (x < y) → X κ P S w np ls st) : X κ P S w pc ls (.int (I y) :: .int (I x) :: st) := by
  subst hn
  intro H locs la a b h1 h2 h3 h4 h5 h6
  exact lv_icmp_lt hO.1 hO.2.1 d ht (fun c => kt ((I_lt hx hy).mp c) H locs la a b h1 h2 h3 h4 h5 h6) (fun c => kf (fun q => c ((I_lt hx hy).mpr q)) H locs la a b h1 h2 h3 h4 h5 h6)
theorem X_icmp_le {x y off : Int} (np : Nat) (tgt : Nat) (hO : Ok κ own cc) (d : decode cc pc = .ok (.if_icmp .le off, 3)) (ht : (pc : Int) + off = (tgt : Int)) (hn : np = pc + 3) (hx : IR x) (hy : IR y) (kt : x ≤ y → X κ P S w tgt ls st) (kf : ¬ (x ≤ y) → X κ P S w np ls st) : X κ P S w pc ls (.int (I y) :: .int (I x) :: st) := by
  subst hn
  intro H locs la a b h1 h2 h3 h4 h5 h6
  exact lv_icmp_le hO.1 hO.2.1 d ht (fun c => kt ((I_le hx hy).mp c) H locs la a b h1 h2 h3 h4 h5 h6) (fun c => kf (fun q => c ((I_le hx hy).mpr q)) H locs la a b h1 h2 h3 h4 h5 h6)
theorem X_icmp_gt {x y off : Int} (np : Nat) (tgt : Nat) (hO : Ok κ own cc) (d : decode cc pc = .ok (.if_icmp .gt off, 3)) (ht : (pc : Int) + off = (tgt : Int)) (hn : np = pc + 3) (hx : IR x) (hy : IR y) (kt : y < x → X κ P S w tgt ls st) (kf : ¬ (y < x) → X κ P S w np ls st) : X κ P S w pc ls (.int (I y) :: .int (I x) :: st) := by
  subst hn
  intro H locs la a b h1 h2 h3 h4 h5 h6
  exact lv_icmp_gt hO.1 hO.2.1 d ht (fun c => kt ((I_lt hy hx).mp c) H locs la a b h1 h2 h3 h4 h5 h6) (fun c => kf (fun q => c ((I_lt hy hx).mpr q)) H locs la a b h1 h2 h3 h4 h5 h6)
theorem X_icmp_ge {x y off : Int} (np : Nat) (tgt : Nat) (hO : Ok κ own cc) (d : decode cc pc = .ok (.if_icmp .ge off, 3)) (ht : (pc : Int) + off = (tgt : Int)) (hn : np = pc + 3) (hx : IR x) (hy : IR y) (kt : y ≤ x → X κ P S w tgt ls st) (kf : ¬ (y ≤ x) → X κ P S w np ls st) : X κ P S w pc ls (.int (I y) :: .int (I x) :: st) := by
  subst hn
  intro H locs la a b h1 h2 h3 h4 h5 h6
  exact lv_icmp_ge hO.1 hO.2.1 d ht (fun c => kt ((I_le hy hx).mp c) H locs la a b h1 h2 h3 h4 h5 h6) (fun c => kf (fun q => c ((I_le hy hx).mpr q)) H locs la a b h1 h2 h3 h4 h5 h6)
theorem X_icmp_eq {x y off : Int} (np : Nat) (tgt : Nat) (hO : Ok κ own cc) (d : decode cc pc = .ok (.if_icmp .eq off, 3)) (ht : (pc : Int) + off = (tgt : Int)) (hn : np = pc + 3) (hx : IR x) (hy : IR y) (kt : x = y → X κ P S w tgt ls st) (kf : ¬ (x = y) → X κ P S w np ls st) : X κ P S w pc ls (.int (I y) :: .int (I x) :: st) := by
  subst hn
  intro H locs la a b h1 h2 h3 h4 h5 h6
  exact lv_icmp_eq hO.1 hO.2.1 d ht (fun c => kt ((I_eq hx hy).mp c) H locs la a b h1 h2 h3 h4 h5 h6) (fun c => kf (fun q => c ((I_eq hx hy).mpr q)) H locs la a b h1 h2 h3 h4 h5 h6)
theorem X_icmp_ne {x y off : Int} (np : Nat) (tgt : Nat) (hO : Ok κ own cc) (d : decode cc pc = .ok (.if_icmp .ne off, 3)) (ht : (pc : Int) + off = (tgt : Int)) (hn : np = pc + 3) (hx : IR x) (hy : IR y) (kt : x ≠ y → X κ P S w tgt ls st) (kf : x = y → X κ P S w np ls st) : X κ P S w pc ls (.int (I y) :: .int (I x) :: st) := by
  subst hn
  intro H locs la a b h1 h2 h3 h4 h5 h6
  exact lv_icmp_ne hO.1 hO.2.1 d ht (fun c => kt ((not_congr (I_eq hx hy)).mp c) H locs la a b h1 h2 h3 h4 h5 h6) (fun c => kf ((I_eq hx hy).mp c) H locs la a b h1 h2 h3 h4 h5 h6)
theorem X_if_lt {x off : Int} (np : Nat) (tgt : Nat) (hO : Ok κ own cc) (d : decode cc pc = .ok (.ifCond .lt off, 3)) (ht : (pc : Int) + off = (tgt : Int)) (hn : np = pc + 3) (hx : IR x) (kt : x < 0 → X κ P S w tgt ls st) (kf : ¬ (x < 0) → X κ P S w np ls st) : X κ P S w pc ls (.int (I x) :: st) := by
  subst hn
  intro H locs la a b h1 h2 h3 h4 h5 h6
  have hz : IR 0 := by omega
  exact lv_if_lt hO.1 hO.2.1 d ht (fun c => kt ((I_lt hx hz).mp c) H locs la a b h1 h2 h3 h4 h5 h6) (fun c => kf (fun q => c ((I_lt hx hz).mpr q)) H locs la a b h1 h2 h3 h4 h5 h6)
theorem X_if_le {x off : Int} (np : Nat) (tgt : Nat) (hO : Ok κ own cc) (d : decode cc pc = .ok (.ifCond .le off, 3)) (ht : (pc : Int) + off = (tgt : Int)) (hn : np = pc + 3) (hx : IR x) (kt : x ≤ 0 → X κ P S w tgt ls st) (kf : ¬ (x ≤ 0) → X κ P S w np ls st) : X κ P S w pc ls (.int (I x) :: st) := by
  subst hn
  intro H locs la a b h1 h2 h3 h4 h5 h6
  have hz : IR 0 := by omega
  exact lv_if_le hO.1 hO.2.1 d ht (fun c => kt ((I_le hx hz).mp c) H locs la a b h1 h2 h3 h4 h5 h6) (fun c => kf (fun q => c ((I_le hx hz).mpr q)) H locs la a b h1 h2 h3 h4 h5 h6)
theorem X_if_gt {x off : Int} (np : Nat) (tgt : Nat) (hO : Ok κ own cc) (d : decode cc pc = .ok (.ifCond .gt off, 3)) (ht : (pc : Int) + off = (tgt : Int)) (hn : np = pc + 3) (hx : IR x) (kt : 0 < x → X κ P S w tgt ls st) (kf : ¬ (0 < x) → X κ P S w np ls st) : X κ P S w pc ls (.int (I x) :: st) := by
  subst hn
  intro H locs la a b h1 h2 h3 h4 h5 h6
  have hz : IR 0 := by omega
  exact lv_if_gt hO.1 hO.2.1 d ht (fun c => kt ((I_lt hz hx).mp c) H locs la a b h1 h2 h3 h4 h5 h6) (fun c => kf (fun q => c ((I_lt hz hx).mpr q)) H locs la a b h1 h2 h3 h4 h5 h6)
theorem X_if_ge {x off : Int} (np : Nat) (tgt : Nat) (hO : Ok κ own cc) (d : decode cc pc = .ok (.ifCond .ge off, 3)) (ht : (pc : Int) + off = (tgt : Int)) (hn : np = pc + 3) (hx : IR x) (kt : 0 ≤ x → X κ P S w tgt ls st) (kf : ¬ (0 ≤ x) → X κ P S w np ls st) : X κ P S w pc ls (.int (I x) :: st) := by
  subst hn
  intro H locs la a b h1 h2 h3 h4 h5 h6
  have hz : IR 0 := by omega
  exact lv_if_ge hO.1 hO.2.1 d ht (fun c => kt ((I_le hz hx).mp c) H locs la a b h1 h2 h3 h4 h5 h6) (fun c => kf (fun q => c ((I_le hz hx).mpr q)) H locs la a b h1 h2 h3 h4 h5 h6)
theorem X_if_eq {x off : Int} (np : Nat) (tgt : Nat) (hO : Ok κ own cc) (d : decode cc pc = .ok (.ifCond .eq off, 3)) (ht : (pc : Int) + off = (tgt : Int)) (hn : np = pc + 3) (hx : IR x) (kt : x = 0 → X κ P S w tgt ls st) (kf : ¬ (x = 0) → X κ P S w np ls st) : X κ P S w pc ls (.int (I x) :: st) := by
  subst hn
  intro H locs la a b h1 h2 h3 h4 h5 h6
  have hz : IR 0 := by omega
  exact lv_if_eq hO.1 hO.2.1 d ht (fun c => kt ((I_eq hx hz).mp c) H locs la a b h1 h2 h3 h4 h5 h6) (fun c => kf (fun q => c ((I_eq hx hz).mpr q)) H locs la a b h1 h2 h3 h4 h5 h6)
theorem X_if_ne {x off : Int} (np : Nat) (tgt : Nat) (hO : Ok κ own cc) (d : decode cc pc = .ok (.ifCond .ne off, 3)) (ht : (pc : Int) + off = (tgt : Int)) (hn : np = pc + 3) (hx : IR x) (kt : x ≠ 0 → X κ P S w tgt ls st) (kf : x = 0 → X κ P S w np ls st) : X κ P S w pc ls (.int (I x) :: st) := by
  subst hn
  intro H locs la a b h1 h2 h3 h4 h5 h6
  have hz : IR 0 := by omega
  exact lv_if_ne hO.1 hO.2.1 d ht (fun c => kt ((not_congr (I_eq hx hz)).mp c) H locs la a b h1 h2 h3 h4 h5 h6) (fun c => kf ((I_eq hx hz).mp c) H locs la a b h1 h2 h3 h4 h5 h6)
theorem X_ifnull {off : Int} {z : Int} (np : Nat) (tgt : Nat) (hO : Ok κ own cc) (d : decode cc pc = .ok (.ifnull off, 3)) (ht : (pc : Int) + off = (tgt : Int)) (hn : np = pc + 3) (kt : z = 0 → X κ P S w tgt ls st) (kf : z ≠ 0 → X κ P S w np ls st) : X κ P S w pc ls (rv z :: st) := by
  subst hn
  intro H locs la a b h1 h2 h3 h4 h5 h6
  by_cases c : z = 0
  · rw [show rv z = .null by simp [rv, c]]
    exact lv_ifnullN hO.1 hO.2.1 d ht (kt c H locs la a b h1 h2 h3 h4 h5 h6)
  · rw [show rv z = .ref z.toNat by simp [rv, c]]
    exact lv_ifnull hO.1 hO.2.1 d (kf c H locs la a b h1 h2 h3 h4 h5 h6)
theorem X_ifnonnull {off : Int} {z : Int} (np : Nat) (tgt : Nat) (hO : Ok κ own cc) (d : decode cc pc = .ok (.ifnonnull off, 3)) (ht : (pc : Int) + off = (tgt : Int)) (hn : np = pc + 3) (kt : z ≠ 0 → X κ P S w tgt ls st) (kf : z = 0 → X κ P S w np ls st) : X κ P S w pc ls (rv z :: st) := by
  subst hn
  intro H locs la a b h1 h2 h3 h4 h5 h6
  by_cases c : z = 0
  · rw [show rv z = .null by simp [rv, c]]
    exact lv_ifnonnullN hO.1 hO.2.1 d (kf c H locs la a b h1 h2 h3 h4 h5 h6)
  · rw [show rv z = .ref z.toNat by simp [rv, c]]
    exact lv_ifnonnull hO.1 hO.2.1 d ht (kt c H locs la a b h1 h2 h3 h4 h5 h6)
theorem ro_inj {x y : Int} (hx : 0 ≤ x) (hy : 0 ≤ y) : ro x = ro y ↔ x = y := by
  unfold ro
  by_cases c : x = 0 <;> by_cases c2 : y = 0 <;> simp [c, c2] <;> omega
theorem X_acmp_eq {off : Int} {x y : Int} (np : Nat) (tgt : Nat) (hO : Ok κ own cc) (d : decode cc pc = .ok (.if_acmp .eq off, 3)) (ht : (pc : Int) + off = (tgt : Int)) (hn : np = pc + 3) (hx : 0 ≤ x) (hy : 0 ≤ y) (kt : x = y → X κ P S w tgt ls st) (kf : x ≠ y → X κ P S w np ls st) : X κ P S w pc ls (rv y :: rv x :: st) := by
  subst hn
  intro H locs la a b h1 h2 h3 h4 h5 h6
  rw [← ro_rf, ← ro_rf]
  exact lv_acmp_eq hO.1 hO.2.1 d ht (fun c => kt ((ro_inj hx hy).mp c) H locs la a b h1 h2 h3 h4 h5 h6) (fun c => kf (fun q => c ((ro_inj hx hy).mpr q)) H locs la a b h1 h2 h3 h4 h5 h6)
theorem X_acmp_ne {off : Int} {x y : Int} (np : Nat) (tgt : Nat) (hO : Ok κ own cc) (d : decode cc pc = .ok (.if_acmp .ne off, 3)) (ht : (pc : Int) + off = (tgt : Int)) (hn : np = pc + 3) (hx : 0 ≤ x) (hy : 0 ≤ y) (kt : x ≠ y → X κ P S w tgt ls st) (kf : x = y → X κ P S w np ls st) : X κ P S w pc ls (rv y :: rv x :: st) := by
  subst hn
  intro H locs la a b h1 h2 h3 h4 h5 h6
  rw [← ro_rf, ← ro_rf]
  refine lv_acmp_ne hO.1 hO.2.1 d ht (fun c => kt (fun q => c ((ro_inj hx hy).mpr q)) H locs la a b h1 h2 h3 h4 h5 h6) (fun c => kf ?_ H locs la a b h1 h2 h3 h4 h5 h6)
  first | exact (ro_inj hx hy).mp c | exact (ro_inj hx hy).mp (Classical.not_not.mp c)
/-- facts that the world gives -/
theorem X_wi (k : WI w → X κ P S w pc ls st) : X κ P S w pc ls st := fun H locs la a b h1 => k h1 H locs la a b h1
end XR
