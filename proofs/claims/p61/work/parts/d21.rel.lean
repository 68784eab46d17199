/-! WHAT A LAUNCH GIVES: the words that are not in lwG -/
theorem tm_1 {w : Cond} (h : w ∈ tables_1_1) : w ∈ lw_tbl := List.mem_append_right _ (by unfold tables_1; exact List.mem_append_left _ h)
theorem tm_2 {w : Cond} (h : w ∈ tables_1_2) : w ∈ lw_tbl := List.mem_append_right _ (by unfold tables_1; exact List.mem_append_right _ (List.mem_append_left _ h))
theorem tm_3 {w : Cond} (h : w ∈ tables_1_3) : w ∈ lw_tbl := List.mem_append_right _ (by unfold tables_1; exact List.mem_append_right _ (List.mem_append_right _ (List.mem_append_left _ h)))
theorem tm_4 {w : Cond} (h : w ∈ tables_1_4) : w ∈ lw_tbl := List.mem_append_right _ (by unfold tables_1; exact List.mem_append_right _ (List.mem_append_right _ (List.mem_append_right _ (List.mem_append_left _ h))))
theorem tm_5 {w : Cond} (h : w ∈ tables_1_5) : w ∈ lw_tbl := List.mem_append_right _ (by unfold tables_1; exact List.mem_append_right _ (List.mem_append_right _ (List.mem_append_right _ (List.mem_append_right _ (List.mem_append_left _ h)))))
theorem tm_6 {w : Cond} (h : w ∈ tables_1_6) : w ∈ lw_tbl := List.mem_append_right _ (by unfold tables_1; exact List.mem_append_right _ (List.mem_append_right _ (List.mem_append_right _ (List.mem_append_right _ (List.mem_append_right _ (h))))))
theorem o_131 : Jvm.Cond.initialized "java/util/ArrayList" ∈ lw_tbl := tm_1 (List.mem_of_getElem? (i := 9) (by decide +kernel))
theorem o_142 : Jvm.Cond.initialized "java/lang/Throwable" ∈ lw_tbl := tm_1 (List.mem_of_getElem? (i := 19) (by decide +kernel))
theorem o_201 : Jvm.Cond.arrayClass Jvm.ClassFile.FieldType.int ∈ lw_tbl := tm_1 (List.mem_of_getElem? (i := 78) (by decide +kernel))
theorem o_202 : Jvm.Cond.arrayClass Jvm.ClassFile.FieldType.boolean ∈ lw_tbl := tm_1 (List.mem_of_getElem? (i := 79) (by decide +kernel))
theorem o_6002 : Jvm.Cond.methodLinkNest "Foldback" (9 : Nat) ({ cls := "Foldback$Desk", name := "<init>", desc := "()V" } : Jvm.MethodName) "Foldback" ∈ lw_tbl := tm_1 (List.mem_of_getElem? (i := 39) (by decide +kernel))
theorem o_6003 : Jvm.Cond.arrayOver (Jvm.ClassFile.FieldType.object "Foldback$Chars") ∈ lw_tbl := tm_1 (List.mem_of_getElem? (i := 50) (by decide +kernel))
theorem o_6009 : Jvm.Cond.methodLinkNest "Foldback$Desk" (22 : Nat) ({ cls := "Foldback$Steps", name := "<init>", desc := "()V" } : Jvm.MethodName) "Foldback" ∈ lw_tbl := tm_1 (List.mem_of_getElem? (i := 82) (by decide +kernel))
theorem o_6020 : Jvm.Cond.laysStatic "java/util/ArrayList" "DEFAULTCAPACITY_EMPTY_ELEMENTDATA" "[Ljava/lang/Object;" ∈ lw_tbl := tm_1 (List.mem_of_getElem? (i := 148) (by decide +kernel))
theorem o_6024 : Jvm.Cond.arrayOver (Jvm.ClassFile.FieldType.object "Foldback$Node") ∈ lw_tbl := tm_1 (List.mem_of_getElem? (i := 162) (by decide +kernel))
theorem o_6025 : Jvm.Cond.methodLinkNest "Foldback$Node" (9 : Nat) ({ cls := "Foldback$Steps", name := "<init>", desc := "()V" } : Jvm.MethodName) "Foldback" ∈ lw_tbl := tm_1 (List.mem_of_getElem? (i := 169) (by decide +kernel))
theorem o_6035 : Jvm.Cond.interfaceMethod "java/util/List" "java/util/List" "add" "(Ljava/lang/Object;)Z" ∈ lw_tbl := tm_1 (List.mem_of_getElem? (i := 210) (by decide +kernel))
theorem o_6036 : Jvm.Cond.declares ({ cls := "java/util/List", name := "add", desc := "(Ljava/lang/Object;)Z" } : Jvm.MethodName) ∈ lw_tbl := tm_1 (List.mem_of_getElem? (i := 211) (by decide +kernel))
theorem o_6037 : Jvm.Cond.castable "java/util/ArrayList" "java/util/List" ∈ lw_tbl := tm_1 (List.mem_of_getElem? (i := 212) (by decide +kernel))
theorem o_6038 : Jvm.Cond.unhidden "java/util/ArrayList" "add" "(Ljava/lang/Object;)Z" ∈ lw_tbl := tm_1 (List.mem_of_getElem? (i := 214) (by decide +kernel))
theorem o_6039 : Jvm.Cond.publicMethod ({ cls := "java/util/ArrayList", name := "add", desc := "(Ljava/lang/Object;)Z" } : Jvm.MethodName) ∈ lw_tbl := tm_1 (List.mem_of_getElem? (i := 216) (by decide +kernel))
theorem o_6043 : Jvm.Cond.arrayOver (Jvm.ClassFile.FieldType.object "java/lang/Object") ∈ lw_tbl := tm_2 (List.mem_of_getElem? (i := 26) (by decide +kernel))
theorem o_6055 : Jvm.Cond.arrayOver (Jvm.ClassFile.FieldType.object "Foldback$Trace") ∈ lw_tbl := tm_2 (List.mem_of_getElem? (i := 89) (by decide +kernel))
theorem o_6056 : Jvm.Cond.methodLinkNest "Foldback$Traces" (17 : Nat) ({ cls := "Foldback$Trace", name := "<init>", desc := "()V" } : Jvm.MethodName) "Foldback" ∈ lw_tbl := tm_2 (List.mem_of_getElem? (i := 91) (by decide +kernel))
theorem o_6064 : Jvm.Cond.arrayOver (Jvm.ClassFile.FieldType.object "Foldback$Macro") ∈ lw_tbl := tm_2 (List.mem_of_getElem? (i := 124) (by decide +kernel))
theorem o_6065 : Jvm.Cond.methodLinkNest "Foldback" (53 : Nat) ({ cls := "Foldback$Macro", name := "<init>", desc := "()V" } : Jvm.MethodName) "Foldback" ∈ lw_tbl := tm_2 (List.mem_of_getElem? (i := 126) (by decide +kernel))
theorem o_6070 : Jvm.Cond.methodLinkNest "Foldback" (60 : Nat) ({ cls := "Foldback$Trial", name := "<init>", desc := "()V" } : Jvm.MethodName) "Foldback" ∈ lw_tbl := tm_2 (List.mem_of_getElem? (i := 149) (by decide +kernel))
theorem o_6094 : Jvm.Cond.castable "java/lang/IndexOutOfBoundsException" "java/lang/IndexOutOfBoundsException" ∈ lw_tbl := tm_2 (List.mem_of_getElem? (i := 235) (by decide +kernel))
theorem o_6095 : Jvm.Cond.declares ({ cls := "java/lang/RuntimeException", name := "<init>", desc := "()V" } : Jvm.MethodName) ∈ lw_tbl := tm_2 (List.mem_of_getElem? (i := 236) (by decide +kernel))
theorem o_6096 : Jvm.Cond.declares ({ cls := "java/lang/RuntimeException", name := "<init>", desc := "(Ljava/lang/String;)V" } : Jvm.MethodName) ∈ lw_tbl := tm_2 (List.mem_of_getElem? (i := 237) (by decide +kernel))
theorem o_6097 : Jvm.Cond.declares ({ cls := "java/lang/Exception", name := "<init>", desc := "()V" } : Jvm.MethodName) ∈ lw_tbl := tm_2 (List.mem_of_getElem? (i := 238) (by decide +kernel))
theorem o_6098 : Jvm.Cond.declares ({ cls := "java/lang/Exception", name := "<init>", desc := "(Ljava/lang/String;)V" } : Jvm.MethodName) ∈ lw_tbl := tm_2 (List.mem_of_getElem? (i := 239) (by decide +kernel))
theorem o_6099 : Jvm.Cond.declares ({ cls := "java/lang/Throwable", name := "<init>", desc := "()V" } : Jvm.MethodName) ∈ lw_tbl := tm_3 (List.mem_of_getElem? (i := 0) (by decide +kernel))
theorem o_6100 : Jvm.Cond.declares ({ cls := "java/lang/Throwable", name := "<init>", desc := "(Ljava/lang/String;)V" } : Jvm.MethodName) ∈ lw_tbl := tm_3 (List.mem_of_getElem? (i := 1) (by decide +kernel))
theorem o_6101 : Jvm.Cond.laysStatic "java/lang/Throwable" "UNASSIGNED_STACK" "[Ljava/lang/StackTraceElement;" ∈ lw_tbl := tm_3 (List.mem_of_getElem? (i := 20) (by decide +kernel))
theorem o_6102 : Jvm.Cond.laysStatic "java/lang/Throwable" "SUPPRESSED_SENTINEL" "Ljava/util/List;" ∈ lw_tbl := tm_3 (List.mem_of_getElem? (i := 22) (by decide +kernel))
theorem o_6105 : Jvm.Cond.stringRef "Foldback" (335 : Nat) "there is none with this number" ∈ lw_tbl := tm_3 (List.mem_of_getElem? (i := 34) (by decide +kernel))
theorem o_6112 : Jvm.Cond.castable "java/lang/IllegalStateException" "java/lang/IllegalStateException" ∈ lw_tbl := tm_3 (List.mem_of_getElem? (i := 63) (by decide +kernel))
theorem o_6113 : Jvm.Cond.stringRef "Foldback" (165 : Nat) "a macro is being recorded" ∈ lw_tbl := tm_3 (List.mem_of_getElem? (i := 70) (by decide +kernel))
theorem o_6115 : Jvm.Cond.stringRef "Foldback" (171 : Nat) "no macro is being recorded" ∈ lw_tbl := tm_3 (List.mem_of_getElem? (i := 81) (by decide +kernel))
theorem o_6117 : Jvm.Cond.stringRef "Foldback" (177 : Nat) "a group is open" ∈ lw_tbl := tm_3 (List.mem_of_getElem? (i := 94) (by decide +kernel))
theorem o_6119 : Jvm.Cond.castable "java/lang/IllegalArgumentException" "java/lang/IllegalArgumentException" ∈ lw_tbl := tm_3 (List.mem_of_getElem? (i := 104) (by decide +kernel))
theorem o_6120 : Jvm.Cond.stringRef "Foldback" (338 : Nat) "the argument is out of range" ∈ lw_tbl := tm_3 (List.mem_of_getElem? (i := 111) (by decide +kernel))
theorem o_6122 : Jvm.Cond.stringRef "Foldback" (190 : Nat) "the store is tracked" ∈ lw_tbl := tm_3 (List.mem_of_getElem? (i := 123) (by decide +kernel))
theorem o_6132 : Jvm.Cond.stringRef "Foldback" (349 : Nat) "listeners make a replacement at depth 8" ∈ lw_tbl := tm_3 (List.mem_of_getElem? (i := 227) (by decide +kernel))
theorem o_6136 : Jvm.Cond.interfaceMethod "java/util/List" "java/util/List" "size" "()I" ∈ lw_tbl := tm_4 (List.mem_of_getElem? (i := 22) (by decide +kernel))
theorem o_6137 : Jvm.Cond.declares ({ cls := "java/util/List", name := "size", desc := "()I" } : Jvm.MethodName) ∈ lw_tbl := tm_4 (List.mem_of_getElem? (i := 23) (by decide +kernel))
theorem o_6138 : Jvm.Cond.unhidden "java/util/ArrayList" "size" "()I" ∈ lw_tbl := tm_4 (List.mem_of_getElem? (i := 25) (by decide +kernel))
theorem o_6139 : Jvm.Cond.publicMethod ({ cls := "java/util/ArrayList", name := "size", desc := "()I" } : Jvm.MethodName) ∈ lw_tbl := tm_4 (List.mem_of_getElem? (i := 27) (by decide +kernel))
theorem o_6141 : Jvm.Cond.interfaceMethod "java/util/List" "java/util/List" "get" "(I)Ljava/lang/Object;" ∈ lw_tbl := tm_4 (List.mem_of_getElem? (i := 31) (by decide +kernel))
theorem o_6142 : Jvm.Cond.declares ({ cls := "java/util/List", name := "get", desc := "(I)Ljava/lang/Object;" } : Jvm.MethodName) ∈ lw_tbl := tm_4 (List.mem_of_getElem? (i := 32) (by decide +kernel))
theorem o_6143 : Jvm.Cond.unhidden "java/util/ArrayList" "get" "(I)Ljava/lang/Object;" ∈ lw_tbl := tm_4 (List.mem_of_getElem? (i := 34) (by decide +kernel))
theorem o_6144 : Jvm.Cond.publicMethod ({ cls := "java/util/ArrayList", name := "get", desc := "(I)Ljava/lang/Object;" } : Jvm.MethodName) ∈ lw_tbl := tm_4 (List.mem_of_getElem? (i := 36) (by decide +kernel))
theorem o_6148 : Jvm.Cond.interfaceMethod "java/util/List" "java/util/List" "remove" "(I)Ljava/lang/Object;" ∈ lw_tbl := tm_4 (List.mem_of_getElem? (i := 63) (by decide +kernel))
theorem o_6149 : Jvm.Cond.declares ({ cls := "java/util/List", name := "remove", desc := "(I)Ljava/lang/Object;" } : Jvm.MethodName) ∈ lw_tbl := tm_4 (List.mem_of_getElem? (i := 64) (by decide +kernel))
theorem o_6150 : Jvm.Cond.unhidden "java/util/ArrayList" "remove" "(I)Ljava/lang/Object;" ∈ lw_tbl := tm_4 (List.mem_of_getElem? (i := 66) (by decide +kernel))
theorem o_6151 : Jvm.Cond.publicMethod ({ cls := "java/util/ArrayList", name := "remove", desc := "(I)Ljava/lang/Object;" } : Jvm.MethodName) ∈ lw_tbl := tm_4 (List.mem_of_getElem? (i := 68) (by decide +kernel))
theorem o_6155 : Jvm.Cond.stringRef "Foldback" (344 : Nat) "there is no such node" ∈ lw_tbl := tm_4 (List.mem_of_getElem? (i := 88) (by decide +kernel))
theorem o_6158 : Jvm.Cond.stringRef "Foldback" (403 : Nat) "there is no node to walk to" ∈ lw_tbl := tm_4 (List.mem_of_getElem? (i := 101) (by decide +kernel))
theorem o_6161 : Jvm.Cond.stringRef "Foldback" (340 : Nat) "the character is out of range" ∈ lw_tbl := tm_4 (List.mem_of_getElem? (i := 113) (by decide +kernel))
theorem o_6162 : Jvm.Cond.stringRef "Foldback" (257 : Nat) "a character is not replaced by itself" ∈ lw_tbl := tm_4 (List.mem_of_getElem? (i := 114) (by decide +kernel))
theorem o_6186 : Jvm.Cond.stringRef "Foldback" (351 : Nat) "the recorded list is full" ∈ lw_tbl := tm_4 (List.mem_of_getElem? (i := 176) (by decide +kernel))
theorem o_6204 : Jvm.Cond.stringRef "Foldback" (356 : Nat) "the command cannot be done" ∈ lw_tbl := tm_5 (List.mem_of_getElem? (i := 69) (by decide +kernel))
theorem o_6233 : Jvm.Cond.stringRef "Foldback" (179 : Nat) "no group is open" ∈ lw_tbl := tm_5 (List.mem_of_getElem? (i := 173) (by decide +kernel))
theorem o_6248 : Jvm.Cond.stringRef "Foldback" (236 : Nat) "no change to undo in the region" ∈ lw_tbl := tm_6 (List.mem_of_getElem? (i := 14) (by decide +kernel))
theorem o_6251 : Jvm.Cond.stringRef "Foldback" (242 : Nat) "the text would be too long" ∈ lw_tbl := tm_6 (List.mem_of_getElem? (i := 31) (by decide +kernel))
theorem o_6278 : Jvm.Cond.castable "Foldback$Chars" "java/lang/Object" ∈ lw_tbl := tm_6 (List.mem_of_getElem? (i := 109) (by decide +kernel))
theorem o_6279 : Jvm.Cond.castable "Foldback$Node" "java/lang/Object" ∈ lw_tbl := tm_6 (List.mem_of_getElem? (i := 110) (by decide +kernel))
theorem o_6280 : Jvm.Cond.castable "Foldback$Trace" "java/lang/Object" ∈ lw_tbl := tm_6 (List.mem_of_getElem? (i := 111) (by decide +kernel))
theorem o_6281 : Jvm.Cond.castable "Foldback$Macro" "java/lang/Object" ∈ lw_tbl := tm_6 (List.mem_of_getElem? (i := 112) (by decide +kernel))
theorem o_6282 : Jvm.Cond.castable "Foldback" "java/lang/Object" ∈ lw_tbl := tm_6 (List.mem_of_getElem? (i := 113) (by decide +kernel))
theorem o_6283 : Jvm.Cond.castable "Foldback$Desk" "java/lang/Object" ∈ lw_tbl := tm_6 (List.mem_of_getElem? (i := 114) (by decide +kernel))
theorem o_6284 : Jvm.Cond.castable "Foldback$State" "java/lang/Object" ∈ lw_tbl := tm_6 (List.mem_of_getElem? (i := 115) (by decide +kernel))
theorem o_6285 : Jvm.Cond.castable "Foldback$Steps" "java/lang/Object" ∈ lw_tbl := tm_6 (List.mem_of_getElem? (i := 116) (by decide +kernel))
theorem o_6286 : Jvm.Cond.castable "Foldback$Tree" "java/lang/Object" ∈ lw_tbl := tm_6 (List.mem_of_getElem? (i := 117) (by decide +kernel))
theorem o_6287 : Jvm.Cond.castable "java/util/ArrayList" "java/lang/Object" ∈ lw_tbl := tm_6 (List.mem_of_getElem? (i := 118) (by decide +kernel))
theorem o_6288 : Jvm.Cond.castable "Foldback$Listeners" "java/lang/Object" ∈ lw_tbl := tm_6 (List.mem_of_getElem? (i := 119) (by decide +kernel))
theorem o_6289 : Jvm.Cond.castable "Foldback$Traces" "java/lang/Object" ∈ lw_tbl := tm_6 (List.mem_of_getElem? (i := 120) (by decide +kernel))
theorem o_6290 : Jvm.Cond.castable "Foldback$Trial" "java/lang/Object" ∈ lw_tbl := tm_6 (List.mem_of_getElem? (i := 121) (by decide +kernel))
theorem o_6291 : Jvm.Cond.castable "java/lang/IndexOutOfBoundsException" "java/lang/Object" ∈ lw_tbl := tm_6 (List.mem_of_getElem? (i := 122) (by decide +kernel))
theorem o_6292 : Jvm.Cond.castable "java/lang/IllegalStateException" "java/lang/Object" ∈ lw_tbl := tm_6 (List.mem_of_getElem? (i := 123) (by decide +kernel))
theorem o_6293 : Jvm.Cond.castable "Foldback$Step" "java/lang/Object" ∈ lw_tbl := tm_6 (List.mem_of_getElem? (i := 124) (by decide +kernel))
theorem o_6294 : Jvm.Cond.castable "java/lang/IllegalArgumentException" "java/lang/Object" ∈ lw_tbl := tm_6 (List.mem_of_getElem? (i := 125) (by decide +kernel))
theorem o_6295 : Jvm.Cond.castable "java/lang/Throwable" "java/lang/Object" ∈ lw_tbl := tm_6 (List.mem_of_getElem? (i := 126) (by decide +kernel))
theorem o_6296 : Jvm.Cond.castable "java/lang/String" "java/lang/Object" ∈ lw_tbl := tm_6 (List.mem_of_getElem? (i := 127) (by decide +kernel))
theorem o_6297 : Jvm.Cond.declares ({ cls := "java/lang/Object", name := "getClass", desc := "()Ljava/lang/Class;" } : Jvm.MethodName) ∈ lw_tbl := tm_6 (List.mem_of_getElem? (i := 130) (by decide +kernel))
theorem o_6298 : Jvm.Cond.castable "[LFoldback$Chars;" "java/lang/Object" ∈ lw_tbl := tm_6 (List.mem_of_getElem? (i := 131) (by decide +kernel))
theorem o_6299 : Jvm.Cond.castable "[I" "java/lang/Object" ∈ lw_tbl := tm_6 (List.mem_of_getElem? (i := 132) (by decide +kernel))
theorem o_6300 : Jvm.Cond.castable "[Z" "java/lang/Object" ∈ lw_tbl := tm_6 (List.mem_of_getElem? (i := 133) (by decide +kernel))
theorem o_6301 : Jvm.Cond.castable "[LFoldback$Node;" "java/lang/Object" ∈ lw_tbl := tm_6 (List.mem_of_getElem? (i := 134) (by decide +kernel))
theorem o_6302 : Jvm.Cond.castable "[Ljava/lang/Object;" "java/lang/Object" ∈ lw_tbl := tm_6 (List.mem_of_getElem? (i := 135) (by decide +kernel))
theorem o_6303 : Jvm.Cond.castable "[LFoldback$Trace;" "java/lang/Object" ∈ lw_tbl := tm_6 (List.mem_of_getElem? (i := 136) (by decide +kernel))
theorem o_6304 : Jvm.Cond.castable "[LFoldback$Macro;" "java/lang/Object" ∈ lw_tbl := tm_6 (List.mem_of_getElem? (i := 137) (by decide +kernel))
theorem o_6305 : Jvm.Cond.castable "[B" "java/lang/Object" ∈ lw_tbl := tm_6 (List.mem_of_getElem? (i := 138) (by decide +kernel))
theorem st_pa {s : State} {a : Array Value} {ty : FieldType} (hty : ∀ C, ty ≠ .object C) (h : (Cond.arrayClass ty).before a s = true) : ∃ cA : ClassId, ArrOfT s cA ty ∧ va_RA s cA ty := by
  obtain ⟨c, k, comp, h1, h2, h3⟩ := Cond.arrayClass_spec h
  refine ⟨c, fun n z => ⟨fun k h => (by cases h), k, h2, comp, h3⟩, ?_⟩
  cases ty with
  | object C => exact absurd rfl (hty C)
  | _ => exact h1
theorem st_oa {s : State} {a : Array Value} {C : String} (h : (Cond.arrayOver (.object C)).before a s = true) : ∃ cA : ClassId, ArrOfT s cA (.object C) ∧ va_RA s cA (.object C) := by
  obtain ⟨comp, cA, kA, hcomp, -, hkA, hkind, hname⟩ := Cond.arrayOver_spec h
  exact ⟨cA, fun n z => ⟨fun k h => (by cases h), kA, hkA, comp, hkind⟩, kA, comp, hkA, hkind, hcomp, hname⟩
theorem st_cls {s : State} {a : Array Value} (hG : ∀ w ∈ lwG, w.before a s = true) : ∃ F : Nat → ClassId × (Nat → Nat), ∀ (c : Nat) (q : vw_C), cls_[c]? = some q → u_Kn s q.1 q.2.1 q.2.2 (F c).1 (F c).2 := by
  have K : ∀ c : Nat, ∃ p : ClassId × (Nat → Nat), ∀ q : vw_C, cls_[c]? = some q → u_Kn s q.1 q.2.1 q.2.2 p.1 p.2 := by
    intro c
    match c with
    | 0 =>
      obtain ⟨cC, iS, h⟩ := u_known (C := RX0) (T := TX0) (N := 1) (n := 1) hG inX0 (hG _ w_782)
      exact ⟨(cC, iS), fun q hq => by cases hq; exact h⟩
    | 1 =>
      obtain ⟨cC, iS, h⟩ := u_known (C := RX1) (T := TX1) (N := 6) (n := 6) hG inX1 (hG _ w_161)
      exact ⟨(cC, iS), fun q hq => by cases hq; exact h⟩
    | 2 =>
      obtain ⟨cC, iS, h⟩ := u_known (C := RX2) (T := TX2) (N := 6) (n := 6) hG inX2 (hG _ w_422)
      exact ⟨(cC, iS), fun q hq => by cases hq; exact h⟩
    | 3 =>
      obtain ⟨cC, iS, h⟩ := u_known (C := RX3) (T := TX3) (N := 4) (n := 4) hG inX3 (hG _ w_491)
      exact ⟨(cC, iS), fun q hq => by cases hq; exact h⟩
    | 4 =>
      obtain ⟨cC, iS, h⟩ := u_known (C := RX4) (T := TX4) (N := 8) (n := 8) hG inX4 (hG _ w_286)
      exact ⟨(cC, iS), fun q hq => by cases hq; exact h⟩
    | 5 =>
      obtain ⟨cC, iS, h⟩ := u_known (C := RX5) (T := TX5) (N := 5) (n := 5) hG inX5 (hG _ w_167)
      exact ⟨(cC, iS), fun q hq => by cases hq; exact h⟩
    | 6 =>
      obtain ⟨cC, iS, h⟩ := u_known (C := RX6) (T := TX6) (N := 5) (n := 5) hG inX6 (hG _ w_811)
      exact ⟨(cC, iS), fun q hq => by cases hq; exact h⟩
    | 7 =>
      obtain ⟨cC, iS, h⟩ := u_known (C := RX7) (T := TX7) (N := 4) (n := 4) hG inX7 (hG _ w_204)
      exact ⟨(cC, iS), fun q hq => by cases hq; exact h⟩
    | 8 =>
      obtain ⟨cC, iS, h⟩ := u_known (C := RX8) (T := TX8) (N := 5) (n := 5) hG inX8 (hG _ w_456)
      exact ⟨(cC, iS), fun q hq => by cases hq; exact h⟩
    | 9 =>
      obtain ⟨cC, iS, h⟩ := u_known (C := RX9) (T := TX9) (N := 2) (n := 2) hG inX9 (hG _ w_449)
      exact ⟨(cC, iS), fun q hq => by cases hq; exact h⟩
    | 10 =>
      obtain ⟨cC, iS, h⟩ := u_known (C := RX10) (T := TX10) (N := 5) (n := 5) hG inX10 (hG _ w_253)
      exact ⟨(cC, iS), fun q hq => by cases hq; exact h⟩
    | 11 =>
      obtain ⟨cC, iS, h⟩ := u_known (C := RX11) (T := TX11) (N := 6) (n := 6) hG inX11 (hG _ w_514)
      exact ⟨(cC, iS), fun q hq => by cases hq; exact h⟩
    | 12 =>
      obtain ⟨cC, iS, h⟩ := u_known (C := RX12) (T := TX12) (N := 16) (n := 16) hG inX12 (hG _ w_153)
      exact ⟨(cC, iS), fun q hq => by cases hq; exact h⟩
    | 13 =>
      obtain ⟨cC, iS, h⟩ := u_known (C := RX0) (T := TX0) (N := 1) (n := 1) hG inX0 (hG _ w_782)
      exact ⟨(cC, iS), fun q hq => by cases hq; exact h⟩
    | 14 =>
      obtain ⟨cC, iS, h⟩ := u_known (C := RJx4a65c) (T := TJx4a65c) (N := 3) (n := 3) hG inJx4a65c (hG _ w_259)
      exact ⟨(cC, iS), fun q hq => by cases hq; exact h⟩
    | k + 15 =>
      have h15 : cls_.length = 15 := rfl
      exact ⟨(0, fun _ => 0), fun q hq => by have := (List.getElem?_eq_some_iff.mp hq).1; omega⟩
  exact Classical.axiomOfChoice K
/-- the launch's facts, for numbers of the classes and arrays -/
theorem st_ev {s : State} {b : Nat} (l : Launch) (hflags : l.flags = flags0) (hts : ∀ w ∈ lw_tbl, w.before #[Value.ref b] s = true) (hgv : (Jvm.Cond.and given_1 narrow_1).before #[Value.ref b] s = true) (hbl : b < s.heap.size) : ∃ g : GC, EV (l, g, s.heap.size) s s.heap := by
  have hs := flat_of_before _ hgv
  have hG : ∀ w ∈ lwG, w.before #[Value.ref b] s = true := fun w hw => hts w (List.mem_filter.mp hw).1
  obtain ⟨F, hF⟩ := st_cls hG
  obtain ⟨a0, h0⟩ := st_pa (ty := .int) (fun C h => by cases h) (hts _ o_201)
  obtain ⟨a1, h1⟩ := st_pa (ty := .boolean) (fun C h => by cases h) (hts _ o_202)
  obtain ⟨a2, h2⟩ := st_pa (ty := .int) (fun C h => by cases h) (hts _ o_201)
  obtain ⟨a3, h3⟩ := st_oa (C := "Foldback$Chars") (hts _ o_6003)
  obtain ⟨a4, h4⟩ := st_oa (C := "Foldback$Macro") (hts _ o_6064)
  obtain ⟨a5, h5⟩ := st_oa (C := "Foldback$Node") (hts _ o_6024)
  obtain ⟨a6, h6⟩ := st_oa (C := "Foldback$Trace") (hts _ o_6055)
  obtain ⟨a7, h7⟩ := st_oa (C := "java/lang/Object") (hts _ o_6043)
  have hA : ∀ a : Nat, a < s.heap.size → ¬ aB s.heap.size a := fun a ha h => by unfold aB at h; omega
  have hlen : (Term.length (.static "java/util/ArrayList" "DEFAULTCAPACITY_EMPTY_ELEMENTDATA" "[Ljava/lang/Object;")).eval #[Value.ref b] s none [] s = some (.int (Int32.ofNat 0)) := va_eqt (hs (Cond.eq (.length (.static "java/util/ArrayList" "DEFAULTCAPACITY_EMPTY_ELEMENTDATA" "[Ljava/lang/Object;")) (.int 0)) (by decide +kernel))
  obtain ⟨e, he, hT⟩ := va_Tof (N := 0) (f := fun _ => .null) (A := aB s.heap.size) (by decide) (hs (Cond.arrayOf (.static "java/util/ArrayList" "DEFAULTCAPACITY_EMPTY_ELEMENTDATA" "[Ljava/lang/Object;") (.object "java/lang/Object")) (by decide +kernel)) hlen (fun j hj => absurd hj (by omega)) hA
  have hZ := va_Zof (A := aB s.heap.size) (hts _ o_6020) (hts _ o_131) he hA
  obtain ⟨mi, hMi⟩ := va_Mi.of (hs (Cond.isRef (.mirror "[Ljava/lang/Object;")) (by decide +kernel))
  have hU := vx_Zqof (A := aB s.heap.size) (hts _ o_6101) (hts _ o_142) (hs (Cond.isRef (.static "java/lang/Throwable" "UNASSIGNED_STACK" "[Ljava/lang/StackTraceElement;")) (by decide +kernel)) hA
  have hS := vx_Zqof (A := aB s.heap.size) (hts _ o_6102) (hts _ o_142) (hs (Cond.isRef (.static "java/lang/Throwable" "SUPPRESSED_SENTINEL" "Ljava/util/List;")) (by decide +kernel)) hA
  have hcl : s.vm.findClass "Foldback" = some (F 12).1 := (hF 12 _ rfl).2.1
  have st : ∀ (k : Nat) (tx : String), (Cond.stringRef "Foldback" k tx).before #[Value.ref b] s = true → ∃ a, vk_R "Foldback" k tx a s := fun k tx h => by
    obtain ⟨_, _, _, a, -, -, -, -, -, hev⟩ := Cond.stringRef_spec hcl h
    exact ⟨a, vk_R.of h hev⟩
  refine ⟨((fun c => (F c).1, fun c => (F c).2), fun k => match k with | 0 => a0 | 1 => a1 | 2 => a2 | 3 => a3 | 4 => a4 | 5 => a5 | 6 => a6 | 7 => a7 | 8 => mi | _ => e), ?_, ⟨hF, ?_⟩, hU, hS, ?_, ?_, ?_, ?_, ?_, ?_, ?_, Nat.le_refl _, by show 1 ≤ s.heap.size; omega, e, hZ, hT, hMi, rfl⟩
  · show l.stackTraces = false
    unfold Launch.stackTraces
    rw [hflags]
    decide +kernel
  · intro k q hk
    match k, hk with
    | 0, hk => cases hk; exact h0
    | 1, hk => cases hk; exact h1
    | 2, hk => cases hk; exact h2
    | 3, hk => cases hk; exact h3
    | 4, hk => cases hk; exact h4
    | 5, hk => cases hk; exact h5
    | 6, hk => cases hk; exact h6
    | 7, hk => cases hk; exact h7
    | k + 8, hk => exact absurd (List.getElem?_eq_some_iff.mp hk).1 (by show ¬ (k + 8 < 8); omega)
  · exact List.forall_mem_cons.mpr ⟨st _ _ (hts _ o_6161), List.forall_mem_cons.mpr ⟨st _ _ (hts _ o_6186), List.forall_mem_cons.mpr ⟨st _ _ (hts _ o_6204), List.forall_mem_cons.mpr ⟨st _ _ (hts _ o_6132), List.forall_mem_cons.mpr ⟨st _ _ (hts _ o_6120), List.forall_mem_cons.mpr ⟨st _ _ (hts _ o_6105), List.forall_mem_cons.mpr ⟨st _ _ (hts _ o_6113), List.forall_mem_cons.mpr ⟨st _ _ (hts _ o_6115), List.forall_mem_cons.mpr ⟨st _ _ (hts _ o_6117), List.forall_mem_cons.mpr ⟨st _ _ (hts _ o_6233), List.forall_mem_cons.mpr ⟨st _ _ (hts _ o_6122), List.forall_mem_cons.mpr ⟨st _ _ (hts _ o_6158), List.forall_mem_cons.mpr ⟨st _ _ (hts _ o_6155), List.forall_mem_cons.mpr ⟨st _ _ (hts _ o_6248), List.forall_mem_cons.mpr ⟨st _ _ (hts _ o_6251), List.forall_mem_cons.mpr ⟨st _ _ (hts _ o_6162), fun _ h => absurd h List.not_mem_nil⟩⟩⟩⟩⟩⟩⟩⟩⟩⟩⟩⟩⟩⟩⟩⟩
  · exact List.forall_mem_cons.mpr ⟨va_Nw.of rfl (hts _ o_6002), List.forall_mem_cons.mpr ⟨va_Nw.of rfl (hts _ o_6009), List.forall_mem_cons.mpr ⟨va_Nw.of rfl (hts _ o_6025), List.forall_mem_cons.mpr ⟨va_Nw.of rfl (hts _ o_6056), List.forall_mem_cons.mpr ⟨va_Nw.of rfl (hts _ o_6065), List.forall_mem_cons.mpr ⟨va_Nw.of rfl (hts _ o_6070), fun _ h => absurd h List.not_mem_nil⟩⟩⟩⟩⟩⟩
  · exact List.forall_mem_cons.mpr ⟨va_Nw.of rfl (hts _ o_6037), List.forall_mem_cons.mpr ⟨va_Nw.of rfl (hts _ o_6119), List.forall_mem_cons.mpr ⟨va_Nw.of rfl (hts _ o_6112), List.forall_mem_cons.mpr ⟨va_Nw.of rfl (hts _ o_6094), List.forall_mem_cons.mpr ⟨va_Nw.of rfl (hts _ o_6278), List.forall_mem_cons.mpr ⟨va_Nw.of rfl (hts _ o_6279), List.forall_mem_cons.mpr ⟨va_Nw.of rfl (hts _ o_6280), List.forall_mem_cons.mpr ⟨va_Nw.of rfl (hts _ o_6281), List.forall_mem_cons.mpr ⟨va_Nw.of rfl (hts _ o_6282), List.forall_mem_cons.mpr ⟨va_Nw.of rfl (hts _ o_6283), List.forall_mem_cons.mpr ⟨va_Nw.of rfl (hts _ o_6284), List.forall_mem_cons.mpr ⟨va_Nw.of rfl (hts _ o_6285), List.forall_mem_cons.mpr ⟨va_Nw.of rfl (hts _ o_6286), List.forall_mem_cons.mpr ⟨va_Nw.of rfl (hts _ o_6287), List.forall_mem_cons.mpr ⟨va_Nw.of rfl (hts _ o_6288), List.forall_mem_cons.mpr ⟨va_Nw.of rfl (hts _ o_6289), List.forall_mem_cons.mpr ⟨va_Nw.of rfl (hts _ o_6290), List.forall_mem_cons.mpr ⟨va_Nw.of rfl (hts _ o_6294), List.forall_mem_cons.mpr ⟨va_Nw.of rfl (hts _ o_6292), List.forall_mem_cons.mpr ⟨va_Nw.of rfl (hts _ o_6293), List.forall_mem_cons.mpr ⟨va_Nw.of rfl (hts _ o_6291), List.forall_mem_cons.mpr ⟨va_Nw.of rfl (hts _ o_6295), List.forall_mem_cons.mpr ⟨va_Nw.of rfl (hts _ o_6296), List.forall_mem_cons.mpr ⟨va_Nw.of rfl (hts _ o_6298), List.forall_mem_cons.mpr ⟨va_Nw.of rfl (hts _ o_6299), List.forall_mem_cons.mpr ⟨va_Nw.of rfl (hts _ o_6300), List.forall_mem_cons.mpr ⟨va_Nw.of rfl (hts _ o_6301), List.forall_mem_cons.mpr ⟨va_Nw.of rfl (hts _ o_6302), List.forall_mem_cons.mpr ⟨va_Nw.of rfl (hts _ o_6303), List.forall_mem_cons.mpr ⟨va_Nw.of rfl (hts _ o_6304), List.forall_mem_cons.mpr ⟨va_Nw.of rfl (hts _ o_6305), fun _ h => absurd h List.not_mem_nil⟩⟩⟩⟩⟩⟩⟩⟩⟩⟩⟩⟩⟩⟩⟩⟩⟩⟩⟩⟩⟩⟩⟩⟩⟩⟩⟩⟩⟩⟩⟩
  · exact List.forall_mem_cons.mpr ⟨va_Nc.of (hs (Cond.not (Cond.castable "java/lang/IllegalArgumentException" "java/lang/IllegalStateException")) (by decide +kernel)), List.forall_mem_cons.mpr ⟨va_Nc.of (hs (Cond.not (Cond.castable "java/lang/IllegalArgumentException" "java/lang/IndexOutOfBoundsException")) (by decide +kernel)), List.forall_mem_cons.mpr ⟨va_Nc.of (hs (Cond.not (Cond.castable "java/lang/IllegalStateException" "java/lang/IndexOutOfBoundsException")) (by decide +kernel)), List.forall_mem_cons.mpr ⟨va_Nc.of (hs (Cond.not (Cond.castable "java/lang/IndexOutOfBoundsException" "java/lang/IllegalStateException")) (by decide +kernel)), fun _ h => absurd h List.not_mem_nil⟩⟩⟩⟩
  · exact List.forall_mem_cons.mpr ⟨va_AO.of (hts _ o_6003), List.forall_mem_cons.mpr ⟨va_AO.of (hts _ o_6024), List.forall_mem_cons.mpr ⟨va_AO.of (hts _ o_6043), List.forall_mem_cons.mpr ⟨va_AO.of (hts _ o_6055), List.forall_mem_cons.mpr ⟨va_AO.of (hts _ o_6064), fun _ h => absurd h List.not_mem_nil⟩⟩⟩⟩⟩
  · exact List.forall_mem_cons.mpr ⟨va_Fw.of (hts _ o_6036) (hts _ o_6035) (hts _ o_6039) (hts _ o_6038) (hts _ o_6037), List.forall_mem_cons.mpr ⟨va_Fw.of (hts _ o_6137) (hts _ o_6136) (hts _ o_6139) (hts _ o_6138) (hts _ o_6037), List.forall_mem_cons.mpr ⟨va_Fw.of (hts _ o_6142) (hts _ o_6141) (hts _ o_6144) (hts _ o_6143) (hts _ o_6037), List.forall_mem_cons.mpr ⟨va_Fw.of (hts _ o_6149) (hts _ o_6148) (hts _ o_6151) (hts _ o_6150) (hts _ o_6037), fun _ h => absurd h List.not_mem_nil⟩⟩⟩⟩
  · exact List.forall_mem_cons.mpr ⟨va_Nw.of rfl (hts _ o_6036), List.forall_mem_cons.mpr ⟨va_Nw.of rfl (hts _ o_6137), List.forall_mem_cons.mpr ⟨va_Nw.of rfl (hts _ o_6095), List.forall_mem_cons.mpr ⟨va_Nw.of rfl (hts _ o_6096), List.forall_mem_cons.mpr ⟨va_Nw.of rfl (hts _ o_6097), List.forall_mem_cons.mpr ⟨va_Nw.of rfl (hts _ o_6098), List.forall_mem_cons.mpr ⟨va_Nw.of rfl (hts _ o_6099), List.forall_mem_cons.mpr ⟨va_Nw.of rfl (hts _ o_6100), List.forall_mem_cons.mpr ⟨va_Nw.of rfl (hts _ o_6142), List.forall_mem_cons.mpr ⟨va_Nw.of rfl (hts _ o_6149), List.forall_mem_cons.mpr ⟨va_Nw.of rfl (hts _ o_6297), fun _ h => absurd h List.not_mem_nil⟩⟩⟩⟩⟩⟩⟩⟩⟩⟩⟩
