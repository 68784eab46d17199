/-! WHAT A LAUNCH GIVES: the words that are not in lwG -/
theorem tm_1 {w : Cond} (h : w ∈ tables_1_1) : w ∈ lw_tbl := List.mem_append_right _ (by unfold tables_1; exact List.mem_append_left _ h)
theorem tm_2 {w : Cond} (h : w ∈ tables_1_2) : w ∈ lw_tbl := List.mem_append_right _ (by unfold tables_1; exact List.mem_append_right _ (List.mem_append_left _ h))
theorem tm_3 {w : Cond} (h : w ∈ tables_1_3) : w ∈ lw_tbl := List.mem_append_right _ (by unfold tables_1; exact List.mem_append_right _ (List.mem_append_right _ (List.mem_append_left _ h)))
theorem tm_4 {w : Cond} (h : w ∈ tables_1_4) : w ∈ lw_tbl := List.mem_append_right _ (by unfold tables_1; exact List.mem_append_right _ (List.mem_append_right _ (List.mem_append_right _ (List.mem_append_left _ h))))
theorem tm_5 {w : Cond} (h : w ∈ tables_1_5) : w ∈ lw_tbl := List.mem_append_right _ (by unfold tables_1; exact List.mem_append_right _ (List.mem_append_right _ (List.mem_append_right _ (List.mem_append_right _ (List.mem_append_left _ h)))))
theorem tm_6 {w : Cond} (h : w ∈ tables_1_6) : w ∈ lw_tbl := List.mem_append_right _ (by unfold tables_1; exact List.mem_append_right _ (List.mem_append_right _ (List.mem_append_right _ (List.mem_append_right _ (List.mem_append_right _ (List.mem_append_left _ h))))))
theorem tm_7 {w : Cond} (h : w ∈ tables_1_7) : w ∈ lw_tbl := List.mem_append_right _ (by unfold tables_1; exact List.mem_append_right _ (List.mem_append_right _ (List.mem_append_right _ (List.mem_append_right _ (List.mem_append_right _ (List.mem_append_right _ (List.mem_append_left _ h)))))))
theorem tm_8 {w : Cond} (h : w ∈ tables_1_8) : w ∈ lw_tbl := List.mem_append_right _ (by unfold tables_1; exact List.mem_append_right _ (List.mem_append_right _ (List.mem_append_right _ (List.mem_append_right _ (List.mem_append_right _ (List.mem_append_right _ (List.mem_append_right _ (List.mem_append_left _ h))))))))
theorem tm_9 {w : Cond} (h : w ∈ tables_1_9) : w ∈ lw_tbl := List.mem_append_right _ (by unfold tables_1; exact List.mem_append_right _ (List.mem_append_right _ (List.mem_append_right _ (List.mem_append_right _ (List.mem_append_right _ (List.mem_append_right _ (List.mem_append_right _ (List.mem_append_right _ (List.mem_append_left _ h)))))))))
theorem tm_10 {w : Cond} (h : w ∈ tables_1_10) : w ∈ lw_tbl := List.mem_append_right _ (by unfold tables_1; exact List.mem_append_right _ (List.mem_append_right _ (List.mem_append_right _ (List.mem_append_right _ (List.mem_append_right _ (List.mem_append_right _ (List.mem_append_right _ (List.mem_append_right _ (List.mem_append_right _ (h))))))))))
theorem o_131 : Jvm.Cond.initialized "java/util/ArrayList" ∈ lw_tbl := tm_1 (List.mem_of_getElem? (i := 9) (by decide +kernel))
theorem o_142 : Jvm.Cond.initialized "java/lang/Throwable" ∈ lw_tbl := tm_1 (List.mem_of_getElem? (i := 20) (by decide +kernel))
theorem o_162 : Jvm.Cond.methodLinkNest "Foldback" (9 : Nat) ({ cls := "Foldback$Desk", name := "<init>", desc := "()V" } : Jvm.MethodName) "Foldback" ∈ lw_tbl := tm_1 (List.mem_of_getElem? (i := 40) (by decide +kernel))
theorem o_173 : Jvm.Cond.arrayOver (Jvm.ClassFile.FieldType.object "Foldback$Chars") ∈ lw_tbl := tm_1 (List.mem_of_getElem? (i := 51) (by decide +kernel))
theorem o_201 : Jvm.Cond.arrayClass Jvm.ClassFile.FieldType.int ∈ lw_tbl := tm_1 (List.mem_of_getElem? (i := 79) (by decide +kernel))
theorem o_202 : Jvm.Cond.arrayClass Jvm.ClassFile.FieldType.boolean ∈ lw_tbl := tm_1 (List.mem_of_getElem? (i := 80) (by decide +kernel))
theorem o_205 : Jvm.Cond.methodLinkNest "Foldback$Desk" (22 : Nat) ({ cls := "Foldback$Steps", name := "<init>", desc := "()V" } : Jvm.MethodName) "Foldback" ∈ lw_tbl := tm_1 (List.mem_of_getElem? (i := 83) (by decide +kernel))
theorem o_271 : Jvm.Cond.laysStatic "java/util/ArrayList" "DEFAULTCAPACITY_EMPTY_ELEMENTDATA" "[Ljava/lang/Object;" ∈ lw_tbl := tm_1 (List.mem_of_getElem? (i := 149) (by decide +kernel))
theorem o_285 : Jvm.Cond.arrayOver (Jvm.ClassFile.FieldType.object "Foldback$Node") ∈ lw_tbl := tm_1 (List.mem_of_getElem? (i := 163) (by decide +kernel))
theorem o_292 : Jvm.Cond.methodLinkNest "Foldback$Node" (9 : Nat) ({ cls := "Foldback$Steps", name := "<init>", desc := "()V" } : Jvm.MethodName) "Foldback" ∈ lw_tbl := tm_1 (List.mem_of_getElem? (i := 170) (by decide +kernel))
theorem o_333 : Jvm.Cond.interfaceMethod "java/util/List" "java/util/List" "add" "(Ljava/lang/Object;)Z" ∈ lw_tbl := tm_1 (List.mem_of_getElem? (i := 211) (by decide +kernel))
theorem o_334 : Jvm.Cond.declares ({ cls := "java/util/List", name := "add", desc := "(Ljava/lang/Object;)Z" } : Jvm.MethodName) ∈ lw_tbl := tm_1 (List.mem_of_getElem? (i := 212) (by decide +kernel))
theorem o_335 : Jvm.Cond.castable "java/util/ArrayList" "java/util/List" ∈ lw_tbl := tm_1 (List.mem_of_getElem? (i := 213) (by decide +kernel))
theorem o_337 : Jvm.Cond.unhidden "java/util/ArrayList" "add" "(Ljava/lang/Object;)Z" ∈ lw_tbl := tm_1 (List.mem_of_getElem? (i := 215) (by decide +kernel))
theorem o_339 : Jvm.Cond.publicMethod ({ cls := "java/util/ArrayList", name := "add", desc := "(Ljava/lang/Object;)Z" } : Jvm.MethodName) ∈ lw_tbl := tm_1 (List.mem_of_getElem? (i := 217) (by decide +kernel))
theorem o_390 : Jvm.Cond.arrayOver (Jvm.ClassFile.FieldType.object "java/lang/Object") ∈ lw_tbl := tm_2 (List.mem_of_getElem? (i := 28) (by decide +kernel))
theorem o_455 : Jvm.Cond.arrayOver (Jvm.ClassFile.FieldType.object "Foldback$Trace") ∈ lw_tbl := tm_2 (List.mem_of_getElem? (i := 93) (by decide +kernel))
theorem o_457 : Jvm.Cond.methodLinkNest "Foldback$Traces" (17 : Nat) ({ cls := "Foldback$Trace", name := "<init>", desc := "()V" } : Jvm.MethodName) "Foldback" ∈ lw_tbl := tm_2 (List.mem_of_getElem? (i := 95) (by decide +kernel))
theorem o_490 : Jvm.Cond.arrayOver (Jvm.ClassFile.FieldType.object "Foldback$Macro") ∈ lw_tbl := tm_2 (List.mem_of_getElem? (i := 128) (by decide +kernel))
theorem o_492 : Jvm.Cond.methodLinkNest "Foldback" (53 : Nat) ({ cls := "Foldback$Macro", name := "<init>", desc := "()V" } : Jvm.MethodName) "Foldback" ∈ lw_tbl := tm_2 (List.mem_of_getElem? (i := 130) (by decide +kernel))
theorem o_515 : Jvm.Cond.methodLinkNest "Foldback" (60 : Nat) ({ cls := "Foldback$Trial", name := "<init>", desc := "()V" } : Jvm.MethodName) "Foldback" ∈ lw_tbl := tm_2 (List.mem_of_getElem? (i := 153) (by decide +kernel))
theorem o_634 : Jvm.Cond.interfaceMethod "java/util/List" "java/util/List" "size" "()I" ∈ lw_tbl := tm_3 (List.mem_of_getElem? (i := 32) (by decide +kernel))
theorem o_635 : Jvm.Cond.declares ({ cls := "java/util/List", name := "size", desc := "()I" } : Jvm.MethodName) ∈ lw_tbl := tm_3 (List.mem_of_getElem? (i := 33) (by decide +kernel))
theorem o_637 : Jvm.Cond.unhidden "java/util/ArrayList" "size" "()I" ∈ lw_tbl := tm_3 (List.mem_of_getElem? (i := 35) (by decide +kernel))
theorem o_639 : Jvm.Cond.publicMethod ({ cls := "java/util/ArrayList", name := "size", desc := "()I" } : Jvm.MethodName) ∈ lw_tbl := tm_3 (List.mem_of_getElem? (i := 37) (by decide +kernel))
theorem o_663 : Jvm.Cond.castable "java/lang/IllegalArgumentException" "java/lang/IllegalArgumentException" ∈ lw_tbl := tm_3 (List.mem_of_getElem? (i := 61) (by decide +kernel))
theorem o_664 : Jvm.Cond.declares ({ cls := "java/lang/RuntimeException", name := "<init>", desc := "()V" } : Jvm.MethodName) ∈ lw_tbl := tm_3 (List.mem_of_getElem? (i := 62) (by decide +kernel))
theorem o_665 : Jvm.Cond.declares ({ cls := "java/lang/RuntimeException", name := "<init>", desc := "(Ljava/lang/String;)V" } : Jvm.MethodName) ∈ lw_tbl := tm_3 (List.mem_of_getElem? (i := 63) (by decide +kernel))
theorem o_666 : Jvm.Cond.declares ({ cls := "java/lang/Exception", name := "<init>", desc := "()V" } : Jvm.MethodName) ∈ lw_tbl := tm_3 (List.mem_of_getElem? (i := 64) (by decide +kernel))
theorem o_667 : Jvm.Cond.declares ({ cls := "java/lang/Exception", name := "<init>", desc := "(Ljava/lang/String;)V" } : Jvm.MethodName) ∈ lw_tbl := tm_3 (List.mem_of_getElem? (i := 65) (by decide +kernel))
theorem o_668 : Jvm.Cond.declares ({ cls := "java/lang/Throwable", name := "<init>", desc := "()V" } : Jvm.MethodName) ∈ lw_tbl := tm_3 (List.mem_of_getElem? (i := 66) (by decide +kernel))
theorem o_669 : Jvm.Cond.declares ({ cls := "java/lang/Throwable", name := "<init>", desc := "(Ljava/lang/String;)V" } : Jvm.MethodName) ∈ lw_tbl := tm_3 (List.mem_of_getElem? (i := 67) (by decide +kernel))
theorem o_688 : Jvm.Cond.laysStatic "java/lang/Throwable" "UNASSIGNED_STACK" "[Ljava/lang/StackTraceElement;" ∈ lw_tbl := tm_3 (List.mem_of_getElem? (i := 86) (by decide +kernel))
theorem o_690 : Jvm.Cond.laysStatic "java/lang/Throwable" "SUPPRESSED_SENTINEL" "Ljava/util/List;" ∈ lw_tbl := tm_3 (List.mem_of_getElem? (i := 88) (by decide +kernel))
theorem o_702 : Jvm.Cond.stringRef "Foldback" (340 : Nat) "the character is out of range" ∈ lw_tbl := tm_3 (List.mem_of_getElem? (i := 100) (by decide +kernel))
theorem o_735 : Jvm.Cond.castable "java/lang/IllegalStateException" "java/lang/IllegalStateException" ∈ lw_tbl := tm_3 (List.mem_of_getElem? (i := 133) (by decide +kernel))
theorem o_742 : Jvm.Cond.stringRef "Foldback" (351 : Nat) "the recorded list is full" ∈ lw_tbl := tm_3 (List.mem_of_getElem? (i := 140) (by decide +kernel))
theorem o_963 : Jvm.Cond.stringRef "Foldback" (356 : Nat) "the command cannot be done" ∈ lw_tbl := tm_4 (List.mem_of_getElem? (i := 121) (by decide +kernel))
theorem o_990 : Jvm.Cond.stringRef "Foldback" (349 : Nat) "listeners make a replacement at depth 8" ∈ lw_tbl := tm_4 (List.mem_of_getElem? (i := 148) (by decide +kernel))
theorem o_1035 : Jvm.Cond.interfaceMethod "java/util/List" "java/util/List" "get" "(I)Ljava/lang/Object;" ∈ lw_tbl := tm_4 (List.mem_of_getElem? (i := 193) (by decide +kernel))
theorem o_1036 : Jvm.Cond.declares ({ cls := "java/util/List", name := "get", desc := "(I)Ljava/lang/Object;" } : Jvm.MethodName) ∈ lw_tbl := tm_4 (List.mem_of_getElem? (i := 194) (by decide +kernel))
theorem o_1038 : Jvm.Cond.unhidden "java/util/ArrayList" "get" "(I)Ljava/lang/Object;" ∈ lw_tbl := tm_4 (List.mem_of_getElem? (i := 196) (by decide +kernel))
theorem o_1040 : Jvm.Cond.publicMethod ({ cls := "java/util/ArrayList", name := "get", desc := "(I)Ljava/lang/Object;" } : Jvm.MethodName) ∈ lw_tbl := tm_4 (List.mem_of_getElem? (i := 198) (by decide +kernel))
theorem o_1067 : Jvm.Cond.interfaceMethod "java/util/List" "java/util/List" "remove" "(I)Ljava/lang/Object;" ∈ lw_tbl := tm_4 (List.mem_of_getElem? (i := 225) (by decide +kernel))
theorem o_1068 : Jvm.Cond.declares ({ cls := "java/util/List", name := "remove", desc := "(I)Ljava/lang/Object;" } : Jvm.MethodName) ∈ lw_tbl := tm_4 (List.mem_of_getElem? (i := 226) (by decide +kernel))
theorem o_1070 : Jvm.Cond.unhidden "java/util/ArrayList" "remove" "(I)Ljava/lang/Object;" ∈ lw_tbl := tm_4 (List.mem_of_getElem? (i := 228) (by decide +kernel))
theorem o_1072 : Jvm.Cond.publicMethod ({ cls := "java/util/ArrayList", name := "remove", desc := "(I)Ljava/lang/Object;" } : Jvm.MethodName) ∈ lw_tbl := tm_4 (List.mem_of_getElem? (i := 230) (by decide +kernel))
theorem o_1108 : Jvm.Cond.stringRef "Foldback" (338 : Nat) "the argument is out of range" ∈ lw_tbl := tm_5 (List.mem_of_getElem? (i := 26) (by decide +kernel))
theorem o_1157 : Jvm.Cond.castable "java/lang/IndexOutOfBoundsException" "java/lang/IndexOutOfBoundsException" ∈ lw_tbl := tm_5 (List.mem_of_getElem? (i := 75) (by decide +kernel))
theorem o_1164 : Jvm.Cond.stringRef "Foldback" (335 : Nat) "there is none with this number" ∈ lw_tbl := tm_5 (List.mem_of_getElem? (i := 82) (by decide +kernel))
theorem o_1259 : Jvm.Cond.stringRef "Foldback" (165 : Nat) "a macro is being recorded" ∈ lw_tbl := tm_5 (List.mem_of_getElem? (i := 177) (by decide +kernel))
theorem o_1267 : Jvm.Cond.stringRef "Foldback" (171 : Nat) "no macro is being recorded" ∈ lw_tbl := tm_5 (List.mem_of_getElem? (i := 185) (by decide +kernel))
theorem o_1280 : Jvm.Cond.stringRef "Foldback" (177 : Nat) "a group is open" ∈ lw_tbl := tm_5 (List.mem_of_getElem? (i := 198) (by decide +kernel))
theorem o_1288 : Jvm.Cond.stringRef "Foldback" (179 : Nat) "no group is open" ∈ lw_tbl := tm_5 (List.mem_of_getElem? (i := 206) (by decide +kernel))
theorem o_1303 : Jvm.Cond.stringRef "Foldback" (190 : Nat) "the store is tracked" ∈ lw_tbl := tm_5 (List.mem_of_getElem? (i := 221) (by decide +kernel))
theorem o_1319 : Jvm.Cond.stringRef "Foldback" (403 : Nat) "there is no node to walk to" ∈ lw_tbl := tm_5 (List.mem_of_getElem? (i := 237) (by decide +kernel))
theorem o_1344 : Jvm.Cond.stringRef "Foldback" (344 : Nat) "there is no such node" ∈ lw_tbl := tm_6 (List.mem_of_getElem? (i := 22) (by decide +kernel))
theorem o_1400 : Jvm.Cond.stringRef "Foldback" (236 : Nat) "no change to undo in the region" ∈ lw_tbl := tm_6 (List.mem_of_getElem? (i := 78) (by decide +kernel))
theorem o_1417 : Jvm.Cond.stringRef "Foldback" (242 : Nat) "the text would be too long" ∈ lw_tbl := tm_6 (List.mem_of_getElem? (i := 95) (by decide +kernel))
theorem o_1453 : Jvm.Cond.stringRef "Foldback" (257 : Nat) "a character is not replaced by itself" ∈ lw_tbl := tm_6 (List.mem_of_getElem? (i := 131) (by decide +kernel))
theorem o_2327 : Jvm.Cond.arrayClass Jvm.ClassFile.FieldType.long ∈ lw_tbl := tm_10 (List.mem_of_getElem? (i := 45) (by decide +kernel))
theorem o_2329 : Jvm.Cond.castable "Foldback$Chars" "java/lang/Object" ∈ lw_tbl := tm_10 (List.mem_of_getElem? (i := 47) (by decide +kernel))
theorem o_2330 : Jvm.Cond.castable "Foldback$Node" "java/lang/Object" ∈ lw_tbl := tm_10 (List.mem_of_getElem? (i := 48) (by decide +kernel))
theorem o_2331 : Jvm.Cond.castable "Foldback$Trace" "java/lang/Object" ∈ lw_tbl := tm_10 (List.mem_of_getElem? (i := 49) (by decide +kernel))
theorem o_2332 : Jvm.Cond.castable "Foldback$Macro" "java/lang/Object" ∈ lw_tbl := tm_10 (List.mem_of_getElem? (i := 50) (by decide +kernel))
theorem o_2333 : Jvm.Cond.castable "Foldback" "java/lang/Object" ∈ lw_tbl := tm_10 (List.mem_of_getElem? (i := 51) (by decide +kernel))
theorem o_2334 : Jvm.Cond.castable "Foldback$Desk" "java/lang/Object" ∈ lw_tbl := tm_10 (List.mem_of_getElem? (i := 52) (by decide +kernel))
theorem o_2335 : Jvm.Cond.castable "Foldback$State" "java/lang/Object" ∈ lw_tbl := tm_10 (List.mem_of_getElem? (i := 53) (by decide +kernel))
theorem o_2336 : Jvm.Cond.castable "Foldback$Steps" "java/lang/Object" ∈ lw_tbl := tm_10 (List.mem_of_getElem? (i := 54) (by decide +kernel))
theorem o_2337 : Jvm.Cond.castable "Foldback$Tree" "java/lang/Object" ∈ lw_tbl := tm_10 (List.mem_of_getElem? (i := 55) (by decide +kernel))
theorem o_2338 : Jvm.Cond.castable "java/util/ArrayList" "java/lang/Object" ∈ lw_tbl := tm_10 (List.mem_of_getElem? (i := 56) (by decide +kernel))
theorem o_2339 : Jvm.Cond.castable "Foldback$Listeners" "java/lang/Object" ∈ lw_tbl := tm_10 (List.mem_of_getElem? (i := 57) (by decide +kernel))
theorem o_2340 : Jvm.Cond.castable "Foldback$Traces" "java/lang/Object" ∈ lw_tbl := tm_10 (List.mem_of_getElem? (i := 58) (by decide +kernel))
theorem o_2341 : Jvm.Cond.castable "Foldback$Trial" "java/lang/Object" ∈ lw_tbl := tm_10 (List.mem_of_getElem? (i := 59) (by decide +kernel))
theorem o_2342 : Jvm.Cond.castable "FoldbackModel" "java/lang/Object" ∈ lw_tbl := tm_10 (List.mem_of_getElem? (i := 60) (by decide +kernel))
theorem o_2343 : Jvm.Cond.castable "java/lang/IllegalArgumentException" "java/lang/Object" ∈ lw_tbl := tm_10 (List.mem_of_getElem? (i := 61) (by decide +kernel))
theorem o_2344 : Jvm.Cond.castable "java/lang/IllegalStateException" "java/lang/Object" ∈ lw_tbl := tm_10 (List.mem_of_getElem? (i := 62) (by decide +kernel))
theorem o_2345 : Jvm.Cond.castable "Foldback$Step" "java/lang/Object" ∈ lw_tbl := tm_10 (List.mem_of_getElem? (i := 63) (by decide +kernel))
theorem o_2346 : Jvm.Cond.castable "java/lang/IndexOutOfBoundsException" "java/lang/Object" ∈ lw_tbl := tm_10 (List.mem_of_getElem? (i := 64) (by decide +kernel))
theorem o_2347 : Jvm.Cond.castable "java/lang/Throwable" "java/lang/Object" ∈ lw_tbl := tm_10 (List.mem_of_getElem? (i := 65) (by decide +kernel))
theorem o_2348 : Jvm.Cond.castable "java/lang/String" "java/lang/Object" ∈ lw_tbl := tm_10 (List.mem_of_getElem? (i := 66) (by decide +kernel))
theorem o_2351 : Jvm.Cond.declares ({ cls := "java/lang/Object", name := "getClass", desc := "()Ljava/lang/Class;" } : Jvm.MethodName) ∈ lw_tbl := tm_10 (List.mem_of_getElem? (i := 69) (by decide +kernel))
theorem o_2352 : Jvm.Cond.castable "[LFoldback$Chars;" "java/lang/Object" ∈ lw_tbl := tm_10 (List.mem_of_getElem? (i := 70) (by decide +kernel))
theorem o_2353 : Jvm.Cond.castable "[I" "java/lang/Object" ∈ lw_tbl := tm_10 (List.mem_of_getElem? (i := 71) (by decide +kernel))
theorem o_2354 : Jvm.Cond.castable "[Z" "java/lang/Object" ∈ lw_tbl := tm_10 (List.mem_of_getElem? (i := 72) (by decide +kernel))
theorem o_2355 : Jvm.Cond.castable "[LFoldback$Node;" "java/lang/Object" ∈ lw_tbl := tm_10 (List.mem_of_getElem? (i := 73) (by decide +kernel))
theorem o_2356 : Jvm.Cond.castable "[Ljava/lang/Object;" "java/lang/Object" ∈ lw_tbl := tm_10 (List.mem_of_getElem? (i := 74) (by decide +kernel))
theorem o_2357 : Jvm.Cond.castable "[LFoldback$Trace;" "java/lang/Object" ∈ lw_tbl := tm_10 (List.mem_of_getElem? (i := 75) (by decide +kernel))
theorem o_2358 : Jvm.Cond.castable "[LFoldback$Macro;" "java/lang/Object" ∈ lw_tbl := tm_10 (List.mem_of_getElem? (i := 76) (by decide +kernel))
theorem o_2359 : Jvm.Cond.castable "[B" "java/lang/Object" ∈ lw_tbl := tm_10 (List.mem_of_getElem? (i := 77) (by decide +kernel))
theorem o_2360 : Jvm.Cond.castable "[J" "java/lang/Object" ∈ lw_tbl := tm_10 (List.mem_of_getElem? (i := 78) (by decide +kernel))
theorem st_pa {s : State} {a : Array Value} {ty : FieldType} (hty : ∀ C, ty ≠ .object C) (h : (Cond.arrayClass ty).before a s = true) : ∃ cA : ClassId, ArrOfT s cA ty ∧ va_RA s cA ty := by
  obtain ⟨c, k, comp, h1, h2, h3⟩ := Cond.arrayClass_spec h
  refine ⟨c, fun n z => ⟨fun k h => (by cases h), k, h2, comp, h3⟩, ?_⟩
  cases ty with
  | object C => exact absurd rfl (hty C)
  | _ => exact h1
theorem st_oa {s : State} {a : Array Value} {C : String} (h : (Cond.arrayOver (.object C)).before a s = true) : ∃ cA : ClassId, ArrOfT s cA (.object C) ∧ va_RA s cA (.object C) := by
  obtain ⟨comp, cA, kA, hcomp, -, hkA, hkind, hname⟩ := Cond.arrayOver_spec h
  exact ⟨cA, fun n z => ⟨fun k h => (by cases h), kA, hkA, comp, hkind⟩, kA, comp, hkA, hkind, hcomp, hname⟩
theorem st_cls {s : State} {a : Array Value} (hG : ∀ w ∈ lwG, w.before a s = true) : ∃ F : Nat → ClassId × (Nat → Nat), ∀ (c : Nat) (q : vw_C), cls_[c]? = some q → u_Kn s q.1 q.2.1 q.2.2 (F c).1 (F c).2 := by
  have K : ∀ c : Nat, ∃ p : ClassId × (Nat → Nat), ∀ q : vw_C, cls_[c]? = some q → u_Kn s q.1 q.2.1 q.2.2 p.1 p.2 := by
    intro c
    match c with
    | 0 =>
      obtain ⟨cC, iS, h⟩ := u_known (C := RX0) (T := TX0) (N := 1) (n := 1) hG inX0 (hG _ w_782)
      exact ⟨(cC, iS), fun q hq => by cases hq; exact h⟩
    | 1 =>
      obtain ⟨cC, iS, h⟩ := u_known (C := RX1) (T := TX1) (N := 6) (n := 6) hG inX1 (hG _ w_161)
      exact ⟨(cC, iS), fun q hq => by cases hq; exact h⟩
    | 2 =>
      obtain ⟨cC, iS, h⟩ := u_known (C := RX2) (T := TX2) (N := 6) (n := 6) hG inX2 (hG _ w_422)
      exact ⟨(cC, iS), fun q hq => by cases hq; exact h⟩
    | 3 =>
      obtain ⟨cC, iS, h⟩ := u_known (C := RX3) (T := TX3) (N := 4) (n := 4) hG inX3 (hG _ w_491)
      exact ⟨(cC, iS), fun q hq => by cases hq; exact h⟩
    | 4 =>
      obtain ⟨cC, iS, h⟩ := u_known (C := RX4) (T := TX4) (N := 8) (n := 8) hG inX4 (hG _ w_286)
      exact ⟨(cC, iS), fun q hq => by cases hq; exact h⟩
    | 5 =>
      obtain ⟨cC, iS, h⟩ := u_known (C := RX5) (T := TX5) (N := 5) (n := 5) hG inX5 (hG _ w_167)
      exact ⟨(cC, iS), fun q hq => by cases hq; exact h⟩
    | 6 =>
      obtain ⟨cC, iS, h⟩ := u_known (C := RX6) (T := TX6) (N := 5) (n := 5) hG inX6 (hG _ w_811)
      exact ⟨(cC, iS), fun q hq => by cases hq; exact h⟩
    | 7 =>
      obtain ⟨cC, iS, h⟩ := u_known (C := RX7) (T := TX7) (N := 4) (n := 4) hG inX7 (hG _ w_204)
      exact ⟨(cC, iS), fun q hq => by cases hq; exact h⟩
    | 8 =>
      obtain ⟨cC, iS, h⟩ := u_known (C := RX8) (T := TX8) (N := 5) (n := 5) hG inX8 (hG _ w_456)
      exact ⟨(cC, iS), fun q hq => by cases hq; exact h⟩
    | 9 =>
      obtain ⟨cC, iS, h⟩ := u_known (C := RX9) (T := TX9) (N := 2) (n := 2) hG inX9 (hG _ w_449)
      exact ⟨(cC, iS), fun q hq => by cases hq; exact h⟩
    | 10 =>
      obtain ⟨cC, iS, h⟩ := u_known (C := RX10) (T := TX10) (N := 5) (n := 5) hG inX10 (hG _ w_253)
      exact ⟨(cC, iS), fun q hq => by cases hq; exact h⟩
    | 11 =>
      obtain ⟨cC, iS, h⟩ := u_known (C := RX11) (T := TX11) (N := 6) (n := 6) hG inX11 (hG _ w_514)
      exact ⟨(cC, iS), fun q hq => by cases hq; exact h⟩
    | 12 =>
      obtain ⟨cC, iS, h⟩ := u_known (C := RX12) (T := TX12) (N := 16) (n := 16) hG inX12 (hG _ w_153)
      exact ⟨(cC, iS), fun q hq => by cases hq; exact h⟩
    | 13 =>
      obtain ⟨cC, iS, h⟩ := u_known (C := RX13) (T := TX13) (N := 67) (n := 67) hG inX13 (hG _ w_1590)
      exact ⟨(cC, iS), fun q hq => by cases hq; exact h⟩
    | 14 =>
      obtain ⟨cC, iS, h⟩ := u_known (C := RJx4a65c) (T := TJx4a65c) (N := 3) (n := 3) hG inJx4a65c (hG _ w_259)
      exact ⟨(cC, iS), fun q hq => by cases hq; exact h⟩
    | k + 15 =>
      have h15 : cls_.length = 15 := rfl
      exact ⟨(0, fun _ => 0), fun q hq => by have := (List.getElem?_eq_some_iff.mp hq).1; omega⟩
  exact Classical.axiomOfChoice K
/-- the launch's facts, for numbers of the classes and arrays -/
theorem st_ev {s : State} {b : Nat} (l : Launch) (hflags : l.flags = flags0) (hts : ∀ w ∈ lw_tbl, w.before #[Value.ref b] s = true) (hgv : (Jvm.Cond.and given_1 narrow_1).before #[Value.ref b] s = true) (hbl : b < s.heap.size) : ∃ g : GC, EV (l, g, s.heap.size) s s.heap := by
  have hs := flat_of_before _ hgv
  have hG : ∀ w ∈ lwG, w.before #[Value.ref b] s = true := fun w hw => hts w (List.mem_filter.mp hw).1
  obtain ⟨F, hF⟩ := st_cls hG
  obtain ⟨a0, h0⟩ := st_pa (ty := .int) (fun C h => by cases h) (hts _ o_201)
  obtain ⟨a1, h1⟩ := st_pa (ty := .boolean) (fun C h => by cases h) (hts _ o_202)
  obtain ⟨a2, h2⟩ := st_pa (ty := .long) (fun C h => by cases h) (hts _ o_2327)
  obtain ⟨a3, h3⟩ := st_oa (C := "Foldback$Chars") (hts _ o_173)
  obtain ⟨a4, h4⟩ := st_oa (C := "Foldback$Macro") (hts _ o_490)
  obtain ⟨a5, h5⟩ := st_oa (C := "Foldback$Node") (hts _ o_285)
  obtain ⟨a6, h6⟩ := st_oa (C := "Foldback$Trace") (hts _ o_455)
  obtain ⟨a7, h7⟩ := st_oa (C := "java/lang/Object") (hts _ o_390)
  have hA : ∀ a : Nat, a < s.heap.size → ¬ aB s.heap.size a := fun a ha h => by unfold aB at h; omega
  have hlen : (Term.length (.static "java/util/ArrayList" "DEFAULTCAPACITY_EMPTY_ELEMENTDATA" "[Ljava/lang/Object;")).eval #[Value.ref b] s none [] s = some (.int (Int32.ofNat 0)) := va_eqt (hs (Cond.eq (.length (.static "java/util/ArrayList" "DEFAULTCAPACITY_EMPTY_ELEMENTDATA" "[Ljava/lang/Object;")) (.int 0)) (by decide +kernel))
  obtain ⟨e, he, hT⟩ := va_Tof (N := 0) (f := fun _ => .null) (A := aB s.heap.size) (by decide) (hs (Cond.arrayOf (.static "java/util/ArrayList" "DEFAULTCAPACITY_EMPTY_ELEMENTDATA" "[Ljava/lang/Object;") (.object "java/lang/Object")) (by decide +kernel)) hlen (fun j hj => absurd hj (by omega)) hA
  have hZ := va_Zof (A := aB s.heap.size) (hts _ o_271) (hts _ o_131) he hA
  obtain ⟨mi, hMi⟩ := va_Mi.of (hs (Cond.isRef (.mirror "[Ljava/lang/Object;")) (by decide +kernel))
  have hU := vx_Zqof (A := aB s.heap.size) (hts _ o_688) (hts _ o_142) (hs (Cond.isRef (.static "java/lang/Throwable" "UNASSIGNED_STACK" "[Ljava/lang/StackTraceElement;")) (by decide +kernel)) hA
  have hS := vx_Zqof (A := aB s.heap.size) (hts _ o_690) (hts _ o_142) (hs (Cond.isRef (.static "java/lang/Throwable" "SUPPRESSED_SENTINEL" "Ljava/util/List;")) (by decide +kernel)) hA
  have hcl : s.vm.findClass "Foldback" = some (F 12).1 := (hF 12 _ rfl).2.1
  have st : ∀ (k : Nat) (tx : String), (Cond.stringRef "Foldback" k tx).before #[Value.ref b] s = true → ∃ a, vk_R "Foldback" k tx a s := fun k tx h => by
    obtain ⟨_, _, _, a, -, -, -, -, -, hev⟩ := Cond.stringRef_spec hcl h
    exact ⟨a, vk_R.of h hev⟩
  refine ⟨((fun c => (F c).1, fun c => (F c).2), fun k => match k with | 0 => a0 | 1 => a1 | 2 => a2 | 3 => a3 | 4 => a4 | 5 => a5 | 6 => a6 | 7 => a7 | 8 => mi | _ => e), ?_, ⟨hF, ?_⟩, hU, hS, ?_, ?_, ?_, ?_, ?_, ?_, ?_, Nat.le_refl _, by show 1 ≤ s.heap.size; omega, e, hZ, hT, hMi, rfl⟩
  · show l.stackTraces = false
    unfold Launch.stackTraces
    rw [hflags]
    decide +kernel
  · intro k q hk
    match k, hk with
    | 0, hk => cases hk; exact h0
    | 1, hk => cases hk; exact h1
    | 2, hk => cases hk; exact h2
    | 3, hk => cases hk; exact h3
    | 4, hk => cases hk; exact h4
    | 5, hk => cases hk; exact h5
    | 6, hk => cases hk; exact h6
    | 7, hk => cases hk; exact h7
    | k + 8, hk => exact absurd (List.getElem?_eq_some_iff.mp hk).1 (by show ¬ (k + 8 < 8); omega)
  · exact List.forall_mem_cons.mpr ⟨st _ _ (hts _ o_702), List.forall_mem_cons.mpr ⟨st _ _ (hts _ o_742), List.forall_mem_cons.mpr ⟨st _ _ (hts _ o_963), List.forall_mem_cons.mpr ⟨st _ _ (hts _ o_990), List.forall_mem_cons.mpr ⟨st _ _ (hts _ o_1108), List.forall_mem_cons.mpr ⟨st _ _ (hts _ o_1164), List.forall_mem_cons.mpr ⟨st _ _ (hts _ o_1259), List.forall_mem_cons.mpr ⟨st _ _ (hts _ o_1267), List.forall_mem_cons.mpr ⟨st _ _ (hts _ o_1280), List.forall_mem_cons.mpr ⟨st _ _ (hts _ o_1288), List.forall_mem_cons.mpr ⟨st _ _ (hts _ o_1303), List.forall_mem_cons.mpr ⟨st _ _ (hts _ o_1319), List.forall_mem_cons.mpr ⟨st _ _ (hts _ o_1344), List.forall_mem_cons.mpr ⟨st _ _ (hts _ o_1400), List.forall_mem_cons.mpr ⟨st _ _ (hts _ o_1417), List.forall_mem_cons.mpr ⟨st _ _ (hts _ o_1453), fun _ h => absurd h List.not_mem_nil⟩⟩⟩⟩⟩⟩⟩⟩⟩⟩⟩⟩⟩⟩⟩⟩
  · exact List.forall_mem_cons.mpr ⟨va_Nw.of rfl (hts _ o_162), List.forall_mem_cons.mpr ⟨va_Nw.of rfl (hts _ o_205), List.forall_mem_cons.mpr ⟨va_Nw.of rfl (hts _ o_292), List.forall_mem_cons.mpr ⟨va_Nw.of rfl (hts _ o_457), List.forall_mem_cons.mpr ⟨va_Nw.of rfl (hts _ o_492), List.forall_mem_cons.mpr ⟨va_Nw.of rfl (hts _ o_515), fun _ h => absurd h List.not_mem_nil⟩⟩⟩⟩⟩⟩
  · exact List.forall_mem_cons.mpr ⟨va_Nw.of rfl (hts _ o_335), List.forall_mem_cons.mpr ⟨va_Nw.of rfl (hts _ o_663), List.forall_mem_cons.mpr ⟨va_Nw.of rfl (hts _ o_735), List.forall_mem_cons.mpr ⟨va_Nw.of rfl (hts _ o_1157), List.forall_mem_cons.mpr ⟨va_Nw.of rfl (hts _ o_2329), List.forall_mem_cons.mpr ⟨va_Nw.of rfl (hts _ o_2330), List.forall_mem_cons.mpr ⟨va_Nw.of rfl (hts _ o_2331), List.forall_mem_cons.mpr ⟨va_Nw.of rfl (hts _ o_2332), List.forall_mem_cons.mpr ⟨va_Nw.of rfl (hts _ o_2333), List.forall_mem_cons.mpr ⟨va_Nw.of rfl (hts _ o_2334), List.forall_mem_cons.mpr ⟨va_Nw.of rfl (hts _ o_2335), List.forall_mem_cons.mpr ⟨va_Nw.of rfl (hts _ o_2336), List.forall_mem_cons.mpr ⟨va_Nw.of rfl (hts _ o_2337), List.forall_mem_cons.mpr ⟨va_Nw.of rfl (hts _ o_2338), List.forall_mem_cons.mpr ⟨va_Nw.of rfl (hts _ o_2339), List.forall_mem_cons.mpr ⟨va_Nw.of rfl (hts _ o_2340), List.forall_mem_cons.mpr ⟨va_Nw.of rfl (hts _ o_2341), List.forall_mem_cons.mpr ⟨va_Nw.of rfl (hts _ o_2342), List.forall_mem_cons.mpr ⟨va_Nw.of rfl (hts _ o_2343), List.forall_mem_cons.mpr ⟨va_Nw.of rfl (hts _ o_2344), List.forall_mem_cons.mpr ⟨va_Nw.of rfl (hts _ o_2345), List.forall_mem_cons.mpr ⟨va_Nw.of rfl (hts _ o_2346), List.forall_mem_cons.mpr ⟨va_Nw.of rfl (hts _ o_2347), List.forall_mem_cons.mpr ⟨va_Nw.of rfl (hts _ o_2348), List.forall_mem_cons.mpr ⟨va_Nw.of rfl (hts _ o_2352), List.forall_mem_cons.mpr ⟨va_Nw.of rfl (hts _ o_2353), List.forall_mem_cons.mpr ⟨va_Nw.of rfl (hts _ o_2354), List.forall_mem_cons.mpr ⟨va_Nw.of rfl (hts _ o_2355), List.forall_mem_cons.mpr ⟨va_Nw.of rfl (hts _ o_2356), List.forall_mem_cons.mpr ⟨va_Nw.of rfl (hts _ o_2357), List.forall_mem_cons.mpr ⟨va_Nw.of rfl (hts _ o_2358), List.forall_mem_cons.mpr ⟨va_Nw.of rfl (hts _ o_2359), List.forall_mem_cons.mpr ⟨va_Nw.of rfl (hts _ o_2360), fun _ h => absurd h List.not_mem_nil⟩⟩⟩⟩⟩⟩⟩⟩⟩⟩⟩⟩⟩⟩⟩⟩⟩⟩⟩⟩⟩⟩⟩⟩⟩⟩⟩⟩⟩⟩⟩⟩⟩
  · exact List.forall_mem_cons.mpr ⟨va_Nc.of (hs (Cond.not (Cond.castable "java/lang/IllegalArgumentException" "java/lang/IllegalStateException")) (by decide +kernel)), List.forall_mem_cons.mpr ⟨va_Nc.of (hs (Cond.not (Cond.castable "java/lang/IllegalArgumentException" "java/lang/IndexOutOfBoundsException")) (by decide +kernel)), List.forall_mem_cons.mpr ⟨va_Nc.of (hs (Cond.not (Cond.castable "java/lang/IllegalStateException" "java/lang/IllegalArgumentException")) (by decide +kernel)), List.forall_mem_cons.mpr ⟨va_Nc.of (hs (Cond.not (Cond.castable "java/lang/IllegalStateException" "java/lang/IndexOutOfBoundsException")) (by decide +kernel)), List.forall_mem_cons.mpr ⟨va_Nc.of (hs (Cond.not (Cond.castable "java/lang/IndexOutOfBoundsException" "java/lang/IllegalArgumentException")) (by decide +kernel)), List.forall_mem_cons.mpr ⟨va_Nc.of (hs (Cond.not (Cond.castable "java/lang/IndexOutOfBoundsException" "java/lang/IllegalStateException")) (by decide +kernel)), fun _ h => absurd h List.not_mem_nil⟩⟩⟩⟩⟩⟩
  · exact List.forall_mem_cons.mpr ⟨va_AO.of (hts _ o_173), List.forall_mem_cons.mpr ⟨va_AO.of (hts _ o_285), List.forall_mem_cons.mpr ⟨va_AO.of (hts _ o_390), List.forall_mem_cons.mpr ⟨va_AO.of (hts _ o_455), List.forall_mem_cons.mpr ⟨va_AO.of (hts _ o_490), fun _ h => absurd h List.not_mem_nil⟩⟩⟩⟩⟩
  · exact List.forall_mem_cons.mpr ⟨va_Fw.of (hts _ o_334) (hts _ o_333) (hts _ o_339) (hts _ o_337) (hts _ o_335), List.forall_mem_cons.mpr ⟨va_Fw.of (hts _ o_635) (hts _ o_634) (hts _ o_639) (hts _ o_637) (hts _ o_335), List.forall_mem_cons.mpr ⟨va_Fw.of (hts _ o_1036) (hts _ o_1035) (hts _ o_1040) (hts _ o_1038) (hts _ o_335), List.forall_mem_cons.mpr ⟨va_Fw.of (hts _ o_1068) (hts _ o_1067) (hts _ o_1072) (hts _ o_1070) (hts _ o_335), fun _ h => absurd h List.not_mem_nil⟩⟩⟩⟩
  · exact List.forall_mem_cons.mpr ⟨va_Nw.of rfl (hts _ o_334), List.forall_mem_cons.mpr ⟨va_Nw.of rfl (hts _ o_635), List.forall_mem_cons.mpr ⟨va_Nw.of rfl (hts _ o_664), List.forall_mem_cons.mpr ⟨va_Nw.of rfl (hts _ o_665), List.forall_mem_cons.mpr ⟨va_Nw.of rfl (hts _ o_666), List.forall_mem_cons.mpr ⟨va_Nw.of rfl (hts _ o_667), List.forall_mem_cons.mpr ⟨va_Nw.of rfl (hts _ o_668), List.forall_mem_cons.mpr ⟨va_Nw.of rfl (hts _ o_669), List.forall_mem_cons.mpr ⟨va_Nw.of rfl (hts _ o_1036), List.forall_mem_cons.mpr ⟨va_Nw.of rfl (hts _ o_1068), List.forall_mem_cons.mpr ⟨va_Nw.of rfl (hts _ o_2351), fun _ h => absurd h List.not_mem_nil⟩⟩⟩⟩⟩⟩⟩⟩⟩⟩⟩
