section
-- ===== PART A: goes FIRST, ahead of the names: the tables' words, and 'selects' of the private methods out of them =====
/-- a private method of a class that the tables say can be made, by its rows of tables_1 -/
def lw_okq (q : MethodName × Nat) : Prop := (q.1.cls ≠ "java/lang/invoke/MethodHandle" ∧ q.1.cls ≠ "java/lang/invoke/VarHandle") ∧ Cond.instantiable q.1.cls q.2 ∈ tables_1 ∧ Cond.privateMethod q.1 ∈ tables_1 ∧ Cond.instanceMethod q.1 ∈ tables_1
theorem lw_p0 : lw_okq (⟨"FourCubes$Law", "workOutAll", "()V"⟩, 14) := ⟨⟨by decide +kernel, by decide +kernel⟩, List.mem_of_getElem? (i := 43) (by decide +kernel), List.mem_of_getElem? (i := 49) (by decide +kernel), List.mem_of_getElem? (i := 50) (by decide +kernel)⟩
theorem lw_p1 : lw_okq (⟨"FourCubes$Law", "workedOut", "()I"⟩, 14) := ⟨⟨by decide +kernel, by decide +kernel⟩, List.mem_of_getElem? (i := 43) (by decide +kernel), List.mem_of_getElem? (i := 57) (by decide +kernel), List.mem_of_getElem? (i := 58) (by decide +kernel)⟩
theorem lw_p2 : lw_okq (⟨"FourCubes$Law", "named", "(I)I"⟩, 14) := ⟨⟨by decide +kernel, by decide +kernel⟩, List.mem_of_getElem? (i := 43) (by decide +kernel), List.mem_of_getElem? (i := 64) (by decide +kernel), List.mem_of_getElem? (i := 65) (by decide +kernel)⟩
theorem lw_p3 : lw_okq (⟨"FourCubes", "isFace", "(I)Z"⟩, 9) := ⟨⟨by decide +kernel, by decide +kernel⟩, List.mem_of_getElem? (i := 16) (by decide +kernel), List.mem_of_getElem? (i := 360) (by decide +kernel), List.mem_of_getElem? (i := 361) (by decide +kernel)⟩
theorem lw_p4 : lw_okq (⟨"FourCubes", "isCube", "(I)Z"⟩, 9) := ⟨⟨by decide +kernel, by decide +kernel⟩, List.mem_of_getElem? (i := 16) (by decide +kernel), List.mem_of_getElem? (i := 364) (by decide +kernel), List.mem_of_getElem? (i := 365) (by decide +kernel)⟩
theorem lw_p5 : lw_okq (⟨"FourCubes", "colourAt", "(I)I"⟩, 9) := ⟨⟨by decide +kernel, by decide +kernel⟩, List.mem_of_getElem? (i := 16) (by decide +kernel), List.mem_of_getElem? (i := 368) (by decide +kernel), List.mem_of_getElem? (i := 369) (by decide +kernel)⟩
theorem lw_p6 : lw_okq (⟨"FourCubes$Past", "forgetOldest", "()V"⟩, 5) := ⟨⟨by decide +kernel, by decide +kernel⟩, List.mem_of_getElem? (i := 215) (by decide +kernel), List.mem_of_getElem? (i := 376) (by decide +kernel), List.mem_of_getElem? (i := 377) (by decide +kernel)⟩
theorem lw_p7 : lw_okq (⟨"FourCubes", "setColour", "(II)V"⟩, 9) := ⟨⟨by decide +kernel, by decide +kernel⟩, List.mem_of_getElem? (i := 16) (by decide +kernel), List.mem_of_getElem? (i := 380) (by decide +kernel), List.mem_of_getElem? (i := 381) (by decide +kernel)⟩
theorem lw_p8 : lw_okq (⟨"FourCubes", "areCubes", "(I)Z"⟩, 9) := ⟨⟨by decide +kernel, by decide +kernel⟩, List.mem_of_getElem? (i := 16) (by decide +kernel), List.mem_of_getElem? (i := 407) (by decide +kernel), List.mem_of_getElem? (i := 408) (by decide +kernel)⟩
theorem lw_p9 : lw_okq (⟨"FourCubes$Law", "readText", "()Z"⟩, 14) := ⟨⟨by decide +kernel, by decide +kernel⟩, List.mem_of_getElem? (i := 43) (by decide +kernel), List.mem_of_getElem? (i := 433) (by decide +kernel), List.mem_of_getElem? (i := 434) (by decide +kernel)⟩
theorem lw_p10 : lw_okq (⟨"FourCubes$Law", "readLine", "()Z"⟩, 14) := ⟨⟨by decide +kernel, by decide +kernel⟩, List.mem_of_getElem? (i := 43) (by decide +kernel), List.mem_of_getElem? (i := 437) (by decide +kernel), List.mem_of_getElem? (i := 438) (by decide +kernel)⟩
theorem lw_p11 : lw_okq (⟨"FourCubes$Law", "readLevel", "(II)Z"⟩, 14) := ⟨⟨by decide +kernel, by decide +kernel⟩, List.mem_of_getElem? (i := 43) (by decide +kernel), List.mem_of_getElem? (i := 441) (by decide +kernel), List.mem_of_getElem? (i := 442) (by decide +kernel)⟩
theorem lw_p12 : lw_okq (⟨"FourCubes$Law", "readOperand", "(I)Z"⟩, 14) := ⟨⟨by decide +kernel, by decide +kernel⟩, List.mem_of_getElem? (i := 43) (by decide +kernel), List.mem_of_getElem? (i := 445) (by decide +kernel), List.mem_of_getElem? (i := 446) (by decide +kernel)⟩
theorem lw_p13 : lw_okq (⟨"FourCubes$Law", "peek", "()I"⟩, 14) := ⟨⟨by decide +kernel, by decide +kernel⟩, List.mem_of_getElem? (i := 43) (by decide +kernel), List.mem_of_getElem? (i := 449) (by decide +kernel), List.mem_of_getElem? (i := 450) (by decide +kernel)⟩
theorem lw_p14 : lw_okq (⟨"FourCubes$Law", "readNumber", "()V"⟩, 14) := ⟨⟨by decide +kernel, by decide +kernel⟩, List.mem_of_getElem? (i := 43) (by decide +kernel), List.mem_of_getElem? (i := 456) (by decide +kernel), List.mem_of_getElem? (i := 457) (by decide +kernel)⟩
theorem lw_p15 : lw_okq (⟨"FourCubes$Law", "emit", "(I)V"⟩, 14) := ⟨⟨by decide +kernel, by decide +kernel⟩, List.mem_of_getElem? (i := 43) (by decide +kernel), List.mem_of_getElem? (i := 460) (by decide +kernel), List.mem_of_getElem? (i := 461) (by decide +kernel)⟩
def lw_privs_1 : List (MethodName × Nat) := [(⟨"FourCubes$Law", "workOutAll", "()V"⟩, 14), (⟨"FourCubes$Law", "workedOut", "()I"⟩, 14), (⟨"FourCubes$Law", "named", "(I)I"⟩, 14), (⟨"FourCubes", "isFace", "(I)Z"⟩, 9), (⟨"FourCubes", "isCube", "(I)Z"⟩, 9), (⟨"FourCubes", "colourAt", "(I)I"⟩, 9), (⟨"FourCubes$Past", "forgetOldest", "()V"⟩, 5), (⟨"FourCubes", "setColour", "(II)V"⟩, 9), (⟨"FourCubes", "areCubes", "(I)Z"⟩, 9), (⟨"FourCubes$Law", "readText", "()Z"⟩, 14), (⟨"FourCubes$Law", "readLine", "()Z"⟩, 14), (⟨"FourCubes$Law", "readLevel", "(II)Z"⟩, 14), (⟨"FourCubes$Law", "readOperand", "(I)Z"⟩, 14), (⟨"FourCubes$Law", "peek", "()I"⟩, 14), (⟨"FourCubes$Law", "readNumber", "()V"⟩, 14), (⟨"FourCubes$Law", "emit", "(I)V"⟩, 14)]
theorem lw_r1 : ∀ q ∈ lw_privs_1, lw_okq q := List.forall_mem_cons.mpr ⟨lw_p0, List.forall_mem_cons.mpr ⟨lw_p1, List.forall_mem_cons.mpr ⟨lw_p2, List.forall_mem_cons.mpr ⟨lw_p3, List.forall_mem_cons.mpr ⟨lw_p4, List.forall_mem_cons.mpr ⟨lw_p5, List.forall_mem_cons.mpr ⟨lw_p6, List.forall_mem_cons.mpr ⟨lw_p7, List.forall_mem_cons.mpr ⟨lw_p8, List.forall_mem_cons.mpr ⟨lw_p9, List.forall_mem_cons.mpr ⟨lw_p10, List.forall_mem_cons.mpr ⟨lw_p11, List.forall_mem_cons.mpr ⟨lw_p12, List.forall_mem_cons.mpr ⟨lw_p13, List.forall_mem_cons.mpr ⟨lw_p14, List.forall_mem_cons.mpr ⟨lw_p15, fun _ h => absurd h List.not_mem_nil⟩⟩⟩⟩⟩⟩⟩⟩⟩⟩⟩⟩⟩⟩⟩⟩
theorem lw_p16 : lw_okq (⟨"FourCubes$Law", "readInside", "(I)Z"⟩, 14) := ⟨⟨by decide +kernel, by decide +kernel⟩, List.mem_of_getElem? (i := 43) (by decide +kernel), List.mem_of_getElem? (i := 464) (by decide +kernel), List.mem_of_getElem? (i := 465) (by decide +kernel)⟩
theorem lw_p17 : lw_okq (⟨"FourCubes$Law", "readTurned", "(II)Z"⟩, 14) := ⟨⟨by decide +kernel, by decide +kernel⟩, List.mem_of_getElem? (i := 43) (by decide +kernel), List.mem_of_getElem? (i := 468) (by decide +kernel), List.mem_of_getElem? (i := 469) (by decide +kernel)⟩
theorem lw_p18 : lw_okq (⟨"FourCubes$Tower", "fitPair", "(I)V"⟩, 13) := ⟨⟨by decide +kernel, by decide +kernel⟩, List.mem_of_getElem? (i := 119) (by decide +kernel), List.mem_of_getElem? (i := 526) (by decide +kernel), List.mem_of_getElem? (i := 527) (by decide +kernel)⟩
theorem lw_p19 : lw_okq (⟨"FourCubes$Tower", "findAllowed", "(II)V"⟩, 13) := ⟨⟨by decide +kernel, by decide +kernel⟩, List.mem_of_getElem? (i := 119) (by decide +kernel), List.mem_of_getElem? (i := 536) (by decide +kernel), List.mem_of_getElem? (i := 537) (by decide +kernel)⟩
theorem lw_p20 : lw_okq (⟨"FourCubes$Search", "total", "(I)I"⟩, 4) := ⟨⟨by decide +kernel, by decide +kernel⟩, List.mem_of_getElem? (i := 121) (by decide +kernel), List.mem_of_getElem? (i := 548) (by decide +kernel), List.mem_of_getElem? (i := 549) (by decide +kernel)⟩
theorem lw_p21 : lw_okq (⟨"FourCubes$Search", "find", "(I)Z"⟩, 4) := ⟨⟨by decide +kernel, by decide +kernel⟩, List.mem_of_getElem? (i := 121) (by decide +kernel), List.mem_of_getElem? (i := 558) (by decide +kernel), List.mem_of_getElem? (i := 559) (by decide +kernel)⟩
theorem lw_p22 : lw_okq (⟨"FourCubes$Tower", "weigh", "(I)I"⟩, 13) := ⟨⟨by decide +kernel, by decide +kernel⟩, List.mem_of_getElem? (i := 119) (by decide +kernel), List.mem_of_getElem? (i := 573) (by decide +kernel), List.mem_of_getElem? (i := 574) (by decide +kernel)⟩
theorem lw_p23 : lw_okq (⟨"FourCubes$Tower", "descend", "(II)V"⟩, 13) := ⟨⟨by decide +kernel, by decide +kernel⟩, List.mem_of_getElem? (i := 119) (by decide +kernel), List.mem_of_getElem? (i := 578) (by decide +kernel), List.mem_of_getElem? (i := 579) (by decide +kernel)⟩
theorem lw_p24 : lw_okq (⟨"FourCubes$Tower", "costOf", "(II)I"⟩, 13) := ⟨⟨by decide +kernel, by decide +kernel⟩, List.mem_of_getElem? (i := 119) (by decide +kernel), List.mem_of_getElem? (i := 582) (by decide +kernel), List.mem_of_getElem? (i := 583) (by decide +kernel)⟩
theorem lw_p25 : lw_okq (⟨"FourCubes", "goesExchanged", "(II)Z"⟩, 9) := ⟨⟨by decide +kernel, by decide +kernel⟩, List.mem_of_getElem? (i := 16) (by decide +kernel), List.mem_of_getElem? (i := 635) (by decide +kernel), List.mem_of_getElem? (i := 636) (by decide +kernel)⟩
theorem lw_p26 : lw_okq (⟨"FourCubes$Rings", "isRing", "([LFourCubes$Cube;I)Z"⟩, 4) := ⟨⟨by decide +kernel, by decide +kernel⟩, List.mem_of_getElem? (i := 195) (by decide +kernel), List.mem_of_getElem? (i := 651) (by decide +kernel), List.mem_of_getElem? (i := 652) (by decide +kernel)⟩
theorem lw_p27 : lw_okq (⟨"FourCubes$Rings", "shareNone", "(I)Z"⟩, 4) := ⟨⟨by decide +kernel, by decide +kernel⟩, List.mem_of_getElem? (i := 195) (by decide +kernel), List.mem_of_getElem? (i := 661) (by decide +kernel), List.mem_of_getElem? (i := 662) (by decide +kernel)⟩
theorem lw_p28 : lw_okq (⟨"FourCubes$Cube", "isLike", "(LFourCubes$Cube;IZ)Z"⟩, 2) := ⟨⟨by decide +kernel, by decide +kernel⟩, List.mem_of_getElem? (i := 25) (by decide +kernel), List.mem_of_getElem? (i := 674) (by decide +kernel), List.mem_of_getElem? (i := 675) (by decide +kernel)⟩
theorem lw_p29 : lw_okq (⟨"FourCubes$Cube", "mayShow", "(III)Z"⟩, 2) := ⟨⟨by decide +kernel, by decide +kernel⟩, List.mem_of_getElem? (i := 25) (by decide +kernel), List.mem_of_getElem? (i := 697) (by decide +kernel), List.mem_of_getElem? (i := 698) (by decide +kernel)⟩
theorem lw_p30 : lw_okq (⟨"FourCubes$Cube", "mayBe", "(II)Z"⟩, 2) := ⟨⟨by decide +kernel, by decide +kernel⟩, List.mem_of_getElem? (i := 25) (by decide +kernel), List.mem_of_getElem? (i := 701) (by decide +kernel), List.mem_of_getElem? (i := 702) (by decide +kernel)⟩
theorem lw_p31 : lw_okq (⟨"FourCubes$Tower", "touch", "(III)V"⟩, 13) := ⟨⟨by decide +kernel, by decide +kernel⟩, List.mem_of_getElem? (i := 119) (by decide +kernel), List.mem_of_getElem? (i := 713) (by decide +kernel), List.mem_of_getElem? (i := 714) (by decide +kernel)⟩
def lw_privs_2 : List (MethodName × Nat) := [(⟨"FourCubes$Law", "readInside", "(I)Z"⟩, 14), (⟨"FourCubes$Law", "readTurned", "(II)Z"⟩, 14), (⟨"FourCubes$Tower", "fitPair", "(I)V"⟩, 13), (⟨"FourCubes$Tower", "findAllowed", "(II)V"⟩, 13), (⟨"FourCubes$Search", "total", "(I)I"⟩, 4), (⟨"FourCubes$Search", "find", "(I)Z"⟩, 4), (⟨"FourCubes$Tower", "weigh", "(I)I"⟩, 13), (⟨"FourCubes$Tower", "descend", "(II)V"⟩, 13), (⟨"FourCubes$Tower", "costOf", "(II)I"⟩, 13), (⟨"FourCubes", "goesExchanged", "(II)Z"⟩, 9), (⟨"FourCubes$Rings", "isRing", "([LFourCubes$Cube;I)Z"⟩, 4), (⟨"FourCubes$Rings", "shareNone", "(I)Z"⟩, 4), (⟨"FourCubes$Cube", "isLike", "(LFourCubes$Cube;IZ)Z"⟩, 2), (⟨"FourCubes$Cube", "mayShow", "(III)Z"⟩, 2), (⟨"FourCubes$Cube", "mayBe", "(II)Z"⟩, 2), (⟨"FourCubes$Tower", "touch", "(III)V"⟩, 13)]
theorem lw_r2 : ∀ q ∈ lw_privs_2, lw_okq q := List.forall_mem_cons.mpr ⟨lw_p16, List.forall_mem_cons.mpr ⟨lw_p17, List.forall_mem_cons.mpr ⟨lw_p18, List.forall_mem_cons.mpr ⟨lw_p19, List.forall_mem_cons.mpr ⟨lw_p20, List.forall_mem_cons.mpr ⟨lw_p21, List.forall_mem_cons.mpr ⟨lw_p22, List.forall_mem_cons.mpr ⟨lw_p23, List.forall_mem_cons.mpr ⟨lw_p24, List.forall_mem_cons.mpr ⟨lw_p25, List.forall_mem_cons.mpr ⟨lw_p26, List.forall_mem_cons.mpr ⟨lw_p27, List.forall_mem_cons.mpr ⟨lw_p28, List.forall_mem_cons.mpr ⟨lw_p29, List.forall_mem_cons.mpr ⟨lw_p30, List.forall_mem_cons.mpr ⟨lw_p31, fun _ h => absurd h List.not_mem_nil⟩⟩⟩⟩⟩⟩⟩⟩⟩⟩⟩⟩⟩⟩⟩⟩
theorem lw_p32 : lw_okq (⟨"FourCubes$Bodies", "runFrom", "(IIII)I"⟩, 5) := ⟨⟨by decide +kernel, by decide +kernel⟩, List.mem_of_getElem? (i := 242) (by decide +kernel), List.mem_of_getElem? (i := 756) (by decide +kernel), List.mem_of_getElem? (i := 757) (by decide +kernel)⟩
theorem lw_p33 : lw_okq (⟨"FourCubes$Bodies", "run", "(IIII)I"⟩, 5) := ⟨⟨by decide +kernel, by decide +kernel⟩, List.mem_of_getElem? (i := 242) (by decide +kernel), List.mem_of_getElem? (i := 762) (by decide +kernel), List.mem_of_getElem? (i := 763) (by decide +kernel)⟩
theorem lw_p34 : lw_okq (⟨"FourCubes", "refusalOf", "(II)I"⟩, 9) := ⟨⟨by decide +kernel, by decide +kernel⟩, List.mem_of_getElem? (i := 16) (by decide +kernel), List.mem_of_getElem? (i := 804) (by decide +kernel), List.mem_of_getElem? (i := 805) (by decide +kernel)⟩
theorem lw_p35 : lw_okq (⟨"FourCubesModel", "lays", "(III)V"⟩, 45) := ⟨⟨by decide +kernel, by decide +kernel⟩, List.mem_of_getElem? (i := 840) (by decide +kernel), List.mem_of_getElem? (i := 1004) (by decide +kernel), List.mem_of_getElem? (i := 1005) (by decide +kernel)⟩
theorem lw_p36 : lw_okq (⟨"FourCubesModel", "isFace", "(I)Z"⟩, 45) := ⟨⟨by decide +kernel, by decide +kernel⟩, List.mem_of_getElem? (i := 840) (by decide +kernel), List.mem_of_getElem? (i := 1016) (by decide +kernel), List.mem_of_getElem? (i := 1017) (by decide +kernel)⟩
theorem lw_p37 : lw_okq (⟨"FourCubesModel", "isCube", "(I)Z"⟩, 45) := ⟨⟨by decide +kernel, by decide +kernel⟩, List.mem_of_getElem? (i := 840) (by decide +kernel), List.mem_of_getElem? (i := 1020) (by decide +kernel), List.mem_of_getElem? (i := 1021) (by decide +kernel)⟩
theorem lw_p38 : lw_okq (⟨"FourCubesModel", "changes", "(III)I"⟩, 45) := ⟨⟨by decide +kernel, by decide +kernel⟩, List.mem_of_getElem? (i := 840) (by decide +kernel), List.mem_of_getElem? (i := 1024) (by decide +kernel), List.mem_of_getElem? (i := 1025) (by decide +kernel)⟩
theorem lw_p39 : lw_okq (⟨"FourCubesModel", "valueAt", "(II)I"⟩, 45) := ⟨⟨by decide +kernel, by decide +kernel⟩, List.mem_of_getElem? (i := 840) (by decide +kernel), List.mem_of_getElem? (i := 1028) (by decide +kernel), List.mem_of_getElem? (i := 1029) (by decide +kernel)⟩
theorem lw_p40 : lw_okq (⟨"FourCubesModel", "lineOf", "(II)I"⟩, 45) := ⟨⟨by decide +kernel, by decide +kernel⟩, List.mem_of_getElem? (i := 840) (by decide +kernel), List.mem_of_getElem? (i := 1036) (by decide +kernel), List.mem_of_getElem? (i := 1037) (by decide +kernel)⟩
theorem lw_p41 : lw_okq (⟨"FourCubesModel", "readText", "(I)I"⟩, 45) := ⟨⟨by decide +kernel, by decide +kernel⟩, List.mem_of_getElem? (i := 840) (by decide +kernel), List.mem_of_getElem? (i := 1055) (by decide +kernel), List.mem_of_getElem? (i := 1056) (by decide +kernel)⟩
theorem lw_p42 : lw_okq (⟨"FourCubesModel", "line", "()V"⟩, 45) := ⟨⟨by decide +kernel, by decide +kernel⟩, List.mem_of_getElem? (i := 840) (by decide +kernel), List.mem_of_getElem? (i := 1059) (by decide +kernel), List.mem_of_getElem? (i := 1060) (by decide +kernel)⟩
theorem lw_p43 : lw_okq (⟨"FourCubesModel", "either", "()V"⟩, 45) := ⟨⟨by decide +kernel, by decide +kernel⟩, List.mem_of_getElem? (i := 840) (by decide +kernel), List.mem_of_getElem? (i := 1063) (by decide +kernel), List.mem_of_getElem? (i := 1064) (by decide +kernel)⟩
theorem lw_p44 : lw_okq (⟨"FourCubesModel", "both", "()V"⟩, 45) := ⟨⟨by decide +kernel, by decide +kernel⟩, List.mem_of_getElem? (i := 840) (by decide +kernel), List.mem_of_getElem? (i := 1067) (by decide +kernel), List.mem_of_getElem? (i := 1068) (by decide +kernel)⟩
theorem lw_p45 : lw_okq (⟨"FourCubesModel", "compared", "()V"⟩, 45) := ⟨⟨by decide +kernel, by decide +kernel⟩, List.mem_of_getElem? (i := 840) (by decide +kernel), List.mem_of_getElem? (i := 1071) (by decide +kernel), List.mem_of_getElem? (i := 1072) (by decide +kernel)⟩
theorem lw_p46 : lw_okq (⟨"FourCubesModel", "sum", "()V"⟩, 45) := ⟨⟨by decide +kernel, by decide +kernel⟩, List.mem_of_getElem? (i := 840) (by decide +kernel), List.mem_of_getElem? (i := 1075) (by decide +kernel), List.mem_of_getElem? (i := 1076) (by decide +kernel)⟩
theorem lw_p47 : lw_okq (⟨"FourCubesModel", "product", "()V"⟩, 45) := ⟨⟨by decide +kernel, by decide +kernel⟩, List.mem_of_getElem? (i := 840) (by decide +kernel), List.mem_of_getElem? (i := 1079) (by decide +kernel), List.mem_of_getElem? (i := 1080) (by decide +kernel)⟩
def lw_privs_3 : List (MethodName × Nat) := [(⟨"FourCubes$Bodies", "runFrom", "(IIII)I"⟩, 5), (⟨"FourCubes$Bodies", "run", "(IIII)I"⟩, 5), (⟨"FourCubes", "refusalOf", "(II)I"⟩, 9), (⟨"FourCubesModel", "lays", "(III)V"⟩, 45), (⟨"FourCubesModel", "isFace", "(I)Z"⟩, 45), (⟨"FourCubesModel", "isCube", "(I)Z"⟩, 45), (⟨"FourCubesModel", "changes", "(III)I"⟩, 45), (⟨"FourCubesModel", "valueAt", "(II)I"⟩, 45), (⟨"FourCubesModel", "lineOf", "(II)I"⟩, 45), (⟨"FourCubesModel", "readText", "(I)I"⟩, 45), (⟨"FourCubesModel", "line", "()V"⟩, 45), (⟨"FourCubesModel", "either", "()V"⟩, 45), (⟨"FourCubesModel", "both", "()V"⟩, 45), (⟨"FourCubesModel", "compared", "()V"⟩, 45), (⟨"FourCubesModel", "sum", "()V"⟩, 45), (⟨"FourCubesModel", "product", "()V"⟩, 45)]
theorem lw_r3 : ∀ q ∈ lw_privs_3, lw_okq q := List.forall_mem_cons.mpr ⟨lw_p32, List.forall_mem_cons.mpr ⟨lw_p33, List.forall_mem_cons.mpr ⟨lw_p34, List.forall_mem_cons.mpr ⟨lw_p35, List.forall_mem_cons.mpr ⟨lw_p36, List.forall_mem_cons.mpr ⟨lw_p37, List.forall_mem_cons.mpr ⟨lw_p38, List.forall_mem_cons.mpr ⟨lw_p39, List.forall_mem_cons.mpr ⟨lw_p40, List.forall_mem_cons.mpr ⟨lw_p41, List.forall_mem_cons.mpr ⟨lw_p42, List.forall_mem_cons.mpr ⟨lw_p43, List.forall_mem_cons.mpr ⟨lw_p44, List.forall_mem_cons.mpr ⟨lw_p45, List.forall_mem_cons.mpr ⟨lw_p46, List.forall_mem_cons.mpr ⟨lw_p47, fun _ h => absurd h List.not_mem_nil⟩⟩⟩⟩⟩⟩⟩⟩⟩⟩⟩⟩⟩⟩⟩⟩
theorem lw_p48 : lw_okq (⟨"FourCubesModel", "operand", "()V"⟩, 45) := ⟨⟨by decide +kernel, by decide +kernel⟩, List.mem_of_getElem? (i := 840) (by decide +kernel), List.mem_of_getElem? (i := 1083) (by decide +kernel), List.mem_of_getElem? (i := 1084) (by decide +kernel)⟩
theorem lw_p49 : lw_okq (⟨"FourCubesModel", "look", "()I"⟩, 45) := ⟨⟨by decide +kernel, by decide +kernel⟩, List.mem_of_getElem? (i := 840) (by decide +kernel), List.mem_of_getElem? (i := 1087) (by decide +kernel), List.mem_of_getElem? (i := 1088) (by decide +kernel)⟩
theorem lw_p50 : lw_okq (⟨"FourCubesModel", "addStep", "(II)V"⟩, 45) := ⟨⟨by decide +kernel, by decide +kernel⟩, List.mem_of_getElem? (i := 840) (by decide +kernel), List.mem_of_getElem? (i := 1094) (by decide +kernel), List.mem_of_getElem? (i := 1095) (by decide +kernel)⟩
theorem lw_p51 : lw_okq (⟨"FourCubesModel", "opens", "()Z"⟩, 45) := ⟨⟨by decide +kernel, by decide +kernel⟩, List.mem_of_getElem? (i := 840) (by decide +kernel), List.mem_of_getElem? (i := 1098) (by decide +kernel), List.mem_of_getElem? (i := 1099) (by decide +kernel)⟩
theorem lw_p52 : lw_okq (⟨"FourCubesModel", "faulty", "()V"⟩, 45) := ⟨⟨by decide +kernel, by decide +kernel⟩, List.mem_of_getElem? (i := 840) (by decide +kernel), List.mem_of_getElem? (i := 1102) (by decide +kernel), List.mem_of_getElem? (i := 1103) (by decide +kernel)⟩
theorem lw_p53 : lw_okq (⟨"FourCubesModel", "figure", "()V"⟩, 45) := ⟨⟨by decide +kernel, by decide +kernel⟩, List.mem_of_getElem? (i := 840) (by decide +kernel), List.mem_of_getElem? (i := 1106) (by decide +kernel), List.mem_of_getElem? (i := 1107) (by decide +kernel)⟩
theorem lw_p54 : lw_okq (⟨"FourCubesModel", "showsOf", "(III)I"⟩, 45) := ⟨⟨by decide +kernel, by decide +kernel⟩, List.mem_of_getElem? (i := 840) (by decide +kernel), List.mem_of_getElem? (i := 1118) (by decide +kernel), List.mem_of_getElem? (i := 1119) (by decide +kernel)⟩
theorem lw_p55 : lw_okq (⟨"FourCubesModel", "findMay", "()V"⟩, 45) := ⟨⟨by decide +kernel, by decide +kernel⟩, List.mem_of_getElem? (i := 840) (by decide +kernel), List.mem_of_getElem? (i := 1129) (by decide +kernel), List.mem_of_getElem? (i := 1130) (by decide +kernel)⟩
theorem lw_p56 : lw_okq (⟨"FourCubesModel", "asks", "(IIIII)Z"⟩, 45) := ⟨⟨by decide +kernel, by decide +kernel⟩, List.mem_of_getElem? (i := 840) (by decide +kernel), List.mem_of_getElem? (i := 1136) (by decide +kernel), List.mem_of_getElem? (i := 1137) (by decide +kernel)⟩
theorem lw_p57 : lw_okq (⟨"FourCubesModel", "gives", "(I)I"⟩, 45) := ⟨⟨by decide +kernel, by decide +kernel⟩, List.mem_of_getElem? (i := 840) (by decide +kernel), List.mem_of_getElem? (i := 1140) (by decide +kernel), List.mem_of_getElem? (i := 1141) (by decide +kernel)⟩
theorem lw_p58 : lw_okq (⟨"FourCubesModel", "worked", "(III)I"⟩, 45) := ⟨⟨by decide +kernel, by decide +kernel⟩, List.mem_of_getElem? (i := 840) (by decide +kernel), List.mem_of_getElem? (i := 1144) (by decide +kernel), List.mem_of_getElem? (i := 1145) (by decide +kernel)⟩
theorem lw_p59 : lw_okq (⟨"FourCubesModel", "findTower", "(I)V"⟩, 45) := ⟨⟨by decide +kernel, by decide +kernel⟩, List.mem_of_getElem? (i := 840) (by decide +kernel), List.mem_of_getElem? (i := 1151) (by decide +kernel), List.mem_of_getElem? (i := 1152) (by decide +kernel)⟩
theorem lw_p60 : lw_okq (⟨"FourCubesModel", "mayBe", "(IIIII)Z"⟩, 45) := ⟨⟨by decide +kernel, by decide +kernel⟩, List.mem_of_getElem? (i := 840) (by decide +kernel), List.mem_of_getElem? (i := 1155) (by decide +kernel), List.mem_of_getElem? (i := 1156) (by decide +kernel)⟩
theorem lw_p61 : lw_okq (⟨"FourCubesModel", "isSet", "(I)Z"⟩, 45) := ⟨⟨by decide +kernel, by decide +kernel⟩, List.mem_of_getElem? (i := 840) (by decide +kernel), List.mem_of_getElem? (i := 1163) (by decide +kernel), List.mem_of_getElem? (i := 1164) (by decide +kernel)⟩
theorem lw_p62 : lw_okq (⟨"FourCubesModel", "findWays", "(IIZ)V"⟩, 45) := ⟨⟨by decide +kernel, by decide +kernel⟩, List.mem_of_getElem? (i := 840) (by decide +kernel), List.mem_of_getElem? (i := 1167) (by decide +kernel), List.mem_of_getElem? (i := 1168) (by decide +kernel)⟩
theorem lw_p63 : lw_okq (⟨"FourCubesModel", "goOn", "(I)V"⟩, 45) := ⟨⟨by decide +kernel, by decide +kernel⟩, List.mem_of_getElem? (i := 840) (by decide +kernel), List.mem_of_getElem? (i := 1171) (by decide +kernel), List.mem_of_getElem? (i := 1172) (by decide +kernel)⟩
def lw_privs_4 : List (MethodName × Nat) := [(⟨"FourCubesModel", "operand", "()V"⟩, 45), (⟨"FourCubesModel", "look", "()I"⟩, 45), (⟨"FourCubesModel", "addStep", "(II)V"⟩, 45), (⟨"FourCubesModel", "opens", "()Z"⟩, 45), (⟨"FourCubesModel", "faulty", "()V"⟩, 45), (⟨"FourCubesModel", "figure", "()V"⟩, 45), (⟨"FourCubesModel", "showsOf", "(III)I"⟩, 45), (⟨"FourCubesModel", "findMay", "()V"⟩, 45), (⟨"FourCubesModel", "asks", "(IIIII)Z"⟩, 45), (⟨"FourCubesModel", "gives", "(I)I"⟩, 45), (⟨"FourCubesModel", "worked", "(III)I"⟩, 45), (⟨"FourCubesModel", "findTower", "(I)V"⟩, 45), (⟨"FourCubesModel", "mayBe", "(IIIII)Z"⟩, 45), (⟨"FourCubesModel", "isSet", "(I)Z"⟩, 45), (⟨"FourCubesModel", "findWays", "(IIZ)V"⟩, 45), (⟨"FourCubesModel", "goOn", "(I)V"⟩, 45)]
theorem lw_r4 : ∀ q ∈ lw_privs_4, lw_okq q := List.forall_mem_cons.mpr ⟨lw_p48, List.forall_mem_cons.mpr ⟨lw_p49, List.forall_mem_cons.mpr ⟨lw_p50, List.forall_mem_cons.mpr ⟨lw_p51, List.forall_mem_cons.mpr ⟨lw_p52, List.forall_mem_cons.mpr ⟨lw_p53, List.forall_mem_cons.mpr ⟨lw_p54, List.forall_mem_cons.mpr ⟨lw_p55, List.forall_mem_cons.mpr ⟨lw_p56, List.forall_mem_cons.mpr ⟨lw_p57, List.forall_mem_cons.mpr ⟨lw_p58, List.forall_mem_cons.mpr ⟨lw_p59, List.forall_mem_cons.mpr ⟨lw_p60, List.forall_mem_cons.mpr ⟨lw_p61, List.forall_mem_cons.mpr ⟨lw_p62, List.forall_mem_cons.mpr ⟨lw_p63, fun _ h => absurd h List.not_mem_nil⟩⟩⟩⟩⟩⟩⟩⟩⟩⟩⟩⟩⟩⟩⟩⟩
theorem lw_p64 : lw_okq (⟨"FourCubesModel", "isTried", "(II)Z"⟩, 45) := ⟨⟨by decide +kernel, by decide +kernel⟩, List.mem_of_getElem? (i := 840) (by decide +kernel), List.mem_of_getElem? (i := 1175) (by decide +kernel), List.mem_of_getElem? (i := 1176) (by decide +kernel)⟩
theorem lw_p65 : lw_okq (⟨"FourCubesModel", "isHeld", "(I)Z"⟩, 45) := ⟨⟨by decide +kernel, by decide +kernel⟩, List.mem_of_getElem? (i := 840) (by decide +kernel), List.mem_of_getElem? (i := 1179) (by decide +kernel), List.mem_of_getElem? (i := 1180) (by decide +kernel)⟩
theorem lw_p66 : lw_okq (⟨"FourCubesModel", "wrongWith", "(II)I"⟩, 45) := ⟨⟨by decide +kernel, by decide +kernel⟩, List.mem_of_getElem? (i := 840) (by decide +kernel), List.mem_of_getElem? (i := 1183) (by decide +kernel), List.mem_of_getElem? (i := 1184) (by decide +kernel)⟩
theorem lw_p67 : lw_okq (⟨"FourCubesModel", "findNear", "(II)V"⟩, 45) := ⟨⟨by decide +kernel, by decide +kernel⟩, List.mem_of_getElem? (i := 840) (by decide +kernel), List.mem_of_getElem? (i := 1191) (by decide +kernel), List.mem_of_getElem? (i := 1192) (by decide +kernel)⟩
theorem lw_p68 : lw_okq (⟨"FourCubesModel", "hasWay", "(I)Z"⟩, 45) := ⟨⟨by decide +kernel, by decide +kernel⟩, List.mem_of_getElem? (i := 840) (by decide +kernel), List.mem_of_getElem? (i := 1203) (by decide +kernel), List.mem_of_getElem? (i := 1204) (by decide +kernel)⟩
theorem lw_p69 : lw_okq (⟨"FourCubesModel", "isRing", "(I)Z"⟩, 45) := ⟨⟨by decide +kernel, by decide +kernel⟩, List.mem_of_getElem? (i := 840) (by decide +kernel), List.mem_of_getElem? (i := 1219) (by decide +kernel), List.mem_of_getElem? (i := 1220) (by decide +kernel)⟩
theorem lw_p70 : lw_okq (⟨"FourCubesModel", "areParted", "(II)Z"⟩, 45) := ⟨⟨by decide +kernel, by decide +kernel⟩, List.mem_of_getElem? (i := 840) (by decide +kernel), List.mem_of_getElem? (i := 1223) (by decide +kernel), List.mem_of_getElem? (i := 1224) (by decide +kernel)⟩
theorem lw_p71 : lw_okq (⟨"FourCubesModel", "areAlike", "(IIZ)Z"⟩, 45) := ⟨⟨by decide +kernel, by decide +kernel⟩, List.mem_of_getElem? (i := 840) (by decide +kernel), List.mem_of_getElem? (i := 1231) (by decide +kernel), List.mem_of_getElem? (i := 1232) (by decide +kernel)⟩
theorem lw_p72 : lw_okq (⟨"FourCubesModel", "isAs", "(IIIZ)Z"⟩, 45) := ⟨⟨by decide +kernel, by decide +kernel⟩, List.mem_of_getElem? (i := 840) (by decide +kernel), List.mem_of_getElem? (i := 1235) (by decide +kernel), List.mem_of_getElem? (i := 1236) (by decide +kernel)⟩
theorem lw_p73 : lw_okq (⟨"FourCubesModel", "sightOf", "(II)I"⟩, 45) := ⟨⟨by decide +kernel, by decide +kernel⟩, List.mem_of_getElem? (i := 840) (by decide +kernel), List.mem_of_getElem? (i := 1259) (by decide +kernel), List.mem_of_getElem? (i := 1260) (by decide +kernel)⟩
theorem lw_p74 : lw_okq (⟨"FourCubesModel", "doesShow", "(IIII)Z"⟩, 45) := ⟨⟨by decide +kernel, by decide +kernel⟩, List.mem_of_getElem? (i := 840) (by decide +kernel), List.mem_of_getElem? (i := 1263) (by decide +kernel), List.mem_of_getElem? (i := 1264) (by decide +kernel)⟩
theorem lw_p75 : lw_okq (⟨"FourCubesModel", "goWall", "(I)V"⟩, 45) := ⟨⟨by decide +kernel, by decide +kernel⟩, List.mem_of_getElem? (i := 840) (by decide +kernel), List.mem_of_getElem? (i := 1271) (by decide +kernel), List.mem_of_getElem? (i := 1272) (by decide +kernel)⟩
theorem lw_p76 : lw_okq (⟨"FourCubesModel", "fitsWall", "(II)Z"⟩, 45) := ⟨⟨by decide +kernel, by decide +kernel⟩, List.mem_of_getElem? (i := 840) (by decide +kernel), List.mem_of_getElem? (i := 1275) (by decide +kernel), List.mem_of_getElem? (i := 1276) (by decide +kernel)⟩
theorem lw_p77 : lw_okq (⟨"FourCubesModel", "touch", "(IIIII)Z"⟩, 45) := ⟨⟨by decide +kernel, by decide +kernel⟩, List.mem_of_getElem? (i := 840) (by decide +kernel), List.mem_of_getElem? (i := 1279) (by decide +kernel), List.mem_of_getElem? (i := 1280) (by decide +kernel)⟩
theorem lw_p78 : lw_okq (⟨"FourCubesModel", "isGreat", "(II)Z"⟩, 45) := ⟨⟨by decide +kernel, by decide +kernel⟩, List.mem_of_getElem? (i := 840) (by decide +kernel), List.mem_of_getElem? (i := 1287) (by decide +kernel), List.mem_of_getElem? (i := 1288) (by decide +kernel)⟩
theorem lw_p79 : lw_okq (⟨"FourCubesModel", "isOf", "(III)Z"⟩, 45) := ⟨⟨by decide +kernel, by decide +kernel⟩, List.mem_of_getElem? (i := 840) (by decide +kernel), List.mem_of_getElem? (i := 1291) (by decide +kernel), List.mem_of_getElem? (i := 1292) (by decide +kernel)⟩
def lw_privs_5 : List (MethodName × Nat) := [(⟨"FourCubesModel", "isTried", "(II)Z"⟩, 45), (⟨"FourCubesModel", "isHeld", "(I)Z"⟩, 45), (⟨"FourCubesModel", "wrongWith", "(II)I"⟩, 45), (⟨"FourCubesModel", "findNear", "(II)V"⟩, 45), (⟨"FourCubesModel", "hasWay", "(I)Z"⟩, 45), (⟨"FourCubesModel", "isRing", "(I)Z"⟩, 45), (⟨"FourCubesModel", "areParted", "(II)Z"⟩, 45), (⟨"FourCubesModel", "areAlike", "(IIZ)Z"⟩, 45), (⟨"FourCubesModel", "isAs", "(IIIZ)Z"⟩, 45), (⟨"FourCubesModel", "sightOf", "(II)I"⟩, 45), (⟨"FourCubesModel", "doesShow", "(IIII)Z"⟩, 45), (⟨"FourCubesModel", "goWall", "(I)V"⟩, 45), (⟨"FourCubesModel", "fitsWall", "(II)Z"⟩, 45), (⟨"FourCubesModel", "touch", "(IIIII)Z"⟩, 45), (⟨"FourCubesModel", "isGreat", "(II)Z"⟩, 45), (⟨"FourCubesModel", "isOf", "(III)Z"⟩, 45)]
theorem lw_r5 : ∀ q ∈ lw_privs_5, lw_okq q := List.forall_mem_cons.mpr ⟨lw_p64, List.forall_mem_cons.mpr ⟨lw_p65, List.forall_mem_cons.mpr ⟨lw_p66, List.forall_mem_cons.mpr ⟨lw_p67, List.forall_mem_cons.mpr ⟨lw_p68, List.forall_mem_cons.mpr ⟨lw_p69, List.forall_mem_cons.mpr ⟨lw_p70, List.forall_mem_cons.mpr ⟨lw_p71, List.forall_mem_cons.mpr ⟨lw_p72, List.forall_mem_cons.mpr ⟨lw_p73, List.forall_mem_cons.mpr ⟨lw_p74, List.forall_mem_cons.mpr ⟨lw_p75, List.forall_mem_cons.mpr ⟨lw_p76, List.forall_mem_cons.mpr ⟨lw_p77, List.forall_mem_cons.mpr ⟨lw_p78, List.forall_mem_cons.mpr ⟨lw_p79, fun _ h => absurd h List.not_mem_nil⟩⟩⟩⟩⟩⟩⟩⟩⟩⟩⟩⟩⟩⟩⟩⟩
theorem lw_p80 : lw_okq (⟨"FourCubesModel", "isBody", "(I)Z"⟩, 45) := ⟨⟨by decide +kernel, by decide +kernel⟩, List.mem_of_getElem? (i := 840) (by decide +kernel), List.mem_of_getElem? (i := 1307) (by decide +kernel), List.mem_of_getElem? (i := 1308) (by decide +kernel)⟩
theorem lw_p81 : lw_okq (⟨"FourCubesModel", "turningBy", "(II)I"⟩, 45) := ⟨⟨by decide +kernel, by decide +kernel⟩, List.mem_of_getElem? (i := 840) (by decide +kernel), List.mem_of_getElem? (i := 1311) (by decide +kernel), List.mem_of_getElem? (i := 1312) (by decide +kernel)⟩
theorem lw_p82 : lw_okq (⟨"FourCubesModel", "ran", "(I)V"⟩, 45) := ⟨⟨by decide +kernel, by decide +kernel⟩, List.mem_of_getElem? (i := 840) (by decide +kernel), List.mem_of_getElem? (i := 1318) (by decide +kernel), List.mem_of_getElem? (i := 1319) (by decide +kernel)⟩
theorem lw_p83 : lw_okq (⟨"FourCubesModel", "plainTurns", "(II)I"⟩, 45) := ⟨⟨by decide +kernel, by decide +kernel⟩, List.mem_of_getElem? (i := 840) (by decide +kernel), List.mem_of_getElem? (i := 1322) (by decide +kernel), List.mem_of_getElem? (i := 1323) (by decide +kernel)⟩
theorem lw_p84 : lw_okq (⟨"FourCubesModel", "toldTurns", "(II)I"⟩, 45) := ⟨⟨by decide +kernel, by decide +kernel⟩, List.mem_of_getElem? (i := 840) (by decide +kernel), List.mem_of_getElem? (i := 1326) (by decide +kernel), List.mem_of_getElem? (i := 1327) (by decide +kernel)⟩
theorem lw_p85 : lw_okq (⟨"FourCubesModel", "showing", "(II)I"⟩, 45) := ⟨⟨by decide +kernel, by decide +kernel⟩, List.mem_of_getElem? (i := 840) (by decide +kernel), List.mem_of_getElem? (i := 1330) (by decide +kernel), List.mem_of_getElem? (i := 1331) (by decide +kernel)⟩
theorem lw_p86 : lw_okq (⟨"FourCubesModel", "wallShows", "(II)I"⟩, 45) := ⟨⟨by decide +kernel, by decide +kernel⟩, List.mem_of_getElem? (i := 840) (by decide +kernel), List.mem_of_getElem? (i := 1334) (by decide +kernel), List.mem_of_getElem? (i := 1335) (by decide +kernel)⟩
theorem lw_p87 : lw_okq (⟨"FourCubesModel", "plainShows", "(II)I"⟩, 45) := ⟨⟨by decide +kernel, by decide +kernel⟩, List.mem_of_getElem? (i := 840) (by decide +kernel), List.mem_of_getElem? (i := 1338) (by decide +kernel), List.mem_of_getElem? (i := 1339) (by decide +kernel)⟩
theorem lw_p88 : lw_okq (⟨"FourCubesModel", "lying", "(II)I"⟩, 45) := ⟨⟨by decide +kernel, by decide +kernel⟩, List.mem_of_getElem? (i := 840) (by decide +kernel), List.mem_of_getElem? (i := 1342) (by decide +kernel), List.mem_of_getElem? (i := 1343) (by decide +kernel)⟩
theorem lw_p89 : lw_okq (⟨"FourCubesModel", "plainLies", "(II)I"⟩, 45) := ⟨⟨by decide +kernel, by decide +kernel⟩, List.mem_of_getElem? (i := 840) (by decide +kernel), List.mem_of_getElem? (i := 1346) (by decide +kernel), List.mem_of_getElem? (i := 1347) (by decide +kernel)⟩
theorem lw_p90 : lw_okq (⟨"FourCubesModel", "telling", "(II)I"⟩, 45) := ⟨⟨by decide +kernel, by decide +kernel⟩, List.mem_of_getElem? (i := 840) (by decide +kernel), List.mem_of_getElem? (i := 1350) (by decide +kernel), List.mem_of_getElem? (i := 1351) (by decide +kernel)⟩
theorem lw_p91 : lw_okq (⟨"FourCubesModel", "rowTells", "(II)I"⟩, 45) := ⟨⟨by decide +kernel, by decide +kernel⟩, List.mem_of_getElem? (i := 840) (by decide +kernel), List.mem_of_getElem? (i := 1354) (by decide +kernel), List.mem_of_getElem? (i := 1355) (by decide +kernel)⟩
theorem lw_p92 : lw_okq (⟨"FourCubesModel", "plainTells", "(II)I"⟩, 45) := ⟨⟨by decide +kernel, by decide +kernel⟩, List.mem_of_getElem? (i := 840) (by decide +kernel), List.mem_of_getElem? (i := 1358) (by decide +kernel), List.mem_of_getElem? (i := 1359) (by decide +kernel)⟩
theorem lw_p93 : lw_okq (⟨"FourCubesModel", "whyNoPlace", "(II)I"⟩, 45) := ⟨⟨by decide +kernel, by decide +kernel⟩, List.mem_of_getElem? (i := 840) (by decide +kernel), List.mem_of_getElem? (i := 1378) (by decide +kernel), List.mem_of_getElem? (i := 1379) (by decide +kernel)⟩
def lw_privs_6 : List (MethodName × Nat) := [(⟨"FourCubesModel", "isBody", "(I)Z"⟩, 45), (⟨"FourCubesModel", "turningBy", "(II)I"⟩, 45), (⟨"FourCubesModel", "ran", "(I)V"⟩, 45), (⟨"FourCubesModel", "plainTurns", "(II)I"⟩, 45), (⟨"FourCubesModel", "toldTurns", "(II)I"⟩, 45), (⟨"FourCubesModel", "showing", "(II)I"⟩, 45), (⟨"FourCubesModel", "wallShows", "(II)I"⟩, 45), (⟨"FourCubesModel", "plainShows", "(II)I"⟩, 45), (⟨"FourCubesModel", "lying", "(II)I"⟩, 45), (⟨"FourCubesModel", "plainLies", "(II)I"⟩, 45), (⟨"FourCubesModel", "telling", "(II)I"⟩, 45), (⟨"FourCubesModel", "rowTells", "(II)I"⟩, 45), (⟨"FourCubesModel", "plainTells", "(II)I"⟩, 45), (⟨"FourCubesModel", "whyNoPlace", "(II)I"⟩, 45)]
theorem lw_r6 : ∀ q ∈ lw_privs_6, lw_okq q := List.forall_mem_cons.mpr ⟨lw_p80, List.forall_mem_cons.mpr ⟨lw_p81, List.forall_mem_cons.mpr ⟨lw_p82, List.forall_mem_cons.mpr ⟨lw_p83, List.forall_mem_cons.mpr ⟨lw_p84, List.forall_mem_cons.mpr ⟨lw_p85, List.forall_mem_cons.mpr ⟨lw_p86, List.forall_mem_cons.mpr ⟨lw_p87, List.forall_mem_cons.mpr ⟨lw_p88, List.forall_mem_cons.mpr ⟨lw_p89, List.forall_mem_cons.mpr ⟨lw_p90, List.forall_mem_cons.mpr ⟨lw_p91, List.forall_mem_cons.mpr ⟨lw_p92, List.forall_mem_cons.mpr ⟨lw_p93, fun _ h => absurd h List.not_mem_nil⟩⟩⟩⟩⟩⟩⟩⟩⟩⟩⟩⟩⟩⟩
def lw_privs : List (MethodName × Nat) := lw_privs_1 ++ (lw_privs_2 ++ (lw_privs_3 ++ (lw_privs_4 ++ (lw_privs_5 ++ (lw_privs_6)))))
def lw_tbl : List Cond := k2_sels lw_privs ++ tables_1
theorem lw_privs_ok : ∀ q ∈ lw_privs, lw_okq q := by
  show ∀ q ∈ lw_privs_1 ++ (lw_privs_2 ++ (lw_privs_3 ++ (lw_privs_4 ++ (lw_privs_5 ++ (lw_privs_6))))), lw_okq q
  exact List.forall_mem_append.mpr ⟨lw_r1, List.forall_mem_append.mpr ⟨lw_r2, List.forall_mem_append.mpr ⟨lw_r3, List.forall_mem_append.mpr ⟨lw_r4, List.forall_mem_append.mpr ⟨lw_r5, lw_r6⟩⟩⟩⟩⟩
end
section
def RX0 : String := "FourCubes$Bodies"
def RX1 : String := "FourCubes$Cube"
def RX2 : String := "FourCubes$Law"
def RX3 : String := "FourCubes$Past"
def RX4 : String := "FourCubes$Rings"
def RX5 : String := "FourCubes$Search"
def RX6 : String := "FourCubes$Shelf"
def RX7 : String := "FourCubes$Tower"
def RX8 : String := "FourCubes"
def RX9 : String := "FourCubesModel"
def RJ6 : String := "java/lang/Integer"
def RJ9 : String := "java/lang/Math"
def RJ10 : String := "java/lang/System"
def RJ7 : String := "java/util/Arrays"
def TX0 : u_T := fun k => match k with
  | 0 => ("FourCubes$Bodies", "kinds", "[I", true)
  | 1 => ("FourCubes$Bodies", "size", "I", false)
  | 2 => ("FourCubes$Bodies", "ranBodies", "[I", true)
  | 3 => ("FourCubes$Bodies", "ran", "I", false)
  | _ => ("FourCubes$Bodies", "self", "I", false)
def tyX0 : Nat → FieldType := fun k => match k with
  | 0 => .array .int
  | 1 => .int
  | 2 => .array .int
  | 3 => .int
  | _ => .int
theorem nmX0 : ∀ a, a < 5 → ∀ b, b < 5 → a ≠ b → (TX0 a).2.1 ≠ (TX0 b).2.1 := by decide +kernel
theorem tyX0_ok : ∀ k, k < 5 → parseFieldDescriptor (TX0 k).2.2.1 = some (tyX0 k) := by decide +kernel
def TX1 : u_T := fun k => match k with
  | 0 => ("FourCubes$Cube", "faces", "[I", true)
  | _ => ("FourCubes$Cube", "turning", "I", false)
def tyX1 : Nat → FieldType := fun k => match k with
  | 0 => .array .int
  | _ => .int
theorem nmX1 : ∀ a, a < 2 → ∀ b, b < 2 → a ≠ b → (TX1 a).2.1 ≠ (TX1 b).2.1 := by decide +kernel
theorem tyX1_ok : ∀ k, k < 2 → parseFieldDescriptor (TX1 k).2.2.1 = some (tyX1 k) := by decide +kernel
def TX2 : u_T := fun k => match k with
  | 0 => ("FourCubes$Law", "tape", "[I", true)
  | 1 => ("FourCubes$Law", "fed", "I", false)
  | 2 => ("FourCubes$Law", "place", "I", false)
  | 3 => ("FourCubes$Law", "draft", "[I", false)
  | 4 => ("FourCubes$Law", "drafted", "I", false)
  | 5 => ("FourCubes$Law", "code", "[I", false)
  | 6 => ("FourCubes$Law", "length", "I", false)
  | 7 => ("FourCubes$Law", "stack", "[I", true)
  | 8 => ("FourCubes$Law", "a", "I", false)
  | 9 => ("FourCubes$Law", "b", "I", false)
  | 10 => ("FourCubes$Law", "s", "I", false)
  | 11 => ("FourCubes$Law", "i", "I", false)
  | 12 => ("FourCubes$Law", "j", "I", false)
  | _ => ("FourCubes$Law", "may", "[Z", true)
def tyX2 : Nat → FieldType := fun k => match k with
  | 0 => .array .int
  | 1 => .int
  | 2 => .int
  | 3 => .array .int
  | 4 => .int
  | 5 => .array .int
  | 6 => .int
  | 7 => .array .int
  | 8 => .int
  | 9 => .int
  | 10 => .int
  | 11 => .int
  | 12 => .int
  | _ => .array .boolean
theorem nmX2 : ∀ a, a < 14 → ∀ b, b < 14 → a ≠ b → (TX2 a).2.1 ≠ (TX2 b).2.1 := by decide +kernel
theorem tyX2_ok : ∀ k, k < 14 → parseFieldDescriptor (TX2 k).2.2.1 = some (tyX2 k) := by decide +kernel
def TX3 : u_T := fun k => match k with
  | 0 => ("FourCubes$Past", "faces", "[I", true)
  | 1 => ("FourCubes$Past", "before", "[I", true)
  | 2 => ("FourCubes$Past", "after", "[I", true)
  | 3 => ("FourCubes$Past", "done", "I", false)
  | _ => ("FourCubes$Past", "kept", "I", false)
def tyX3 : Nat → FieldType := fun k => match k with
  | 0 => .array .int
  | 1 => .array .int
  | 2 => .array .int
  | 3 => .int
  | _ => .int
theorem nmX3 : ∀ a, a < 5 → ∀ b, b < 5 → a ≠ b → (TX3 a).2.1 ≠ (TX3 b).2.1 := by decide +kernel
theorem tyX3_ok : ∀ k, k < 5 → parseFieldDescriptor (TX3 k).2.2.1 = some (tyX3 k) := by decide +kernel
def TX4 : u_T := fun k => match k with
  | 0 => ("FourCubes$Rings", "choices", "[I", true)
  | 1 => ("FourCubes$Rings", "ends", "[I", true)
  | 2 => ("FourCubes$Rings", "found", "I", false)
  | _ => ("FourCubes$Rings", "height", "I", false)
def tyX4 : Nat → FieldType := fun k => match k with
  | 0 => .array .int
  | 1 => .array .int
  | 2 => .int
  | _ => .int
theorem nmX4 : ∀ a, a < 4 → ∀ b, b < 4 → a ≠ b → (TX4 a).2.1 ≠ (TX4 b).2.1 := by decide +kernel
theorem tyX4_ok : ∀ k, k < 4 → parseFieldDescriptor (TX4 k).2.2.1 = some (tyX4 k) := by decide +kernel
def TX5 : u_T := fun k => match k with
  | 0 => ("FourCubes$Search", "height", "I", false)
  | 1 => ("FourCubes$Search", "starts", "[I", true)
  | 2 => ("FourCubes$Search", "fits", "[I", true)
  | _ => ("FourCubes$Search", "turns", "[I", true)
def tyX5 : Nat → FieldType := fun k => match k with
  | 0 => .int
  | 1 => .array .int
  | 2 => .array .int
  | _ => .array .int
theorem nmX5 : ∀ a, a < 4 → ∀ b, b < 4 → a ≠ b → (TX5 a).2.1 ≠ (TX5 b).2.1 := by decide +kernel
theorem tyX5_ok : ∀ k, k < 4 → parseFieldDescriptor (TX5 k).2.2.1 = some (tyX5 k) := by decide +kernel
def TX6 : u_T := fun k => match k with
  | 0 => ("FourCubes$Shelf", "holds", "I", false)
  | 1 => ("FourCubes$Shelf", "body", "I", false)
  | 2 => ("FourCubes$Shelf", "sort", "I", false)
  | 3 => ("FourCubes$Shelf", "length", "I", false)
  | _ => ("FourCubes$Shelf", "elements", "[J", true)
def tyX6 : Nat → FieldType := fun k => match k with
  | 0 => .int
  | 1 => .int
  | 2 => .int
  | 3 => .int
  | _ => .array .long
theorem nmX6 : ∀ a, a < 5 → ∀ b, b < 5 → a ≠ b → (TX6 a).2.1 ≠ (TX6 b).2.1 := by decide +kernel
theorem tyX6_ok : ∀ k, k < 5 → parseFieldDescriptor (TX6 k).2.2.1 = some (tyX6 k) := by decide +kernel
def TX7 : u_T := fun k => match k with
  | 0 => ("FourCubes$Tower", "heap", "[LFourCubes$Cube;", true)
  | 1 => ("FourCubes$Tower", "law", "LFourCubes$Law;", true)
  | 2 => ("FourCubes$Tower", "search", "LFourCubes$Search;", true)
  | 3 => ("FourCubes$Tower", "parts", "[LFourCubes$Cube;", true)
  | 4 => ("FourCubes$Tower", "numbers", "[I", true)
  | 5 => ("FourCubes$Tower", "height", "I", false)
  | 6 => ("FourCubes$Tower", "allowed", "[I", true)
  | 7 => ("FourCubes$Tower", "shown", "[I", true)
  | 8 => ("FourCubes$Tower", "costs", "[B", true)
  | 9 => ("FourCubes$Tower", "ahead", "[I", true)
  | 10 => ("FourCubes$Tower", "least", "I", false)
  | 11 => ("FourCubes$Tower", "mends", "I", false)
  | _ => ("FourCubes$Tower", "firstMend", "I", false)
def tyX7 : Nat → FieldType := fun k => match k with
  | 0 => .array (.object "FourCubes$Cube")
  | 1 => .object "FourCubes$Law"
  | 2 => .object "FourCubes$Search"
  | 3 => .array (.object "FourCubes$Cube")
  | 4 => .array .int
  | 5 => .int
  | 6 => .array .int
  | 7 => .array .int
  | 8 => .array .byte
  | 9 => .array .int
  | 10 => .int
  | 11 => .int
  | _ => .int
theorem nmX7 : ∀ a, a < 13 → ∀ b, b < 13 → a ≠ b → (TX7 a).2.1 ≠ (TX7 b).2.1 := by decide +kernel
theorem tyX7_ok : ∀ k, k < 13 → parseFieldDescriptor (TX7 k).2.2.1 = some (tyX7 k) := by decide +kernel
def TX8 : u_T := fun k => match k with
  | 0 => ("FourCubes", "heap", "[LFourCubes$Cube;", true)
  | 1 => ("FourCubes", "size", "I", false)
  | 2 => ("FourCubes", "boxed", "I", false)
  | 3 => ("FourCubes", "rule", "LFourCubes$Law;", true)
  | 4 => ("FourCubes", "tower", "LFourCubes$Tower;", true)
  | 5 => ("FourCubes", "circles", "LFourCubes$Rings;", true)
  | 6 => ("FourCubes", "past", "LFourCubes$Past;", true)
  | 7 => ("FourCubes", "bodies", "LFourCubes$Bodies;", true)
  | _ => ("FourCubes", "shelves", "[LFourCubes$Shelf;", true)
def tyX8 : Nat → FieldType := fun k => match k with
  | 0 => .array (.object "FourCubes$Cube")
  | 1 => .int
  | 2 => .int
  | 3 => .object "FourCubes$Law"
  | 4 => .object "FourCubes$Tower"
  | 5 => .object "FourCubes$Rings"
  | 6 => .object "FourCubes$Past"
  | 7 => .object "FourCubes$Bodies"
  | _ => .array (.object "FourCubes$Shelf")
theorem nmX8 : ∀ a, a < 9 → ∀ b, b < 9 → a ≠ b → (TX8 a).2.1 ≠ (TX8 b).2.1 := by decide +kernel
theorem tyX8_ok : ∀ k, k < 9 → parseFieldDescriptor (TX8 k).2.2.1 = some (tyX8 k) := by decide +kernel
def TX9 : u_T := fun k => match k with
  | 0 => ("FourCubesModel", "code", "I", false)
  | 1 => ("FourCubesModel", "cubes", "I", false)
  | 2 => ("FourCubesModel", "colour", "[I", true)
  | 3 => ("FourCubesModel", "turning", "[I", true)
  | 4 => ("FourCubesModel", "boxed", "I", false)
  | 5 => ("FourCubesModel", "around", "[I", true)
  | 6 => ("FourCubesModel", "doneMany", "I", false)
  | 7 => ("FourCubesModel", "undoneMany", "I", false)
  | 8 => ("FourCubesModel", "changeOf", "[I", true)
  | 9 => ("FourCubesModel", "changeAt", "[I", true)
  | 10 => ("FourCubesModel", "before", "[I", true)
  | 11 => ("FourCubesModel", "behind", "[I", true)
  | 12 => ("FourCubesModel", "tape", "[B", true)
  | 13 => ("FourCubesModel", "taped", "I", false)
  | 14 => ("FourCubesModel", "here", "I", false)
  | 15 => ("FourCubesModel", "fault", "I", false)
  | 16 => ("FourCubesModel", "open", "I", false)
  | 17 => ("FourCubesModel", "laid", "I", false)
  | 18 => ("FourCubesModel", "act", "[B", true)
  | 19 => ("FourCubesModel", "with", "[I", true)
  | 20 => ("FourCubesModel", "lineMany", "[I", true)
  | 21 => ("FourCubesModel", "testEnd", "[S", true)
  | 22 => ("FourCubesModel", "lineEnd", "[S", true)
  | 23 => ("FourCubesModel", "facts", "[I", true)
  | 24 => ("FourCubesModel", "pile", "[I", true)
  | 25 => ("FourCubesModel", "hasLaw", "Z", false)
  | 26 => ("FourCubesModel", "may", "[Z", true)
  | 27 => ("FourCubesModel", "tower", "[I", true)
  | 28 => ("FourCubesModel", "high", "I", false)
  | 29 => ("FourCubesModel", "turned", "[I", true)
  | 30 => ("FourCubesModel", "firstWay", "[I", true)
  | 31 => ("FourCubesModel", "wayMany", "I", false)
  | 32 => ("FourCubesModel", "held", "I", false)
  | 33 => ("FourCubesModel", "onlyOne", "Z", false)
  | 34 => ("FourCubesModel", "least", "I", false)
  | 35 => ("FourCubesModel", "ends", "[I", true)
  | 36 => ("FourCubesModel", "rings", "[I", true)
  | 37 => ("FourCubesModel", "bodies", "I", false)
  | 38 => ("FourCubesModel", "kind", "[I", true)
  | 39 => ("FourCubesModel", "traces", "I", false)
  | 40 => ("FourCubesModel", "traced", "[I", true)
  | 41 => ("FourCubesModel", "holds", "[I", true)
  | 42 => ("FourCubesModel", "size", "[I", true)
  | 43 => ("FourCubesModel", "elements", "[J", true)
  | _ => ("FourCubesModel", "shifted", "[J", true)
def tyX9 : Nat → FieldType := fun k => match k with
  | 0 => .int
  | 1 => .int
  | 2 => .array .int
  | 3 => .array .int
  | 4 => .int
  | 5 => .array .int
  | 6 => .int
  | 7 => .int
  | 8 => .array .int
  | 9 => .array .int
  | 10 => .array .int
  | 11 => .array .int
  | 12 => .array .byte
  | 13 => .int
  | 14 => .int
  | 15 => .int
  | 16 => .int
  | 17 => .int
  | 18 => .array .byte
  | 19 => .array .int
  | 20 => .array .int
  | 21 => .array .short
  | 22 => .array .short
  | 23 => .array .int
  | 24 => .array .int
  | 25 => .boolean
  | 26 => .array .boolean
  | 27 => .array .int
  | 28 => .int
  | 29 => .array .int
  | 30 => .array .int
  | 31 => .int
  | 32 => .int
  | 33 => .boolean
  | 34 => .int
  | 35 => .array .int
  | 36 => .array .int
  | 37 => .int
  | 38 => .array .int
  | 39 => .int
  | 40 => .array .int
  | 41 => .array .int
  | 42 => .array .int
  | 43 => .array .long
  | _ => .array .long
theorem nmX9 : ∀ a, a < 45 → ∀ b, b < 45 → a ≠ b → (TX9 a).2.1 ≠ (TX9 b).2.1 := by decide +kernel
theorem tyX9_ok : ∀ k, k < 45 → parseFieldDescriptor (TX9 k).2.2.1 = some (tyX9 k) := by decide +kernel
abbrev zCl : List vw_C := [(RX0, TX0, 5), (RX1, TX1, 2), (RX2, TX2, 14), (RX3, TX3, 5), (RX4, TX4, 4), (RX5, TX5, 4), (RX6, TX6, 5), (RX7, TX7, 13), (RX8, TX8, 9), (RX9, TX9, 45)]
abbrev zMR : Type := MethodName × ByteArray × Nat × Option FieldType
def M_Bodies_init : zMR := (⟨RX0, "<init>", "()V"⟩, prog_2_method_1_code, 1, none)
def M_Bodies_add : zMR := (⟨RX0, "add", "(I)I"⟩, prog_2_method_2_code, 2, (some .int))
def M_Bodies_kindOf : zMR := (⟨RX0, "kindOf", "(I)I"⟩, prog_2_method_3_code, 2, (some .int))
def M_Bodies_isUnder : zMR := (⟨RX0, "isUnder", "(II)Z"⟩, prog_2_method_4_code, 4, (some .boolean))
def M_Bodies_traced : zMR := (⟨RX0, "traced", "()I"⟩, prog_2_method_5_code, 1, (some .int))
def M_Bodies_perform : zMR := (⟨RX0, "perform", "(III)I"⟩, prog_2_method_6_code, 4, (some .int))
def M_Bodies_runFrom : zMR := (⟨RX0, "runFrom", "(IIII)I"⟩, prog_2_method_7_code, 8, (some .int))
def M_Bodies_run : zMR := (⟨RX0, "run", "(IIII)I"⟩, prog_2_method_8_code, 8, (some .int))
def M_Cube_init : zMR := (⟨RX1, "<init>", "()V"⟩, prog_3_method_1_code, 1, none)
def M_Cube_seen : zMR := (⟨RX1, "seen", "(II)I"⟩, prog_3_method_2_code, 3, (some .int))
def M_Cube_endOf : zMR := (⟨RX1, "endOf", "(I)I"⟩, prog_3_method_3_code, 1, (some .int))
def M_Cube_line : zMR := (⟨RX1, "line", "(I)I"⟩, prog_3_method_4_code, 5, (some .int))
def M_Cube_turnsInto : zMR := (⟨RX1, "turnsInto", "(LFourCubes$Cube;Z)Z"⟩, prog_3_method_5_code, 4, (some .boolean))
def M_Cube_isLike : zMR := (⟨RX1, "isLike", "(LFourCubes$Cube;IZ)Z"⟩, prog_3_method_6_code, 7, (some .boolean))
def M_Cube_turningsThatShow : zMR := (⟨RX1, "turningsThatShow", "(I)I"⟩, prog_3_method_7_code, 4, (some .int))
def M_Cube_turningsWith : zMR := (⟨RX1, "turningsWith", "(II)I"⟩, prog_3_method_8_code, 5, (some .int))
def M_Cube_mayShow : zMR := (⟨RX1, "mayShow", "(III)Z"⟩, prog_3_method_9_code, 4, (some .boolean))
def M_Cube_mayBe : zMR := (⟨RX1, "mayBe", "(II)Z"⟩, prog_3_method_10_code, 3, (some .boolean))
def M_Cube_hasCornerOf : zMR := (⟨RX1, "hasCornerOf", "(I)Z"⟩, prog_3_method_11_code, 4, (some .boolean))
def M_Law_init : zMR := (⟨RX2, "<init>", "()V"⟩, prog_4_method_1_code, 1, none)
def M_Law_takeByte : zMR := (⟨RX2, "takeByte", "(I)I"⟩, prog_4_method_2_code, 2, (some .int))
def M_Law_takeTape : zMR := (⟨RX2, "takeTape", "()I"⟩, prog_4_method_3_code, 3, (some .int))
def M_Law_peek : zMR := (⟨RX2, "peek", "()I"⟩, prog_4_method_4_code, 1, (some .int))
def M_Law_emit : zMR := (⟨RX2, "emit", "(I)V"⟩, prog_4_method_5_code, 2, none)
def M_Law_readText : zMR := (⟨RX2, "readText", "()Z"⟩, prog_4_method_6_code, 2, (some .boolean))
def M_Law_readLine : zMR := (⟨RX2, "readLine", "()Z"⟩, prog_4_method_7_code, 1, (some .boolean))
def M_Law_readLevel : zMR := (⟨RX2, "readLevel", "(II)Z"⟩, prog_4_method_8_code, 6, (some .boolean))
def M_Law_isJoin : zMR := (⟨RX2, "isJoin", "(II)Z"⟩, prog_4_method_9_code, 2, (some .boolean))
def M_Law_readOperand : zMR := (⟨RX2, "readOperand", "(I)Z"⟩, prog_4_method_10_code, 3, (some .boolean))
def M_Law_readInside : zMR := (⟨RX2, "readInside", "(I)Z"⟩, prog_4_method_11_code, 2, (some .boolean))
def M_Law_readTurned : zMR := (⟨RX2, "readTurned", "(II)Z"⟩, prog_4_method_12_code, 3, (some .boolean))
def M_Law_readNumber : zMR := (⟨RX2, "readNumber", "()V"⟩, prog_4_method_13_code, 3, none)
def M_Law_isDigit : zMR := (⟨RX2, "isDigit", "(I)Z"⟩, prog_4_method_14_code, 1, (some .boolean))
def M_Law_isName : zMR := (⟨RX2, "isName", "(I)Z"⟩, prog_4_method_15_code, 1, (some .boolean))
def M_Law_allows : zMR := (⟨RX2, "allows", "(IIII)Z"⟩, prog_4_method_16_code, 5, (some .boolean))
def M_Law_workOutAll : zMR := (⟨RX2, "workOutAll", "()V"⟩, prog_4_method_17_code, 3, none)
def M_Law_workedOut : zMR := (⟨RX2, "workedOut", "()I"⟩, prog_4_method_18_code, 6, (some .int))
def M_Law_named : zMR := (⟨RX2, "named", "(I)I"⟩, prog_4_method_19_code, 2, (some .int))
def M_Law_turned : zMR := (⟨RX2, "turned", "(II)I"⟩, prog_4_method_20_code, 2, (some .int))
def M_Law_joined : zMR := (⟨RX2, "joined", "(III)I"⟩, prog_4_method_21_code, 3, (some .int))
def M_Past_init : zMR := (⟨RX3, "<init>", "()V"⟩, prog_5_method_1_code, 1, none)
def M_Past_add : zMR := (⟨RX3, "add", "(III)V"⟩, prog_5_method_2_code, 4, none)
def M_Past_forgetOldest : zMR := (⟨RX3, "forgetOldest", "()V"⟩, prog_5_method_3_code, 2, none)
def M_Rings_init : zMR := (⟨RX4, "<init>", "()V"⟩, prog_6_method_1_code, 1, none)
def M_Rings_gather : zMR := (⟨RX4, "gather", "([LFourCubes$Cube;I)V"⟩, prog_6_method_2_code, 4, none)
def M_Rings_isChoice : zMR := (⟨RX4, "isChoice", "(I)Z"⟩, prog_6_method_3_code, 1, (some .boolean))
def M_Rings_isRing : zMR := (⟨RX4, "isRing", "([LFourCubes$Cube;I)Z"⟩, prog_6_method_4_code, 5, (some .boolean))
def M_Rings_parted : zMR := (⟨RX4, "parted", "()I"⟩, prog_6_method_5_code, 4, (some .int))
def M_Rings_shareNone : zMR := (⟨RX4, "shareNone", "(I)Z"⟩, prog_6_method_6_code, 3, (some .boolean))
def M_Search_init : zMR := (⟨RX5, "<init>", "()V"⟩, prog_7_method_1_code, 1, none)
def M_Search_pairOf : zMR := (⟨RX5, "pairOf", "(II)I"⟩, prog_7_method_2_code, 2, (some .int))
def M_Search_fitAny : zMR := (⟨RX5, "fitAny", "(I)V"⟩, prog_7_method_3_code, 3, none)
def M_Search_fitting : zMR := (⟨RX5, "fitting", "(II)I"⟩, prog_7_method_4_code, 5, (some .int))
def M_Search_answer : zMR := (⟨RX5, "answer", "(I)I"⟩, prog_7_method_5_code, 2, (some .int))
def M_Search_hasAny : zMR := (⟨RX5, "hasAny", "()Z"⟩, prog_7_method_6_code, 1, (some .boolean))
def M_Search_total : zMR := (⟨RX5, "total", "(I)I"⟩, prog_7_method_7_code, 5, (some .int))
def M_Search_find : zMR := (⟨RX5, "find", "(I)Z"⟩, prog_7_method_8_code, 4, (some .boolean))
def M_Shelf_init : zMR := (⟨RX6, "<init>", "()V"⟩, prog_8_method_1_code, 1, none)
def M_Shelf_isBare : zMR := (⟨RX6, "isBare", "()Z"⟩, prog_8_method_2_code, 1, (some .boolean))
def M_Shelf_isRow : zMR := (⟨RX6, "isRow", "()Z"⟩, prog_8_method_3_code, 1, (some .boolean))
def M_Shelf_clear : zMR := (⟨RX6, "clear", "()V"⟩, prog_8_method_4_code, 1, none)
def M_Shelf_holdBody : zMR := (⟨RX6, "holdBody", "(I)V"⟩, prog_8_method_5_code, 2, none)
def M_Shelf_holdRow : zMR := (⟨RX6, "holdRow", "(II)V"⟩, prog_8_method_6_code, 3, none)
def M_Shelf_store : zMR := (⟨RX6, "store", "(IJ)V"⟩, prog_8_method_7_code, 4, none)
def M_Shelf_hasStretch : zMR := (⟨RX6, "hasStretch", "(II)Z"⟩, prog_8_method_8_code, 3, (some .boolean))
def M_Shelf_hasSixColours : zMR := (⟨RX6, "hasSixColours", "(I)Z"⟩, prog_8_method_9_code, 3, (some .boolean))
def M_Tower_init : zMR := (⟨RX7, "<init>", "([LFourCubes$Cube;LFourCubes$Law;LFourCubes$Search;)V"⟩, prog_9_method_1_code, 5, none)
def M_Tower_pile : zMR := (⟨RX7, "pile", "(I)V"⟩, prog_9_method_2_code, 3, none)
def M_Tower_firstWrong : zMR := (⟨RX7, "firstWrong", "()I"⟩, prog_9_method_3_code, 6, (some .int))
def M_Tower_startFrom : zMR := (⟨RX7, "startFrom", "(I)V"⟩, prog_9_method_4_code, 3, none)
def M_Tower_fitAll : zMR := (⟨RX7, "fitAll", "()V"⟩, prog_9_method_5_code, 3, none)
def M_Tower_fitPair : zMR := (⟨RX7, "fitPair", "(I)V"⟩, prog_9_method_6_code, 5, none)
def M_Tower_findAllowed : zMR := (⟨RX7, "findAllowed", "(II)V"⟩, prog_9_method_7_code, 8, none)
def M_Tower_goes : zMR := (⟨RX7, "goes", "()Z"⟩, prog_9_method_8_code, 1, (some .boolean))
def M_Tower_goesWith : zMR := (⟨RX7, "goesWith", "(LFourCubes$Cube;II)Z"⟩, prog_9_method_9_code, 6, (some .boolean))
def M_Tower_findMends : zMR := (⟨RX7, "findMends", "(Z)V"⟩, prog_9_method_10_code, 6, none)
def M_Tower_stuckFrom : zMR := (⟨RX7, "stuckFrom", "(I)I"⟩, prog_9_method_11_code, 4, (some .int))
def M_Tower_looksFrom : zMR := (⟨RX7, "looksFrom", "(I)I"⟩, prog_9_method_12_code, 6, (some .int))
def M_Tower_leastWrong : zMR := (⟨RX7, "leastWrong", "()I"⟩, prog_9_method_13_code, 3, (some .int))
def M_Tower_weigh : zMR := (⟨RX7, "weigh", "(I)I"⟩, prog_9_method_14_code, 7, (some .int))
def M_Tower_descend : zMR := (⟨RX7, "descend", "(II)V"⟩, prog_9_method_15_code, 4, none)
def M_Tower_costOf : zMR := (⟨RX7, "costOf", "(II)I"⟩, prog_9_method_16_code, 5, (some .int))
def M_Tower_fitWall : zMR := (⟨RX7, "fitWall", "()V"⟩, prog_9_method_17_code, 2, none)
def M_Tower_touch : zMR := (⟨RX7, "touch", "(III)V"⟩, prog_9_method_18_code, 7, none)
def M_Four_init : zMR := (⟨RX8, "<init>", "()V"⟩, prog_1_method_1_code, 2, none)
def M_Four_cube : zMR := (⟨RX8, "cube", "(I)I"⟩, prog_1_method_2_code, 4, (some .int))
def M_Four_cubes : zMR := (⟨RX8, "cubes", "(III)I"⟩, prog_1_method_3_code, 7, (some .int))
def M_Four_paint : zMR := (⟨RX8, "paint", "(II)I"⟩, prog_1_method_4_code, 4, (some .int))
def M_Four_of : zMR := (⟨RX8, "of", "(II)I"⟩, prog_1_method_5_code, 3, (some .int))
def M_Four_box : zMR := (⟨RX8, "box", "(I)I"⟩, prog_1_method_6_code, 3, (some .int))
def M_Four_feed : zMR := (⟨RX8, "feed", "(I)I"⟩, prog_1_method_7_code, 2, (some .int))
def M_Four_law : zMR := (⟨RX8, "law", "()I"⟩, prog_1_method_8_code, 1, (some .int))
def M_Four_turn : zMR := (⟨RX8, "turn", "(II)I"⟩, prog_1_method_9_code, 4, (some .int))
def M_Four_shows : zMR := (⟨RX8, "shows", "(III)I"⟩, prog_1_method_10_code, 4, (some .int))
def M_Four_judge : zMR := (⟨RX8, "judge", "()I"⟩, prog_1_method_11_code, 1, (some .int))
def M_Four_ways : zMR := (⟨RX8, "ways", "(II)I"⟩, prog_1_method_12_code, 3, (some .int))
def M_Four_near : zMR := (⟨RX8, "near", "(I)I"⟩, prog_1_method_13_code, 2, (some .int))
def M_Four_build : zMR := (⟨RX8, "build", "(II)I"⟩, prog_1_method_14_code, 3, (some .int))
def M_Four_mend : zMR := (⟨RX8, "mend", "(I)I"⟩, prog_1_method_15_code, 2, (some .int))
def M_Four_open : zMR := (⟨RX8, "open", "(I)I"⟩, prog_1_method_16_code, 4, (some .int))
def M_Four_swap : zMR := (⟨RX8, "swap", "(I)I"⟩, prog_1_method_17_code, 5, (some .int))
def M_Four_rings : zMR := (⟨RX8, "rings", "(I)I"⟩, prog_1_method_18_code, 2, (some .int))
def M_Four_alike : zMR := (⟨RX8, "alike", "(I)I"⟩, prog_1_method_19_code, 4, (some .int))
def M_Four_many : zMR := (⟨RX8, "many", "(II)J"⟩, prog_1_method_20_code, 11, (some .long))
def M_Four_sight : zMR := (⟨RX8, "sight", "(II)I"⟩, prog_1_method_21_code, 5, (some .int))
def M_Four_wall : zMR := (⟨RX8, "wall", "(I)I"⟩, prog_1_method_22_code, 2, (some .int))
def M_Four_great : zMR := (⟨RX8, "great", "(I)I"⟩, prog_1_method_23_code, 4, (some .int))
def M_Four_undo : zMR := (⟨RX8, "undo", "()I"⟩, prog_1_method_24_code, 1, (some .int))
def M_Four_redo : zMR := (⟨RX8, "redo", "()I"⟩, prog_1_method_25_code, 1, (some .int))
def M_Four_body : zMR := (⟨RX8, "body", "(I)I"⟩, prog_1_method_26_code, 2, (some .int))
def M_Four_act : zMR := (⟨RX8, "act", "(III)I"⟩, prog_1_method_27_code, 4, (some .int))
def M_Four_trace : zMR := (⟨RX8, "trace", "(I)I"⟩, prog_1_method_28_code, 2, (some .int))
def M_Four_keep : zMR := (⟨RX8, "keep", "(II)I"⟩, prog_1_method_29_code, 3, (some .int))
def M_Four_row : zMR := (⟨RX8, "row", "(III)I"⟩, prog_1_method_30_code, 4, (some .int))
def M_Four_put : zMR := (⟨RX8, "put", "(IIJ)I"⟩, prog_1_method_31_code, 6, (some .int))
def M_Four_element : zMR := (⟨RX8, "element", "(II)J"⟩, prog_1_method_32_code, 3, (some .long))
def M_Four_shift : zMR := (⟨RX8, "shift", "(IIIII)I"⟩, prog_1_method_33_code, 8, (some .int))
def M_Four_taken : zMR := (⟨RX8, "taken", "(II)I"⟩, prog_1_method_34_code, 4, (some .int))
def M_Four_count : zMR := (⟨RX8, "count", "(I)I"⟩, prog_1_method_35_code, 2, (some .int))
def M_Four_areSixColours : zMR := (⟨RX8, "areSixColours", "(I)Z"⟩, prog_1_method_36_code, 3, (some .boolean))
def M_Four_isShelf : zMR := (⟨RX8, "isShelf", "(I)Z"⟩, prog_1_method_37_code, 1, (some .boolean))
def M_Four_isTurning : zMR := (⟨RX8, "isTurning", "(I)Z"⟩, prog_1_method_38_code, 1, (some .boolean))
def M_Four_isKind : zMR := (⟨RX8, "isKind", "(I)Z"⟩, prog_1_method_39_code, 1, (some .boolean))
def M_Four_isCube : zMR := (⟨RX8, "isCube", "(I)Z"⟩, prog_1_method_40_code, 2, (some .boolean))
def M_Four_areCubes : zMR := (⟨RX8, "areCubes", "(I)Z"⟩, prog_1_method_41_code, 2, (some .boolean))
def M_Four_isFace : zMR := (⟨RX8, "isFace", "(I)Z"⟩, prog_1_method_42_code, 2, (some .boolean))
def M_Four_colourAt : zMR := (⟨RX8, "colourAt", "(I)I"⟩, prog_1_method_43_code, 2, (some .int))
def M_Four_setColour : zMR := (⟨RX8, "setColour", "(II)V"⟩, prog_1_method_44_code, 3, none)
def M_Four_goesExchanged : zMR := (⟨RX8, "goesExchanged", "(II)Z"⟩, prog_1_method_45_code, 3, (some .boolean))
def M_Four_refusalOf : zMR := (⟨RX8, "refusalOf", "(II)I"⟩, prog_1_method_46_code, 4, (some .int))
def M_Model_init : zMR := (⟨RX9, "<init>", "()V"⟩, prog_11_method_1_code, 1, none)
def M_Model_in : zMR := (⟨RX9, "in", "(III)Z"⟩, prog_11_method_3_code, 3, (some .boolean))
def M_Model_bitsOf : zMR := (⟨RX9, "bitsOf", "(I)I"⟩, prog_11_method_4_code, 3, (some .int))
def M_Model_isCube : zMR := (⟨RX9, "isCube", "(I)Z"⟩, prog_11_method_5_code, 2, (some .boolean))
def M_Model_isFace : zMR := (⟨RX9, "isFace", "(I)Z"⟩, prog_11_method_6_code, 2, (some .boolean))
def M_Model_isColour : zMR := (⟨RX9, "isColour", "(I)Z"⟩, prog_11_method_7_code, 1, (some .boolean))
def M_Model_cube : zMR := (⟨RX9, "cube", "(I)I"⟩, prog_11_method_8_code, 4, (some .int))
def M_Model_cubes : zMR := (⟨RX9, "cubes", "(III)I"⟩, prog_11_method_9_code, 9, (some .int))
def M_Model_valueAt : zMR := (⟨RX9, "valueAt", "(II)I"⟩, prog_11_method_10_code, 3, (some .int))
def M_Model_lays : zMR := (⟨RX9, "lays", "(III)V"⟩, prog_11_method_11_code, 4, none)
def M_Model_changes : zMR := (⟨RX9, "changes", "(III)I"⟩, prog_11_method_12_code, 6, (some .int))
def M_Model_undo : zMR := (⟨RX9, "undo", "()I"⟩, prog_11_method_13_code, 1, (some .int))
def M_Model_redo : zMR := (⟨RX9, "redo", "()I"⟩, prog_11_method_14_code, 1, (some .int))
def M_Model_paint : zMR := (⟨RX9, "paint", "(II)I"⟩, prog_11_method_15_code, 3, (some .int))
def M_Model_lineOf : zMR := (⟨RX9, "lineOf", "(II)I"⟩, prog_11_method_16_code, 5, (some .int))
def M_Model_of : zMR := (⟨RX9, "of", "(II)I"⟩, prog_11_method_17_code, 3, (some .int))
def M_Model_box : zMR := (⟨RX9, "box", "(I)I"⟩, prog_11_method_18_code, 3, (some .int))
def M_Model_feed : zMR := (⟨RX9, "feed", "(I)I"⟩, prog_11_method_19_code, 2, (some .int))
def M_Model_look : zMR := (⟨RX9, "look", "()I"⟩, prog_11_method_20_code, 1, (some .int))
def M_Model_faulty : zMR := (⟨RX9, "faulty", "()V"⟩, prog_11_method_21_code, 1, none)
def M_Model_addStep : zMR := (⟨RX9, "addStep", "(II)V"⟩, prog_11_method_22_code, 3, none)
def M_Model_nameOf : zMR := (⟨RX9, "nameOf", "(I)I"⟩, prog_11_method_23_code, 1, (some .int))
def M_Model_opens : zMR := (⟨RX9, "opens", "()Z"⟩, prog_11_method_24_code, 1, (some .boolean))
def M_Model_figure : zMR := (⟨RX9, "figure", "()V"⟩, prog_11_method_25_code, 3, none)
def M_Model_operand : zMR := (⟨RX9, "operand", "()V"⟩, prog_11_method_26_code, 2, none)
def M_Model_product : zMR := (⟨RX9, "product", "()V"⟩, prog_11_method_27_code, 2, none)
def M_Model_sum : zMR := (⟨RX9, "sum", "()V"⟩, prog_11_method_28_code, 2, none)
def M_Model_compared : zMR := (⟨RX9, "compared", "()V"⟩, prog_11_method_29_code, 2, none)
def M_Model_both : zMR := (⟨RX9, "both", "()V"⟩, prog_11_method_30_code, 1, none)
def M_Model_either : zMR := (⟨RX9, "either", "()V"⟩, prog_11_method_31_code, 1, none)
def M_Model_line : zMR := (⟨RX9, "line", "()V"⟩, prog_11_method_32_code, 2, none)
def M_Model_readText : zMR := (⟨RX9, "readText", "(I)I"⟩, prog_11_method_33_code, 3, (some .int))
def M_Model_twoOf : zMR := (⟨RX9, "twoOf", "(III)I"⟩, prog_11_method_34_code, 3, (some .int))
def M_Model_worked : zMR := (⟨RX9, "worked", "(III)I"⟩, prog_11_method_35_code, 7, (some .int))
def M_Model_gives : zMR := (⟨RX9, "gives", "(I)I"⟩, prog_11_method_36_code, 4, (some .int))
def M_Model_law : zMR := (⟨RX9, "law", "()I"⟩, prog_11_method_37_code, 2, (some .int))
def M_Model_turn : zMR := (⟨RX9, "turn", "(II)I"⟩, prog_11_method_38_code, 4, (some .int))
def M_Model_opposite : zMR := (⟨RX9, "opposite", "(I)I"⟩, prog_11_method_39_code, 1, (some .int))
def M_Model_showsOf : zMR := (⟨RX9, "showsOf", "(III)I"⟩, prog_11_method_40_code, 6, (some .int))
def M_Model_shows : zMR := (⟨RX9, "shows", "(III)I"⟩, prog_11_method_41_code, 4, (some .int))
def M_Model_mayAt : zMR := (⟨RX9, "mayAt", "(IIIII)I"⟩, prog_11_method_42_code, 5, (some .int))
def M_Model_findMay : zMR := (⟨RX9, "findMay", "()V"⟩, prog_11_method_43_code, 6, none)
def M_Model_asks : zMR := (⟨RX9, "asks", "(IIIII)Z"⟩, prog_11_method_44_code, 6, (some .boolean))
def M_Model_findTower : zMR := (⟨RX9, "findTower", "(I)V"⟩, prog_11_method_45_code, 3, none)
def M_Model_mayBe : zMR := (⟨RX9, "mayBe", "(IIIII)Z"⟩, prog_11_method_46_code, 8, (some .boolean))
def M_Model_judge : zMR := (⟨RX9, "judge", "()I"⟩, prog_11_method_47_code, 4, (some .int))
def M_Model_isHeld : zMR := (⟨RX9, "isHeld", "(I)Z"⟩, prog_11_method_48_code, 2, (some .boolean))
def M_Model_isTried : zMR := (⟨RX9, "isTried", "(II)Z"⟩, prog_11_method_49_code, 3, (some .boolean))
def M_Model_wrongWith : zMR := (⟨RX9, "wrongWith", "(II)I"⟩, prog_11_method_50_code, 6, (some .int))
def M_Model_goOn : zMR := (⟨RX9, "goOn", "(I)V"⟩, prog_11_method_51_code, 3, none)
def M_Model_findWays : zMR := (⟨RX9, "findWays", "(IIZ)V"⟩, prog_11_method_52_code, 4, none)
def M_Model_hasWay : zMR := (⟨RX9, "hasWay", "(I)Z"⟩, prog_11_method_53_code, 2, (some .boolean))
def M_Model_isSet : zMR := (⟨RX9, "isSet", "(I)Z"⟩, prog_11_method_54_code, 2, (some .boolean))
def M_Model_ways : zMR := (⟨RX9, "ways", "(II)I"⟩, prog_11_method_55_code, 3, (some .int))
def M_Model_findNear : zMR := (⟨RX9, "findNear", "(II)V"⟩, prog_11_method_56_code, 4, none)
def M_Model_near : zMR := (⟨RX9, "near", "(I)I"⟩, prog_11_method_57_code, 2, (some .int))
def M_Model_build : zMR := (⟨RX9, "build", "(II)I"⟩, prog_11_method_58_code, 7, (some .int))
def M_Model_mend : zMR := (⟨RX9, "mend", "(I)I"⟩, prog_11_method_59_code, 7, (some .int))
def M_Model_open : zMR := (⟨RX9, "open", "(I)I"⟩, prog_11_method_60_code, 5, (some .int))
def M_Model_swap : zMR := (⟨RX9, "swap", "(I)I"⟩, prog_11_method_61_code, 6, (some .int))
def M_Model_isRing : zMR := (⟨RX9, "isRing", "(I)Z"⟩, prog_11_method_62_code, 5, (some .boolean))
def M_Model_areParted : zMR := (⟨RX9, "areParted", "(II)Z"⟩, prog_11_method_63_code, 6, (some .boolean))
def M_Model_rings : zMR := (⟨RX9, "rings", "(I)I"⟩, prog_11_method_64_code, 7, (some .int))
def M_Model_isAs : zMR := (⟨RX9, "isAs", "(IIIZ)Z"⟩, prog_11_method_65_code, 7, (some .boolean))
def M_Model_areAlike : zMR := (⟨RX9, "areAlike", "(IIZ)Z"⟩, prog_11_method_66_code, 5, (some .boolean))
def M_Model_alike : zMR := (⟨RX9, "alike", "(I)I"⟩, prog_11_method_67_code, 2, (some .int))
def M_Model_many : zMR := (⟨RX9, "many", "(II)J"⟩, prog_11_method_68_code, 11, (some .long))
def M_Model_doesShow : zMR := (⟨RX9, "doesShow", "(IIII)Z"⟩, prog_11_method_69_code, 6, (some .boolean))
def M_Model_sightOf : zMR := (⟨RX9, "sightOf", "(II)I"⟩, prog_11_method_70_code, 5, (some .int))
def M_Model_sight : zMR := (⟨RX9, "sight", "(II)I"⟩, prog_11_method_71_code, 5, (some .int))
def M_Model_touch : zMR := (⟨RX9, "touch", "(IIIII)Z"⟩, prog_11_method_72_code, 8, (some .boolean))
def M_Model_fitsWall : zMR := (⟨RX9, "fitsWall", "(II)Z"⟩, prog_11_method_73_code, 3, (some .boolean))
def M_Model_goWall : zMR := (⟨RX9, "goWall", "(I)V"⟩, prog_11_method_74_code, 3, none)
def M_Model_wall : zMR := (⟨RX9, "wall", "(I)I"⟩, prog_11_method_75_code, 2, (some .int))
def M_Model_isOf : zMR := (⟨RX9, "isOf", "(III)Z"⟩, prog_11_method_76_code, 4, (some .boolean))
def M_Model_isGreat : zMR := (⟨RX9, "isGreat", "(II)Z"⟩, prog_11_method_77_code, 3, (some .boolean))
def M_Model_great : zMR := (⟨RX9, "great", "(I)I"⟩, prog_11_method_78_code, 4, (some .int))
def M_Model_isBody : zMR := (⟨RX9, "isBody", "(I)Z"⟩, prog_11_method_79_code, 2, (some .boolean))
def M_Model_ran : zMR := (⟨RX9, "ran", "(I)V"⟩, prog_11_method_80_code, 2, none)
def M_Model_trace : zMR := (⟨RX9, "trace", "(I)I"⟩, prog_11_method_81_code, 2, (some .int))
def M_Model_body : zMR := (⟨RX9, "body", "(I)I"⟩, prog_11_method_82_code, 2, (some .int))
def M_Model_isUnder : zMR := (⟨RX9, "isUnder", "(II)Z"⟩, prog_11_method_83_code, 2, (some .boolean))
def M_Model_plainTurns : zMR := (⟨RX9, "plainTurns", "(II)I"⟩, prog_11_method_84_code, 3, (some .int))
def M_Model_toldTurns : zMR := (⟨RX9, "toldTurns", "(II)I"⟩, prog_11_method_85_code, 3, (some .int))
def M_Model_turningBy : zMR := (⟨RX9, "turningBy", "(II)I"⟩, prog_11_method_86_code, 3, (some .int))
def M_Model_plainShows : zMR := (⟨RX9, "plainShows", "(II)I"⟩, prog_11_method_87_code, 3, (some .int))
def M_Model_wallShows : zMR := (⟨RX9, "wallShows", "(II)I"⟩, prog_11_method_88_code, 3, (some .int))
def M_Model_showing : zMR := (⟨RX9, "showing", "(II)I"⟩, prog_11_method_89_code, 4, (some .int))
def M_Model_plainLies : zMR := (⟨RX9, "plainLies", "(II)I"⟩, prog_11_method_90_code, 3, (some .int))
def M_Model_lying : zMR := (⟨RX9, "lying", "(II)I"⟩, prog_11_method_91_code, 4, (some .int))
def M_Model_plainTells : zMR := (⟨RX9, "plainTells", "(II)I"⟩, prog_11_method_92_code, 4, (some .int))
def M_Model_rowTells : zMR := (⟨RX9, "rowTells", "(II)I"⟩, prog_11_method_93_code, 3, (some .int))
def M_Model_telling : zMR := (⟨RX9, "telling", "(II)I"⟩, prog_11_method_94_code, 3, (some .int))
def M_Model_act : zMR := (⟨RX9, "act", "(III)I"⟩, prog_11_method_95_code, 4, (some .int))
def M_Model_count : zMR := (⟨RX9, "count", "(I)I"⟩, prog_11_method_96_code, 2, (some .int))
def M_Model_isShelf : zMR := (⟨RX9, "isShelf", "(I)Z"⟩, prog_11_method_97_code, 1, (some .boolean))
def M_Model_keep : zMR := (⟨RX9, "keep", "(II)I"⟩, prog_11_method_98_code, 3, (some .int))
def M_Model_row : zMR := (⟨RX9, "row", "(III)I"⟩, prog_11_method_99_code, 5, (some .int))
def M_Model_whyNoPlace : zMR := (⟨RX9, "whyNoPlace", "(II)I"⟩, prog_11_method_100_code, 3, (some .int))
def M_Model_put : zMR := (⟨RX9, "put", "(IIJ)I"⟩, prog_11_method_101_code, 7, (some .int))
def M_Model_element : zMR := (⟨RX9, "element", "(II)J"⟩, prog_11_method_102_code, 3, (some .long))
def M_Model_shift : zMR := (⟨RX9, "shift", "(IIIII)I"⟩, prog_11_method_103_code, 7, (some .int))
def M_Model_taken : zMR := (⟨RX9, "taken", "(II)I"⟩, prog_11_method_104_code, 3, (some .int))
def M_Integer_numberOfTrailingZeros_0f7a4 : zMR := (⟨RJ6, "numberOfTrailingZeros", "(I)I"⟩, prog_12_method_48_code, 2, (some .int))
def M_Integer_bitCount_0f7a4 : zMR := (⟨RJ6, "bitCount", "(I)I"⟩, prog_12_method_49_code, 1, (some .int))
def M_Math_max_7cf53 : zMR := (⟨RJ9, "max", "(II)I"⟩, prog_13_method_65_code, 2, (some .int))
def M_Math_min_7cf53 : zMR := (⟨RJ9, "min", "(II)I"⟩, prog_13_method_69_code, 2, (some .int))
def M_Arrays_fill_d0a16 : zMR := (⟨RJ7, "fill", "([JJ)V"⟩, prog_15_method_101_code, 5, none)
def M_Arrays_fill_53178 : zMR := (⟨RJ7, "fill", "([II)V"⟩, prog_15_method_103_code, 4, none)
def M_Arrays_fill_031fb : zMR := (⟨RJ7, "fill", "([BB)V"⟩, prog_15_method_109_code, 4, none)
end
