section
-- ===== PART A: goes FIRST, ahead of the names: the tables' words, and 'selects' of the private methods out of them =====
/-- a private method of a class that the tables say can be made, by its rows of tables_1 -/
def lw_okq (q : MethodName × Nat) : Prop := (q.1.cls ≠ "java/lang/invoke/MethodHandle" ∧ q.1.cls ≠ "java/lang/invoke/VarHandle") ∧ Cond.instantiable q.1.cls q.2 ∈ tables_1 ∧ Cond.privateMethod q.1 ∈ tables_1 ∧ Cond.instanceMethod q.1 ∈ tables_1
theorem lw_p0 : lw_okq (⟨"FourCubes$Law", "workOutAll", "()V"⟩, 14) := ⟨⟨by decide +kernel, by decide +kernel⟩, List.mem_of_getElem? (i := 43) (by decide +kernel), List.mem_of_getElem? (i := 49) (by decide +kernel), List.mem_of_getElem? (i := 50) (by decide +kernel)⟩
theorem lw_p1 : lw_okq (⟨"FourCubes$Law", "workedOut", "()I"⟩, 14) := ⟨⟨by decide +kernel, by decide +kernel⟩, List.mem_of_getElem? (i := 43) (by decide +kernel), List.mem_of_getElem? (i := 57) (by decide +kernel), List.mem_of_getElem? (i := 58) (by decide +kernel)⟩
theorem lw_p2 : lw_okq (⟨"FourCubes$Law", "named", "(I)I"⟩, 14) := ⟨⟨by decide +kernel, by decide +kernel⟩, List.mem_of_getElem? (i := 43) (by decide +kernel), List.mem_of_getElem? (i := 64) (by decide +kernel), List.mem_of_getElem? (i := 65) (by decide +kernel)⟩
theorem lw_p3 : lw_okq (⟨"FourCubes", "isFace", "(I)Z"⟩, 9) := ⟨⟨by decide +kernel, by decide +kernel⟩, List.mem_of_getElem? (i := 16) (by decide +kernel), List.mem_of_getElem? (i := 360) (by decide +kernel), List.mem_of_getElem? (i := 361) (by decide +kernel)⟩
theorem lw_p4 : lw_okq (⟨"FourCubes", "isCube", "(I)Z"⟩, 9) := ⟨⟨by decide +kernel, by decide +kernel⟩, List.mem_of_getElem? (i := 16) (by decide +kernel), List.mem_of_getElem? (i := 364) (by decide +kernel), List.mem_of_getElem? (i := 365) (by decide +kernel)⟩
theorem lw_p5 : lw_okq (⟨"FourCubes", "colourAt", "(I)I"⟩, 9) := ⟨⟨by decide +kernel, by decide +kernel⟩, List.mem_of_getElem? (i := 16) (by decide +kernel), List.mem_of_getElem? (i := 368) (by decide +kernel), List.mem_of_getElem? (i := 369) (by decide +kernel)⟩
theorem lw_p6 : lw_okq (⟨"FourCubes$Past", "forgetOldest", "()V"⟩, 5) := ⟨⟨by decide +kernel, by decide +kernel⟩, List.mem_of_getElem? (i := 215) (by decide +kernel), List.mem_of_getElem? (i := 376) (by decide +kernel), List.mem_of_getElem? (i := 377) (by decide +kernel)⟩
theorem lw_p7 : lw_okq (⟨"FourCubes", "setColour", "(II)V"⟩, 9) := ⟨⟨by decide +kernel, by decide +kernel⟩, List.mem_of_getElem? (i := 16) (by decide +kernel), List.mem_of_getElem? (i := 380) (by decide +kernel), List.mem_of_getElem? (i := 381) (by decide +kernel)⟩
theorem lw_p8 : lw_okq (⟨"FourCubes", "areCubes", "(I)Z"⟩, 9) := ⟨⟨by decide +kernel, by decide +kernel⟩, List.mem_of_getElem? (i := 16) (by decide +kernel), List.mem_of_getElem? (i := 407) (by decide +kernel), List.mem_of_getElem? (i := 408) (by decide +kernel)⟩
theorem lw_p9 : lw_okq (⟨"FourCubes$Law", "readText", "()Z"⟩, 14) := ⟨⟨by decide +kernel, by decide +kernel⟩, List.mem_of_getElem? (i := 43) (by decide +kernel), List.mem_of_getElem? (i := 433) (by decide +kernel), List.mem_of_getElem? (i := 434) (by decide +kernel)⟩
theorem lw_p10 : lw_okq (⟨"FourCubes$Law", "readLine", "()Z"⟩, 14) := ⟨⟨by decide +kernel, by decide +kernel⟩, List.mem_of_getElem? (i := 43) (by decide +kernel), List.mem_of_getElem? (i := 437) (by decide +kernel), List.mem_of_getElem? (i := 438) (by decide +kernel)⟩
theorem lw_p11 : lw_okq (⟨"FourCubes$Law", "readLevel", "(II)Z"⟩, 14) := ⟨⟨by decide +kernel, by decide +kernel⟩, List.mem_of_getElem? (i := 43) (by decide +kernel), List.mem_of_getElem? (i := 441) (by decide +kernel), List.mem_of_getElem? (i := 442) (by decide +kernel)⟩
theorem lw_p12 : lw_okq (⟨"FourCubes$Law", "readOperand", "(I)Z"⟩, 14) := ⟨⟨by decide +kernel, by decide +kernel⟩, List.mem_of_getElem? (i := 43) (by decide +kernel), List.mem_of_getElem? (i := 445) (by decide +kernel), List.mem_of_getElem? (i := 446) (by decide +kernel)⟩
theorem lw_p13 : lw_okq (⟨"FourCubes$Law", "peek", "()I"⟩, 14) := ⟨⟨by decide +kernel, by decide +kernel⟩, List.mem_of_getElem? (i := 43) (by decide +kernel), List.mem_of_getElem? (i := 449) (by decide +kernel), List.mem_of_getElem? (i := 450) (by decide +kernel)⟩
theorem lw_p14 : lw_okq (⟨"FourCubes$Law", "readNumber", "()V"⟩, 14) := ⟨⟨by decide +kernel, by decide +kernel⟩, List.mem_of_getElem? (i := 43) (by decide +kernel), List.mem_of_getElem? (i := 456) (by decide +kernel), List.mem_of_getElem? (i := 457) (by decide +kernel)⟩
theorem lw_p15 : lw_okq (⟨"FourCubes$Law", "emit", "(I)V"⟩, 14) := ⟨⟨by decide +kernel, by decide +kernel⟩, List.mem_of_getElem? (i := 43) (by decide +kernel), List.mem_of_getElem? (i := 460) (by decide +kernel), List.mem_of_getElem? (i := 461) (by decide +kernel)⟩
def lw_privs_1 : List (MethodName × Nat) := [(⟨"FourCubes$Law", "workOutAll", "()V"⟩, 14), (⟨"FourCubes$Law", "workedOut", "()I"⟩, 14), (⟨"FourCubes$Law", "named", "(I)I"⟩, 14), (⟨"FourCubes", "isFace", "(I)Z"⟩, 9), (⟨"FourCubes", "isCube", "(I)Z"⟩, 9), (⟨"FourCubes", "colourAt", "(I)I"⟩, 9), (⟨"FourCubes$Past", "forgetOldest", "()V"⟩, 5), (⟨"FourCubes", "setColour", "(II)V"⟩, 9), (⟨"FourCubes", "areCubes", "(I)Z"⟩, 9), (⟨"FourCubes$Law", "readText", "()Z"⟩, 14), (⟨"FourCubes$Law", "readLine", "()Z"⟩, 14), (⟨"FourCubes$Law", "readLevel", "(II)Z"⟩, 14), (⟨"FourCubes$Law", "readOperand", "(I)Z"⟩, 14), (⟨"FourCubes$Law", "peek", "()I"⟩, 14), (⟨"FourCubes$Law", "readNumber", "()V"⟩, 14), (⟨"FourCubes$Law", "emit", "(I)V"⟩, 14)]
theorem lw_r1 : ∀ q ∈ lw_privs_1, lw_okq q := List.forall_mem_cons.mpr ⟨lw_p0, List.forall_mem_cons.mpr ⟨lw_p1, List.forall_mem_cons.mpr ⟨lw_p2, List.forall_mem_cons.mpr ⟨lw_p3, List.forall_mem_cons.mpr ⟨lw_p4, List.forall_mem_cons.mpr ⟨lw_p5, List.forall_mem_cons.mpr ⟨lw_p6, List.forall_mem_cons.mpr ⟨lw_p7, List.forall_mem_cons.mpr ⟨lw_p8, List.forall_mem_cons.mpr ⟨lw_p9, List.forall_mem_cons.mpr ⟨lw_p10, List.forall_mem_cons.mpr ⟨lw_p11, List.forall_mem_cons.mpr ⟨lw_p12, List.forall_mem_cons.mpr ⟨lw_p13, List.forall_mem_cons.mpr ⟨lw_p14, List.forall_mem_cons.mpr ⟨lw_p15, fun _ h => absurd h List.not_mem_nil⟩⟩⟩⟩⟩⟩⟩⟩⟩⟩⟩⟩⟩⟩⟩⟩
theorem lw_p16 : lw_okq (⟨"FourCubes$Law", "readInside", "(I)Z"⟩, 14) := ⟨⟨by decide +kernel, by decide +kernel⟩, List.mem_of_getElem? (i := 43) (by decide +kernel), List.mem_of_getElem? (i := 464) (by decide +kernel), List.mem_of_getElem? (i := 465) (by decide +kernel)⟩
theorem lw_p17 : lw_okq (⟨"FourCubes$Law", "readTurned", "(II)Z"⟩, 14) := ⟨⟨by decide +kernel, by decide +kernel⟩, List.mem_of_getElem? (i := 43) (by decide +kernel), List.mem_of_getElem? (i := 468) (by decide +kernel), List.mem_of_getElem? (i := 469) (by decide +kernel)⟩
theorem lw_p18 : lw_okq (⟨"FourCubes$Tower", "fitPair", "(I)V"⟩, 13) := ⟨⟨by decide +kernel, by decide +kernel⟩, List.mem_of_getElem? (i := 119) (by decide +kernel), List.mem_of_getElem? (i := 526) (by decide +kernel), List.mem_of_getElem? (i := 527) (by decide +kernel)⟩
theorem lw_p19 : lw_okq (⟨"FourCubes$Tower", "findAllowed", "(II)V"⟩, 13) := ⟨⟨by decide +kernel, by decide +kernel⟩, List.mem_of_getElem? (i := 119) (by decide +kernel), List.mem_of_getElem? (i := 536) (by decide +kernel), List.mem_of_getElem? (i := 537) (by decide +kernel)⟩
theorem lw_p20 : lw_okq (⟨"FourCubes$Search", "total", "(I)I"⟩, 4) := ⟨⟨by decide +kernel, by decide +kernel⟩, List.mem_of_getElem? (i := 121) (by decide +kernel), List.mem_of_getElem? (i := 548) (by decide +kernel), List.mem_of_getElem? (i := 549) (by decide +kernel)⟩
theorem lw_p21 : lw_okq (⟨"FourCubes$Search", "find", "(I)Z"⟩, 4) := ⟨⟨by decide +kernel, by decide +kernel⟩, List.mem_of_getElem? (i := 121) (by decide +kernel), List.mem_of_getElem? (i := 558) (by decide +kernel), List.mem_of_getElem? (i := 559) (by decide +kernel)⟩
theorem lw_p22 : lw_okq (⟨"FourCubes$Tower", "weigh", "(I)I"⟩, 13) := ⟨⟨by decide +kernel, by decide +kernel⟩, List.mem_of_getElem? (i := 119) (by decide +kernel), List.mem_of_getElem? (i := 573) (by decide +kernel), List.mem_of_getElem? (i := 574) (by decide +kernel)⟩
theorem lw_p23 : lw_okq (⟨"FourCubes$Tower", "descend", "(II)V"⟩, 13) := ⟨⟨by decide +kernel, by decide +kernel⟩, List.mem_of_getElem? (i := 119) (by decide +kernel), List.mem_of_getElem? (i := 578) (by decide +kernel), List.mem_of_getElem? (i := 579) (by decide +kernel)⟩
theorem lw_p24 : lw_okq (⟨"FourCubes$Tower", "costOf", "(II)I"⟩, 13) := ⟨⟨by decide +kernel, by decide +kernel⟩, List.mem_of_getElem? (i := 119) (by decide +kernel), List.mem_of_getElem? (i := 582) (by decide +kernel), List.mem_of_getElem? (i := 583) (by decide +kernel)⟩
theorem lw_p25 : lw_okq (⟨"FourCubes", "goesExchanged", "(II)Z"⟩, 9) := ⟨⟨by decide +kernel, by decide +kernel⟩, List.mem_of_getElem? (i := 16) (by decide +kernel), List.mem_of_getElem? (i := 635) (by decide +kernel), List.mem_of_getElem? (i := 636) (by decide +kernel)⟩
theorem lw_p26 : lw_okq (⟨"FourCubes$Rings", "isRing", "([LFourCubes$Cube;I)Z"⟩, 4) := ⟨⟨by decide +kernel, by decide +kernel⟩, List.mem_of_getElem? (i := 195) (by decide +kernel), List.mem_of_getElem? (i := 651) (by decide +kernel), List.mem_of_getElem? (i := 652) (by decide +kernel)⟩
theorem lw_p27 : lw_okq (⟨"FourCubes$Rings", "shareNone", "(I)Z"⟩, 4) := ⟨⟨by decide +kernel, by decide +kernel⟩, List.mem_of_getElem? (i := 195) (by decide +kernel), List.mem_of_getElem? (i := 661) (by decide +kernel), List.mem_of_getElem? (i := 662) (by decide +kernel)⟩
theorem lw_p28 : lw_okq (⟨"FourCubes$Cube", "isLike", "(LFourCubes$Cube;IZ)Z"⟩, 2) := ⟨⟨by decide +kernel, by decide +kernel⟩, List.mem_of_getElem? (i := 25) (by decide +kernel), List.mem_of_getElem? (i := 674) (by decide +kernel), List.mem_of_getElem? (i := 675) (by decide +kernel)⟩
theorem lw_p29 : lw_okq (⟨"FourCubes$Cube", "mayShow", "(III)Z"⟩, 2) := ⟨⟨by decide +kernel, by decide +kernel⟩, List.mem_of_getElem? (i := 25) (by decide +kernel), List.mem_of_getElem? (i := 697) (by decide +kernel), List.mem_of_getElem? (i := 698) (by decide +kernel)⟩
theorem lw_p30 : lw_okq (⟨"FourCubes$Cube", "mayBe", "(II)Z"⟩, 2) := ⟨⟨by decide +kernel, by decide +kernel⟩, List.mem_of_getElem? (i := 25) (by decide +kernel), List.mem_of_getElem? (i := 701) (by decide +kernel), List.mem_of_getElem? (i := 702) (by decide +kernel)⟩
theorem lw_p31 : lw_okq (⟨"FourCubes$Tower", "touch", "(III)V"⟩, 13) := ⟨⟨by decide +kernel, by decide +kernel⟩, List.mem_of_getElem? (i := 119) (by decide +kernel), List.mem_of_getElem? (i := 713) (by decide +kernel), List.mem_of_getElem? (i := 714) (by decide +kernel)⟩
def lw_privs_2 : List (MethodName × Nat) := [(⟨"FourCubes$Law", "readInside", "(I)Z"⟩, 14), (⟨"FourCubes$Law", "readTurned", "(II)Z"⟩, 14), (⟨"FourCubes$Tower", "fitPair", "(I)V"⟩, 13), (⟨"FourCubes$Tower", "findAllowed", "(II)V"⟩, 13), (⟨"FourCubes$Search", "total", "(I)I"⟩, 4), (⟨"FourCubes$Search", "find", "(I)Z"⟩, 4), (⟨"FourCubes$Tower", "weigh", "(I)I"⟩, 13), (⟨"FourCubes$Tower", "descend", "(II)V"⟩, 13), (⟨"FourCubes$Tower", "costOf", "(II)I"⟩, 13), (⟨"FourCubes", "goesExchanged", "(II)Z"⟩, 9), (⟨"FourCubes$Rings", "isRing", "([LFourCubes$Cube;I)Z"⟩, 4), (⟨"FourCubes$Rings", "shareNone", "(I)Z"⟩, 4), (⟨"FourCubes$Cube", "isLike", "(LFourCubes$Cube;IZ)Z"⟩, 2), (⟨"FourCubes$Cube", "mayShow", "(III)Z"⟩, 2), (⟨"FourCubes$Cube", "mayBe", "(II)Z"⟩, 2), (⟨"FourCubes$Tower", "touch", "(III)V"⟩, 13)]
theorem lw_r2 : ∀ q ∈ lw_privs_2, lw_okq q := List.forall_mem_cons.mpr ⟨lw_p16, List.forall_mem_cons.mpr ⟨lw_p17, List.forall_mem_cons.mpr ⟨lw_p18, List.forall_mem_cons.mpr ⟨lw_p19, List.forall_mem_cons.mpr ⟨lw_p20, List.forall_mem_cons.mpr ⟨lw_p21, List.forall_mem_cons.mpr ⟨lw_p22, List.forall_mem_cons.mpr ⟨lw_p23, List.forall_mem_cons.mpr ⟨lw_p24, List.forall_mem_cons.mpr ⟨lw_p25, List.forall_mem_cons.mpr ⟨lw_p26, List.forall_mem_cons.mpr ⟨lw_p27, List.forall_mem_cons.mpr ⟨lw_p28, List.forall_mem_cons.mpr ⟨lw_p29, List.forall_mem_cons.mpr ⟨lw_p30, List.forall_mem_cons.mpr ⟨lw_p31, fun _ h => absurd h List.not_mem_nil⟩⟩⟩⟩⟩⟩⟩⟩⟩⟩⟩⟩⟩⟩⟩⟩
theorem lw_p32 : lw_okq (⟨"FourCubes$Bodies", "runFrom", "(IIII)I"⟩, 5) := ⟨⟨by decide +kernel, by decide +kernel⟩, List.mem_of_getElem? (i := 242) (by decide +kernel), List.mem_of_getElem? (i := 756) (by decide +kernel), List.mem_of_getElem? (i := 757) (by decide +kernel)⟩
theorem lw_p33 : lw_okq (⟨"FourCubes$Bodies", "run", "(IIII)I"⟩, 5) := ⟨⟨by decide +kernel, by decide +kernel⟩, List.mem_of_getElem? (i := 242) (by decide +kernel), List.mem_of_getElem? (i := 762) (by decide +kernel), List.mem_of_getElem? (i := 763) (by decide +kernel)⟩
theorem lw_p34 : lw_okq (⟨"FourCubes", "refusalOf", "(II)I"⟩, 9) := ⟨⟨by decide +kernel, by decide +kernel⟩, List.mem_of_getElem? (i := 16) (by decide +kernel), List.mem_of_getElem? (i := 804) (by decide +kernel), List.mem_of_getElem? (i := 805) (by decide +kernel)⟩
theorem lw_p35 : lw_okq (⟨"FourCubesModel", "lays", "(III)V"⟩, 45) := ⟨⟨by decide +kernel, by decide +kernel⟩, List.mem_of_getElem? (i := 840) (by decide +kernel), List.mem_of_getElem? (i := 1004) (by decide +kernel), List.mem_of_getElem? (i := 1005) (by decide +kernel)⟩
theorem lw_p36 : lw_okq (⟨"FourCubesModel", "isFace", "(I)Z"⟩, 45) := ⟨⟨by decide +kernel, by decide +kernel⟩, List.mem_of_getElem? (i := 840) (by decide +kernel), List.mem_of_getElem? (i := 1016) (by decide +kernel), List.mem_of_getElem? (i := 1017) (by decide +kernel)⟩
theorem lw_p37 : lw_okq (⟨"FourCubesModel", "isCube", "(I)Z"⟩, 45) := ⟨⟨by decide +kernel, by decide +kernel⟩, List.mem_of_getElem? (i := 840) (by decide +kernel), List.mem_of_getElem? (i := 1020) (by decide +kernel), List.mem_of_getElem? (i := 1021) (by decide +kernel)⟩
theorem lw_p38 : lw_okq (⟨"FourCubesModel", "changes", "(III)I"⟩, 45) := ⟨⟨by decide +kernel, by decide +kernel⟩, List.mem_of_getElem? (i := 840) (by decide +kernel), List.mem_of_getElem? (i := 1024) (by decide +kernel), List.mem_of_getElem? (i := 1025) (by decide +kernel)⟩
theorem lw_p39 : lw_okq (⟨"FourCubesModel", "valueAt", "(II)I"⟩, 45) := ⟨⟨by decide +kernel, by decide +kernel⟩, List.mem_of_getElem? (i := 840) (by decide +kernel), List.mem_of_getElem? (i := 1028) (by decide +kernel), List.mem_of_getElem? (i := 1029) (by decide +kernel)⟩
theorem lw_p40 : lw_okq (⟨"FourCubesModel", "lineOf", "(II)I"⟩, 45) := ⟨⟨by decide +kernel, by decide +kernel⟩, List.mem_of_getElem? (i := 840) (by decide +kernel), List.mem_of_getElem? (i := 1036) (by decide +kernel), List.mem_of_getElem? (i := 1037) (by decide +kernel)⟩
theorem lw_p41 : lw_okq (⟨"FourCubesModel", "readText", "(I)I"⟩, 45) := ⟨⟨by decide +kernel, by decide +kernel⟩, List.mem_of_getElem? (i := 840) (by decide +kernel), List.mem_of_getElem? (i := 1055) (by decide +kernel), List.mem_of_getElem? (i := 1056) (by decide +kernel)⟩
theorem lw_p42 : lw_okq (⟨"FourCubesModel", "line", "()V"⟩, 45) := ⟨⟨by decide +kernel, by decide +kernel⟩, List.mem_of_getElem? (i := 840) (by decide +kernel), List.mem_of_getElem? (i := 1059) (by decide +kernel), List.mem_of_getElem? (i := 1060) (by decide +kernel)⟩
theorem lw_p43 : lw_okq (⟨"FourCubesModel", "either", "()V"⟩, 45) := ⟨⟨by decide +kernel, by decide +kernel⟩, List.mem_of_getElem? (i := 840) (by decide +kernel), List.mem_of_getElem? (i := 1063) (by decide +kernel), List.mem_of_getElem? (i := 1064) (by decide +kernel)⟩
theorem lw_p44 : lw_okq (⟨"FourCubesModel", "both", "()V"⟩, 45) := ⟨⟨by decide +kernel, by decide +kernel⟩, List.mem_of_getElem? (i := 840) (by decide +kernel), List.mem_of_getElem? (i := 1067) (by decide +kernel), List.mem_of_getElem? (i := 1068) (by decide +kernel)⟩
theorem lw_p45 : lw_okq (⟨"FourCubesModel", "compared", "()V"⟩, 45) := ⟨⟨by decide +kernel, by decide +kernel⟩, List.mem_of_getElem? (i := 840) (by decide +kernel), List.mem_of_getElem? (i := 1071) (by decide +kernel), List.mem_of_getElem? (i := 1072) (by decide +kernel)⟩
theorem lw_p46 : lw_okq (⟨"FourCubesModel", "sum", "()V"⟩, 45) := ⟨⟨by decide +kernel, by decide +kernel⟩, List.mem_of_getElem? (i := 840) (by decide +kernel), List.mem_of_getElem? (i := 1075) (by decide +kernel), List.mem_of_getElem? (i := 1076) (by decide +kernel)⟩
theorem lw_p47 : lw_okq (⟨"FourCubesModel", "product", "()V"⟩, 45) := ⟨⟨by decide +kernel, by decide +kernel⟩, List.mem_of_getElem? (i := 840) (by decide +kernel), List.mem_of_getElem? (i := 1079) (by decide +kernel), List.mem_of_getElem? (i := 1080) (by decide +kernel)⟩
def lw_privs_3 : List (MethodName × Nat) := [(⟨"FourCubes$Bodies", "runFrom", "(IIII)I"⟩, 5), (⟨"FourCubes$Bodies", "run", "(IIII)I"⟩, 5), (⟨"FourCubes", "refusalOf", "(II)I"⟩, 9), (⟨"FourCubesModel", "lays", "(III)V"⟩, 45), (⟨"FourCubesModel", "isFace", "(I)Z"⟩, 45), (⟨"FourCubesModel", "isCube", "(I)Z"⟩, 45), (⟨"FourCubesModel", "changes", "(III)I"⟩, 45), (⟨"FourCubesModel", "valueAt", "(II)I"⟩, 45), (⟨"FourCubesModel", "lineOf", "(II)I"⟩, 45), (⟨"FourCubesModel", "readText", "(I)I"⟩, 45), (⟨"FourCubesModel", "line", "()V"⟩, 45), (⟨"FourCubesModel", "either", "()V"⟩, 45), (⟨"FourCubesModel", "both", "()V"⟩, 45), (⟨"FourCubesModel", "compared", "()V"⟩, 45), (⟨"FourCubesModel", "sum", "()V"⟩, 45), (⟨"FourCubesModel", "product", "()V"⟩, 45)]
theorem lw_r3 : ∀ q ∈ lw_privs_3, lw_okq q := List.forall_mem_cons.mpr ⟨lw_p32, List.forall_mem_cons.mpr ⟨lw_p33, List.forall_mem_cons.mpr ⟨lw_p34, List.forall_mem_cons.mpr ⟨lw_p35, List.forall_mem_cons.mpr ⟨lw_p36, List.forall_mem_cons.mpr ⟨lw_p37, List.forall_mem_cons.mpr ⟨lw_p38, List.forall_mem_cons.mpr ⟨lw_p39, List.forall_mem_cons.mpr ⟨lw_p40, List.forall_mem_cons.mpr ⟨lw_p41, List.forall_mem_cons.mpr ⟨lw_p42, List.forall_mem_cons.mpr ⟨lw_p43, List.forall_mem_cons.mpr ⟨lw_p44, List.forall_mem_cons.mpr ⟨lw_p45, List.forall_mem_cons.mpr ⟨lw_p46, List.forall_mem_cons.mpr ⟨lw_p47, fun _ h => absurd h List.not_mem_nil⟩⟩⟩⟩⟩⟩⟩⟩⟩⟩⟩⟩⟩⟩⟩⟩
theorem lw_p48 : lw_okq (⟨"FourCubesModel", "operand", "()V"⟩, 45) := ⟨⟨by decide +kernel, by decide +kernel⟩, List.mem_of_getElem? (i := 840) (by decide +kernel), List.mem_of_getElem? (i := 1083) (by decide +kernel), List.mem_of_getElem? (i := 1084) (by decide +kernel)⟩
theorem lw_p49 : lw_okq (⟨"FourCubesModel", "look", "()I"⟩, 45) := ⟨⟨by decide +kernel, by decide +kernel⟩, List.mem_of_getElem? (i := 840) (by decide +kernel), List.mem_of_getElem? (i := 1087) (by decide +kernel), List.mem_of_getElem? (i := 1088) (by decide +kernel)⟩
theorem lw_p50 : lw_okq (⟨"FourCubesModel", "addStep", "(II)V"⟩, 45) := ⟨⟨by decide +kernel, by decide +kernel⟩, List.mem_of_getElem? (i := 840) (by decide +kernel), List.mem_of_getElem? (i := 1094) (by decide +kernel), List.mem_of_getElem? (i := 1095) (by decide +kernel)⟩
theorem lw_p51 : lw_okq (⟨"FourCubesModel", "opens", "()Z"⟩, 45) := ⟨⟨by decide +kernel, by decide +kernel⟩, List.mem_of_getElem? (i := 840) (by decide +kernel), List.mem_of_getElem? (i := 1098) (by decide +kernel), List.mem_of_getElem? (i := 1099) (by decide +kernel)⟩
theorem lw_p52 : lw_okq (⟨"FourCubesModel", "faulty", "()V"⟩, 45) := ⟨⟨by decide +kernel, by decide +kernel⟩, List.mem_of_getElem? (i := 840) (by decide +kernel), List.mem_of_getElem? (i := 1102) (by decide +kernel), List.mem_of_getElem? (i := 1103) (by decide +kernel)⟩
theorem lw_p53 : lw_okq (⟨"FourCubesModel", "figure", "()V"⟩, 45) := ⟨⟨by decide +kernel, by decide +kernel⟩, List.mem_of_getElem? (i := 840) (by decide +kernel), List.mem_of_getElem? (i := 1106) (by decide +kernel), List.mem_of_getElem? (i := 1107) (by decide +kernel)⟩
theorem lw_p54 : lw_okq (⟨"FourCubesModel", "showsOf", "(III)I"⟩, 45) := ⟨⟨by decide +kernel, by decide +kernel⟩, List.mem_of_getElem? (i := 840) (by decide +kernel), List.mem_of_getElem? (i := 1118) (by decide +kernel), List.mem_of_getElem? (i := 1119) (by decide +kernel)⟩
theorem lw_p55 : lw_okq (⟨"FourCubesModel", "findMay", "()V"⟩, 45) := ⟨⟨by decide +kernel, by decide +kernel⟩, List.mem_of_getElem? (i := 840) (by decide +kernel), List.mem_of_getElem? (i := 1129) (by decide +kernel), List.mem_of_getElem? (i := 1130) (by decide +kernel)⟩
theorem lw_p56 : lw_okq (⟨"FourCubesModel", "asks", "(IIIII)Z"⟩, 45) := ⟨⟨by decide +kernel, by decide +kernel⟩, List.mem_of_getElem? (i := 840) (by decide +kernel), List.mem_of_getElem? (i := 1136) (by decide +kernel), List.mem_of_getElem? (i := 1137) (by decide +kernel)⟩
theorem lw_p57 : lw_okq (⟨"FourCubesModel", "gives", "(I)I"⟩, 45) := ⟨⟨by decide +kernel, by decide +kernel⟩, List.mem_of_getElem? (i := 840) (by decide +kernel), List.mem_of_getElem? (i := 1140) (by decide +kernel), List.mem_of_getElem? (i := 1141) (by decide +kernel)⟩
theorem lw_p58 : lw_okq (⟨"FourCubesModel", "worked", "(III)I"⟩, 45) := ⟨⟨by decide +kernel, by decide +kernel⟩, List.mem_of_getElem? (i := 840) (by decide +kernel), List.mem_of_getElem? (i := 1144) (by decide +kernel), List.mem_of_getElem? (i := 1145) (by decide +kernel)⟩
theorem lw_p59 : lw_okq (⟨"FourCubesModel", "findTower", "(I)V"⟩, 45) := ⟨⟨by decide +kernel, by decide +kernel⟩, List.mem_of_getElem? (i := 840) (by decide +kernel), List.mem_of_getElem? (i := 1151) (by decide +kernel), List.mem_of_getElem? (i := 1152) (by decide +kernel)⟩
theorem lw_p60 : lw_okq (⟨"FourCubesModel", "mayBe", "(IIIII)Z"⟩, 45) := ⟨⟨by decide +kernel, by decide +kernel⟩, List.mem_of_getElem? (i := 840) (by decide +kernel), List.mem_of_getElem? (i := 1155) (by decide +kernel), List.mem_of_getElem? (i := 1156) (by decide +kernel)⟩
theorem lw_p61 : lw_okq (⟨"FourCubesModel", "isSet", "(I)Z"⟩, 45) := ⟨⟨by decide +kernel, by decide +kernel⟩, List.mem_of_getElem? (i := 840) (by decide +kernel), List.mem_of_getElem? (i := 1163) (by decide +kernel), List.mem_of_getElem? (i := 1164) (by decide +kernel)⟩
theorem lw_p62 : lw_okq (⟨"FourCubesModel", "findWays", "(IIZ)V"⟩, 45) := ⟨⟨by decide +kernel, by decide +kernel⟩, List.mem_of_getElem? (i := 840) (by decide +kernel), List.mem_of_getElem? (i := 1167) (by decide +kernel), List.mem_of_getElem? (i := 1168) (by decide +kernel)⟩
theorem lw_p63 : lw_okq (⟨"FourCubesModel", "goOn", "(I)V"⟩, 45) := ⟨⟨by decide +kernel, by decide +kernel⟩, List.mem_of_getElem? (i := 840) (by decide +kernel), List.mem_of_getElem? (i := 1171) (by decide +kernel), List.mem_of_getElem? (i := 1172) (by decide +kernel)⟩
def lw_privs_4 : List (MethodName × Nat) := [(⟨"FourCubesModel", "operand", "()V"⟩, 45), (⟨"FourCubesModel", "look", "()I"⟩, 45), (⟨"FourCubesModel", "addStep", "(II)V"⟩, 45), (⟨"FourCubesModel", "opens", "()Z"⟩, 45), (⟨"FourCubesModel", "faulty", "()V"⟩, 45), (⟨"FourCubesModel", "figure", "()V"⟩, 45), (⟨"FourCubesModel", "showsOf", "(III)I"⟩, 45), (⟨"FourCubesModel", "findMay", "()V"⟩, 45), (⟨"FourCubesModel", "asks", "(IIIII)Z"⟩, 45), (⟨"FourCubesModel", "gives", "(I)I"⟩, 45), (⟨"FourCubesModel", "worked", "(III)I"⟩, 45), (⟨"FourCubesModel", "findTower", "(I)V"⟩, 45), (⟨"FourCubesModel", "mayBe", "(IIIII)Z"⟩, 45), (⟨"FourCubesModel", "isSet", "(I)Z"⟩, 45), (⟨"FourCubesModel", "findWays", "(IIZ)V"⟩, 45), (⟨"FourCubesModel", "goOn", "(I)V"⟩, 45)]
theorem lw_r4 : ∀ q ∈ lw_privs_4, lw_okq q := List.forall_mem_cons.mpr ⟨lw_p48, List.forall_mem_cons.mpr ⟨lw_p49, List.forall_mem_cons.mpr ⟨lw_p50, List.forall_mem_cons.mpr ⟨lw_p51, List.forall_mem_cons.mpr ⟨lw_p52, List.forall_mem_cons.mpr ⟨lw_p53, List.forall_mem_cons.mpr ⟨lw_p54, List.forall_mem_cons.mpr ⟨lw_p55, List.forall_mem_cons.mpr ⟨lw_p56, List.forall_mem_cons.mpr ⟨lw_p57, List.forall_mem_cons.mpr ⟨lw_p58, List.forall_mem_cons.mpr ⟨lw_p59, List.forall_mem_cons.mpr ⟨lw_p60, List.forall_mem_cons.mpr ⟨lw_p61, List.forall_mem_cons.mpr ⟨lw_p62, List.forall_mem_cons.mpr ⟨lw_p63, fun _ h => absurd h List.not_mem_nil⟩⟩⟩⟩⟩⟩⟩⟩⟩⟩⟩⟩⟩⟩⟩⟩
theorem lw_p64 : lw_okq (⟨"FourCubesModel", "isTried", "(II)Z"⟩, 45) := ⟨⟨by decide +kernel, by decide +kernel⟩, List.mem_of_getElem? (i := 840) (by decide +kernel), List.mem_of_getElem? (i := 1175) (by decide +kernel), List.mem_of_getElem? (i := 1176) (by decide +kernel)⟩
theorem lw_p65 : lw_okq (⟨"FourCubesModel", "isHeld", "(I)Z"⟩, 45) := ⟨⟨by decide +kernel, by decide +kernel⟩, List.mem_of_getElem? (i := 840) (by decide +kernel), List.mem_of_getElem? (i := 1179) (by decide +kernel), List.mem_of_getElem? (i := 1180) (by decide +kernel)⟩
theorem lw_p66 : lw_okq (⟨"FourCubesModel", "wrongWith", "(II)I"⟩, 45) := ⟨⟨by decide +kernel, by decide +kernel⟩, List.mem_of_getElem? (i := 840) (by decide +kernel), List.mem_of_getElem? (i := 1183) (by decide +kernel), List.mem_of_getElem? (i := 1184) (by decide +kernel)⟩
theorem lw_p67 : lw_okq (⟨"FourCubesModel", "findNear", "(II)V"⟩, 45) := ⟨⟨by decide +kernel, by decide +kernel⟩, List.mem_of_getElem? (i := 840) (by decide +kernel), List.mem_of_getElem? (i := 1191) (by decide +kernel), List.mem_of_getElem? (i := 1192) (by decide +kernel)⟩
theorem lw_p68 : lw_okq (⟨"FourCubesModel", "hasWay", "(I)Z"⟩, 45) := ⟨⟨by decide +kernel, by decide +kernel⟩, List.mem_of_getElem? (i := 840) (by decide +kernel), List.mem_of_getElem? (i := 1203) (by decide +kernel), List.mem_of_getElem? (i := 1204) (by decide +kernel)⟩
theorem lw_p69 : lw_okq (⟨"FourCubesModel", "isRing", "(I)Z"⟩, 45) := ⟨⟨by decide +kernel, by decide +kernel⟩, List.mem_of_getElem? (i := 840) (by decide +kernel), List.mem_of_getElem? (i := 1219) (by decide +kernel), List.mem_of_getElem? (i := 1220) (by decide +kernel)⟩
theorem lw_p70 : lw_okq (⟨"FourCubesModel", "areParted", "(II)Z"⟩, 45) := ⟨⟨by decide +kernel, by decide +kernel⟩, List.mem_of_getElem? (i := 840) (by decide +kernel), List.mem_of_getElem? (i := 1223) (by decide +kernel), List.mem_of_getElem? (i := 1224) (by decide +kernel)⟩
theorem lw_p71 : lw_okq (⟨"FourCubesModel", "areAlike", "(IIZ)Z"⟩, 45) := ⟨⟨by decide +kernel, by decide +kernel⟩, List.mem_of_getElem? (i := 840) (by decide +kernel), List.mem_of_getElem? (i := 1231) (by decide +kernel), List.mem_of_getElem? (i := 1232) (by decide +kernel)⟩
theorem lw_p72 : lw_okq (⟨"FourCubesModel", "isAs", "(IIIZ)Z"⟩, 45) := ⟨⟨by decide +kernel, by decide +kernel⟩, List.mem_of_getElem? (i := 840) (by decide +kernel), List.mem_of_getElem? (i := 1235) (by decide +kernel), List.mem_of_getElem? (i := 1236) (by decide +kernel)⟩
theorem lw_p73 : lw_okq (⟨"FourCubesModel", "sightOf", "(II)I"⟩, 45) := ⟨⟨by decide +kernel, by decide +kernel⟩, List.mem_of_getElem? (i := 840) (by decide +kernel), List.mem_of_getElem? (i := 1259) (by decide +kernel), List.mem_of_getElem? (i := 1260) (by decide +kernel)⟩
theorem lw_p74 : lw_okq (⟨"FourCubesModel", "doesShow", "(IIII)Z"⟩, 45) := ⟨⟨by decide +kernel, by decide +kernel⟩, List.mem_of_getElem? (i := 840) (by decide +kernel), List.mem_of_getElem? (i := 1263) (by decide +kernel), List.mem_of_getElem? (i := 1264) (by decide +kernel)⟩
theorem lw_p75 : lw_okq (⟨"FourCubesModel", "goWall", "(I)V"⟩, 45) := ⟨⟨by decide +kernel, by decide +kernel⟩, List.mem_of_getElem? (i := 840) (by decide +kernel), List.mem_of_getElem? (i := 1271) (by decide +kernel), List.mem_of_getElem? (i := 1272) (by decide +kernel)⟩
theorem lw_p76 : lw_okq (⟨"FourCubesModel", "fitsWall", "(II)Z"⟩, 45) := ⟨⟨by decide +kernel, by decide +kernel⟩, List.mem_of_getElem? (i := 840) (by decide +kernel), List.mem_of_getElem? (i := 1275) (by decide +kernel), List.mem_of_getElem? (i := 1276) (by decide +kernel)⟩
theorem lw_p77 : lw_okq (⟨"FourCubesModel", "touch", "(IIIII)Z"⟩, 45) := ⟨⟨by decide +kernel, by decide +kernel⟩, List.mem_of_getElem? (i := 840) (by decide +kernel), List.mem_of_getElem? (i := 1279) (by decide +kernel), List.mem_of_getElem? (i := 1280) (by decide +kernel)⟩
theorem lw_p78 : lw_okq (⟨"FourCubesModel", "isGreat", "(II)Z"⟩, 45) := ⟨⟨by decide +kernel, by decide +kernel⟩, List.mem_of_getElem? (i := 840) (by decide +kernel), List.mem_of_getElem? (i := 1287) (by decide +kernel), List.mem_of_getElem? (i := 1288) (by decide +kernel)⟩
theorem lw_p79 : lw_okq (⟨"FourCubesModel", "isOf", "(III)Z"⟩, 45) := ⟨⟨by decide +kernel, by decide +kernel⟩, List.mem_of_getElem? (i := 840) (by decide +kernel), List.mem_of_getElem? (i := 1291) (by decide +kernel), List.mem_of_getElem? (i := 1292) (by decide +kernel)⟩
def lw_privs_5 : List (MethodName × Nat) := [(⟨"FourCubesModel", "isTried", "(II)Z"⟩, 45), (⟨"FourCubesModel", "isHeld", "(I)Z"⟩, 45), (⟨"FourCubesModel", "wrongWith", "(II)I"⟩, 45), (⟨"FourCubesModel", "findNear", "(II)V"⟩, 45), (⟨"FourCubesModel", "hasWay", "(I)Z"⟩, 45), (⟨"FourCubesModel", "isRing", "(I)Z"⟩, 45), (⟨"FourCubesModel", "areParted", "(II)Z"⟩, 45), (⟨"FourCubesModel", "areAlike", "(IIZ)Z"⟩, 45), (⟨"FourCubesModel", "isAs", "(IIIZ)Z"⟩, 45), (⟨"FourCubesModel", "sightOf", "(II)I"⟩, 45), (⟨"FourCubesModel", "doesShow", "(IIII)Z"⟩, 45), (⟨"FourCubesModel", "goWall", "(I)V"⟩, 45), (⟨"FourCubesModel", "fitsWall", "(II)Z"⟩, 45), (⟨"FourCubesModel", "touch", "(IIIII)Z"⟩, 45), (⟨"FourCubesModel", "isGreat", "(II)Z"⟩, 45), (⟨"FourCubesModel", "isOf", "(III)Z"⟩, 45)]
theorem lw_r5 : ∀ q ∈ lw_privs_5, lw_okq q := List.forall_mem_cons.mpr ⟨lw_p64, List.forall_mem_cons.mpr ⟨lw_p65, List.forall_mem_cons.mpr ⟨lw_p66, List.forall_mem_cons.mpr ⟨lw_p67, List.forall_mem_cons.mpr ⟨lw_p68, List.forall_mem_cons.mpr ⟨lw_p69, List.forall_mem_cons.mpr ⟨lw_p70, List.forall_mem_cons.mpr ⟨lw_p71, List.forall_mem_cons.mpr ⟨lw_p72, List.forall_mem_cons.mpr ⟨lw_p73, List.forall_mem_cons.mpr ⟨lw_p74, List.forall_mem_cons.mpr ⟨lw_p75, List.forall_mem_cons.mpr ⟨lw_p76, List.forall_mem_cons.mpr ⟨lw_p77, List.forall_mem_cons.mpr ⟨lw_p78, List.forall_mem_cons.mpr ⟨lw_p79, fun _ h => absurd h List.not_mem_nil⟩⟩⟩⟩⟩⟩⟩⟩⟩⟩⟩⟩⟩⟩⟩⟩
theorem lw_p80 : lw_okq (⟨"FourCubesModel", "isBody", "(I)Z"⟩, 45) := ⟨⟨by decide +kernel, by decide +kernel⟩, List.mem_of_getElem? (i := 840) (by decide +kernel), List.mem_of_getElem? (i := 1307) (by decide +kernel), List.mem_of_getElem? (i := 1308) (by decide +kernel)⟩
theorem lw_p81 : lw_okq (⟨"FourCubesModel", "turningBy", "(II)I"⟩, 45) := ⟨⟨by decide +kernel, by decide +kernel⟩, List.mem_of_getElem? (i := 840) (by decide +kernel), List.mem_of_getElem? (i := 1311) (by decide +kernel), List.mem_of_getElem? (i := 1312) (by decide +kernel)⟩
theorem lw_p82 : lw_okq (⟨"FourCubesModel", "ran", "(I)V"⟩, 45) := ⟨⟨by decide +kernel, by decide +kernel⟩, List.mem_of_getElem? (i := 840) (by decide +kernel), List.mem_of_getElem? (i := 1318) (by decide +kernel), List.mem_of_getElem? (i := 1319) (by decide +kernel)⟩
theorem lw_p83 : lw_okq (⟨"FourCubesModel", "plainTurns", "(II)I"⟩, 45) := ⟨⟨by decide +kernel, by decide +kernel⟩, List.mem_of_getElem? (i := 840) (by decide +kernel), List.mem_of_getElem? (i := 1322) (by decide +kernel), List.mem_of_getElem? (i := 1323) (by decide +kernel)⟩
theorem lw_p84 : lw_okq (⟨"FourCubesModel", "toldTurns", "(II)I"⟩, 45) := ⟨⟨by decide +kernel, by decide +kernel⟩, List.mem_of_getElem? (i := 840) (by decide +kernel), List.mem_of_getElem? (i := 1326) (by decide +kernel), List.mem_of_getElem? (i := 1327) (by decide +kernel)⟩
theorem lw_p85 : lw_okq (⟨"FourCubesModel", "showing", "(II)I"⟩, 45) := ⟨⟨by decide +kernel, by decide +kernel⟩, List.mem_of_getElem? (i := 840) (by decide +kernel), List.mem_of_getElem? (i := 1330) (by decide +kernel), List.mem_of_getElem? (i := 1331) (by decide +kernel)⟩
theorem lw_p86 : lw_okq (⟨"FourCubesModel", "wallShows", "(II)I"⟩, 45) := ⟨⟨by decide +kernel, by decide +kernel⟩, List.mem_of_getElem? (i := 840) (by decide +kernel), List.mem_of_getElem? (i := 1334) (by decide +kernel), List.mem_of_getElem? (i := 1335) (by decide +kernel)⟩
theorem lw_p87 : lw_okq (⟨"FourCubesModel", "plainShows", "(II)I"⟩, 45) := ⟨⟨by decide +kernel, by decide +kernel⟩, List.mem_of_getElem? (i := 840) (by decide +kernel), List.mem_of_getElem? (i := 1338) (by decide +kernel), List.mem_of_getElem? (i := 1339) (by decide +kernel)⟩
theorem lw_p88 : lw_okq (⟨"FourCubesModel", "lying", "(II)I"⟩, 45) := ⟨⟨by decide +kernel, by decide +kernel⟩, List.mem_of_getElem? (i := 840) (by decide +kernel), List.mem_of_getElem? (i := 1342) (by decide +kernel), List.mem_of_getElem? (i := 1343) (by decide +kernel)⟩
theorem lw_p89 : lw_okq (⟨"FourCubesModel", "plainLies", "(II)I"⟩, 45) := ⟨⟨by decide +kernel, by decide +kernel⟩, List.mem_of_getElem? (i := 840) (by decide +kernel), List.mem_of_getElem? (i := 1346) (by decide +kernel), List.mem_of_getElem? (i := 1347) (by decide +kernel)⟩
theorem lw_p90 : lw_okq (⟨"FourCubesModel", "telling", "(II)I"⟩, 45) := ⟨⟨by decide +kernel, by decide +kernel⟩, List.mem_of_getElem? (i := 840) (by decide +kernel), List.mem_of_getElem? (i := 1350) (by decide +kernel), List.mem_of_getElem? (i := 1351) (by decide +kernel)⟩
theorem lw_p91 : lw_okq (⟨"FourCubesModel", "rowTells", "(II)I"⟩, 45) := ⟨⟨by decide +kernel, by decide +kernel⟩, List.mem_of_getElem? (i := 840) (by decide +kernel), List.mem_of_getElem? (i := 1354) (by decide +kernel), List.mem_of_getElem? (i := 1355) (by decide +kernel)⟩
theorem lw_p92 : lw_okq (⟨"FourCubesModel", "plainTells", "(II)I"⟩, 45) := ⟨⟨by decide +kernel, by decide +kernel⟩, List.mem_of_getElem? (i := 840) (by decide +kernel), List.mem_of_getElem? (i := 1358) (by decide +kernel), List.mem_of_getElem? (i := 1359) (by decide +kernel)⟩
theorem lw_p93 : lw_okq (⟨"FourCubesModel", "whyNoPlace", "(II)I"⟩, 45) := ⟨⟨by decide +kernel, by decide +kernel⟩, List.mem_of_getElem? (i := 840) (by decide +kernel), List.mem_of_getElem? (i := 1378) (by decide +kernel), List.mem_of_getElem? (i := 1379) (by decide +kernel)⟩
def lw_privs_6 : List (MethodName × Nat) := [(⟨"FourCubesModel", "isBody", "(I)Z"⟩, 45), (⟨"FourCubesModel", "turningBy", "(II)I"⟩, 45), (⟨"FourCubesModel", "ran", "(I)V"⟩, 45), (⟨"FourCubesModel", "plainTurns", "(II)I"⟩, 45), (⟨"FourCubesModel", "toldTurns", "(II)I"⟩, 45), (⟨"FourCubesModel", "showing", "(II)I"⟩, 45), (⟨"FourCubesModel", "wallShows", "(II)I"⟩, 45), (⟨"FourCubesModel", "plainShows", "(II)I"⟩, 45), (⟨"FourCubesModel", "lying", "(II)I"⟩, 45), (⟨"FourCubesModel", "plainLies", "(II)I"⟩, 45), (⟨"FourCubesModel", "telling", "(II)I"⟩, 45), (⟨"FourCubesModel", "rowTells", "(II)I"⟩, 45), (⟨"FourCubesModel", "plainTells", "(II)I"⟩, 45), (⟨"FourCubesModel", "whyNoPlace", "(II)I"⟩, 45)]
theorem lw_r6 : ∀ q ∈ lw_privs_6, lw_okq q := List.forall_mem_cons.mpr ⟨lw_p80, List.forall_mem_cons.mpr ⟨lw_p81, List.forall_mem_cons.mpr ⟨lw_p82, List.forall_mem_cons.mpr ⟨lw_p83, List.forall_mem_cons.mpr ⟨lw_p84, List.forall_mem_cons.mpr ⟨lw_p85, List.forall_mem_cons.mpr ⟨lw_p86, List.forall_mem_cons.mpr ⟨lw_p87, List.forall_mem_cons.mpr ⟨lw_p88, List.forall_mem_cons.mpr ⟨lw_p89, List.forall_mem_cons.mpr ⟨lw_p90, List.forall_mem_cons.mpr ⟨lw_p91, List.forall_mem_cons.mpr ⟨lw_p92, List.forall_mem_cons.mpr ⟨lw_p93, fun _ h => absurd h List.not_mem_nil⟩⟩⟩⟩⟩⟩⟩⟩⟩⟩⟩⟩⟩⟩
def lw_privs : List (MethodName × Nat) := lw_privs_1 ++ (lw_privs_2 ++ (lw_privs_3 ++ (lw_privs_4 ++ (lw_privs_5 ++ (lw_privs_6)))))
def lw_tbl : List Cond := k2_sels lw_privs ++ tables_1
theorem lw_privs_ok : ∀ q ∈ lw_privs, lw_okq q := by
  show ∀ q ∈ lw_privs_1 ++ (lw_privs_2 ++ (lw_privs_3 ++ (lw_privs_4 ++ (lw_privs_5 ++ (lw_privs_6))))), lw_okq q
  exact List.forall_mem_append.mpr ⟨lw_r1, List.forall_mem_append.mpr ⟨lw_r2, List.forall_mem_append.mpr ⟨lw_r3, List.forall_mem_append.mpr ⟨lw_r4, List.forall_mem_append.mpr ⟨lw_r5, lw_r6⟩⟩⟩⟩⟩
end
section
def RX0 : String := "FourCubes$Bodies"
def RX1 : String := "FourCubes$Cube"
def RX2 : String := "FourCubes$Law"
def RX3 : String := "FourCubes$Past"
def RX4 : String := "FourCubes$Rings"
def RX5 : String := "FourCubes$Search"
def RX6 : String := "FourCubes$Shelf"
def RX7 : String := "FourCubes$Tower"
def RX8 : String := "FourCubes"
def RX9 : String := "FourCubesModel"
def RJ6 : String := "java/lang/Integer"
def RJ9 : String := "java/lang/Math"
def RJ10 : String := "java/lang/System"
def RJ7 : String := "java/util/Arrays"
def TX0 : u_T := fun k => match k with
  | 0 => ("FourCubes$Bodies", "kinds", "[I", true)
  | 1 => ("FourCubes$Bodies", "size", "I", false)
  | 2 => ("FourCubes$Bodies", "ranBodies", "[I", true)
  | 3 => ("FourCubes$Bodies", "ran", "I", false)
  | _ => ("FourCubes$Bodies", "self", "I", false)
def tyX0 : Nat → FieldType := fun k => match k with
  | 0 => .array .int
  | 1 => .int
  | 2 => .array .int
  | 3 => .int
  | _ => .int
theorem nmX0 : ∀ a, a < 5 → ∀ b, b < 5 → a ≠ b → (TX0 a).2.1 ≠ (TX0 b).2.1 := by decide +kernel
theorem tyX0_ok : ∀ k, k < 5 → parseFieldDescriptor (TX0 k).2.2.1 = some (tyX0 k) := by decide +kernel
def TX1 : u_T := fun k => match k with
  | 0 => ("FourCubes$Cube", "faces", "[I", true)
  | _ => ("FourCubes$Cube", "turning", "I", false)
def tyX1 : Nat → FieldType := fun k => match k with
  | 0 => .array .int
  | _ => .int
theorem nmX1 : ∀ a, a < 2 → ∀ b, b < 2 → a ≠ b → (TX1 a).2.1 ≠ (TX1 b).2.1 := by decide +kernel
theorem tyX1_ok : ∀ k, k < 2 → parseFieldDescriptor (TX1 k).2.2.1 = some (tyX1 k) := by decide +kernel
def TX2 : u_T := fun k => match k with
  | 0 => ("FourCubes$Law", "tape", "[I", true)
  | 1 => ("FourCubes$Law", "fed", "I", false)
  | 2 => ("FourCubes$Law", "place", "I", false)
  | 3 => ("FourCubes$Law", "draft", "[I", false)
  | 4 => ("FourCubes$Law", "drafted", "I", false)
  | 5 => ("FourCubes$Law", "code", "[I", false)
  | 6 => ("FourCubes$Law", "length", "I", false)
  | 7 => ("FourCubes$Law", "stack", "[I", true)
  | 8 => ("FourCubes$Law", "a", "I", false)
  | 9 => ("FourCubes$Law", "b", "I", false)
  | 10 => ("FourCubes$Law", "s", "I", false)
  | 11 => ("FourCubes$Law", "i", "I", false)
  | 12 => ("FourCubes$Law", "j", "I", false)
  | _ => ("FourCubes$Law", "may", "[Z", true)
def tyX2 : Nat → FieldType := fun k => match k with
  | 0 => .array .int
  | 1 => .int
  | 2 => .int
  | 3 => .array .int
  | 4 => .int
  | 5 => .array .int
  | 6 => .int
  | 7 => .array .int
  | 8 => .int
  | 9 => .int
  | 10 => .int
  | 11 => .int
  | 12 => .int
  | _ => .array .boolean
theorem nmX2 : ∀ a, a < 14 → ∀ b, b < 14 → a ≠ b → (TX2 a).2.1 ≠ (TX2 b).2.1 := by decide +kernel
theorem tyX2_ok : ∀ k, k < 14 → parseFieldDescriptor (TX2 k).2.2.1 = some (tyX2 k) := by decide +kernel
def TX3 : u_T := fun k => match k with
  | 0 => ("FourCubes$Past", "faces", "[I", true)
  | 1 => ("FourCubes$Past", "before", "[I", true)
  | 2 => ("FourCubes$Past", "after", "[I", true)
  | 3 => ("FourCubes$Past", "done", "I", false)
  | _ => ("FourCubes$Past", "kept", "I", false)
def tyX3 : Nat → FieldType := fun k => match k with
  | 0 => .array .int
  | 1 => .array .int
  | 2 => .array .int
  | 3 => .int
  | _ => .int
theorem nmX3 : ∀ a, a < 5 → ∀ b, b < 5 → a ≠ b → (TX3 a).2.1 ≠ (TX3 b).2.1 := by decide +kernel
theorem tyX3_ok : ∀ k, k < 5 → parseFieldDescriptor (TX3 k).2.2.1 = some (tyX3 k) := by decide +kernel
def TX4 : u_T := fun k => match k with
  | 0 => ("FourCubes$Rings", "choices", "[I", true)
  | 1 => ("FourCubes$Rings", "ends", "[I", true)
  | 2 => ("FourCubes$Rings", "found", "I", false)
  | _ => ("FourCubes$Rings", "height", "I", false)
def tyX4 : Nat → FieldType := fun k => match k with
  | 0 => .array .int
  | 1 => .array .int
  | 2 => .int
  | _ => .int
theorem nmX4 : ∀ a, a < 4 → ∀ b, b < 4 → a ≠ b → (TX4 a).2.1 ≠ (TX4 b).2.1 := by decide +kernel
theorem tyX4_ok : ∀ k, k < 4 → parseFieldDescriptor (TX4 k).2.2.1 = some (tyX4 k) := by decide +kernel
def TX5 : u_T := fun k => match k with
  | 0 => ("FourCubes$Search", "height", "I", false)
  | 1 => ("FourCubes$Search", "starts", "[I", true)
  | 2 => ("FourCubes$Search", "fits", "[I", true)
  | _ => ("FourCubes$Search", "turns", "[I", true)
def tyX5 : Nat → FieldType := fun k => match k with
  | 0 => .int
  | 1 => .array .int
  | 2 => .array .int
  | _ => .array .int
theorem nmX5 : ∀ a, a < 4 → ∀ b, b < 4 → a ≠ b → (TX5 a).2.1 ≠ (TX5 b).2.1 := by decide +kernel
theorem tyX5_ok : ∀ k, k < 4 → parseFieldDescriptor (TX5 k).2.2.1 = some (tyX5 k) := by decide +kernel
def TX6 : u_T := fun k => match k with
  | 0 => ("FourCubes$Shelf", "holds", "I", false)
  | 1 => ("FourCubes$Shelf", "body", "I", false)
  | 2 => ("FourCubes$Shelf", "sort", "I", false)
  | 3 => ("FourCubes$Shelf", "length", "I", false)
  | _ => ("FourCubes$Shelf", "elements", "[J", true)
def tyX6 : Nat → FieldType := fun k => match k with
  | 0 => .int
  | 1 => .int
  | 2 => .int
  | 3 => .int
  | _ => .array .long
theorem nmX6 : ∀ a, a < 5 → ∀ b, b < 5 → a ≠ b → (TX6 a).2.1 ≠ (TX6 b).2.1 := by decide +kernel
theorem tyX6_ok : ∀ k, k < 5 → parseFieldDescriptor (TX6 k).2.2.1 = some (tyX6 k) := by decide +kernel
def TX7 : u_T := fun k => match k with
  | 0 => ("FourCubes$Tower", "heap", "[LFourCubes$Cube;", true)
  | 1 => ("FourCubes$Tower", "law", "LFourCubes$Law;", true)
  | 2 => ("FourCubes$Tower", "search", "LFourCubes$Search;", true)
  | 3 => ("FourCubes$Tower", "parts", "[LFourCubes$Cube;", true)
  | 4 => ("FourCubes$Tower", "numbers", "[I", true)
  | 5 => ("FourCubes$Tower", "height", "I", false)
  | 6 => ("FourCubes$Tower", "allowed", "[I", true)
  | 7 => ("FourCubes$Tower", "shown", "[I", true)
  | 8 => ("FourCubes$Tower", "costs", "[B", true)
  | 9 => ("FourCubes$Tower", "ahead", "[I", true)
  | 10 => ("FourCubes$Tower", "least", "I", false)
  | 11 => ("FourCubes$Tower", "mends", "I", false)
  | _ => ("FourCubes$Tower", "firstMend", "I", false)
def tyX7 : Nat → FieldType := fun k => match k with
  | 0 => .array (.object "FourCubes$Cube")
  | 1 => .object "FourCubes$Law"
  | 2 => .object "FourCubes$Search"
  | 3 => .array (.object "FourCubes$Cube")
  | 4 => .array .int
  | 5 => .int
  | 6 => .array .int
  | 7 => .array .int
  | 8 => .array .byte
  | 9 => .array .int
  | 10 => .int
  | 11 => .int
  | _ => .int
theorem nmX7 : ∀ a, a < 13 → ∀ b, b < 13 → a ≠ b → (TX7 a).2.1 ≠ (TX7 b).2.1 := by decide +kernel
theorem tyX7_ok : ∀ k, k < 13 → parseFieldDescriptor (TX7 k).2.2.1 = some (tyX7 k) := by decide +kernel
def TX8 : u_T := fun k => match k with
  | 0 => ("FourCubes", "heap", "[LFourCubes$Cube;", true)
  | 1 => ("FourCubes", "size", "I", false)
  | 2 => ("FourCubes", "boxed", "I", false)
  | 3 => ("FourCubes", "rule", "LFourCubes$Law;", true)
  | 4 => ("FourCubes", "tower", "LFourCubes$Tower;", true)
  | 5 => ("FourCubes", "circles", "LFourCubes$Rings;", true)
  | 6 => ("FourCubes", "past", "LFourCubes$Past;", true)
  | 7 => ("FourCubes", "bodies", "LFourCubes$Bodies;", true)
  | _ => ("FourCubes", "shelves", "[LFourCubes$Shelf;", true)
def tyX8 : Nat → FieldType := fun k => match k with
  | 0 => .array (.object "FourCubes$Cube")
  | 1 => .int
  | 2 => .int
  | 3 => .object "FourCubes$Law"
  | 4 => .object "FourCubes$Tower"
  | 5 => .object "FourCubes$Rings"
  | 6 => .object "FourCubes$Past"
  | 7 => .object "FourCubes$Bodies"
  | _ => .array (.object "FourCubes$Shelf")
theorem nmX8 : ∀ a, a < 9 → ∀ b, b < 9 → a ≠ b → (TX8 a).2.1 ≠ (TX8 b).2.1 := by decide +kernel
theorem tyX8_ok : ∀ k, k < 9 → parseFieldDescriptor (TX8 k).2.2.1 = some (tyX8 k) := by decide +kernel
def TX9 : u_T := fun k => match k with
  | 0 => ("FourCubesModel", "code", "I", false)
  | 1 => ("FourCubesModel", "cubes", "I", false)
  | 2 => ("FourCubesModel", "colour", "[I", true)
  | 3 => ("FourCubesModel", "turning", "[I", true)
  | 4 => ("FourCubesModel", "boxed", "I", false)
  | 5 => ("FourCubesModel", "around", "[I", true)
  | 6 => ("FourCubesModel", "doneMany", "I", false)
  | 7 => ("FourCubesModel", "undoneMany", "I", false)
  | 8 => ("FourCubesModel", "changeOf", "[I", true)
  | 9 => ("FourCubesModel", "changeAt", "[I", true)
  | 10 => ("FourCubesModel", "before", "[I", true)
  | 11 => ("FourCubesModel", "behind", "[I", true)
  | 12 => ("FourCubesModel", "tape", "[B", true)
  | 13 => ("FourCubesModel", "taped", "I", false)
  | 14 => ("FourCubesModel", "here", "I", false)
  | 15 => ("FourCubesModel", "fault", "I", false)
  | 16 => ("FourCubesModel", "open", "I", false)
  | 17 => ("FourCubesModel", "laid", "I", false)
  | 18 => ("FourCubesModel", "act", "[B", true)
  | 19 => ("FourCubesModel", "with", "[I", true)
  | 20 => ("FourCubesModel", "lineMany", "[I", true)
  | 21 => ("FourCubesModel", "testEnd", "[S", true)
  | 22 => ("FourCubesModel", "lineEnd", "[S", true)
  | 23 => ("FourCubesModel", "facts", "[I", true)
  | 24 => ("FourCubesModel", "pile", "[I", true)
  | 25 => ("FourCubesModel", "hasLaw", "Z", false)
  | 26 => ("FourCubesModel", "may", "[Z", true)
  | 27 => ("FourCubesModel", "tower", "[I", true)
  | 28 => ("FourCubesModel", "high", "I", false)
  | 29 => ("FourCubesModel", "turned", "[I", true)
  | 30 => ("FourCubesModel", "firstWay", "[I", true)
  | 31 => ("FourCubesModel", "wayMany", "I", false)
  | 32 => ("FourCubesModel", "held", "I", false)
  | 33 => ("FourCubesModel", "onlyOne", "Z", false)
  | 34 => ("FourCubesModel", "least", "I", false)
  | 35 => ("FourCubesModel", "ends", "[I", true)
  | 36 => ("FourCubesModel", "rings", "[I", true)
  | 37 => ("FourCubesModel", "bodies", "I", false)
  | 38 => ("FourCubesModel", "kind", "[I", true)
  | 39 => ("FourCubesModel", "traces", "I", false)
  | 40 => ("FourCubesModel", "traced", "[I", true)
  | 41 => ("FourCubesModel", "holds", "[I", true)
  | 42 => ("FourCubesModel", "size", "[I", true)
  | 43 => ("FourCubesModel", "elements", "[J", true)
  | _ => ("FourCubesModel", "shifted", "[J", true)
def tyX9 : Nat → FieldType := fun k => match k with
  | 0 => .int
  | 1 => .int
  | 2 => .array .int
  | 3 => .array .int
  | 4 => .int
  | 5 => .array .int
  | 6 => .int
  | 7 => .int
  | 8 => .array .int
  | 9 => .array .int
  | 10 => .array .int
  | 11 => .array .int
  | 12 => .array .byte
  | 13 => .int
  | 14 => .int
  | 15 => .int
  | 16 => .int
  | 17 => .int
  | 18 => .array .byte
  | 19 => .array .int
  | 20 => .array .int
  | 21 => .array .short
  | 22 => .array .short
  | 23 => .array .int
  | 24 => .array .int
  | 25 => .boolean
  | 26 => .array .boolean
  | 27 => .array .int
  | 28 => .int
  | 29 => .array .int
  | 30 => .array .int
  | 31 => .int
  | 32 => .int
  | 33 => .boolean
  | 34 => .int
  | 35 => .array .int
  | 36 => .array .int
  | 37 => .int
  | 38 => .array .int
  | 39 => .int
  | 40 => .array .int
  | 41 => .array .int
  | 42 => .array .int
  | 43 => .array .long
  | _ => .array .long
theorem nmX9 : ∀ a, a < 45 → ∀ b, b < 45 → a ≠ b → (TX9 a).2.1 ≠ (TX9 b).2.1 := by decide +kernel
theorem tyX9_ok : ∀ k, k < 45 → parseFieldDescriptor (TX9 k).2.2.1 = some (tyX9 k) := by decide +kernel
abbrev zCl : List vw_C := [(RX0, TX0, 5), (RX1, TX1, 2), (RX2, TX2, 14), (RX3, TX3, 5), (RX4, TX4, 4), (RX5, TX5, 4), (RX6, TX6, 5), (RX7, TX7, 13), (RX8, TX8, 9), (RX9, TX9, 45)]
abbrev zMR : Type := MethodName × ByteArray × Nat × Option FieldType
def M_Bodies_init : zMR := (⟨RX0, "<init>", "()V"⟩, prog_2_method_1_code, 1, none)
def M_Bodies_add : zMR := (⟨RX0, "add", "(I)I"⟩, prog_2_method_2_code, 2, (some .int))
def M_Bodies_kindOf : zMR := (⟨RX0, "kindOf", "(I)I"⟩, prog_2_method_3_code, 2, (some .int))
def M_Bodies_isUnder : zMR := (⟨RX0, "isUnder", "(II)Z"⟩, prog_2_method_4_code, 4, (some .boolean))
def M_Bodies_traced : zMR := (⟨RX0, "traced", "()I"⟩, prog_2_method_5_code, 1, (some .int))
def M_Bodies_perform : zMR := (⟨RX0, "perform", "(III)I"⟩, prog_2_method_6_code, 4, (some .int))
def M_Bodies_runFrom : zMR := (⟨RX0, "runFrom", "(IIII)I"⟩, prog_2_method_7_code, 8, (some .int))
def M_Bodies_run : zMR := (⟨RX0, "run", "(IIII)I"⟩, prog_2_method_8_code, 8, (some .int))
def M_Cube_init : zMR := (⟨RX1, "<init>", "()V"⟩, prog_3_method_1_code, 1, none)
def M_Cube_seen : zMR := (⟨RX1, "seen", "(II)I"⟩, prog_3_method_2_code, 3, (some .int))
def M_Cube_endOf : zMR := (⟨RX1, "endOf", "(I)I"⟩, prog_3_method_3_code, 1, (some .int))
def M_Cube_line : zMR := (⟨RX1, "line", "(I)I"⟩, prog_3_method_4_code, 5, (some .int))
def M_Cube_turnsInto : zMR := (⟨RX1, "turnsInto", "(LFourCubes$Cube;Z)Z"⟩, prog_3_method_5_code, 4, (some .boolean))
def M_Cube_isLike : zMR := (⟨RX1, "isLike", "(LFourCubes$Cube;IZ)Z"⟩, prog_3_method_6_code, 7, (some .boolean))
def M_Cube_turningsThatShow : zMR := (⟨RX1, "turningsThatShow", "(I)I"⟩, prog_3_method_7_code, 4, (some .int))
def M_Cube_turningsWith : zMR := (⟨RX1, "turningsWith", "(II)I"⟩, prog_3_method_8_code, 5, (some .int))
def M_Cube_mayShow : zMR := (⟨RX1, "mayShow", "(III)Z"⟩, prog_3_method_9_code, 4, (some .boolean))
def M_Cube_mayBe : zMR := (⟨RX1, "mayBe", "(II)Z"⟩, prog_3_method_10_code, 3, (some .boolean))
def M_Cube_hasCornerOf : zMR := (⟨RX1, "hasCornerOf", "(I)Z"⟩, prog_3_method_11_code, 4, (some .boolean))
def M_Law_init : zMR := (⟨RX2, "<init>", "()V"⟩, prog_4_method_1_code, 1, none)
def M_Law_takeByte : zMR := (⟨RX2, "takeByte", "(I)I"⟩, prog_4_method_2_code, 2, (some .int))
def M_Law_takeTape : zMR := (⟨RX2, "takeTape", "()I"⟩, prog_4_method_3_code, 3, (some .int))
def M_Law_peek : zMR := (⟨RX2, "peek", "()I"⟩, prog_4_method_4_code, 1, (some .int))
def M_Law_emit : zMR := (⟨RX2, "emit", "(I)V"⟩, prog_4_method_5_code, 2, none)
def M_Law_readText : zMR := (⟨RX2, "readText", "()Z"⟩, prog_4_method_6_code, 2, (some .boolean))
def M_Law_readLine : zMR := (⟨RX2, "readLine", "()Z"⟩, prog_4_method_7_code, 1, (some .boolean))
def M_Law_readLevel : zMR := (⟨RX2, "readLevel", "(II)Z"⟩, prog_4_method_8_code, 6, (some .boolean))
def M_Law_isJoin : zMR := (⟨RX2, "isJoin", "(II)Z"⟩, prog_4_method_9_code, 2, (some .boolean))
def M_Law_readOperand : zMR := (⟨RX2, "readOperand", "(I)Z"⟩, prog_4_method_10_code, 3, (some .boolean))
def M_Law_readInside : zMR := (⟨RX2, "readInside", "(I)Z"⟩, prog_4_method_11_code, 2, (some .boolean))
def M_Law_readTurned : zMR := (⟨RX2, "readTurned", "(II)Z"⟩, prog_4_method_12_code, 3, (some .boolean))
def M_Law_readNumber : zMR := (⟨RX2, "readNumber", "()V"⟩, prog_4_method_13_code, 3, none)
def M_Law_isDigit : zMR := (⟨RX2, "isDigit", "(I)Z"⟩, prog_4_method_14_code, 1, (some .boolean))
def M_Law_isName : zMR := (⟨RX2, "isName", "(I)Z"⟩, prog_4_method_15_code, 1, (some .boolean))
def M_Law_allows : zMR := (⟨RX2, "allows", "(IIII)Z"⟩, prog_4_method_16_code, 5, (some .boolean))
def M_Law_workOutAll : zMR := (⟨RX2, "workOutAll", "()V"⟩, prog_4_method_17_code, 3, none)
def M_Law_workedOut : zMR := (⟨RX2, "workedOut", "()I"⟩, prog_4_method_18_code, 6, (some .int))
def M_Law_named : zMR := (⟨RX2, "named", "(I)I"⟩, prog_4_method_19_code, 2, (some .int))
def M_Law_turned : zMR := (⟨RX2, "turned", "(II)I"⟩, prog_4_method_20_code, 2, (some .int))
def M_Law_joined : zMR := (⟨RX2, "joined", "(III)I"⟩, prog_4_method_21_code, 3, (some .int))
def M_Past_init : zMR := (⟨RX3, "<init>", "()V"⟩, prog_5_method_1_code, 1, none)
def M_Past_add : zMR := (⟨RX3, "add", "(III)V"⟩, prog_5_method_2_code, 4, none)
def M_Past_forgetOldest : zMR := (⟨RX3, "forgetOldest", "()V"⟩, prog_5_method_3_code, 2, none)
def M_Rings_init : zMR := (⟨RX4, "<init>", "()V"⟩, prog_6_method_1_code, 1, none)
def M_Rings_gather : zMR := (⟨RX4, "gather", "([LFourCubes$Cube;I)V"⟩, prog_6_method_2_code, 4, none)
def M_Rings_isChoice : zMR := (⟨RX4, "isChoice", "(I)Z"⟩, prog_6_method_3_code, 1, (some .boolean))
def M_Rings_isRing : zMR := (⟨RX4, "isRing", "([LFourCubes$Cube;I)Z"⟩, prog_6_method_4_code, 5, (some .boolean))
def M_Rings_parted : zMR := (⟨RX4, "parted", "()I"⟩, prog_6_method_5_code, 4, (some .int))
def M_Rings_shareNone : zMR := (⟨RX4, "shareNone", "(I)Z"⟩, prog_6_method_6_code, 3, (some .boolean))
def M_Search_init : zMR := (⟨RX5, "<init>", "()V"⟩, prog_7_method_1_code, 1, none)
def M_Search_pairOf : zMR := (⟨RX5, "pairOf", "(II)I"⟩, prog_7_method_2_code, 2, (some .int))
def M_Search_fitAny : zMR := (⟨RX5, "fitAny", "(I)V"⟩, prog_7_method_3_code, 3, none)
def M_Search_fitting : zMR := (⟨RX5, "fitting", "(II)I"⟩, prog_7_method_4_code, 5, (some .int))
def M_Search_answer : zMR := (⟨RX5, "answer", "(I)I"⟩, prog_7_method_5_code, 2, (some .int))
def M_Search_hasAny : zMR := (⟨RX5, "hasAny", "()Z"⟩, prog_7_method_6_code, 1, (some .boolean))
def M_Search_total : zMR := (⟨RX5, "total", "(I)I"⟩, prog_7_method_7_code, 5, (some .int))
def M_Search_find : zMR := (⟨RX5, "find", "(I)Z"⟩, prog_7_method_8_code, 4, (some .boolean))
def M_Shelf_init : zMR := (⟨RX6, "<init>", "()V"⟩, prog_8_method_1_code, 1, none)
def M_Shelf_isBare : zMR := (⟨RX6, "isBare", "()Z"⟩, prog_8_method_2_code, 1, (some .boolean))
def M_Shelf_isRow : zMR := (⟨RX6, "isRow", "()Z"⟩, prog_8_method_3_code, 1, (some .boolean))
def M_Shelf_clear : zMR := (⟨RX6, "clear", "()V"⟩, prog_8_method_4_code, 1, none)
def M_Shelf_holdBody : zMR := (⟨RX6, "holdBody", "(I)V"⟩, prog_8_method_5_code, 2, none)
def M_Shelf_holdRow : zMR := (⟨RX6, "holdRow", "(II)V"⟩, prog_8_method_6_code, 3, none)
def M_Shelf_store : zMR := (⟨RX6, "store", "(IJ)V"⟩, prog_8_method_7_code, 4, none)
def M_Shelf_hasStretch : zMR := (⟨RX6, "hasStretch", "(II)Z"⟩, prog_8_method_8_code, 3, (some .boolean))
def M_Shelf_hasSixColours : zMR := (⟨RX6, "hasSixColours", "(I)Z"⟩, prog_8_method_9_code, 3, (some .boolean))
def M_Tower_init : zMR := (⟨RX7, "<init>", "([LFourCubes$Cube;LFourCubes$Law;LFourCubes$Search;)V"⟩, prog_9_method_1_code, 5, none)
def M_Tower_pile : zMR := (⟨RX7, "pile", "(I)V"⟩, prog_9_method_2_code, 3, none)
def M_Tower_firstWrong : zMR := (⟨RX7, "firstWrong", "()I"⟩, prog_9_method_3_code, 6, (some .int))
def M_Tower_startFrom : zMR := (⟨RX7, "startFrom", "(I)V"⟩, prog_9_method_4_code, 3, none)
def M_Tower_fitAll : zMR := (⟨RX7, "fitAll", "()V"⟩, prog_9_method_5_code, 3, none)
def M_Tower_fitPair : zMR := (⟨RX7, "fitPair", "(I)V"⟩, prog_9_method_6_code, 5, none)
def M_Tower_findAllowed : zMR := (⟨RX7, "findAllowed", "(II)V"⟩, prog_9_method_7_code, 8, none)
def M_Tower_goes : zMR := (⟨RX7, "goes", "()Z"⟩, prog_9_method_8_code, 1, (some .boolean))
def M_Tower_goesWith : zMR := (⟨RX7, "goesWith", "(LFourCubes$Cube;II)Z"⟩, prog_9_method_9_code, 6, (some .boolean))
def M_Tower_findMends : zMR := (⟨RX7, "findMends", "(Z)V"⟩, prog_9_method_10_code, 6, none)
def M_Tower_stuckFrom : zMR := (⟨RX7, "stuckFrom", "(I)I"⟩, prog_9_method_11_code, 4, (some .int))
def M_Tower_looksFrom : zMR := (⟨RX7, "looksFrom", "(I)I"⟩, prog_9_method_12_code, 6, (some .int))
def M_Tower_leastWrong : zMR := (⟨RX7, "leastWrong", "()I"⟩, prog_9_method_13_code, 3, (some .int))
def M_Tower_weigh : zMR := (⟨RX7, "weigh", "(I)I"⟩, prog_9_method_14_code, 7, (some .int))
def M_Tower_descend : zMR := (⟨RX7, "descend", "(II)V"⟩, prog_9_method_15_code, 4, none)
def M_Tower_costOf : zMR := (⟨RX7, "costOf", "(II)I"⟩, prog_9_method_16_code, 5, (some .int))
def M_Tower_fitWall : zMR := (⟨RX7, "fitWall", "()V"⟩, prog_9_method_17_code, 2, none)
def M_Tower_touch : zMR := (⟨RX7, "touch", "(III)V"⟩, prog_9_method_18_code, 7, none)
def M_Four_init : zMR := (⟨RX8, "<init>", "()V"⟩, prog_1_method_1_code, 2, none)
def M_Four_cube : zMR := (⟨RX8, "cube", "(I)I"⟩, prog_1_method_2_code, 4, (some .int))
def M_Four_cubes : zMR := (⟨RX8, "cubes", "(III)I"⟩, prog_1_method_3_code, 7, (some .int))
def M_Four_paint : zMR := (⟨RX8, "paint", "(II)I"⟩, prog_1_method_4_code, 4, (some .int))
def M_Four_of : zMR := (⟨RX8, "of", "(II)I"⟩, prog_1_method_5_code, 3, (some .int))
def M_Four_box : zMR := (⟨RX8, "box", "(I)I"⟩, prog_1_method_6_code, 3, (some .int))
def M_Four_feed : zMR := (⟨RX8, "feed", "(I)I"⟩, prog_1_method_7_code, 2, (some .int))
def M_Four_law : zMR := (⟨RX8, "law", "()I"⟩, prog_1_method_8_code, 1, (some .int))
def M_Four_turn : zMR := (⟨RX8, "turn", "(II)I"⟩, prog_1_method_9_code, 4, (some .int))
def M_Four_shows : zMR := (⟨RX8, "shows", "(III)I"⟩, prog_1_method_10_code, 4, (some .int))
def M_Four_judge : zMR := (⟨RX8, "judge", "()I"⟩, prog_1_method_11_code, 1, (some .int))
def M_Four_ways : zMR := (⟨RX8, "ways", "(II)I"⟩, prog_1_method_12_code, 3, (some .int))
def M_Four_near : zMR := (⟨RX8, "near", "(I)I"⟩, prog_1_method_13_code, 2, (some .int))
def M_Four_build : zMR := (⟨RX8, "build", "(II)I"⟩, prog_1_method_14_code, 3, (some .int))
def M_Four_mend : zMR := (⟨RX8, "mend", "(I)I"⟩, prog_1_method_15_code, 2, (some .int))
def M_Four_open : zMR := (⟨RX8, "open", "(I)I"⟩, prog_1_method_16_code, 4, (some .int))
def M_Four_swap : zMR := (⟨RX8, "swap", "(I)I"⟩, prog_1_method_17_code, 5, (some .int))
def M_Four_rings : zMR := (⟨RX8, "rings", "(I)I"⟩, prog_1_method_18_code, 2, (some .int))
def M_Four_alike : zMR := (⟨RX8, "alike", "(I)I"⟩, prog_1_method_19_code, 4, (some .int))
def M_Four_many : zMR := (⟨RX8, "many", "(II)J"⟩, prog_1_method_20_code, 11, (some .long))
def M_Four_sight : zMR := (⟨RX8, "sight", "(II)I"⟩, prog_1_method_21_code, 5, (some .int))
def M_Four_wall : zMR := (⟨RX8, "wall", "(I)I"⟩, prog_1_method_22_code, 2, (some .int))
def M_Four_great : zMR := (⟨RX8, "great", "(I)I"⟩, prog_1_method_23_code, 4, (some .int))
def M_Four_undo : zMR := (⟨RX8, "undo", "()I"⟩, prog_1_method_24_code, 1, (some .int))
def M_Four_redo : zMR := (⟨RX8, "redo", "()I"⟩, prog_1_method_25_code, 1, (some .int))
def M_Four_body : zMR := (⟨RX8, "body", "(I)I"⟩, prog_1_method_26_code, 2, (some .int))
def M_Four_act : zMR := (⟨RX8, "act", "(III)I"⟩, prog_1_method_27_code, 4, (some .int))
def M_Four_trace : zMR := (⟨RX8, "trace", "(I)I"⟩, prog_1_method_28_code, 2, (some .int))
def M_Four_keep : zMR := (⟨RX8, "keep", "(II)I"⟩, prog_1_method_29_code, 3, (some .int))
def M_Four_row : zMR := (⟨RX8, "row", "(III)I"⟩, prog_1_method_30_code, 4, (some .int))
def M_Four_put : zMR := (⟨RX8, "put", "(IIJ)I"⟩, prog_1_method_31_code, 6, (some .int))
def M_Four_element : zMR := (⟨RX8, "element", "(II)J"⟩, prog_1_method_32_code, 3, (some .long))
def M_Four_shift : zMR := (⟨RX8, "shift", "(IIIII)I"⟩, prog_1_method_33_code, 8, (some .int))
def M_Four_taken : zMR := (⟨RX8, "taken", "(II)I"⟩, prog_1_method_34_code, 4, (some .int))
def M_Four_count : zMR := (⟨RX8, "count", "(I)I"⟩, prog_1_method_35_code, 2, (some .int))
def M_Four_areSixColours : zMR := (⟨RX8, "areSixColours", "(I)Z"⟩, prog_1_method_36_code, 3, (some .boolean))
def M_Four_isShelf : zMR := (⟨RX8, "isShelf", "(I)Z"⟩, prog_1_method_37_code, 1, (some .boolean))
def M_Four_isTurning : zMR := (⟨RX8, "isTurning", "(I)Z"⟩, prog_1_method_38_code, 1, (some .boolean))
def M_Four_isKind : zMR := (⟨RX8, "isKind", "(I)Z"⟩, prog_1_method_39_code, 1, (some .boolean))
def M_Four_isCube : zMR := (⟨RX8, "isCube", "(I)Z"⟩, prog_1_method_40_code, 2, (some .boolean))
def M_Four_areCubes : zMR := (⟨RX8, "areCubes", "(I)Z"⟩, prog_1_method_41_code, 2, (some .boolean))
def M_Four_isFace : zMR := (⟨RX8, "isFace", "(I)Z"⟩, prog_1_method_42_code, 2, (some .boolean))
def M_Four_colourAt : zMR := (⟨RX8, "colourAt", "(I)I"⟩, prog_1_method_43_code, 2, (some .int))
def M_Four_setColour : zMR := (⟨RX8, "setColour", "(II)V"⟩, prog_1_method_44_code, 3, none)
def M_Four_goesExchanged : zMR := (⟨RX8, "goesExchanged", "(II)Z"⟩, prog_1_method_45_code, 3, (some .boolean))
def M_Four_refusalOf : zMR := (⟨RX8, "refusalOf", "(II)I"⟩, prog_1_method_46_code, 4, (some .int))
def M_Model_init : zMR := (⟨RX9, "<init>", "()V"⟩, prog_11_method_1_code, 1, none)
def M_Model_in : zMR := (⟨RX9, "in", "(III)Z"⟩, prog_11_method_3_code, 3, (some .boolean))
def M_Model_bitsOf : zMR := (⟨RX9, "bitsOf", "(I)I"⟩, prog_11_method_4_code, 3, (some .int))
def M_Model_isCube : zMR := (⟨RX9, "isCube", "(I)Z"⟩, prog_11_method_5_code, 2, (some .boolean))
def M_Model_isFace : zMR := (⟨RX9, "isFace", "(I)Z"⟩, prog_11_method_6_code, 2, (some .boolean))
def M_Model_isColour : zMR := (⟨RX9, "isColour", "(I)Z"⟩, prog_11_method_7_code, 1, (some .boolean))
def M_Model_cube : zMR := (⟨RX9, "cube", "(I)I"⟩, prog_11_method_8_code, 4, (some .int))
def M_Model_cubes : zMR := (⟨RX9, "cubes", "(III)I"⟩, prog_11_method_9_code, 9, (some .int))
def M_Model_valueAt : zMR := (⟨RX9, "valueAt", "(II)I"⟩, prog_11_method_10_code, 3, (some .int))
def M_Model_lays : zMR := (⟨RX9, "lays", "(III)V"⟩, prog_11_method_11_code, 4, none)
def M_Model_changes : zMR := (⟨RX9, "changes", "(III)I"⟩, prog_11_method_12_code, 6, (some .int))
def M_Model_undo : zMR := (⟨RX9, "undo", "()I"⟩, prog_11_method_13_code, 1, (some .int))
def M_Model_redo : zMR := (⟨RX9, "redo", "()I"⟩, prog_11_method_14_code, 1, (some .int))
def M_Model_paint : zMR := (⟨RX9, "paint", "(II)I"⟩, prog_11_method_15_code, 3, (some .int))
def M_Model_lineOf : zMR := (⟨RX9, "lineOf", "(II)I"⟩, prog_11_method_16_code, 5, (some .int))
def M_Model_of : zMR := (⟨RX9, "of", "(II)I"⟩, prog_11_method_17_code, 3, (some .int))
def M_Model_box : zMR := (⟨RX9, "box", "(I)I"⟩, prog_11_method_18_code, 3, (some .int))
def M_Model_feed : zMR := (⟨RX9, "feed", "(I)I"⟩, prog_11_method_19_code, 2, (some .int))
def M_Model_look : zMR := (⟨RX9, "look", "()I"⟩, prog_11_method_20_code, 1, (some .int))
def M_Model_faulty : zMR := (⟨RX9, "faulty", "()V"⟩, prog_11_method_21_code, 1, none)
def M_Model_addStep : zMR := (⟨RX9, "addStep", "(II)V"⟩, prog_11_method_22_code, 3, none)
def M_Model_nameOf : zMR := (⟨RX9, "nameOf", "(I)I"⟩, prog_11_method_23_code, 1, (some .int))
def M_Model_opens : zMR := (⟨RX9, "opens", "()Z"⟩, prog_11_method_24_code, 1, (some .boolean))
def M_Model_figure : zMR := (⟨RX9, "figure", "()V"⟩, prog_11_method_25_code, 3, none)
def M_Model_operand : zMR := (⟨RX9, "operand", "()V"⟩, prog_11_method_26_code, 2, none)
def M_Model_product : zMR := (⟨RX9, "product", "()V"⟩, prog_11_method_27_code, 2, none)
def M_Model_sum : zMR := (⟨RX9, "sum", "()V"⟩, prog_11_method_28_code, 2, none)
def M_Model_compared : zMR := (⟨RX9, "compared", "()V"⟩, prog_11_method_29_code, 2, none)
def M_Model_both : zMR := (⟨RX9, "both", "()V"⟩, prog_11_method_30_code, 1, none)
def M_Model_either : zMR := (⟨RX9, "either", "()V"⟩, prog_11_method_31_code, 1, none)
def M_Model_line : zMR := (⟨RX9, "line", "()V"⟩, prog_11_method_32_code, 2, none)
def M_Model_readText : zMR := (⟨RX9, "readText", "(I)I"⟩, prog_11_method_33_code, 3, (some .int))
def M_Model_twoOf : zMR := (⟨RX9, "twoOf", "(III)I"⟩, prog_11_method_34_code, 3, (some .int))
def M_Model_worked : zMR := (⟨RX9, "worked", "(III)I"⟩, prog_11_method_35_code, 7, (some .int))
def M_Model_gives : zMR := (⟨RX9, "gives", "(I)I"⟩, prog_11_method_36_code, 4, (some .int))
def M_Model_law : zMR := (⟨RX9, "law", "()I"⟩, prog_11_method_37_code, 2, (some .int))
def M_Model_turn : zMR := (⟨RX9, "turn", "(II)I"⟩, prog_11_method_38_code, 4, (some .int))
def M_Model_opposite : zMR := (⟨RX9, "opposite", "(I)I"⟩, prog_11_method_39_code, 1, (some .int))
def M_Model_showsOf : zMR := (⟨RX9, "showsOf", "(III)I"⟩, prog_11_method_40_code, 6, (some .int))
def M_Model_shows : zMR := (⟨RX9, "shows", "(III)I"⟩, prog_11_method_41_code, 4, (some .int))
def M_Model_mayAt : zMR := (⟨RX9, "mayAt", "(IIIII)I"⟩, prog_11_method_42_code, 5, (some .int))
def M_Model_findMay : zMR := (⟨RX9, "findMay", "()V"⟩, prog_11_method_43_code, 6, none)
def M_Model_asks : zMR := (⟨RX9, "asks", "(IIIII)Z"⟩, prog_11_method_44_code, 6, (some .boolean))
def M_Model_findTower : zMR := (⟨RX9, "findTower", "(I)V"⟩, prog_11_method_45_code, 3, none)
def M_Model_mayBe : zMR := (⟨RX9, "mayBe", "(IIIII)Z"⟩, prog_11_method_46_code, 8, (some .boolean))
def M_Model_judge : zMR := (⟨RX9, "judge", "()I"⟩, prog_11_method_47_code, 4, (some .int))
def M_Model_isHeld : zMR := (⟨RX9, "isHeld", "(I)Z"⟩, prog_11_method_48_code, 2, (some .boolean))
def M_Model_isTried : zMR := (⟨RX9, "isTried", "(II)Z"⟩, prog_11_method_49_code, 3, (some .boolean))
def M_Model_wrongWith : zMR := (⟨RX9, "wrongWith", "(II)I"⟩, prog_11_method_50_code, 6, (some .int))
def M_Model_goOn : zMR := (⟨RX9, "goOn", "(I)V"⟩, prog_11_method_51_code, 3, none)
def M_Model_findWays : zMR := (⟨RX9, "findWays", "(IIZ)V"⟩, prog_11_method_52_code, 4, none)
def M_Model_hasWay : zMR := (⟨RX9, "hasWay", "(I)Z"⟩, prog_11_method_53_code, 2, (some .boolean))
def M_Model_isSet : zMR := (⟨RX9, "isSet", "(I)Z"⟩, prog_11_method_54_code, 2, (some .boolean))
def M_Model_ways : zMR := (⟨RX9, "ways", "(II)I"⟩, prog_11_method_55_code, 3, (some .int))
def M_Model_findNear : zMR := (⟨RX9, "findNear", "(II)V"⟩, prog_11_method_56_code, 4, none)
def M_Model_near : zMR := (⟨RX9, "near", "(I)I"⟩, prog_11_method_57_code, 2, (some .int))
def M_Model_build : zMR := (⟨RX9, "build", "(II)I"⟩, prog_11_method_58_code, 7, (some .int))
def M_Model_mend : zMR := (⟨RX9, "mend", "(I)I"⟩, prog_11_method_59_code, 7, (some .int))
def M_Model_open : zMR := (⟨RX9, "open", "(I)I"⟩, prog_11_method_60_code, 5, (some .int))
def M_Model_swap : zMR := (⟨RX9, "swap", "(I)I"⟩, prog_11_method_61_code, 6, (some .int))
def M_Model_isRing : zMR := (⟨RX9, "isRing", "(I)Z"⟩, prog_11_method_62_code, 5, (some .boolean))
def M_Model_areParted : zMR := (⟨RX9, "areParted", "(II)Z"⟩, prog_11_method_63_code, 6, (some .boolean))
def M_Model_rings : zMR := (⟨RX9, "rings", "(I)I"⟩, prog_11_method_64_code, 7, (some .int))
def M_Model_isAs : zMR := (⟨RX9, "isAs", "(IIIZ)Z"⟩, prog_11_method_65_code, 7, (some .boolean))
def M_Model_areAlike : zMR := (⟨RX9, "areAlike", "(IIZ)Z"⟩, prog_11_method_66_code, 5, (some .boolean))
def M_Model_alike : zMR := (⟨RX9, "alike", "(I)I"⟩, prog_11_method_67_code, 2, (some .int))
def M_Model_many : zMR := (⟨RX9, "many", "(II)J"⟩, prog_11_method_68_code, 11, (some .long))
def M_Model_doesShow : zMR := (⟨RX9, "doesShow", "(IIII)Z"⟩, prog_11_method_69_code, 6, (some .boolean))
def M_Model_sightOf : zMR := (⟨RX9, "sightOf", "(II)I"⟩, prog_11_method_70_code, 5, (some .int))
def M_Model_sight : zMR := (⟨RX9, "sight", "(II)I"⟩, prog_11_method_71_code, 5, (some .int))
def M_Model_touch : zMR := (⟨RX9, "touch", "(IIIII)Z"⟩, prog_11_method_72_code, 8, (some .boolean))
def M_Model_fitsWall : zMR := (⟨RX9, "fitsWall", "(II)Z"⟩, prog_11_method_73_code, 3, (some .boolean))
def M_Model_goWall : zMR := (⟨RX9, "goWall", "(I)V"⟩, prog_11_method_74_code, 3, none)
def M_Model_wall : zMR := (⟨RX9, "wall", "(I)I"⟩, prog_11_method_75_code, 2, (some .int))
def M_Model_isOf : zMR := (⟨RX9, "isOf", "(III)Z"⟩, prog_11_method_76_code, 4, (some .boolean))
def M_Model_isGreat : zMR := (⟨RX9, "isGreat", "(II)Z"⟩, prog_11_method_77_code, 3, (some .boolean))
def M_Model_great : zMR := (⟨RX9, "great", "(I)I"⟩, prog_11_method_78_code, 4, (some .int))
def M_Model_isBody : zMR := (⟨RX9, "isBody", "(I)Z"⟩, prog_11_method_79_code, 2, (some .boolean))
def M_Model_ran : zMR := (⟨RX9, "ran", "(I)V"⟩, prog_11_method_80_code, 2, none)
def M_Model_trace : zMR := (⟨RX9, "trace", "(I)I"⟩, prog_11_method_81_code, 2, (some .int))
def M_Model_body : zMR := (⟨RX9, "body", "(I)I"⟩, prog_11_method_82_code, 2, (some .int))
def M_Model_isUnder : zMR := (⟨RX9, "isUnder", "(II)Z"⟩, prog_11_method_83_code, 2, (some .boolean))
def M_Model_plainTurns : zMR := (⟨RX9, "plainTurns", "(II)I"⟩, prog_11_method_84_code, 3, (some .int))
def M_Model_toldTurns : zMR := (⟨RX9, "toldTurns", "(II)I"⟩, prog_11_method_85_code, 3, (some .int))
def M_Model_turningBy : zMR := (⟨RX9, "turningBy", "(II)I"⟩, prog_11_method_86_code, 3, (some .int))
def M_Model_plainShows : zMR := (⟨RX9, "plainShows", "(II)I"⟩, prog_11_method_87_code, 3, (some .int))
def M_Model_wallShows : zMR := (⟨RX9, "wallShows", "(II)I"⟩, prog_11_method_88_code, 3, (some .int))
def M_Model_showing : zMR := (⟨RX9, "showing", "(II)I"⟩, prog_11_method_89_code, 4, (some .int))
def M_Model_plainLies : zMR := (⟨RX9, "plainLies", "(II)I"⟩, prog_11_method_90_code, 3, (some .int))
def M_Model_lying : zMR := (⟨RX9, "lying", "(II)I"⟩, prog_11_method_91_code, 4, (some .int))
def M_Model_plainTells : zMR := (⟨RX9, "plainTells", "(II)I"⟩, prog_11_method_92_code, 4, (some .int))
def M_Model_rowTells : zMR := (⟨RX9, "rowTells", "(II)I"⟩, prog_11_method_93_code, 3, (some .int))
def M_Model_telling : zMR := (⟨RX9, "telling", "(II)I"⟩, prog_11_method_94_code, 3, (some .int))
def M_Model_act : zMR := (⟨RX9, "act", "(III)I"⟩, prog_11_method_95_code, 4, (some .int))
def M_Model_count : zMR := (⟨RX9, "count", "(I)I"⟩, prog_11_method_96_code, 2, (some .int))
def M_Model_isShelf : zMR := (⟨RX9, "isShelf", "(I)Z"⟩, prog_11_method_97_code, 1, (some .boolean))
def M_Model_keep : zMR := (⟨RX9, "keep", "(II)I"⟩, prog_11_method_98_code, 3, (some .int))
def M_Model_row : zMR := (⟨RX9, "row", "(III)I"⟩, prog_11_method_99_code, 5, (some .int))
def M_Model_whyNoPlace : zMR := (⟨RX9, "whyNoPlace", "(II)I"⟩, prog_11_method_100_code, 3, (some .int))
def M_Model_put : zMR := (⟨RX9, "put", "(IIJ)I"⟩, prog_11_method_101_code, 7, (some .int))
def M_Model_element : zMR := (⟨RX9, "element", "(II)J"⟩, prog_11_method_102_code, 3, (some .long))
def M_Model_shift : zMR := (⟨RX9, "shift", "(IIIII)I"⟩, prog_11_method_103_code, 7, (some .int))
def M_Model_taken : zMR := (⟨RX9, "taken", "(II)I"⟩, prog_11_method_104_code, 3, (some .int))
def M_Integer_numberOfTrailingZeros_0f7a4 : zMR := (⟨RJ6, "numberOfTrailingZeros", "(I)I"⟩, prog_12_method_48_code, 2, (some .int))
def M_Integer_bitCount_0f7a4 : zMR := (⟨RJ6, "bitCount", "(I)I"⟩, prog_12_method_49_code, 1, (some .int))
def M_Math_max_7cf53 : zMR := (⟨RJ9, "max", "(II)I"⟩, prog_13_method_65_code, 2, (some .int))
def M_Math_min_7cf53 : zMR := (⟨RJ9, "min", "(II)I"⟩, prog_13_method_69_code, 2, (some .int))
def M_Arrays_fill_d0a16 : zMR := (⟨RJ7, "fill", "([JJ)V"⟩, prog_15_method_101_code, 5, none)
def M_Arrays_fill_53178 : zMR := (⟨RJ7, "fill", "([II)V"⟩, prog_15_method_103_code, 4, none)
def M_Arrays_fill_031fb : zMR := (⟨RJ7, "fill", "([BB)V"⟩, prog_15_method_109_code, 4, none)
end
section
/-! MY LAYER: values, memory and cells by logical names (pool, index); one judgement zW over the kit's W; one contract zC over the kit's Met -/
abbrev zR : Type := Nat × Nat
abbrev zV : Type := Int32 ⊕ (Int64 ⊕ zR)
abbrev zI (x : Int32) : zV := Sum.inl x
abbrev zJ (x : Int64) : zV := Sum.inr (Sum.inl x)
abbrev zP (p k : Nat) : zV := Sum.inr (Sum.inr (p, k))
/-- memory: ints, longs, the index part of references that change; by pool, index, place -/
abbrev zM : Type := (Nat → Nat → Nat → Int32) × (Nat → Nat → Nat → Int64) × (Nat → Nat → Nat → Nat)
/-- kinds of places: 0 int, 1 long, 2 a reference that never changes (pool, index by cell and place), 3 one that may (pool) -/
abbrev zK : Type := Nat × Nat × (Nat → Nat → Nat)
/-- a pool: how many cells; objects (class, places) or arrays (type, length, kind) -/
abbrev zS : Type := Nat × ((Nat × List zK) ⊕ (FieldType × Nat × zK))
abbrev zi : zK := (0, 0, fun _ _ => 0)
abbrev zj : zK := (1, 0, fun _ _ => 0)
abbrev zc (p : Nat) : zK := (2, p, fun _ _ => 0)
abbrev zk (p : Nat) : zK := (2, p, fun k _ => k)
abbrev ze (p : Nat) : zK := (2, p, fun _ j => j)
abbrev zv (p : Nat) : zK := (3, p, fun _ _ => 0)
/-- an instance: class numbers, slots, array classes, addresses, the cells that there are -/
abbrev zE : Type := (Nat → ClassId) × (Nat → Nat → Nat) × (FieldType → ClassId) × (Nat → Nat → Nat) × List zR
abbrev zeD (ι : zE) : va_G := (ι.1, ι.2.1)
abbrev zeT (ι : zE) : FieldType → ClassId := ι.2.2.1
abbrev zeR (ι : zE) : Nat → Nat → Nat := ι.2.2.2.1
abbrev zeK (ι : zE) : List zR := ι.2.2.2.2
def z_tv (r : Nat → Nat → Nat) : zV → Value
  | .inl x => .int x
  | .inr (.inl x) => .long x
  | .inr (.inr q) => .ref (r q.1 q.2)
def z_sv (mem : zM) (p k j : Nat) (sk : zK) : zV := match sk.1 with
  | 0 => zI (mem.1 p k j)
  | 1 => zJ (mem.2.1 p k j)
  | 2 => zP sk.2.1 (sk.2.2 k j)
  | _ => zP sk.2.1 (mem.2.2 p k j)
def z_fs (r : Nat → Nat → Nat) (mem : zM) (p k : Nat) (sks : List zK) : List Value := (List.range sks.length).map fun j => z_tv r (z_sv mem p k j (sks.getD j zi))
def z_ar (r : Nat → Nat → Nat) (mem : zM) (p k n : Nat) (sk : zK) : vp_A := (n, match sk.1 with
  | 0 => .inl (mem.1 p k)
  | 1 => .inr (.inl (mem.2.1 p k))
  | 2 => .inr (.inr (.inr (.inr (fun j => some (r sk.2.1 (sk.2.2 k j))))))
  | _ => .inr (.inr (.inr (.inr (fun j => some (r sk.2.1 (mem.2.2 p k j)))))))
-- THE POOLS
def zsh (p : Nat) : zS := match p with
  | 0 => (1, .inl (8, [zc 1, zi, zi, zc 4, zc 9, zc 20, zc 23, zc 27, zc 30]))
  | 1 => (1, .inr (.object "FourCubes$Cube", 8, ze 2))
  | 2 => (8, .inl (1, [zk 3, zi]))
  | 3 => (8, .inr (.int, 6, zi))
  | 4 => (1, .inl (2, [zc 5, zi, zi, zv 6, zi, zv 6, zi, zc 7, zi, zi, zi, zi, zi, zc 8]))
  | 5 => (1, .inr (.int, 120, zi))
  | 6 => (2, .inr (.int, 121, zi))
  | 7 => (1, .inr (.int, 121, zi))
  | 8 => (1, .inr (.boolean, 1176, zi))
  | 9 => (1, .inl (7, [zc 1, zc 4, zc 10, zc 14, zc 15, zi, zc 16, zc 17, zc 18, zc 19, zi, zi, zi]))
  | 10 => (1, .inl (5, [zi, zc 11, zc 12, zc 13]))
  | 11 => (1, .inr (.int, 4, zi))
  | 12 => (1, .inr (.int, 144, zi))
  | 13 => (1, .inr (.int, 4, zi))
  | 14 => (1, .inr (.object "FourCubes$Cube", 4, zv 2))
  | 15 => (1, .inr (.int, 4, zi))
  | 16 => (1, .inr (.int, 7, zi))
  | 17 => (1, .inr (.int, 7, zi))
  | 18 => (1, .inr (.byte, 3456, zi))
  | 19 => (1, .inr (.int, 5, zi))
  | 20 => (1, .inl (4, [zc 21, zc 22, zi, zi]))
  | 21 => (1, .inr (.int, 81, zi))
  | 22 => (1, .inr (.int, 7, zi))
  | 23 => (1, .inl (3, [zc 24, zc 25, zc 26, zi, zi]))
  | 24 => (1, .inr (.int, 40, zi))
  | 25 => (1, .inr (.int, 40, zi))
  | 26 => (1, .inr (.int, 40, zi))
  | 27 => (1, .inl (0, [zc 28, zi, zc 29, zi, zi]))
  | 28 => (1, .inr (.int, 50, zi))
  | 29 => (1, .inr (.int, 24, zi))
  | 30 => (1, .inr (.object "FourCubes$Shelf", 6, ze 31))
  | 31 => (6, .inl (6, [zi, zi, zi, zi, zk 32]))
  | 32 => (6, .inr (.long, 60, zj))
  | 40 => (1, .inl (9, [zi, zi, zc 41, zc 42, zi, zc 43, zi, zi, zc 44, zc 45, zc 46, zc 47, zc 48, zi, zi, zi, zi, zi, zc 49, zc 50, zc 51, zc 52, zc 53, zc 54, zc 55, zi, zc 56, zc 57, zi, zc 58, zc 59, zi, zi, zi, zi, zc 60, zc 61, zi, zc 62, zi, zc 63, zc 64, zc 65, zc 66, zc 67]))
  | 41 => (1, .inr (.int, 48, zi))
  | 42 => (1, .inr (.int, 8, zi))
  | 43 => (1, .inr (.int, 24, zi))
  | 44 => (1, .inr (.int, 40, zi))
  | 45 => (1, .inr (.int, 40, zi))
  | 46 => (1, .inr (.int, 40, zi))
  | 47 => (1, .inr (.int, 40, zi))
  | 48 => (1, .inr (.byte, 120, zi))
  | 49 => (1, .inr (.byte, 260, zi))
  | 50 => (1, .inr (.int, 260, zi))
  | 51 => (1, .inr (.int, 2, zi))
  | 52 => (1, .inr (.short, 122, zi))
  | 53 => (1, .inr (.short, 122, zi))
  | 54 => (1, .inr (.int, 5, zi))
  | 55 => (1, .inr (.int, 130, zi))
  | 56 => (1, .inr (.boolean, 2304, zi))
  | 57 => (1, .inr (.int, 8, zi))
  | 58 => (1, .inr (.int, 8, zi))
  | 59 => (1, .inr (.int, 8, zi))
  | 60 => (1, .inr (.int, 7, zi))
  | 61 => (1, .inr (.int, 81, zi))
  | 62 => (1, .inr (.int, 50, zi))
  | 63 => (1, .inr (.int, 24, zi))
  | 64 => (1, .inr (.int, 6, zi))
  | 65 => (1, .inr (.int, 6, zi))
  | 66 => (1, .inr (.long, 360, zj))
  | 67 => (1, .inr (.long, 60, zj))
  | _ => (0, .inr (.int, 0, zi))
def z_cell (ι : zE) (mem : zM) (q : zR) : Nat × va_E := (zeR ι q.1 q.2, match (zsh q.1).2 with
  | .inl o => .inr (o.1, z_fs (zeR ι) mem q.1 q.2 o.2)
  | .inr a => .inl (zeT ι a.1, z_ar (zeR ι) mem q.1 q.2 a.2.1 a.2.2))
def z_ws (ι : zE) (mem : zM) : va_W := (zeK ι).map (z_cell ι mem)
def zTys (ι : zE) : List (ClassId × FieldType) := [(zeT ι .int, .int), (zeT ι .byte, .byte), (zeT ι .short, .short), (zeT ι .boolean, .boolean), (zeT ι .long, .long), (zeT ι (.object "FourCubes$Cube"), .object "FourCubes$Cube"), (zeT ι (.object "FourCubes$Shelf"), .object "FourCubes$Shelf")]
-- the tables that nobody writes: pools 90 on
def zstv (p : Nat) : String × String × List Int32 := match p with
  | 90 => (RX8, "OPPOSITE", [2, 3, 0, 1, 5, 4])
  | 91 => (RX8, "STANDING", [5, 1, 4, 3, 0, 2, 1, 4, 3, 5, 0, 2, 4, 3, 5, 1, 0, 2, 3, 5, 1, 4, 0, 2, 0, 5, 2, 4, 1, 3, 5, 2, 4, 0, 1, 3, 2, 4, 0, 5, 1, 3, 4, 0, 5, 2, 1, 3, 4, 1, 5, 3, 2, 0, 1, 5, 3, 4, 2, 0, 5, 3, 4, 1, 2, 0, 3, 4, 1, 5, 2, 0, 0, 4, 2, 5, 3, 1, 4, 2, 5, 0, 3, 1, 2, 5, 0, 4, 3, 1, 5, 0, 4, 2, 3, 1, 0, 1, 2, 3, 4, 5, 1, 2, 3, 0, 4, 5, 2, 3, 0, 1, 4, 5, 3, 0, 1, 2, 4, 5, 2, 1, 0, 3, 5, 4, 1, 0, 3, 2, 5, 4, 0, 3, 2, 1, 5, 4, 3, 2, 1, 0, 5, 4])
  | 92 => (RX8, "LOWER", [0, 0, 1, 0, 1, 2])
  | 93 => (RX8, "HIGHER", [1, 2, 2, 3, 3, 3])
  | 94 => (RX0, "ABOVE", [-1, 0, 0, 2, 1, 4, 0, 6])
  | _ => (RX0, "OWN", [1, 10, 11, 2, 20, 0, 0, 0, 0, 30, 0, 0, 0, 41, 40, 0, 0, 0, 0, 50, 0, 0, 60, 61, 70, 0, 0, 0, 81, 80, 0, 0])
def zstf (p j : Nat) : Int32 := (zstv p).2.2.getD j 0
def zstN (p : Nat) : Nat := (zstv p).2.2.length
def z_stat (ι : zE) (A : Nat → Prop) (U : State) (H : Heap) : Prop := ∀ p : Nat, 90 ≤ p → p ≤ 95 → va_Z (zstv p).1 (zstv p).2.1 "[I" (.ref (zeR ι p 0)) A U H ∧ va_T .int (zeR ι p 0) (zstN p) (fun j => .int (zstf p j)) A U H
-- the words of the tables that pass from a call to its callee
def zNest : Cond → Bool
  | .fieldLinkNest _ _ _ _ _ _ => true
  | .methodLinkNest _ _ _ _ => true
  | _ => false
def zTS : List Cond := lw_tbl.filter (fun w => goodWord w || zNest w)
theorem zTS_warm {s U : State} {args a' : Array Value} (hW : s.WarmedH U.vm) {w : Cond} (hw : w ∈ zTS) (h : w.before args s = true) : w.before a' U = true := by
  have h1 := (List.mem_filter.mp hw).2
  rw [Bool.or_eq_true] at h1
  rcases h1 with h1 | h1
  · exact word_at hW (good_of_word h1) h
  · cases w with
    | fieldLinkNest a i b n d g => exact (va_Nw.warmF hW (va_Nw.of rfl h)).use rfl
    | methodLinkNest a i y g => exact (va_Nw.warmM hW (va_Nw.of rfl h)).use rfl
    | _ => cases h1
theorem zTS_of {w : Cond} (i : Nat) (h : tables_1[i]? = some w) (hg : (goodWord w || zNest w) = true) : w ∈ zTS := List.mem_filter.mpr ⟨List.mem_append_right _ (List.mem_of_getElem? h), hg⟩
theorem zTS_sel {w : Cond} (i : Nat) (h : (k2_sels lw_privs)[i]? = some w) (hg : (goodWord w || zNest w) = true) : w ∈ zTS := List.mem_filter.mpr ⟨List.mem_append_left _ (List.mem_of_getElem? h), hg⟩
-- locals by place
def z_lv (r : Nat → Nat → Nat) (lv : List (Option zV)) : List (Nat × Value) := lv.zipIdx.filterMap (fun q => q.1.map (fun v => (q.2, z_tv r v)))
theorem z_lv_mem {r : Nat → Nat → Nat} {lv : List (Option zV)} {i : Nat} {v : Value} : (i, v) ∈ z_lv r lv ↔ ∃ u : zV, lv[i]? = some (some u) ∧ v = z_tv r u := by
  unfold z_lv
  rw [List.mem_filterMap]
  constructor
  · rintro ⟨⟨o, j⟩, h1, h2⟩
    have h3 := List.mem_zipIdx_iff_getElem?.mp h1
    cases o with
    | none => cases h2
    | some u =>
      simp only [Option.map_some, Option.some.injEq, Prod.mk.injEq] at h2
      obtain ⟨rfl, rfl⟩ := h2
      exact ⟨u, h3, rfl⟩
  · rintro ⟨u, h1, rfl⟩
    exact ⟨(some u, i), List.mem_zipIdx_iff_getElem?.mpr h1, rfl⟩
theorem z_lget {r : Nat → Nat → Nat} {lv : List (Option zV)} {ls : Array Slot} {n i : Nat} {u : zV} (hl : lv_has ls n (z_lv r lv)) (h : lv[i]? = some (some u)) : ls[i]? = some (.val (z_tv r u)) := hl.2.2 (i, z_tv r u) (z_lv_mem.mpr ⟨u, h, rfl⟩)
def z_isJ : Option (Option zV) → Bool
  | some (some (.inr (.inl _))) => true
  | _ => false
theorem z_tv_cat {r : Nat → Nat → Nat} {u : zV} (h : (z_tv r u).category = 2) : ∃ x, u = zJ x := by
  rcases u with x | x | x
  · cases h
  · exact ⟨x, rfl⟩
  · cases h
theorem z_st1 {r : Nat → Nat → Nat} {lv : List (Option zV)} {ls' : Array Slot} {n i : Nat} {u : zV} (hj : z_isJ (lv[i - 1]?) = false) (h : lv_has ls' n ((i, z_tv r u) :: (z_lv r lv).filter (fun q => !(q.1 == i) && !(q.1 + 1 == i && q.2.category == 2)))) : lv_has ls' n (z_lv r (lv.set i (some u))) := by
  refine ⟨h.1, h.2.1, fun q hq => h.2.2 q ?_⟩
  obtain ⟨j, v⟩ := q
  obtain ⟨w, h1, rfl⟩ := z_lv_mem.mp hq
  by_cases e : i = j
  · subst e
    rw [List.getElem?_set_self' , Option.map_eq_map] at h1
    cases h2 : lv[i]? with
    | none => rw [h2] at h1; cases h1
    | some o =>
      rw [h2] at h1
      simp only [Option.map_some, Function.const, Option.some.injEq] at h1
      rw [h1]
      exact List.mem_cons_self
  · rw [List.getElem?_set_ne e] at h1
    refine List.mem_cons_of_mem _ (List.mem_filter.mpr ⟨z_lv_mem.mpr ⟨w, h1, rfl⟩, ?_⟩)
    have e1 : (j == i) = false := by simpa using fun z => e z.symm
    by_cases e2 : j + 1 = i
    · have e3 : (z_tv r w).category ≠ 2 := by
        intro z
        obtain ⟨x, rfl⟩ := z_tv_cat z
        have e4 : i - 1 = j := by omega
        rw [e4, h1] at hj
        cases hj
      have e5 : ((z_tv r w).category == 2) = false := by simpa using e3
      simp [e1, e5]
    · have e5 : (j + 1 == i) = false := by simpa using e2
      simp [e1, e5]
theorem z_st2 {r : Nat → Nat → Nat} {lv : List (Option zV)} {ls' : Array Slot} {n i : Nat} {u : zV} (hj : z_isJ (lv[i - 1]?) = false) (h : lv_has ls' n ((i, z_tv r u) :: (z_lv r lv).filter (fun q => !(q.1 == i) && (!(q.1 == i + 1) && !(q.1 + 1 == i && q.2.category == 2))))) : lv_has ls' n (z_lv r ((lv.set (i + 1) none).set i (some u))) := by
  refine ⟨h.1, h.2.1, fun q hq => h.2.2 q ?_⟩
  obtain ⟨j, v⟩ := q
  obtain ⟨w, h1, rfl⟩ := z_lv_mem.mp hq
  by_cases e : i = j
  · subst e
    rw [List.getElem?_set_self' , Option.map_eq_map] at h1
    cases h2 : (lv.set (i + 1) none)[i]? with
    | none => rw [h2] at h1; cases h1
    | some o =>
      rw [h2] at h1
      simp only [Option.map_some, Function.const, Option.some.injEq] at h1
      rw [h1]
      exact List.mem_cons_self
  · rw [List.getElem?_set_ne e] at h1
    by_cases e0 : i + 1 = j
    · subst e0
      rw [List.getElem?_set_self' , Option.map_eq_map] at h1
      cases h2 : lv[i + 1]? with
      | none => rw [h2] at h1; cases h1
      | some o =>
        rw [h2] at h1
        simp only [Option.map_some, Function.const, Option.some.injEq] at h1
        cases h1
    · rw [List.getElem?_set_ne e0] at h1
      refine List.mem_cons_of_mem _ (List.mem_filter.mpr ⟨z_lv_mem.mpr ⟨w, h1, rfl⟩, ?_⟩)
      have e1 : (j == i) = false := by simpa using fun z => e z.symm
      have e6 : (j == i + 1) = false := by simpa using fun z => e0 z.symm
      by_cases e2 : j + 1 = i
      · have e3 : (z_tv r w).category ≠ 2 := by
          intro z
          obtain ⟨x, rfl⟩ := z_tv_cat z
          have e4 : i - 1 = j := by omega
          rw [e4, h1] at hj
          cases hj
        have e5 : ((z_tv r w).category == 2) = false := by simpa using e3
        simp [e1, e5, e6]
      · have e5 : (j + 1 == i) = false := by simpa using e2
        simp [e1, e5, e6]
end
section
/-! the activation, the judgement, the contract -/
abbrev zX : Type := Program × Launch × Env × Room × State × MethodId × Array Value × List Frame × Method × Code × (Nat → Prop) × Nat × Nat × (State → Prop)
def zW (ι : zE) (M : zMR) (X : zX) (pc : Nat) (lv : List (Option zV)) (st : List zV) (mem : zM) : Prop :=
  match X with
  | (p, l, e, R, s, m, args, below, meth, c, A, cells, slots, Q) => ∀ (H : Heap) (locs : List Loc) (ls : Array Slot), va_P (zeD ι) zCl (z_ws ι mem) H → va_S A s.heap H locs → lv_has ls M.2.2.1 (z_lv (zeR ι) lv) → W p l e R s m args below meth c H locs cells slots Q (F0 m pc ls (st.map (z_tv (zeR ι))))
/-- these pools are there whole -/
def zHas (ι : zE) (ps : List Nat) : Prop := ∀ p k : Nat, p ∈ ps → k < (zsh p).1 → (p, k) ∈ zeK ι
/-- the cells' addresses are apart and of a kind -/
def zAd (ι : zE) (A : Nat → Prop) : Prop := (zeK ι).Nodup ∧ (∀ a b : zR, a ∈ zeK ι → b ∈ zeK ι → zeR ι a.1 a.2 = zeR ι b.1 b.2 → a = b) ∧ ∀ a : zR, a ∈ zeK ι → A (zeR ι a.1 a.2)
def zG (ι : zE) (M : zMR) (X : zX) (n : Nat) (ps : List Nat) : Prop :=
  match X with
  | (p, l, e, R, s, m, args, below, meth, c, A, cells, slots, Q) => p.tables.exec = Jvm.exec ∧ c.code = M.2.1 ∧ c.maxLocals = M.2.2.1 ∧ s.vm.findClass M.1.cls = some m.cls ∧ (∀ w ∈ zTS, w.before args s = true) ∧ meth.sig.returnType = M.2.2.2 ∧ meth.locks = false ∧ va_K (zeD ι) zCl (zTys ι) s ∧ zAd ι A ∧ (∀ q, s.heap.size ≤ q → A q) ∧ z_stat ι A s s.heap ∧ n ≤ R.frames ∧ 40 * n ≤ R.locals ∧ cells ≤ R.cells ∧ slots ≤ R.slots ∧ zHas ι ps
def zQ (ι : zE) (Post : Option zV → zM → Prop) (A : Nat → Prop) : Array Value → State → Outcome → State → Prop := fun _ st oc t => (∃ (r : Option zV) (mem' : zM), oc = .returned (r.map (z_tv (zeR ι))) ∧ Post r mem' ∧ va_P (zeD ι) zCl (z_ws ι mem') t.heap) ∧ va_F A st t
def zpre (ι : zE) (mem : zM) (sz : Nat) (U : State) : Prop := U.heap.size = sz ∧ va_P (zeD ι) zCl (z_ws ι mem) U.heap ∧ va_K (zeD ι) zCl (zTys ι) U ∧ zAd ι (fun _ => True) ∧ z_stat ι (va_A (z_ws ι mem) sz) U U.heap
def zrm (n : Nat) : Room := { frames := n, cells := 0, slots := 0, locals := 40 * n }
def zC (l : Launch) (ι : zE) (M : zMR) (n : Nat) (av : List zV) (mem : zM) (Post : Option zV → zM → Prop) : Prop :=
  ∀ sz : Nat, Met l M.1 (.code M.1 M.2.1 M.2.2.1 M.2.2.2 :: zTS) (zrm n) (va_Pc (av.map (z_tv (zeR ι))) (zpre ι mem sz)) (zQ ι Post (va_A (z_ws ι mem) sz)) 0 0 (va_A (z_ws ι mem) sz)
/-- what a return wants -/
def zRt (ι : zE) (X : zX) (Post : Option zV → zM → Prop) : Prop :=
  match X with
  | (p, l, e, R, s, m, args, below, meth, c, A, cells, slots, Q) => cells = 0 ∧ slots = 0 ∧ Q = MQ below (zQ ι Post A) args s 0 0 A
-- decoding
def zD (b : ByteArray) (pc : Nat) (ins : Instr) (n npc : Nat) : Prop := decode b pc = .ok (ins, n) ∧ pc + n = npc
theorem zDall {b : ByteArray} {L : List (Nat × Instr × Nat × Nat)} (h : ∀ q ∈ L, decode b q.1 = .ok (q.2.1, q.2.2.1) ∧ q.1 + q.2.2.1 = q.2.2.2) {i pc n npc : Nat} {ins : Instr} (hi : L[i]? = some (pc, ins, n, npc)) : zD b pc ins n npc := h (pc, ins, n, npc) (List.mem_of_getElem? hi)
-- addresses
theorem z_ws_len (ι : zE) (mem : zM) : (z_ws ι mem).length = (zeK ι).length := by simp [z_ws]
theorem z_ws_at {ι : zE} {mem : zM} {i : Nat} {q : zR} (h : (zeK ι)[i]? = some q) : (z_ws ι mem)[i]? = some (z_cell ι mem q) := by simp [z_ws, h]
theorem z_ws_of {ι : zE} {mem : zM} {i : Nat} {x : Nat × va_E} (h : (z_ws ι mem)[i]? = some x) : ∃ q, (zeK ι)[i]? = some q ∧ x = z_cell ι mem q := by
  unfold z_ws at h
  rw [List.getElem?_map] at h
  cases hq : (zeK ι)[i]? with
  | none => rw [hq] at h; cases h
  | some q => rw [hq] at h; exact ⟨q, rfl, (Option.some.inj h).symm⟩
theorem zAd.D {ι : zE} {A : Nat → Prop} (h : zAd ι A) (mem : zM) : va_D A (z_ws ι mem) := by
  refine ⟨fun i j x y hx hy e => ?_, fun i x hx => ?_⟩
  · obtain ⟨a, ha, rfl⟩ := z_ws_of hx
    obtain ⟨b, hb, rfl⟩ := z_ws_of hy
    have e2 : a = b := h.2.1 a b (List.mem_of_getElem? ha) (List.mem_of_getElem? hb) e
    subst e2
    exact (List.getElem?_inj (List.getElem?_eq_some_iff.mp ha).1 h.1).mp (ha.trans hb.symm)
  · obtain ⟨a, ha, rfl⟩ := z_ws_of hx
    exact h.2.2 a (List.mem_of_getElem? ha)
theorem zAd.weak {ι : zE} {A B : Nat → Prop} (h : zAd ι A) (hAB : ∀ a : zR, a ∈ zeK ι → B (zeR ι a.1 a.2)) : zAd ι B := ⟨h.1, h.2.1, hAB⟩
theorem zA_of {ι : zE} {mem : zM} {sz q : Nat} {A : Nat → Prop} (hA : zAd ι A) (hz : ∀ q, sz ≤ q → A q) (h : va_A (z_ws ι mem) sz q) : A q := by
  rcases h with ⟨k, e, h⟩ | h
  · obtain ⟨a, ha, hx⟩ := z_ws_of h
    have h2 := hA.2.2 a (List.mem_of_getElem? ha)
    have h3 : q = zeR ι a.1 a.2 := congrArg Prod.fst hx
    rw [h3]; exact h2
  · exact hz q h
theorem zA_in {ι : zE} {mem : zM} {sz : Nat} {a : zR} (ha : a ∈ zeK ι) : va_A (z_ws ι mem) sz (zeR ι a.1 a.2) := by
  obtain ⟨i, hi⟩ := List.getElem?_of_mem ha
  exact Or.inl ⟨i, _, z_ws_at hi⟩
theorem z_stat.step {ι : zE} {A B : Nat → Prop} {u U : State} {H H1 : Heap} (h : z_stat ι A u H) (hq : ∀ a : Nat, a < H.size → ¬ A a → H1[a]? = H[a]?) (hAB : ∀ q, B q → A q) (hvm : u.vm.Alike U.vm) : z_stat ι B U H1 := fun p h1 h2 => ⟨(((h p h1 h2).1.kept hq).narrow hAB).moved hvm, (((h p h1 h2).2.kept hq).narrow hAB).moved hvm⟩
/-- the locals with which a method begins -/
def z_ent : List zV → List (Option zV)
  | [] => []
  | .inr (.inl x) :: r => some (zJ x) :: none :: z_ent r
  | v :: r => some v :: z_ent r
def z_ent0 (n : Nat) (av : List zV) : List (Option zV) := z_ent av ++ List.replicate (n - (z_ent av).length) none
theorem z_ent_len (r : Nat → Nat → Nat) : ∀ av : List zV, (lg_sl (av.map (z_tv r))).length = (z_ent av).length
  | [] => rfl
  | .inl x :: t => by
    have h := z_ent_len r t
    simp only [lg_sl, List.map_cons, List.flatMap_cons, List.length_append, z_ent, List.length_cons] at h ⊢
    rw [← h]
    show 1 + _ = _
    omega
  | .inr (.inl x) :: t => by
    have h := z_ent_len r t
    simp only [lg_sl, List.map_cons, List.flatMap_cons, List.length_append, z_ent, List.length_cons] at h ⊢
    rw [← h]
    show 2 + _ = _
    omega
  | .inr (.inr x) :: t => by
    have h := z_ent_len r t
    simp only [lg_sl, List.map_cons, List.flatMap_cons, List.length_append, z_ent, List.length_cons] at h ⊢
    rw [← h]
    show 1 + _ = _
    omega
theorem z_ent_in (r : Nat → Nat → Nat) : ∀ (av : List zV) (b i : Nat) (u : zV), (z_ent av)[i]? = some (some u) → (b + i, z_tv r u) ∈ lv_args b (av.map (z_tv r))
  | [], b, i, u, h => by simp [z_ent] at h
  | .inl x :: t, b, 0, u, h => by
    cases h
    exact List.mem_cons_self
  | .inl x :: t, b, i + 1, u, h => by
    have h2 := z_ent_in r t (b + 1) i u h
    rw [show b + (i + 1) = b + 1 + i by omega]
    exact List.mem_cons_of_mem _ h2
  | .inr (.inr x) :: t, b, 0, u, h => by
    cases h
    exact List.mem_cons_self
  | .inr (.inr x) :: t, b, i + 1, u, h => by
    have h2 := z_ent_in r t (b + 1) i u h
    rw [show b + (i + 1) = b + 1 + i by omega]
    exact List.mem_cons_of_mem _ h2
  | .inr (.inl x) :: t, b, 0, u, h => by
    cases h
    exact List.mem_cons_self
  | .inr (.inl x) :: t, b, 1, u, h => by cases h
  | .inr (.inl x) :: t, b, i + 2, u, h => by
    have h2 := z_ent_in r t (b + 2) i u h
    rw [show b + (i + 2) = b + 2 + i by omega]
    exact List.mem_cons_of_mem _ h2
theorem z_ent_has {r : Nat → Nat → Nat} {av : List zV} {n : Nat} (h : (z_ent av).length ≤ n) : lv_has ((lg_sl (av.map (z_tv r)) ++ List.replicate (n - (lg_sl (av.map (z_tv r))).length) Slot.unset).toArray) n (z_lv r (z_ent0 n av)) := by
  have h0 := lv_entry (av.map (z_tv r)) (n := n) (by rw [z_ent_len]; exact h)
  refine ⟨h0.1, h0.2.1, fun q hq => h0.2.2 q ?_⟩
  obtain ⟨i, v⟩ := q
  obtain ⟨u, h1, rfl⟩ := z_lv_mem.mp hq
  have h2 : (z_ent av)[i]? = some (some u) := by
    unfold z_ent0 at h1
    by_cases hi : i < (z_ent av).length
    · rw [List.getElem?_append_left hi] at h1; exact h1
    · rw [List.getElem?_append_right (by omega), List.getElem?_replicate] at h1
      split at h1 <;> cases h1
  have h3 := z_ent_in r av 0 i u h2
  rwa [Nat.zero_add] at h3
/-- a contract out of its body -/
theorem z_enter {l : Launch} {ι : zE} {M : zMR} {n : Nat} {av : List zV} {mem : zM} {Post : Option zV → zM → Prop} {ps : List Nat} (hH : zHas ι ps) (hpl : plainName M.1.cls = true) (hle : (z_ent av).length ≤ M.2.2.1)
    (body : ∀ X : zX, X.2.1 = l → zG ι M X n ps → zRt ι X Post → zW ι M X 0 (z_ent0 M.2.2.1 av) [] mem) : zC l ι M n av mem Post := by
  intro sz
  refine Met.ofW (cc := M.2.1) (maxL := M.2.2.1) (ret := M.2.2.2) hpl rfl ?_
  intro p e s m args below meth c s₁ B hml hv
  obtain ⟨rfl, hsz, hP, hK, hAd, hSt⟩ := hv
  have hts := atoms_spec (ws := .code M.1 M.2.1 M.2.2.1 M.2.2.2 :: zTS) B.pre
  subst hsz
  have hb := body (p, l, e, zrm n, s, m, ((av.map (z_tv (zeR ι))).toArray), below, meth, c, va_A (z_ws ι mem) s.heap.size, 0, 0, MQ below (zQ ι Post (va_A (z_ws ι mem) s.heap.size)) ((av.map (z_tv (zeR ι))).toArray) s 0 0 (va_A (z_ws ι mem) s.heap.size)) rfl
    ⟨B.exec, B.bytes, hml, findClass_of_methodNamed B.named, fun w hw => hts w (List.mem_cons_of_mem _ hw), B.returns, B.notSynchronized, hK, hAd.weak (fun a ha => zA_in ha), fun q h => Or.inr h, hSt, Nat.le_refl _, Nat.le_refl _, Nat.le_refl _, Nat.le_refl _, hH⟩ ⟨rfl, rfl, rfl⟩
  rw [lg_entry_eq]
  exact hb s.heap [] _ hP va_S.rf (z_ent_has hle)
/-- fewer locals known -/
theorem z_fewer {ι : zE} {M : zMR} {X : zX} {pc : Nat} {lv lv' : List (Option zV)} {st : List zV} {mem : zM} (h : ∀ (i : Nat) (u : zV), lv'[i]? = some (some u) → lv[i]? = some (some u)) (k : zW ι M X pc lv' st mem) : zW ι M X pc lv st mem := by
  obtain ⟨p, l, e, R, s, m, args, below, meth, c, A, cells, slots, Q⟩ := X
  intro H locs ls hP hS hl
  refine k H locs ls hP hS ⟨hl.1, hl.2.1, fun q hq => hl.2.2 q ?_⟩
  obtain ⟨i, v⟩ := q
  obtain ⟨u, h1, rfl⟩ := z_lv_mem.mp hq
  exact z_lv_mem.mpr ⟨u, h i u h1, rfl⟩
end
section
section ZR
variable {ι : zE} {M : zMR} {X : zX} {n : Nat} {ps : List Nat} {pc npc : Nat} {lv : List (Option zV)} {st : List zV} {mem : zM}
theorem z_iconst {v : Int32} {j : Int} (hX : zG ι M X n ps) (hd : zD M.2.1 pc (.iconst j) 1 npc) (hv : Int32.ofInt j = v) (k : zW ι M X npc lv (zI v :: st) mem) : zW ι M X pc lv (st) mem := by
  obtain ⟨p, l, e, R, s, m, args, below, meth, c, A, cells, slots, Q⟩ := X
  obtain ⟨hd, rfl⟩ := hd
  intro H locs ls hP hS hl
  exact lv_iconst hX.1 hX.2.1 hd hv (k H locs ls hP hS hl)
theorem z_bipush {v : Int32} {j : Int} (hX : zG ι M X n ps) (hd : zD M.2.1 pc (.bipush j) 2 npc) (hv : (Int8.ofInt j).toInt32 = v) (k : zW ι M X npc lv (zI v :: st) mem) : zW ι M X pc lv (st) mem := by
  obtain ⟨p, l, e, R, s, m, args, below, meth, c, A, cells, slots, Q⟩ := X
  obtain ⟨hd, rfl⟩ := hd
  intro H locs ls hP hS hl
  exact lv_bipush hX.1 hX.2.1 hd hv (k H locs ls hP hS hl)
theorem z_sipush {v : Int32} {j : Int} (hX : zG ι M X n ps) (hd : zD M.2.1 pc (.sipush j) 3 npc) (hv : (Int16.ofInt j).toInt32 = v) (k : zW ι M X npc lv (zI v :: st) mem) : zW ι M X pc lv (st) mem := by
  obtain ⟨p, l, e, R, s, m, args, below, meth, c, A, cells, slots, Q⟩ := X
  obtain ⟨hd, rfl⟩ := hd
  intro H locs ls hP hS hl
  exact lv_sipush hX.1 hX.2.1 hd hv (k H locs ls hP hS hl)
theorem z_lconst {v : Int64} {j : Fin 2} (hX : zG ι M X n ps) (hd : zD M.2.1 pc (.lconst j) 1 npc) (hv : Int64.ofNat (j : Nat) = v) (k : zW ι M X npc lv (zJ v :: st) mem) : zW ι M X pc lv (st) mem := by
  obtain ⟨p, l, e, R, s, m, args, below, meth, c, A, cells, slots, Q⟩ := X
  obtain ⟨hd, rfl⟩ := hd
  intro H locs ls hP hS hl
  exact lv_lconst hX.1 hX.2.1 hd hv (k H locs ls hP hS hl)
theorem z_ldc {v : Int32} {j : Nat} (hX : zG ι M X n ps) (hd : zD M.2.1 pc (.ldc j) 2 npc) (hv : Cond.constant M.1.cls j v ∈ zTS) (k : zW ι M X npc lv (zI v :: st) mem) : zW ι M X pc lv (st) mem := by
  obtain ⟨p, l, e, R, s, m, args, below, meth, c, A, cells, slots, Q⟩ := X
  obtain ⟨hd, rfl⟩ := hd
  intro H locs ls hP hS hl
  exact lv_ldc hX.1 hX.2.1 hX.2.2.2.1 (hX.2.2.2.2.1 _ hv) hd (k H locs ls hP hS hl)
theorem z_ldcw {v : Int32} {j : Nat} (hX : zG ι M X n ps) (hd : zD M.2.1 pc (.ldc_w j) 3 npc) (hv : Cond.constant M.1.cls j v ∈ zTS) (k : zW ι M X npc lv (zI v :: st) mem) : zW ι M X pc lv (st) mem := by
  obtain ⟨p, l, e, R, s, m, args, below, meth, c, A, cells, slots, Q⟩ := X
  obtain ⟨hd, rfl⟩ := hd
  intro H locs ls hP hS hl
  exact lv_ldcw hX.1 hX.2.1 hX.2.2.2.1 (hX.2.2.2.2.1 _ hv) hd (k H locs ls hP hS hl)
theorem z_ldc2 {v : Int64} {j : Nat} (hX : zG ι M X n ps) (hd : zD M.2.1 pc (.ldc2_w j) 3 npc) (hv : Cond.constantLong M.1.cls j v ∈ zTS) (k : zW ι M X npc lv (zJ v :: st) mem) : zW ι M X pc lv (st) mem := by
  obtain ⟨p, l, e, R, s, m, args, below, meth, c, A, cells, slots, Q⟩ := X
  obtain ⟨hd, rfl⟩ := hd
  intro H locs ls hP hS hl
  exact lv_ldc2 hX.1 hX.2.1 hX.2.2.2.1 (hX.2.2.2.2.1 _ hv) hd (k H locs ls hP hS hl)
theorem z_iload_n {x : Int32} {j : Fin 4} (hX : zG ι M X n ps) (hd : zD M.2.1 pc (.iload_n j) 1 npc) (hv : lv[(j : Nat)]? = some (some (zI x))) (k : zW ι M X npc lv (zI x :: st) mem) : zW ι M X pc lv (st) mem := by
  obtain ⟨p, l, e, R, s, m, args, below, meth, c, A, cells, slots, Q⟩ := X
  obtain ⟨hd, rfl⟩ := hd
  intro H locs ls hP hS hl
  exact lv_iload_n hX.1 hX.2.1 hd rfl (z_lget hl hv) (k H locs ls hP hS hl)
theorem z_iload {x : Int32} {j : Nat} (hX : zG ι M X n ps) (hd : zD M.2.1 pc (.iload j) 2 npc) (hv : lv[j]? = some (some (zI x))) (k : zW ι M X npc lv (zI x :: st) mem) : zW ι M X pc lv (st) mem := by
  obtain ⟨p, l, e, R, s, m, args, below, meth, c, A, cells, slots, Q⟩ := X
  obtain ⟨hd, rfl⟩ := hd
  intro H locs ls hP hS hl
  exact lv_iload hX.1 hX.2.1 hd (z_lget hl hv) (k H locs ls hP hS hl)
theorem z_lload_n {x : Int64} {j : Fin 4} (hX : zG ι M X n ps) (hd : zD M.2.1 pc (.lload_n j) 1 npc) (hv : lv[(j : Nat)]? = some (some (zJ x))) (k : zW ι M X npc lv (zJ x :: st) mem) : zW ι M X pc lv (st) mem := by
  obtain ⟨p, l, e, R, s, m, args, below, meth, c, A, cells, slots, Q⟩ := X
  obtain ⟨hd, rfl⟩ := hd
  intro H locs ls hP hS hl
  exact lv_lload_n hX.1 hX.2.1 hd rfl (z_lget hl hv) (k H locs ls hP hS hl)
theorem z_lload {x : Int64} {j : Nat} (hX : zG ι M X n ps) (hd : zD M.2.1 pc (.lload j) 2 npc) (hv : lv[j]? = some (some (zJ x))) (k : zW ι M X npc lv (zJ x :: st) mem) : zW ι M X pc lv (st) mem := by
  obtain ⟨p, l, e, R, s, m, args, below, meth, c, A, cells, slots, Q⟩ := X
  obtain ⟨hd, rfl⟩ := hd
  intro H locs ls hP hS hl
  exact lv_lload hX.1 hX.2.1 hd (z_lget hl hv) (k H locs ls hP hS hl)
theorem z_aload_n {q i : Nat} {j : Fin 4} (hX : zG ι M X n ps) (hd : zD M.2.1 pc (.aload_n j) 1 npc) (hv : lv[(j : Nat)]? = some (some (zP q i))) (k : zW ι M X npc lv (zP q i :: st) mem) : zW ι M X pc lv (st) mem := by
  obtain ⟨p, l, e, R, s, m, args, below, meth, c, A, cells, slots, Q⟩ := X
  obtain ⟨hd, rfl⟩ := hd
  intro H locs ls hP hS hl
  exact lv_aload_n hX.1 hX.2.1 hd rfl (z_lget hl hv) (k H locs ls hP hS hl)
theorem z_aload {q i : Nat} {j : Nat} (hX : zG ι M X n ps) (hd : zD M.2.1 pc (.aload j) 2 npc) (hv : lv[j]? = some (some (zP q i))) (k : zW ι M X npc lv (zP q i :: st) mem) : zW ι M X pc lv (st) mem := by
  obtain ⟨p, l, e, R, s, m, args, below, meth, c, A, cells, slots, Q⟩ := X
  obtain ⟨hd, rfl⟩ := hd
  intro H locs ls hP hS hl
  exact lv_aload hX.1 hX.2.1 hd (z_lget hl hv) (k H locs ls hP hS hl)
theorem z_istore_n {x : Int32} {j : Fin 4} (hX : zG ι M X n ps) (hd : zD M.2.1 pc (.istore_n j) 1 npc) (hn : (j : Nat) < M.2.2.1) (hj : z_isJ (lv[(j : Nat) - 1]?) = false) (k : zW ι M X npc (lv.set (j : Nat) (some (zI x))) (st) mem) : zW ι M X pc lv (zI x :: st) mem := by
  obtain ⟨p, l, e, R, s, m, args, below, meth, c, A, cells, slots, Q⟩ := X
  obtain ⟨hd, rfl⟩ := hd
  intro H locs ls hP hS hl
  exact lv_istore_n hX.1 hX.2.1 hd rfl hl hn rfl (fun ls2 hl2 => k H locs ls2 hP hS (z_st1 (u := zI x) hj hl2))
theorem z_istore {x : Int32} {j : Nat} (hX : zG ι M X n ps) (hd : zD M.2.1 pc (.istore j) 2 npc) (hn : j < M.2.2.1) (hj : z_isJ (lv[j - 1]?) = false) (k : zW ι M X npc (lv.set j (some (zI x))) (st) mem) : zW ι M X pc lv (zI x :: st) mem := by
  obtain ⟨p, l, e, R, s, m, args, below, meth, c, A, cells, slots, Q⟩ := X
  obtain ⟨hd, rfl⟩ := hd
  intro H locs ls hP hS hl
  exact lv_istore hX.1 hX.2.1 hd hl hn rfl (fun ls2 hl2 => k H locs ls2 hP hS (z_st1 (u := zI x) hj hl2))
theorem z_astore_n {q i : Nat} {j : Fin 4} (hX : zG ι M X n ps) (hd : zD M.2.1 pc (.astore_n j) 1 npc) (hn : (j : Nat) < M.2.2.1) (hj : z_isJ (lv[(j : Nat) - 1]?) = false) (k : zW ι M X npc (lv.set (j : Nat) (some (zP q i))) (st) mem) : zW ι M X pc lv (zP q i :: st) mem := by
  obtain ⟨p, l, e, R, s, m, args, below, meth, c, A, cells, slots, Q⟩ := X
  obtain ⟨hd, rfl⟩ := hd
  intro H locs ls hP hS hl
  exact lv_astore_n hX.1 hX.2.1 hd rfl hl hn rfl (fun ls2 hl2 => k H locs ls2 hP hS (z_st1 (u := zP q i) hj hl2))
theorem z_astore {q i : Nat} {j : Nat} (hX : zG ι M X n ps) (hd : zD M.2.1 pc (.astore j) 2 npc) (hn : j < M.2.2.1) (hj : z_isJ (lv[j - 1]?) = false) (k : zW ι M X npc (lv.set j (some (zP q i))) (st) mem) : zW ι M X pc lv (zP q i :: st) mem := by
  obtain ⟨p, l, e, R, s, m, args, below, meth, c, A, cells, slots, Q⟩ := X
  obtain ⟨hd, rfl⟩ := hd
  intro H locs ls hP hS hl
  exact lv_astore hX.1 hX.2.1 hd hl hn rfl (fun ls2 hl2 => k H locs ls2 hP hS (z_st1 (u := zP q i) hj hl2))
theorem z_lstore_n {x : Int64} {j : Fin 4} (hX : zG ι M X n ps) (hd : zD M.2.1 pc (.lstore_n j) 1 npc) (hn : (j : Nat) + 1 < M.2.2.1) (hj : z_isJ (lv[(j : Nat) - 1]?) = false) (k : zW ι M X npc ((lv.set ((j : Nat) + 1) none).set (j : Nat) (some (zJ x))) (st) mem) : zW ι M X pc lv (zJ x :: st) mem := by
  obtain ⟨p, l, e, R, s, m, args, below, meth, c, A, cells, slots, Q⟩ := X
  obtain ⟨hd, rfl⟩ := hd
  intro H locs ls hP hS hl
  exact lv_lstore_n hX.1 hX.2.1 hd rfl hl hn rfl (fun ls2 hl2 => k H locs ls2 hP hS (z_st2 (u := zJ x) hj hl2))
theorem z_lstore {x : Int64} {j : Nat} (hX : zG ι M X n ps) (hd : zD M.2.1 pc (.lstore j) 2 npc) (hn : j + 1 < M.2.2.1) (hj : z_isJ (lv[j - 1]?) = false) (k : zW ι M X npc ((lv.set (j + 1) none).set j (some (zJ x))) (st) mem) : zW ι M X pc lv (zJ x :: st) mem := by
  obtain ⟨p, l, e, R, s, m, args, below, meth, c, A, cells, slots, Q⟩ := X
  obtain ⟨hd, rfl⟩ := hd
  intro H locs ls hP hS hl
  exact lv_lstore hX.1 hX.2.1 hd hl hn rfl (fun ls2 hl2 => k H locs ls2 hP hS (z_st2 (u := zJ x) hj hl2))
theorem z_iinc {x v : Int32} {j : Nat} {d : Int} (hX : zG ι M X n ps) (hd : zD M.2.1 pc (.iinc j d) 3 npc) (hx : lv[j]? = some (some (zI x))) (hv : x + Int32.ofInt d = v) (hn : j < M.2.2.1) (hj : z_isJ (lv[j - 1]?) = false) (k : zW ι M X npc (lv.set j (some (zI v))) st mem) : zW ι M X pc lv st mem := by
  obtain ⟨p, l, e, R, s, m, args, below, meth, c, A, cells, slots, Q⟩ := X
  obtain ⟨hd, rfl⟩ := hd
  intro H locs ls hP hS hl
  obtain ⟨i, hi⟩ := List.getElem?_of_mem (z_lv_mem (r := zeR ι) (lv := lv) (i := j) (v := .int x) |>.mpr ⟨zI x, hx, rfl⟩)
  exact lv_iinc hX.1 hX.2.1 hd hl hi hv hn rfl (fun ls2 hl2 => k H locs ls2 hP hS (z_st1 (u := zI v) hj hl2))
theorem z_iadd {x y : Int32} (hX : zG ι M X n ps) (hd : zD M.2.1 pc (.iadd) 1 npc) (k : zW ι M X npc lv (zI (x + y) :: st) mem) : zW ι M X pc lv (zI y :: zI x :: st) mem := by
  obtain ⟨p, l, e, R, s, m, args, below, meth, c, A, cells, slots, Q⟩ := X
  obtain ⟨hd, rfl⟩ := hd
  intro H locs ls hP hS hl
  exact lv_iadd hX.1 hX.2.1 hd (k H locs ls hP hS hl)
theorem z_isub {x y : Int32} (hX : zG ι M X n ps) (hd : zD M.2.1 pc (.isub) 1 npc) (k : zW ι M X npc lv (zI (x - y) :: st) mem) : zW ι M X pc lv (zI y :: zI x :: st) mem := by
  obtain ⟨p, l, e, R, s, m, args, below, meth, c, A, cells, slots, Q⟩ := X
  obtain ⟨hd, rfl⟩ := hd
  intro H locs ls hP hS hl
  exact lv_isub hX.1 hX.2.1 hd (k H locs ls hP hS hl)
theorem z_imul {x y : Int32} (hX : zG ι M X n ps) (hd : zD M.2.1 pc (.imul) 1 npc) (k : zW ι M X npc lv (zI (x * y) :: st) mem) : zW ι M X pc lv (zI y :: zI x :: st) mem := by
  obtain ⟨p, l, e, R, s, m, args, below, meth, c, A, cells, slots, Q⟩ := X
  obtain ⟨hd, rfl⟩ := hd
  intro H locs ls hP hS hl
  exact lv_imul hX.1 hX.2.1 hd (k H locs ls hP hS hl)
theorem z_iand {x y : Int32} (hX : zG ι M X n ps) (hd : zD M.2.1 pc (.iand) 1 npc) (k : zW ι M X npc lv (zI (x &&& y) :: st) mem) : zW ι M X pc lv (zI y :: zI x :: st) mem := by
  obtain ⟨p, l, e, R, s, m, args, below, meth, c, A, cells, slots, Q⟩ := X
  obtain ⟨hd, rfl⟩ := hd
  intro H locs ls hP hS hl
  exact lv_iand hX.1 hX.2.1 hd (k H locs ls hP hS hl)
theorem z_ior {x y : Int32} (hX : zG ι M X n ps) (hd : zD M.2.1 pc (.ior) 1 npc) (k : zW ι M X npc lv (zI (x ||| y) :: st) mem) : zW ι M X pc lv (zI y :: zI x :: st) mem := by
  obtain ⟨p, l, e, R, s, m, args, below, meth, c, A, cells, slots, Q⟩ := X
  obtain ⟨hd, rfl⟩ := hd
  intro H locs ls hP hS hl
  exact lv_ior hX.1 hX.2.1 hd (k H locs ls hP hS hl)
theorem z_ixor {x y : Int32} (hX : zG ι M X n ps) (hd : zD M.2.1 pc (.ixor) 1 npc) (k : zW ι M X npc lv (zI (x ^^^ y) :: st) mem) : zW ι M X pc lv (zI y :: zI x :: st) mem := by
  obtain ⟨p, l, e, R, s, m, args, below, meth, c, A, cells, slots, Q⟩ := X
  obtain ⟨hd, rfl⟩ := hd
  intro H locs ls hP hS hl
  exact lv_ixor hX.1 hX.2.1 hd (k H locs ls hP hS hl)
theorem z_ishl {x y : Int32} (hX : zG ι M X n ps) (hd : zD M.2.1 pc (.ishl) 1 npc) (k : zW ι M X npc lv (zI (x <<< (y &&& 31)) :: st) mem) : zW ι M X pc lv (zI y :: zI x :: st) mem := by
  obtain ⟨p, l, e, R, s, m, args, below, meth, c, A, cells, slots, Q⟩ := X
  obtain ⟨hd, rfl⟩ := hd
  intro H locs ls hP hS hl
  exact lv_ishl hX.1 hX.2.1 hd (k H locs ls hP hS hl)
theorem z_ishr {x y : Int32} (hX : zG ι M X n ps) (hd : zD M.2.1 pc (.ishr) 1 npc) (k : zW ι M X npc lv (zI (x >>> (y &&& 31)) :: st) mem) : zW ι M X pc lv (zI y :: zI x :: st) mem := by
  obtain ⟨p, l, e, R, s, m, args, below, meth, c, A, cells, slots, Q⟩ := X
  obtain ⟨hd, rfl⟩ := hd
  intro H locs ls hP hS hl
  exact lv_ishr hX.1 hX.2.1 hd (k H locs ls hP hS hl)
theorem z_idiv {x y : Int32} (hX : zG ι M X n ps) (hd : zD M.2.1 pc (.idiv) 1 npc) (hy : ¬ y = 0) (k : zW ι M X npc lv (zI (x / y) :: st) mem) : zW ι M X pc lv (zI y :: zI x :: st) mem := by
  obtain ⟨p, l, e, R, s, m, args, below, meth, c, A, cells, slots, Q⟩ := X
  obtain ⟨hd, rfl⟩ := hd
  intro H locs ls hP hS hl
  exact lv_idiv hX.1 hX.2.1 hd hy (k H locs ls hP hS hl)
theorem z_irem {x y : Int32} (hX : zG ι M X n ps) (hd : zD M.2.1 pc (.irem) 1 npc) (hy : ¬ y = 0) (k : zW ι M X npc lv (zI (x - x / y * y) :: st) mem) : zW ι M X pc lv (zI y :: zI x :: st) mem := by
  obtain ⟨p, l, e, R, s, m, args, below, meth, c, A, cells, slots, Q⟩ := X
  obtain ⟨hd, rfl⟩ := hd
  intro H locs ls hP hS hl
  exact lv_irem hX.1 hX.2.1 hd hy (k H locs ls hP hS hl)
theorem z_iushr {x y : Int32} (hX : zG ι M X n ps) (hd : zD M.2.1 pc (.iushr) 1 npc) (k : zW ι M X npc lv (zI ((x.toUInt32 >>> (y.toUInt32 &&& Int32.toUInt32 31)).toInt32) :: st) mem) : zW ι M X pc lv (zI y :: zI x :: st) mem := by
  obtain ⟨p, l, e, R, s, m, args, below, meth, c, A, cells, slots, Q⟩ := X
  obtain ⟨hd, rfl⟩ := hd
  intro H locs ls hP hS hl
  exact lv_iushr hX.1 hX.2.1 hd rfl (k H locs ls hP hS hl)
theorem z_ineg {x : Int32} (hX : zG ι M X n ps) (hd : zD M.2.1 pc (.ineg) 1 npc) (k : zW ι M X npc lv (zI (-x) :: st) mem) : zW ι M X pc lv (zI x :: st) mem := by
  obtain ⟨p, l, e, R, s, m, args, below, meth, c, A, cells, slots, Q⟩ := X
  obtain ⟨hd, rfl⟩ := hd
  intro H locs ls hP hS hl
  exact lv_ineg hX.1 hX.2.1 hd (k H locs ls hP hS hl)
theorem z_ladd {x y : Int64} (hX : zG ι M X n ps) (hd : zD M.2.1 pc (.ladd) 1 npc) (k : zW ι M X npc lv (zJ (x + y) :: st) mem) : zW ι M X pc lv (zJ y :: zJ x :: st) mem := by
  obtain ⟨p, l, e, R, s, m, args, below, meth, c, A, cells, slots, Q⟩ := X
  obtain ⟨hd, rfl⟩ := hd
  intro H locs ls hP hS hl
  exact lv_ladd hX.1 hX.2.1 hd (k H locs ls hP hS hl)
theorem z_lmul {x y : Int64} (hX : zG ι M X n ps) (hd : zD M.2.1 pc (.lmul) 1 npc) (k : zW ι M X npc lv (zJ (x * y) :: st) mem) : zW ι M X pc lv (zJ y :: zJ x :: st) mem := by
  obtain ⟨p, l, e, R, s, m, args, below, meth, c, A, cells, slots, Q⟩ := X
  obtain ⟨hd, rfl⟩ := hd
  intro H locs ls hP hS hl
  exact lv_lmul hX.1 hX.2.1 hd (k H locs ls hP hS hl)
theorem z_land {x y : Int64} (hX : zG ι M X n ps) (hd : zD M.2.1 pc (.land) 1 npc) (k : zW ι M X npc lv (zJ (x &&& y) :: st) mem) : zW ι M X pc lv (zJ y :: zJ x :: st) mem := by
  obtain ⟨p, l, e, R, s, m, args, below, meth, c, A, cells, slots, Q⟩ := X
  obtain ⟨hd, rfl⟩ := hd
  intro H locs ls hP hS hl
  exact lv_land hX.1 hX.2.1 hd (k H locs ls hP hS hl)
theorem z_lor {x y : Int64} (hX : zG ι M X n ps) (hd : zD M.2.1 pc (.lor) 1 npc) (k : zW ι M X npc lv (zJ (x ||| y) :: st) mem) : zW ι M X pc lv (zJ y :: zJ x :: st) mem := by
  obtain ⟨p, l, e, R, s, m, args, below, meth, c, A, cells, slots, Q⟩ := X
  obtain ⟨hd, rfl⟩ := hd
  intro H locs ls hP hS hl
  exact lv_lor hX.1 hX.2.1 hd (k H locs ls hP hS hl)
theorem z_ldiv {x y : Int64} (hX : zG ι M X n ps) (hd : zD M.2.1 pc (.ldiv) 1 npc) (hy : ¬ y = 0) (k : zW ι M X npc lv (zJ (x / y) :: st) mem) : zW ι M X pc lv (zJ y :: zJ x :: st) mem := by
  obtain ⟨p, l, e, R, s, m, args, below, meth, c, A, cells, slots, Q⟩ := X
  obtain ⟨hd, rfl⟩ := hd
  intro H locs ls hP hS hl
  exact lv_ldiv hX.1 hX.2.1 hd hy (k H locs ls hP hS hl)
theorem z_lshl {x : Int64} {y : Int32} (hX : zG ι M X n ps) (hd : zD M.2.1 pc (.lshl) 1 npc) (k : zW ι M X npc lv (zJ (x <<< (y.toInt64 &&& 63)) :: st) mem) : zW ι M X pc lv (zI y :: zJ x :: st) mem := by
  obtain ⟨p, l, e, R, s, m, args, below, meth, c, A, cells, slots, Q⟩ := X
  obtain ⟨hd, rfl⟩ := hd
  intro H locs ls hP hS hl
  exact lv_lshl hX.1 hX.2.1 hd rfl (k H locs ls hP hS hl)
theorem z_lcmp {x y : Int64} (hX : zG ι M X n ps) (hd : zD M.2.1 pc (.lcmp) 1 npc) (k : zW ι M X npc lv (zI (lg_cmp x y) :: st) mem) : zW ι M X pc lv (zJ y :: zJ x :: st) mem := by
  obtain ⟨p, l, e, R, s, m, args, below, meth, c, A, cells, slots, Q⟩ := X
  obtain ⟨hd, rfl⟩ := hd
  intro H locs ls hP hS hl
  exact W.lcmp hX.1 hX.2.1 hd (k H locs ls hP hS hl)
theorem z_i2l {x : Int32} (hX : zG ι M X n ps) (hd : zD M.2.1 pc (.i2l) 1 npc) (k : zW ι M X npc lv (zJ x.toInt64 :: st) mem) : zW ι M X pc lv (zI x :: st) mem := by
  obtain ⟨p, l, e, R, s, m, args, below, meth, c, A, cells, slots, Q⟩ := X
  obtain ⟨hd, rfl⟩ := hd
  intro H locs ls hP hS hl
  exact lv_i2l hX.1 hX.2.1 hd rfl (k H locs ls hP hS hl)
theorem z_l2i {x : Int64} (hX : zG ι M X n ps) (hd : zD M.2.1 pc (.l2i) 1 npc) (k : zW ι M X npc lv (zI x.toInt32 :: st) mem) : zW ι M X pc lv (zJ x :: st) mem := by
  obtain ⟨p, l, e, R, s, m, args, below, meth, c, A, cells, slots, Q⟩ := X
  obtain ⟨hd, rfl⟩ := hd
  intro H locs ls hP hS hl
  exact lv_l2i hX.1 hX.2.1 hd rfl (k H locs ls hP hS hl)
theorem z_i2b {x : Int32} (hX : zG ι M X n ps) (hd : zD M.2.1 pc (.i2b) 1 npc) (k : zW ι M X npc lv (zI x.toInt8.toInt32 :: st) mem) : zW ι M X pc lv (zI x :: st) mem := by
  obtain ⟨p, l, e, R, s, m, args, below, meth, c, A, cells, slots, Q⟩ := X
  obtain ⟨hd, rfl⟩ := hd
  intro H locs ls hP hS hl
  exact lv_i2b hX.1 hX.2.1 hd rfl (k H locs ls hP hS hl)
theorem z_i2s {x : Int32} (hX : zG ι M X n ps) (hd : zD M.2.1 pc (.i2s) 1 npc) (k : zW ι M X npc lv (zI x.toInt16.toInt32 :: st) mem) : zW ι M X pc lv (zI x :: st) mem := by
  obtain ⟨p, l, e, R, s, m, args, below, meth, c, A, cells, slots, Q⟩ := X
  obtain ⟨hd, rfl⟩ := hd
  intro H locs ls hP hS hl
  exact lv_i2s hX.1 hX.2.1 hd rfl (k H locs ls hP hS hl)
theorem z_dupI {x : Int32} (hX : zG ι M X n ps) (hd : zD M.2.1 pc (.dup) 1 npc) (k : zW ι M X npc lv (zI x :: zI x :: st) mem) : zW ι M X pc lv (zI x :: st) mem := by
  obtain ⟨p, l, e, R, s, m, args, below, meth, c, A, cells, slots, Q⟩ := X
  obtain ⟨hd, rfl⟩ := hd
  intro H locs ls hP hS hl
  exact lv_dup hX.1 hX.2.1 hd rfl (k H locs ls hP hS hl)
theorem z_dupP {q i : Nat} (hX : zG ι M X n ps) (hd : zD M.2.1 pc (.dup) 1 npc) (k : zW ι M X npc lv (zP q i :: zP q i :: st) mem) : zW ι M X pc lv (zP q i :: st) mem := by
  obtain ⟨p, l, e, R, s, m, args, below, meth, c, A, cells, slots, Q⟩ := X
  obtain ⟨hd, rfl⟩ := hd
  intro H locs ls hP hS hl
  exact lv_dup hX.1 hX.2.1 hd rfl (k H locs ls hP hS hl)
theorem z_dup2 {x : Int32} {q i : Nat} (hX : zG ι M X n ps) (hd : zD M.2.1 pc (.dup2) 1 npc) (k : zW ι M X npc lv (zI x :: zP q i :: zI x :: zP q i :: st) mem) : zW ι M X pc lv (zI x :: zP q i :: st) mem := by
  obtain ⟨p, l, e, R, s, m, args, below, meth, c, A, cells, slots, Q⟩ := X
  obtain ⟨hd, rfl⟩ := hd
  intro H locs ls hP hS hl
  exact lv_dup2_11 hX.1 hX.2.1 hd rfl rfl (k H locs ls hP hS hl)
theorem z_if_eq {x : Int32} {off : Int} {tgt : Nat} (hX : zG ι M X n ps) (hd : zD M.2.1 pc (.ifCond .eq off) 3 npc) (ht : (pc : Int) + off = (tgt : Int)) (kt : x = 0 → zW ι M X tgt lv st mem) (kf : ¬ x = 0 → zW ι M X npc lv st mem) : zW ι M X pc lv (zI x :: st) mem := by
  obtain ⟨p, l, e, R, s, m, args, below, meth, c, A, cells, slots, Q⟩ := X
  obtain ⟨hd, rfl⟩ := hd
  intro H locs ls hP hS hl
  exact lv_if_eq hX.1 hX.2.1 hd ht (fun h => kt h H locs ls hP hS hl) (fun h => kf h H locs ls hP hS hl)
theorem z_if_ne {x : Int32} {off : Int} {tgt : Nat} (hX : zG ι M X n ps) (hd : zD M.2.1 pc (.ifCond .ne off) 3 npc) (ht : (pc : Int) + off = (tgt : Int)) (kt : ¬ x = 0 → zW ι M X tgt lv st mem) (kf : x = 0 → zW ι M X npc lv st mem) : zW ι M X pc lv (zI x :: st) mem := by
  obtain ⟨p, l, e, R, s, m, args, below, meth, c, A, cells, slots, Q⟩ := X
  obtain ⟨hd, rfl⟩ := hd
  intro H locs ls hP hS hl
  exact lv_if_ne hX.1 hX.2.1 hd ht (fun h => kt h H locs ls hP hS hl) (fun h => kf h H locs ls hP hS hl)
theorem z_if_lt {x : Int32} {off : Int} {tgt : Nat} (hX : zG ι M X n ps) (hd : zD M.2.1 pc (.ifCond .lt off) 3 npc) (ht : (pc : Int) + off = (tgt : Int)) (kt : x < 0 → zW ι M X tgt lv st mem) (kf : ¬ x < 0 → zW ι M X npc lv st mem) : zW ι M X pc lv (zI x :: st) mem := by
  obtain ⟨p, l, e, R, s, m, args, below, meth, c, A, cells, slots, Q⟩ := X
  obtain ⟨hd, rfl⟩ := hd
  intro H locs ls hP hS hl
  exact lv_if_lt hX.1 hX.2.1 hd ht (fun h => kt h H locs ls hP hS hl) (fun h => kf h H locs ls hP hS hl)
theorem z_if_ge {x : Int32} {off : Int} {tgt : Nat} (hX : zG ι M X n ps) (hd : zD M.2.1 pc (.ifCond .ge off) 3 npc) (ht : (pc : Int) + off = (tgt : Int)) (kt : 0 ≤ x → zW ι M X tgt lv st mem) (kf : ¬ 0 ≤ x → zW ι M X npc lv st mem) : zW ι M X pc lv (zI x :: st) mem := by
  obtain ⟨p, l, e, R, s, m, args, below, meth, c, A, cells, slots, Q⟩ := X
  obtain ⟨hd, rfl⟩ := hd
  intro H locs ls hP hS hl
  exact lv_if_ge hX.1 hX.2.1 hd ht (fun h => kt h H locs ls hP hS hl) (fun h => kf h H locs ls hP hS hl)
theorem z_if_gt {x : Int32} {off : Int} {tgt : Nat} (hX : zG ι M X n ps) (hd : zD M.2.1 pc (.ifCond .gt off) 3 npc) (ht : (pc : Int) + off = (tgt : Int)) (kt : 0 < x → zW ι M X tgt lv st mem) (kf : ¬ 0 < x → zW ι M X npc lv st mem) : zW ι M X pc lv (zI x :: st) mem := by
  obtain ⟨p, l, e, R, s, m, args, below, meth, c, A, cells, slots, Q⟩ := X
  obtain ⟨hd, rfl⟩ := hd
  intro H locs ls hP hS hl
  exact lv_if_gt hX.1 hX.2.1 hd ht (fun h => kt h H locs ls hP hS hl) (fun h => kf h H locs ls hP hS hl)
theorem z_if_le {x : Int32} {off : Int} {tgt : Nat} (hX : zG ι M X n ps) (hd : zD M.2.1 pc (.ifCond .le off) 3 npc) (ht : (pc : Int) + off = (tgt : Int)) (kt : x ≤ 0 → zW ι M X tgt lv st mem) (kf : ¬ x ≤ 0 → zW ι M X npc lv st mem) : zW ι M X pc lv (zI x :: st) mem := by
  obtain ⟨p, l, e, R, s, m, args, below, meth, c, A, cells, slots, Q⟩ := X
  obtain ⟨hd, rfl⟩ := hd
  intro H locs ls hP hS hl
  exact lv_if_le hX.1 hX.2.1 hd ht (fun h => kt h H locs ls hP hS hl) (fun h => kf h H locs ls hP hS hl)
theorem z_icmp_eq {x y : Int32} {off : Int} {tgt : Nat} (hX : zG ι M X n ps) (hd : zD M.2.1 pc (.if_icmp .eq off) 3 npc) (ht : (pc : Int) + off = (tgt : Int)) (kt : x = y → zW ι M X tgt lv st mem) (kf : ¬ x = y → zW ι M X npc lv st mem) : zW ι M X pc lv (zI y :: zI x :: st) mem := by
  obtain ⟨p, l, e, R, s, m, args, below, meth, c, A, cells, slots, Q⟩ := X
  obtain ⟨hd, rfl⟩ := hd
  intro H locs ls hP hS hl
  exact lv_icmp_eq hX.1 hX.2.1 hd ht (fun h => kt h H locs ls hP hS hl) (fun h => kf h H locs ls hP hS hl)
theorem z_icmp_ne {x y : Int32} {off : Int} {tgt : Nat} (hX : zG ι M X n ps) (hd : zD M.2.1 pc (.if_icmp .ne off) 3 npc) (ht : (pc : Int) + off = (tgt : Int)) (kt : ¬ x = y → zW ι M X tgt lv st mem) (kf : x = y → zW ι M X npc lv st mem) : zW ι M X pc lv (zI y :: zI x :: st) mem := by
  obtain ⟨p, l, e, R, s, m, args, below, meth, c, A, cells, slots, Q⟩ := X
  obtain ⟨hd, rfl⟩ := hd
  intro H locs ls hP hS hl
  exact lv_icmp_ne hX.1 hX.2.1 hd ht (fun h => kt h H locs ls hP hS hl) (fun h => kf h H locs ls hP hS hl)
theorem z_icmp_lt {x y : Int32} {off : Int} {tgt : Nat} (hX : zG ι M X n ps) (hd : zD M.2.1 pc (.if_icmp .lt off) 3 npc) (ht : (pc : Int) + off = (tgt : Int)) (kt : x < y → zW ι M X tgt lv st mem) (kf : ¬ x < y → zW ι M X npc lv st mem) : zW ι M X pc lv (zI y :: zI x :: st) mem := by
  obtain ⟨p, l, e, R, s, m, args, below, meth, c, A, cells, slots, Q⟩ := X
  obtain ⟨hd, rfl⟩ := hd
  intro H locs ls hP hS hl
  exact lv_icmp_lt hX.1 hX.2.1 hd ht (fun h => kt h H locs ls hP hS hl) (fun h => kf h H locs ls hP hS hl)
theorem z_icmp_ge {x y : Int32} {off : Int} {tgt : Nat} (hX : zG ι M X n ps) (hd : zD M.2.1 pc (.if_icmp .ge off) 3 npc) (ht : (pc : Int) + off = (tgt : Int)) (kt : y ≤ x → zW ι M X tgt lv st mem) (kf : ¬ y ≤ x → zW ι M X npc lv st mem) : zW ι M X pc lv (zI y :: zI x :: st) mem := by
  obtain ⟨p, l, e, R, s, m, args, below, meth, c, A, cells, slots, Q⟩ := X
  obtain ⟨hd, rfl⟩ := hd
  intro H locs ls hP hS hl
  exact lv_icmp_ge hX.1 hX.2.1 hd ht (fun h => kt h H locs ls hP hS hl) (fun h => kf h H locs ls hP hS hl)
theorem z_icmp_gt {x y : Int32} {off : Int} {tgt : Nat} (hX : zG ι M X n ps) (hd : zD M.2.1 pc (.if_icmp .gt off) 3 npc) (ht : (pc : Int) + off = (tgt : Int)) (kt : y < x → zW ι M X tgt lv st mem) (kf : ¬ y < x → zW ι M X npc lv st mem) : zW ι M X pc lv (zI y :: zI x :: st) mem := by
  obtain ⟨p, l, e, R, s, m, args, below, meth, c, A, cells, slots, Q⟩ := X
  obtain ⟨hd, rfl⟩ := hd
  intro H locs ls hP hS hl
  exact lv_icmp_gt hX.1 hX.2.1 hd ht (fun h => kt h H locs ls hP hS hl) (fun h => kf h H locs ls hP hS hl)
theorem z_icmp_le {x y : Int32} {off : Int} {tgt : Nat} (hX : zG ι M X n ps) (hd : zD M.2.1 pc (.if_icmp .le off) 3 npc) (ht : (pc : Int) + off = (tgt : Int)) (kt : x ≤ y → zW ι M X tgt lv st mem) (kf : ¬ x ≤ y → zW ι M X npc lv st mem) : zW ι M X pc lv (zI y :: zI x :: st) mem := by
  obtain ⟨p, l, e, R, s, m, args, below, meth, c, A, cells, slots, Q⟩ := X
  obtain ⟨hd, rfl⟩ := hd
  intro H locs ls hP hS hl
  exact lv_icmp_le hX.1 hX.2.1 hd ht (fun h => kt h H locs ls hP hS hl) (fun h => kf h H locs ls hP hS hl)
theorem z_goto {off : Int} {tgt : Nat} (hX : zG ι M X n ps) (hd : zD M.2.1 pc (.goto off) 3 npc) (ht : (pc : Int) + off = (tgt : Int)) (k : zW ι M X tgt lv st mem) : zW ι M X pc lv st mem := by
  obtain ⟨p, l, e, R, s, m, args, below, meth, c, A, cells, slots, Q⟩ := X
  obtain ⟨hd, rfl⟩ := hd
  intro H locs ls hP hS hl
  exact lv_goto hX.1 hX.2.1 hd ht (k H locs ls hP hS hl)
theorem z_lookup {x : Int32} {dflt off : Int} {qs : Array (Int × Int)} {len tgt : Nat} (hX : zG ι M X n ps) (hd : zD M.2.1 pc (.lookupswitch dflt qs) len npc) (hp : (qs.toList.zip (qs.toList.drop 1)).all (fun (a, next) => a.1 < next.1) = true) (ho : Op.lookupswitch.offset qs.toList dflt x.toInt = off) (ht : (pc : Int) + off = (tgt : Int)) (k : zW ι M X tgt lv st mem) : zW ι M X pc lv (zI x :: st) mem := by
  obtain ⟨p, l, e, R, s, m, args, below, meth, c, A, cells, slots, Q⟩ := X
  obtain ⟨hd, rfl⟩ := hd
  intro H locs ls hP hS hl
  exact lv_lookup hX.1 hX.2.1 hd hp ho ht (k H locs ls hP hS hl)
theorem z_tabOut {x : Int32} {dflt lo hi : Int} {offs : Array Int} {len tgt : Nat} (hX : zG ι M X n ps) (hd : zD M.2.1 pc (.tableswitch dflt lo hi offs) len npc) (h : x.toInt < lo ∨ hi < x.toInt) (ht : (pc : Int) + dflt = (tgt : Int)) (k : zW ι M X tgt lv st mem) : zW ι M X pc lv (zI x :: st) mem := by
  obtain ⟨p, l, e, R, s, m, args, below, meth, c, A, cells, slots, Q⟩ := X
  obtain ⟨hd, rfl⟩ := hd
  intro H locs ls hP hS hl
  exact lv_tableOut hX.1 hX.2.1 hd h ht (k H locs ls hP hS hl)
theorem z_tabIn {x : Int32} {dflt lo hi off : Int} {offs : Array Int} {len tgt : Nat} (hX : zG ι M X n ps) (hd : zD M.2.1 pc (.tableswitch dflt lo hi offs) len npc) (h1 : ¬ x.toInt < lo) (h2 : ¬ hi < x.toInt) (ho : offs[(x.toInt - lo).toNat]? = some off) (ht : (pc : Int) + off = (tgt : Int)) (k : zW ι M X tgt lv st mem) : zW ι M X pc lv (zI x :: st) mem := by
  obtain ⟨p, l, e, R, s, m, args, below, meth, c, A, cells, slots, Q⟩ := X
  obtain ⟨hd, rfl⟩ := hd
  intro H locs ls hP hS hl
  exact lv_tableIn hX.1 hX.2.1 hd h1 h2 ho ht (k H locs ls hP hS hl)
theorem z_iret {x : Int32} {Post : Option zV → zM → Prop} (hX : zG ι M X n ps) (hR : zRt ι X Post) (hd : zD M.2.1 pc (.ireturn) 1 npc) (hr : M.2.2.2 = some .int) (k : Post (some (zI x)) mem) : zW ι M X pc lv [zI x] mem := by
  obtain ⟨p, l, e, R, s, m, args, below, meth, c, A, cells, slots, Q⟩ := X
  obtain ⟨hd, rfl⟩ := hd
  intro H locs ls hP hS hl
  obtain ⟨rfl, rfl, rfl⟩ := hR
  have hlocks : meth.locks = false := hX.2.2.2.2.2.2.1
  exact W.iret hX.1 hX.2.1 (hX.2.2.2.2.2.1.trans hr) (fun t ht hW => ⟨⟨(some (zI x)), mem, rfl, k, by rw [ht]; exact hP⟩, hS.F ht⟩) hS.2.2 hd
theorem z_lret {x : Int64} {Post : Option zV → zM → Prop} (hX : zG ι M X n ps) (hR : zRt ι X Post) (hd : zD M.2.1 pc (.lreturn) 1 npc) (hr : M.2.2.2 = some .long) (k : Post (some (zJ x)) mem) : zW ι M X pc lv [zJ x] mem := by
  obtain ⟨p, l, e, R, s, m, args, below, meth, c, A, cells, slots, Q⟩ := X
  obtain ⟨hd, rfl⟩ := hd
  intro H locs ls hP hS hl
  obtain ⟨rfl, rfl, rfl⟩ := hR
  have hlocks : meth.locks = false := hX.2.2.2.2.2.2.1
  exact W.lret hX.1 hX.2.1 (hX.2.2.2.2.2.1.trans hr) (fun t ht hW => ⟨⟨(some (zJ x)), mem, rfl, k, by rw [ht]; exact hP⟩, hS.F ht⟩) hS.2.2 hd
theorem z_ret {Post : Option zV → zM → Prop} (hX : zG ι M X n ps) (hR : zRt ι X Post) (hd : zD M.2.1 pc (.return_) 1 npc) (hr : M.2.2.2 = none) (k : Post none mem) : zW ι M X pc lv [] mem := by
  obtain ⟨p, l, e, R, s, m, args, below, meth, c, A, cells, slots, Q⟩ := X
  obtain ⟨hd, rfl⟩ := hd
  intro H locs ls hP hS hl
  obtain ⟨rfl, rfl, rfl⟩ := hR
  have hlocks : meth.locks = false := hX.2.2.2.2.2.2.1
  exact W.vret hX.1 hX.2.1 (hX.2.2.2.2.2.1.trans hr) (fun t ht hW => ⟨⟨none, mem, rfl, k, by rw [ht]; exact hP⟩, hS.F ht⟩) hS.2.2 hd
theorem z_zret {x : Int32} {Post : Option zV → zM → Prop} (hX : zG ι M X n ps) (hR : zRt ι X Post) (hd : zD M.2.1 pc (.ireturn) 1 npc) (hr : M.2.2.2 = some .boolean) (hx : x = 0 ∨ x = 1) (k : Post (some (zI x)) mem) : zW ι M X pc lv [zI x] mem := by
  obtain ⟨p, l, e, R, s, m, args, below, meth, c, A, cells, slots, Q⟩ := X
  obtain ⟨hd, rfl⟩ := hd
  intro H locs ls hP hS hl
  obtain ⟨rfl, rfl, rfl⟩ := hR
  have hlocks : meth.locks = false := hX.2.2.2.2.2.2.1
  exact W.zret hX.1 hX.2.1 (hX.2.2.2.2.2.1.trans hr) (by rcases hx with rfl | rfl <;> rfl) (fun t ht hW => ⟨⟨(some (zI x)), mem, rfl, k, by rw [ht]; exact hP⟩, hS.F ht⟩) hS.2.2 hd
end ZR
end
section
/-! memory: stores, and the rows that read and write cells -/
def upI (mem : zM) (p k j : Nat) (v : Int32) : zM := (fun a b c => if a = p ∧ b = k ∧ c = j then v else mem.1 a b c, mem.2)
def upJ (mem : zM) (p k j : Nat) (v : Int64) : zM := (mem.1, fun a b c => if a = p ∧ b = k ∧ c = j then v else mem.2.1 a b c, mem.2.2)
def upR (mem : zM) (p k j : Nat) (v : Nat) : zM := (mem.1, mem.2.1, fun a b c => if a = p ∧ b = k ∧ c = j then v else mem.2.2 a b c)
theorem z_cell_congr {ι : zE} {mem mem' : zM} {q : zR} (h1 : mem'.1 q.1 q.2 = mem.1 q.1 q.2) (h2 : mem'.2.1 q.1 q.2 = mem.2.1 q.1 q.2) (h3 : mem'.2.2 q.1 q.2 = mem.2.2 q.1 q.2) : z_cell ι mem' q = z_cell ι mem q := by
  unfold z_cell
  cases (zsh q.1).2 with
  | inl o => simp only [z_fs, z_sv, h1, h2, h3]
  | inr a => simp only [z_ar, h1, h2, h3]
theorem upI_ne {mem : zM} {p k j : Nat} {v : Int32} {q : zR} (h : q ≠ (p, k)) : (upI mem p k j v).1 q.1 q.2 = mem.1 q.1 q.2 := by
  funext c
  show (if q.1 = p ∧ q.2 = k ∧ c = j then v else mem.1 q.1 q.2 c) = mem.1 q.1 q.2 c
  rw [if_neg]
  rintro ⟨h1, h2, -⟩
  exact h (Prod.ext h1 h2)
theorem upJ_ne {mem : zM} {p k j : Nat} {v : Int64} {q : zR} (h : q ≠ (p, k)) : (upJ mem p k j v).2.1 q.1 q.2 = mem.2.1 q.1 q.2 := by
  funext c
  show (if q.1 = p ∧ q.2 = k ∧ c = j then v else mem.2.1 q.1 q.2 c) = mem.2.1 q.1 q.2 c
  rw [if_neg]
  rintro ⟨h1, h2, -⟩
  exact h (Prod.ext h1 h2)
theorem upR_ne {mem : zM} {p k j : Nat} {v : Nat} {q : zR} (h : q ≠ (p, k)) : (upR mem p k j v).2.2 q.1 q.2 = mem.2.2 q.1 q.2 := by
  funext c
  show (if q.1 = p ∧ q.2 = k ∧ c = j then v else mem.2.2 q.1 q.2 c) = mem.2.2 q.1 q.2 c
  rw [if_neg]
  rintro ⟨h1, h2, -⟩
  exact h (Prod.ext h1 h2)
theorem upI_row {mem : zM} {p k j : Nat} {v : Int32} : (upI mem p k j v).1 p k = upd (mem.1 p k) j v := by
  funext c
  show (if p = p ∧ k = k ∧ c = j then v else mem.1 p k c) = if c = j then v else mem.1 p k c
  by_cases h : c = j <;> simp [h]
theorem upJ_row {mem : zM} {p k j : Nat} {v : Int64} : (upJ mem p k j v).2.1 p k = vp_updL (mem.2.1 p k) j v := by
  funext c
  show (if p = p ∧ k = k ∧ c = j then v else mem.2.1 p k c) = if c = j then v else mem.2.1 p k c
  by_cases h : c = j <;> simp [h]
theorem z_ws_set {ι : zE} {mem mem' : zM} {i : Nat} {q : zR} (h : (zeK ι)[i]? = some q) (hn : (zeK ι).Nodup) (he : ∀ q', q' ≠ q → z_cell ι mem' q' = z_cell ι mem q') : (z_ws ι mem).set i (z_cell ι mem' q) = z_ws ι mem' := by
  apply List.ext_getElem?
  intro j
  have hl : i < (zeK ι).length := (List.getElem?_eq_some_iff.mp h).1
  by_cases e : i = j
  · subst e
    rw [List.getElem?_set_self (by rw [z_ws_len]; exact hl), z_ws_at h]
  · rw [List.getElem?_set_ne e]
    cases hj : (zeK ι)[j]? with
    | none => simp [z_ws, hj]
    | some q' =>
      rw [z_ws_at hj, z_ws_at hj, he q']
      intro e2
      subst e2
      exact e ((List.getElem?_inj hl hn).mp (h.trans hj.symm))
theorem z_fs_len (r : Nat → Nat → Nat) (mem : zM) (p k : Nat) (sks : List zK) : (z_fs r mem p k sks).length = sks.length := by simp [z_fs]
theorem z_fs_at {r : Nat → Nat → Nat} {mem : zM} {p k j : Nat} {sks : List zK} {sk : zK} (h : sks[j]? = some sk) : (z_fs r mem p k sks)[j]? = some (z_tv r (z_sv mem p k j sk)) := by
  have hj := (List.getElem?_eq_some_iff.mp h).1
  have hg := (List.getElem?_eq_some_iff.mp h).2
  simp [z_fs, hj, hg]
theorem z_fs_set {r : Nat → Nat → Nat} {mem mem' : zM} {p k j : Nat} {sks : List zK} {sk : zK} {v : Value} (h : sks[j]? = some sk) (hv : v = z_tv r (z_sv mem' p k j sk)) (ho : ∀ i sk', i ≠ j → z_sv mem' p k i sk' = z_sv mem p k i sk') : (z_fs r mem p k sks).set j v = z_fs r mem' p k sks := by
  apply List.ext_getElem?
  intro i
  have hj := (List.getElem?_eq_some_iff.mp h).1
  by_cases e : j = i
  · subst e
    rw [List.getElem?_set_self (by rw [z_fs_len]; exact hj), z_fs_at h, hv]
  · rw [List.getElem?_set_ne e]
    cases hi : sks[i]? with
    | none =>
      have : sks.length ≤ i := by simpa using hi
      rw [List.getElem?_eq_none (by rw [z_fs_len]; exact this), List.getElem?_eq_none (by rw [z_fs_len]; exact this)]
    | some sk' => rw [z_fs_at hi, z_fs_at hi, ho i sk' (Ne.symm e)]
theorem upI_sv {mem : zM} {p k j i : Nat} {v : Int32} {sk : zK} (h : i ≠ j) : z_sv (upI mem p k j v) p k i sk = z_sv mem p k i sk := by
  have h1 : (upI mem p k j v).1 p k i = mem.1 p k i := by
    show (if p = p ∧ k = k ∧ i = j then v else mem.1 p k i) = mem.1 p k i
    rw [if_neg]; rintro ⟨-, -, h2⟩; exact h h2
  unfold z_sv
  rw [h1]; rfl
theorem upR_sv {mem : zM} {p k j i : Nat} {v : Nat} {sk : zK} (h : i ≠ j) : z_sv (upR mem p k j v) p k i sk = z_sv mem p k i sk := by
  have h1 : (upR mem p k j v).2.2 p k i = mem.2.2 p k i := by
    show (if p = p ∧ k = k ∧ i = j then v else mem.2.2 p k i) = mem.2.2 p k i
    rw [if_neg]; rintro ⟨-, -, h2⟩; exact h h2
  unfold z_sv
  rw [h1]; rfl
theorem upI_at {mem : zM} {p k j : Nat} {v : Int32} : (upI mem p k j v).1 p k j = v := by
  show (if p = p ∧ k = k ∧ j = j then v else mem.1 p k j) = v
  rw [if_pos ⟨rfl, rfl, rfl⟩]
theorem upR_at {mem : zM} {p k j v : Nat} : (upR mem p k j v).2.2 p k j = v := by
  show (if p = p ∧ k = k ∧ j = j then v else mem.2.2 p k j) = v
  rw [if_pos ⟨rfl, rfl, rfl⟩]
theorem z_cellO {ι : zE} {mem : zM} {p k cnt ci : Nat} {sks : List zK} (h : zsh p = (cnt, .inl (ci, sks))) : z_cell ι mem (p, k) = (zeR ι p k, .inr (ci, z_fs (zeR ι) mem p k sks)) := by
  unfold z_cell; rw [h]
theorem z_cellA {ι : zE} {mem : zM} {p k cnt N : Nat} {ty : FieldType} {sk : zK} (h : zsh p = (cnt, .inr (ty, N, sk))) : z_cell ι mem (p, k) = (zeR ι p k, .inl (zeT ι ty, z_ar (zeR ι) mem p k N sk)) := by
  unfold z_cell; rw [h]
/-- a field by its link -/
def zF (own : String) (idx ci j : Nat) : Prop := ∃ (C : String) (T : u_T) (N : Nat), zCl[ci]? = some (C, T, N) ∧ j < N ∧ Cond.fieldLink own idx C (T j).2.1 (T j).2.2.1 ∈ zTS ∧ (∀ w ∈ u_ws C T N, w ∈ zTS) ∧ (T j).1 = C
def zFp (own : String) (idx ci j : Nat) (ty : FieldType) : Prop := ∃ (C : String) (T : u_T) (N : Nat) (ty0 : Nat → FieldType), zCl[ci]? = some (C, T, N) ∧ j < N ∧ Cond.fieldLink own idx C (T j).2.1 (T j).2.2.1 ∈ zTS ∧ (∀ w ∈ u_ws C T N, w ∈ zTS) ∧ (T j).1 = C ∧ (∀ k, k < N → parseFieldDescriptor (T k).2.2.1 = some (ty0 k)) ∧ (∀ a, a < N → ∀ b, b < N → a ≠ b → (T a).2.1 ≠ (T b).2.1) ∧ (T j).2.2.2 = false ∧ parseFieldDescriptor (T j).2.2.1 = some ty
section ZM
variable {ι : zE} {M : zMR} {X : zX} {n : Nat} {ps : List Nat} {pc npc : Nat} {lv : List (Option zV)} {st : List zV} {mem : zM} {p k cnt : Nat}
theorem z_get {idx ci j : Nat} {sks : List zK} {sk : zK} {v : zV} (hX : zG ι M X n ps) (hd : zD M.2.1 pc (.getfield idx) 3 npc) (hf : zF M.1.cls idx ci j) (hsh : zsh p = (cnt, .inl (ci, sks))) (hp : p ∈ ps) (hk : k < cnt) (hsk : sks[j]? = some sk) (hv : z_sv mem p k j sk = v) (kk : zW ι M X npc lv (v :: st) mem) : zW ι M X pc lv (zP p k :: st) mem := by
  obtain ⟨P, l, e, R, s, m, args, below, meth, c, A, cells, slots, Q⟩ := X
  obtain ⟨hd, rfl⟩ := hd
  intro H locs ls hP hS hl
  obtain ⟨hx, hb, hml, hown, hts, hret, hlocks, hK, hAd, hA, hSt, hfr, hlo, hce, hsl, hHas⟩ := hX
  obtain ⟨i, hi⟩ := List.getElem?_of_mem (hHas p k hp (by rw [hsh]; exact hk))
  have he := z_ws_at (mem := mem) hi
  rw [z_cellO hsh] at he
  obtain ⟨C, T, N, h1, h2, h3, h4, h5⟩ := hf
  subst hv
  exact va_get hx hb hts h4 hown hK hP i he h1 j h2 (hts _ h3) (fun x hx => by rw [h5] at hx; exact hx) (z_fs_at hsk) hd (kk H locs ls hP hS hl)
theorem z_geti {idx ci j : Nat} {sks : List zK} {q0 : Nat} {f0 : Nat → Nat → Nat} (hX : zG ι M X n ps) (hd : zD M.2.1 pc (.getfield idx) 3 npc) (hf : zF M.1.cls idx ci j) (hsh : zsh p = (cnt, .inl (ci, sks))) (hp : p ∈ ps) (hk : k < cnt) (hsk : sks[j]? = some (0, q0, f0)) (kk : zW ι M X npc lv (zI (mem.1 p k j) :: st) mem) : zW ι M X pc lv (zP p k :: st) mem := z_get hX hd hf hsh hp hk hsk rfl kk
theorem z_getc {idx ci j : Nat} {sks : List zK} {q0 : Nat} {f0 : Nat → Nat → Nat} (hX : zG ι M X n ps) (hd : zD M.2.1 pc (.getfield idx) 3 npc) (hf : zF M.1.cls idx ci j) (hsh : zsh p = (cnt, .inl (ci, sks))) (hp : p ∈ ps) (hk : k < cnt) (hsk : sks[j]? = some (2, q0, f0)) (kk : zW ι M X npc lv (zP q0 (f0 k j) :: st) mem) : zW ι M X pc lv (zP p k :: st) mem := z_get hX hd hf hsh hp hk hsk rfl kk
theorem z_getv {idx ci j : Nat} {sks : List zK} {q0 : Nat} {f0 : Nat → Nat → Nat} (hX : zG ι M X n ps) (hd : zD M.2.1 pc (.getfield idx) 3 npc) (hf : zF M.1.cls idx ci j) (hsh : zsh p = (cnt, .inl (ci, sks))) (hp : p ∈ ps) (hk : k < cnt) (hsk : sks[j]? = some (3, q0, f0)) (kk : zW ι M X npc lv (zP q0 (mem.2.2 p k j) :: st) mem) : zW ι M X pc lv (zP p k :: st) mem := z_get hX hd hf hsh hp hk hsk rfl kk
theorem z_put {idx ci j : Nat} {sks : List zK} {sk : zK} {v : zV} {mem' : zM} {ty : FieldType} (hX : zG ι M X n ps) (hd : zD M.2.1 pc (.putfield idx) 3 npc) (hf : zFp M.1.cls idx ci j ty) (hsh : zsh p = (cnt, .inl (ci, sks))) (hp : p ∈ ps) (hk : k < cnt) (hsk : sks[j]? = some sk) (hn : narrow ty (z_tv (zeR ι) v) = z_tv (zeR ι) v) (hfit : fits ty (z_tv (zeR ι) v) = true) (hv : z_sv mem' p k j sk = v) (ho : ∀ i sk', i ≠ j → z_sv mem' p k i sk' = z_sv mem p k i sk') (hq : ∀ q, q ≠ (p, k) → z_cell ι mem' q = z_cell ι mem q) (kk : zW ι M X npc lv st mem') : zW ι M X pc lv (v :: zP p k :: st) mem := by
  obtain ⟨P, l, e, R, s, m, args, below, meth, c, A, cells, slots, Q⟩ := X
  obtain ⟨hd, rfl⟩ := hd
  intro H locs ls hP hS hl
  obtain ⟨hx, hb, hml, hown, hts, hret, hlocks, hK, hAd, hA, hSt, hfr, hlo, hce, hsl, hHas⟩ := hX
  obtain ⟨i, hi⟩ := List.getElem?_of_mem (hHas p k hp (by rw [hsh]; exact hk))
  have he := z_ws_at (mem := mem) hi
  rw [z_cellO hsh] at he
  obtain ⟨C, T, N, ty0, h1, h2, h3, h4, h5, h6, h7, h8, h9⟩ := hf
  refine va_put hx hb hts h4 ty0 h6 h7 hown hK hP (hAd.D mem) hS i he h1 j h2 (hts _ h3) (fun x hx => by rw [h5] at hx; exact hx) h8 h9 hn hfit (by rw [z_fs_len]; exact (List.getElem?_eq_some_iff.mp hsk).1) hd (fun H1 locs1 hP1 _ hS1 => ?_)
  rw [z_fs_set (mem' := mem') hsk (by rw [hv]) ho] at hP1
  have hc := z_cellO (ι := ι) (mem := mem') (k := k) hsh
  rw [← hc, z_ws_set hi hAd.1 hq] at hP1
  exact kk H1 locs1 ls hP1 hS1 hl
theorem z_puti {idx ci j : Nat} {sks : List zK} {q0 : Nat} {f0 : Nat → Nat → Nat} {v : Int32} (hX : zG ι M X n ps) (hd : zD M.2.1 pc (.putfield idx) 3 npc) (hf : zFp M.1.cls idx ci j .int) (hsh : zsh p = (cnt, .inl (ci, sks))) (hp : p ∈ ps) (hk : k < cnt) (hsk : sks[j]? = some (0, q0, f0)) (kk : zW ι M X npc lv st (upI mem p k j v)) : zW ι M X pc lv (zI v :: zP p k :: st) mem :=
  z_put hX hd hf hsh hp hk hsk rfl rfl (congrArg zI upI_at) (fun _ _ h => upI_sv h) (fun _ h => z_cell_congr (upI_ne h) rfl rfl) kk
theorem z_putz {idx ci j : Nat} {sks : List zK} {q0 : Nat} {f0 : Nat → Nat → Nat} {v : Int32} (hX : zG ι M X n ps) (hd : zD M.2.1 pc (.putfield idx) 3 npc) (hf : zFp M.1.cls idx ci j .boolean) (hsh : zsh p = (cnt, .inl (ci, sks))) (hp : p ∈ ps) (hk : k < cnt) (hsk : sks[j]? = some (0, q0, f0)) (hv : v = 0 ∨ v = 1) (kk : zW ι M X npc lv st (upI mem p k j v)) : zW ι M X pc lv (zI v :: zP p k :: st) mem :=
  z_put hX hd hf hsh hp hk hsk (by rcases hv with rfl | rfl <;> rfl) (by rcases hv with rfl | rfl <;> rfl) (congrArg zI upI_at) (fun _ _ h => upI_sv h) (fun _ h => z_cell_congr (upI_ne h) rfl rfl) kk
theorem z_putv {idx ci j : Nat} {sks : List zK} {q0 i0 : Nat} {f0 : Nat → Nat → Nat} {t : FieldType} (hX : zG ι M X n ps) (hd : zD M.2.1 pc (.putfield idx) 3 npc) (hf : zFp M.1.cls idx ci j (.array t)) (hsh : zsh p = (cnt, .inl (ci, sks))) (hp : p ∈ ps) (hk : k < cnt) (hsk : sks[j]? = some (3, q0, f0)) (kk : zW ι M X npc lv st (upR mem p k j i0)) : zW ι M X pc lv (zP q0 i0 :: zP p k :: st) mem :=
  z_put hX hd hf hsh hp hk hsk rfl rfl (congrArg (zP q0) upR_at) (fun _ _ h => upR_sv h) (fun _ h => z_cell_congr rfl rfl (upR_ne h)) kk
end ZM
end
section
/-! arrays, tables, calls -/
section ZA
variable {ι : zE} {M : zMR} {X : zX} {n : Nat} {ps : List Nat} {pc npc : Nat} {lv : List (Option zV)} {st : List zV} {mem : zM} {p k cnt : Nat}
theorem z_iald {N j q0 : Nat} {f0 : Nat → Nat → Nat} {x : Int32} (hX : zG ι M X n ps) (hd : zD M.2.1 pc (.iaload) 1 npc) (hsh : zsh p = (cnt, .inr (.int, N, (0, q0, f0)))) (hp : p ∈ ps) (hk : k < cnt) (hN : N < 2 ^ 31) (hx : x = nI j) (hj : j < N) (kk : zW ι M X npc lv (zI (mem.1 p k j) :: st) mem) : zW ι M X pc lv (zI x :: zP p k :: st) mem := by
  subst hx
  obtain ⟨P, l, e, R, s, m, args, below, meth, c, A, cells, slots, Q⟩ := X
  obtain ⟨hd, rfl⟩ := hd
  intro H locs ls hP hS hl
  obtain ⟨hx, hb, hml, hown, hts, hret, hlocks, hK, hAd, hA, hSt, hfr, hlo, hce, hsl, hHas⟩ := hX
  obtain ⟨i, hi⟩ := List.getElem?_of_mem (hHas p k hp (by rw [hsh]; exact hk))
  have he := z_ws_at (mem := mem) hi
  rw [z_cellA hsh] at he
  refine va_iald hx hb hK hP i 0 he rfl (vp_in_nI hj hN) hd ?_
  rw [nI_clamp (Nat.lt_trans hj hN)]
  exact kk H locs ls hP hS hl
theorem z_bald {N j q0 : Nat} {f0 : Nat → Nat → Nat} {x : Int32} (hX : zG ι M X n ps) (hd : zD M.2.1 pc (.baload) 1 npc) (hsh : zsh p = (cnt, .inr (.byte, N, (0, q0, f0)))) (hp : p ∈ ps) (hk : k < cnt) (hN : N < 2 ^ 31) (hx : x = nI j) (hj : j < N) (kk : zW ι M X npc lv (zI (mem.1 p k j) :: st) mem) : zW ι M X pc lv (zI x :: zP p k :: st) mem := by
  subst hx
  obtain ⟨P, l, e, R, s, m, args, below, meth, c, A, cells, slots, Q⟩ := X
  obtain ⟨hd, rfl⟩ := hd
  intro H locs ls hP hS hl
  obtain ⟨hx, hb, hml, hown, hts, hret, hlocks, hK, hAd, hA, hSt, hfr, hlo, hce, hsl, hHas⟩ := hX
  obtain ⟨i, hi⟩ := List.getElem?_of_mem (hHas p k hp (by rw [hsh]; exact hk))
  have he := z_ws_at (mem := mem) hi
  rw [z_cellA hsh] at he
  refine va_bald hx hb hK hP i 1 he rfl (vp_in_nI hj hN) hd ?_
  rw [nI_clamp (Nat.lt_trans hj hN)]
  exact kk H locs ls hP hS hl
theorem z_zald {N j q0 : Nat} {f0 : Nat → Nat → Nat} {x : Int32} (hX : zG ι M X n ps) (hd : zD M.2.1 pc (.baload) 1 npc) (hsh : zsh p = (cnt, .inr (.boolean, N, (0, q0, f0)))) (hp : p ∈ ps) (hk : k < cnt) (hN : N < 2 ^ 31) (hx : x = nI j) (hj : j < N) (kk : zW ι M X npc lv (zI (mem.1 p k j) :: st) mem) : zW ι M X pc lv (zI x :: zP p k :: st) mem := by
  subst hx
  obtain ⟨P, l, e, R, s, m, args, below, meth, c, A, cells, slots, Q⟩ := X
  obtain ⟨hd, rfl⟩ := hd
  intro H locs ls hP hS hl
  obtain ⟨hx, hb, hml, hown, hts, hret, hlocks, hK, hAd, hA, hSt, hfr, hlo, hce, hsl, hHas⟩ := hX
  obtain ⟨i, hi⟩ := List.getElem?_of_mem (hHas p k hp (by rw [hsh]; exact hk))
  have he := z_ws_at (mem := mem) hi
  rw [z_cellA hsh] at he
  refine va_zald hx hb hK hP i 3 he rfl (vp_in_nI hj hN) hd ?_
  rw [nI_clamp (Nat.lt_trans hj hN)]
  exact kk H locs ls hP hS hl
theorem z_sald {N j q0 : Nat} {f0 : Nat → Nat → Nat} {x : Int32} (hX : zG ι M X n ps) (hd : zD M.2.1 pc (.saload) 1 npc) (hsh : zsh p = (cnt, .inr (.short, N, (0, q0, f0)))) (hp : p ∈ ps) (hk : k < cnt) (hN : N < 2 ^ 31) (hx : x = nI j) (hj : j < N) (kk : zW ι M X npc lv (zI (mem.1 p k j) :: st) mem) : zW ι M X pc lv (zI x :: zP p k :: st) mem := by
  subst hx
  obtain ⟨P, l, e, R, s, m, args, below, meth, c, A, cells, slots, Q⟩ := X
  obtain ⟨hd, rfl⟩ := hd
  intro H locs ls hP hS hl
  obtain ⟨hx, hb, hml, hown, hts, hret, hlocks, hK, hAd, hA, hSt, hfr, hlo, hce, hsl, hHas⟩ := hX
  obtain ⟨i, hi⟩ := List.getElem?_of_mem (hHas p k hp (by rw [hsh]; exact hk))
  have he := z_ws_at (mem := mem) hi
  rw [z_cellA hsh] at he
  refine va_sald hx hb hK hP i 2 he rfl (vp_in_nI hj hN) hd ?_
  rw [nI_clamp (Nat.lt_trans hj hN)]
  exact kk H locs ls hP hS hl
theorem z_lald {N j q0 : Nat} {f0 : Nat → Nat → Nat} {x : Int32} (hX : zG ι M X n ps) (hd : zD M.2.1 pc (.laload) 1 npc) (hsh : zsh p = (cnt, .inr (.long, N, (1, q0, f0)))) (hp : p ∈ ps) (hk : k < cnt) (hN : N < 2 ^ 31) (hx : x = nI j) (hj : j < N) (kk : zW ι M X npc lv (zJ (mem.2.1 p k j) :: st) mem) : zW ι M X pc lv (zI x :: zP p k :: st) mem := by
  subst hx
  obtain ⟨P, l, e, R, s, m, args, below, meth, c, A, cells, slots, Q⟩ := X
  obtain ⟨hd, rfl⟩ := hd
  intro H locs ls hP hS hl
  obtain ⟨hx, hb, hml, hown, hts, hret, hlocks, hK, hAd, hA, hSt, hfr, hlo, hce, hsl, hHas⟩ := hX
  obtain ⟨i, hi⟩ := List.getElem?_of_mem (hHas p k hp (by rw [hsh]; exact hk))
  have he := z_ws_at (mem := mem) hi
  rw [z_cellA hsh] at he
  refine va_lald hx hb hK hP i 4 he rfl (vp_in_nI hj hN) hd ?_
  rw [nI_clamp (Nat.lt_trans hj hN)]
  exact kk H locs ls hP hS hl
theorem z_aldCubec {N j q0 : Nat} {f0 : Nat → Nat → Nat} {x : Int32} (hX : zG ι M X n ps) (hd : zD M.2.1 pc (.aaload) 1 npc) (hsh : zsh p = (cnt, .inr (.object "FourCubes$Cube", N, (2, q0, f0)))) (hp : p ∈ ps) (hk : k < cnt) (hN : N < 2 ^ 31) (hx : x = nI j) (hj : j < N) (kk : zW ι M X npc lv (zP q0 (f0 k j) :: st) mem) : zW ι M X pc lv (zI x :: zP p k :: st) mem := by
  subst hx
  obtain ⟨P, l, e, R, s, m, args, below, meth, c, A, cells, slots, Q⟩ := X
  obtain ⟨hd, rfl⟩ := hd
  intro H locs ls hP hS hl
  obtain ⟨hx, hb, hml, hown, hts, hret, hlocks, hK, hAd, hA, hSt, hfr, hlo, hce, hsl, hHas⟩ := hX
  obtain ⟨i, hi⟩ := List.getElem?_of_mem (hHas p k hp (by rw [hsh]; exact hk))
  have he := z_ws_at (mem := mem) hi
  rw [z_cellA hsh] at he
  refine va_aldq hx hb hK hP i 5 he rfl (vp_in_nI hj hN) hd ?_
  rw [nI_clamp (Nat.lt_trans hj hN)]
  exact kk H locs ls hP hS hl
theorem z_aldShelfc {N j q0 : Nat} {f0 : Nat → Nat → Nat} {x : Int32} (hX : zG ι M X n ps) (hd : zD M.2.1 pc (.aaload) 1 npc) (hsh : zsh p = (cnt, .inr (.object "FourCubes$Shelf", N, (2, q0, f0)))) (hp : p ∈ ps) (hk : k < cnt) (hN : N < 2 ^ 31) (hx : x = nI j) (hj : j < N) (kk : zW ι M X npc lv (zP q0 (f0 k j) :: st) mem) : zW ι M X pc lv (zI x :: zP p k :: st) mem := by
  subst hx
  obtain ⟨P, l, e, R, s, m, args, below, meth, c, A, cells, slots, Q⟩ := X
  obtain ⟨hd, rfl⟩ := hd
  intro H locs ls hP hS hl
  obtain ⟨hx, hb, hml, hown, hts, hret, hlocks, hK, hAd, hA, hSt, hfr, hlo, hce, hsl, hHas⟩ := hX
  obtain ⟨i, hi⟩ := List.getElem?_of_mem (hHas p k hp (by rw [hsh]; exact hk))
  have he := z_ws_at (mem := mem) hi
  rw [z_cellA hsh] at he
  refine va_aldq hx hb hK hP i 6 he rfl (vp_in_nI hj hN) hd ?_
  rw [nI_clamp (Nat.lt_trans hj hN)]
  exact kk H locs ls hP hS hl
theorem z_aldCubev {N j q0 : Nat} {f0 : Nat → Nat → Nat} {x : Int32} (hX : zG ι M X n ps) (hd : zD M.2.1 pc (.aaload) 1 npc) (hsh : zsh p = (cnt, .inr (.object "FourCubes$Cube", N, (3, q0, f0)))) (hp : p ∈ ps) (hk : k < cnt) (hN : N < 2 ^ 31) (hx : x = nI j) (hj : j < N) (kk : zW ι M X npc lv (zP q0 (mem.2.2 p k j) :: st) mem) : zW ι M X pc lv (zI x :: zP p k :: st) mem := by
  subst hx
  obtain ⟨P, l, e, R, s, m, args, below, meth, c, A, cells, slots, Q⟩ := X
  obtain ⟨hd, rfl⟩ := hd
  intro H locs ls hP hS hl
  obtain ⟨hx, hb, hml, hown, hts, hret, hlocks, hK, hAd, hA, hSt, hfr, hlo, hce, hsl, hHas⟩ := hX
  obtain ⟨i, hi⟩ := List.getElem?_of_mem (hHas p k hp (by rw [hsh]; exact hk))
  have he := z_ws_at (mem := mem) hi
  rw [z_cellA hsh] at he
  refine va_aldq hx hb hK hP i 5 he rfl (vp_in_nI hj hN) hd ?_
  rw [nI_clamp (Nat.lt_trans hj hN)]
  exact kk H locs ls hP hS hl
theorem z_iast {N j q0 : Nat} {f0 : Nat → Nat → Nat} {x v : Int32} (hX : zG ι M X n ps) (hd : zD M.2.1 pc (.iastore) 1 npc) (hsh : zsh p = (cnt, .inr (.int, N, (0, q0, f0)))) (hp : p ∈ ps) (hk : k < cnt) (hN : N < 2 ^ 31) (hx : x = nI j) (hj : j < N) (kk : zW ι M X npc lv st (upI mem p k j (v))) : zW ι M X pc lv (zI v :: zI x :: zP p k :: st) mem := by
  subst hx
  obtain ⟨P, l, e, R, s, m, args, below, meth, c, A, cells, slots, Q⟩ := X
  obtain ⟨hd, rfl⟩ := hd
  intro H locs ls hP hS hl
  obtain ⟨hx, hb, hml, hown, hts, hret, hlocks, hK, hAd, hA, hSt, hfr, hlo, hce, hsl, hHas⟩ := hX
  obtain ⟨i, hi⟩ := List.getElem?_of_mem (hHas p k hp (by rw [hsh]; exact hk))
  have he := z_ws_at (mem := mem) hi
  rw [z_cellA hsh] at he
  refine va_iast hx hb hK hP (hAd.D mem) hS i 0 he rfl (vp_in_nI hj hN) hd (fun H1 locs1 hP1 _ hS1 => ?_)
  rw [nI_clamp (Nat.lt_trans hj hN)] at hP1
  have hc : z_cell ι (upI mem p k j (v)) (p, k) = (zeR ι p k, .inl (zeT ι .int, N, .inl (upd (mem.1 p k) j (v)))) := by
    rw [z_cellA hsh, ← upI_row]; rfl
  rw [← hc, z_ws_set hi hAd.1 (fun _ h => z_cell_congr (upI_ne h) rfl rfl)] at hP1
  exact kk H1 locs1 ls hP1 hS1 hl
theorem z_bast {N j q0 : Nat} {f0 : Nat → Nat → Nat} {x v : Int32} (hX : zG ι M X n ps) (hd : zD M.2.1 pc (.bastore) 1 npc) (hsh : zsh p = (cnt, .inr (.byte, N, (0, q0, f0)))) (hp : p ∈ ps) (hk : k < cnt) (hN : N < 2 ^ 31) (hx : x = nI j) (hj : j < N) (kk : zW ι M X npc lv st (upI mem p k j (v.toInt8.toInt32))) : zW ι M X pc lv (zI v :: zI x :: zP p k :: st) mem := by
  subst hx
  obtain ⟨P, l, e, R, s, m, args, below, meth, c, A, cells, slots, Q⟩ := X
  obtain ⟨hd, rfl⟩ := hd
  intro H locs ls hP hS hl
  obtain ⟨hx, hb, hml, hown, hts, hret, hlocks, hK, hAd, hA, hSt, hfr, hlo, hce, hsl, hHas⟩ := hX
  obtain ⟨i, hi⟩ := List.getElem?_of_mem (hHas p k hp (by rw [hsh]; exact hk))
  have he := z_ws_at (mem := mem) hi
  rw [z_cellA hsh] at he
  refine va_bast hx hb hK hP (hAd.D mem) hS i 1 he rfl (vp_in_nI hj hN) hd (fun H1 locs1 hP1 _ hS1 => ?_)
  rw [nI_clamp (Nat.lt_trans hj hN)] at hP1
  rw [vp_nar_byte] at hP1
  have hc : z_cell ι (upI mem p k j (v.toInt8.toInt32)) (p, k) = (zeR ι p k, .inl (zeT ι .byte, N, .inl (upd (mem.1 p k) j (v.toInt8.toInt32)))) := by
    rw [z_cellA hsh, ← upI_row]; rfl
  rw [← hc, z_ws_set hi hAd.1 (fun _ h => z_cell_congr (upI_ne h) rfl rfl)] at hP1
  exact kk H1 locs1 ls hP1 hS1 hl
theorem z_zast {N j q0 : Nat} {f0 : Nat → Nat → Nat} {x v : Int32} (hX : zG ι M X n ps) (hd : zD M.2.1 pc (.bastore) 1 npc) (hsh : zsh p = (cnt, .inr (.boolean, N, (0, q0, f0)))) (hp : p ∈ ps) (hk : k < cnt) (hN : N < 2 ^ 31) (hx : x = nI j) (hj : j < N) (kk : zW ι M X npc lv st (upI mem p k j (vp_nar .boolean v))) : zW ι M X pc lv (zI v :: zI x :: zP p k :: st) mem := by
  subst hx
  obtain ⟨P, l, e, R, s, m, args, below, meth, c, A, cells, slots, Q⟩ := X
  obtain ⟨hd, rfl⟩ := hd
  intro H locs ls hP hS hl
  obtain ⟨hx, hb, hml, hown, hts, hret, hlocks, hK, hAd, hA, hSt, hfr, hlo, hce, hsl, hHas⟩ := hX
  obtain ⟨i, hi⟩ := List.getElem?_of_mem (hHas p k hp (by rw [hsh]; exact hk))
  have he := z_ws_at (mem := mem) hi
  rw [z_cellA hsh] at he
  refine va_zast hx hb hK hP (hAd.D mem) hS i 3 he rfl (vp_in_nI hj hN) hd (fun H1 locs1 hP1 _ hS1 => ?_)
  rw [nI_clamp (Nat.lt_trans hj hN)] at hP1
  have hc : z_cell ι (upI mem p k j (vp_nar .boolean v)) (p, k) = (zeR ι p k, .inl (zeT ι .boolean, N, .inl (upd (mem.1 p k) j (vp_nar .boolean v)))) := by
    rw [z_cellA hsh, ← upI_row]; rfl
  rw [← hc, z_ws_set hi hAd.1 (fun _ h => z_cell_congr (upI_ne h) rfl rfl)] at hP1
  exact kk H1 locs1 ls hP1 hS1 hl
theorem z_sast {N j q0 : Nat} {f0 : Nat → Nat → Nat} {x v : Int32} (hX : zG ι M X n ps) (hd : zD M.2.1 pc (.sastore) 1 npc) (hsh : zsh p = (cnt, .inr (.short, N, (0, q0, f0)))) (hp : p ∈ ps) (hk : k < cnt) (hN : N < 2 ^ 31) (hx : x = nI j) (hj : j < N) (kk : zW ι M X npc lv st (upI mem p k j (v.toInt16.toInt32))) : zW ι M X pc lv (zI v :: zI x :: zP p k :: st) mem := by
  subst hx
  obtain ⟨P, l, e, R, s, m, args, below, meth, c, A, cells, slots, Q⟩ := X
  obtain ⟨hd, rfl⟩ := hd
  intro H locs ls hP hS hl
  obtain ⟨hx, hb, hml, hown, hts, hret, hlocks, hK, hAd, hA, hSt, hfr, hlo, hce, hsl, hHas⟩ := hX
  obtain ⟨i, hi⟩ := List.getElem?_of_mem (hHas p k hp (by rw [hsh]; exact hk))
  have he := z_ws_at (mem := mem) hi
  rw [z_cellA hsh] at he
  refine va_sast hx hb hK hP (hAd.D mem) hS i 2 he rfl (vp_in_nI hj hN) hd (fun H1 locs1 hP1 _ hS1 => ?_)
  rw [nI_clamp (Nat.lt_trans hj hN)] at hP1
  rw [vp_nar_short] at hP1
  have hc : z_cell ι (upI mem p k j (v.toInt16.toInt32)) (p, k) = (zeR ι p k, .inl (zeT ι .short, N, .inl (upd (mem.1 p k) j (v.toInt16.toInt32)))) := by
    rw [z_cellA hsh, ← upI_row]; rfl
  rw [← hc, z_ws_set hi hAd.1 (fun _ h => z_cell_congr (upI_ne h) rfl rfl)] at hP1
  exact kk H1 locs1 ls hP1 hS1 hl
theorem z_last {N j q0 : Nat} {f0 : Nat → Nat → Nat} {x : Int32} {v : Int64} (hX : zG ι M X n ps) (hd : zD M.2.1 pc (.lastore) 1 npc) (hsh : zsh p = (cnt, .inr (.long, N, (1, q0, f0)))) (hp : p ∈ ps) (hk : k < cnt) (hN : N < 2 ^ 31) (hx : x = nI j) (hj : j < N) (kk : zW ι M X npc lv st (upJ mem p k j v)) : zW ι M X pc lv (zJ v :: zI x :: zP p k :: st) mem := by
  subst hx
  obtain ⟨P, l, e, R, s, m, args, below, meth, c, A, cells, slots, Q⟩ := X
  obtain ⟨hd, rfl⟩ := hd
  intro H locs ls hP hS hl
  obtain ⟨hx, hb, hml, hown, hts, hret, hlocks, hK, hAd, hA, hSt, hfr, hlo, hce, hsl, hHas⟩ := hX
  obtain ⟨i, hi⟩ := List.getElem?_of_mem (hHas p k hp (by rw [hsh]; exact hk))
  have he := z_ws_at (mem := mem) hi
  rw [z_cellA hsh] at he
  refine va_last hx hb hK hP (hAd.D mem) hS i 4 he rfl (vp_in_nI hj hN) hd (fun H1 locs1 hP1 _ hS1 => ?_)
  rw [nI_clamp (Nat.lt_trans hj hN)] at hP1
  have hc : z_cell ι (upJ mem p k j v) (p, k) = (zeR ι p k, .inl (zeT ι .long, N, .inr (.inl (vp_updL (mem.2.1 p k) j v)))) := by
    rw [z_cellA hsh, ← upJ_row]; rfl
  rw [← hc, z_ws_set (mem := mem) (mem' := upJ mem p k j v) hi hAd.1 (fun _ h => z_cell_congr rfl (upJ_ne h) rfl)] at hP1
  exact kk H1 locs1 ls hP1 hS1 hl
theorem z_astv {N j q0 i0 c0 : Nat} {f0 : Nat → Nat → Nat} {sks : List zK} {x : Int32} (hX : zG ι M X n ps) (hd : zD M.2.1 pc (.aastore) 1 npc) (hsh : zsh p = (cnt, .inr (.object "FourCubes$Cube", N, (3, q0, f0)))) (hp : p ∈ ps) (hk : k < cnt) (hN : N < 2 ^ 31) (hx : x = nI j) (hj : j < N) (hs0 : zsh q0 = (c0, .inl (1, sks))) (hp0 : q0 ∈ ps) (hk0 : i0 < c0) (kk : zW ι M X npc lv st (upR mem p k j i0)) : zW ι M X pc lv (zP q0 i0 :: zI x :: zP p k :: st) mem := by
  subst hx
  obtain ⟨P, l, e, R, s, m, args, below, meth, c, A, cells, slots, Q⟩ := X
  obtain ⟨hd, rfl⟩ := hd
  intro H locs ls hP hS hl
  obtain ⟨hx, hb, hml, hown, hts, hret, hlocks, hK, hAd, hA, hSt, hfr, hlo, hce, hsl, hHas⟩ := hX
  obtain ⟨i, hi⟩ := List.getElem?_of_mem (hHas p k hp (by rw [hsh]; exact hk))
  have he := z_ws_at (mem := mem) hi
  rw [z_cellA hsh] at he
  obtain ⟨i1, hi1⟩ := List.getElem?_of_mem (hHas q0 i0 hp0 (by rw [hs0]; exact hk0))
  have he1 := z_ws_at (mem := mem) hi1
  rw [z_cellO hs0] at he1
  refine va_astq hx hb hK hP (hAd.D mem) hS i 5 i1 1 he (r := (RX1, TX1, 2)) rfl he1 rfl (vp_in_nI hj hN) hd (fun H1 locs1 hP1 _ hS1 => ?_)
  rw [nI_clamp (Nat.lt_trans hj hN)] at hP1
  have hc : z_cell ι (upR mem p k j i0) (p, k) = (zeR ι p k, .inl (zeT ι (.object "FourCubes$Cube"), N, .inr (.inr (.inr (.inr (va_up (fun a => some (zeR ι q0 (mem.2.2 p k a))) j (some (zeR ι q0 i0)))))))) := by
    rw [z_cellA hsh]
    have hf : (fun a => some (zeR ι q0 ((upR mem p k j i0).2.2 p k a))) = va_up (fun a => some (zeR ι q0 (mem.2.2 p k a))) j (some (zeR ι q0 i0)) := by
      funext a
      show some (zeR ι q0 (if p = p ∧ k = k ∧ a = j then i0 else mem.2.2 p k a)) = if a = j then some (zeR ι q0 i0) else some (zeR ι q0 (mem.2.2 p k a))
      by_cases h : a = j <;> simp [h]
    rw [← hf]; rfl
  rw [← hc, z_ws_set (mem := mem) (mem' := upR mem p k j i0) hi hAd.1 (fun _ h => z_cell_congr rfl rfl (upR_ne h))] at hP1
  exact kk H1 locs1 ls hP1 hS1 hl
theorem z_alen {N t0 : Nat} {sk : zK} {ty : FieldType} {v : Int32} (hX : zG ι M X n ps) (hd : zD M.2.1 pc (.arraylength) 1 npc) (hsh : zsh p = (cnt, .inr (ty, N, sk))) (hp : p ∈ ps) (hk : k < cnt) (ht : (zTys ι)[t0]? = some (zeT ι ty, ty)) (hv : nI N = v) (kk : zW ι M X npc lv (zI v :: st) mem) : zW ι M X pc lv (zP p k :: st) mem := by
  obtain ⟨P, l, e, R, s, m, args, below, meth, c, A, cells, slots, Q⟩ := X
  obtain ⟨hd, rfl⟩ := hd
  intro H locs ls hP hS hl
  obtain ⟨hx, hb, hml, hown, hts, hret, hlocks, hK, hAd, hA, hSt, hfr, hlo, hce, hsl, hHas⟩ := hX
  obtain ⟨i, hi⟩ := List.getElem?_of_mem (hHas p k hp (by rw [hsh]; exact hk))
  have he := z_ws_at (mem := mem) hi
  rw [z_cellA hsh] at he
  exact va_alen hx hb hK hP i t0 he ht hv hd (kk H locs ls hP hS hl)
theorem z_gets {idx : Nat} (hX : zG ι M X n ps) (hd : zD M.2.1 pc (.getstatic idx) 3 npc) (h1 : 90 ≤ p) (h2 : p ≤ 95) (hw : Cond.fieldLink M.1.cls idx (zstv p).1 (zstv p).2.1 "[I" ∈ zTS) (kk : zW ι M X npc lv (zP p 0 :: st) mem) : zW ι M X pc lv st mem := by
  obtain ⟨P, l, e, R, s, m, args, below, meth, c, A, cells, slots, Q⟩ := X
  obtain ⟨hd, rfl⟩ := hd
  intro H locs ls hP hS hl
  obtain ⟨hx, hb, hml, hown, hts, hret, hlocks, hK, hAd, hA, hSt, hfr, hlo, hce, hsl, hHas⟩ := hX
  exact va_gets hx hb (hSt p h1 h2).1 hS hown (hts _ hw) (fun _ h => h) hd (kk H locs ls hP hS hl)
theorem z_getsN {idx : Nat} {host : String} (hX : zG ι M X n ps) (hd : zD M.2.1 pc (.getstatic idx) 3 npc) (h1 : 90 ≤ p) (h2 : p ≤ 95) (hw : Cond.fieldLinkNest M.1.cls idx (zstv p).1 (zstv p).2.1 "[I" host ∈ zTS) (kk : zW ι M X npc lv (zP p 0 :: st) mem) : zW ι M X pc lv st mem := by
  obtain ⟨P, l, e, R, s, m, args, below, meth, c, A, cells, slots, Q⟩ := X
  obtain ⟨hd, rfl⟩ := hd
  intro H locs ls hP hS hl
  obtain ⟨hx, hb, hml, hown, hts, hret, hlocks, hK, hAd, hA, hSt, hfr, hlo, hce, hsl, hHas⟩ := hX
  exact va_getsN hx hb (hSt p h1 h2).1 hS hown (hts _ hw) (fun _ h => h) hd (kk H locs ls hP hS hl)
theorem z_tald {j : Nat} {x : Int32} (hX : zG ι M X n ps) (hd : zD M.2.1 pc (.iaload) 1 npc) (h1 : 90 ≤ p) (h2 : p ≤ 95) (hN : zstN p < 2 ^ 31) (hx : x = nI j) (hj : j < zstN p) (kk : zW ι M X npc lv (zI (zstf p j) :: st) mem) : zW ι M X pc lv (zI x :: zP p 0 :: st) mem := by
  subst hx
  obtain ⟨P, l, e, R, s, m, args, below, meth, c, A, cells, slots, Q⟩ := X
  obtain ⟨hd, rfl⟩ := hd
  intro H locs ls hP hS hl
  obtain ⟨hx, hb, hml, hown, hts, hret, hlocks, hK, hAd, hA, hSt, hfr, hlo, hce, hsl, hHas⟩ := hX
  exact va_ti (v := .int (zstf p j)) hx hb (hSt p h1 h2).2 hS (vp_in_nI hj hN) (by rw [nI_clamp (Nat.lt_trans hj hN)]) hd (kk H locs ls hP hS hl)
end ZA
/-- what the tables say of an instance method, of a static one -/
def zMc (M : zMR) (na : Nat) : Prop := Cond.code M.1 M.2.1 M.2.2.1 M.2.2.2 ∈ zTS ∧ Cond.initialized M.1.cls ∈ zTS ∧ (M.1.cls ≠ "java/lang/invoke/MethodHandle" ∧ M.1.cls ≠ "java/lang/invoke/VarHandle") ∧ (parseMethodDescriptor M.1.desc).map (fun d => d.parameters.length) = some na ∧ M.2.2.1 ≤ 21
def zMI (M : zMR) (na : Nat) : Prop := zMc M na ∧ Cond.instanceMethod M.1 ∈ zTS ∧ Cond.selects M.1.cls M.1 M.1 ∈ zTS
def zMS (M : zMR) (na : Nat) : Prop := zMc M na ∧ Cond.static M.1 ∈ zTS
theorem zpre_blind {ι : zE} {mem : zM} {sz : Nat} {av : List Value} : FrameBlind (va_Pc av (zpre ι mem sz)) := fun a U g mk q => ⟨q.1, q.2.1, q.2.2.1, va_K.moved (u := U) (U := U.calling g mk a) (Vm.Alike.refl U.vm) q.2.2.2.1, q.2.2.2.2.1, z_stat.step (U := U.calling g mk a) q.2.2.2.2.2 (fun _ _ _ => rfl) (fun _ h => h) (Vm.Alike.refl U.vm)⟩
section ZC
variable {ι : zE} {M M' : zMR} {X : zX} {n n' : Nat} {ps : List Nat} {pc npc : Nat} {lv : List (Option zV)} {st stk as : List zV} {mem : zM} {p k cnt : Nat}
theorem z_callB {R : Room} {s : State} {args : Array Value} {own : String} {idx na : Nat} (hts : ∀ w ∈ zTS, w.before args s = true) (hfr : n ≤ R.frames) (hlo : 40 * n ≤ R.locals) (hn : n' < n) (hM : zMc M' na) (hl : Cond.methodLink own idx M'.1 ∈ zTS) : CallB R s args own idx M'.1 M'.2.1 M'.2.2.1 M'.2.2.2 (.code M'.1 M'.2.1 M'.2.2.1 M'.2.2.2 :: zTS) (zrm n') 0 0 na := by
  obtain ⟨h1, h2, h3, h4, h5⟩ := hM
  refine ⟨rfl, rfl, ?_, ?_, fun w hw a' U hW => ?_, List.mem_cons_self, hts _ h1, hts _ h2, h3, fun sig h => ?_, hts _ hl⟩
  · show n' + 1 ≤ R.frames
    omega
  · show 8 + (M'.2.2.1 + 11) + 40 * n' ≤ R.locals
    omega
  · rcases List.mem_cons.mp hw with rfl | hw
    · exact zTS_warm hW h1 (hts _ h1)
    · exact zTS_warm hW hw (hts _ hw)
  · rw [h] at h4
    exact (Option.some.inj h4).symm
theorem z_back {P : Program} {l : Launch} {e : Env} {R : Room} {s : State} {m : MethodId} {args : Array Value} {below : List Frame} {meth : Method} {c : Code} {A : Nat → Prop} {cells slots : Nat} {Q : State → Prop} {H : Heap} {locs : List Loc} {ls : Array Slot} {a : Array Value} (hAd : zAd ι A) (hA : ∀ q, s.heap.size ≤ q → A q) (hS : va_S A s.heap H locs) (hl : lv_has ls M.2.2.1 (z_lv (zeR ι) lv))
    (hr : va_Run P l e R s m args below meth c H locs cells slots 0 0 (F0 m pc ls (stk.map (z_tv (zeR ι)))) (st.map (z_tv (zeR ι))) (zQ ι (fun r mem' => zW ι M (P, l, e, R, s, m, args, below, meth, c, A, cells, slots, Q) (pc + 3) lv (r.toList ++ st) mem') (va_A (z_ws ι mem) H.size) a) (va_A (z_ws ι mem) H.size)) : W P l e R s m args below meth c H locs cells slots Q (F0 m pc ls (stk.map (z_tv (zeR ι)))) := by
  intro T hT X
  obtain ⟨v, st₀, t, T', L, h0, X', hL, e1, e2, ⟨⟨r, mem', hv, hp, hb⟩, hz, hk⟩, stp⟩ := hr T hT X
  have hsub : ∀ q, va_A (z_ws ι mem) H.size q → A q := fun q h => zA_of hAd (fun q h => hA q (Nat.le_trans hS.1 h)) h
  have hv2 : v = r.map (z_tv (zeR ι)) := by cases hv; rfl
  subst hv2
  rw [h0] at hz hk
  have hst : (r.map (z_tv (zeR ι))).toList ++ st.map (z_tv (zeR ι)) = (r.toList ++ st).map (z_tv (zeR ι)) := by cases r <;> rfl
  obtain ⟨t2, a1, b1⟩ := hp T'.heap (locs ++ L) ls (by rw [e1]; exact hb) ⟨Nat.le_trans hS.1 (by rw [e1]; exact hz), fun q h1 h2 => by rw [e1, hk q (Nat.lt_of_lt_of_le h1 hS.1) (fun z => h2 (hsub q z))]; exact hS.2.1 q h1 h2, fun q hq => by
      rcases List.mem_append.mp hq with h | h
      · exact hS.2.2 q h
      · exact hsub _ (hL q h)⟩ hl T' rfl X'
  refine ⟨t2, stp t2 ?_, b1⟩
  rw [← hst] at a1
  exact a1
theorem z_callV {idx ci na N : Nat} {T : u_T} {sks : List zK} (hX : zG ι M X n ps) (hd : zD M.2.1 pc (.invokevirtual idx) 3 npc) (hM : zMI M' na) (hl : Cond.methodLink M.1.cls idx M'.1 ∈ zTS) (hsh : zsh p = (cnt, .inl (ci, sks))) (hcl : zCl[ci]? = some (M'.1.cls, T, N)) (hp : p ∈ ps) (hk : k < cnt) (hn : n' < n) (has : as.length = na) (hst : as.reverse ++ zP p k :: st = stk) (hsz : ((st.map (z_tv (zeR ι))).map fun v => v.category).sum ≤ 8) (hC : zC X.2.1 ι M' n' (zP p k :: as) mem (fun r mem' => zW ι M X npc lv (r.toList ++ st) mem')) : zW ι M X pc lv stk mem := by
  obtain ⟨P, l, e, R, s, m, args, below, meth, c, A, cells, slots, Q⟩ := X
  obtain ⟨hd, rfl⟩ := hd
  intro H locs ls hP hS hl2
  obtain ⟨hx, hb, hml, hown, hts, hret, hlocks, hK, hAd, hA, hSt, hfr, hlo, hce, hsl, hHas⟩ := hX
  obtain ⟨i, hi⟩ := List.getElem?_of_mem (hHas p k hp (by rw [hsh]; exact hk))
  have he := z_ws_at (mem := mem) hi
  rw [z_cellO hsh] at he
  have hsub : ∀ q, va_A (z_ws ι mem) H.size q → A q := fun q h => zA_of hAd (fun q h => hA q (Nat.le_trans hS.1 h)) h
  refine z_back (mem := mem) (a := (z_tv (zeR ι) (zP p k) :: as.map (z_tv (zeR ι))).toArray) hAd hA hS hl2 (va_runV (As := as.map (z_tv (zeR ι))) (rest := st.map (z_tv (zeR ι))) (C := M'.1.cls) ⟨hx, hb, hml, hown, hts⟩ (hC H.size) ⟨z_callB hts hfr hlo hn hM.1 hl, hts _ hM.2.1, hts _ hM.2.2⟩ ⟨zpre_blind, va_recv hK hP hcl he, fun U hU hW => ⟨rfl, by rw [hU], by rw [hU]; exact hP, va_K.moved hW.alike hK, hAd.weak (fun _ _ => trivial), hSt.step (by rw [hU]; exact hS.2.1) hsub hW.alike⟩⟩ rfl (by simpa using has) hl2.1 (by rw [← hst]; simp [z_tv]) ?_ hd ⟨hce, hsl⟩)
  show 2 * 0 + _ ≤ 8
  omega
theorem z_callS {idx na : Nat} (hX : zG ι M X n ps) (hd : zD M.2.1 pc (.invokestatic idx) 3 npc) (hM : zMS M' na) (hl : Cond.methodLink M.1.cls idx M'.1 ∈ zTS) (hn : n' < n) (has : as.length = na) (hst : as.reverse ++ st = stk) (hsz : ((st.map (z_tv (zeR ι))).map fun v => v.category).sum ≤ 8) (hC : zC X.2.1 ι M' n' as mem (fun r mem' => zW ι M X npc lv (r.toList ++ st) mem')) : zW ι M X pc lv stk mem := by
  obtain ⟨P, l, e, R, s, m, args, below, meth, c, A, cells, slots, Q⟩ := X
  obtain ⟨hd, rfl⟩ := hd
  intro H locs ls hP hS hl2
  obtain ⟨hx, hb, hml, hown, hts, hret, hlocks, hK, hAd, hA, hSt, hfr, hlo, hce, hsl, hHas⟩ := hX
  have hsub : ∀ q, va_A (z_ws ι mem) H.size q → A q := fun q h => zA_of hAd (fun q h => hA q (Nat.le_trans hS.1 h)) h
  refine z_back (mem := mem) (a := (as.map (z_tv (zeR ι))).toArray) hAd hA hS hl2 (va_runS (As := as.map (z_tv (zeR ι))) (rest := st.map (z_tv (zeR ι))) ⟨hx, hb, hml, hown, hts⟩ (hC H.size) ⟨z_callB hts hfr hlo hn hM.1 hl, hts _ hM.2⟩ ⟨zpre_blind, fun U hU hW => ⟨rfl, by rw [hU], by rw [hU]; exact hP, va_K.moved hW.alike hK, hAd.weak (fun _ _ => trivial), hSt.step (by rw [hU]; exact hS.2.1) hsub hW.alike⟩⟩ rfl (by simpa using has) hl2.1 (by rw [← hst]; simp) ?_ hd ⟨hce, hsl⟩)
  show 2 * 0 + _ ≤ 8
  omega
end ZC
end
