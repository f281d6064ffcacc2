section
-- ===== PART A: goes FIRST, ahead of the names: the tables' words, and 'selects' of the private methods out of them =====
/-- a private method of a class that the tables say can be made, by its rows of tables_1 -/
def lw_okq (q : MethodName × Nat) : Prop := (q.1.cls ≠ "java/lang/invoke/MethodHandle" ∧ q.1.cls ≠ "java/lang/invoke/VarHandle") ∧ Cond.instantiable q.1.cls q.2 ∈ tables_1 ∧ Cond.privateMethod q.1 ∈ tables_1 ∧ Cond.instanceMethod q.1 ∈ tables_1
theorem lw_p0 : lw_okq (⟨"FourCubes$Law", "workOutAll", "()V"⟩, 14) := ⟨⟨by decide +kernel, by decide +kernel⟩, List.mem_of_getElem? (i := 43) (by decide +kernel), List.mem_of_getElem? (i := 49) (by decide +kernel), List.mem_of_getElem? (i := 50) (by decide +kernel)⟩
theorem lw_p1 : lw_okq (⟨"FourCubes$Law", "workedOut", "()I"⟩, 14) := ⟨⟨by decide +kernel, by decide +kernel⟩, List.mem_of_getElem? (i := 43) (by decide +kernel), List.mem_of_getElem? (i := 57) (by decide +kernel), List.mem_of_getElem? (i := 58) (by decide +kernel)⟩
theorem lw_p2 : lw_okq (⟨"FourCubes$Law", "named", "(I)I"⟩, 14) := ⟨⟨by decide +kernel, by decide +kernel⟩, List.mem_of_getElem? (i := 43) (by decide +kernel), List.mem_of_getElem? (i := 64) (by decide +kernel), List.mem_of_getElem? (i := 65) (by decide +kernel)⟩
theorem lw_p3 : lw_okq (⟨"FourCubes", "isFace", "(I)Z"⟩, 9) := ⟨⟨by decide +kernel, by decide +kernel⟩, List.mem_of_getElem? (i := 16) (by decide +kernel), List.mem_of_getElem? (i := 360) (by decide +kernel), List.mem_of_getElem? (i := 361) (by decide +kernel)⟩
theorem lw_p4 : lw_okq (⟨"FourCubes", "isCube", "(I)Z"⟩, 9) := ⟨⟨by decide +kernel, by decide +kernel⟩, List.mem_of_getElem? (i := 16) (by decide +kernel), List.mem_of_getElem? (i := 364) (by decide +kernel), List.mem_of_getElem? (i := 365) (by decide +kernel)⟩
theorem lw_p5 : lw_okq (⟨"FourCubes", "colourAt", "(I)I"⟩, 9) := ⟨⟨by decide +kernel, by decide +kernel⟩, List.mem_of_getElem? (i := 16) (by decide +kernel), List.mem_of_getElem? (i := 368) (by decide +kernel), List.mem_of_getElem? (i := 369) (by decide +kernel)⟩
theorem lw_p6 : lw_okq (⟨"FourCubes$Past", "forgetOldest", "()V"⟩, 5) := ⟨⟨by decide +kernel, by decide +kernel⟩, List.mem_of_getElem? (i := 215) (by decide +kernel), List.mem_of_getElem? (i := 376) (by decide +kernel), List.mem_of_getElem? (i := 377) (by decide +kernel)⟩
theorem lw_p7 : lw_okq (⟨"FourCubes", "setColour", "(II)V"⟩, 9) := ⟨⟨by decide +kernel, by decide +kernel⟩, List.mem_of_getElem? (i := 16) (by decide +kernel), List.mem_of_getElem? (i := 380) (by decide +kernel), List.mem_of_getElem? (i := 381) (by decide +kernel)⟩
theorem lw_p8 : lw_okq (⟨"FourCubes", "areCubes", "(I)Z"⟩, 9) := ⟨⟨by decide +kernel, by decide +kernel⟩, List.mem_of_getElem? (i := 16) (by decide +kernel), List.mem_of_getElem? (i := 407) (by decide +kernel), List.mem_of_getElem? (i := 408) (by decide +kernel)⟩
theorem lw_p9 : lw_okq (⟨"FourCubes$Law", "readText", "()Z"⟩, 14) := ⟨⟨by decide +kernel, by decide +kernel⟩, List.mem_of_getElem? (i := 43) (by decide +kernel), List.mem_of_getElem? (i := 433) (by decide +kernel), List.mem_of_getElem? (i := 434) (by decide +kernel)⟩
theorem lw_p10 : lw_okq (⟨"FourCubes$Law", "readLine", "()Z"⟩, 14) := ⟨⟨by decide +kernel, by decide +kernel⟩, List.mem_of_getElem? (i := 43) (by decide +kernel), List.mem_of_getElem? (i := 437) (by decide +kernel), List.mem_of_getElem? (i := 438) (by decide +kernel)⟩
theorem lw_p11 : lw_okq (⟨"FourCubes$Law", "readLevel", "(II)Z"⟩, 14) := ⟨⟨by decide +kernel, by decide +kernel⟩, List.mem_of_getElem? (i := 43) (by decide +kernel), List.mem_of_getElem? (i := 441) (by decide +kernel), List.mem_of_getElem? (i := 442) (by decide +kernel)⟩
theorem lw_p12 : lw_okq (⟨"FourCubes$Law", "readOperand", "(I)Z"⟩, 14) := ⟨⟨by decide +kernel, by decide +kernel⟩, List.mem_of_getElem? (i := 43) (by decide +kernel), List.mem_of_getElem? (i := 445) (by decide +kernel), List.mem_of_getElem? (i := 446) (by decide +kernel)⟩
theorem lw_p13 : lw_okq (⟨"FourCubes$Law", "peek", "()I"⟩, 14) := ⟨⟨by decide +kernel, by decide +kernel⟩, List.mem_of_getElem? (i := 43) (by decide +kernel), List.mem_of_getElem? (i := 449) (by decide +kernel), List.mem_of_getElem? (i := 450) (by decide +kernel)⟩
theorem lw_p14 : lw_okq (⟨"FourCubes$Law", "readNumber", "()V"⟩, 14) := ⟨⟨by decide +kernel, by decide +kernel⟩, List.mem_of_getElem? (i := 43) (by decide +kernel), List.mem_of_getElem? (i := 456) (by decide +kernel), List.mem_of_getElem? (i := 457) (by decide +kernel)⟩
theorem lw_p15 : lw_okq (⟨"FourCubes$Law", "emit", "(I)V"⟩, 14) := ⟨⟨by decide +kernel, by decide +kernel⟩, List.mem_of_getElem? (i := 43) (by decide +kernel), List.mem_of_getElem? (i := 460) (by decide +kernel), List.mem_of_getElem? (i := 461) (by decide +kernel)⟩
def lw_privs_1 : List (MethodName × Nat) := [(⟨"FourCubes$Law", "workOutAll", "()V"⟩, 14), (⟨"FourCubes$Law", "workedOut", "()I"⟩, 14), (⟨"FourCubes$Law", "named", "(I)I"⟩, 14), (⟨"FourCubes", "isFace", "(I)Z"⟩, 9), (⟨"FourCubes", "isCube", "(I)Z"⟩, 9), (⟨"FourCubes", "colourAt", "(I)I"⟩, 9), (⟨"FourCubes$Past", "forgetOldest", "()V"⟩, 5), (⟨"FourCubes", "setColour", "(II)V"⟩, 9), (⟨"FourCubes", "areCubes", "(I)Z"⟩, 9), (⟨"FourCubes$Law", "readText", "()Z"⟩, 14), (⟨"FourCubes$Law", "readLine", "()Z"⟩, 14), (⟨"FourCubes$Law", "readLevel", "(II)Z"⟩, 14), (⟨"FourCubes$Law", "readOperand", "(I)Z"⟩, 14), (⟨"FourCubes$Law", "peek", "()I"⟩, 14), (⟨"FourCubes$Law", "readNumber", "()V"⟩, 14), (⟨"FourCubes$Law", "emit", "(I)V"⟩, 14)]
theorem lw_r1 : ∀ q ∈ lw_privs_1, lw_okq q := List.forall_mem_cons.mpr ⟨lw_p0, List.forall_mem_cons.mpr ⟨lw_p1, List.forall_mem_cons.mpr ⟨lw_p2, List.forall_mem_cons.mpr ⟨lw_p3, List.forall_mem_cons.mpr ⟨lw_p4, List.forall_mem_cons.mpr ⟨lw_p5, List.forall_mem_cons.mpr ⟨lw_p6, List.forall_mem_cons.mpr ⟨lw_p7, List.forall_mem_cons.mpr ⟨lw_p8, List.forall_mem_cons.mpr ⟨lw_p9, List.forall_mem_cons.mpr ⟨lw_p10, List.forall_mem_cons.mpr ⟨lw_p11, List.forall_mem_cons.mpr ⟨lw_p12, List.forall_mem_cons.mpr ⟨lw_p13, List.forall_mem_cons.mpr ⟨lw_p14, List.forall_mem_cons.mpr ⟨lw_p15, fun _ h => absurd h List.not_mem_nil⟩⟩⟩⟩⟩⟩⟩⟩⟩⟩⟩⟩⟩⟩⟩⟩
theorem lw_p16 : lw_okq (⟨"FourCubes$Law", "readInside", "(I)Z"⟩, 14) := ⟨⟨by decide +kernel, by decide +kernel⟩, List.mem_of_getElem? (i := 43) (by decide +kernel), List.mem_of_getElem? (i := 464) (by decide +kernel), List.mem_of_getElem? (i := 465) (by decide +kernel)⟩
theorem lw_p17 : lw_okq (⟨"FourCubes$Law", "readTurned", "(II)Z"⟩, 14) := ⟨⟨by decide +kernel, by decide +kernel⟩, List.mem_of_getElem? (i := 43) (by decide +kernel), List.mem_of_getElem? (i := 468) (by decide +kernel), List.mem_of_getElem? (i := 469) (by decide +kernel)⟩
theorem lw_p18 : lw_okq (⟨"FourCubes$Tower", "fitPair", "(I)V"⟩, 13) := ⟨⟨by decide +kernel, by decide +kernel⟩, List.mem_of_getElem? (i := 119) (by decide +kernel), List.mem_of_getElem? (i := 526) (by decide +kernel), List.mem_of_getElem? (i := 527) (by decide +kernel)⟩
theorem lw_p19 : lw_okq (⟨"FourCubes$Tower", "findAllowed", "(II)V"⟩, 13) := ⟨⟨by decide +kernel, by decide +kernel⟩, List.mem_of_getElem? (i := 119) (by decide +kernel), List.mem_of_getElem? (i := 536) (by decide +kernel), List.mem_of_getElem? (i := 537) (by decide +kernel)⟩
theorem lw_p20 : lw_okq (⟨"FourCubes$Search", "total", "(I)I"⟩, 4) := ⟨⟨by decide +kernel, by decide +kernel⟩, List.mem_of_getElem? (i := 121) (by decide +kernel), List.mem_of_getElem? (i := 548) (by decide +kernel), List.mem_of_getElem? (i := 549) (by decide +kernel)⟩
theorem lw_p21 : lw_okq (⟨"FourCubes$Search", "find", "(I)Z"⟩, 4) := ⟨⟨by decide +kernel, by decide +kernel⟩, List.mem_of_getElem? (i := 121) (by decide +kernel), List.mem_of_getElem? (i := 558) (by decide +kernel), List.mem_of_getElem? (i := 559) (by decide +kernel)⟩
theorem lw_p22 : lw_okq (⟨"FourCubes$Tower", "weigh", "(I)I"⟩, 13) := ⟨⟨by decide +kernel, by decide +kernel⟩, List.mem_of_getElem? (i := 119) (by decide +kernel), List.mem_of_getElem? (i := 573) (by decide +kernel), List.mem_of_getElem? (i := 574) (by decide +kernel)⟩
theorem lw_p23 : lw_okq (⟨"FourCubes$Tower", "descend", "(II)V"⟩, 13) := ⟨⟨by decide +kernel, by decide +kernel⟩, List.mem_of_getElem? (i := 119) (by decide +kernel), List.mem_of_getElem? (i := 578) (by decide +kernel), List.mem_of_getElem? (i := 579) (by decide +kernel)⟩
theorem lw_p24 : lw_okq (⟨"FourCubes$Tower", "costOf", "(II)I"⟩, 13) := ⟨⟨by decide +kernel, by decide +kernel⟩, List.mem_of_getElem? (i := 119) (by decide +kernel), List.mem_of_getElem? (i := 582) (by decide +kernel), List.mem_of_getElem? (i := 583) (by decide +kernel)⟩
theorem lw_p25 : lw_okq (⟨"FourCubes", "goesExchanged", "(II)Z"⟩, 9) := ⟨⟨by decide +kernel, by decide +kernel⟩, List.mem_of_getElem? (i := 16) (by decide +kernel), List.mem_of_getElem? (i := 635) (by decide +kernel), List.mem_of_getElem? (i := 636) (by decide +kernel)⟩
theorem lw_p26 : lw_okq (⟨"FourCubes$Rings", "isRing", "([LFourCubes$Cube;I)Z"⟩, 4) := ⟨⟨by decide +kernel, by decide +kernel⟩, List.mem_of_getElem? (i := 195) (by decide +kernel), List.mem_of_getElem? (i := 651) (by decide +kernel), List.mem_of_getElem? (i := 652) (by decide +kernel)⟩
theorem lw_p27 : lw_okq (⟨"FourCubes$Rings", "shareNone", "(I)Z"⟩, 4) := ⟨⟨by decide +kernel, by decide +kernel⟩, List.mem_of_getElem? (i := 195) (by decide +kernel), List.mem_of_getElem? (i := 661) (by decide +kernel), List.mem_of_getElem? (i := 662) (by decide +kernel)⟩
theorem lw_p28 : lw_okq (⟨"FourCubes$Cube", "isLike", "(LFourCubes$Cube;IZ)Z"⟩, 2) := ⟨⟨by decide +kernel, by decide +kernel⟩, List.mem_of_getElem? (i := 25) (by decide +kernel), List.mem_of_getElem? (i := 674) (by decide +kernel), List.mem_of_getElem? (i := 675) (by decide +kernel)⟩
theorem lw_p29 : lw_okq (⟨"FourCubes$Cube", "mayShow", "(III)Z"⟩, 2) := ⟨⟨by decide +kernel, by decide +kernel⟩, List.mem_of_getElem? (i := 25) (by decide +kernel), List.mem_of_getElem? (i := 697) (by decide +kernel), List.mem_of_getElem? (i := 698) (by decide +kernel)⟩
theorem lw_p30 : lw_okq (⟨"FourCubes$Cube", "mayBe", "(II)Z"⟩, 2) := ⟨⟨by decide +kernel, by decide +kernel⟩, List.mem_of_getElem? (i := 25) (by decide +kernel), List.mem_of_getElem? (i := 701) (by decide +kernel), List.mem_of_getElem? (i := 702) (by decide +kernel)⟩
theorem lw_p31 : lw_okq (⟨"FourCubes$Tower", "touch", "(III)V"⟩, 13) := ⟨⟨by decide +kernel, by decide +kernel⟩, List.mem_of_getElem? (i := 119) (by decide +kernel), List.mem_of_getElem? (i := 713) (by decide +kernel), List.mem_of_getElem? (i := 714) (by decide +kernel)⟩
def lw_privs_2 : List (MethodName × Nat) := [(⟨"FourCubes$Law", "readInside", "(I)Z"⟩, 14), (⟨"FourCubes$Law", "readTurned", "(II)Z"⟩, 14), (⟨"FourCubes$Tower", "fitPair", "(I)V"⟩, 13), (⟨"FourCubes$Tower", "findAllowed", "(II)V"⟩, 13), (⟨"FourCubes$Search", "total", "(I)I"⟩, 4), (⟨"FourCubes$Search", "find", "(I)Z"⟩, 4), (⟨"FourCubes$Tower", "weigh", "(I)I"⟩, 13), (⟨"FourCubes$Tower", "descend", "(II)V"⟩, 13), (⟨"FourCubes$Tower", "costOf", "(II)I"⟩, 13), (⟨"FourCubes", "goesExchanged", "(II)Z"⟩, 9), (⟨"FourCubes$Rings", "isRing", "([LFourCubes$Cube;I)Z"⟩, 4), (⟨"FourCubes$Rings", "shareNone", "(I)Z"⟩, 4), (⟨"FourCubes$Cube", "isLike", "(LFourCubes$Cube;IZ)Z"⟩, 2), (⟨"FourCubes$Cube", "mayShow", "(III)Z"⟩, 2), (⟨"FourCubes$Cube", "mayBe", "(II)Z"⟩, 2), (⟨"FourCubes$Tower", "touch", "(III)V"⟩, 13)]
theorem lw_r2 : ∀ q ∈ lw_privs_2, lw_okq q := List.forall_mem_cons.mpr ⟨lw_p16, List.forall_mem_cons.mpr ⟨lw_p17, List.forall_mem_cons.mpr ⟨lw_p18, List.forall_mem_cons.mpr ⟨lw_p19, List.forall_mem_cons.mpr ⟨lw_p20, List.forall_mem_cons.mpr ⟨lw_p21, List.forall_mem_cons.mpr ⟨lw_p22, List.forall_mem_cons.mpr ⟨lw_p23, List.forall_mem_cons.mpr ⟨lw_p24, List.forall_mem_cons.mpr ⟨lw_p25, List.forall_mem_cons.mpr ⟨lw_p26, List.forall_mem_cons.mpr ⟨lw_p27, List.forall_mem_cons.mpr ⟨lw_p28, List.forall_mem_cons.mpr ⟨lw_p29, List.forall_mem_cons.mpr ⟨lw_p30, List.forall_mem_cons.mpr ⟨lw_p31, fun _ h => absurd h List.not_mem_nil⟩⟩⟩⟩⟩⟩⟩⟩⟩⟩⟩⟩⟩⟩⟩⟩
theorem lw_p32 : lw_okq (⟨"FourCubes$Bodies", "runFrom", "(IIII)I"⟩, 5) := ⟨⟨by decide +kernel, by decide +kernel⟩, List.mem_of_getElem? (i := 242) (by decide +kernel), List.mem_of_getElem? (i := 756) (by decide +kernel), List.mem_of_getElem? (i := 757) (by decide +kernel)⟩
theorem lw_p33 : lw_okq (⟨"FourCubes$Bodies", "run", "(IIII)I"⟩, 5) := ⟨⟨by decide +kernel, by decide +kernel⟩, List.mem_of_getElem? (i := 242) (by decide +kernel), List.mem_of_getElem? (i := 762) (by decide +kernel), List.mem_of_getElem? (i := 763) (by decide +kernel)⟩
theorem lw_p34 : lw_okq (⟨"FourCubes", "refusalOf", "(II)I"⟩, 9) := ⟨⟨by decide +kernel, by decide +kernel⟩, List.mem_of_getElem? (i := 16) (by decide +kernel), List.mem_of_getElem? (i := 804) (by decide +kernel), List.mem_of_getElem? (i := 805) (by decide +kernel)⟩
theorem lw_p35 : lw_okq (⟨"FourCubesModel", "lays", "(III)V"⟩, 45) := ⟨⟨by decide +kernel, by decide +kernel⟩, List.mem_of_getElem? (i := 840) (by decide +kernel), List.mem_of_getElem? (i := 1004) (by decide +kernel), List.mem_of_getElem? (i := 1005) (by decide +kernel)⟩
theorem lw_p36 : lw_okq (⟨"FourCubesModel", "isFace", "(I)Z"⟩, 45) := ⟨⟨by decide +kernel, by decide +kernel⟩, List.mem_of_getElem? (i := 840) (by decide +kernel), List.mem_of_getElem? (i := 1016) (by decide +kernel), List.mem_of_getElem? (i := 1017) (by decide +kernel)⟩
theorem lw_p37 : lw_okq (⟨"FourCubesModel", "isCube", "(I)Z"⟩, 45) := ⟨⟨by decide +kernel, by decide +kernel⟩, List.mem_of_getElem? (i := 840) (by decide +kernel), List.mem_of_getElem? (i := 1020) (by decide +kernel), List.mem_of_getElem? (i := 1021) (by decide +kernel)⟩
theorem lw_p38 : lw_okq (⟨"FourCubesModel", "changes", "(III)I"⟩, 45) := ⟨⟨by decide +kernel, by decide +kernel⟩, List.mem_of_getElem? (i := 840) (by decide +kernel), List.mem_of_getElem? (i := 1024) (by decide +kernel), List.mem_of_getElem? (i := 1025) (by decide +kernel)⟩
theorem lw_p39 : lw_okq (⟨"FourCubesModel", "valueAt", "(II)I"⟩, 45) := ⟨⟨by decide +kernel, by decide +kernel⟩, List.mem_of_getElem? (i := 840) (by decide +kernel), List.mem_of_getElem? (i := 1028) (by decide +kernel), List.mem_of_getElem? (i := 1029) (by decide +kernel)⟩
theorem lw_p40 : lw_okq (⟨"FourCubesModel", "lineOf", "(II)I"⟩, 45) := ⟨⟨by decide +kernel, by decide +kernel⟩, List.mem_of_getElem? (i := 840) (by decide +kernel), List.mem_of_getElem? (i := 1036) (by decide +kernel), List.mem_of_getElem? (i := 1037) (by decide +kernel)⟩
theorem lw_p41 : lw_okq (⟨"FourCubesModel", "readText", "(I)I"⟩, 45) := ⟨⟨by decide +kernel, by decide +kernel⟩, List.mem_of_getElem? (i := 840) (by decide +kernel), List.mem_of_getElem? (i := 1055) (by decide +kernel), List.mem_of_getElem? (i := 1056) (by decide +kernel)⟩
theorem lw_p42 : lw_okq (⟨"FourCubesModel", "line", "()V"⟩, 45) := ⟨⟨by decide +kernel, by decide +kernel⟩, List.mem_of_getElem? (i := 840) (by decide +kernel), List.mem_of_getElem? (i := 1059) (by decide +kernel), List.mem_of_getElem? (i := 1060) (by decide +kernel)⟩
theorem lw_p43 : lw_okq (⟨"FourCubesModel", "either", "()V"⟩, 45) := ⟨⟨by decide +kernel, by decide +kernel⟩, List.mem_of_getElem? (i := 840) (by decide +kernel), List.mem_of_getElem? (i := 1063) (by decide +kernel), List.mem_of_getElem? (i := 1064) (by decide +kernel)⟩
theorem lw_p44 : lw_okq (⟨"FourCubesModel", "both", "()V"⟩, 45) := ⟨⟨by decide +kernel, by decide +kernel⟩, List.mem_of_getElem? (i := 840) (by decide +kernel), List.mem_of_getElem? (i := 1067) (by decide +kernel), List.mem_of_getElem? (i := 1068) (by decide +kernel)⟩
theorem lw_p45 : lw_okq (⟨"FourCubesModel", "compared", "()V"⟩, 45) := ⟨⟨by decide +kernel, by decide +kernel⟩, List.mem_of_getElem? (i := 840) (by decide +kernel), List.mem_of_getElem? (i := 1071) (by decide +kernel), List.mem_of_getElem? (i := 1072) (by decide +kernel)⟩
theorem lw_p46 : lw_okq (⟨"FourCubesModel", "sum", "()V"⟩, 45) := ⟨⟨by decide +kernel, by decide +kernel⟩, List.mem_of_getElem? (i := 840) (by decide +kernel), List.mem_of_getElem? (i := 1075) (by decide +kernel), List.mem_of_getElem? (i := 1076) (by decide +kernel)⟩
theorem lw_p47 : lw_okq (⟨"FourCubesModel", "product", "()V"⟩, 45) := ⟨⟨by decide +kernel, by decide +kernel⟩, List.mem_of_getElem? (i := 840) (by decide +kernel), List.mem_of_getElem? (i := 1079) (by decide +kernel), List.mem_of_getElem? (i := 1080) (by decide +kernel)⟩
def lw_privs_3 : List (MethodName × Nat) := [(⟨"FourCubes$Bodies", "runFrom", "(IIII)I"⟩, 5), (⟨"FourCubes$Bodies", "run", "(IIII)I"⟩, 5), (⟨"FourCubes", "refusalOf", "(II)I"⟩, 9), (⟨"FourCubesModel", "lays", "(III)V"⟩, 45), (⟨"FourCubesModel", "isFace", "(I)Z"⟩, 45), (⟨"FourCubesModel", "isCube", "(I)Z"⟩, 45), (⟨"FourCubesModel", "changes", "(III)I"⟩, 45), (⟨"FourCubesModel", "valueAt", "(II)I"⟩, 45), (⟨"FourCubesModel", "lineOf", "(II)I"⟩, 45), (⟨"FourCubesModel", "readText", "(I)I"⟩, 45), (⟨"FourCubesModel", "line", "()V"⟩, 45), (⟨"FourCubesModel", "either", "()V"⟩, 45), (⟨"FourCubesModel", "both", "()V"⟩, 45), (⟨"FourCubesModel", "compared", "()V"⟩, 45), (⟨"FourCubesModel", "sum", "()V"⟩, 45), (⟨"FourCubesModel", "product", "()V"⟩, 45)]
theorem lw_r3 : ∀ q ∈ lw_privs_3, lw_okq q := List.forall_mem_cons.mpr ⟨lw_p32, List.forall_mem_cons.mpr ⟨lw_p33, List.forall_mem_cons.mpr ⟨lw_p34, List.forall_mem_cons.mpr ⟨lw_p35, List.forall_mem_cons.mpr ⟨lw_p36, List.forall_mem_cons.mpr ⟨lw_p37, List.forall_mem_cons.mpr ⟨lw_p38, List.forall_mem_cons.mpr ⟨lw_p39, List.forall_mem_cons.mpr ⟨lw_p40, List.forall_mem_cons.mpr ⟨lw_p41, List.forall_mem_cons.mpr ⟨lw_p42, List.forall_mem_cons.mpr ⟨lw_p43, List.forall_mem_cons.mpr ⟨lw_p44, List.forall_mem_cons.mpr ⟨lw_p45, List.forall_mem_cons.mpr ⟨lw_p46, List.forall_mem_cons.mpr ⟨lw_p47, fun _ h => absurd h List.not_mem_nil⟩⟩⟩⟩⟩⟩⟩⟩⟩⟩⟩⟩⟩⟩⟩⟩
theorem lw_p48 : lw_okq (⟨"FourCubesModel", "operand", "()V"⟩, 45) := ⟨⟨by decide +kernel, by decide +kernel⟩, List.mem_of_getElem? (i := 840) (by decide +kernel), List.mem_of_getElem? (i := 1083) (by decide +kernel), List.mem_of_getElem? (i := 1084) (by decide +kernel)⟩
theorem lw_p49 : lw_okq (⟨"FourCubesModel", "look", "()I"⟩, 45) := ⟨⟨by decide +kernel, by decide +kernel⟩, List.mem_of_getElem? (i := 840) (by decide +kernel), List.mem_of_getElem? (i := 1087) (by decide +kernel), List.mem_of_getElem? (i := 1088) (by decide +kernel)⟩
theorem lw_p50 : lw_okq (⟨"FourCubesModel", "addStep", "(II)V"⟩, 45) := ⟨⟨by decide +kernel, by decide +kernel⟩, List.mem_of_getElem? (i := 840) (by decide +kernel), List.mem_of_getElem? (i := 1094) (by decide +kernel), List.mem_of_getElem? (i := 1095) (by decide +kernel)⟩
theorem lw_p51 : lw_okq (⟨"FourCubesModel", "opens", "()Z"⟩, 45) := ⟨⟨by decide +kernel, by decide +kernel⟩, List.mem_of_getElem? (i := 840) (by decide +kernel), List.mem_of_getElem? (i := 1098) (by decide +kernel), List.mem_of_getElem? (i := 1099) (by decide +kernel)⟩
theorem lw_p52 : lw_okq (⟨"FourCubesModel", "faulty", "()V"⟩, 45) := ⟨⟨by decide +kernel, by decide +kernel⟩, List.mem_of_getElem? (i := 840) (by decide +kernel), List.mem_of_getElem? (i := 1102) (by decide +kernel), List.mem_of_getElem? (i := 1103) (by decide +kernel)⟩
theorem lw_p53 : lw_okq (⟨"FourCubesModel", "figure", "()V"⟩, 45) := ⟨⟨by decide +kernel, by decide +kernel⟩, List.mem_of_getElem? (i := 840) (by decide +kernel), List.mem_of_getElem? (i := 1106) (by decide +kernel), List.mem_of_getElem? (i := 1107) (by decide +kernel)⟩
theorem lw_p54 : lw_okq (⟨"FourCubesModel", "showsOf", "(III)I"⟩, 45) := ⟨⟨by decide +kernel, by decide +kernel⟩, List.mem_of_getElem? (i := 840) (by decide +kernel), List.mem_of_getElem? (i := 1118) (by decide +kernel), List.mem_of_getElem? (i := 1119) (by decide +kernel)⟩
theorem lw_p55 : lw_okq (⟨"FourCubesModel", "findMay", "()V"⟩, 45) := ⟨⟨by decide +kernel, by decide +kernel⟩, List.mem_of_getElem? (i := 840) (by decide +kernel), List.mem_of_getElem? (i := 1129) (by decide +kernel), List.mem_of_getElem? (i := 1130) (by decide +kernel)⟩
theorem lw_p56 : lw_okq (⟨"FourCubesModel", "asks", "(IIIII)Z"⟩, 45) := ⟨⟨by decide +kernel, by decide +kernel⟩, List.mem_of_getElem? (i := 840) (by decide +kernel), List.mem_of_getElem? (i := 1136) (by decide +kernel), List.mem_of_getElem? (i := 1137) (by decide +kernel)⟩
theorem lw_p57 : lw_okq (⟨"FourCubesModel", "gives", "(I)I"⟩, 45) := ⟨⟨by decide +kernel, by decide +kernel⟩, List.mem_of_getElem? (i := 840) (by decide +kernel), List.mem_of_getElem? (i := 1140) (by decide +kernel), List.mem_of_getElem? (i := 1141) (by decide +kernel)⟩
theorem lw_p58 : lw_okq (⟨"FourCubesModel", "worked", "(III)I"⟩, 45) := ⟨⟨by decide +kernel, by decide +kernel⟩, List.mem_of_getElem? (i := 840) (by decide +kernel), List.mem_of_getElem? (i := 1144) (by decide +kernel), List.mem_of_getElem? (i := 1145) (by decide +kernel)⟩
theorem lw_p59 : lw_okq (⟨"FourCubesModel", "findTower", "(I)V"⟩, 45) := ⟨⟨by decide +kernel, by decide +kernel⟩, List.mem_of_getElem? (i := 840) (by decide +kernel), List.mem_of_getElem? (i := 1151) (by decide +kernel), List.mem_of_getElem? (i := 1152) (by decide +kernel)⟩
theorem lw_p60 : lw_okq (⟨"FourCubesModel", "mayBe", "(IIIII)Z"⟩, 45) := ⟨⟨by decide +kernel, by decide +kernel⟩, List.mem_of_getElem? (i := 840) (by decide +kernel), List.mem_of_getElem? (i := 1155) (by decide +kernel), List.mem_of_getElem? (i := 1156) (by decide +kernel)⟩
theorem lw_p61 : lw_okq (⟨"FourCubesModel", "isSet", "(I)Z"⟩, 45) := ⟨⟨by decide +kernel, by decide +kernel⟩, List.mem_of_getElem? (i := 840) (by decide +kernel), List.mem_of_getElem? (i := 1163) (by decide +kernel), List.mem_of_getElem? (i := 1164) (by decide +kernel)⟩
theorem lw_p62 : lw_okq (⟨"FourCubesModel", "findWays", "(IIZ)V"⟩, 45) := ⟨⟨by decide +kernel, by decide +kernel⟩, List.mem_of_getElem? (i := 840) (by decide +kernel), List.mem_of_getElem? (i := 1167) (by decide +kernel), List.mem_of_getElem? (i := 1168) (by decide +kernel)⟩
theorem lw_p63 : lw_okq (⟨"FourCubesModel", "goOn", "(I)V"⟩, 45) := ⟨⟨by decide +kernel, by decide +kernel⟩, List.mem_of_getElem? (i := 840) (by decide +kernel), List.mem_of_getElem? (i := 1171) (by decide +kernel), List.mem_of_getElem? (i := 1172) (by decide +kernel)⟩
def lw_privs_4 : List (MethodName × Nat) := [(⟨"FourCubesModel", "operand", "()V"⟩, 45), (⟨"FourCubesModel", "look", "()I"⟩, 45), (⟨"FourCubesModel", "addStep", "(II)V"⟩, 45), (⟨"FourCubesModel", "opens", "()Z"⟩, 45), (⟨"FourCubesModel", "faulty", "()V"⟩, 45), (⟨"FourCubesModel", "figure", "()V"⟩, 45), (⟨"FourCubesModel", "showsOf", "(III)I"⟩, 45), (⟨"FourCubesModel", "findMay", "()V"⟩, 45), (⟨"FourCubesModel", "asks", "(IIIII)Z"⟩, 45), (⟨"FourCubesModel", "gives", "(I)I"⟩, 45), (⟨"FourCubesModel", "worked", "(III)I"⟩, 45), (⟨"FourCubesModel", "findTower", "(I)V"⟩, 45), (⟨"FourCubesModel", "mayBe", "(IIIII)Z"⟩, 45), (⟨"FourCubesModel", "isSet", "(I)Z"⟩, 45), (⟨"FourCubesModel", "findWays", "(IIZ)V"⟩, 45), (⟨"FourCubesModel", "goOn", "(I)V"⟩, 45)]
theorem lw_r4 : ∀ q ∈ lw_privs_4, lw_okq q := List.forall_mem_cons.mpr ⟨lw_p48, List.forall_mem_cons.mpr ⟨lw_p49, List.forall_mem_cons.mpr ⟨lw_p50, List.forall_mem_cons.mpr ⟨lw_p51, List.forall_mem_cons.mpr ⟨lw_p52, List.forall_mem_cons.mpr ⟨lw_p53, List.forall_mem_cons.mpr ⟨lw_p54, List.forall_mem_cons.mpr ⟨lw_p55, List.forall_mem_cons.mpr ⟨lw_p56, List.forall_mem_cons.mpr ⟨lw_p57, List.forall_mem_cons.mpr ⟨lw_p58, List.forall_mem_cons.mpr ⟨lw_p59, List.forall_mem_cons.mpr ⟨lw_p60, List.forall_mem_cons.mpr ⟨lw_p61, List.forall_mem_cons.mpr ⟨lw_p62, List.forall_mem_cons.mpr ⟨lw_p63, fun _ h => absurd h List.not_mem_nil⟩⟩⟩⟩⟩⟩⟩⟩⟩⟩⟩⟩⟩⟩⟩⟩
theorem lw_p64 : lw_okq (⟨"FourCubesModel", "isTried", "(II)Z"⟩, 45) := ⟨⟨by decide +kernel, by decide +kernel⟩, List.mem_of_getElem? (i := 840) (by decide +kernel), List.mem_of_getElem? (i := 1175) (by decide +kernel), List.mem_of_getElem? (i := 1176) (by decide +kernel)⟩
theorem lw_p65 : lw_okq (⟨"FourCubesModel", "isHeld", "(I)Z"⟩, 45) := ⟨⟨by decide +kernel, by decide +kernel⟩, List.mem_of_getElem? (i := 840) (by decide +kernel), List.mem_of_getElem? (i := 1179) (by decide +kernel), List.mem_of_getElem? (i := 1180) (by decide +kernel)⟩
theorem lw_p66 : lw_okq (⟨"FourCubesModel", "wrongWith", "(II)I"⟩, 45) := ⟨⟨by decide +kernel, by decide +kernel⟩, List.mem_of_getElem? (i := 840) (by decide +kernel), List.mem_of_getElem? (i := 1183) (by decide +kernel), List.mem_of_getElem? (i := 1184) (by decide +kernel)⟩
theorem lw_p67 : lw_okq (⟨"FourCubesModel", "findNear", "(II)V"⟩, 45) := ⟨⟨by decide +kernel, by decide +kernel⟩, List.mem_of_getElem? (i := 840) (by decide +kernel), List.mem_of_getElem? (i := 1191) (by decide +kernel), List.mem_of_getElem? (i := 1192) (by decide +kernel)⟩
theorem lw_p68 : lw_okq (⟨"FourCubesModel", "hasWay", "(I)Z"⟩, 45) := ⟨⟨by decide +kernel, by decide +kernel⟩, List.mem_of_getElem? (i := 840) (by decide +kernel), List.mem_of_getElem? (i := 1203) (by decide +kernel), List.mem_of_getElem? (i := 1204) (by decide +kernel)⟩
theorem lw_p69 : lw_okq (⟨"FourCubesModel", "isRing", "(I)Z"⟩, 45) := ⟨⟨by decide +kernel, by decide +kernel⟩, List.mem_of_getElem? (i := 840) (by decide +kernel), List.mem_of_getElem? (i := 1219) (by decide +kernel), List.mem_of_getElem? (i := 1220) (by decide +kernel)⟩
theorem lw_p70 : lw_okq (⟨"FourCubesModel", "areParted", "(II)Z"⟩, 45) := ⟨⟨by decide +kernel, by decide +kernel⟩, List.mem_of_getElem? (i := 840) (by decide +kernel), List.mem_of_getElem? (i := 1223) (by decide +kernel), List.mem_of_getElem? (i := 1224) (by decide +kernel)⟩
theorem lw_p71 : lw_okq (⟨"FourCubesModel", "areAlike", "(IIZ)Z"⟩, 45) := ⟨⟨by decide +kernel, by decide +kernel⟩, List.mem_of_getElem? (i := 840) (by decide +kernel), List.mem_of_getElem? (i := 1231) (by decide +kernel), List.mem_of_getElem? (i := 1232) (by decide +kernel)⟩
theorem lw_p72 : lw_okq (⟨"FourCubesModel", "isAs", "(IIIZ)Z"⟩, 45) := ⟨⟨by decide +kernel, by decide +kernel⟩, List.mem_of_getElem? (i := 840) (by decide +kernel), List.mem_of_getElem? (i := 1235) (by decide +kernel), List.mem_of_getElem? (i := 1236) (by decide +kernel)⟩
theorem lw_p73 : lw_okq (⟨"FourCubesModel", "sightOf", "(II)I"⟩, 45) := ⟨⟨by decide +kernel, by decide +kernel⟩, List.mem_of_getElem? (i := 840) (by decide +kernel), List.mem_of_getElem? (i := 1259) (by decide +kernel), List.mem_of_getElem? (i := 1260) (by decide +kernel)⟩
theorem lw_p74 : lw_okq (⟨"FourCubesModel", "doesShow", "(IIII)Z"⟩, 45) := ⟨⟨by decide +kernel, by decide +kernel⟩, List.mem_of_getElem? (i := 840) (by decide +kernel), List.mem_of_getElem? (i := 1263) (by decide +kernel), List.mem_of_getElem? (i := 1264) (by decide +kernel)⟩
theorem lw_p75 : lw_okq (⟨"FourCubesModel", "goWall", "(I)V"⟩, 45) := ⟨⟨by decide +kernel, by decide +kernel⟩, List.mem_of_getElem? (i := 840) (by decide +kernel), List.mem_of_getElem? (i := 1271) (by decide +kernel), List.mem_of_getElem? (i := 1272) (by decide +kernel)⟩
theorem lw_p76 : lw_okq (⟨"FourCubesModel", "fitsWall", "(II)Z"⟩, 45) := ⟨⟨by decide +kernel, by decide +kernel⟩, List.mem_of_getElem? (i := 840) (by decide +kernel), List.mem_of_getElem? (i := 1275) (by decide +kernel), List.mem_of_getElem? (i := 1276) (by decide +kernel)⟩
theorem lw_p77 : lw_okq (⟨"FourCubesModel", "touch", "(IIIII)Z"⟩, 45) := ⟨⟨by decide +kernel, by decide +kernel⟩, List.mem_of_getElem? (i := 840) (by decide +kernel), List.mem_of_getElem? (i := 1279) (by decide +kernel), List.mem_of_getElem? (i := 1280) (by decide +kernel)⟩
theorem lw_p78 : lw_okq (⟨"FourCubesModel", "isGreat", "(II)Z"⟩, 45) := ⟨⟨by decide +kernel, by decide +kernel⟩, List.mem_of_getElem? (i := 840) (by decide +kernel), List.mem_of_getElem? (i := 1287) (by decide +kernel), List.mem_of_getElem? (i := 1288) (by decide +kernel)⟩
theorem lw_p79 : lw_okq (⟨"FourCubesModel", "isOf", "(III)Z"⟩, 45) := ⟨⟨by decide +kernel, by decide +kernel⟩, List.mem_of_getElem? (i := 840) (by decide +kernel), List.mem_of_getElem? (i := 1291) (by decide +kernel), List.mem_of_getElem? (i := 1292) (by decide +kernel)⟩
def lw_privs_5 : List (MethodName × Nat) := [(⟨"FourCubesModel", "isTried", "(II)Z"⟩, 45), (⟨"FourCubesModel", "isHeld", "(I)Z"⟩, 45), (⟨"FourCubesModel", "wrongWith", "(II)I"⟩, 45), (⟨"FourCubesModel", "findNear", "(II)V"⟩, 45), (⟨"FourCubesModel", "hasWay", "(I)Z"⟩, 45), (⟨"FourCubesModel", "isRing", "(I)Z"⟩, 45), (⟨"FourCubesModel", "areParted", "(II)Z"⟩, 45), (⟨"FourCubesModel", "areAlike", "(IIZ)Z"⟩, 45), (⟨"FourCubesModel", "isAs", "(IIIZ)Z"⟩, 45), (⟨"FourCubesModel", "sightOf", "(II)I"⟩, 45), (⟨"FourCubesModel", "doesShow", "(IIII)Z"⟩, 45), (⟨"FourCubesModel", "goWall", "(I)V"⟩, 45), (⟨"FourCubesModel", "fitsWall", "(II)Z"⟩, 45), (⟨"FourCubesModel", "touch", "(IIIII)Z"⟩, 45), (⟨"FourCubesModel", "isGreat", "(II)Z"⟩, 45), (⟨"FourCubesModel", "isOf", "(III)Z"⟩, 45)]
theorem lw_r5 : ∀ q ∈ lw_privs_5, lw_okq q := List.forall_mem_cons.mpr ⟨lw_p64, List.forall_mem_cons.mpr ⟨lw_p65, List.forall_mem_cons.mpr ⟨lw_p66, List.forall_mem_cons.mpr ⟨lw_p67, List.forall_mem_cons.mpr ⟨lw_p68, List.forall_mem_cons.mpr ⟨lw_p69, List.forall_mem_cons.mpr ⟨lw_p70, List.forall_mem_cons.mpr ⟨lw_p71, List.forall_mem_cons.mpr ⟨lw_p72, List.forall_mem_cons.mpr ⟨lw_p73, List.forall_mem_cons.mpr ⟨lw_p74, List.forall_mem_cons.mpr ⟨lw_p75, List.forall_mem_cons.mpr ⟨lw_p76, List.forall_mem_cons.mpr ⟨lw_p77, List.forall_mem_cons.mpr ⟨lw_p78, List.forall_mem_cons.mpr ⟨lw_p79, fun _ h => absurd h List.not_mem_nil⟩⟩⟩⟩⟩⟩⟩⟩⟩⟩⟩⟩⟩⟩⟩⟩
theorem lw_p80 : lw_okq (⟨"FourCubesModel", "isBody", "(I)Z"⟩, 45) := ⟨⟨by decide +kernel, by decide +kernel⟩, List.mem_of_getElem? (i := 840) (by decide +kernel), List.mem_of_getElem? (i := 1307) (by decide +kernel), List.mem_of_getElem? (i := 1308) (by decide +kernel)⟩
theorem lw_p81 : lw_okq (⟨"FourCubesModel", "turningBy", "(II)I"⟩, 45) := ⟨⟨by decide +kernel, by decide +kernel⟩, List.mem_of_getElem? (i := 840) (by decide +kernel), List.mem_of_getElem? (i := 1311) (by decide +kernel), List.mem_of_getElem? (i := 1312) (by decide +kernel)⟩
theorem lw_p82 : lw_okq (⟨"FourCubesModel", "ran", "(I)V"⟩, 45) := ⟨⟨by decide +kernel, by decide +kernel⟩, List.mem_of_getElem? (i := 840) (by decide +kernel), List.mem_of_getElem? (i := 1318) (by decide +kernel), List.mem_of_getElem? (i := 1319) (by decide +kernel)⟩
theorem lw_p83 : lw_okq (⟨"FourCubesModel", "plainTurns", "(II)I"⟩, 45) := ⟨⟨by decide +kernel, by decide +kernel⟩, List.mem_of_getElem? (i := 840) (by decide +kernel), List.mem_of_getElem? (i := 1322) (by decide +kernel), List.mem_of_getElem? (i := 1323) (by decide +kernel)⟩
theorem lw_p84 : lw_okq (⟨"FourCubesModel", "toldTurns", "(II)I"⟩, 45) := ⟨⟨by decide +kernel, by decide +kernel⟩, List.mem_of_getElem? (i := 840) (by decide +kernel), List.mem_of_getElem? (i := 1326) (by decide +kernel), List.mem_of_getElem? (i := 1327) (by decide +kernel)⟩
theorem lw_p85 : lw_okq (⟨"FourCubesModel", "showing", "(II)I"⟩, 45) := ⟨⟨by decide +kernel, by decide +kernel⟩, List.mem_of_getElem? (i := 840) (by decide +kernel), List.mem_of_getElem? (i := 1330) (by decide +kernel), List.mem_of_getElem? (i := 1331) (by decide +kernel)⟩
theorem lw_p86 : lw_okq (⟨"FourCubesModel", "wallShows", "(II)I"⟩, 45) := ⟨⟨by decide +kernel, by decide +kernel⟩, List.mem_of_getElem? (i := 840) (by decide +kernel), List.mem_of_getElem? (i := 1334) (by decide +kernel), List.mem_of_getElem? (i := 1335) (by decide +kernel)⟩
theorem lw_p87 : lw_okq (⟨"FourCubesModel", "plainShows", "(II)I"⟩, 45) := ⟨⟨by decide +kernel, by decide +kernel⟩, List.mem_of_getElem? (i := 840) (by decide +kernel), List.mem_of_getElem? (i := 1338) (by decide +kernel), List.mem_of_getElem? (i := 1339) (by decide +kernel)⟩
theorem lw_p88 : lw_okq (⟨"FourCubesModel", "lying", "(II)I"⟩, 45) := ⟨⟨by decide +kernel, by decide +kernel⟩, List.mem_of_getElem? (i := 840) (by decide +kernel), List.mem_of_getElem? (i := 1342) (by decide +kernel), List.mem_of_getElem? (i := 1343) (by decide +kernel)⟩
theorem lw_p89 : lw_okq (⟨"FourCubesModel", "plainLies", "(II)I"⟩, 45) := ⟨⟨by decide +kernel, by decide +kernel⟩, List.mem_of_getElem? (i := 840) (by decide +kernel), List.mem_of_getElem? (i := 1346) (by decide +kernel), List.mem_of_getElem? (i := 1347) (by decide +kernel)⟩
theorem lw_p90 : lw_okq (⟨"FourCubesModel", "telling", "(II)I"⟩, 45) := ⟨⟨by decide +kernel, by decide +kernel⟩, List.mem_of_getElem? (i := 840) (by decide +kernel), List.mem_of_getElem? (i := 1350) (by decide +kernel), List.mem_of_getElem? (i := 1351) (by decide +kernel)⟩
theorem lw_p91 : lw_okq (⟨"FourCubesModel", "rowTells", "(II)I"⟩, 45) := ⟨⟨by decide +kernel, by decide +kernel⟩, List.mem_of_getElem? (i := 840) (by decide +kernel), List.mem_of_getElem? (i := 1354) (by decide +kernel), List.mem_of_getElem? (i := 1355) (by decide +kernel)⟩
theorem lw_p92 : lw_okq (⟨"FourCubesModel", "plainTells", "(II)I"⟩, 45) := ⟨⟨by decide +kernel, by decide +kernel⟩, List.mem_of_getElem? (i := 840) (by decide +kernel), List.mem_of_getElem? (i := 1358) (by decide +kernel), List.mem_of_getElem? (i := 1359) (by decide +kernel)⟩
theorem lw_p93 : lw_okq (⟨"FourCubesModel", "whyNoPlace", "(II)I"⟩, 45) := ⟨⟨by decide +kernel, by decide +kernel⟩, List.mem_of_getElem? (i := 840) (by decide +kernel), List.mem_of_getElem? (i := 1378) (by decide +kernel), List.mem_of_getElem? (i := 1379) (by decide +kernel)⟩
def lw_privs_6 : List (MethodName × Nat) := [(⟨"FourCubesModel", "isBody", "(I)Z"⟩, 45), (⟨"FourCubesModel", "turningBy", "(II)I"⟩, 45), (⟨"FourCubesModel", "ran", "(I)V"⟩, 45), (⟨"FourCubesModel", "plainTurns", "(II)I"⟩, 45), (⟨"FourCubesModel", "toldTurns", "(II)I"⟩, 45), (⟨"FourCubesModel", "showing", "(II)I"⟩, 45), (⟨"FourCubesModel", "wallShows", "(II)I"⟩, 45), (⟨"FourCubesModel", "plainShows", "(II)I"⟩, 45), (⟨"FourCubesModel", "lying", "(II)I"⟩, 45), (⟨"FourCubesModel", "plainLies", "(II)I"⟩, 45), (⟨"FourCubesModel", "telling", "(II)I"⟩, 45), (⟨"FourCubesModel", "rowTells", "(II)I"⟩, 45), (⟨"FourCubesModel", "plainTells", "(II)I"⟩, 45), (⟨"FourCubesModel", "whyNoPlace", "(II)I"⟩, 45)]
theorem lw_r6 : ∀ q ∈ lw_privs_6, lw_okq q := List.forall_mem_cons.mpr ⟨lw_p80, List.forall_mem_cons.mpr ⟨lw_p81, List.forall_mem_cons.mpr ⟨lw_p82, List.forall_mem_cons.mpr ⟨lw_p83, List.forall_mem_cons.mpr ⟨lw_p84, List.forall_mem_cons.mpr ⟨lw_p85, List.forall_mem_cons.mpr ⟨lw_p86, List.forall_mem_cons.mpr ⟨lw_p87, List.forall_mem_cons.mpr ⟨lw_p88, List.forall_mem_cons.mpr ⟨lw_p89, List.forall_mem_cons.mpr ⟨lw_p90, List.forall_mem_cons.mpr ⟨lw_p91, List.forall_mem_cons.mpr ⟨lw_p92, List.forall_mem_cons.mpr ⟨lw_p93, fun _ h => absurd h List.not_mem_nil⟩⟩⟩⟩⟩⟩⟩⟩⟩⟩⟩⟩⟩⟩
def lw_privs : List (MethodName × Nat) := lw_privs_1 ++ (lw_privs_2 ++ (lw_privs_3 ++ (lw_privs_4 ++ (lw_privs_5 ++ (lw_privs_6)))))
def lw_tbl : List Cond := k2_sels lw_privs ++ tables_1
theorem lw_privs_ok : ∀ q ∈ lw_privs, lw_okq q := by
  show ∀ q ∈ lw_privs_1 ++ (lw_privs_2 ++ (lw_privs_3 ++ (lw_privs_4 ++ (lw_privs_5 ++ (lw_privs_6))))), lw_okq q
  exact List.forall_mem_append.mpr ⟨lw_r1, List.forall_mem_append.mpr ⟨lw_r2, List.forall_mem_append.mpr ⟨lw_r3, List.forall_mem_append.mpr ⟨lw_r4, List.forall_mem_append.mpr ⟨lw_r5, lw_r6⟩⟩⟩⟩⟩
end
section
def RX0 : String := "FourCubes$Bodies"
def RX1 : String := "FourCubes$Cube"
def RX2 : String := "FourCubes$Law"
def RX3 : String := "FourCubes$Past"
def RX4 : String := "FourCubes$Rings"
def RX5 : String := "FourCubes$Search"
def RX6 : String := "FourCubes$Shelf"
def RX7 : String := "FourCubes$Tower"
def RX8 : String := "FourCubes"
def RX9 : String := "FourCubesModel"
def RJ6 : String := "java/lang/Integer"
def RJ9 : String := "java/lang/Math"
def RJ10 : String := "java/lang/System"
def RJ7 : String := "java/util/Arrays"
def TX0 : u_T := fun k => match k with
  | 0 => ("FourCubes$Bodies", "kinds", "[I", true)
  | 1 => ("FourCubes$Bodies", "size", "I", false)
  | 2 => ("FourCubes$Bodies", "ranBodies", "[I", true)
  | 3 => ("FourCubes$Bodies", "ran", "I", false)
  | _ => ("FourCubes$Bodies", "self", "I", false)
def tyX0 : Nat → FieldType := fun k => match k with
  | 0 => .array .int
  | 1 => .int
  | 2 => .array .int
  | 3 => .int
  | _ => .int
theorem nmX0 : ∀ a, a < 5 → ∀ b, b < 5 → a ≠ b → (TX0 a).2.1 ≠ (TX0 b).2.1 := by decide +kernel
theorem tyX0_ok : ∀ k, k < 5 → parseFieldDescriptor (TX0 k).2.2.1 = some (tyX0 k) := by decide +kernel
def TX1 : u_T := fun k => match k with
  | 0 => ("FourCubes$Cube", "faces", "[I", true)
  | _ => ("FourCubes$Cube", "turning", "I", false)
def tyX1 : Nat → FieldType := fun k => match k with
  | 0 => .array .int
  | _ => .int
theorem nmX1 : ∀ a, a < 2 → ∀ b, b < 2 → a ≠ b → (TX1 a).2.1 ≠ (TX1 b).2.1 := by decide +kernel
theorem tyX1_ok : ∀ k, k < 2 → parseFieldDescriptor (TX1 k).2.2.1 = some (tyX1 k) := by decide +kernel
def TX2 : u_T := fun k => match k with
  | 0 => ("FourCubes$Law", "tape", "[I", true)
  | 1 => ("FourCubes$Law", "fed", "I", false)
  | 2 => ("FourCubes$Law", "place", "I", false)
  | 3 => ("FourCubes$Law", "draft", "[I", false)
  | 4 => ("FourCubes$Law", "drafted", "I", false)
  | 5 => ("FourCubes$Law", "code", "[I", false)
  | 6 => ("FourCubes$Law", "length", "I", false)
  | 7 => ("FourCubes$Law", "stack", "[I", true)
  | 8 => ("FourCubes$Law", "a", "I", false)
  | 9 => ("FourCubes$Law", "b", "I", false)
  | 10 => ("FourCubes$Law", "s", "I", false)
  | 11 => ("FourCubes$Law", "i", "I", false)
  | 12 => ("FourCubes$Law", "j", "I", false)
  | _ => ("FourCubes$Law", "may", "[Z", true)
def tyX2 : Nat → FieldType := fun k => match k with
  | 0 => .array .int
  | 1 => .int
  | 2 => .int
  | 3 => .array .int
  | 4 => .int
  | 5 => .array .int
  | 6 => .int
  | 7 => .array .int
  | 8 => .int
  | 9 => .int
  | 10 => .int
  | 11 => .int
  | 12 => .int
  | _ => .array .boolean
theorem nmX2 : ∀ a, a < 14 → ∀ b, b < 14 → a ≠ b → (TX2 a).2.1 ≠ (TX2 b).2.1 := by decide +kernel
theorem tyX2_ok : ∀ k, k < 14 → parseFieldDescriptor (TX2 k).2.2.1 = some (tyX2 k) := by decide +kernel
def TX3 : u_T := fun k => match k with
  | 0 => ("FourCubes$Past", "faces", "[I", true)
  | 1 => ("FourCubes$Past", "before", "[I", true)
  | 2 => ("FourCubes$Past", "after", "[I", true)
  | 3 => ("FourCubes$Past", "done", "I", false)
  | _ => ("FourCubes$Past", "kept", "I", false)
def tyX3 : Nat → FieldType := fun k => match k with
  | 0 => .array .int
  | 1 => .array .int
  | 2 => .array .int
  | 3 => .int
  | _ => .int
theorem nmX3 : ∀ a, a < 5 → ∀ b, b < 5 → a ≠ b → (TX3 a).2.1 ≠ (TX3 b).2.1 := by decide +kernel
theorem tyX3_ok : ∀ k, k < 5 → parseFieldDescriptor (TX3 k).2.2.1 = some (tyX3 k) := by decide +kernel
def TX4 : u_T := fun k => match k with
  | 0 => ("FourCubes$Rings", "choices", "[I", true)
  | 1 => ("FourCubes$Rings", "ends", "[I", true)
  | 2 => ("FourCubes$Rings", "found", "I", false)
  | _ => ("FourCubes$Rings", "height", "I", false)
def tyX4 : Nat → FieldType := fun k => match k with
  | 0 => .array .int
  | 1 => .array .int
  | 2 => .int
  | _ => .int
theorem nmX4 : ∀ a, a < 4 → ∀ b, b < 4 → a ≠ b → (TX4 a).2.1 ≠ (TX4 b).2.1 := by decide +kernel
theorem tyX4_ok : ∀ k, k < 4 → parseFieldDescriptor (TX4 k).2.2.1 = some (tyX4 k) := by decide +kernel
def TX5 : u_T := fun k => match k with
  | 0 => ("FourCubes$Search", "height", "I", false)
  | 1 => ("FourCubes$Search", "starts", "[I", true)
  | 2 => ("FourCubes$Search", "fits", "[I", true)
  | _ => ("FourCubes$Search", "turns", "[I", true)
def tyX5 : Nat → FieldType := fun k => match k with
  | 0 => .int
  | 1 => .array .int
  | 2 => .array .int
  | _ => .array .int
theorem nmX5 : ∀ a, a < 4 → ∀ b, b < 4 → a ≠ b → (TX5 a).2.1 ≠ (TX5 b).2.1 := by decide +kernel
theorem tyX5_ok : ∀ k, k < 4 → parseFieldDescriptor (TX5 k).2.2.1 = some (tyX5 k) := by decide +kernel
def TX6 : u_T := fun k => match k with
  | 0 => ("FourCubes$Shelf", "holds", "I", false)
  | 1 => ("FourCubes$Shelf", "body", "I", false)
  | 2 => ("FourCubes$Shelf", "sort", "I", false)
  | 3 => ("FourCubes$Shelf", "length", "I", false)
  | _ => ("FourCubes$Shelf", "elements", "[J", true)
def tyX6 : Nat → FieldType := fun k => match k with
  | 0 => .int
  | 1 => .int
  | 2 => .int
  | 3 => .int
  | _ => .array .long
theorem nmX6 : ∀ a, a < 5 → ∀ b, b < 5 → a ≠ b → (TX6 a).2.1 ≠ (TX6 b).2.1 := by decide +kernel
theorem tyX6_ok : ∀ k, k < 5 → parseFieldDescriptor (TX6 k).2.2.1 = some (tyX6 k) := by decide +kernel
def TX7 : u_T := fun k => match k with
  | 0 => ("FourCubes$Tower", "heap", "[LFourCubes$Cube;", true)
  | 1 => ("FourCubes$Tower", "law", "LFourCubes$Law;", true)
  | 2 => ("FourCubes$Tower", "search", "LFourCubes$Search;", true)
  | 3 => ("FourCubes$Tower", "parts", "[LFourCubes$Cube;", true)
  | 4 => ("FourCubes$Tower", "numbers", "[I", true)
  | 5 => ("FourCubes$Tower", "height", "I", false)
  | 6 => ("FourCubes$Tower", "allowed", "[I", true)
  | 7 => ("FourCubes$Tower", "shown", "[I", true)
  | 8 => ("FourCubes$Tower", "costs", "[B", true)
  | 9 => ("FourCubes$Tower", "ahead", "[I", true)
  | 10 => ("FourCubes$Tower", "least", "I", false)
  | 11 => ("FourCubes$Tower", "mends", "I", false)
  | _ => ("FourCubes$Tower", "firstMend", "I", false)
def tyX7 : Nat → FieldType := fun k => match k with
  | 0 => .array (.object "FourCubes$Cube")
  | 1 => .object "FourCubes$Law"
  | 2 => .object "FourCubes$Search"
  | 3 => .array (.object "FourCubes$Cube")
  | 4 => .array .int
  | 5 => .int
  | 6 => .array .int
  | 7 => .array .int
  | 8 => .array .byte
  | 9 => .array .int
  | 10 => .int
  | 11 => .int
  | _ => .int
theorem nmX7 : ∀ a, a < 13 → ∀ b, b < 13 → a ≠ b → (TX7 a).2.1 ≠ (TX7 b).2.1 := by decide +kernel
theorem tyX7_ok : ∀ k, k < 13 → parseFieldDescriptor (TX7 k).2.2.1 = some (tyX7 k) := by decide +kernel
def TX8 : u_T := fun k => match k with
  | 0 => ("FourCubes", "heap", "[LFourCubes$Cube;", true)
  | 1 => ("FourCubes", "size", "I", false)
  | 2 => ("FourCubes", "boxed", "I", false)
  | 3 => ("FourCubes", "rule", "LFourCubes$Law;", true)
  | 4 => ("FourCubes", "tower", "LFourCubes$Tower;", true)
  | 5 => ("FourCubes", "circles", "LFourCubes$Rings;", true)
  | 6 => ("FourCubes", "past", "LFourCubes$Past;", true)
  | 7 => ("FourCubes", "bodies", "LFourCubes$Bodies;", true)
  | _ => ("FourCubes", "shelves", "[LFourCubes$Shelf;", true)
def tyX8 : Nat → FieldType := fun k => match k with
  | 0 => .array (.object "FourCubes$Cube")
  | 1 => .int
  | 2 => .int
  | 3 => .object "FourCubes$Law"
  | 4 => .object "FourCubes$Tower"
  | 5 => .object "FourCubes$Rings"
  | 6 => .object "FourCubes$Past"
  | 7 => .object "FourCubes$Bodies"
  | _ => .array (.object "FourCubes$Shelf")
theorem nmX8 : ∀ a, a < 9 → ∀ b, b < 9 → a ≠ b → (TX8 a).2.1 ≠ (TX8 b).2.1 := by decide +kernel
theorem tyX8_ok : ∀ k, k < 9 → parseFieldDescriptor (TX8 k).2.2.1 = some (tyX8 k) := by decide +kernel
def TX9 : u_T := fun k => match k with
  | 0 => ("FourCubesModel", "code", "I", false)
  | 1 => ("FourCubesModel", "cubes", "I", false)
  | 2 => ("FourCubesModel", "colour", "[I", true)
  | 3 => ("FourCubesModel", "turning", "[I", true)
  | 4 => ("FourCubesModel", "boxed", "I", false)
  | 5 => ("FourCubesModel", "around", "[I", true)
  | 6 => ("FourCubesModel", "doneMany", "I", false)
  | 7 => ("FourCubesModel", "undoneMany", "I", false)
  | 8 => ("FourCubesModel", "changeOf", "[I", true)
  | 9 => ("FourCubesModel", "changeAt", "[I", true)
  | 10 => ("FourCubesModel", "before", "[I", true)
  | 11 => ("FourCubesModel", "behind", "[I", true)
  | 12 => ("FourCubesModel", "tape", "[B", true)
  | 13 => ("FourCubesModel", "taped", "I", false)
  | 14 => ("FourCubesModel", "here", "I", false)
  | 15 => ("FourCubesModel", "fault", "I", false)
  | 16 => ("FourCubesModel", "open", "I", false)
  | 17 => ("FourCubesModel", "laid", "I", false)
  | 18 => ("FourCubesModel", "act", "[B", true)
  | 19 => ("FourCubesModel", "with", "[I", true)
  | 20 => ("FourCubesModel", "lineMany", "[I", true)
  | 21 => ("FourCubesModel", "testEnd", "[S", true)
  | 22 => ("FourCubesModel", "lineEnd", "[S", true)
  | 23 => ("FourCubesModel", "facts", "[I", true)
  | 24 => ("FourCubesModel", "pile", "[I", true)
  | 25 => ("FourCubesModel", "hasLaw", "Z", false)
  | 26 => ("FourCubesModel", "may", "[Z", true)
  | 27 => ("FourCubesModel", "tower", "[I", true)
  | 28 => ("FourCubesModel", "high", "I", false)
  | 29 => ("FourCubesModel", "turned", "[I", true)
  | 30 => ("FourCubesModel", "firstWay", "[I", true)
  | 31 => ("FourCubesModel", "wayMany", "I", false)
  | 32 => ("FourCubesModel", "held", "I", false)
  | 33 => ("FourCubesModel", "onlyOne", "Z", false)
  | 34 => ("FourCubesModel", "least", "I", false)
  | 35 => ("FourCubesModel", "ends", "[I", true)
  | 36 => ("FourCubesModel", "rings", "[I", true)
  | 37 => ("FourCubesModel", "bodies", "I", false)
  | 38 => ("FourCubesModel", "kind", "[I", true)
  | 39 => ("FourCubesModel", "traces", "I", false)
  | 40 => ("FourCubesModel", "traced", "[I", true)
  | 41 => ("FourCubesModel", "holds", "[I", true)
  | 42 => ("FourCubesModel", "size", "[I", true)
  | 43 => ("FourCubesModel", "elements", "[J", true)
  | _ => ("FourCubesModel", "shifted", "[J", true)
def tyX9 : Nat → FieldType := fun k => match k with
  | 0 => .int
  | 1 => .int
  | 2 => .array .int
  | 3 => .array .int
  | 4 => .int
  | 5 => .array .int
  | 6 => .int
  | 7 => .int
  | 8 => .array .int
  | 9 => .array .int
  | 10 => .array .int
  | 11 => .array .int
  | 12 => .array .byte
  | 13 => .int
  | 14 => .int
  | 15 => .int
  | 16 => .int
  | 17 => .int
  | 18 => .array .byte
  | 19 => .array .int
  | 20 => .array .int
  | 21 => .array .short
  | 22 => .array .short
  | 23 => .array .int
  | 24 => .array .int
  | 25 => .boolean
  | 26 => .array .boolean
  | 27 => .array .int
  | 28 => .int
  | 29 => .array .int
  | 30 => .array .int
  | 31 => .int
  | 32 => .int
  | 33 => .boolean
  | 34 => .int
  | 35 => .array .int
  | 36 => .array .int
  | 37 => .int
  | 38 => .array .int
  | 39 => .int
  | 40 => .array .int
  | 41 => .array .int
  | 42 => .array .int
  | 43 => .array .long
  | _ => .array .long
theorem nmX9 : ∀ a, a < 45 → ∀ b, b < 45 → a ≠ b → (TX9 a).2.1 ≠ (TX9 b).2.1 := by decide +kernel
theorem tyX9_ok : ∀ k, k < 45 → parseFieldDescriptor (TX9 k).2.2.1 = some (tyX9 k) := by decide +kernel
abbrev zCl : List vw_C := [(RX0, TX0, 5), (RX1, TX1, 2), (RX2, TX2, 14), (RX3, TX3, 5), (RX4, TX4, 4), (RX5, TX5, 4), (RX6, TX6, 5), (RX7, TX7, 13), (RX8, TX8, 9), (RX9, TX9, 45)]
abbrev zMR : Type := MethodName × ByteArray × Nat × Option FieldType
def M_Bodies_init : zMR := (⟨RX0, "<init>", "()V"⟩, prog_2_method_1_code, 1, none)
def M_Bodies_add : zMR := (⟨RX0, "add", "(I)I"⟩, prog_2_method_2_code, 2, (some .int))
def M_Bodies_kindOf : zMR := (⟨RX0, "kindOf", "(I)I"⟩, prog_2_method_3_code, 2, (some .int))
def M_Bodies_isUnder : zMR := (⟨RX0, "isUnder", "(II)Z"⟩, prog_2_method_4_code, 4, (some .boolean))
def M_Bodies_traced : zMR := (⟨RX0, "traced", "()I"⟩, prog_2_method_5_code, 1, (some .int))
def M_Bodies_perform : zMR := (⟨RX0, "perform", "(III)I"⟩, prog_2_method_6_code, 4, (some .int))
def M_Bodies_runFrom : zMR := (⟨RX0, "runFrom", "(IIII)I"⟩, prog_2_method_7_code, 8, (some .int))
def M_Bodies_run : zMR := (⟨RX0, "run", "(IIII)I"⟩, prog_2_method_8_code, 8, (some .int))
def M_Cube_init : zMR := (⟨RX1, "<init>", "()V"⟩, prog_3_method_1_code, 1, none)
def M_Cube_seen : zMR := (⟨RX1, "seen", "(II)I"⟩, prog_3_method_2_code, 3, (some .int))
def M_Cube_endOf : zMR := (⟨RX1, "endOf", "(I)I"⟩, prog_3_method_3_code, 1, (some .int))
def M_Cube_line : zMR := (⟨RX1, "line", "(I)I"⟩, prog_3_method_4_code, 5, (some .int))
def M_Cube_turnsInto : zMR := (⟨RX1, "turnsInto", "(LFourCubes$Cube;Z)Z"⟩, prog_3_method_5_code, 4, (some .boolean))
def M_Cube_isLike : zMR := (⟨RX1, "isLike", "(LFourCubes$Cube;IZ)Z"⟩, prog_3_method_6_code, 7, (some .boolean))
def M_Cube_turningsThatShow : zMR := (⟨RX1, "turningsThatShow", "(I)I"⟩, prog_3_method_7_code, 4, (some .int))
def M_Cube_turningsWith : zMR := (⟨RX1, "turningsWith", "(II)I"⟩, prog_3_method_8_code, 5, (some .int))
def M_Cube_mayShow : zMR := (⟨RX1, "mayShow", "(III)Z"⟩, prog_3_method_9_code, 4, (some .boolean))
def M_Cube_mayBe : zMR := (⟨RX1, "mayBe", "(II)Z"⟩, prog_3_method_10_code, 3, (some .boolean))
def M_Cube_hasCornerOf : zMR := (⟨RX1, "hasCornerOf", "(I)Z"⟩, prog_3_method_11_code, 4, (some .boolean))
def M_Law_init : zMR := (⟨RX2, "<init>", "()V"⟩, prog_4_method_1_code, 1, none)
def M_Law_takeByte : zMR := (⟨RX2, "takeByte", "(I)I"⟩, prog_4_method_2_code, 2, (some .int))
def M_Law_takeTape : zMR := (⟨RX2, "takeTape", "()I"⟩, prog_4_method_3_code, 3, (some .int))
def M_Law_peek : zMR := (⟨RX2, "peek", "()I"⟩, prog_4_method_4_code, 1, (some .int))
def M_Law_emit : zMR := (⟨RX2, "emit", "(I)V"⟩, prog_4_method_5_code, 2, none)
def M_Law_readText : zMR := (⟨RX2, "readText", "()Z"⟩, prog_4_method_6_code, 2, (some .boolean))
def M_Law_readLine : zMR := (⟨RX2, "readLine", "()Z"⟩, prog_4_method_7_code, 1, (some .boolean))
def M_Law_readLevel : zMR := (⟨RX2, "readLevel", "(II)Z"⟩, prog_4_method_8_code, 6, (some .boolean))
def M_Law_isJoin : zMR := (⟨RX2, "isJoin", "(II)Z"⟩, prog_4_method_9_code, 2, (some .boolean))
def M_Law_readOperand : zMR := (⟨RX2, "readOperand", "(I)Z"⟩, prog_4_method_10_code, 3, (some .boolean))
def M_Law_readInside : zMR := (⟨RX2, "readInside", "(I)Z"⟩, prog_4_method_11_code, 2, (some .boolean))
def M_Law_readTurned : zMR := (⟨RX2, "readTurned", "(II)Z"⟩, prog_4_method_12_code, 3, (some .boolean))
def M_Law_readNumber : zMR := (⟨RX2, "readNumber", "()V"⟩, prog_4_method_13_code, 3, none)
def M_Law_isDigit : zMR := (⟨RX2, "isDigit", "(I)Z"⟩, prog_4_method_14_code, 1, (some .boolean))
def M_Law_isName : zMR := (⟨RX2, "isName", "(I)Z"⟩, prog_4_method_15_code, 1, (some .boolean))
def M_Law_allows : zMR := (⟨RX2, "allows", "(IIII)Z"⟩, prog_4_method_16_code, 5, (some .boolean))
def M_Law_workOutAll : zMR := (⟨RX2, "workOutAll", "()V"⟩, prog_4_method_17_code, 3, none)
def M_Law_workedOut : zMR := (⟨RX2, "workedOut", "()I"⟩, prog_4_method_18_code, 6, (some .int))
def M_Law_named : zMR := (⟨RX2, "named", "(I)I"⟩, prog_4_method_19_code, 2, (some .int))
def M_Law_turned : zMR := (⟨RX2, "turned", "(II)I"⟩, prog_4_method_20_code, 2, (some .int))
def M_Law_joined : zMR := (⟨RX2, "joined", "(III)I"⟩, prog_4_method_21_code, 3, (some .int))
def M_Past_init : zMR := (⟨RX3, "<init>", "()V"⟩, prog_5_method_1_code, 1, none)
def M_Past_add : zMR := (⟨RX3, "add", "(III)V"⟩, prog_5_method_2_code, 4, none)
def M_Past_forgetOldest : zMR := (⟨RX3, "forgetOldest", "()V"⟩, prog_5_method_3_code, 2, none)
def M_Rings_init : zMR := (⟨RX4, "<init>", "()V"⟩, prog_6_method_1_code, 1, none)
def M_Rings_gather : zMR := (⟨RX4, "gather", "([LFourCubes$Cube;I)V"⟩, prog_6_method_2_code, 4, none)
def M_Rings_isChoice : zMR := (⟨RX4, "isChoice", "(I)Z"⟩, prog_6_method_3_code, 1, (some .boolean))
def M_Rings_isRing : zMR := (⟨RX4, "isRing", "([LFourCubes$Cube;I)Z"⟩, prog_6_method_4_code, 5, (some .boolean))
def M_Rings_parted : zMR := (⟨RX4, "parted", "()I"⟩, prog_6_method_5_code, 4, (some .int))
def M_Rings_shareNone : zMR := (⟨RX4, "shareNone", "(I)Z"⟩, prog_6_method_6_code, 3, (some .boolean))
def M_Search_init : zMR := (⟨RX5, "<init>", "()V"⟩, prog_7_method_1_code, 1, none)
def M_Search_pairOf : zMR := (⟨RX5, "pairOf", "(II)I"⟩, prog_7_method_2_code, 2, (some .int))
def M_Search_fitAny : zMR := (⟨RX5, "fitAny", "(I)V"⟩, prog_7_method_3_code, 3, none)
def M_Search_fitting : zMR := (⟨RX5, "fitting", "(II)I"⟩, prog_7_method_4_code, 5, (some .int))
def M_Search_answer : zMR := (⟨RX5, "answer", "(I)I"⟩, prog_7_method_5_code, 2, (some .int))
def M_Search_hasAny : zMR := (⟨RX5, "hasAny", "()Z"⟩, prog_7_method_6_code, 1, (some .boolean))
def M_Search_total : zMR := (⟨RX5, "total", "(I)I"⟩, prog_7_method_7_code, 5, (some .int))
def M_Search_find : zMR := (⟨RX5, "find", "(I)Z"⟩, prog_7_method_8_code, 4, (some .boolean))
def M_Shelf_init : zMR := (⟨RX6, "<init>", "()V"⟩, prog_8_method_1_code, 1, none)
def M_Shelf_isBare : zMR := (⟨RX6, "isBare", "()Z"⟩, prog_8_method_2_code, 1, (some .boolean))
def M_Shelf_isRow : zMR := (⟨RX6, "isRow", "()Z"⟩, prog_8_method_3_code, 1, (some .boolean))
def M_Shelf_clear : zMR := (⟨RX6, "clear", "()V"⟩, prog_8_method_4_code, 1, none)
def M_Shelf_holdBody : zMR := (⟨RX6, "holdBody", "(I)V"⟩, prog_8_method_5_code, 2, none)
def M_Shelf_holdRow : zMR := (⟨RX6, "holdRow", "(II)V"⟩, prog_8_method_6_code, 3, none)
def M_Shelf_store : zMR := (⟨RX6, "store", "(IJ)V"⟩, prog_8_method_7_code, 4, none)
def M_Shelf_hasStretch : zMR := (⟨RX6, "hasStretch", "(II)Z"⟩, prog_8_method_8_code, 3, (some .boolean))
def M_Shelf_hasSixColours : zMR := (⟨RX6, "hasSixColours", "(I)Z"⟩, prog_8_method_9_code, 3, (some .boolean))
def M_Tower_init : zMR := (⟨RX7, "<init>", "([LFourCubes$Cube;LFourCubes$Law;LFourCubes$Search;)V"⟩, prog_9_method_1_code, 5, none)
def M_Tower_pile : zMR := (⟨RX7, "pile", "(I)V"⟩, prog_9_method_2_code, 3, none)
def M_Tower_firstWrong : zMR := (⟨RX7, "firstWrong", "()I"⟩, prog_9_method_3_code, 6, (some .int))
def M_Tower_startFrom : zMR := (⟨RX7, "startFrom", "(I)V"⟩, prog_9_method_4_code, 3, none)
def M_Tower_fitAll : zMR := (⟨RX7, "fitAll", "()V"⟩, prog_9_method_5_code, 3, none)
def M_Tower_fitPair : zMR := (⟨RX7, "fitPair", "(I)V"⟩, prog_9_method_6_code, 5, none)
def M_Tower_findAllowed : zMR := (⟨RX7, "findAllowed", "(II)V"⟩, prog_9_method_7_code, 8, none)
def M_Tower_goes : zMR := (⟨RX7, "goes", "()Z"⟩, prog_9_method_8_code, 1, (some .boolean))
def M_Tower_goesWith : zMR := (⟨RX7, "goesWith", "(LFourCubes$Cube;II)Z"⟩, prog_9_method_9_code, 6, (some .boolean))
def M_Tower_findMends : zMR := (⟨RX7, "findMends", "(Z)V"⟩, prog_9_method_10_code, 6, none)
def M_Tower_stuckFrom : zMR := (⟨RX7, "stuckFrom", "(I)I"⟩, prog_9_method_11_code, 4, (some .int))
def M_Tower_looksFrom : zMR := (⟨RX7, "looksFrom", "(I)I"⟩, prog_9_method_12_code, 6, (some .int))
def M_Tower_leastWrong : zMR := (⟨RX7, "leastWrong", "()I"⟩, prog_9_method_13_code, 3, (some .int))
def M_Tower_weigh : zMR := (⟨RX7, "weigh", "(I)I"⟩, prog_9_method_14_code, 7, (some .int))
def M_Tower_descend : zMR := (⟨RX7, "descend", "(II)V"⟩, prog_9_method_15_code, 4, none)
def M_Tower_costOf : zMR := (⟨RX7, "costOf", "(II)I"⟩, prog_9_method_16_code, 5, (some .int))
def M_Tower_fitWall : zMR := (⟨RX7, "fitWall", "()V"⟩, prog_9_method_17_code, 2, none)
def M_Tower_touch : zMR := (⟨RX7, "touch", "(III)V"⟩, prog_9_method_18_code, 7, none)
def M_Four_init : zMR := (⟨RX8, "<init>", "()V"⟩, prog_1_method_1_code, 2, none)
def M_Four_cube : zMR := (⟨RX8, "cube", "(I)I"⟩, prog_1_method_2_code, 4, (some .int))
def M_Four_cubes : zMR := (⟨RX8, "cubes", "(III)I"⟩, prog_1_method_3_code, 7, (some .int))
def M_Four_paint : zMR := (⟨RX8, "paint", "(II)I"⟩, prog_1_method_4_code, 4, (some .int))
def M_Four_of : zMR := (⟨RX8, "of", "(II)I"⟩, prog_1_method_5_code, 3, (some .int))
def M_Four_box : zMR := (⟨RX8, "box", "(I)I"⟩, prog_1_method_6_code, 3, (some .int))
def M_Four_feed : zMR := (⟨RX8, "feed", "(I)I"⟩, prog_1_method_7_code, 2, (some .int))
def M_Four_law : zMR := (⟨RX8, "law", "()I"⟩, prog_1_method_8_code, 1, (some .int))
def M_Four_turn : zMR := (⟨RX8, "turn", "(II)I"⟩, prog_1_method_9_code, 4, (some .int))
def M_Four_shows : zMR := (⟨RX8, "shows", "(III)I"⟩, prog_1_method_10_code, 4, (some .int))
def M_Four_judge : zMR := (⟨RX8, "judge", "()I"⟩, prog_1_method_11_code, 1, (some .int))
def M_Four_ways : zMR := (⟨RX8, "ways", "(II)I"⟩, prog_1_method_12_code, 3, (some .int))
def M_Four_near : zMR := (⟨RX8, "near", "(I)I"⟩, prog_1_method_13_code, 2, (some .int))
def M_Four_build : zMR := (⟨RX8, "build", "(II)I"⟩, prog_1_method_14_code, 3, (some .int))
def M_Four_mend : zMR := (⟨RX8, "mend", "(I)I"⟩, prog_1_method_15_code, 2, (some .int))
def M_Four_open : zMR := (⟨RX8, "open", "(I)I"⟩, prog_1_method_16_code, 4, (some .int))
def M_Four_swap : zMR := (⟨RX8, "swap", "(I)I"⟩, prog_1_method_17_code, 5, (some .int))
def M_Four_rings : zMR := (⟨RX8, "rings", "(I)I"⟩, prog_1_method_18_code, 2, (some .int))
def M_Four_alike : zMR := (⟨RX8, "alike", "(I)I"⟩, prog_1_method_19_code, 4, (some .int))
def M_Four_many : zMR := (⟨RX8, "many", "(II)J"⟩, prog_1_method_20_code, 11, (some .long))
def M_Four_sight : zMR := (⟨RX8, "sight", "(II)I"⟩, prog_1_method_21_code, 5, (some .int))
def M_Four_wall : zMR := (⟨RX8, "wall", "(I)I"⟩, prog_1_method_22_code, 2, (some .int))
def M_Four_great : zMR := (⟨RX8, "great", "(I)I"⟩, prog_1_method_23_code, 4, (some .int))
def M_Four_undo : zMR := (⟨RX8, "undo", "()I"⟩, prog_1_method_24_code, 1, (some .int))
def M_Four_redo : zMR := (⟨RX8, "redo", "()I"⟩, prog_1_method_25_code, 1, (some .int))
def M_Four_body : zMR := (⟨RX8, "body", "(I)I"⟩, prog_1_method_26_code, 2, (some .int))
def M_Four_act : zMR := (⟨RX8, "act", "(III)I"⟩, prog_1_method_27_code, 4, (some .int))
def M_Four_trace : zMR := (⟨RX8, "trace", "(I)I"⟩, prog_1_method_28_code, 2, (some .int))
def M_Four_keep : zMR := (⟨RX8, "keep", "(II)I"⟩, prog_1_method_29_code, 3, (some .int))
def M_Four_row : zMR := (⟨RX8, "row", "(III)I"⟩, prog_1_method_30_code, 4, (some .int))
def M_Four_put : zMR := (⟨RX8, "put", "(IIJ)I"⟩, prog_1_method_31_code, 6, (some .int))
def M_Four_element : zMR := (⟨RX8, "element", "(II)J"⟩, prog_1_method_32_code, 3, (some .long))
def M_Four_shift : zMR := (⟨RX8, "shift", "(IIIII)I"⟩, prog_1_method_33_code, 8, (some .int))
def M_Four_taken : zMR := (⟨RX8, "taken", "(II)I"⟩, prog_1_method_34_code, 4, (some .int))
def M_Four_count : zMR := (⟨RX8, "count", "(I)I"⟩, prog_1_method_35_code, 2, (some .int))
def M_Four_areSixColours : zMR := (⟨RX8, "areSixColours", "(I)Z"⟩, prog_1_method_36_code, 3, (some .boolean))
def M_Four_isShelf : zMR := (⟨RX8, "isShelf", "(I)Z"⟩, prog_1_method_37_code, 1, (some .boolean))
def M_Four_isTurning : zMR := (⟨RX8, "isTurning", "(I)Z"⟩, prog_1_method_38_code, 1, (some .boolean))
def M_Four_isKind : zMR := (⟨RX8, "isKind", "(I)Z"⟩, prog_1_method_39_code, 1, (some .boolean))
def M_Four_isCube : zMR := (⟨RX8, "isCube", "(I)Z"⟩, prog_1_method_40_code, 2, (some .boolean))
def M_Four_areCubes : zMR := (⟨RX8, "areCubes", "(I)Z"⟩, prog_1_method_41_code, 2, (some .boolean))
def M_Four_isFace : zMR := (⟨RX8, "isFace", "(I)Z"⟩, prog_1_method_42_code, 2, (some .boolean))
def M_Four_colourAt : zMR := (⟨RX8, "colourAt", "(I)I"⟩, prog_1_method_43_code, 2, (some .int))
def M_Four_setColour : zMR := (⟨RX8, "setColour", "(II)V"⟩, prog_1_method_44_code, 3, none)
def M_Four_goesExchanged : zMR := (⟨RX8, "goesExchanged", "(II)Z"⟩, prog_1_method_45_code, 3, (some .boolean))
def M_Four_refusalOf : zMR := (⟨RX8, "refusalOf", "(II)I"⟩, prog_1_method_46_code, 4, (some .int))
def M_Model_init : zMR := (⟨RX9, "<init>", "()V"⟩, prog_11_method_1_code, 1, none)
def M_Model_in : zMR := (⟨RX9, "in", "(III)Z"⟩, prog_11_method_3_code, 3, (some .boolean))
def M_Model_bitsOf : zMR := (⟨RX9, "bitsOf", "(I)I"⟩, prog_11_method_4_code, 3, (some .int))
def M_Model_isCube : zMR := (⟨RX9, "isCube", "(I)Z"⟩, prog_11_method_5_code, 2, (some .boolean))
def M_Model_isFace : zMR := (⟨RX9, "isFace", "(I)Z"⟩, prog_11_method_6_code, 2, (some .boolean))
def M_Model_isColour : zMR := (⟨RX9, "isColour", "(I)Z"⟩, prog_11_method_7_code, 1, (some .boolean))
def M_Model_cube : zMR := (⟨RX9, "cube", "(I)I"⟩, prog_11_method_8_code, 4, (some .int))
def M_Model_cubes : zMR := (⟨RX9, "cubes", "(III)I"⟩, prog_11_method_9_code, 9, (some .int))
def M_Model_valueAt : zMR := (⟨RX9, "valueAt", "(II)I"⟩, prog_11_method_10_code, 3, (some .int))
def M_Model_lays : zMR := (⟨RX9, "lays", "(III)V"⟩, prog_11_method_11_code, 4, none)
def M_Model_changes : zMR := (⟨RX9, "changes", "(III)I"⟩, prog_11_method_12_code, 6, (some .int))
def M_Model_undo : zMR := (⟨RX9, "undo", "()I"⟩, prog_11_method_13_code, 1, (some .int))
def M_Model_redo : zMR := (⟨RX9, "redo", "()I"⟩, prog_11_method_14_code, 1, (some .int))
def M_Model_paint : zMR := (⟨RX9, "paint", "(II)I"⟩, prog_11_method_15_code, 3, (some .int))
def M_Model_lineOf : zMR := (⟨RX9, "lineOf", "(II)I"⟩, prog_11_method_16_code, 5, (some .int))
def M_Model_of : zMR := (⟨RX9, "of", "(II)I"⟩, prog_11_method_17_code, 3, (some .int))
def M_Model_box : zMR := (⟨RX9, "box", "(I)I"⟩, prog_11_method_18_code, 3, (some .int))
def M_Model_feed : zMR := (⟨RX9, "feed", "(I)I"⟩, prog_11_method_19_code, 2, (some .int))
def M_Model_look : zMR := (⟨RX9, "look", "()I"⟩, prog_11_method_20_code, 1, (some .int))
def M_Model_faulty : zMR := (⟨RX9, "faulty", "()V"⟩, prog_11_method_21_code, 1, none)
def M_Model_addStep : zMR := (⟨RX9, "addStep", "(II)V"⟩, prog_11_method_22_code, 3, none)
def M_Model_nameOf : zMR := (⟨RX9, "nameOf", "(I)I"⟩, prog_11_method_23_code, 1, (some .int))
def M_Model_opens : zMR := (⟨RX9, "opens", "()Z"⟩, prog_11_method_24_code, 1, (some .boolean))
def M_Model_figure : zMR := (⟨RX9, "figure", "()V"⟩, prog_11_method_25_code, 3, none)
def M_Model_operand : zMR := (⟨RX9, "operand", "()V"⟩, prog_11_method_26_code, 2, none)
def M_Model_product : zMR := (⟨RX9, "product", "()V"⟩, prog_11_method_27_code, 2, none)
def M_Model_sum : zMR := (⟨RX9, "sum", "()V"⟩, prog_11_method_28_code, 2, none)
def M_Model_compared : zMR := (⟨RX9, "compared", "()V"⟩, prog_11_method_29_code, 2, none)
def M_Model_both : zMR := (⟨RX9, "both", "()V"⟩, prog_11_method_30_code, 1, none)
def M_Model_either : zMR := (⟨RX9, "either", "()V"⟩, prog_11_method_31_code, 1, none)
def M_Model_line : zMR := (⟨RX9, "line", "()V"⟩, prog_11_method_32_code, 2, none)
def M_Model_readText : zMR := (⟨RX9, "readText", "(I)I"⟩, prog_11_method_33_code, 3, (some .int))
def M_Model_twoOf : zMR := (⟨RX9, "twoOf", "(III)I"⟩, prog_11_method_34_code, 3, (some .int))
def M_Model_worked : zMR := (⟨RX9, "worked", "(III)I"⟩, prog_11_method_35_code, 7, (some .int))
def M_Model_gives : zMR := (⟨RX9, "gives", "(I)I"⟩, prog_11_method_36_code, 4, (some .int))
def M_Model_law : zMR := (⟨RX9, "law", "()I"⟩, prog_11_method_37_code, 2, (some .int))
def M_Model_turn : zMR := (⟨RX9, "turn", "(II)I"⟩, prog_11_method_38_code, 4, (some .int))
def M_Model_opposite : zMR := (⟨RX9, "opposite", "(I)I"⟩, prog_11_method_39_code, 1, (some .int))
def M_Model_showsOf : zMR := (⟨RX9, "showsOf", "(III)I"⟩, prog_11_method_40_code, 6, (some .int))
def M_Model_shows : zMR := (⟨RX9, "shows", "(III)I"⟩, prog_11_method_41_code, 4, (some .int))
def M_Model_mayAt : zMR := (⟨RX9, "mayAt", "(IIIII)I"⟩, prog_11_method_42_code, 5, (some .int))
def M_Model_findMay : zMR := (⟨RX9, "findMay", "()V"⟩, prog_11_method_43_code, 6, none)
def M_Model_asks : zMR := (⟨RX9, "asks", "(IIIII)Z"⟩, prog_11_method_44_code, 6, (some .boolean))
def M_Model_findTower : zMR := (⟨RX9, "findTower", "(I)V"⟩, prog_11_method_45_code, 3, none)
def M_Model_mayBe : zMR := (⟨RX9, "mayBe", "(IIIII)Z"⟩, prog_11_method_46_code, 8, (some .boolean))
def M_Model_judge : zMR := (⟨RX9, "judge", "()I"⟩, prog_11_method_47_code, 4, (some .int))
def M_Model_isHeld : zMR := (⟨RX9, "isHeld", "(I)Z"⟩, prog_11_method_48_code, 2, (some .boolean))
def M_Model_isTried : zMR := (⟨RX9, "isTried", "(II)Z"⟩, prog_11_method_49_code, 3, (some .boolean))
def M_Model_wrongWith : zMR := (⟨RX9, "wrongWith", "(II)I"⟩, prog_11_method_50_code, 6, (some .int))
def M_Model_goOn : zMR := (⟨RX9, "goOn", "(I)V"⟩, prog_11_method_51_code, 3, none)
def M_Model_findWays : zMR := (⟨RX9, "findWays", "(IIZ)V"⟩, prog_11_method_52_code, 4, none)
def M_Model_hasWay : zMR := (⟨RX9, "hasWay", "(I)Z"⟩, prog_11_method_53_code, 2, (some .boolean))
def M_Model_isSet : zMR := (⟨RX9, "isSet", "(I)Z"⟩, prog_11_method_54_code, 2, (some .boolean))
def M_Model_ways : zMR := (⟨RX9, "ways", "(II)I"⟩, prog_11_method_55_code, 3, (some .int))
def M_Model_findNear : zMR := (⟨RX9, "findNear", "(II)V"⟩, prog_11_method_56_code, 4, none)
def M_Model_near : zMR := (⟨RX9, "near", "(I)I"⟩, prog_11_method_57_code, 2, (some .int))
def M_Model_build : zMR := (⟨RX9, "build", "(II)I"⟩, prog_11_method_58_code, 7, (some .int))
def M_Model_mend : zMR := (⟨RX9, "mend", "(I)I"⟩, prog_11_method_59_code, 7, (some .int))
def M_Model_open : zMR := (⟨RX9, "open", "(I)I"⟩, prog_11_method_60_code, 5, (some .int))
def M_Model_swap : zMR := (⟨RX9, "swap", "(I)I"⟩, prog_11_method_61_code, 6, (some .int))
def M_Model_isRing : zMR := (⟨RX9, "isRing", "(I)Z"⟩, prog_11_method_62_code, 5, (some .boolean))
def M_Model_areParted : zMR := (⟨RX9, "areParted", "(II)Z"⟩, prog_11_method_63_code, 6, (some .boolean))
def M_Model_rings : zMR := (⟨RX9, "rings", "(I)I"⟩, prog_11_method_64_code, 7, (some .int))
def M_Model_isAs : zMR := (⟨RX9, "isAs", "(IIIZ)Z"⟩, prog_11_method_65_code, 7, (some .boolean))
def M_Model_areAlike : zMR := (⟨RX9, "areAlike", "(IIZ)Z"⟩, prog_11_method_66_code, 5, (some .boolean))
def M_Model_alike : zMR := (⟨RX9, "alike", "(I)I"⟩, prog_11_method_67_code, 2, (some .int))
def M_Model_many : zMR := (⟨RX9, "many", "(II)J"⟩, prog_11_method_68_code, 11, (some .long))
def M_Model_doesShow : zMR := (⟨RX9, "doesShow", "(IIII)Z"⟩, prog_11_method_69_code, 6, (some .boolean))
def M_Model_sightOf : zMR := (⟨RX9, "sightOf", "(II)I"⟩, prog_11_method_70_code, 5, (some .int))
def M_Model_sight : zMR := (⟨RX9, "sight", "(II)I"⟩, prog_11_method_71_code, 5, (some .int))
def M_Model_touch : zMR := (⟨RX9, "touch", "(IIIII)Z"⟩, prog_11_method_72_code, 8, (some .boolean))
def M_Model_fitsWall : zMR := (⟨RX9, "fitsWall", "(II)Z"⟩, prog_11_method_73_code, 3, (some .boolean))
def M_Model_goWall : zMR := (⟨RX9, "goWall", "(I)V"⟩, prog_11_method_74_code, 3, none)
def M_Model_wall : zMR := (⟨RX9, "wall", "(I)I"⟩, prog_11_method_75_code, 2, (some .int))
def M_Model_isOf : zMR := (⟨RX9, "isOf", "(III)Z"⟩, prog_11_method_76_code, 4, (some .boolean))
def M_Model_isGreat : zMR := (⟨RX9, "isGreat", "(II)Z"⟩, prog_11_method_77_code, 3, (some .boolean))
def M_Model_great : zMR := (⟨RX9, "great", "(I)I"⟩, prog_11_method_78_code, 4, (some .int))
def M_Model_isBody : zMR := (⟨RX9, "isBody", "(I)Z"⟩, prog_11_method_79_code, 2, (some .boolean))
def M_Model_ran : zMR := (⟨RX9, "ran", "(I)V"⟩, prog_11_method_80_code, 2, none)
def M_Model_trace : zMR := (⟨RX9, "trace", "(I)I"⟩, prog_11_method_81_code, 2, (some .int))
def M_Model_body : zMR := (⟨RX9, "body", "(I)I"⟩, prog_11_method_82_code, 2, (some .int))
def M_Model_isUnder : zMR := (⟨RX9, "isUnder", "(II)Z"⟩, prog_11_method_83_code, 2, (some .boolean))
def M_Model_plainTurns : zMR := (⟨RX9, "plainTurns", "(II)I"⟩, prog_11_method_84_code, 3, (some .int))
def M_Model_toldTurns : zMR := (⟨RX9, "toldTurns", "(II)I"⟩, prog_11_method_85_code, 3, (some .int))
def M_Model_turningBy : zMR := (⟨RX9, "turningBy", "(II)I"⟩, prog_11_method_86_code, 3, (some .int))
def M_Model_plainShows : zMR := (⟨RX9, "plainShows", "(II)I"⟩, prog_11_method_87_code, 3, (some .int))
def M_Model_wallShows : zMR := (⟨RX9, "wallShows", "(II)I"⟩, prog_11_method_88_code, 3, (some .int))
def M_Model_showing : zMR := (⟨RX9, "showing", "(II)I"⟩, prog_11_method_89_code, 4, (some .int))
def M_Model_plainLies : zMR := (⟨RX9, "plainLies", "(II)I"⟩, prog_11_method_90_code, 3, (some .int))
def M_Model_lying : zMR := (⟨RX9, "lying", "(II)I"⟩, prog_11_method_91_code, 4, (some .int))
def M_Model_plainTells : zMR := (⟨RX9, "plainTells", "(II)I"⟩, prog_11_method_92_code, 4, (some .int))
def M_Model_rowTells : zMR := (⟨RX9, "rowTells", "(II)I"⟩, prog_11_method_93_code, 3, (some .int))
def M_Model_telling : zMR := (⟨RX9, "telling", "(II)I"⟩, prog_11_method_94_code, 3, (some .int))
def M_Model_act : zMR := (⟨RX9, "act", "(III)I"⟩, prog_11_method_95_code, 4, (some .int))
def M_Model_count : zMR := (⟨RX9, "count", "(I)I"⟩, prog_11_method_96_code, 2, (some .int))
def M_Model_isShelf : zMR := (⟨RX9, "isShelf", "(I)Z"⟩, prog_11_method_97_code, 1, (some .boolean))
def M_Model_keep : zMR := (⟨RX9, "keep", "(II)I"⟩, prog_11_method_98_code, 3, (some .int))
def M_Model_row : zMR := (⟨RX9, "row", "(III)I"⟩, prog_11_method_99_code, 5, (some .int))
def M_Model_whyNoPlace : zMR := (⟨RX9, "whyNoPlace", "(II)I"⟩, prog_11_method_100_code, 3, (some .int))
def M_Model_put : zMR := (⟨RX9, "put", "(IIJ)I"⟩, prog_11_method_101_code, 7, (some .int))
def M_Model_element : zMR := (⟨RX9, "element", "(II)J"⟩, prog_11_method_102_code, 3, (some .long))
def M_Model_shift : zMR := (⟨RX9, "shift", "(IIIII)I"⟩, prog_11_method_103_code, 7, (some .int))
def M_Model_taken : zMR := (⟨RX9, "taken", "(II)I"⟩, prog_11_method_104_code, 3, (some .int))
def M_Integer_numberOfTrailingZeros_0f7a4 : zMR := (⟨RJ6, "numberOfTrailingZeros", "(I)I"⟩, prog_12_method_48_code, 2, (some .int))
def M_Integer_bitCount_0f7a4 : zMR := (⟨RJ6, "bitCount", "(I)I"⟩, prog_12_method_49_code, 1, (some .int))
def M_Math_max_7cf53 : zMR := (⟨RJ9, "max", "(II)I"⟩, prog_13_method_65_code, 2, (some .int))
def M_Math_min_7cf53 : zMR := (⟨RJ9, "min", "(II)I"⟩, prog_13_method_69_code, 2, (some .int))
def M_Arrays_fill_d0a16 : zMR := (⟨RJ7, "fill", "([JJ)V"⟩, prog_15_method_101_code, 5, none)
def M_Arrays_fill_53178 : zMR := (⟨RJ7, "fill", "([II)V"⟩, prog_15_method_103_code, 4, none)
def M_Arrays_fill_031fb : zMR := (⟨RJ7, "fill", "([BB)V"⟩, prog_15_method_109_code, 4, none)
end
section
/-! MY LAYER: values, memory and cells by logical names (pool, index); one judgement zW over the kit's W; one contract zC over the kit's Met -/
abbrev zR : Type := Nat × Nat
abbrev zV : Type := Int32 ⊕ (Int64 ⊕ zR)
abbrev zI (x : Int32) : zV := Sum.inl x
abbrev zJ (x : Int64) : zV := Sum.inr (Sum.inl x)
abbrev zP (p k : Nat) : zV := Sum.inr (Sum.inr (p, k))
/-- memory: ints, longs, the index part of references that change; by pool, index, place -/
abbrev zM : Type := (Nat → Nat → Nat → Int32) × (Nat → Nat → Nat → Int64) × (Nat → Nat → Nat → Nat)
/-- kinds of places: 0 int, 1 long, 2 a reference that never changes (pool, index by cell and place), 3 one that may (pool) -/
abbrev zK : Type := Nat × Nat × (Nat → Nat → Nat)
/-- a pool: how many cells; objects (class, places) or arrays (type, length, kind) -/
abbrev zS : Type := Nat × ((Nat × List zK) ⊕ (FieldType × Nat × zK))
abbrev zi : zK := (0, 0, fun _ _ => 0)
abbrev zj : zK := (1, 0, fun _ _ => 0)
abbrev zc (p : Nat) : zK := (2, p, fun _ _ => 0)
abbrev zk (p : Nat) : zK := (2, p, fun k _ => k)
abbrev ze (p : Nat) : zK := (2, p, fun _ j => j)
abbrev zv (p : Nat) : zK := (3, p, fun _ _ => 0)
/-- an instance: class numbers, slots, array classes, addresses, the cells that there are -/
abbrev zE : Type := (Nat → ClassId) × (Nat → Nat → Nat) × (FieldType → ClassId) × (Nat → Nat → Nat) × List zR
abbrev zeD (ι : zE) : va_G := (ι.1, ι.2.1)
abbrev zeT (ι : zE) : FieldType → ClassId := ι.2.2.1
abbrev zeR (ι : zE) : Nat → Nat → Nat := ι.2.2.2.1
abbrev zeK (ι : zE) : List zR := ι.2.2.2.2
def z_tv (r : Nat → Nat → Nat) : zV → Value
  | .inl x => .int x
  | .inr (.inl x) => .long x
  | .inr (.inr q) => .ref (r q.1 q.2)
def z_sv (mem : zM) (p k j : Nat) (sk : zK) : zV := match sk.1 with
  | 0 => zI (mem.1 p k j)
  | 1 => zJ (mem.2.1 p k j)
  | 2 => zP sk.2.1 (sk.2.2 k j)
  | _ => zP sk.2.1 (mem.2.2 p k j)
def z_fs (r : Nat → Nat → Nat) (mem : zM) (p k : Nat) (sks : List zK) : List Value := (List.range sks.length).map fun j => z_tv r (z_sv mem p k j (sks.getD j zi))
def z_ar (r : Nat → Nat → Nat) (mem : zM) (p k n : Nat) (sk : zK) : vp_A := (n, match sk.1 with
  | 0 => .inl (mem.1 p k)
  | 1 => .inr (.inl (mem.2.1 p k))
  | 2 => .inr (.inr (.inr (.inr (fun j => some (r sk.2.1 (sk.2.2 k j))))))
  | _ => .inr (.inr (.inr (.inr (fun j => some (r sk.2.1 (mem.2.2 p k j)))))))
-- THE POOLS
def zsh (p : Nat) : zS := match p with
  | 0 => (1, .inl (8, [zc 1, zi, zi, zc 4, zc 9, zc 20, zc 23, zc 27, zc 30]))
  | 1 => (1, .inr (.object "FourCubes$Cube", 8, ze 2))
  | 2 => (8, .inl (1, [zk 3, zi]))
  | 3 => (8, .inr (.int, 6, zi))
  | 4 => (1, .inl (2, [zc 5, zi, zi, zv 6, zi, zv 6, zi, zc 7, zi, zi, zi, zi, zi, zc 8]))
  | 5 => (1, .inr (.int, 120, zi))
  | 6 => (2, .inr (.int, 121, zi))
  | 7 => (1, .inr (.int, 121, zi))
  | 8 => (1, .inr (.boolean, 1176, zi))
  | 9 => (1, .inl (7, [zc 1, zc 4, zc 10, zc 14, zc 15, zi, zc 16, zc 17, zc 18, zc 19, zi, zi, zi]))
  | 10 => (1, .inl (5, [zi, zc 11, zc 12, zc 13]))
  | 11 => (1, .inr (.int, 4, zi))
  | 12 => (1, .inr (.int, 144, zi))
  | 13 => (1, .inr (.int, 4, zi))
  | 14 => (1, .inr (.object "FourCubes$Cube", 4, zv 2))
  | 15 => (1, .inr (.int, 4, zi))
  | 16 => (1, .inr (.int, 7, zi))
  | 17 => (1, .inr (.int, 7, zi))
  | 18 => (1, .inr (.byte, 3456, zi))
  | 19 => (1, .inr (.int, 5, zi))
  | 20 => (1, .inl (4, [zc 21, zc 22, zi, zi]))
  | 21 => (1, .inr (.int, 81, zi))
  | 22 => (1, .inr (.int, 7, zi))
  | 23 => (1, .inl (3, [zc 24, zc 25, zc 26, zi, zi]))
  | 24 => (1, .inr (.int, 40, zi))
  | 25 => (1, .inr (.int, 40, zi))
  | 26 => (1, .inr (.int, 40, zi))
  | 27 => (1, .inl (0, [zc 28, zi, zc 29, zi, zi]))
  | 28 => (1, .inr (.int, 50, zi))
  | 29 => (1, .inr (.int, 24, zi))
  | 30 => (1, .inr (.object "FourCubes$Shelf", 6, ze 31))
  | 31 => (6, .inl (6, [zi, zi, zi, zi, zk 32]))
  | 32 => (6, .inr (.long, 60, zj))
  | 40 => (1, .inl (9, [zi, zi, zc 41, zc 42, zi, zc 43, zi, zi, zc 44, zc 45, zc 46, zc 47, zc 48, zi, zi, zi, zi, zi, zc 49, zc 50, zc 51, zc 52, zc 53, zc 54, zc 55, zi, zc 56, zc 57, zi, zc 58, zc 59, zi, zi, zi, zi, zc 60, zc 61, zi, zc 62, zi, zc 63, zc 64, zc 65, zc 66, zc 67]))
  | 41 => (1, .inr (.int, 48, zi))
  | 42 => (1, .inr (.int, 8, zi))
  | 43 => (1, .inr (.int, 24, zi))
  | 44 => (1, .inr (.int, 40, zi))
  | 45 => (1, .inr (.int, 40, zi))
  | 46 => (1, .inr (.int, 40, zi))
  | 47 => (1, .inr (.int, 40, zi))
  | 48 => (1, .inr (.byte, 120, zi))
  | 49 => (1, .inr (.byte, 260, zi))
  | 50 => (1, .inr (.int, 260, zi))
  | 51 => (1, .inr (.int, 2, zi))
  | 52 => (1, .inr (.short, 122, zi))
  | 53 => (1, .inr (.short, 122, zi))
  | 54 => (1, .inr (.int, 5, zi))
  | 55 => (1, .inr (.int, 130, zi))
  | 56 => (1, .inr (.boolean, 2304, zi))
  | 57 => (1, .inr (.int, 8, zi))
  | 58 => (1, .inr (.int, 8, zi))
  | 59 => (1, .inr (.int, 8, zi))
  | 60 => (1, .inr (.int, 7, zi))
  | 61 => (1, .inr (.int, 81, zi))
  | 62 => (1, .inr (.int, 50, zi))
  | 63 => (1, .inr (.int, 24, zi))
  | 64 => (1, .inr (.int, 6, zi))
  | 65 => (1, .inr (.int, 6, zi))
  | 66 => (1, .inr (.long, 360, zj))
  | 67 => (1, .inr (.long, 60, zj))
  | _ => (0, .inr (.int, 0, zi))
def z_cell (ι : zE) (mem : zM) (q : zR) : Nat × va_E := (zeR ι q.1 q.2, match (zsh q.1).2 with
  | .inl o => .inr (o.1, z_fs (zeR ι) mem q.1 q.2 o.2)
  | .inr a => .inl (zeT ι a.1, z_ar (zeR ι) mem q.1 q.2 a.2.1 a.2.2))
def z_ws (ι : zE) (mem : zM) : va_W := (zeK ι).map (z_cell ι mem)
def zTys (ι : zE) : List (ClassId × FieldType) := [(zeT ι .int, .int), (zeT ι .byte, .byte), (zeT ι .short, .short), (zeT ι .boolean, .boolean), (zeT ι .long, .long), (zeT ι (.object "FourCubes$Cube"), .object "FourCubes$Cube"), (zeT ι (.object "FourCubes$Shelf"), .object "FourCubes$Shelf")]
-- the tables that nobody writes: pools 90 on
def zstv (p : Nat) : String × String × List Int32 := match p with
  | 90 => (RX8, "OPPOSITE", [2, 3, 0, 1, 5, 4])
  | 91 => (RX8, "STANDING", [5, 1, 4, 3, 0, 2, 1, 4, 3, 5, 0, 2, 4, 3, 5, 1, 0, 2, 3, 5, 1, 4, 0, 2, 0, 5, 2, 4, 1, 3, 5, 2, 4, 0, 1, 3, 2, 4, 0, 5, 1, 3, 4, 0, 5, 2, 1, 3, 4, 1, 5, 3, 2, 0, 1, 5, 3, 4, 2, 0, 5, 3, 4, 1, 2, 0, 3, 4, 1, 5, 2, 0, 0, 4, 2, 5, 3, 1, 4, 2, 5, 0, 3, 1, 2, 5, 0, 4, 3, 1, 5, 0, 4, 2, 3, 1, 0, 1, 2, 3, 4, 5, 1, 2, 3, 0, 4, 5, 2, 3, 0, 1, 4, 5, 3, 0, 1, 2, 4, 5, 2, 1, 0, 3, 5, 4, 1, 0, 3, 2, 5, 4, 0, 3, 2, 1, 5, 4, 3, 2, 1, 0, 5, 4])
  | 92 => (RX8, "LOWER", [0, 0, 1, 0, 1, 2])
  | 93 => (RX8, "HIGHER", [1, 2, 2, 3, 3, 3])
  | 94 => (RX0, "ABOVE", [-1, 0, 0, 2, 1, 4, 0, 6])
  | _ => (RX0, "OWN", [1, 10, 11, 2, 20, 0, 0, 0, 0, 30, 0, 0, 0, 41, 40, 0, 0, 0, 0, 50, 0, 0, 60, 61, 70, 0, 0, 0, 81, 80, 0, 0])
def zstf (p j : Nat) : Int32 := (zstv p).2.2.getD j 0
def zstN (p : Nat) : Nat := (zstv p).2.2.length
def z_stat (ι : zE) (A : Nat → Prop) (U : State) (H : Heap) : Prop := ∀ p : Nat, 90 ≤ p → p ≤ 95 → va_Z (zstv p).1 (zstv p).2.1 "[I" (.ref (zeR ι p 0)) A U H ∧ va_T .int (zeR ι p 0) (zstN p) (fun j => .int (zstf p j)) A U H
-- the words of the tables that pass from a call to its callee
def zNest : Cond → Bool
  | .fieldLinkNest _ _ _ _ _ _ => true
  | .methodLinkNest _ _ _ _ => true
  | _ => false
def zTS : List Cond := lw_tbl.filter (fun w => goodWord w || zNest w)
theorem zTS_warm {s U : State} {args a' : Array Value} (hW : s.WarmedH U.vm) {w : Cond} (hw : w ∈ zTS) (h : w.before args s = true) : w.before a' U = true := by
  have h1 := (List.mem_filter.mp hw).2
  rw [Bool.or_eq_true] at h1
  rcases h1 with h1 | h1
  · exact word_at hW (good_of_word h1) h
  · cases w with
    | fieldLinkNest a i b n d g => exact (va_Nw.warmF hW (va_Nw.of rfl h)).use rfl
    | methodLinkNest a i y g => exact (va_Nw.warmM hW (va_Nw.of rfl h)).use rfl
    | _ => cases h1
theorem zTS_of {w : Cond} (i : Nat) (h : tables_1[i]? = some w) (hg : (goodWord w || zNest w) = true) : w ∈ zTS := List.mem_filter.mpr ⟨List.mem_append_right _ (List.mem_of_getElem? h), hg⟩
theorem zTS_sel {w : Cond} (i : Nat) (h : (k2_sels lw_privs)[i]? = some w) (hg : (goodWord w || zNest w) = true) : w ∈ zTS := List.mem_filter.mpr ⟨List.mem_append_left _ (List.mem_of_getElem? h), hg⟩
-- locals by place
def z_lv (r : Nat → Nat → Nat) (lv : List (Option zV)) : List (Nat × Value) := lv.zipIdx.filterMap (fun q => q.1.map (fun v => (q.2, z_tv r v)))
theorem z_lv_mem {r : Nat → Nat → Nat} {lv : List (Option zV)} {i : Nat} {v : Value} : (i, v) ∈ z_lv r lv ↔ ∃ u : zV, lv[i]? = some (some u) ∧ v = z_tv r u := by
  unfold z_lv
  rw [List.mem_filterMap]
  constructor
  · rintro ⟨⟨o, j⟩, h1, h2⟩
    have h3 := List.mem_zipIdx_iff_getElem?.mp h1
    cases o with
    | none => cases h2
    | some u =>
      simp only [Option.map_some, Option.some.injEq, Prod.mk.injEq] at h2
      obtain ⟨rfl, rfl⟩ := h2
      exact ⟨u, h3, rfl⟩
  · rintro ⟨u, h1, rfl⟩
    exact ⟨(some u, i), List.mem_zipIdx_iff_getElem?.mpr h1, rfl⟩
theorem z_lget {r : Nat → Nat → Nat} {lv : List (Option zV)} {ls : Array Slot} {n i : Nat} {u : zV} (hl : lv_has ls n (z_lv r lv)) (h : lv[i]? = some (some u)) : ls[i]? = some (.val (z_tv r u)) := hl.2.2 (i, z_tv r u) (z_lv_mem.mpr ⟨u, h, rfl⟩)
def z_isJ : Option (Option zV) → Bool
  | some (some (.inr (.inl _))) => true
  | _ => false
theorem z_tv_cat {r : Nat → Nat → Nat} {u : zV} (h : (z_tv r u).category = 2) : ∃ x, u = zJ x := by
  rcases u with x | x | x
  · cases h
  · exact ⟨x, rfl⟩
  · cases h
theorem z_st1 {r : Nat → Nat → Nat} {lv : List (Option zV)} {ls' : Array Slot} {n i : Nat} {u : zV} (hj : z_isJ (lv[i - 1]?) = false) (h : lv_has ls' n ((i, z_tv r u) :: (z_lv r lv).filter (fun q => !(q.1 == i) && !(q.1 + 1 == i && q.2.category == 2)))) : lv_has ls' n (z_lv r (lv.set i (some u))) := by
  refine ⟨h.1, h.2.1, fun q hq => h.2.2 q ?_⟩
  obtain ⟨j, v⟩ := q
  obtain ⟨w, h1, rfl⟩ := z_lv_mem.mp hq
  by_cases e : i = j
  · subst e
    rw [List.getElem?_set_self' , Option.map_eq_map] at h1
    cases h2 : lv[i]? with
    | none => rw [h2] at h1; cases h1
    | some o =>
      rw [h2] at h1
      simp only [Option.map_some, Function.const, Option.some.injEq] at h1
      rw [h1]
      exact List.mem_cons_self
  · rw [List.getElem?_set_ne e] at h1
    refine List.mem_cons_of_mem _ (List.mem_filter.mpr ⟨z_lv_mem.mpr ⟨w, h1, rfl⟩, ?_⟩)
    have e1 : (j == i) = false := by simpa using fun z => e z.symm
    by_cases e2 : j + 1 = i
    · have e3 : (z_tv r w).category ≠ 2 := by
        intro z
        obtain ⟨x, rfl⟩ := z_tv_cat z
        have e4 : i - 1 = j := by omega
        rw [e4, h1] at hj
        cases hj
      have e5 : ((z_tv r w).category == 2) = false := by simpa using e3
      simp [e1, e5]
    · have e5 : (j + 1 == i) = false := by simpa using e2
      simp [e1, e5]
theorem z_st2 {r : Nat → Nat → Nat} {lv : List (Option zV)} {ls' : Array Slot} {n i : Nat} {u : zV} (hj : z_isJ (lv[i - 1]?) = false) (h : lv_has ls' n ((i, z_tv r u) :: (z_lv r lv).filter (fun q => !(q.1 == i) && (!(q.1 == i + 1) && !(q.1 + 1 == i && q.2.category == 2))))) : lv_has ls' n (z_lv r ((lv.set (i + 1) none).set i (some u))) := by
  refine ⟨h.1, h.2.1, fun q hq => h.2.2 q ?_⟩
  obtain ⟨j, v⟩ := q
  obtain ⟨w, h1, rfl⟩ := z_lv_mem.mp hq
  by_cases e : i = j
  · subst e
    rw [List.getElem?_set_self' , Option.map_eq_map] at h1
    cases h2 : (lv.set (i + 1) none)[i]? with
    | none => rw [h2] at h1; cases h1
    | some o =>
      rw [h2] at h1
      simp only [Option.map_some, Function.const, Option.some.injEq] at h1
      rw [h1]
      exact List.mem_cons_self
  · rw [List.getElem?_set_ne e] at h1
    by_cases e0 : i + 1 = j
    · subst e0
      rw [List.getElem?_set_self' , Option.map_eq_map] at h1
      cases h2 : lv[i + 1]? with
      | none => rw [h2] at h1; cases h1
      | some o =>
        rw [h2] at h1
        simp only [Option.map_some, Function.const, Option.some.injEq] at h1
        cases h1
    · rw [List.getElem?_set_ne e0] at h1
      refine List.mem_cons_of_mem _ (List.mem_filter.mpr ⟨z_lv_mem.mpr ⟨w, h1, rfl⟩, ?_⟩)
      have e1 : (j == i) = false := by simpa using fun z => e z.symm
      have e6 : (j == i + 1) = false := by simpa using fun z => e0 z.symm
      by_cases e2 : j + 1 = i
      · have e3 : (z_tv r w).category ≠ 2 := by
          intro z
          obtain ⟨x, rfl⟩ := z_tv_cat z
          have e4 : i - 1 = j := by omega
          rw [e4, h1] at hj
          cases hj
        have e5 : ((z_tv r w).category == 2) = false := by simpa using e3
        simp [e1, e5, e6]
      · have e5 : (j + 1 == i) = false := by simpa using e2
        simp [e1, e5, e6]
end
section
/-! the activation, the judgement, the contract -/
abbrev zX : Type := Program × Launch × Env × Room × State × MethodId × Array Value × List Frame × Method × Code × (Nat → Prop) × Nat × Nat × (State → Prop)
def zW (ι : zE) (M : zMR) (X : zX) (pc : Nat) (lv : List (Option zV)) (st : List zV) (mem : zM) : Prop :=
  match X with
  | (p, l, e, R, s, m, args, below, meth, c, A, cells, slots, Q) => ∀ (H : Heap) (locs : List Loc) (ls : Array Slot), va_P (zeD ι) zCl (z_ws ι mem) H → va_S A s.heap H locs → lv_has ls M.2.2.1 (z_lv (zeR ι) lv) → W p l e R s m args below meth c H locs cells slots Q (F0 m pc ls (st.map (z_tv (zeR ι))))
/-- these pools are there whole -/
def zHas (ι : zE) (ps : List Nat) : Prop := ∀ p k : Nat, p ∈ ps → k < (zsh p).1 → (p, k) ∈ zeK ι
/-- the cells' addresses are apart and of a kind -/
def zAd (ι : zE) (A : Nat → Prop) : Prop := (zeK ι).Nodup ∧ (∀ a b : zR, a ∈ zeK ι → b ∈ zeK ι → zeR ι a.1 a.2 = zeR ι b.1 b.2 → a = b) ∧ ∀ a : zR, a ∈ zeK ι → A (zeR ι a.1 a.2)
def zG (ι : zE) (M : zMR) (X : zX) (n : Nat) (ps : List Nat) : Prop :=
  match X with
  | (p, l, e, R, s, m, args, below, meth, c, A, cells, slots, Q) => p.tables.exec = Jvm.exec ∧ c.code = M.2.1 ∧ c.maxLocals = M.2.2.1 ∧ s.vm.findClass M.1.cls = some m.cls ∧ (∀ w ∈ zTS, w.before args s = true) ∧ meth.sig.returnType = M.2.2.2 ∧ meth.locks = false ∧ va_K (zeD ι) zCl (zTys ι) s ∧ zAd ι A ∧ (∀ q, s.heap.size ≤ q → A q) ∧ z_stat ι A s s.heap ∧ n ≤ R.frames ∧ 40 * n ≤ R.locals ∧ cells ≤ R.cells ∧ slots ≤ R.slots ∧ zHas ι ps
def zQ (ι : zE) (Post : Option zV → zM → Prop) (A : Nat → Prop) : Array Value → State → Outcome → State → Prop := fun _ st oc t => (∃ (r : Option zV) (mem' : zM), oc = .returned (r.map (z_tv (zeR ι))) ∧ Post r mem' ∧ va_P (zeD ι) zCl (z_ws ι mem') t.heap) ∧ va_F A st t
def zpre (ι : zE) (mem : zM) (sz : Nat) (U : State) : Prop := U.heap.size = sz ∧ va_P (zeD ι) zCl (z_ws ι mem) U.heap ∧ va_K (zeD ι) zCl (zTys ι) U ∧ zAd ι (fun _ => True) ∧ z_stat ι (va_A (z_ws ι mem) sz) U U.heap
def zrm (n : Nat) : Room := { frames := n, cells := 0, slots := 0, locals := 40 * n }
def zC (l : Launch) (ι : zE) (M : zMR) (n : Nat) (av : List zV) (mem : zM) (Post : Option zV → zM → Prop) : Prop :=
  ∀ sz : Nat, Met l M.1 (.code M.1 M.2.1 M.2.2.1 M.2.2.2 :: zTS) (zrm n) (va_Pc (av.map (z_tv (zeR ι))) (zpre ι mem sz)) (zQ ι Post (va_A (z_ws ι mem) sz)) 0 0 (va_A (z_ws ι mem) sz)
/-- what a return wants -/
def zRt (ι : zE) (X : zX) (Post : Option zV → zM → Prop) : Prop :=
  match X with
  | (p, l, e, R, s, m, args, below, meth, c, A, cells, slots, Q) => cells = 0 ∧ slots = 0 ∧ Q = MQ below (zQ ι Post A) args s 0 0 A
-- decoding
def zD (b : ByteArray) (pc : Nat) (ins : Instr) (n npc : Nat) : Prop := decode b pc = .ok (ins, n) ∧ pc + n = npc
theorem zDall {b : ByteArray} {L : List (Nat × Instr × Nat × Nat)} (h : ∀ q ∈ L, decode b q.1 = .ok (q.2.1, q.2.2.1) ∧ q.1 + q.2.2.1 = q.2.2.2) {i pc n npc : Nat} {ins : Instr} (hi : L[i]? = some (pc, ins, n, npc)) : zD b pc ins n npc := h (pc, ins, n, npc) (List.mem_of_getElem? hi)
-- addresses
theorem z_ws_len (ι : zE) (mem : zM) : (z_ws ι mem).length = (zeK ι).length := by simp [z_ws]
theorem z_ws_at {ι : zE} {mem : zM} {i : Nat} {q : zR} (h : (zeK ι)[i]? = some q) : (z_ws ι mem)[i]? = some (z_cell ι mem q) := by simp [z_ws, h]
theorem z_ws_of {ι : zE} {mem : zM} {i : Nat} {x : Nat × va_E} (h : (z_ws ι mem)[i]? = some x) : ∃ q, (zeK ι)[i]? = some q ∧ x = z_cell ι mem q := by
  unfold z_ws at h
  rw [List.getElem?_map] at h
  cases hq : (zeK ι)[i]? with
  | none => rw [hq] at h; cases h
  | some q => rw [hq] at h; exact ⟨q, rfl, (Option.some.inj h).symm⟩
theorem zAd.D {ι : zE} {A : Nat → Prop} (h : zAd ι A) (mem : zM) : va_D A (z_ws ι mem) := by
  refine ⟨fun i j x y hx hy e => ?_, fun i x hx => ?_⟩
  · obtain ⟨a, ha, rfl⟩ := z_ws_of hx
    obtain ⟨b, hb, rfl⟩ := z_ws_of hy
    have e2 : a = b := h.2.1 a b (List.mem_of_getElem? ha) (List.mem_of_getElem? hb) e
    subst e2
    exact (List.getElem?_inj (List.getElem?_eq_some_iff.mp ha).1 h.1).mp (ha.trans hb.symm)
  · obtain ⟨a, ha, rfl⟩ := z_ws_of hx
    exact h.2.2 a (List.mem_of_getElem? ha)
theorem zAd.weak {ι : zE} {A B : Nat → Prop} (h : zAd ι A) (hAB : ∀ a : zR, a ∈ zeK ι → B (zeR ι a.1 a.2)) : zAd ι B := ⟨h.1, h.2.1, hAB⟩
theorem zA_of {ι : zE} {mem : zM} {sz q : Nat} {A : Nat → Prop} (hA : zAd ι A) (hz : ∀ q, sz ≤ q → A q) (h : va_A (z_ws ι mem) sz q) : A q := by
  rcases h with ⟨k, e, h⟩ | h
  · obtain ⟨a, ha, hx⟩ := z_ws_of h
    have h2 := hA.2.2 a (List.mem_of_getElem? ha)
    have h3 : q = zeR ι a.1 a.2 := congrArg Prod.fst hx
    rw [h3]; exact h2
  · exact hz q h
theorem zA_in {ι : zE} {mem : zM} {sz : Nat} {a : zR} (ha : a ∈ zeK ι) : va_A (z_ws ι mem) sz (zeR ι a.1 a.2) := by
  obtain ⟨i, hi⟩ := List.getElem?_of_mem ha
  exact Or.inl ⟨i, _, z_ws_at hi⟩
theorem z_stat.step {ι : zE} {A B : Nat → Prop} {u U : State} {H H1 : Heap} (h : z_stat ι A u H) (hq : ∀ a : Nat, a < H.size → ¬ A a → H1[a]? = H[a]?) (hAB : ∀ q, B q → A q) (hvm : u.vm.Alike U.vm) : z_stat ι B U H1 := fun p h1 h2 => ⟨(((h p h1 h2).1.kept hq).narrow hAB).moved hvm, (((h p h1 h2).2.kept hq).narrow hAB).moved hvm⟩
/-- the locals with which a method begins -/
def z_ent : List zV → List (Option zV)
  | [] => []
  | .inr (.inl x) :: r => some (zJ x) :: none :: z_ent r
  | v :: r => some v :: z_ent r
def z_ent0 (n : Nat) (av : List zV) : List (Option zV) := z_ent av ++ List.replicate (n - (z_ent av).length) none
theorem z_ent_len (r : Nat → Nat → Nat) : ∀ av : List zV, (lg_sl (av.map (z_tv r))).length = (z_ent av).length
  | [] => rfl
  | .inl x :: t => by
    have h := z_ent_len r t
    simp only [lg_sl, List.map_cons, List.flatMap_cons, List.length_append, z_ent, List.length_cons] at h ⊢
    rw [← h]
    show 1 + _ = _
    omega
  | .inr (.inl x) :: t => by
    have h := z_ent_len r t
    simp only [lg_sl, List.map_cons, List.flatMap_cons, List.length_append, z_ent, List.length_cons] at h ⊢
    rw [← h]
    show 2 + _ = _
    omega
  | .inr (.inr x) :: t => by
    have h := z_ent_len r t
    simp only [lg_sl, List.map_cons, List.flatMap_cons, List.length_append, z_ent, List.length_cons] at h ⊢
    rw [← h]
    show 1 + _ = _
    omega
theorem z_ent_in (r : Nat → Nat → Nat) : ∀ (av : List zV) (b i : Nat) (u : zV), (z_ent av)[i]? = some (some u) → (b + i, z_tv r u) ∈ lv_args b (av.map (z_tv r))
  | [], b, i, u, h => by simp [z_ent] at h
  | .inl x :: t, b, 0, u, h => by
    cases h
    exact List.mem_cons_self
  | .inl x :: t, b, i + 1, u, h => by
    have h2 := z_ent_in r t (b + 1) i u h
    rw [show b + (i + 1) = b + 1 + i by omega]
    exact List.mem_cons_of_mem _ h2
  | .inr (.inr x) :: t, b, 0, u, h => by
    cases h
    exact List.mem_cons_self
  | .inr (.inr x) :: t, b, i + 1, u, h => by
    have h2 := z_ent_in r t (b + 1) i u h
    rw [show b + (i + 1) = b + 1 + i by omega]
    exact List.mem_cons_of_mem _ h2
  | .inr (.inl x) :: t, b, 0, u, h => by
    cases h
    exact List.mem_cons_self
  | .inr (.inl x) :: t, b, 1, u, h => by cases h
  | .inr (.inl x) :: t, b, i + 2, u, h => by
    have h2 := z_ent_in r t (b + 2) i u h
    rw [show b + (i + 2) = b + 2 + i by omega]
    exact List.mem_cons_of_mem _ h2
theorem z_ent_has {r : Nat → Nat → Nat} {av : List zV} {n : Nat} (h : (z_ent av).length ≤ n) : lv_has ((lg_sl (av.map (z_tv r)) ++ List.replicate (n - (lg_sl (av.map (z_tv r))).length) Slot.unset).toArray) n (z_lv r (z_ent0 n av)) := by
  have h0 := lv_entry (av.map (z_tv r)) (n := n) (by rw [z_ent_len]; exact h)
  refine ⟨h0.1, h0.2.1, fun q hq => h0.2.2 q ?_⟩
  obtain ⟨i, v⟩ := q
  obtain ⟨u, h1, rfl⟩ := z_lv_mem.mp hq
  have h2 : (z_ent av)[i]? = some (some u) := by
    unfold z_ent0 at h1
    by_cases hi : i < (z_ent av).length
    · rw [List.getElem?_append_left hi] at h1; exact h1
    · rw [List.getElem?_append_right (by omega), List.getElem?_replicate] at h1
      split at h1 <;> cases h1
  have h3 := z_ent_in r av 0 i u h2
  rwa [Nat.zero_add] at h3
/-- a contract out of its body -/
theorem z_enter {l : Launch} {ι : zE} {M : zMR} {n : Nat} {av : List zV} {mem : zM} {Post : Option zV → zM → Prop} {ps : List Nat} (hH : zHas ι ps) (hpl : plainName M.1.cls = true) (hle : (z_ent av).length ≤ M.2.2.1)
    (body : ∀ X : zX, X.2.1 = l → zG ι M X n ps → zRt ι X Post → zW ι M X 0 (z_ent0 M.2.2.1 av) [] mem) : zC l ι M n av mem Post := by
  intro sz
  refine Met.ofW (cc := M.2.1) (maxL := M.2.2.1) (ret := M.2.2.2) hpl rfl ?_
  intro p e s m args below meth c s₁ B hml hv
  obtain ⟨rfl, hsz, hP, hK, hAd, hSt⟩ := hv
  have hts := atoms_spec (ws := .code M.1 M.2.1 M.2.2.1 M.2.2.2 :: zTS) B.pre
  subst hsz
  have hb := body (p, l, e, zrm n, s, m, ((av.map (z_tv (zeR ι))).toArray), below, meth, c, va_A (z_ws ι mem) s.heap.size, 0, 0, MQ below (zQ ι Post (va_A (z_ws ι mem) s.heap.size)) ((av.map (z_tv (zeR ι))).toArray) s 0 0 (va_A (z_ws ι mem) s.heap.size)) rfl
    ⟨B.exec, B.bytes, hml, findClass_of_methodNamed B.named, fun w hw => hts w (List.mem_cons_of_mem _ hw), B.returns, B.notSynchronized, hK, hAd.weak (fun a ha => zA_in ha), fun q h => Or.inr h, hSt, Nat.le_refl _, Nat.le_refl _, Nat.le_refl _, Nat.le_refl _, hH⟩ ⟨rfl, rfl, rfl⟩
  rw [lg_entry_eq]
  exact hb s.heap [] _ hP va_S.rf (z_ent_has hle)
/-- fewer locals known -/
theorem z_fewer {ι : zE} {M : zMR} {X : zX} {pc : Nat} {lv lv' : List (Option zV)} {st : List zV} {mem : zM} (h : ∀ (i : Nat) (u : zV), lv'[i]? = some (some u) → lv[i]? = some (some u)) (k : zW ι M X pc lv' st mem) : zW ι M X pc lv st mem := by
  obtain ⟨p, l, e, R, s, m, args, below, meth, c, A, cells, slots, Q⟩ := X
  intro H locs ls hP hS hl
  refine k H locs ls hP hS ⟨hl.1, hl.2.1, fun q hq => hl.2.2 q ?_⟩
  obtain ⟨i, v⟩ := q
  obtain ⟨u, h1, rfl⟩ := z_lv_mem.mp hq
  exact z_lv_mem.mpr ⟨u, h i u h1, rfl⟩
end
section
section ZR
variable {ι : zE} {M : zMR} {X : zX} {n : Nat} {ps : List Nat} {pc npc : Nat} {lv : List (Option zV)} {st : List zV} {mem : zM}
theorem z_iconst {v : Int32} {j : Int} (hX : zG ι M X n ps) (hd : zD M.2.1 pc (.iconst j) 1 npc) (hv : Int32.ofInt j = v) (k : zW ι M X npc lv (zI v :: st) mem) : zW ι M X pc lv (st) mem := by
  obtain ⟨p, l, e, R, s, m, args, below, meth, c, A, cells, slots, Q⟩ := X
  obtain ⟨hd, rfl⟩ := hd
  intro H locs ls hP hS hl
  exact lv_iconst hX.1 hX.2.1 hd hv (k H locs ls hP hS hl)
theorem z_bipush {v : Int32} {j : Int} (hX : zG ι M X n ps) (hd : zD M.2.1 pc (.bipush j) 2 npc) (hv : (Int8.ofInt j).toInt32 = v) (k : zW ι M X npc lv (zI v :: st) mem) : zW ι M X pc lv (st) mem := by
  obtain ⟨p, l, e, R, s, m, args, below, meth, c, A, cells, slots, Q⟩ := X
  obtain ⟨hd, rfl⟩ := hd
  intro H locs ls hP hS hl
  exact lv_bipush hX.1 hX.2.1 hd hv (k H locs ls hP hS hl)
theorem z_sipush {v : Int32} {j : Int} (hX : zG ι M X n ps) (hd : zD M.2.1 pc (.sipush j) 3 npc) (hv : (Int16.ofInt j).toInt32 = v) (k : zW ι M X npc lv (zI v :: st) mem) : zW ι M X pc lv (st) mem := by
  obtain ⟨p, l, e, R, s, m, args, below, meth, c, A, cells, slots, Q⟩ := X
  obtain ⟨hd, rfl⟩ := hd
  intro H locs ls hP hS hl
  exact lv_sipush hX.1 hX.2.1 hd hv (k H locs ls hP hS hl)
theorem z_lconst {v : Int64} {j : Fin 2} (hX : zG ι M X n ps) (hd : zD M.2.1 pc (.lconst j) 1 npc) (hv : Int64.ofNat (j : Nat) = v) (k : zW ι M X npc lv (zJ v :: st) mem) : zW ι M X pc lv (st) mem := by
  obtain ⟨p, l, e, R, s, m, args, below, meth, c, A, cells, slots, Q⟩ := X
  obtain ⟨hd, rfl⟩ := hd
  intro H locs ls hP hS hl
  exact lv_lconst hX.1 hX.2.1 hd hv (k H locs ls hP hS hl)
theorem z_ldc {v : Int32} {j : Nat} (hX : zG ι M X n ps) (hd : zD M.2.1 pc (.ldc j) 2 npc) (hv : Cond.constant M.1.cls j v ∈ zTS) (k : zW ι M X npc lv (zI v :: st) mem) : zW ι M X pc lv (st) mem := by
  obtain ⟨p, l, e, R, s, m, args, below, meth, c, A, cells, slots, Q⟩ := X
  obtain ⟨hd, rfl⟩ := hd
  intro H locs ls hP hS hl
  exact lv_ldc hX.1 hX.2.1 hX.2.2.2.1 (hX.2.2.2.2.1 _ hv) hd (k H locs ls hP hS hl)
theorem z_ldcw {v : Int32} {j : Nat} (hX : zG ι M X n ps) (hd : zD M.2.1 pc (.ldc_w j) 3 npc) (hv : Cond.constant M.1.cls j v ∈ zTS) (k : zW ι M X npc lv (zI v :: st) mem) : zW ι M X pc lv (st) mem := by
  obtain ⟨p, l, e, R, s, m, args, below, meth, c, A, cells, slots, Q⟩ := X
  obtain ⟨hd, rfl⟩ := hd
  intro H locs ls hP hS hl
  exact lv_ldcw hX.1 hX.2.1 hX.2.2.2.1 (hX.2.2.2.2.1 _ hv) hd (k H locs ls hP hS hl)
theorem z_ldc2 {v : Int64} {j : Nat} (hX : zG ι M X n ps) (hd : zD M.2.1 pc (.ldc2_w j) 3 npc) (hv : Cond.constantLong M.1.cls j v ∈ zTS) (k : zW ι M X npc lv (zJ v :: st) mem) : zW ι M X pc lv (st) mem := by
  obtain ⟨p, l, e, R, s, m, args, below, meth, c, A, cells, slots, Q⟩ := X
  obtain ⟨hd, rfl⟩ := hd
  intro H locs ls hP hS hl
  exact lv_ldc2 hX.1 hX.2.1 hX.2.2.2.1 (hX.2.2.2.2.1 _ hv) hd (k H locs ls hP hS hl)
theorem z_iload_n {x : Int32} {j : Fin 4} (hX : zG ι M X n ps) (hd : zD M.2.1 pc (.iload_n j) 1 npc) (hv : lv[(j : Nat)]? = some (some (zI x))) (k : zW ι M X npc lv (zI x :: st) mem) : zW ι M X pc lv (st) mem := by
  obtain ⟨p, l, e, R, s, m, args, below, meth, c, A, cells, slots, Q⟩ := X
  obtain ⟨hd, rfl⟩ := hd
  intro H locs ls hP hS hl
  exact lv_iload_n hX.1 hX.2.1 hd rfl (z_lget hl hv) (k H locs ls hP hS hl)
theorem z_iload {x : Int32} {j : Nat} (hX : zG ι M X n ps) (hd : zD M.2.1 pc (.iload j) 2 npc) (hv : lv[j]? = some (some (zI x))) (k : zW ι M X npc lv (zI x :: st) mem) : zW ι M X pc lv (st) mem := by
  obtain ⟨p, l, e, R, s, m, args, below, meth, c, A, cells, slots, Q⟩ := X
  obtain ⟨hd, rfl⟩ := hd
  intro H locs ls hP hS hl
  exact lv_iload hX.1 hX.2.1 hd (z_lget hl hv) (k H locs ls hP hS hl)
theorem z_lload_n {x : Int64} {j : Fin 4} (hX : zG ι M X n ps) (hd : zD M.2.1 pc (.lload_n j) 1 npc) (hv : lv[(j : Nat)]? = some (some (zJ x))) (k : zW ι M X npc lv (zJ x :: st) mem) : zW ι M X pc lv (st) mem := by
  obtain ⟨p, l, e, R, s, m, args, below, meth, c, A, cells, slots, Q⟩ := X
  obtain ⟨hd, rfl⟩ := hd
  intro H locs ls hP hS hl
  exact lv_lload_n hX.1 hX.2.1 hd rfl (z_lget hl hv) (k H locs ls hP hS hl)
theorem z_lload {x : Int64} {j : Nat} (hX : zG ι M X n ps) (hd : zD M.2.1 pc (.lload j) 2 npc) (hv : lv[j]? = some (some (zJ x))) (k : zW ι M X npc lv (zJ x :: st) mem) : zW ι M X pc lv (st) mem := by
  obtain ⟨p, l, e, R, s, m, args, below, meth, c, A, cells, slots, Q⟩ := X
  obtain ⟨hd, rfl⟩ := hd
  intro H locs ls hP hS hl
  exact lv_lload hX.1 hX.2.1 hd (z_lget hl hv) (k H locs ls hP hS hl)
theorem z_aload_n {q i : Nat} {j : Fin 4} (hX : zG ι M X n ps) (hd : zD M.2.1 pc (.aload_n j) 1 npc) (hv : lv[(j : Nat)]? = some (some (zP q i))) (k : zW ι M X npc lv (zP q i :: st) mem) : zW ι M X pc lv (st) mem := by
  obtain ⟨p, l, e, R, s, m, args, below, meth, c, A, cells, slots, Q⟩ := X
  obtain ⟨hd, rfl⟩ := hd
  intro H locs ls hP hS hl
  exact lv_aload_n hX.1 hX.2.1 hd rfl (z_lget hl hv) (k H locs ls hP hS hl)
theorem z_aload {q i : Nat} {j : Nat} (hX : zG ι M X n ps) (hd : zD M.2.1 pc (.aload j) 2 npc) (hv : lv[j]? = some (some (zP q i))) (k : zW ι M X npc lv (zP q i :: st) mem) : zW ι M X pc lv (st) mem := by
  obtain ⟨p, l, e, R, s, m, args, below, meth, c, A, cells, slots, Q⟩ := X
  obtain ⟨hd, rfl⟩ := hd
  intro H locs ls hP hS hl
  exact lv_aload hX.1 hX.2.1 hd (z_lget hl hv) (k H locs ls hP hS hl)
theorem z_istore_n {x : Int32} {j : Fin 4} (hX : zG ι M X n ps) (hd : zD M.2.1 pc (.istore_n j) 1 npc) (hn : (j : Nat) < M.2.2.1) (hj : z_isJ (lv[(j : Nat) - 1]?) = false) (k : zW ι M X npc (lv.set (j : Nat) (some (zI x))) (st) mem) : zW ι M X pc lv (zI x :: st) mem := by
  obtain ⟨p, l, e, R, s, m, args, below, meth, c, A, cells, slots, Q⟩ := X
  obtain ⟨hd, rfl⟩ := hd
  intro H locs ls hP hS hl
  exact lv_istore_n hX.1 hX.2.1 hd rfl hl hn rfl (fun ls2 hl2 => k H locs ls2 hP hS (z_st1 (u := zI x) hj hl2))
theorem z_istore {x : Int32} {j : Nat} (hX : zG ι M X n ps) (hd : zD M.2.1 pc (.istore j) 2 npc) (hn : j < M.2.2.1) (hj : z_isJ (lv[j - 1]?) = false) (k : zW ι M X npc (lv.set j (some (zI x))) (st) mem) : zW ι M X pc lv (zI x :: st) mem := by
  obtain ⟨p, l, e, R, s, m, args, below, meth, c, A, cells, slots, Q⟩ := X
  obtain ⟨hd, rfl⟩ := hd
  intro H locs ls hP hS hl
  exact lv_istore hX.1 hX.2.1 hd hl hn rfl (fun ls2 hl2 => k H locs ls2 hP hS (z_st1 (u := zI x) hj hl2))
theorem z_astore_n {q i : Nat} {j : Fin 4} (hX : zG ι M X n ps) (hd : zD M.2.1 pc (.astore_n j) 1 npc) (hn : (j : Nat) < M.2.2.1) (hj : z_isJ (lv[(j : Nat) - 1]?) = false) (k : zW ι M X npc (lv.set (j : Nat) (some (zP q i))) (st) mem) : zW ι M X pc lv (zP q i :: st) mem := by
  obtain ⟨p, l, e, R, s, m, args, below, meth, c, A, cells, slots, Q⟩ := X
  obtain ⟨hd, rfl⟩ := hd
  intro H locs ls hP hS hl
  exact lv_astore_n hX.1 hX.2.1 hd rfl hl hn rfl (fun ls2 hl2 => k H locs ls2 hP hS (z_st1 (u := zP q i) hj hl2))
theorem z_astore {q i : Nat} {j : Nat} (hX : zG ι M X n ps) (hd : zD M.2.1 pc (.astore j) 2 npc) (hn : j < M.2.2.1) (hj : z_isJ (lv[j - 1]?) = false) (k : zW ι M X npc (lv.set j (some (zP q i))) (st) mem) : zW ι M X pc lv (zP q i :: st) mem := by
  obtain ⟨p, l, e, R, s, m, args, below, meth, c, A, cells, slots, Q⟩ := X
  obtain ⟨hd, rfl⟩ := hd
  intro H locs ls hP hS hl
  exact lv_astore hX.1 hX.2.1 hd hl hn rfl (fun ls2 hl2 => k H locs ls2 hP hS (z_st1 (u := zP q i) hj hl2))
theorem z_lstore_n {x : Int64} {j : Fin 4} (hX : zG ι M X n ps) (hd : zD M.2.1 pc (.lstore_n j) 1 npc) (hn : (j : Nat) + 1 < M.2.2.1) (hj : z_isJ (lv[(j : Nat) - 1]?) = false) (k : zW ι M X npc ((lv.set ((j : Nat) + 1) none).set (j : Nat) (some (zJ x))) (st) mem) : zW ι M X pc lv (zJ x :: st) mem := by
  obtain ⟨p, l, e, R, s, m, args, below, meth, c, A, cells, slots, Q⟩ := X
  obtain ⟨hd, rfl⟩ := hd
  intro H locs ls hP hS hl
  exact lv_lstore_n hX.1 hX.2.1 hd rfl hl hn rfl (fun ls2 hl2 => k H locs ls2 hP hS (z_st2 (u := zJ x) hj hl2))
theorem z_lstore {x : Int64} {j : Nat} (hX : zG ι M X n ps) (hd : zD M.2.1 pc (.lstore j) 2 npc) (hn : j + 1 < M.2.2.1) (hj : z_isJ (lv[j - 1]?) = false) (k : zW ι M X npc ((lv.set (j + 1) none).set j (some (zJ x))) (st) mem) : zW ι M X pc lv (zJ x :: st) mem := by
  obtain ⟨p, l, e, R, s, m, args, below, meth, c, A, cells, slots, Q⟩ := X
  obtain ⟨hd, rfl⟩ := hd
  intro H locs ls hP hS hl
  exact lv_lstore hX.1 hX.2.1 hd hl hn rfl (fun ls2 hl2 => k H locs ls2 hP hS (z_st2 (u := zJ x) hj hl2))
theorem z_iinc {x v : Int32} {j : Nat} {d : Int} (hX : zG ι M X n ps) (hd : zD M.2.1 pc (.iinc j d) 3 npc) (hx : lv[j]? = some (some (zI x))) (hv : x + Int32.ofInt d = v) (hn : j < M.2.2.1) (hj : z_isJ (lv[j - 1]?) = false) (k : zW ι M X npc (lv.set j (some (zI v))) st mem) : zW ι M X pc lv st mem := by
  obtain ⟨p, l, e, R, s, m, args, below, meth, c, A, cells, slots, Q⟩ := X
  obtain ⟨hd, rfl⟩ := hd
  intro H locs ls hP hS hl
  obtain ⟨i, hi⟩ := List.getElem?_of_mem (z_lv_mem (r := zeR ι) (lv := lv) (i := j) (v := .int x) |>.mpr ⟨zI x, hx, rfl⟩)
  exact lv_iinc hX.1 hX.2.1 hd hl hi hv hn rfl (fun ls2 hl2 => k H locs ls2 hP hS (z_st1 (u := zI v) hj hl2))
theorem z_iadd {x y : Int32} (hX : zG ι M X n ps) (hd : zD M.2.1 pc (.iadd) 1 npc) (k : zW ι M X npc lv (zI (x + y) :: st) mem) : zW ι M X pc lv (zI y :: zI x :: st) mem := by
  obtain ⟨p, l, e, R, s, m, args, below, meth, c, A, cells, slots, Q⟩ := X
  obtain ⟨hd, rfl⟩ := hd
  intro H locs ls hP hS hl
  exact lv_iadd hX.1 hX.2.1 hd (k H locs ls hP hS hl)
theorem z_isub {x y : Int32} (hX : zG ι M X n ps) (hd : zD M.2.1 pc (.isub) 1 npc) (k : zW ι M X npc lv (zI (x - y) :: st) mem) : zW ι M X pc lv (zI y :: zI x :: st) mem := by
  obtain ⟨p, l, e, R, s, m, args, below, meth, c, A, cells, slots, Q⟩ := X
  obtain ⟨hd, rfl⟩ := hd
  intro H locs ls hP hS hl
  exact lv_isub hX.1 hX.2.1 hd (k H locs ls hP hS hl)
theorem z_imul {x y : Int32} (hX : zG ι M X n ps) (hd : zD M.2.1 pc (.imul) 1 npc) (k : zW ι M X npc lv (zI (x * y) :: st) mem) : zW ι M X pc lv (zI y :: zI x :: st) mem := by
  obtain ⟨p, l, e, R, s, m, args, below, meth, c, A, cells, slots, Q⟩ := X
  obtain ⟨hd, rfl⟩ := hd
  intro H locs ls hP hS hl
  exact lv_imul hX.1 hX.2.1 hd (k H locs ls hP hS hl)
theorem z_iand {x y : Int32} (hX : zG ι M X n ps) (hd : zD M.2.1 pc (.iand) 1 npc) (k : zW ι M X npc lv (zI (x &&& y) :: st) mem) : zW ι M X pc lv (zI y :: zI x :: st) mem := by
  obtain ⟨p, l, e, R, s, m, args, below, meth, c, A, cells, slots, Q⟩ := X
  obtain ⟨hd, rfl⟩ := hd
  intro H locs ls hP hS hl
  exact lv_iand hX.1 hX.2.1 hd (k H locs ls hP hS hl)
theorem z_ior {x y : Int32} (hX : zG ι M X n ps) (hd : zD M.2.1 pc (.ior) 1 npc) (k : zW ι M X npc lv (zI (x ||| y) :: st) mem) : zW ι M X pc lv (zI y :: zI x :: st) mem := by
  obtain ⟨p, l, e, R, s, m, args, below, meth, c, A, cells, slots, Q⟩ := X
  obtain ⟨hd, rfl⟩ := hd
  intro H locs ls hP hS hl
  exact lv_ior hX.1 hX.2.1 hd (k H locs ls hP hS hl)
theorem z_ixor {x y : Int32} (hX : zG ι M X n ps) (hd : zD M.2.1 pc (.ixor) 1 npc) (k : zW ι M X npc lv (zI (x ^^^ y) :: st) mem) : zW ι M X pc lv (zI y :: zI x :: st) mem := by
  obtain ⟨p, l, e, R, s, m, args, below, meth, c, A, cells, slots, Q⟩ := X
  obtain ⟨hd, rfl⟩ := hd
  intro H locs ls hP hS hl
  exact lv_ixor hX.1 hX.2.1 hd (k H locs ls hP hS hl)
theorem z_ishl {x y : Int32} (hX : zG ι M X n ps) (hd : zD M.2.1 pc (.ishl) 1 npc) (k : zW ι M X npc lv (zI (x <<< (y &&& 31)) :: st) mem) : zW ι M X pc lv (zI y :: zI x :: st) mem := by
  obtain ⟨p, l, e, R, s, m, args, below, meth, c, A, cells, slots, Q⟩ := X
  obtain ⟨hd, rfl⟩ := hd
  intro H locs ls hP hS hl
  exact lv_ishl hX.1 hX.2.1 hd (k H locs ls hP hS hl)
theorem z_ishr {x y : Int32} (hX : zG ι M X n ps) (hd : zD M.2.1 pc (.ishr) 1 npc) (k : zW ι M X npc lv (zI (x >>> (y &&& 31)) :: st) mem) : zW ι M X pc lv (zI y :: zI x :: st) mem := by
  obtain ⟨p, l, e, R, s, m, args, below, meth, c, A, cells, slots, Q⟩ := X
  obtain ⟨hd, rfl⟩ := hd
  intro H locs ls hP hS hl
  exact lv_ishr hX.1 hX.2.1 hd (k H locs ls hP hS hl)
theorem z_idiv {x y : Int32} (hX : zG ι M X n ps) (hd : zD M.2.1 pc (.idiv) 1 npc) (hy : ¬ y = 0) (k : zW ι M X npc lv (zI (x / y) :: st) mem) : zW ι M X pc lv (zI y :: zI x :: st) mem := by
  obtain ⟨p, l, e, R, s, m, args, below, meth, c, A, cells, slots, Q⟩ := X
  obtain ⟨hd, rfl⟩ := hd
  intro H locs ls hP hS hl
  exact lv_idiv hX.1 hX.2.1 hd hy (k H locs ls hP hS hl)
theorem z_irem {x y : Int32} (hX : zG ι M X n ps) (hd : zD M.2.1 pc (.irem) 1 npc) (hy : ¬ y = 0) (k : zW ι M X npc lv (zI (x - x / y * y) :: st) mem) : zW ι M X pc lv (zI y :: zI x :: st) mem := by
  obtain ⟨p, l, e, R, s, m, args, below, meth, c, A, cells, slots, Q⟩ := X
  obtain ⟨hd, rfl⟩ := hd
  intro H locs ls hP hS hl
  exact lv_irem hX.1 hX.2.1 hd hy (k H locs ls hP hS hl)
theorem z_iushr {x y : Int32} (hX : zG ι M X n ps) (hd : zD M.2.1 pc (.iushr) 1 npc) (k : zW ι M X npc lv (zI ((x.toUInt32 >>> (y.toUInt32 &&& Int32.toUInt32 31)).toInt32) :: st) mem) : zW ι M X pc lv (zI y :: zI x :: st) mem := by
  obtain ⟨p, l, e, R, s, m, args, below, meth, c, A, cells, slots, Q⟩ := X
  obtain ⟨hd, rfl⟩ := hd
  intro H locs ls hP hS hl
  exact lv_iushr hX.1 hX.2.1 hd rfl (k H locs ls hP hS hl)
theorem z_ineg {x : Int32} (hX : zG ι M X n ps) (hd : zD M.2.1 pc (.ineg) 1 npc) (k : zW ι M X npc lv (zI (-x) :: st) mem) : zW ι M X pc lv (zI x :: st) mem := by
  obtain ⟨p, l, e, R, s, m, args, below, meth, c, A, cells, slots, Q⟩ := X
  obtain ⟨hd, rfl⟩ := hd
  intro H locs ls hP hS hl
  exact lv_ineg hX.1 hX.2.1 hd (k H locs ls hP hS hl)
theorem z_ladd {x y : Int64} (hX : zG ι M X n ps) (hd : zD M.2.1 pc (.ladd) 1 npc) (k : zW ι M X npc lv (zJ (x + y) :: st) mem) : zW ι M X pc lv (zJ y :: zJ x :: st) mem := by
  obtain ⟨p, l, e, R, s, m, args, below, meth, c, A, cells, slots, Q⟩ := X
  obtain ⟨hd, rfl⟩ := hd
  intro H locs ls hP hS hl
  exact lv_ladd hX.1 hX.2.1 hd (k H locs ls hP hS hl)
theorem z_lmul {x y : Int64} (hX : zG ι M X n ps) (hd : zD M.2.1 pc (.lmul) 1 npc) (k : zW ι M X npc lv (zJ (x * y) :: st) mem) : zW ι M X pc lv (zJ y :: zJ x :: st) mem := by
  obtain ⟨p, l, e, R, s, m, args, below, meth, c, A, cells, slots, Q⟩ := X
  obtain ⟨hd, rfl⟩ := hd
  intro H locs ls hP hS hl
  exact lv_lmul hX.1 hX.2.1 hd (k H locs ls hP hS hl)
theorem z_land {x y : Int64} (hX : zG ι M X n ps) (hd : zD M.2.1 pc (.land) 1 npc) (k : zW ι M X npc lv (zJ (x &&& y) :: st) mem) : zW ι M X pc lv (zJ y :: zJ x :: st) mem := by
  obtain ⟨p, l, e, R, s, m, args, below, meth, c, A, cells, slots, Q⟩ := X
  obtain ⟨hd, rfl⟩ := hd
  intro H locs ls hP hS hl
  exact lv_land hX.1 hX.2.1 hd (k H locs ls hP hS hl)
theorem z_lor {x y : Int64} (hX : zG ι M X n ps) (hd : zD M.2.1 pc (.lor) 1 npc) (k : zW ι M X npc lv (zJ (x ||| y) :: st) mem) : zW ι M X pc lv (zJ y :: zJ x :: st) mem := by
  obtain ⟨p, l, e, R, s, m, args, below, meth, c, A, cells, slots, Q⟩ := X
  obtain ⟨hd, rfl⟩ := hd
  intro H locs ls hP hS hl
  exact lv_lor hX.1 hX.2.1 hd (k H locs ls hP hS hl)
theorem z_ldiv {x y : Int64} (hX : zG ι M X n ps) (hd : zD M.2.1 pc (.ldiv) 1 npc) (hy : ¬ y = 0) (k : zW ι M X npc lv (zJ (x / y) :: st) mem) : zW ι M X pc lv (zJ y :: zJ x :: st) mem := by
  obtain ⟨p, l, e, R, s, m, args, below, meth, c, A, cells, slots, Q⟩ := X
  obtain ⟨hd, rfl⟩ := hd
  intro H locs ls hP hS hl
  exact lv_ldiv hX.1 hX.2.1 hd hy (k H locs ls hP hS hl)
theorem z_lshl {x : Int64} {y : Int32} (hX : zG ι M X n ps) (hd : zD M.2.1 pc (.lshl) 1 npc) (k : zW ι M X npc lv (zJ (x <<< (y.toInt64 &&& 63)) :: st) mem) : zW ι M X pc lv (zI y :: zJ x :: st) mem := by
  obtain ⟨p, l, e, R, s, m, args, below, meth, c, A, cells, slots, Q⟩ := X
  obtain ⟨hd, rfl⟩ := hd
  intro H locs ls hP hS hl
  exact lv_lshl hX.1 hX.2.1 hd rfl (k H locs ls hP hS hl)
theorem z_lcmp {x y : Int64} (hX : zG ι M X n ps) (hd : zD M.2.1 pc (.lcmp) 1 npc) (k : zW ι M X npc lv (zI (lg_cmp x y) :: st) mem) : zW ι M X pc lv (zJ y :: zJ x :: st) mem := by
  obtain ⟨p, l, e, R, s, m, args, below, meth, c, A, cells, slots, Q⟩ := X
  obtain ⟨hd, rfl⟩ := hd
  intro H locs ls hP hS hl
  exact W.lcmp hX.1 hX.2.1 hd (k H locs ls hP hS hl)
theorem z_i2l {x : Int32} (hX : zG ι M X n ps) (hd : zD M.2.1 pc (.i2l) 1 npc) (k : zW ι M X npc lv (zJ x.toInt64 :: st) mem) : zW ι M X pc lv (zI x :: st) mem := by
  obtain ⟨p, l, e, R, s, m, args, below, meth, c, A, cells, slots, Q⟩ := X
  obtain ⟨hd, rfl⟩ := hd
  intro H locs ls hP hS hl
  exact lv_i2l hX.1 hX.2.1 hd rfl (k H locs ls hP hS hl)
theorem z_l2i {x : Int64} (hX : zG ι M X n ps) (hd : zD M.2.1 pc (.l2i) 1 npc) (k : zW ι M X npc lv (zI x.toInt32 :: st) mem) : zW ι M X pc lv (zJ x :: st) mem := by
  obtain ⟨p, l, e, R, s, m, args, below, meth, c, A, cells, slots, Q⟩ := X
  obtain ⟨hd, rfl⟩ := hd
  intro H locs ls hP hS hl
  exact lv_l2i hX.1 hX.2.1 hd rfl (k H locs ls hP hS hl)
theorem z_i2b {x : Int32} (hX : zG ι M X n ps) (hd : zD M.2.1 pc (.i2b) 1 npc) (k : zW ι M X npc lv (zI x.toInt8.toInt32 :: st) mem) : zW ι M X pc lv (zI x :: st) mem := by
  obtain ⟨p, l, e, R, s, m, args, below, meth, c, A, cells, slots, Q⟩ := X
  obtain ⟨hd, rfl⟩ := hd
  intro H locs ls hP hS hl
  exact lv_i2b hX.1 hX.2.1 hd rfl (k H locs ls hP hS hl)
theorem z_i2s {x : Int32} (hX : zG ι M X n ps) (hd : zD M.2.1 pc (.i2s) 1 npc) (k : zW ι M X npc lv (zI x.toInt16.toInt32 :: st) mem) : zW ι M X pc lv (zI x :: st) mem := by
  obtain ⟨p, l, e, R, s, m, args, below, meth, c, A, cells, slots, Q⟩ := X
  obtain ⟨hd, rfl⟩ := hd
  intro H locs ls hP hS hl
  exact lv_i2s hX.1 hX.2.1 hd rfl (k H locs ls hP hS hl)
theorem z_dupI {x : Int32} (hX : zG ι M X n ps) (hd : zD M.2.1 pc (.dup) 1 npc) (k : zW ι M X npc lv (zI x :: zI x :: st) mem) : zW ι M X pc lv (zI x :: st) mem := by
  obtain ⟨p, l, e, R, s, m, args, below, meth, c, A, cells, slots, Q⟩ := X
  obtain ⟨hd, rfl⟩ := hd
  intro H locs ls hP hS hl
  exact lv_dup hX.1 hX.2.1 hd rfl (k H locs ls hP hS hl)
theorem z_dupP {q i : Nat} (hX : zG ι M X n ps) (hd : zD M.2.1 pc (.dup) 1 npc) (k : zW ι M X npc lv (zP q i :: zP q i :: st) mem) : zW ι M X pc lv (zP q i :: st) mem := by
  obtain ⟨p, l, e, R, s, m, args, below, meth, c, A, cells, slots, Q⟩ := X
  obtain ⟨hd, rfl⟩ := hd
  intro H locs ls hP hS hl
  exact lv_dup hX.1 hX.2.1 hd rfl (k H locs ls hP hS hl)
theorem z_dup2 {x : Int32} {q i : Nat} (hX : zG ι M X n ps) (hd : zD M.2.1 pc (.dup2) 1 npc) (k : zW ι M X npc lv (zI x :: zP q i :: zI x :: zP q i :: st) mem) : zW ι M X pc lv (zI x :: zP q i :: st) mem := by
  obtain ⟨p, l, e, R, s, m, args, below, meth, c, A, cells, slots, Q⟩ := X
  obtain ⟨hd, rfl⟩ := hd
  intro H locs ls hP hS hl
  exact lv_dup2_11 hX.1 hX.2.1 hd rfl rfl (k H locs ls hP hS hl)
theorem z_if_eq {x : Int32} {off : Int} {tgt : Nat} (hX : zG ι M X n ps) (hd : zD M.2.1 pc (.ifCond .eq off) 3 npc) (ht : (pc : Int) + off = (tgt : Int)) (kt : x = 0 → zW ι M X tgt lv st mem) (kf : ¬ x = 0 → zW ι M X npc lv st mem) : zW ι M X pc lv (zI x :: st) mem := by
  obtain ⟨p, l, e, R, s, m, args, below, meth, c, A, cells, slots, Q⟩ := X
  obtain ⟨hd, rfl⟩ := hd
  intro H locs ls hP hS hl
  exact lv_if_eq hX.1 hX.2.1 hd ht (fun h => kt h H locs ls hP hS hl) (fun h => kf h H locs ls hP hS hl)
theorem z_if_ne {x : Int32} {off : Int} {tgt : Nat} (hX : zG ι M X n ps) (hd : zD M.2.1 pc (.ifCond .ne off) 3 npc) (ht : (pc : Int) + off = (tgt : Int)) (kt : ¬ x = 0 → zW ι M X tgt lv st mem) (kf : x = 0 → zW ι M X npc lv st mem) : zW ι M X pc lv (zI x :: st) mem := by
  obtain ⟨p, l, e, R, s, m, args, below, meth, c, A, cells, slots, Q⟩ := X
  obtain ⟨hd, rfl⟩ := hd
  intro H locs ls hP hS hl
  exact lv_if_ne hX.1 hX.2.1 hd ht (fun h => kt h H locs ls hP hS hl) (fun h => kf h H locs ls hP hS hl)
theorem z_if_lt {x : Int32} {off : Int} {tgt : Nat} (hX : zG ι M X n ps) (hd : zD M.2.1 pc (.ifCond .lt off) 3 npc) (ht : (pc : Int) + off = (tgt : Int)) (kt : x < 0 → zW ι M X tgt lv st mem) (kf : ¬ x < 0 → zW ι M X npc lv st mem) : zW ι M X pc lv (zI x :: st) mem := by
  obtain ⟨p, l, e, R, s, m, args, below, meth, c, A, cells, slots, Q⟩ := X
  obtain ⟨hd, rfl⟩ := hd
  intro H locs ls hP hS hl
  exact lv_if_lt hX.1 hX.2.1 hd ht (fun h => kt h H locs ls hP hS hl) (fun h => kf h H locs ls hP hS hl)
theorem z_if_ge {x : Int32} {off : Int} {tgt : Nat} (hX : zG ι M X n ps) (hd : zD M.2.1 pc (.ifCond .ge off) 3 npc) (ht : (pc : Int) + off = (tgt : Int)) (kt : 0 ≤ x → zW ι M X tgt lv st mem) (kf : ¬ 0 ≤ x → zW ι M X npc lv st mem) : zW ι M X pc lv (zI x :: st) mem := by
  obtain ⟨p, l, e, R, s, m, args, below, meth, c, A, cells, slots, Q⟩ := X
  obtain ⟨hd, rfl⟩ := hd
  intro H locs ls hP hS hl
  exact lv_if_ge hX.1 hX.2.1 hd ht (fun h => kt h H locs ls hP hS hl) (fun h => kf h H locs ls hP hS hl)
theorem z_if_gt {x : Int32} {off : Int} {tgt : Nat} (hX : zG ι M X n ps) (hd : zD M.2.1 pc (.ifCond .gt off) 3 npc) (ht : (pc : Int) + off = (tgt : Int)) (kt : 0 < x → zW ι M X tgt lv st mem) (kf : ¬ 0 < x → zW ι M X npc lv st mem) : zW ι M X pc lv (zI x :: st) mem := by
  obtain ⟨p, l, e, R, s, m, args, below, meth, c, A, cells, slots, Q⟩ := X
  obtain ⟨hd, rfl⟩ := hd
  intro H locs ls hP hS hl
  exact lv_if_gt hX.1 hX.2.1 hd ht (fun h => kt h H locs ls hP hS hl) (fun h => kf h H locs ls hP hS hl)
theorem z_if_le {x : Int32} {off : Int} {tgt : Nat} (hX : zG ι M X n ps) (hd : zD M.2.1 pc (.ifCond .le off) 3 npc) (ht : (pc : Int) + off = (tgt : Int)) (kt : x ≤ 0 → zW ι M X tgt lv st mem) (kf : ¬ x ≤ 0 → zW ι M X npc lv st mem) : zW ι M X pc lv (zI x :: st) mem := by
  obtain ⟨p, l, e, R, s, m, args, below, meth, c, A, cells, slots, Q⟩ := X
  obtain ⟨hd, rfl⟩ := hd
  intro H locs ls hP hS hl
  exact lv_if_le hX.1 hX.2.1 hd ht (fun h => kt h H locs ls hP hS hl) (fun h => kf h H locs ls hP hS hl)
theorem z_icmp_eq {x y : Int32} {off : Int} {tgt : Nat} (hX : zG ι M X n ps) (hd : zD M.2.1 pc (.if_icmp .eq off) 3 npc) (ht : (pc : Int) + off = (tgt : Int)) (kt : x = y → zW ι M X tgt lv st mem) (kf : ¬ x = y → zW ι M X npc lv st mem) : zW ι M X pc lv (zI y :: zI x :: st) mem := by
  obtain ⟨p, l, e, R, s, m, args, below, meth, c, A, cells, slots, Q⟩ := X
  obtain ⟨hd, rfl⟩ := hd
  intro H locs ls hP hS hl
  exact lv_icmp_eq hX.1 hX.2.1 hd ht (fun h => kt h H locs ls hP hS hl) (fun h => kf h H locs ls hP hS hl)
theorem z_icmp_ne {x y : Int32} {off : Int} {tgt : Nat} (hX : zG ι M X n ps) (hd : zD M.2.1 pc (.if_icmp .ne off) 3 npc) (ht : (pc : Int) + off = (tgt : Int)) (kt : ¬ x = y → zW ι M X tgt lv st mem) (kf : x = y → zW ι M X npc lv st mem) : zW ι M X pc lv (zI y :: zI x :: st) mem := by
  obtain ⟨p, l, e, R, s, m, args, below, meth, c, A, cells, slots, Q⟩ := X
  obtain ⟨hd, rfl⟩ := hd
  intro H locs ls hP hS hl
  exact lv_icmp_ne hX.1 hX.2.1 hd ht (fun h => kt h H locs ls hP hS hl) (fun h => kf h H locs ls hP hS hl)
theorem z_icmp_lt {x y : Int32} {off : Int} {tgt : Nat} (hX : zG ι M X n ps) (hd : zD M.2.1 pc (.if_icmp .lt off) 3 npc) (ht : (pc : Int) + off = (tgt : Int)) (kt : x < y → zW ι M X tgt lv st mem) (kf : ¬ x < y → zW ι M X npc lv st mem) : zW ι M X pc lv (zI y :: zI x :: st) mem := by
  obtain ⟨p, l, e, R, s, m, args, below, meth, c, A, cells, slots, Q⟩ := X
  obtain ⟨hd, rfl⟩ := hd
  intro H locs ls hP hS hl
  exact lv_icmp_lt hX.1 hX.2.1 hd ht (fun h => kt h H locs ls hP hS hl) (fun h => kf h H locs ls hP hS hl)
theorem z_icmp_ge {x y : Int32} {off : Int} {tgt : Nat} (hX : zG ι M X n ps) (hd : zD M.2.1 pc (.if_icmp .ge off) 3 npc) (ht : (pc : Int) + off = (tgt : Int)) (kt : y ≤ x → zW ι M X tgt lv st mem) (kf : ¬ y ≤ x → zW ι M X npc lv st mem) : zW ι M X pc lv (zI y :: zI x :: st) mem := by
  obtain ⟨p, l, e, R, s, m, args, below, meth, c, A, cells, slots, Q⟩ := X
  obtain ⟨hd, rfl⟩ := hd
  intro H locs ls hP hS hl
  exact lv_icmp_ge hX.1 hX.2.1 hd ht (fun h => kt h H locs ls hP hS hl) (fun h => kf h H locs ls hP hS hl)
theorem z_icmp_gt {x y : Int32} {off : Int} {tgt : Nat} (hX : zG ι M X n ps) (hd : zD M.2.1 pc (.if_icmp .gt off) 3 npc) (ht : (pc : Int) + off = (tgt : Int)) (kt : y < x → zW ι M X tgt lv st mem) (kf : ¬ y < x → zW ι M X npc lv st mem) : zW ι M X pc lv (zI y :: zI x :: st) mem := by
  obtain ⟨p, l, e, R, s, m, args, below, meth, c, A, cells, slots, Q⟩ := X
  obtain ⟨hd, rfl⟩ := hd
  intro H locs ls hP hS hl
  exact lv_icmp_gt hX.1 hX.2.1 hd ht (fun h => kt h H locs ls hP hS hl) (fun h => kf h H locs ls hP hS hl)
theorem z_icmp_le {x y : Int32} {off : Int} {tgt : Nat} (hX : zG ι M X n ps) (hd : zD M.2.1 pc (.if_icmp .le off) 3 npc) (ht : (pc : Int) + off = (tgt : Int)) (kt : x ≤ y → zW ι M X tgt lv st mem) (kf : ¬ x ≤ y → zW ι M X npc lv st mem) : zW ι M X pc lv (zI y :: zI x :: st) mem := by
  obtain ⟨p, l, e, R, s, m, args, below, meth, c, A, cells, slots, Q⟩ := X
  obtain ⟨hd, rfl⟩ := hd
  intro H locs ls hP hS hl
  exact lv_icmp_le hX.1 hX.2.1 hd ht (fun h => kt h H locs ls hP hS hl) (fun h => kf h H locs ls hP hS hl)
theorem z_goto {off : Int} {tgt : Nat} (hX : zG ι M X n ps) (hd : zD M.2.1 pc (.goto off) 3 npc) (ht : (pc : Int) + off = (tgt : Int)) (k : zW ι M X tgt lv st mem) : zW ι M X pc lv st mem := by
  obtain ⟨p, l, e, R, s, m, args, below, meth, c, A, cells, slots, Q⟩ := X
  obtain ⟨hd, rfl⟩ := hd
  intro H locs ls hP hS hl
  exact lv_goto hX.1 hX.2.1 hd ht (k H locs ls hP hS hl)
theorem z_lookup {x : Int32} {dflt off : Int} {qs : Array (Int × Int)} {len tgt : Nat} (hX : zG ι M X n ps) (hd : zD M.2.1 pc (.lookupswitch dflt qs) len npc) (hp : (qs.toList.zip (qs.toList.drop 1)).all (fun (a, next) => a.1 < next.1) = true) (ho : Op.lookupswitch.offset qs.toList dflt x.toInt = off) (ht : (pc : Int) + off = (tgt : Int)) (k : zW ι M X tgt lv st mem) : zW ι M X pc lv (zI x :: st) mem := by
  obtain ⟨p, l, e, R, s, m, args, below, meth, c, A, cells, slots, Q⟩ := X
  obtain ⟨hd, rfl⟩ := hd
  intro H locs ls hP hS hl
  exact lv_lookup hX.1 hX.2.1 hd hp ho ht (k H locs ls hP hS hl)
theorem z_tabOut {x : Int32} {dflt lo hi : Int} {offs : Array Int} {len tgt : Nat} (hX : zG ι M X n ps) (hd : zD M.2.1 pc (.tableswitch dflt lo hi offs) len npc) (h : x.toInt < lo ∨ hi < x.toInt) (ht : (pc : Int) + dflt = (tgt : Int)) (k : zW ι M X tgt lv st mem) : zW ι M X pc lv (zI x :: st) mem := by
  obtain ⟨p, l, e, R, s, m, args, below, meth, c, A, cells, slots, Q⟩ := X
  obtain ⟨hd, rfl⟩ := hd
  intro H locs ls hP hS hl
  exact lv_tableOut hX.1 hX.2.1 hd h ht (k H locs ls hP hS hl)
theorem z_tabIn {x : Int32} {dflt lo hi off : Int} {offs : Array Int} {len tgt : Nat} (hX : zG ι M X n ps) (hd : zD M.2.1 pc (.tableswitch dflt lo hi offs) len npc) (h1 : ¬ x.toInt < lo) (h2 : ¬ hi < x.toInt) (ho : offs[(x.toInt - lo).toNat]? = some off) (ht : (pc : Int) + off = (tgt : Int)) (k : zW ι M X tgt lv st mem) : zW ι M X pc lv (zI x :: st) mem := by
  obtain ⟨p, l, e, R, s, m, args, below, meth, c, A, cells, slots, Q⟩ := X
  obtain ⟨hd, rfl⟩ := hd
  intro H locs ls hP hS hl
  exact lv_tableIn hX.1 hX.2.1 hd h1 h2 ho ht (k H locs ls hP hS hl)
theorem z_iret {x : Int32} {Post : Option zV → zM → Prop} (hX : zG ι M X n ps) (hR : zRt ι X Post) (hd : zD M.2.1 pc (.ireturn) 1 npc) (hr : M.2.2.2 = some .int) (k : Post (some (zI x)) mem) : zW ι M X pc lv [zI x] mem := by
  obtain ⟨p, l, e, R, s, m, args, below, meth, c, A, cells, slots, Q⟩ := X
  obtain ⟨hd, rfl⟩ := hd
  intro H locs ls hP hS hl
  obtain ⟨rfl, rfl, rfl⟩ := hR
  have hlocks : meth.locks = false := hX.2.2.2.2.2.2.1
  exact W.iret hX.1 hX.2.1 (hX.2.2.2.2.2.1.trans hr) (fun t ht hW => ⟨⟨(some (zI x)), mem, rfl, k, by rw [ht]; exact hP⟩, hS.F ht⟩) hS.2.2 hd
theorem z_lret {x : Int64} {Post : Option zV → zM → Prop} (hX : zG ι M X n ps) (hR : zRt ι X Post) (hd : zD M.2.1 pc (.lreturn) 1 npc) (hr : M.2.2.2 = some .long) (k : Post (some (zJ x)) mem) : zW ι M X pc lv [zJ x] mem := by
  obtain ⟨p, l, e, R, s, m, args, below, meth, c, A, cells, slots, Q⟩ := X
  obtain ⟨hd, rfl⟩ := hd
  intro H locs ls hP hS hl
  obtain ⟨rfl, rfl, rfl⟩ := hR
  have hlocks : meth.locks = false := hX.2.2.2.2.2.2.1
  exact W.lret hX.1 hX.2.1 (hX.2.2.2.2.2.1.trans hr) (fun t ht hW => ⟨⟨(some (zJ x)), mem, rfl, k, by rw [ht]; exact hP⟩, hS.F ht⟩) hS.2.2 hd
theorem z_ret {Post : Option zV → zM → Prop} (hX : zG ι M X n ps) (hR : zRt ι X Post) (hd : zD M.2.1 pc (.return_) 1 npc) (hr : M.2.2.2 = none) (k : Post none mem) : zW ι M X pc lv [] mem := by
  obtain ⟨p, l, e, R, s, m, args, below, meth, c, A, cells, slots, Q⟩ := X
  obtain ⟨hd, rfl⟩ := hd
  intro H locs ls hP hS hl
  obtain ⟨rfl, rfl, rfl⟩ := hR
  have hlocks : meth.locks = false := hX.2.2.2.2.2.2.1
  exact W.vret hX.1 hX.2.1 (hX.2.2.2.2.2.1.trans hr) (fun t ht hW => ⟨⟨none, mem, rfl, k, by rw [ht]; exact hP⟩, hS.F ht⟩) hS.2.2 hd
theorem z_zret {x : Int32} {Post : Option zV → zM → Prop} (hX : zG ι M X n ps) (hR : zRt ι X Post) (hd : zD M.2.1 pc (.ireturn) 1 npc) (hr : M.2.2.2 = some .boolean) (hx : x = 0 ∨ x = 1) (k : Post (some (zI x)) mem) : zW ι M X pc lv [zI x] mem := by
  obtain ⟨p, l, e, R, s, m, args, below, meth, c, A, cells, slots, Q⟩ := X
  obtain ⟨hd, rfl⟩ := hd
  intro H locs ls hP hS hl
  obtain ⟨rfl, rfl, rfl⟩ := hR
  have hlocks : meth.locks = false := hX.2.2.2.2.2.2.1
  exact W.zret hX.1 hX.2.1 (hX.2.2.2.2.2.1.trans hr) (by rcases hx with rfl | rfl <;> rfl) (fun t ht hW => ⟨⟨(some (zI x)), mem, rfl, k, by rw [ht]; exact hP⟩, hS.F ht⟩) hS.2.2 hd
end ZR
end
section
/-! memory: stores, and the rows that read and write cells -/
def upI (mem : zM) (p k j : Nat) (v : Int32) : zM := (fun a b c => if a = p ∧ b = k ∧ c = j then v else mem.1 a b c, mem.2)
def upJ (mem : zM) (p k j : Nat) (v : Int64) : zM := (mem.1, fun a b c => if a = p ∧ b = k ∧ c = j then v else mem.2.1 a b c, mem.2.2)
def upR (mem : zM) (p k j : Nat) (v : Nat) : zM := (mem.1, mem.2.1, fun a b c => if a = p ∧ b = k ∧ c = j then v else mem.2.2 a b c)
theorem z_cell_congr {ι : zE} {mem mem' : zM} {q : zR} (h1 : mem'.1 q.1 q.2 = mem.1 q.1 q.2) (h2 : mem'.2.1 q.1 q.2 = mem.2.1 q.1 q.2) (h3 : mem'.2.2 q.1 q.2 = mem.2.2 q.1 q.2) : z_cell ι mem' q = z_cell ι mem q := by
  unfold z_cell
  cases (zsh q.1).2 with
  | inl o => simp only [z_fs, z_sv, h1, h2, h3]
  | inr a => simp only [z_ar, h1, h2, h3]
theorem upI_ne {mem : zM} {p k j : Nat} {v : Int32} {q : zR} (h : q ≠ (p, k)) : (upI mem p k j v).1 q.1 q.2 = mem.1 q.1 q.2 := by
  funext c
  show (if q.1 = p ∧ q.2 = k ∧ c = j then v else mem.1 q.1 q.2 c) = mem.1 q.1 q.2 c
  rw [if_neg]
  rintro ⟨h1, h2, -⟩
  exact h (Prod.ext h1 h2)
theorem upJ_ne {mem : zM} {p k j : Nat} {v : Int64} {q : zR} (h : q ≠ (p, k)) : (upJ mem p k j v).2.1 q.1 q.2 = mem.2.1 q.1 q.2 := by
  funext c
  show (if q.1 = p ∧ q.2 = k ∧ c = j then v else mem.2.1 q.1 q.2 c) = mem.2.1 q.1 q.2 c
  rw [if_neg]
  rintro ⟨h1, h2, -⟩
  exact h (Prod.ext h1 h2)
theorem upR_ne {mem : zM} {p k j : Nat} {v : Nat} {q : zR} (h : q ≠ (p, k)) : (upR mem p k j v).2.2 q.1 q.2 = mem.2.2 q.1 q.2 := by
  funext c
  show (if q.1 = p ∧ q.2 = k ∧ c = j then v else mem.2.2 q.1 q.2 c) = mem.2.2 q.1 q.2 c
  rw [if_neg]
  rintro ⟨h1, h2, -⟩
  exact h (Prod.ext h1 h2)
theorem upI_row {mem : zM} {p k j : Nat} {v : Int32} : (upI mem p k j v).1 p k = upd (mem.1 p k) j v := by
  funext c
  show (if p = p ∧ k = k ∧ c = j then v else mem.1 p k c) = if c = j then v else mem.1 p k c
  by_cases h : c = j <;> simp [h]
theorem upJ_row {mem : zM} {p k j : Nat} {v : Int64} : (upJ mem p k j v).2.1 p k = vp_updL (mem.2.1 p k) j v := by
  funext c
  show (if p = p ∧ k = k ∧ c = j then v else mem.2.1 p k c) = if c = j then v else mem.2.1 p k c
  by_cases h : c = j <;> simp [h]
theorem z_ws_set {ι : zE} {mem mem' : zM} {i : Nat} {q : zR} (h : (zeK ι)[i]? = some q) (hn : (zeK ι).Nodup) (he : ∀ q', q' ≠ q → z_cell ι mem' q' = z_cell ι mem q') : (z_ws ι mem).set i (z_cell ι mem' q) = z_ws ι mem' := by
  apply List.ext_getElem?
  intro j
  have hl : i < (zeK ι).length := (List.getElem?_eq_some_iff.mp h).1
  by_cases e : i = j
  · subst e
    rw [List.getElem?_set_self (by rw [z_ws_len]; exact hl), z_ws_at h]
  · rw [List.getElem?_set_ne e]
    cases hj : (zeK ι)[j]? with
    | none => simp [z_ws, hj]
    | some q' =>
      rw [z_ws_at hj, z_ws_at hj, he q']
      intro e2
      subst e2
      exact e ((List.getElem?_inj hl hn).mp (h.trans hj.symm))
theorem z_fs_len (r : Nat → Nat → Nat) (mem : zM) (p k : Nat) (sks : List zK) : (z_fs r mem p k sks).length = sks.length := by simp [z_fs]
theorem z_fs_at {r : Nat → Nat → Nat} {mem : zM} {p k j : Nat} {sks : List zK} {sk : zK} (h : sks[j]? = some sk) : (z_fs r mem p k sks)[j]? = some (z_tv r (z_sv mem p k j sk)) := by
  have hj := (List.getElem?_eq_some_iff.mp h).1
  have hg := (List.getElem?_eq_some_iff.mp h).2
  simp [z_fs, hj, hg]
theorem z_fs_set {r : Nat → Nat → Nat} {mem mem' : zM} {p k j : Nat} {sks : List zK} {sk : zK} {v : Value} (h : sks[j]? = some sk) (hv : v = z_tv r (z_sv mem' p k j sk)) (ho : ∀ i sk', i ≠ j → z_sv mem' p k i sk' = z_sv mem p k i sk') : (z_fs r mem p k sks).set j v = z_fs r mem' p k sks := by
  apply List.ext_getElem?
  intro i
  have hj := (List.getElem?_eq_some_iff.mp h).1
  by_cases e : j = i
  · subst e
    rw [List.getElem?_set_self (by rw [z_fs_len]; exact hj), z_fs_at h, hv]
  · rw [List.getElem?_set_ne e]
    cases hi : sks[i]? with
    | none =>
      have : sks.length ≤ i := by simpa using hi
      rw [List.getElem?_eq_none (by rw [z_fs_len]; exact this), List.getElem?_eq_none (by rw [z_fs_len]; exact this)]
    | some sk' => rw [z_fs_at hi, z_fs_at hi, ho i sk' (Ne.symm e)]
theorem upI_sv {mem : zM} {p k j i : Nat} {v : Int32} {sk : zK} (h : i ≠ j) : z_sv (upI mem p k j v) p k i sk = z_sv mem p k i sk := by
  have h1 : (upI mem p k j v).1 p k i = mem.1 p k i := by
    show (if p = p ∧ k = k ∧ i = j then v else mem.1 p k i) = mem.1 p k i
    rw [if_neg]; rintro ⟨-, -, h2⟩; exact h h2
  unfold z_sv
  rw [h1]; rfl
theorem upR_sv {mem : zM} {p k j i : Nat} {v : Nat} {sk : zK} (h : i ≠ j) : z_sv (upR mem p k j v) p k i sk = z_sv mem p k i sk := by
  have h1 : (upR mem p k j v).2.2 p k i = mem.2.2 p k i := by
    show (if p = p ∧ k = k ∧ i = j then v else mem.2.2 p k i) = mem.2.2 p k i
    rw [if_neg]; rintro ⟨-, -, h2⟩; exact h h2
  unfold z_sv
  rw [h1]; rfl
theorem upI_at {mem : zM} {p k j : Nat} {v : Int32} : (upI mem p k j v).1 p k j = v := by
  show (if p = p ∧ k = k ∧ j = j then v else mem.1 p k j) = v
  rw [if_pos ⟨rfl, rfl, rfl⟩]
theorem upR_at {mem : zM} {p k j v : Nat} : (upR mem p k j v).2.2 p k j = v := by
  show (if p = p ∧ k = k ∧ j = j then v else mem.2.2 p k j) = v
  rw [if_pos ⟨rfl, rfl, rfl⟩]
theorem z_cellO {ι : zE} {mem : zM} {p k cnt ci : Nat} {sks : List zK} (h : zsh p = (cnt, .inl (ci, sks))) : z_cell ι mem (p, k) = (zeR ι p k, .inr (ci, z_fs (zeR ι) mem p k sks)) := by
  unfold z_cell; rw [h]
theorem z_cellA {ι : zE} {mem : zM} {p k cnt N : Nat} {ty : FieldType} {sk : zK} (h : zsh p = (cnt, .inr (ty, N, sk))) : z_cell ι mem (p, k) = (zeR ι p k, .inl (zeT ι ty, z_ar (zeR ι) mem p k N sk)) := by
  unfold z_cell; rw [h]
/-- a field by its link -/
def zF (own : String) (idx ci j : Nat) : Prop := ∃ (C : String) (T : u_T) (N : Nat), zCl[ci]? = some (C, T, N) ∧ j < N ∧ Cond.fieldLink own idx C (T j).2.1 (T j).2.2.1 ∈ zTS ∧ (∀ w ∈ u_ws C T N, w ∈ zTS) ∧ (T j).1 = C
def zFp (own : String) (idx ci j : Nat) (ty : FieldType) : Prop := ∃ (C : String) (T : u_T) (N : Nat) (ty0 : Nat → FieldType), zCl[ci]? = some (C, T, N) ∧ j < N ∧ Cond.fieldLink own idx C (T j).2.1 (T j).2.2.1 ∈ zTS ∧ (∀ w ∈ u_ws C T N, w ∈ zTS) ∧ (T j).1 = C ∧ (∀ k, k < N → parseFieldDescriptor (T k).2.2.1 = some (ty0 k)) ∧ (∀ a, a < N → ∀ b, b < N → a ≠ b → (T a).2.1 ≠ (T b).2.1) ∧ (T j).2.2.2 = false ∧ parseFieldDescriptor (T j).2.2.1 = some ty
section ZM
variable {ι : zE} {M : zMR} {X : zX} {n : Nat} {ps : List Nat} {pc npc : Nat} {lv : List (Option zV)} {st : List zV} {mem : zM} {p k cnt : Nat}
theorem z_get {idx ci j : Nat} {sks : List zK} {sk : zK} {v : zV} (hX : zG ι M X n ps) (hd : zD M.2.1 pc (.getfield idx) 3 npc) (hf : zF M.1.cls idx ci j) (hsh : zsh p = (cnt, .inl (ci, sks))) (hp : p ∈ ps) (hk : k < cnt) (hsk : sks[j]? = some sk) (hv : z_sv mem p k j sk = v) (kk : zW ι M X npc lv (v :: st) mem) : zW ι M X pc lv (zP p k :: st) mem := by
  obtain ⟨P, l, e, R, s, m, args, below, meth, c, A, cells, slots, Q⟩ := X
  obtain ⟨hd, rfl⟩ := hd
  intro H locs ls hP hS hl
  obtain ⟨hx, hb, hml, hown, hts, hret, hlocks, hK, hAd, hA, hSt, hfr, hlo, hce, hsl, hHas⟩ := hX
  obtain ⟨i, hi⟩ := List.getElem?_of_mem (hHas p k hp (by rw [hsh]; exact hk))
  have he := z_ws_at (mem := mem) hi
  rw [z_cellO hsh] at he
  obtain ⟨C, T, N, h1, h2, h3, h4, h5⟩ := hf
  subst hv
  exact va_get hx hb hts h4 hown hK hP i he h1 j h2 (hts _ h3) (fun x hx => by rw [h5] at hx; exact hx) (z_fs_at hsk) hd (kk H locs ls hP hS hl)
theorem z_geti {idx ci j : Nat} {sks : List zK} {q0 : Nat} {f0 : Nat → Nat → Nat} (hX : zG ι M X n ps) (hd : zD M.2.1 pc (.getfield idx) 3 npc) (hf : zF M.1.cls idx ci j) (hsh : zsh p = (cnt, .inl (ci, sks))) (hp : p ∈ ps) (hk : k < cnt) (hsk : sks[j]? = some (0, q0, f0)) (kk : zW ι M X npc lv (zI (mem.1 p k j) :: st) mem) : zW ι M X pc lv (zP p k :: st) mem := z_get hX hd hf hsh hp hk hsk rfl kk
theorem z_getc {idx ci j : Nat} {sks : List zK} {q0 : Nat} {f0 : Nat → Nat → Nat} (hX : zG ι M X n ps) (hd : zD M.2.1 pc (.getfield idx) 3 npc) (hf : zF M.1.cls idx ci j) (hsh : zsh p = (cnt, .inl (ci, sks))) (hp : p ∈ ps) (hk : k < cnt) (hsk : sks[j]? = some (2, q0, f0)) (kk : zW ι M X npc lv (zP q0 (f0 k j) :: st) mem) : zW ι M X pc lv (zP p k :: st) mem := z_get hX hd hf hsh hp hk hsk rfl kk
theorem z_getv {idx ci j : Nat} {sks : List zK} {q0 : Nat} {f0 : Nat → Nat → Nat} (hX : zG ι M X n ps) (hd : zD M.2.1 pc (.getfield idx) 3 npc) (hf : zF M.1.cls idx ci j) (hsh : zsh p = (cnt, .inl (ci, sks))) (hp : p ∈ ps) (hk : k < cnt) (hsk : sks[j]? = some (3, q0, f0)) (kk : zW ι M X npc lv (zP q0 (mem.2.2 p k j) :: st) mem) : zW ι M X pc lv (zP p k :: st) mem := z_get hX hd hf hsh hp hk hsk rfl kk
theorem z_put {idx ci j : Nat} {sks : List zK} {sk : zK} {v : zV} {mem' : zM} {ty : FieldType} (hX : zG ι M X n ps) (hd : zD M.2.1 pc (.putfield idx) 3 npc) (hf : zFp M.1.cls idx ci j ty) (hsh : zsh p = (cnt, .inl (ci, sks))) (hp : p ∈ ps) (hk : k < cnt) (hsk : sks[j]? = some sk) (hn : narrow ty (z_tv (zeR ι) v) = z_tv (zeR ι) v) (hfit : fits ty (z_tv (zeR ι) v) = true) (hv : z_sv mem' p k j sk = v) (ho : ∀ i sk', i ≠ j → z_sv mem' p k i sk' = z_sv mem p k i sk') (hq : ∀ q, q ≠ (p, k) → z_cell ι mem' q = z_cell ι mem q) (kk : zW ι M X npc lv st mem') : zW ι M X pc lv (v :: zP p k :: st) mem := by
  obtain ⟨P, l, e, R, s, m, args, below, meth, c, A, cells, slots, Q⟩ := X
  obtain ⟨hd, rfl⟩ := hd
  intro H locs ls hP hS hl
  obtain ⟨hx, hb, hml, hown, hts, hret, hlocks, hK, hAd, hA, hSt, hfr, hlo, hce, hsl, hHas⟩ := hX
  obtain ⟨i, hi⟩ := List.getElem?_of_mem (hHas p k hp (by rw [hsh]; exact hk))
  have he := z_ws_at (mem := mem) hi
  rw [z_cellO hsh] at he
  obtain ⟨C, T, N, ty0, h1, h2, h3, h4, h5, h6, h7, h8, h9⟩ := hf
  refine va_put hx hb hts h4 ty0 h6 h7 hown hK hP (hAd.D mem) hS i he h1 j h2 (hts _ h3) (fun x hx => by rw [h5] at hx; exact hx) h8 h9 hn hfit (by rw [z_fs_len]; exact (List.getElem?_eq_some_iff.mp hsk).1) hd (fun H1 locs1 hP1 _ hS1 => ?_)
  rw [z_fs_set (mem' := mem') hsk (by rw [hv]) ho] at hP1
  have hc := z_cellO (ι := ι) (mem := mem') (k := k) hsh
  rw [← hc, z_ws_set hi hAd.1 hq] at hP1
  exact kk H1 locs1 ls hP1 hS1 hl
theorem z_puti {idx ci j : Nat} {sks : List zK} {q0 : Nat} {f0 : Nat → Nat → Nat} {v : Int32} (hX : zG ι M X n ps) (hd : zD M.2.1 pc (.putfield idx) 3 npc) (hf : zFp M.1.cls idx ci j .int) (hsh : zsh p = (cnt, .inl (ci, sks))) (hp : p ∈ ps) (hk : k < cnt) (hsk : sks[j]? = some (0, q0, f0)) (kk : zW ι M X npc lv st (upI mem p k j v)) : zW ι M X pc lv (zI v :: zP p k :: st) mem :=
  z_put hX hd hf hsh hp hk hsk rfl rfl (congrArg zI upI_at) (fun _ _ h => upI_sv h) (fun _ h => z_cell_congr (upI_ne h) rfl rfl) kk
theorem z_putz {idx ci j : Nat} {sks : List zK} {q0 : Nat} {f0 : Nat → Nat → Nat} {v : Int32} (hX : zG ι M X n ps) (hd : zD M.2.1 pc (.putfield idx) 3 npc) (hf : zFp M.1.cls idx ci j .boolean) (hsh : zsh p = (cnt, .inl (ci, sks))) (hp : p ∈ ps) (hk : k < cnt) (hsk : sks[j]? = some (0, q0, f0)) (hv : v = 0 ∨ v = 1) (kk : zW ι M X npc lv st (upI mem p k j v)) : zW ι M X pc lv (zI v :: zP p k :: st) mem :=
  z_put hX hd hf hsh hp hk hsk (by rcases hv with rfl | rfl <;> rfl) (by rcases hv with rfl | rfl <;> rfl) (congrArg zI upI_at) (fun _ _ h => upI_sv h) (fun _ h => z_cell_congr (upI_ne h) rfl rfl) kk
theorem z_putv {idx ci j : Nat} {sks : List zK} {q0 i0 : Nat} {f0 : Nat → Nat → Nat} {t : FieldType} (hX : zG ι M X n ps) (hd : zD M.2.1 pc (.putfield idx) 3 npc) (hf : zFp M.1.cls idx ci j (.array t)) (hsh : zsh p = (cnt, .inl (ci, sks))) (hp : p ∈ ps) (hk : k < cnt) (hsk : sks[j]? = some (3, q0, f0)) (kk : zW ι M X npc lv st (upR mem p k j i0)) : zW ι M X pc lv (zP q0 i0 :: zP p k :: st) mem :=
  z_put hX hd hf hsh hp hk hsk rfl rfl (congrArg (zP q0) upR_at) (fun _ _ h => upR_sv h) (fun _ h => z_cell_congr rfl rfl (upR_ne h)) kk
end ZM
end
section
/-! arrays, tables, calls -/
section ZA
variable {ι : zE} {M : zMR} {X : zX} {n : Nat} {ps : List Nat} {pc npc : Nat} {lv : List (Option zV)} {st : List zV} {mem : zM} {p k cnt : Nat}
theorem z_iald {N j q0 : Nat} {f0 : Nat → Nat → Nat} {x : Int32} (hX : zG ι M X n ps) (hd : zD M.2.1 pc (.iaload) 1 npc) (hsh : zsh p = (cnt, .inr (.int, N, (0, q0, f0)))) (hp : p ∈ ps) (hk : k < cnt) (hN : N < 2 ^ 31) (hx : x = nI j) (hj : j < N) (kk : zW ι M X npc lv (zI (mem.1 p k j) :: st) mem) : zW ι M X pc lv (zI x :: zP p k :: st) mem := by
  subst hx
  obtain ⟨P, l, e, R, s, m, args, below, meth, c, A, cells, slots, Q⟩ := X
  obtain ⟨hd, rfl⟩ := hd
  intro H locs ls hP hS hl
  obtain ⟨hx, hb, hml, hown, hts, hret, hlocks, hK, hAd, hA, hSt, hfr, hlo, hce, hsl, hHas⟩ := hX
  obtain ⟨i, hi⟩ := List.getElem?_of_mem (hHas p k hp (by rw [hsh]; exact hk))
  have he := z_ws_at (mem := mem) hi
  rw [z_cellA hsh] at he
  refine va_iald hx hb hK hP i 0 he rfl (vp_in_nI hj hN) hd ?_
  rw [nI_clamp (Nat.lt_trans hj hN)]
  exact kk H locs ls hP hS hl
theorem z_bald {N j q0 : Nat} {f0 : Nat → Nat → Nat} {x : Int32} (hX : zG ι M X n ps) (hd : zD M.2.1 pc (.baload) 1 npc) (hsh : zsh p = (cnt, .inr (.byte, N, (0, q0, f0)))) (hp : p ∈ ps) (hk : k < cnt) (hN : N < 2 ^ 31) (hx : x = nI j) (hj : j < N) (kk : zW ι M X npc lv (zI (mem.1 p k j) :: st) mem) : zW ι M X pc lv (zI x :: zP p k :: st) mem := by
  subst hx
  obtain ⟨P, l, e, R, s, m, args, below, meth, c, A, cells, slots, Q⟩ := X
  obtain ⟨hd, rfl⟩ := hd
  intro H locs ls hP hS hl
  obtain ⟨hx, hb, hml, hown, hts, hret, hlocks, hK, hAd, hA, hSt, hfr, hlo, hce, hsl, hHas⟩ := hX
  obtain ⟨i, hi⟩ := List.getElem?_of_mem (hHas p k hp (by rw [hsh]; exact hk))
  have he := z_ws_at (mem := mem) hi
  rw [z_cellA hsh] at he
  refine va_bald hx hb hK hP i 1 he rfl (vp_in_nI hj hN) hd ?_
  rw [nI_clamp (Nat.lt_trans hj hN)]
  exact kk H locs ls hP hS hl
theorem z_zald {N j q0 : Nat} {f0 : Nat → Nat → Nat} {x : Int32} (hX : zG ι M X n ps) (hd : zD M.2.1 pc (.baload) 1 npc) (hsh : zsh p = (cnt, .inr (.boolean, N, (0, q0, f0)))) (hp : p ∈ ps) (hk : k < cnt) (hN : N < 2 ^ 31) (hx : x = nI j) (hj : j < N) (kk : zW ι M X npc lv (zI (mem.1 p k j) :: st) mem) : zW ι M X pc lv (zI x :: zP p k :: st) mem := by
  subst hx
  obtain ⟨P, l, e, R, s, m, args, below, meth, c, A, cells, slots, Q⟩ := X
  obtain ⟨hd, rfl⟩ := hd
  intro H locs ls hP hS hl
  obtain ⟨hx, hb, hml, hown, hts, hret, hlocks, hK, hAd, hA, hSt, hfr, hlo, hce, hsl, hHas⟩ := hX
  obtain ⟨i, hi⟩ := List.getElem?_of_mem (hHas p k hp (by rw [hsh]; exact hk))
  have he := z_ws_at (mem := mem) hi
  rw [z_cellA hsh] at he
  refine va_zald hx hb hK hP i 3 he rfl (vp_in_nI hj hN) hd ?_
  rw [nI_clamp (Nat.lt_trans hj hN)]
  exact kk H locs ls hP hS hl
theorem z_sald {N j q0 : Nat} {f0 : Nat → Nat → Nat} {x : Int32} (hX : zG ι M X n ps) (hd : zD M.2.1 pc (.saload) 1 npc) (hsh : zsh p = (cnt, .inr (.short, N, (0, q0, f0)))) (hp : p ∈ ps) (hk : k < cnt) (hN : N < 2 ^ 31) (hx : x = nI j) (hj : j < N) (kk : zW ι M X npc lv (zI (mem.1 p k j) :: st) mem) : zW ι M X pc lv (zI x :: zP p k :: st) mem := by
  subst hx
  obtain ⟨P, l, e, R, s, m, args, below, meth, c, A, cells, slots, Q⟩ := X
  obtain ⟨hd, rfl⟩ := hd
  intro H locs ls hP hS hl
  obtain ⟨hx, hb, hml, hown, hts, hret, hlocks, hK, hAd, hA, hSt, hfr, hlo, hce, hsl, hHas⟩ := hX
  obtain ⟨i, hi⟩ := List.getElem?_of_mem (hHas p k hp (by rw [hsh]; exact hk))
  have he := z_ws_at (mem := mem) hi
  rw [z_cellA hsh] at he
  refine va_sald hx hb hK hP i 2 he rfl (vp_in_nI hj hN) hd ?_
  rw [nI_clamp (Nat.lt_trans hj hN)]
  exact kk H locs ls hP hS hl
theorem z_lald {N j q0 : Nat} {f0 : Nat → Nat → Nat} {x : Int32} (hX : zG ι M X n ps) (hd : zD M.2.1 pc (.laload) 1 npc) (hsh : zsh p = (cnt, .inr (.long, N, (1, q0, f0)))) (hp : p ∈ ps) (hk : k < cnt) (hN : N < 2 ^ 31) (hx : x = nI j) (hj : j < N) (kk : zW ι M X npc lv (zJ (mem.2.1 p k j) :: st) mem) : zW ι M X pc lv (zI x :: zP p k :: st) mem := by
  subst hx
  obtain ⟨P, l, e, R, s, m, args, below, meth, c, A, cells, slots, Q⟩ := X
  obtain ⟨hd, rfl⟩ := hd
  intro H locs ls hP hS hl
  obtain ⟨hx, hb, hml, hown, hts, hret, hlocks, hK, hAd, hA, hSt, hfr, hlo, hce, hsl, hHas⟩ := hX
  obtain ⟨i, hi⟩ := List.getElem?_of_mem (hHas p k hp (by rw [hsh]; exact hk))
  have he := z_ws_at (mem := mem) hi
  rw [z_cellA hsh] at he
  refine va_lald hx hb hK hP i 4 he rfl (vp_in_nI hj hN) hd ?_
  rw [nI_clamp (Nat.lt_trans hj hN)]
  exact kk H locs ls hP hS hl
theorem z_aldCubec {N j q0 : Nat} {f0 : Nat → Nat → Nat} {x : Int32} (hX : zG ι M X n ps) (hd : zD M.2.1 pc (.aaload) 1 npc) (hsh : zsh p = (cnt, .inr (.object "FourCubes$Cube", N, (2, q0, f0)))) (hp : p ∈ ps) (hk : k < cnt) (hN : N < 2 ^ 31) (hx : x = nI j) (hj : j < N) (kk : zW ι M X npc lv (zP q0 (f0 k j) :: st) mem) : zW ι M X pc lv (zI x :: zP p k :: st) mem := by
  subst hx
  obtain ⟨P, l, e, R, s, m, args, below, meth, c, A, cells, slots, Q⟩ := X
  obtain ⟨hd, rfl⟩ := hd
  intro H locs ls hP hS hl
  obtain ⟨hx, hb, hml, hown, hts, hret, hlocks, hK, hAd, hA, hSt, hfr, hlo, hce, hsl, hHas⟩ := hX
  obtain ⟨i, hi⟩ := List.getElem?_of_mem (hHas p k hp (by rw [hsh]; exact hk))
  have he := z_ws_at (mem := mem) hi
  rw [z_cellA hsh] at he
  refine va_aldq hx hb hK hP i 5 he rfl (vp_in_nI hj hN) hd ?_
  rw [nI_clamp (Nat.lt_trans hj hN)]
  exact kk H locs ls hP hS hl
theorem z_aldShelfc {N j q0 : Nat} {f0 : Nat → Nat → Nat} {x : Int32} (hX : zG ι M X n ps) (hd : zD M.2.1 pc (.aaload) 1 npc) (hsh : zsh p = (cnt, .inr (.object "FourCubes$Shelf", N, (2, q0, f0)))) (hp : p ∈ ps) (hk : k < cnt) (hN : N < 2 ^ 31) (hx : x = nI j) (hj : j < N) (kk : zW ι M X npc lv (zP q0 (f0 k j) :: st) mem) : zW ι M X pc lv (zI x :: zP p k :: st) mem := by
  subst hx
  obtain ⟨P, l, e, R, s, m, args, below, meth, c, A, cells, slots, Q⟩ := X
  obtain ⟨hd, rfl⟩ := hd
  intro H locs ls hP hS hl
  obtain ⟨hx, hb, hml, hown, hts, hret, hlocks, hK, hAd, hA, hSt, hfr, hlo, hce, hsl, hHas⟩ := hX
  obtain ⟨i, hi⟩ := List.getElem?_of_mem (hHas p k hp (by rw [hsh]; exact hk))
  have he := z_ws_at (mem := mem) hi
  rw [z_cellA hsh] at he
  refine va_aldq hx hb hK hP i 6 he rfl (vp_in_nI hj hN) hd ?_
  rw [nI_clamp (Nat.lt_trans hj hN)]
  exact kk H locs ls hP hS hl
theorem z_aldCubev {N j q0 : Nat} {f0 : Nat → Nat → Nat} {x : Int32} (hX : zG ι M X n ps) (hd : zD M.2.1 pc (.aaload) 1 npc) (hsh : zsh p = (cnt, .inr (.object "FourCubes$Cube", N, (3, q0, f0)))) (hp : p ∈ ps) (hk : k < cnt) (hN : N < 2 ^ 31) (hx : x = nI j) (hj : j < N) (kk : zW ι M X npc lv (zP q0 (mem.2.2 p k j) :: st) mem) : zW ι M X pc lv (zI x :: zP p k :: st) mem := by
  subst hx
  obtain ⟨P, l, e, R, s, m, args, below, meth, c, A, cells, slots, Q⟩ := X
  obtain ⟨hd, rfl⟩ := hd
  intro H locs ls hP hS hl
  obtain ⟨hx, hb, hml, hown, hts, hret, hlocks, hK, hAd, hA, hSt, hfr, hlo, hce, hsl, hHas⟩ := hX
  obtain ⟨i, hi⟩ := List.getElem?_of_mem (hHas p k hp (by rw [hsh]; exact hk))
  have he := z_ws_at (mem := mem) hi
  rw [z_cellA hsh] at he
  refine va_aldq hx hb hK hP i 5 he rfl (vp_in_nI hj hN) hd ?_
  rw [nI_clamp (Nat.lt_trans hj hN)]
  exact kk H locs ls hP hS hl
theorem z_iast {N j q0 : Nat} {f0 : Nat → Nat → Nat} {x v : Int32} (hX : zG ι M X n ps) (hd : zD M.2.1 pc (.iastore) 1 npc) (hsh : zsh p = (cnt, .inr (.int, N, (0, q0, f0)))) (hp : p ∈ ps) (hk : k < cnt) (hN : N < 2 ^ 31) (hx : x = nI j) (hj : j < N) (kk : zW ι M X npc lv st (upI mem p k j (v))) : zW ι M X pc lv (zI v :: zI x :: zP p k :: st) mem := by
  subst hx
  obtain ⟨P, l, e, R, s, m, args, below, meth, c, A, cells, slots, Q⟩ := X
  obtain ⟨hd, rfl⟩ := hd
  intro H locs ls hP hS hl
  obtain ⟨hx, hb, hml, hown, hts, hret, hlocks, hK, hAd, hA, hSt, hfr, hlo, hce, hsl, hHas⟩ := hX
  obtain ⟨i, hi⟩ := List.getElem?_of_mem (hHas p k hp (by rw [hsh]; exact hk))
  have he := z_ws_at (mem := mem) hi
  rw [z_cellA hsh] at he
  refine va_iast hx hb hK hP (hAd.D mem) hS i 0 he rfl (vp_in_nI hj hN) hd (fun H1 locs1 hP1 _ hS1 => ?_)
  rw [nI_clamp (Nat.lt_trans hj hN)] at hP1
  have hc : z_cell ι (upI mem p k j (v)) (p, k) = (zeR ι p k, .inl (zeT ι .int, N, .inl (upd (mem.1 p k) j (v)))) := by
    rw [z_cellA hsh, ← upI_row]; rfl
  rw [← hc, z_ws_set hi hAd.1 (fun _ h => z_cell_congr (upI_ne h) rfl rfl)] at hP1
  exact kk H1 locs1 ls hP1 hS1 hl
theorem z_bast {N j q0 : Nat} {f0 : Nat → Nat → Nat} {x v : Int32} (hX : zG ι M X n ps) (hd : zD M.2.1 pc (.bastore) 1 npc) (hsh : zsh p = (cnt, .inr (.byte, N, (0, q0, f0)))) (hp : p ∈ ps) (hk : k < cnt) (hN : N < 2 ^ 31) (hx : x = nI j) (hj : j < N) (kk : zW ι M X npc lv st (upI mem p k j (v.toInt8.toInt32))) : zW ι M X pc lv (zI v :: zI x :: zP p k :: st) mem := by
  subst hx
  obtain ⟨P, l, e, R, s, m, args, below, meth, c, A, cells, slots, Q⟩ := X
  obtain ⟨hd, rfl⟩ := hd
  intro H locs ls hP hS hl
  obtain ⟨hx, hb, hml, hown, hts, hret, hlocks, hK, hAd, hA, hSt, hfr, hlo, hce, hsl, hHas⟩ := hX
  obtain ⟨i, hi⟩ := List.getElem?_of_mem (hHas p k hp (by rw [hsh]; exact hk))
  have he := z_ws_at (mem := mem) hi
  rw [z_cellA hsh] at he
  refine va_bast hx hb hK hP (hAd.D mem) hS i 1 he rfl (vp_in_nI hj hN) hd (fun H1 locs1 hP1 _ hS1 => ?_)
  rw [nI_clamp (Nat.lt_trans hj hN)] at hP1
  rw [vp_nar_byte] at hP1
  have hc : z_cell ι (upI mem p k j (v.toInt8.toInt32)) (p, k) = (zeR ι p k, .inl (zeT ι .byte, N, .inl (upd (mem.1 p k) j (v.toInt8.toInt32)))) := by
    rw [z_cellA hsh, ← upI_row]; rfl
  rw [← hc, z_ws_set hi hAd.1 (fun _ h => z_cell_congr (upI_ne h) rfl rfl)] at hP1
  exact kk H1 locs1 ls hP1 hS1 hl
theorem z_zast {N j q0 : Nat} {f0 : Nat → Nat → Nat} {x v : Int32} (hX : zG ι M X n ps) (hd : zD M.2.1 pc (.bastore) 1 npc) (hsh : zsh p = (cnt, .inr (.boolean, N, (0, q0, f0)))) (hp : p ∈ ps) (hk : k < cnt) (hN : N < 2 ^ 31) (hx : x = nI j) (hj : j < N) (kk : zW ι M X npc lv st (upI mem p k j (vp_nar .boolean v))) : zW ι M X pc lv (zI v :: zI x :: zP p k :: st) mem := by
  subst hx
  obtain ⟨P, l, e, R, s, m, args, below, meth, c, A, cells, slots, Q⟩ := X
  obtain ⟨hd, rfl⟩ := hd
  intro H locs ls hP hS hl
  obtain ⟨hx, hb, hml, hown, hts, hret, hlocks, hK, hAd, hA, hSt, hfr, hlo, hce, hsl, hHas⟩ := hX
  obtain ⟨i, hi⟩ := List.getElem?_of_mem (hHas p k hp (by rw [hsh]; exact hk))
  have he := z_ws_at (mem := mem) hi
  rw [z_cellA hsh] at he
  refine va_zast hx hb hK hP (hAd.D mem) hS i 3 he rfl (vp_in_nI hj hN) hd (fun H1 locs1 hP1 _ hS1 => ?_)
  rw [nI_clamp (Nat.lt_trans hj hN)] at hP1
  have hc : z_cell ι (upI mem p k j (vp_nar .boolean v)) (p, k) = (zeR ι p k, .inl (zeT ι .boolean, N, .inl (upd (mem.1 p k) j (vp_nar .boolean v)))) := by
    rw [z_cellA hsh, ← upI_row]; rfl
  rw [← hc, z_ws_set hi hAd.1 (fun _ h => z_cell_congr (upI_ne h) rfl rfl)] at hP1
  exact kk H1 locs1 ls hP1 hS1 hl
theorem z_sast {N j q0 : Nat} {f0 : Nat → Nat → Nat} {x v : Int32} (hX : zG ι M X n ps) (hd : zD M.2.1 pc (.sastore) 1 npc) (hsh : zsh p = (cnt, .inr (.short, N, (0, q0, f0)))) (hp : p ∈ ps) (hk : k < cnt) (hN : N < 2 ^ 31) (hx : x = nI j) (hj : j < N) (kk : zW ι M X npc lv st (upI mem p k j (v.toInt16.toInt32))) : zW ι M X pc lv (zI v :: zI x :: zP p k :: st) mem := by
  subst hx
  obtain ⟨P, l, e, R, s, m, args, below, meth, c, A, cells, slots, Q⟩ := X
  obtain ⟨hd, rfl⟩ := hd
  intro H locs ls hP hS hl
  obtain ⟨hx, hb, hml, hown, hts, hret, hlocks, hK, hAd, hA, hSt, hfr, hlo, hce, hsl, hHas⟩ := hX
  obtain ⟨i, hi⟩ := List.getElem?_of_mem (hHas p k hp (by rw [hsh]; exact hk))
  have he := z_ws_at (mem := mem) hi
  rw [z_cellA hsh] at he
  refine va_sast hx hb hK hP (hAd.D mem) hS i 2 he rfl (vp_in_nI hj hN) hd (fun H1 locs1 hP1 _ hS1 => ?_)
  rw [nI_clamp (Nat.lt_trans hj hN)] at hP1
  rw [vp_nar_short] at hP1
  have hc : z_cell ι (upI mem p k j (v.toInt16.toInt32)) (p, k) = (zeR ι p k, .inl (zeT ι .short, N, .inl (upd (mem.1 p k) j (v.toInt16.toInt32)))) := by
    rw [z_cellA hsh, ← upI_row]; rfl
  rw [← hc, z_ws_set hi hAd.1 (fun _ h => z_cell_congr (upI_ne h) rfl rfl)] at hP1
  exact kk H1 locs1 ls hP1 hS1 hl
theorem z_last {N j q0 : Nat} {f0 : Nat → Nat → Nat} {x : Int32} {v : Int64} (hX : zG ι M X n ps) (hd : zD M.2.1 pc (.lastore) 1 npc) (hsh : zsh p = (cnt, .inr (.long, N, (1, q0, f0)))) (hp : p ∈ ps) (hk : k < cnt) (hN : N < 2 ^ 31) (hx : x = nI j) (hj : j < N) (kk : zW ι M X npc lv st (upJ mem p k j v)) : zW ι M X pc lv (zJ v :: zI x :: zP p k :: st) mem := by
  subst hx
  obtain ⟨P, l, e, R, s, m, args, below, meth, c, A, cells, slots, Q⟩ := X
  obtain ⟨hd, rfl⟩ := hd
  intro H locs ls hP hS hl
  obtain ⟨hx, hb, hml, hown, hts, hret, hlocks, hK, hAd, hA, hSt, hfr, hlo, hce, hsl, hHas⟩ := hX
  obtain ⟨i, hi⟩ := List.getElem?_of_mem (hHas p k hp (by rw [hsh]; exact hk))
  have he := z_ws_at (mem := mem) hi
  rw [z_cellA hsh] at he
  refine va_last hx hb hK hP (hAd.D mem) hS i 4 he rfl (vp_in_nI hj hN) hd (fun H1 locs1 hP1 _ hS1 => ?_)
  rw [nI_clamp (Nat.lt_trans hj hN)] at hP1
  have hc : z_cell ι (upJ mem p k j v) (p, k) = (zeR ι p k, .inl (zeT ι .long, N, .inr (.inl (vp_updL (mem.2.1 p k) j v)))) := by
    rw [z_cellA hsh, ← upJ_row]; rfl
  rw [← hc, z_ws_set (mem := mem) (mem' := upJ mem p k j v) hi hAd.1 (fun _ h => z_cell_congr rfl (upJ_ne h) rfl)] at hP1
  exact kk H1 locs1 ls hP1 hS1 hl
theorem z_astv {N j q0 i0 c0 : Nat} {f0 : Nat → Nat → Nat} {sks : List zK} {x : Int32} (hX : zG ι M X n ps) (hd : zD M.2.1 pc (.aastore) 1 npc) (hsh : zsh p = (cnt, .inr (.object "FourCubes$Cube", N, (3, q0, f0)))) (hp : p ∈ ps) (hk : k < cnt) (hN : N < 2 ^ 31) (hx : x = nI j) (hj : j < N) (hs0 : zsh q0 = (c0, .inl (1, sks))) (hp0 : q0 ∈ ps) (hk0 : i0 < c0) (kk : zW ι M X npc lv st (upR mem p k j i0)) : zW ι M X pc lv (zP q0 i0 :: zI x :: zP p k :: st) mem := by
  subst hx
  obtain ⟨P, l, e, R, s, m, args, below, meth, c, A, cells, slots, Q⟩ := X
  obtain ⟨hd, rfl⟩ := hd
  intro H locs ls hP hS hl
  obtain ⟨hx, hb, hml, hown, hts, hret, hlocks, hK, hAd, hA, hSt, hfr, hlo, hce, hsl, hHas⟩ := hX
  obtain ⟨i, hi⟩ := List.getElem?_of_mem (hHas p k hp (by rw [hsh]; exact hk))
  have he := z_ws_at (mem := mem) hi
  rw [z_cellA hsh] at he
  obtain ⟨i1, hi1⟩ := List.getElem?_of_mem (hHas q0 i0 hp0 (by rw [hs0]; exact hk0))
  have he1 := z_ws_at (mem := mem) hi1
  rw [z_cellO hs0] at he1
  refine va_astq hx hb hK hP (hAd.D mem) hS i 5 i1 1 he (r := (RX1, TX1, 2)) rfl he1 rfl (vp_in_nI hj hN) hd (fun H1 locs1 hP1 _ hS1 => ?_)
  rw [nI_clamp (Nat.lt_trans hj hN)] at hP1
  have hc : z_cell ι (upR mem p k j i0) (p, k) = (zeR ι p k, .inl (zeT ι (.object "FourCubes$Cube"), N, .inr (.inr (.inr (.inr (va_up (fun a => some (zeR ι q0 (mem.2.2 p k a))) j (some (zeR ι q0 i0)))))))) := by
    rw [z_cellA hsh]
    have hf : (fun a => some (zeR ι q0 ((upR mem p k j i0).2.2 p k a))) = va_up (fun a => some (zeR ι q0 (mem.2.2 p k a))) j (some (zeR ι q0 i0)) := by
      funext a
      show some (zeR ι q0 (if p = p ∧ k = k ∧ a = j then i0 else mem.2.2 p k a)) = if a = j then some (zeR ι q0 i0) else some (zeR ι q0 (mem.2.2 p k a))
      by_cases h : a = j <;> simp [h]
    rw [← hf]; rfl
  rw [← hc, z_ws_set (mem := mem) (mem' := upR mem p k j i0) hi hAd.1 (fun _ h => z_cell_congr rfl rfl (upR_ne h))] at hP1
  exact kk H1 locs1 ls hP1 hS1 hl
theorem z_alen {N t0 : Nat} {sk : zK} {ty : FieldType} {v : Int32} (hX : zG ι M X n ps) (hd : zD M.2.1 pc (.arraylength) 1 npc) (hsh : zsh p = (cnt, .inr (ty, N, sk))) (hp : p ∈ ps) (hk : k < cnt) (ht : (zTys ι)[t0]? = some (zeT ι ty, ty)) (hv : nI N = v) (kk : zW ι M X npc lv (zI v :: st) mem) : zW ι M X pc lv (zP p k :: st) mem := by
  obtain ⟨P, l, e, R, s, m, args, below, meth, c, A, cells, slots, Q⟩ := X
  obtain ⟨hd, rfl⟩ := hd
  intro H locs ls hP hS hl
  obtain ⟨hx, hb, hml, hown, hts, hret, hlocks, hK, hAd, hA, hSt, hfr, hlo, hce, hsl, hHas⟩ := hX
  obtain ⟨i, hi⟩ := List.getElem?_of_mem (hHas p k hp (by rw [hsh]; exact hk))
  have he := z_ws_at (mem := mem) hi
  rw [z_cellA hsh] at he
  exact va_alen hx hb hK hP i t0 he ht hv hd (kk H locs ls hP hS hl)
theorem z_gets {idx : Nat} (hX : zG ι M X n ps) (hd : zD M.2.1 pc (.getstatic idx) 3 npc) (h1 : 90 ≤ p) (h2 : p ≤ 95) (hw : Cond.fieldLink M.1.cls idx (zstv p).1 (zstv p).2.1 "[I" ∈ zTS) (kk : zW ι M X npc lv (zP p 0 :: st) mem) : zW ι M X pc lv st mem := by
  obtain ⟨P, l, e, R, s, m, args, below, meth, c, A, cells, slots, Q⟩ := X
  obtain ⟨hd, rfl⟩ := hd
  intro H locs ls hP hS hl
  obtain ⟨hx, hb, hml, hown, hts, hret, hlocks, hK, hAd, hA, hSt, hfr, hlo, hce, hsl, hHas⟩ := hX
  exact va_gets hx hb (hSt p h1 h2).1 hS hown (hts _ hw) (fun _ h => h) hd (kk H locs ls hP hS hl)
theorem z_getsN {idx : Nat} {host : String} (hX : zG ι M X n ps) (hd : zD M.2.1 pc (.getstatic idx) 3 npc) (h1 : 90 ≤ p) (h2 : p ≤ 95) (hw : Cond.fieldLinkNest M.1.cls idx (zstv p).1 (zstv p).2.1 "[I" host ∈ zTS) (kk : zW ι M X npc lv (zP p 0 :: st) mem) : zW ι M X pc lv st mem := by
  obtain ⟨P, l, e, R, s, m, args, below, meth, c, A, cells, slots, Q⟩ := X
  obtain ⟨hd, rfl⟩ := hd
  intro H locs ls hP hS hl
  obtain ⟨hx, hb, hml, hown, hts, hret, hlocks, hK, hAd, hA, hSt, hfr, hlo, hce, hsl, hHas⟩ := hX
  exact va_getsN hx hb (hSt p h1 h2).1 hS hown (hts _ hw) (fun _ h => h) hd (kk H locs ls hP hS hl)
theorem z_tald {j : Nat} {x : Int32} (hX : zG ι M X n ps) (hd : zD M.2.1 pc (.iaload) 1 npc) (h1 : 90 ≤ p) (h2 : p ≤ 95) (hN : zstN p < 2 ^ 31) (hx : x = nI j) (hj : j < zstN p) (kk : zW ι M X npc lv (zI (zstf p j) :: st) mem) : zW ι M X pc lv (zI x :: zP p 0 :: st) mem := by
  subst hx
  obtain ⟨P, l, e, R, s, m, args, below, meth, c, A, cells, slots, Q⟩ := X
  obtain ⟨hd, rfl⟩ := hd
  intro H locs ls hP hS hl
  obtain ⟨hx, hb, hml, hown, hts, hret, hlocks, hK, hAd, hA, hSt, hfr, hlo, hce, hsl, hHas⟩ := hX
  exact va_ti (v := .int (zstf p j)) hx hb (hSt p h1 h2).2 hS (vp_in_nI hj hN) (by rw [nI_clamp (Nat.lt_trans hj hN)]) hd (kk H locs ls hP hS hl)
end ZA
/-- what the tables say of an instance method, of a static one -/
def zMc (M : zMR) (na : Nat) : Prop := Cond.code M.1 M.2.1 M.2.2.1 M.2.2.2 ∈ zTS ∧ Cond.initialized M.1.cls ∈ zTS ∧ (M.1.cls ≠ "java/lang/invoke/MethodHandle" ∧ M.1.cls ≠ "java/lang/invoke/VarHandle") ∧ (parseMethodDescriptor M.1.desc).map (fun d => d.parameters.length) = some na ∧ M.2.2.1 ≤ 21
def zMI (M : zMR) (na : Nat) : Prop := zMc M na ∧ Cond.instanceMethod M.1 ∈ zTS ∧ Cond.selects M.1.cls M.1 M.1 ∈ zTS
def zMS (M : zMR) (na : Nat) : Prop := zMc M na ∧ Cond.static M.1 ∈ zTS
theorem zpre_blind {ι : zE} {mem : zM} {sz : Nat} {av : List Value} : FrameBlind (va_Pc av (zpre ι mem sz)) := fun a U g mk q => ⟨q.1, q.2.1, q.2.2.1, va_K.moved (u := U) (U := U.calling g mk a) (Vm.Alike.refl U.vm) q.2.2.2.1, q.2.2.2.2.1, z_stat.step (U := U.calling g mk a) q.2.2.2.2.2 (fun _ _ _ => rfl) (fun _ h => h) (Vm.Alike.refl U.vm)⟩
section ZC
variable {ι : zE} {M M' : zMR} {X : zX} {n n' : Nat} {ps : List Nat} {pc npc : Nat} {lv : List (Option zV)} {st stk as : List zV} {mem : zM} {p k cnt : Nat}
theorem z_callB {R : Room} {s : State} {args : Array Value} {own : String} {idx na : Nat} (hts : ∀ w ∈ zTS, w.before args s = true) (hfr : n ≤ R.frames) (hlo : 40 * n ≤ R.locals) (hn : n' < n) (hM : zMc M' na) (hl : Cond.methodLink own idx M'.1 ∈ zTS) : CallB R s args own idx M'.1 M'.2.1 M'.2.2.1 M'.2.2.2 (.code M'.1 M'.2.1 M'.2.2.1 M'.2.2.2 :: zTS) (zrm n') 0 0 na := by
  obtain ⟨h1, h2, h3, h4, h5⟩ := hM
  refine ⟨rfl, rfl, ?_, ?_, fun w hw a' U hW => ?_, List.mem_cons_self, hts _ h1, hts _ h2, h3, fun sig h => ?_, hts _ hl⟩
  · show n' + 1 ≤ R.frames
    omega
  · show 8 + (M'.2.2.1 + 11) + 40 * n' ≤ R.locals
    omega
  · rcases List.mem_cons.mp hw with rfl | hw
    · exact zTS_warm hW h1 (hts _ h1)
    · exact zTS_warm hW hw (hts _ hw)
  · rw [h] at h4
    exact (Option.some.inj h4).symm
theorem z_back {P : Program} {l : Launch} {e : Env} {R : Room} {s : State} {m : MethodId} {args : Array Value} {below : List Frame} {meth : Method} {c : Code} {A : Nat → Prop} {cells slots : Nat} {Q : State → Prop} {H : Heap} {locs : List Loc} {ls : Array Slot} {a : Array Value} (hAd : zAd ι A) (hA : ∀ q, s.heap.size ≤ q → A q) (hS : va_S A s.heap H locs) (hl : lv_has ls M.2.2.1 (z_lv (zeR ι) lv))
    (hr : va_Run P l e R s m args below meth c H locs cells slots 0 0 (F0 m pc ls (stk.map (z_tv (zeR ι)))) (st.map (z_tv (zeR ι))) (zQ ι (fun r mem' => zW ι M (P, l, e, R, s, m, args, below, meth, c, A, cells, slots, Q) (pc + 3) lv (r.toList ++ st) mem') (va_A (z_ws ι mem) H.size) a) (va_A (z_ws ι mem) H.size)) : W P l e R s m args below meth c H locs cells slots Q (F0 m pc ls (stk.map (z_tv (zeR ι)))) := by
  intro T hT X
  obtain ⟨v, st₀, t, T', L, h0, X', hL, e1, e2, ⟨⟨r, mem', hv, hp, hb⟩, hz, hk⟩, stp⟩ := hr T hT X
  have hsub : ∀ q, va_A (z_ws ι mem) H.size q → A q := fun q h => zA_of hAd (fun q h => hA q (Nat.le_trans hS.1 h)) h
  have hv2 : v = r.map (z_tv (zeR ι)) := by cases hv; rfl
  subst hv2
  rw [h0] at hz hk
  have hst : (r.map (z_tv (zeR ι))).toList ++ st.map (z_tv (zeR ι)) = (r.toList ++ st).map (z_tv (zeR ι)) := by cases r <;> rfl
  obtain ⟨t2, a1, b1⟩ := hp T'.heap (locs ++ L) ls (by rw [e1]; exact hb) ⟨Nat.le_trans hS.1 (by rw [e1]; exact hz), fun q h1 h2 => by rw [e1, hk q (Nat.lt_of_lt_of_le h1 hS.1) (fun z => h2 (hsub q z))]; exact hS.2.1 q h1 h2, fun q hq => by
      rcases List.mem_append.mp hq with h | h
      · exact hS.2.2 q h
      · exact hsub _ (hL q h)⟩ hl T' rfl X'
  refine ⟨t2, stp t2 ?_, b1⟩
  rw [← hst] at a1
  exact a1
theorem z_callV {idx ci na N : Nat} {T : u_T} {sks : List zK} (hX : zG ι M X n ps) (hd : zD M.2.1 pc (.invokevirtual idx) 3 npc) (hM : zMI M' na) (hl : Cond.methodLink M.1.cls idx M'.1 ∈ zTS) (hsh : zsh p = (cnt, .inl (ci, sks))) (hcl : zCl[ci]? = some (M'.1.cls, T, N)) (hp : p ∈ ps) (hk : k < cnt) (hn : n' < n) (has : as.length = na) (hst : as.reverse ++ zP p k :: st = stk) (hsz : ((st.map (z_tv (zeR ι))).map fun v => v.category).sum ≤ 8) (hC : zC X.2.1 ι M' n' (zP p k :: as) mem (fun r mem' => zW ι M X npc lv (r.toList ++ st) mem')) : zW ι M X pc lv stk mem := by
  obtain ⟨P, l, e, R, s, m, args, below, meth, c, A, cells, slots, Q⟩ := X
  obtain ⟨hd, rfl⟩ := hd
  intro H locs ls hP hS hl2
  obtain ⟨hx, hb, hml, hown, hts, hret, hlocks, hK, hAd, hA, hSt, hfr, hlo, hce, hsl, hHas⟩ := hX
  obtain ⟨i, hi⟩ := List.getElem?_of_mem (hHas p k hp (by rw [hsh]; exact hk))
  have he := z_ws_at (mem := mem) hi
  rw [z_cellO hsh] at he
  have hsub : ∀ q, va_A (z_ws ι mem) H.size q → A q := fun q h => zA_of hAd (fun q h => hA q (Nat.le_trans hS.1 h)) h
  refine z_back (mem := mem) (a := (z_tv (zeR ι) (zP p k) :: as.map (z_tv (zeR ι))).toArray) hAd hA hS hl2 (va_runV (As := as.map (z_tv (zeR ι))) (rest := st.map (z_tv (zeR ι))) (C := M'.1.cls) ⟨hx, hb, hml, hown, hts⟩ (hC H.size) ⟨z_callB hts hfr hlo hn hM.1 hl, hts _ hM.2.1, hts _ hM.2.2⟩ ⟨zpre_blind, va_recv hK hP hcl he, fun U hU hW => ⟨rfl, by rw [hU], by rw [hU]; exact hP, va_K.moved hW.alike hK, hAd.weak (fun _ _ => trivial), hSt.step (by rw [hU]; exact hS.2.1) hsub hW.alike⟩⟩ rfl (by simpa using has) hl2.1 (by rw [← hst]; simp [z_tv]) ?_ hd ⟨hce, hsl⟩)
  show 2 * 0 + _ ≤ 8
  omega
theorem z_callS {idx na : Nat} (hX : zG ι M X n ps) (hd : zD M.2.1 pc (.invokestatic idx) 3 npc) (hM : zMS M' na) (hl : Cond.methodLink M.1.cls idx M'.1 ∈ zTS) (hn : n' < n) (has : as.length = na) (hst : as.reverse ++ st = stk) (hsz : ((st.map (z_tv (zeR ι))).map fun v => v.category).sum ≤ 8) (hC : zC X.2.1 ι M' n' as mem (fun r mem' => zW ι M X npc lv (r.toList ++ st) mem')) : zW ι M X pc lv stk mem := by
  obtain ⟨P, l, e, R, s, m, args, below, meth, c, A, cells, slots, Q⟩ := X
  obtain ⟨hd, rfl⟩ := hd
  intro H locs ls hP hS hl2
  obtain ⟨hx, hb, hml, hown, hts, hret, hlocks, hK, hAd, hA, hSt, hfr, hlo, hce, hsl, hHas⟩ := hX
  have hsub : ∀ q, va_A (z_ws ι mem) H.size q → A q := fun q h => zA_of hAd (fun q h => hA q (Nat.le_trans hS.1 h)) h
  refine z_back (mem := mem) (a := (as.map (z_tv (zeR ι))).toArray) hAd hA hS hl2 (va_runS (As := as.map (z_tv (zeR ι))) (rest := st.map (z_tv (zeR ι))) ⟨hx, hb, hml, hown, hts⟩ (hC H.size) ⟨z_callB hts hfr hlo hn hM.1 hl, hts _ hM.2⟩ ⟨zpre_blind, fun U hU hW => ⟨rfl, by rw [hU], by rw [hU]; exact hP, va_K.moved hW.alike hK, hAd.weak (fun _ _ => trivial), hSt.step (by rw [hU]; exact hS.2.1) hsub hW.alike⟩⟩ rfl (by simpa using has) hl2.1 (by rw [← hst]; simp) ?_ hd ⟨hce, hsl⟩)
  show 2 * 0 + _ ≤ 8
  omega
end ZC
end
section
theorem inX0 : ∀ w ∈ u_ws RX0 TX0 5, w ∈ zTS := by decide +kernel
theorem inX1 : ∀ w ∈ u_ws RX1 TX1 2, w ∈ zTS := by decide +kernel
theorem inX2 : ∀ w ∈ u_ws RX2 TX2 14, w ∈ zTS := by decide +kernel
theorem inX3 : ∀ w ∈ u_ws RX3 TX3 5, w ∈ zTS := by decide +kernel
theorem inX4 : ∀ w ∈ u_ws RX4 TX4 4, w ∈ zTS := by decide +kernel
theorem inX5 : ∀ w ∈ u_ws RX5 TX5 4, w ∈ zTS := by decide +kernel
theorem inX6 : ∀ w ∈ u_ws RX6 TX6 5, w ∈ zTS := by decide +kernel
theorem inX7 : ∀ w ∈ u_ws RX7 TX7 13, w ∈ zTS := by decide +kernel
theorem inX8 : ∀ w ∈ u_ws RX8 TX8 9, w ∈ zTS := by decide +kernel
theorem inX9 : ∀ w ∈ u_ws RX9 TX9 45, w ∈ zTS := by decide +kernel
theorem l_Law0_9 : Cond.methodLink "FourCubesLaw" 9 M_Four_init.1 ∈ zTS := zTS_of 17 (by decide +kernel) (by decide +kernel)
theorem w_Cube_9 : Cond.fieldLink RX1 9 RX1 (TX1 0).2.1 (TX1 0).2.2.1 ∈ zTS := zTS_of 30 (by decide +kernel) (by decide +kernel)
theorem f_Cube_9 : zF RX1 9 1 0 := ⟨RX1, TX1, 2, rfl, by decide, w_Cube_9, inX1, rfl⟩
theorem w_Four_71 : Cond.fieldLink RX8 71 RX1 (TX1 0).2.1 (TX1 0).2.2.1 ∈ zTS := zTS_of 31 (by decide +kernel) (by decide +kernel)
theorem f_Four_71 : zF RX8 71 1 0 := ⟨RX1, TX1, 2, rfl, by decide, w_Four_71, inX1, rfl⟩
theorem w_Tower_99 : Cond.fieldLink RX7 99 RX1 (TX1 0).2.1 (TX1 0).2.2.1 ∈ zTS := zTS_of 32 (by decide +kernel) (by decide +kernel)
theorem f_Tower_99 : zF RX7 99 1 0 := ⟨RX1, TX1, 2, rfl, by decide, w_Tower_99, inX1, rfl⟩
theorem w_Cube_15 : Cond.fieldLink RX1 15 RX1 (TX1 1).2.1 (TX1 1).2.2.1 ∈ zTS := zTS_of 33 (by decide +kernel) (by decide +kernel)
theorem g_Cube_15 : zFp RX1 15 1 1 (.int) := ⟨RX1, TX1, 2, tyX1, rfl, by decide, w_Cube_15, inX1, rfl, tyX1_ok, nmX1, rfl, by decide +kernel⟩
theorem w_Tower_52 : Cond.fieldLink RX7 52 RX1 (TX1 1).2.1 (TX1 1).2.2.1 ∈ zTS := zTS_of 34 (by decide +kernel) (by decide +kernel)
theorem f_Tower_52 : zF RX7 52 1 1 := ⟨RX1, TX1, 2, rfl, by decide, w_Tower_52, inX1, rfl⟩
theorem w_Four_113 : Cond.fieldLink RX8 113 RX1 (TX1 1).2.1 (TX1 1).2.2.1 ∈ zTS := zTS_of 35 (by decide +kernel) (by decide +kernel)
theorem f_Four_113 : zF RX8 113 1 1 := ⟨RX1, TX1, 2, rfl, by decide, w_Four_113, inX1, rfl⟩
theorem g_Four_113 : zFp RX8 113 1 1 (.int) := ⟨RX1, TX1, 2, tyX1, rfl, by decide, w_Four_113, inX1, rfl, tyX1_ok, nmX1, rfl, by decide +kernel⟩
theorem l_Four_18 : Cond.methodLink RX8 18 M_Law_init.1 ∈ zTS := zTS_of 44 (by decide +kernel) (by decide +kernel)
theorem l_Law_28 : Cond.methodLink RX2 28 M_Law_workOutAll.1 ∈ zTS := zTS_of 48 (by decide +kernel) (by decide +kernel)
theorem s_Law_94 : Cond.fieldLinkNest RX2 94 RX8 "LOWER" "[I" RX8 ∈ zTS := zTS_of 52 (by decide +kernel) (by decide +kernel)
theorem s_Law_100 : Cond.fieldLinkNest RX2 100 RX8 "HIGHER" "[I" RX8 ∈ zTS := zTS_of 54 (by decide +kernel) (by decide +kernel)
theorem l_Law_106 : Cond.methodLink RX2 106 M_Law_workedOut.1 ∈ zTS := zTS_of 56 (by decide +kernel) (by decide +kernel)
theorem l_Law_76 : Cond.methodLink RX2 76 M_Law_isName.1 ∈ zTS := zTS_of 60 (by decide +kernel) (by decide +kernel)
theorem l_Law_109 : Cond.methodLink RX2 109 M_Law_named.1 ∈ zTS := zTS_of 63 (by decide +kernel) (by decide +kernel)
theorem l_Law_113 : Cond.methodLink RX2 113 M_Law_turned.1 ∈ zTS := zTS_of 67 (by decide +kernel) (by decide +kernel)
theorem l_Law_117 : Cond.methodLink RX2 117 M_Law_joined.1 ∈ zTS := zTS_of 70 (by decide +kernel) (by decide +kernel)
theorem w_Law_11 : Cond.fieldLink RX2 11 RX2 (TX2 0).2.1 (TX2 0).2.2.1 ∈ zTS := zTS_of 73 (by decide +kernel) (by decide +kernel)
theorem f_Law_11 : zF RX2 11 2 0 := ⟨RX2, TX2, 14, rfl, by decide, w_Law_11, inX2, rfl⟩
theorem w_Law_31 : Cond.fieldLink RX2 31 RX2 (TX2 1).2.1 (TX2 1).2.2.1 ∈ zTS := zTS_of 74 (by decide +kernel) (by decide +kernel)
theorem f_Law_31 : zF RX2 31 2 1 := ⟨RX2, TX2, 14, rfl, by decide, w_Law_31, inX2, rfl⟩
theorem g_Law_31 : zFp RX2 31 2 1 (.int) := ⟨RX2, TX2, 14, tyX2, rfl, by decide, w_Law_31, inX2, rfl, tyX2_ok, nmX2, rfl, by decide +kernel⟩
theorem w_Four_301 : Cond.fieldLink RX8 301 RX2 (TX2 1).2.1 (TX2 1).2.2.1 ∈ zTS := zTS_of 75 (by decide +kernel) (by decide +kernel)
theorem f_Four_301 : zF RX8 301 2 1 := ⟨RX2, TX2, 14, rfl, by decide, w_Four_301, inX2, rfl⟩
theorem w_Law_35 : Cond.fieldLink RX2 35 RX2 (TX2 2).2.1 (TX2 2).2.2.1 ∈ zTS := zTS_of 76 (by decide +kernel) (by decide +kernel)
theorem f_Law_35 : zF RX2 35 2 2 := ⟨RX2, TX2, 14, rfl, by decide, w_Law_35, inX2, rfl⟩
theorem g_Law_35 : zFp RX2 35 2 2 (.int) := ⟨RX2, TX2, 14, tyX2, rfl, by decide, w_Law_35, inX2, rfl, tyX2_ok, nmX2, rfl, by decide +kernel⟩
theorem w_Law_15 : Cond.fieldLink RX2 15 RX2 (TX2 3).2.1 (TX2 3).2.2.1 ∈ zTS := zTS_of 77 (by decide +kernel) (by decide +kernel)
theorem f_Law_15 : zF RX2 15 2 3 := ⟨RX2, TX2, 14, rfl, by decide, w_Law_15, inX2, rfl⟩
theorem g_Law_15 : zFp RX2 15 2 3 (.array .int) := ⟨RX2, TX2, 14, tyX2, rfl, by decide, w_Law_15, inX2, rfl, tyX2_ok, nmX2, rfl, by decide +kernel⟩
theorem w_Law_38 : Cond.fieldLink RX2 38 RX2 (TX2 4).2.1 (TX2 4).2.2.1 ∈ zTS := zTS_of 78 (by decide +kernel) (by decide +kernel)
theorem f_Law_38 : zF RX2 38 2 4 := ⟨RX2, TX2, 14, rfl, by decide, w_Law_38, inX2, rfl⟩
theorem g_Law_38 : zFp RX2 38 2 4 (.int) := ⟨RX2, TX2, 14, tyX2, rfl, by decide, w_Law_38, inX2, rfl, tyX2_ok, nmX2, rfl, by decide +kernel⟩
theorem w_Law_18 : Cond.fieldLink RX2 18 RX2 (TX2 5).2.1 (TX2 5).2.2.1 ∈ zTS := zTS_of 79 (by decide +kernel) (by decide +kernel)
theorem f_Law_18 : zF RX2 18 2 5 := ⟨RX2, TX2, 14, rfl, by decide, w_Law_18, inX2, rfl⟩
theorem g_Law_18 : zFp RX2 18 2 5 (.array .int) := ⟨RX2, TX2, 14, tyX2, rfl, by decide, w_Law_18, inX2, rfl, tyX2_ok, nmX2, rfl, by decide +kernel⟩
theorem w_Law_45 : Cond.fieldLink RX2 45 RX2 (TX2 6).2.1 (TX2 6).2.2.1 ∈ zTS := zTS_of 80 (by decide +kernel) (by decide +kernel)
theorem f_Law_45 : zF RX2 45 2 6 := ⟨RX2, TX2, 14, rfl, by decide, w_Law_45, inX2, rfl⟩
theorem g_Law_45 : zFp RX2 45 2 6 (.int) := ⟨RX2, TX2, 14, tyX2, rfl, by decide, w_Law_45, inX2, rfl, tyX2_ok, nmX2, rfl, by decide +kernel⟩
theorem w_Law_21 : Cond.fieldLink RX2 21 RX2 (TX2 7).2.1 (TX2 7).2.2.1 ∈ zTS := zTS_of 81 (by decide +kernel) (by decide +kernel)
theorem f_Law_21 : zF RX2 21 2 7 := ⟨RX2, TX2, 14, rfl, by decide, w_Law_21, inX2, rfl⟩
theorem w_Law_85 : Cond.fieldLink RX2 85 RX2 (TX2 8).2.1 (TX2 8).2.2.1 ∈ zTS := zTS_of 82 (by decide +kernel) (by decide +kernel)
theorem f_Law_85 : zF RX2 85 2 8 := ⟨RX2, TX2, 14, rfl, by decide, w_Law_85, inX2, rfl⟩
theorem g_Law_85 : zFp RX2 85 2 8 (.int) := ⟨RX2, TX2, 14, tyX2, rfl, by decide, w_Law_85, inX2, rfl, tyX2_ok, nmX2, rfl, by decide +kernel⟩
theorem w_Law_88 : Cond.fieldLink RX2 88 RX2 (TX2 9).2.1 (TX2 9).2.2.1 ∈ zTS := zTS_of 83 (by decide +kernel) (by decide +kernel)
theorem f_Law_88 : zF RX2 88 2 9 := ⟨RX2, TX2, 14, rfl, by decide, w_Law_88, inX2, rfl⟩
theorem g_Law_88 : zFp RX2 88 2 9 (.int) := ⟨RX2, TX2, 14, tyX2, rfl, by decide, w_Law_88, inX2, rfl, tyX2_ok, nmX2, rfl, by decide +kernel⟩
theorem w_Law_91 : Cond.fieldLink RX2 91 RX2 (TX2 10).2.1 (TX2 10).2.2.1 ∈ zTS := zTS_of 84 (by decide +kernel) (by decide +kernel)
theorem f_Law_91 : zF RX2 91 2 10 := ⟨RX2, TX2, 14, rfl, by decide, w_Law_91, inX2, rfl⟩
theorem g_Law_91 : zFp RX2 91 2 10 (.int) := ⟨RX2, TX2, 14, tyX2, rfl, by decide, w_Law_91, inX2, rfl, tyX2_ok, nmX2, rfl, by decide +kernel⟩
theorem w_Law_97 : Cond.fieldLink RX2 97 RX2 (TX2 11).2.1 (TX2 11).2.2.1 ∈ zTS := zTS_of 85 (by decide +kernel) (by decide +kernel)
theorem f_Law_97 : zF RX2 97 2 11 := ⟨RX2, TX2, 14, rfl, by decide, w_Law_97, inX2, rfl⟩
theorem g_Law_97 : zFp RX2 97 2 11 (.int) := ⟨RX2, TX2, 14, tyX2, rfl, by decide, w_Law_97, inX2, rfl, tyX2_ok, nmX2, rfl, by decide +kernel⟩
theorem w_Law_103 : Cond.fieldLink RX2 103 RX2 (TX2 12).2.1 (TX2 12).2.2.1 ∈ zTS := zTS_of 86 (by decide +kernel) (by decide +kernel)
theorem f_Law_103 : zF RX2 103 2 12 := ⟨RX2, TX2, 14, rfl, by decide, w_Law_103, inX2, rfl⟩
theorem g_Law_103 : zFp RX2 103 2 12 (.int) := ⟨RX2, TX2, 14, tyX2, rfl, by decide, w_Law_103, inX2, rfl, tyX2_ok, nmX2, rfl, by decide +kernel⟩
theorem w_Law_24 : Cond.fieldLink RX2 24 RX2 (TX2 13).2.1 (TX2 13).2.2.1 ∈ zTS := zTS_of 87 (by decide +kernel) (by decide +kernel)
theorem f_Law_24 : zF RX2 24 2 13 := ⟨RX2, TX2, 14, rfl, by decide, w_Law_24, inX2, rfl⟩
theorem w_Tower_49 : Cond.fieldLink RX7 49 RX5 (TX5 0).2.1 (TX5 0).2.2.1 ∈ zTS := zTS_of 126 (by decide +kernel) (by decide +kernel)
theorem g_Tower_49 : zFp RX7 49 5 0 (.int) := ⟨RX5, TX5, 4, tyX5, rfl, by decide, w_Tower_49, inX5, rfl, tyX5_ok, nmX5, rfl, by decide +kernel⟩
theorem w_Search_34 : Cond.fieldLink RX5 34 RX5 (TX5 0).2.1 (TX5 0).2.2.1 ∈ zTS := zTS_of 127 (by decide +kernel) (by decide +kernel)
theorem f_Search_34 : zF RX5 34 5 0 := ⟨RX5, TX5, 4, rfl, by decide, w_Search_34, inX5, rfl⟩
theorem w_Search_9 : Cond.fieldLink RX5 9 RX5 (TX5 1).2.1 (TX5 1).2.2.1 ∈ zTS := zTS_of 128 (by decide +kernel) (by decide +kernel)
theorem f_Search_9 : zF RX5 9 5 1 := ⟨RX5, TX5, 4, rfl, by decide, w_Search_9, inX5, rfl⟩
theorem w_Tower_68 : Cond.fieldLink RX7 68 RX5 (TX5 1).2.1 (TX5 1).2.2.1 ∈ zTS := zTS_of 129 (by decide +kernel) (by decide +kernel)
theorem f_Tower_68 : zF RX7 68 5 1 := ⟨RX5, TX5, 4, rfl, by decide, w_Tower_68, inX5, rfl⟩
theorem w_Search_15 : Cond.fieldLink RX5 15 RX5 (TX5 2).2.1 (TX5 2).2.2.1 ∈ zTS := zTS_of 130 (by decide +kernel) (by decide +kernel)
theorem f_Search_15 : zF RX5 15 5 2 := ⟨RX5, TX5, 4, rfl, by decide, w_Search_15, inX5, rfl⟩
theorem w_Tower_87 : Cond.fieldLink RX7 87 RX5 (TX5 2).2.1 (TX5 2).2.2.1 ∈ zTS := zTS_of 131 (by decide +kernel) (by decide +kernel)
theorem f_Tower_87 : zF RX7 87 5 2 := ⟨RX5, TX5, 4, rfl, by decide, w_Tower_87, inX5, rfl⟩
theorem w_Search_18 : Cond.fieldLink RX5 18 RX5 (TX5 3).2.1 (TX5 3).2.2.1 ∈ zTS := zTS_of 132 (by decide +kernel) (by decide +kernel)
theorem f_Search_18 : zF RX5 18 5 3 := ⟨RX5, TX5, 4, rfl, by decide, w_Search_18, inX5, rfl⟩
theorem w_Tower_125 : Cond.fieldLink RX7 125 RX5 (TX5 3).2.1 (TX5 3).2.2.1 ∈ zTS := zTS_of 133 (by decide +kernel) (by decide +kernel)
theorem f_Tower_125 : zF RX7 125 5 3 := ⟨RX5, TX5, 4, rfl, by decide, w_Tower_125, inX5, rfl⟩
theorem l_Four_28 : Cond.methodLink RX8 28 M_Tower_init.1 ∈ zTS := zTS_of 143 (by decide +kernel) (by decide +kernel)
theorem w_Tower_34 : Cond.fieldLink RX7 34 RX7 (TX7 0).2.1 (TX7 0).2.2.1 ∈ zTS := zTS_of 148 (by decide +kernel) (by decide +kernel)
theorem f_Tower_34 : zF RX7 34 7 0 := ⟨RX7, TX7, 13, rfl, by decide, w_Tower_34, inX7, rfl⟩
theorem w_Tower_37 : Cond.fieldLink RX7 37 RX7 (TX7 1).2.1 (TX7 1).2.2.1 ∈ zTS := zTS_of 149 (by decide +kernel) (by decide +kernel)
theorem f_Tower_37 : zF RX7 37 7 1 := ⟨RX7, TX7, 13, rfl, by decide, w_Tower_37, inX7, rfl⟩
theorem w_Tower_41 : Cond.fieldLink RX7 41 RX7 (TX7 2).2.1 (TX7 2).2.2.1 ∈ zTS := zTS_of 150 (by decide +kernel) (by decide +kernel)
theorem f_Tower_41 : zF RX7 41 7 2 := ⟨RX7, TX7, 13, rfl, by decide, w_Tower_41, inX7, rfl⟩
theorem w_Four_157 : Cond.fieldLink RX8 157 RX7 (TX7 2).2.1 (TX7 2).2.2.1 ∈ zTS := zTS_of 151 (by decide +kernel) (by decide +kernel)
theorem f_Four_157 : zF RX8 157 7 2 := ⟨RX7, TX7, 13, rfl, by decide, w_Four_157, inX7, rfl⟩
theorem w_Tower_11 : Cond.fieldLink RX7 11 RX7 (TX7 3).2.1 (TX7 3).2.2.1 ∈ zTS := zTS_of 152 (by decide +kernel) (by decide +kernel)
theorem f_Tower_11 : zF RX7 11 7 3 := ⟨RX7, TX7, 13, rfl, by decide, w_Tower_11, inX7, rfl⟩
theorem w_Four_191 : Cond.fieldLink RX8 191 RX7 (TX7 3).2.1 (TX7 3).2.2.1 ∈ zTS := zTS_of 153 (by decide +kernel) (by decide +kernel)
theorem f_Four_191 : zF RX8 191 7 3 := ⟨RX7, TX7, 13, rfl, by decide, w_Four_191, inX7, rfl⟩
theorem w_Tower_17 : Cond.fieldLink RX7 17 RX7 (TX7 4).2.1 (TX7 4).2.2.1 ∈ zTS := zTS_of 154 (by decide +kernel) (by decide +kernel)
theorem f_Tower_17 : zF RX7 17 7 4 := ⟨RX7, TX7, 13, rfl, by decide, w_Tower_17, inX7, rfl⟩
theorem w_Tower_45 : Cond.fieldLink RX7 45 RX7 (TX7 5).2.1 (TX7 5).2.2.1 ∈ zTS := zTS_of 155 (by decide +kernel) (by decide +kernel)
theorem f_Tower_45 : zF RX7 45 7 5 := ⟨RX7, TX7, 13, rfl, by decide, w_Tower_45, inX7, rfl⟩
theorem g_Tower_45 : zFp RX7 45 7 5 (.int) := ⟨RX7, TX7, 13, tyX7, rfl, by decide, w_Tower_45, inX7, rfl, tyX7_ok, nmX7, rfl, by decide +kernel⟩
theorem w_Four_194 : Cond.fieldLink RX8 194 RX7 (TX7 5).2.1 (TX7 5).2.2.1 ∈ zTS := zTS_of 156 (by decide +kernel) (by decide +kernel)
theorem f_Four_194 : zF RX8 194 7 5 := ⟨RX7, TX7, 13, rfl, by decide, w_Four_194, inX7, rfl⟩
theorem w_Tower_21 : Cond.fieldLink RX7 21 RX7 (TX7 6).2.1 (TX7 6).2.2.1 ∈ zTS := zTS_of 157 (by decide +kernel) (by decide +kernel)
theorem f_Tower_21 : zF RX7 21 7 6 := ⟨RX7, TX7, 13, rfl, by decide, w_Tower_21, inX7, rfl⟩
theorem w_Tower_24 : Cond.fieldLink RX7 24 RX7 (TX7 7).2.1 (TX7 7).2.2.1 ∈ zTS := zTS_of 158 (by decide +kernel) (by decide +kernel)
theorem f_Tower_24 : zF RX7 24 7 7 := ⟨RX7, TX7, 13, rfl, by decide, w_Tower_24, inX7, rfl⟩
theorem w_Tower_27 : Cond.fieldLink RX7 27 RX7 (TX7 8).2.1 (TX7 8).2.2.1 ∈ zTS := zTS_of 159 (by decide +kernel) (by decide +kernel)
theorem f_Tower_27 : zF RX7 27 7 8 := ⟨RX7, TX7, 13, rfl, by decide, w_Tower_27, inX7, rfl⟩
theorem w_Tower_31 : Cond.fieldLink RX7 31 RX7 (TX7 9).2.1 (TX7 9).2.2.1 ∈ zTS := zTS_of 160 (by decide +kernel) (by decide +kernel)
theorem f_Tower_31 : zF RX7 31 7 9 := ⟨RX7, TX7, 13, rfl, by decide, w_Tower_31, inX7, rfl⟩
theorem w_Tower_146 : Cond.fieldLink RX7 146 RX7 (TX7 10).2.1 (TX7 10).2.2.1 ∈ zTS := zTS_of 161 (by decide +kernel) (by decide +kernel)
theorem f_Tower_146 : zF RX7 146 7 10 := ⟨RX7, TX7, 13, rfl, by decide, w_Tower_146, inX7, rfl⟩
theorem g_Tower_146 : zFp RX7 146 7 10 (.int) := ⟨RX7, TX7, 13, tyX7, rfl, by decide, w_Tower_146, inX7, rfl, tyX7_ok, nmX7, rfl, by decide +kernel⟩
theorem w_Tower_115 : Cond.fieldLink RX7 115 RX7 (TX7 11).2.1 (TX7 11).2.2.1 ∈ zTS := zTS_of 162 (by decide +kernel) (by decide +kernel)
theorem f_Tower_115 : zF RX7 115 7 11 := ⟨RX7, TX7, 13, rfl, by decide, w_Tower_115, inX7, rfl⟩
theorem g_Tower_115 : zFp RX7 115 7 11 (.int) := ⟨RX7, TX7, 13, tyX7, rfl, by decide, w_Tower_115, inX7, rfl, tyX7_ok, nmX7, rfl, by decide +kernel⟩
theorem w_Four_177 : Cond.fieldLink RX8 177 RX7 (TX7 11).2.1 (TX7 11).2.2.1 ∈ zTS := zTS_of 163 (by decide +kernel) (by decide +kernel)
theorem f_Four_177 : zF RX8 177 7 11 := ⟨RX7, TX7, 13, rfl, by decide, w_Four_177, inX7, rfl⟩
theorem w_Tower_122 : Cond.fieldLink RX7 122 RX7 (TX7 12).2.1 (TX7 12).2.2.1 ∈ zTS := zTS_of 164 (by decide +kernel) (by decide +kernel)
theorem g_Tower_122 : zFp RX7 122 7 12 (.int) := ⟨RX7, TX7, 13, tyX7, rfl, by decide, w_Tower_122, inX7, rfl, tyX7_ok, nmX7, rfl, by decide +kernel⟩
theorem w_Four_180 : Cond.fieldLink RX8 180 RX7 (TX7 12).2.1 (TX7 12).2.2.1 ∈ zTS := zTS_of 165 (by decide +kernel) (by decide +kernel)
theorem f_Four_180 : zF RX8 180 7 12 := ⟨RX7, TX7, 13, rfl, by decide, w_Four_180, inX7, rfl⟩
theorem w_Rings_11 : Cond.fieldLink RX4 11 RX4 (TX4 0).2.1 (TX4 0).2.2.1 ∈ zTS := zTS_of 200 (by decide +kernel) (by decide +kernel)
theorem f_Rings_11 : zF RX4 11 4 0 := ⟨RX4, TX4, 4, rfl, by decide, w_Rings_11, inX4, rfl⟩
theorem w_Rings_15 : Cond.fieldLink RX4 15 RX4 (TX4 1).2.1 (TX4 1).2.2.1 ∈ zTS := zTS_of 201 (by decide +kernel) (by decide +kernel)
theorem f_Rings_15 : zF RX4 15 4 1 := ⟨RX4, TX4, 4, rfl, by decide, w_Rings_15, inX4, rfl⟩
theorem w_Rings_22 : Cond.fieldLink RX4 22 RX4 (TX4 2).2.1 (TX4 2).2.2.1 ∈ zTS := zTS_of 202 (by decide +kernel) (by decide +kernel)
theorem f_Rings_22 : zF RX4 22 4 2 := ⟨RX4, TX4, 4, rfl, by decide, w_Rings_22, inX4, rfl⟩
theorem g_Rings_22 : zFp RX4 22 4 2 (.int) := ⟨RX4, TX4, 4, tyX4, rfl, by decide, w_Rings_22, inX4, rfl, tyX4_ok, nmX4, rfl, by decide +kernel⟩
theorem w_Four_201 : Cond.fieldLink RX8 201 RX4 (TX4 2).2.1 (TX4 2).2.2.1 ∈ zTS := zTS_of 203 (by decide +kernel) (by decide +kernel)
theorem f_Four_201 : zF RX8 201 4 2 := ⟨RX4, TX4, 4, rfl, by decide, w_Four_201, inX4, rfl⟩
theorem w_Rings_18 : Cond.fieldLink RX4 18 RX4 (TX4 3).2.1 (TX4 3).2.2.1 ∈ zTS := zTS_of 204 (by decide +kernel) (by decide +kernel)
theorem f_Rings_18 : zF RX4 18 4 3 := ⟨RX4, TX4, 4, rfl, by decide, w_Rings_18, inX4, rfl⟩
theorem g_Rings_18 : zFp RX4 18 4 3 (.int) := ⟨RX4, TX4, 4, tyX4, rfl, by decide, w_Rings_18, inX4, rfl, tyX4_ok, nmX4, rfl, by decide +kernel⟩
theorem w_Past_9 : Cond.fieldLink RX3 9 RX3 (TX3 0).2.1 (TX3 0).2.2.1 ∈ zTS := zTS_of 220 (by decide +kernel) (by decide +kernel)
theorem f_Past_9 : zF RX3 9 3 0 := ⟨RX3, TX3, 5, rfl, by decide, w_Past_9, inX3, rfl⟩
theorem w_Four_237 : Cond.fieldLink RX8 237 RX3 (TX3 0).2.1 (TX3 0).2.2.1 ∈ zTS := zTS_of 221 (by decide +kernel) (by decide +kernel)
theorem f_Four_237 : zF RX8 237 3 0 := ⟨RX3, TX3, 5, rfl, by decide, w_Four_237, inX3, rfl⟩
theorem w_Past_13 : Cond.fieldLink RX3 13 RX3 (TX3 1).2.1 (TX3 1).2.2.1 ∈ zTS := zTS_of 222 (by decide +kernel) (by decide +kernel)
theorem f_Past_13 : zF RX3 13 3 1 := ⟨RX3, TX3, 5, rfl, by decide, w_Past_13, inX3, rfl⟩
theorem w_Four_238 : Cond.fieldLink RX8 238 RX3 (TX3 1).2.1 (TX3 1).2.2.1 ∈ zTS := zTS_of 223 (by decide +kernel) (by decide +kernel)
theorem f_Four_238 : zF RX8 238 3 1 := ⟨RX3, TX3, 5, rfl, by decide, w_Four_238, inX3, rfl⟩
theorem w_Past_16 : Cond.fieldLink RX3 16 RX3 (TX3 2).2.1 (TX3 2).2.2.1 ∈ zTS := zTS_of 224 (by decide +kernel) (by decide +kernel)
theorem f_Past_16 : zF RX3 16 3 2 := ⟨RX3, TX3, 5, rfl, by decide, w_Past_16, inX3, rfl⟩
theorem w_Four_244 : Cond.fieldLink RX8 244 RX3 (TX3 2).2.1 (TX3 2).2.2.1 ∈ zTS := zTS_of 225 (by decide +kernel) (by decide +kernel)
theorem f_Four_244 : zF RX8 244 3 2 := ⟨RX3, TX3, 5, rfl, by decide, w_Four_244, inX3, rfl⟩
theorem w_Past_19 : Cond.fieldLink RX3 19 RX3 (TX3 3).2.1 (TX3 3).2.2.1 ∈ zTS := zTS_of 226 (by decide +kernel) (by decide +kernel)
theorem f_Past_19 : zF RX3 19 3 3 := ⟨RX3, TX3, 5, rfl, by decide, w_Past_19, inX3, rfl⟩
theorem g_Past_19 : zFp RX3 19 3 3 (.int) := ⟨RX3, TX3, 5, tyX3, rfl, by decide, w_Past_19, inX3, rfl, tyX3_ok, nmX3, rfl, by decide +kernel⟩
theorem w_Four_234 : Cond.fieldLink RX8 234 RX3 (TX3 3).2.1 (TX3 3).2.2.1 ∈ zTS := zTS_of 227 (by decide +kernel) (by decide +kernel)
theorem f_Four_234 : zF RX8 234 3 3 := ⟨RX3, TX3, 5, rfl, by decide, w_Four_234, inX3, rfl⟩
theorem g_Four_234 : zFp RX8 234 3 3 (.int) := ⟨RX3, TX3, 5, tyX3, rfl, by decide, w_Four_234, inX3, rfl, tyX3_ok, nmX3, rfl, by decide +kernel⟩
theorem w_Past_26 : Cond.fieldLink RX3 26 RX3 (TX3 4).2.1 (TX3 4).2.2.1 ∈ zTS := zTS_of 228 (by decide +kernel) (by decide +kernel)
theorem g_Past_26 : zFp RX3 26 3 4 (.int) := ⟨RX3, TX3, 5, tyX3, rfl, by decide, w_Past_26, inX3, rfl, tyX3_ok, nmX3, rfl, by decide +kernel⟩
theorem w_Four_241 : Cond.fieldLink RX8 241 RX3 (TX3 4).2.1 (TX3 4).2.2.1 ∈ zTS := zTS_of 229 (by decide +kernel) (by decide +kernel)
theorem f_Four_241 : zF RX8 241 3 4 := ⟨RX3, TX3, 5, rfl, by decide, w_Four_241, inX3, rfl⟩
theorem w_Bodies_11 : Cond.fieldLink RX0 11 RX0 (TX0 0).2.1 (TX0 0).2.2.1 ∈ zTS := zTS_of 247 (by decide +kernel) (by decide +kernel)
theorem f_Bodies_11 : zF RX0 11 0 0 := ⟨RX0, TX0, 5, rfl, by decide, w_Bodies_11, inX0, rfl⟩
theorem w_Bodies_18 : Cond.fieldLink RX0 18 RX0 (TX0 1).2.1 (TX0 1).2.2.1 ∈ zTS := zTS_of 248 (by decide +kernel) (by decide +kernel)
theorem f_Bodies_18 : zF RX0 18 0 1 := ⟨RX0, TX0, 5, rfl, by decide, w_Bodies_18, inX0, rfl⟩
theorem g_Bodies_18 : zFp RX0 18 0 1 (.int) := ⟨RX0, TX0, 5, tyX0, rfl, by decide, w_Bodies_18, inX0, rfl, tyX0_ok, nmX0, rfl, by decide +kernel⟩
theorem w_Four_262 : Cond.fieldLink RX8 262 RX0 (TX0 1).2.1 (TX0 1).2.2.1 ∈ zTS := zTS_of 249 (by decide +kernel) (by decide +kernel)
theorem f_Four_262 : zF RX8 262 0 1 := ⟨RX0, TX0, 5, rfl, by decide, w_Four_262, inX0, rfl⟩
theorem w_Bodies_15 : Cond.fieldLink RX0 15 RX0 (TX0 2).2.1 (TX0 2).2.2.1 ∈ zTS := zTS_of 250 (by decide +kernel) (by decide +kernel)
theorem f_Bodies_15 : zF RX0 15 0 2 := ⟨RX0, TX0, 5, rfl, by decide, w_Bodies_15, inX0, rfl⟩
theorem w_Four_259 : Cond.fieldLink RX8 259 RX0 (TX0 2).2.1 (TX0 2).2.2.1 ∈ zTS := zTS_of 251 (by decide +kernel) (by decide +kernel)
theorem f_Four_259 : zF RX8 259 0 2 := ⟨RX0, TX0, 5, rfl, by decide, w_Four_259, inX0, rfl⟩
theorem w_Bodies_25 : Cond.fieldLink RX0 25 RX0 (TX0 3).2.1 (TX0 3).2.2.1 ∈ zTS := zTS_of 252 (by decide +kernel) (by decide +kernel)
theorem f_Bodies_25 : zF RX0 25 0 3 := ⟨RX0, TX0, 5, rfl, by decide, w_Bodies_25, inX0, rfl⟩
theorem g_Bodies_25 : zFp RX0 25 0 3 (.int) := ⟨RX0, TX0, 5, tyX0, rfl, by decide, w_Bodies_25, inX0, rfl, tyX0_ok, nmX0, rfl, by decide +kernel⟩
theorem w_Four_304 : Cond.fieldLink RX8 304 RX0 (TX0 3).2.1 (TX0 3).2.2.1 ∈ zTS := zTS_of 253 (by decide +kernel) (by decide +kernel)
theorem f_Four_304 : zF RX8 304 0 3 := ⟨RX0, TX0, 5, rfl, by decide, w_Four_304, inX0, rfl⟩
theorem w_Bodies_34 : Cond.fieldLink RX0 34 RX0 (TX0 4).2.1 (TX0 4).2.2.1 ∈ zTS := zTS_of 254 (by decide +kernel) (by decide +kernel)
theorem f_Bodies_34 : zF RX0 34 0 4 := ⟨RX0, TX0, 5, rfl, by decide, w_Bodies_34, inX0, rfl⟩
theorem g_Bodies_34 : zFp RX0 34 0 4 (.int) := ⟨RX0, TX0, 5, tyX0, rfl, by decide, w_Bodies_34, inX0, rfl, tyX0_ok, nmX0, rfl, by decide +kernel⟩
theorem w_Shelf_11 : Cond.fieldLink RX6 11 RX6 (TX6 0).2.1 (TX6 0).2.2.1 ∈ zTS := zTS_of 273 (by decide +kernel) (by decide +kernel)
theorem f_Shelf_11 : zF RX6 11 6 0 := ⟨RX6, TX6, 5, rfl, by decide, w_Shelf_11, inX6, rfl⟩
theorem g_Shelf_11 : zFp RX6 11 6 0 (.int) := ⟨RX6, TX6, 5, tyX6, rfl, by decide, w_Shelf_11, inX6, rfl, tyX6_ok, nmX6, rfl, by decide +kernel⟩
theorem w_Shelf_19 : Cond.fieldLink RX6 19 RX6 (TX6 1).2.1 (TX6 1).2.2.1 ∈ zTS := zTS_of 274 (by decide +kernel) (by decide +kernel)
theorem g_Shelf_19 : zFp RX6 19 6 1 (.int) := ⟨RX6, TX6, 5, tyX6, rfl, by decide, w_Shelf_19, inX6, rfl, tyX6_ok, nmX6, rfl, by decide +kernel⟩
theorem w_Four_292 : Cond.fieldLink RX8 292 RX6 (TX6 1).2.1 (TX6 1).2.2.1 ∈ zTS := zTS_of 275 (by decide +kernel) (by decide +kernel)
theorem f_Four_292 : zF RX8 292 6 1 := ⟨RX6, TX6, 5, rfl, by decide, w_Four_292, inX6, rfl⟩
theorem w_Four_85 : Cond.fieldLink RX8 85 RX6 (TX6 2).2.1 (TX6 2).2.2.1 ∈ zTS := zTS_of 276 (by decide +kernel) (by decide +kernel)
theorem f_Four_85 : zF RX8 85 6 2 := ⟨RX6, TX6, 5, rfl, by decide, w_Four_85, inX6, rfl⟩
theorem w_Shelf_22 : Cond.fieldLink RX6 22 RX6 (TX6 2).2.1 (TX6 2).2.2.1 ∈ zTS := zTS_of 277 (by decide +kernel) (by decide +kernel)
theorem f_Shelf_22 : zF RX6 22 6 2 := ⟨RX6, TX6, 5, rfl, by decide, w_Shelf_22, inX6, rfl⟩
theorem g_Shelf_22 : zFp RX6 22 6 2 (.int) := ⟨RX6, TX6, 5, tyX6, rfl, by decide, w_Shelf_22, inX6, rfl, tyX6_ok, nmX6, rfl, by decide +kernel⟩
theorem w_Shelf_25 : Cond.fieldLink RX6 25 RX6 (TX6 3).2.1 (TX6 3).2.2.1 ∈ zTS := zTS_of 278 (by decide +kernel) (by decide +kernel)
theorem f_Shelf_25 : zF RX6 25 6 3 := ⟨RX6, TX6, 5, rfl, by decide, w_Shelf_25, inX6, rfl⟩
theorem g_Shelf_25 : zFp RX6 25 6 3 (.int) := ⟨RX6, TX6, 5, tyX6, rfl, by decide, w_Shelf_25, inX6, rfl, tyX6_ok, nmX6, rfl, by decide +kernel⟩
theorem w_Four_312 : Cond.fieldLink RX8 312 RX6 (TX6 3).2.1 (TX6 3).2.2.1 ∈ zTS := zTS_of 279 (by decide +kernel) (by decide +kernel)
theorem f_Four_312 : zF RX8 312 6 3 := ⟨RX6, TX6, 5, rfl, by decide, w_Four_312, inX6, rfl⟩
theorem w_Shelf_15 : Cond.fieldLink RX6 15 RX6 (TX6 4).2.1 (TX6 4).2.2.1 ∈ zTS := zTS_of 280 (by decide +kernel) (by decide +kernel)
theorem f_Shelf_15 : zF RX6 15 6 4 := ⟨RX6, TX6, 5, rfl, by decide, w_Shelf_15, inX6, rfl⟩
theorem w_Four_91 : Cond.fieldLink RX8 91 RX6 (TX6 4).2.1 (TX6 4).2.2.1 ∈ zTS := zTS_of 281 (by decide +kernel) (by decide +kernel)
theorem f_Four_91 : zF RX8 91 6 4 := ⟨RX6, TX6, 5, rfl, by decide, w_Four_91, inX6, rfl⟩
theorem w_Four_11 : Cond.fieldLink RX8 11 RX8 (TX8 0).2.1 (TX8 0).2.2.1 ∈ zTS := zTS_of 294 (by decide +kernel) (by decide +kernel)
theorem f_Four_11 : zF RX8 11 8 0 := ⟨RX8, TX8, 9, rfl, by decide, w_Four_11, inX8, rfl⟩
theorem w_Four_67 : Cond.fieldLink RX8 67 RX8 (TX8 1).2.1 (TX8 1).2.2.1 ∈ zTS := zTS_of 295 (by decide +kernel) (by decide +kernel)
theorem f_Four_67 : zF RX8 67 8 1 := ⟨RX8, TX8, 9, rfl, by decide, w_Four_67, inX8, rfl⟩
theorem g_Four_67 : zFp RX8 67 8 1 (.int) := ⟨RX8, TX8, 9, tyX8, rfl, by decide, w_Four_67, inX8, rfl, tyX8_ok, nmX8, rfl, by decide +kernel⟩
theorem w_Four_127 : Cond.fieldLink RX8 127 RX8 (TX8 2).2.1 (TX8 2).2.2.1 ∈ zTS := zTS_of 296 (by decide +kernel) (by decide +kernel)
theorem f_Four_127 : zF RX8 127 8 2 := ⟨RX8, TX8, 9, rfl, by decide, w_Four_127, inX8, rfl⟩
theorem g_Four_127 : zFp RX8 127 8 2 (.int) := ⟨RX8, TX8, 9, tyX8, rfl, by decide, w_Four_127, inX8, rfl, tyX8_ok, nmX8, rfl, by decide +kernel⟩
theorem w_Four_19 : Cond.fieldLink RX8 19 RX8 (TX8 3).2.1 (TX8 3).2.2.1 ∈ zTS := zTS_of 297 (by decide +kernel) (by decide +kernel)
theorem f_Four_19 : zF RX8 19 8 3 := ⟨RX8, TX8, 9, rfl, by decide, w_Four_19, inX8, rfl⟩
theorem w_Four_31 : Cond.fieldLink RX8 31 RX8 (TX8 4).2.1 (TX8 4).2.2.1 ∈ zTS := zTS_of 298 (by decide +kernel) (by decide +kernel)
theorem f_Four_31 : zF RX8 31 8 4 := ⟨RX8, TX8, 9, rfl, by decide, w_Four_31, inX8, rfl⟩
theorem w_Four_38 : Cond.fieldLink RX8 38 RX8 (TX8 5).2.1 (TX8 5).2.2.1 ∈ zTS := zTS_of 299 (by decide +kernel) (by decide +kernel)
theorem f_Four_38 : zF RX8 38 8 5 := ⟨RX8, TX8, 9, rfl, by decide, w_Four_38, inX8, rfl⟩
theorem w_Four_45 : Cond.fieldLink RX8 45 RX8 (TX8 6).2.1 (TX8 6).2.2.1 ∈ zTS := zTS_of 300 (by decide +kernel) (by decide +kernel)
theorem f_Four_45 : zF RX8 45 8 6 := ⟨RX8, TX8, 9, rfl, by decide, w_Four_45, inX8, rfl⟩
theorem w_Four_52 : Cond.fieldLink RX8 52 RX8 (TX8 7).2.1 (TX8 7).2.2.1 ∈ zTS := zTS_of 301 (by decide +kernel) (by decide +kernel)
theorem f_Four_52 : zF RX8 52 8 7 := ⟨RX8, TX8, 9, rfl, by decide, w_Four_52, inX8, rfl⟩
theorem w_Four_58 : Cond.fieldLink RX8 58 RX8 (TX8 8).2.1 (TX8 8).2.2.1 ∈ zTS := zTS_of 302 (by decide +kernel) (by decide +kernel)
theorem f_Four_58 : zF RX8 58 8 8 := ⟨RX8, TX8, 9, rfl, by decide, w_Four_58, inX8, rfl⟩
theorem l_Law0_13 : Cond.methodLink "FourCubesLaw" 13 M_Four_cube.1 ∈ zTS := zTS_of 322 (by decide +kernel) (by decide +kernel)
theorem l_Four_63 : Cond.methodLink RX8 63 M_Four_areSixColours.1 ∈ zTS := zTS_of 326 (by decide +kernel) (by decide +kernel)
theorem k_Four_307 : Cond.constant RX8 307 (111111) ∈ zTS := zTS_of 329 (by decide +kernel) (by decide +kernel)
theorem k_Four_308 : Cond.constant RX8 308 (777777) ∈ zTS := zTS_of 330 (by decide +kernel) (by decide +kernel)
theorem l_Law0_18 : Cond.methodLink "FourCubesLaw" 18 M_Four_cubes.1 ∈ zTS := zTS_of 331 (by decide +kernel) (by decide +kernel)
theorem l_Four_75 : Cond.methodLink RX8 75 M_Four_isShelf.1 ∈ zTS := zTS_of 335 (by decide +kernel) (by decide +kernel)
theorem l_Four_78 : Cond.methodLink RX8 78 M_Shelf_isBare.1 ∈ zTS := zTS_of 338 (by decide +kernel) (by decide +kernel)
theorem l_Four_82 : Cond.methodLink RX8 82 M_Shelf_isRow.1 ∈ zTS := zTS_of 342 (by decide +kernel) (by decide +kernel)
theorem l_Four_88 : Cond.methodLink RX8 88 M_Shelf_hasSixColours.1 ∈ zTS := zTS_of 346 (by decide +kernel) (by decide +kernel)
theorem l_Shelf_34 : Cond.methodLink RX6 34 M_Shelf_hasStretch.1 ∈ zTS := zTS_of 350 (by decide +kernel) (by decide +kernel)
theorem k_Shelf_38 : Cond.constantLong RX6 38 (6) ∈ zTS := zTS_of 354 (by decide +kernel) (by decide +kernel)
theorem l_Law0_23 : Cond.methodLink "FourCubesLaw" 23 M_Four_paint.1 ∈ zTS := zTS_of 355 (by decide +kernel) (by decide +kernel)
theorem l_Four_95 : Cond.methodLink RX8 95 M_Four_isFace.1 ∈ zTS := zTS_of 359 (by decide +kernel) (by decide +kernel)
theorem l_Four_110 : Cond.methodLink RX8 110 M_Four_isCube.1 ∈ zTS := zTS_of 363 (by decide +kernel) (by decide +kernel)
theorem l_Four_98 : Cond.methodLink RX8 98 M_Four_colourAt.1 ∈ zTS := zTS_of 367 (by decide +kernel) (by decide +kernel)
theorem l_Four_102 : Cond.methodLink RX8 102 M_Past_add.1 ∈ zTS := zTS_of 371 (by decide +kernel) (by decide +kernel)
theorem l_Past_23 : Cond.methodLink RX3 23 M_Past_forgetOldest.1 ∈ zTS := zTS_of 375 (by decide +kernel) (by decide +kernel)
theorem l_Four_106 : Cond.methodLink RX8 106 M_Four_setColour.1 ∈ zTS := zTS_of 379 (by decide +kernel) (by decide +kernel)
theorem l_Law0_28 : Cond.methodLink "FourCubesLaw" 28 M_Four_of.1 ∈ zTS := zTS_of 383 (by decide +kernel) (by decide +kernel)
theorem l_Four_116 : Cond.methodLink RX8 116 M_Cube_line.1 ∈ zTS := zTS_of 387 (by decide +kernel) (by decide +kernel)
theorem l_Cube_22 : Cond.methodLink RX1 22 M_Cube_endOf.1 ∈ zTS := zTS_of 391 (by decide +kernel) (by decide +kernel)
theorem s_Cube_26 : Cond.fieldLinkNest RX1 26 RX8 "OPPOSITE" "[I" RX8 ∈ zTS := zTS_of 394 (by decide +kernel) (by decide +kernel)
theorem l_Cube_29 : Cond.methodLink RX1 29 M_Math_min_7cf53.1 ∈ zTS := zTS_of 396 (by decide +kernel) (by decide +kernel)
theorem l_Cube_35 : Cond.methodLink RX1 35 M_Math_max_7cf53.1 ∈ zTS := zTS_of 399 (by decide +kernel) (by decide +kernel)
theorem l_Law0_32 : Cond.methodLink "FourCubesLaw" 32 M_Four_box.1 ∈ zTS := zTS_of 402 (by decide +kernel) (by decide +kernel)
theorem l_Four_119 : Cond.methodLink RX8 119 M_Four_areCubes.1 ∈ zTS := zTS_of 406 (by decide +kernel) (by decide +kernel)
theorem l_Four_122 : Cond.methodLink RX8 122 M_Integer_bitCount_0f7a4.1 ∈ zTS := zTS_of 410 (by decide +kernel) (by decide +kernel)
theorem k_Integer_265 : Cond.constant RJ6 265 (1431655765) ∈ zTS := zTS_of 413 (by decide +kernel) (by decide +kernel)
theorem k_Integer_266 : Cond.constant RJ6 266 (858993459) ∈ zTS := zTS_of 414 (by decide +kernel) (by decide +kernel)
theorem k_Integer_267 : Cond.constant RJ6 267 (252645135) ∈ zTS := zTS_of 415 (by decide +kernel) (by decide +kernel)
theorem l_Law0_36 : Cond.methodLink "FourCubesLaw" 36 M_Four_feed.1 ∈ zTS := zTS_of 416 (by decide +kernel) (by decide +kernel)
theorem l_Four_130 : Cond.methodLink RX8 130 M_Law_takeByte.1 ∈ zTS := zTS_of 420 (by decide +kernel) (by decide +kernel)
theorem l_Law0_40 : Cond.methodLink "FourCubesLaw" 40 M_Four_law.1 ∈ zTS := zTS_of 424 (by decide +kernel) (by decide +kernel)
theorem l_Four_133 : Cond.methodLink RX8 133 M_Law_takeTape.1 ∈ zTS := zTS_of 428 (by decide +kernel) (by decide +kernel)
theorem l_Law_41 : Cond.methodLink RX2 41 M_Law_readText.1 ∈ zTS := zTS_of 432 (by decide +kernel) (by decide +kernel)
theorem l_Law_48 : Cond.methodLink RX2 48 M_Law_readLine.1 ∈ zTS := zTS_of 436 (by decide +kernel) (by decide +kernel)
theorem l_Law_55 : Cond.methodLink RX2 55 M_Law_readLevel.1 ∈ zTS := zTS_of 440 (by decide +kernel) (by decide +kernel)
theorem l_Law_63 : Cond.methodLink RX2 63 M_Law_readOperand.1 ∈ zTS := zTS_of 444 (by decide +kernel) (by decide +kernel)
theorem l_Law_51 : Cond.methodLink RX2 51 M_Law_peek.1 ∈ zTS := zTS_of 448 (by decide +kernel) (by decide +kernel)
theorem l_Law_70 : Cond.methodLink RX2 70 M_Law_isDigit.1 ∈ zTS := zTS_of 452 (by decide +kernel) (by decide +kernel)
theorem l_Law_73 : Cond.methodLink RX2 73 M_Law_readNumber.1 ∈ zTS := zTS_of 455 (by decide +kernel) (by decide +kernel)
theorem l_Law_59 : Cond.methodLink RX2 59 M_Law_emit.1 ∈ zTS := zTS_of 459 (by decide +kernel) (by decide +kernel)
theorem l_Law_79 : Cond.methodLink RX2 79 M_Law_readInside.1 ∈ zTS := zTS_of 463 (by decide +kernel) (by decide +kernel)
theorem l_Law_82 : Cond.methodLink RX2 82 M_Law_readTurned.1 ∈ zTS := zTS_of 467 (by decide +kernel) (by decide +kernel)
theorem l_Law_67 : Cond.methodLink RX2 67 M_Law_isJoin.1 ∈ zTS := zTS_of 471 (by decide +kernel) (by decide +kernel)
theorem l_Law0_45 : Cond.methodLink "FourCubesLaw" 45 M_Four_turn.1 ∈ zTS := zTS_of 474 (by decide +kernel) (by decide +kernel)
theorem l_Four_137 : Cond.methodLink RX8 137 M_Four_isTurning.1 ∈ zTS := zTS_of 478 (by decide +kernel) (by decide +kernel)
theorem l_Law0_49 : Cond.methodLink "FourCubesLaw" 49 M_Four_shows.1 ∈ zTS := zTS_of 481 (by decide +kernel) (by decide +kernel)
theorem l_Four_140 : Cond.methodLink RX8 140 M_Cube_seen.1 ∈ zTS := zTS_of 485 (by decide +kernel) (by decide +kernel)
theorem s_Cube_19 : Cond.fieldLinkNest RX1 19 RX8 "STANDING" "[I" RX8 ∈ zTS := zTS_of 489 (by decide +kernel) (by decide +kernel)
theorem l_Law0_53 : Cond.methodLink "FourCubesLaw" 53 M_Four_judge.1 ∈ zTS := zTS_of 491 (by decide +kernel) (by decide +kernel)
theorem l_Four_144 : Cond.methodLink RX8 144 M_Tower_pile.1 ∈ zTS := zTS_of 495 (by decide +kernel) (by decide +kernel)
theorem l_Four_148 : Cond.methodLink RX8 148 M_Tower_firstWrong.1 ∈ zTS := zTS_of 499 (by decide +kernel) (by decide +kernel)
theorem l_Tower_55 : Cond.methodLink RX7 55 M_Cube_seen.1 ∈ zTS := zTS_of 503 (by decide +kernel) (by decide +kernel)
theorem l_Tower_59 : Cond.methodLink RX7 59 M_Search_pairOf.1 ∈ zTS := zTS_of 504 (by decide +kernel) (by decide +kernel)
theorem l_Tower_62 : Cond.methodLink RX7 62 M_Law_allows.1 ∈ zTS := zTS_of 507 (by decide +kernel) (by decide +kernel)
theorem l_Law0_57 : Cond.methodLink "FourCubesLaw" 57 M_Four_ways.1 ∈ zTS := zTS_of 511 (by decide +kernel) (by decide +kernel)
theorem l_Four_151 : Cond.methodLink RX8 151 M_Tower_startFrom.1 ∈ zTS := zTS_of 515 (by decide +kernel) (by decide +kernel)
theorem k_Tower_71 : Cond.constant RX7 71 (1118481) ∈ zTS := zTS_of 519 (by decide +kernel) (by decide +kernel)
theorem k_Tower_72 : Cond.constant RX7 72 (16777215) ∈ zTS := zTS_of 520 (by decide +kernel) (by decide +kernel)
theorem l_Four_154 : Cond.methodLink RX8 154 M_Tower_fitAll.1 ∈ zTS := zTS_of 521 (by decide +kernel) (by decide +kernel)
theorem l_Tower_73 : Cond.methodLink RX7 73 M_Tower_fitPair.1 ∈ zTS := zTS_of 525 (by decide +kernel) (by decide +kernel)
theorem s_Tower_77 : Cond.fieldLinkNest RX7 77 RX8 "LOWER" "[I" RX8 ∈ zTS := zTS_of 529 (by decide +kernel) (by decide +kernel)
theorem l_Tower_80 : Cond.methodLink RX7 80 M_Search_fitAny.1 ∈ zTS := zTS_of 530 (by decide +kernel) (by decide +kernel)
theorem k_Search_21 : Cond.constant RX5 21 (16777215) ∈ zTS := zTS_of 534 (by decide +kernel) (by decide +kernel)
theorem l_Tower_83 : Cond.methodLink RX7 83 M_Tower_findAllowed.1 ∈ zTS := zTS_of 535 (by decide +kernel) (by decide +kernel)
theorem s_Tower_90 : Cond.fieldLinkNest RX7 90 RX8 "HIGHER" "[I" RX8 ∈ zTS := zTS_of 539 (by decide +kernel) (by decide +kernel)
theorem l_Tower_93 : Cond.methodLink RX7 93 M_Arrays_fill_53178.1 ∈ zTS := zTS_of 540 (by decide +kernel) (by decide +kernel)
theorem l_Four_161 : Cond.methodLink RX8 161 M_Search_answer.1 ∈ zTS := zTS_of 543 (by decide +kernel) (by decide +kernel)
theorem l_Search_26 : Cond.methodLink RX5 26 M_Search_total.1 ∈ zTS := zTS_of 547 (by decide +kernel) (by decide +kernel)
theorem l_Search_38 : Cond.methodLink RX5 38 M_Search_fitting.1 ∈ zTS := zTS_of 551 (by decide +kernel) (by decide +kernel)
theorem l_Search_22 : Cond.methodLink RX5 22 M_Search_pairOf.1 ∈ zTS := zTS_of 555 (by decide +kernel) (by decide +kernel)
theorem l_Search_41 : Cond.methodLink RX5 41 M_Integer_bitCount_0f7a4.1 ∈ zTS := zTS_of 556 (by decide +kernel) (by decide +kernel)
theorem l_Search_30 : Cond.methodLink RX5 30 M_Search_find.1 ∈ zTS := zTS_of 557 (by decide +kernel) (by decide +kernel)
theorem l_Law0_61 : Cond.methodLink "FourCubesLaw" 61 M_Four_near.1 ∈ zTS := zTS_of 561 (by decide +kernel) (by decide +kernel)
theorem l_Four_164 : Cond.methodLink RX8 164 M_Tower_leastWrong.1 ∈ zTS := zTS_of 565 (by decide +kernel) (by decide +kernel)
theorem l_Tower_140 : Cond.methodLink RX7 140 M_Arrays_fill_031fb.1 ∈ zTS := zTS_of 569 (by decide +kernel) (by decide +kernel)
theorem l_Tower_143 : Cond.methodLink RX7 143 M_Tower_weigh.1 ∈ zTS := zTS_of 572 (by decide +kernel) (by decide +kernel)
theorem l_Tower_152 : Cond.methodLink RX7 152 M_Math_min_7cf53.1 ∈ zTS := zTS_of 576 (by decide +kernel) (by decide +kernel)
theorem l_Tower_149 : Cond.methodLink RX7 149 M_Tower_descend.1 ∈ zTS := zTS_of 577 (by decide +kernel) (by decide +kernel)
theorem l_Tower_157 : Cond.methodLink RX7 157 M_Tower_costOf.1 ∈ zTS := zTS_of 581 (by decide +kernel) (by decide +kernel)
theorem l_Law0_65 : Cond.methodLink "FourCubesLaw" 65 M_Four_build.1 ∈ zTS := zTS_of 585 (by decide +kernel) (by decide +kernel)
theorem l_Four_167 : Cond.methodLink RX8 167 M_Tower_stuckFrom.1 ∈ zTS := zTS_of 589 (by decide +kernel) (by decide +kernel)
theorem l_Tower_128 : Cond.methodLink RX7 128 M_Search_fitting.1 ∈ zTS := zTS_of 593 (by decide +kernel) (by decide +kernel)
theorem l_Tower_131 : Cond.methodLink RX7 131 M_Integer_numberOfTrailingZeros_0f7a4.1 ∈ zTS := zTS_of 594 (by decide +kernel) (by decide +kernel)
theorem k_Integer_264 : Cond.constant RJ6 264 (65536) ∈ zTS := zTS_of 597 (by decide +kernel) (by decide +kernel)
theorem l_Four_170 : Cond.methodLink RX8 170 M_Tower_looksFrom.1 ∈ zTS := zTS_of 598 (by decide +kernel) (by decide +kernel)
theorem l_Tower_137 : Cond.methodLink RX7 137 M_Tower_stuckFrom.1 ∈ zTS := zTS_of 602 (by decide +kernel) (by decide +kernel)
theorem l_Law0_69 : Cond.methodLink "FourCubesLaw" 69 M_Four_mend.1 ∈ zTS := zTS_of 603 (by decide +kernel) (by decide +kernel)
theorem l_Four_173 : Cond.methodLink RX8 173 M_Tower_findMends.1 ∈ zTS := zTS_of 607 (by decide +kernel) (by decide +kernel)
theorem l_Tower_118 : Cond.methodLink RX7 118 M_Tower_goesWith.1 ∈ zTS := zTS_of 611 (by decide +kernel) (by decide +kernel)
theorem l_Tower_112 : Cond.methodLink RX7 112 M_Tower_goes.1 ∈ zTS := zTS_of 615 (by decide +kernel) (by decide +kernel)
theorem l_Tower_102 : Cond.methodLink RX7 102 M_Tower_startFrom.1 ∈ zTS := zTS_of 619 (by decide +kernel) (by decide +kernel)
theorem l_Tower_105 : Cond.methodLink RX7 105 M_Tower_fitAll.1 ∈ zTS := zTS_of 620 (by decide +kernel) (by decide +kernel)
theorem l_Tower_108 : Cond.methodLink RX7 108 M_Search_hasAny.1 ∈ zTS := zTS_of 621 (by decide +kernel) (by decide +kernel)
theorem l_Law0_73 : Cond.methodLink "FourCubesLaw" 73 M_Four_open.1 ∈ zTS := zTS_of 625 (by decide +kernel) (by decide +kernel)
theorem l_Four_183 : Cond.methodLink RX8 183 M_Tower_goesWith.1 ∈ zTS := zTS_of 629 (by decide +kernel) (by decide +kernel)
theorem l_Law0_77 : Cond.methodLink "FourCubesLaw" 77 M_Four_swap.1 ∈ zTS := zTS_of 630 (by decide +kernel) (by decide +kernel)
theorem l_Four_187 : Cond.methodLink RX8 187 M_Four_goesExchanged.1 ∈ zTS := zTS_of 634 (by decide +kernel) (by decide +kernel)
theorem l_Four_309 : Cond.methodLink RX8 309 M_Tower_goes.1 ∈ zTS := zTS_of 638 (by decide +kernel) (by decide +kernel)
theorem l_Law0_81 : Cond.methodLink "FourCubesLaw" 81 M_Four_rings.1 ∈ zTS := zTS_of 639 (by decide +kernel) (by decide +kernel)
theorem l_Four_197 : Cond.methodLink RX8 197 M_Rings_gather.1 ∈ zTS := zTS_of 643 (by decide +kernel) (by decide +kernel)
theorem l_Rings_25 : Cond.methodLink RX4 25 M_Rings_isChoice.1 ∈ zTS := zTS_of 647 (by decide +kernel) (by decide +kernel)
theorem l_Rings_29 : Cond.methodLink RX4 29 M_Rings_isRing.1 ∈ zTS := zTS_of 650 (by decide +kernel) (by decide +kernel)
theorem l_Rings_33 : Cond.methodLink RX4 33 M_Arrays_fill_53178.1 ∈ zTS := zTS_of 654 (by decide +kernel) (by decide +kernel)
theorem l_Rings_39 : Cond.methodLink RX4 39 M_Cube_line.1 ∈ zTS := zTS_of 655 (by decide +kernel) (by decide +kernel)
theorem l_Four_204 : Cond.methodLink RX8 204 M_Rings_parted.1 ∈ zTS := zTS_of 656 (by decide +kernel) (by decide +kernel)
theorem l_Rings_45 : Cond.methodLink RX4 45 M_Rings_shareNone.1 ∈ zTS := zTS_of 660 (by decide +kernel) (by decide +kernel)
theorem l_Rings_48 : Cond.methodLink RX4 48 M_Integer_bitCount_0f7a4.1 ∈ zTS := zTS_of 664 (by decide +kernel) (by decide +kernel)
theorem l_Law0_85 : Cond.methodLink "FourCubesLaw" 85 M_Four_alike.1 ∈ zTS := zTS_of 665 (by decide +kernel) (by decide +kernel)
theorem l_Four_207 : Cond.methodLink RX8 207 M_Cube_turnsInto.1 ∈ zTS := zTS_of 669 (by decide +kernel) (by decide +kernel)
theorem l_Cube_38 : Cond.methodLink RX1 38 M_Cube_isLike.1 ∈ zTS := zTS_of 673 (by decide +kernel) (by decide +kernel)
theorem l_Law0_89 : Cond.methodLink "FourCubesLaw" 89 M_Four_many.1 ∈ zTS := zTS_of 677 (by decide +kernel) (by decide +kernel)
theorem k_Four_211 : Cond.constantLong RX8 211 (-1) ∈ zTS := zTS_of 681 (by decide +kernel) (by decide +kernel)
theorem k_Four_213 : Cond.constantLong RX8 213 (3) ∈ zTS := zTS_of 682 (by decide +kernel) (by decide +kernel)
theorem k_Four_215 : Cond.constantLong RX8 215 (12) ∈ zTS := zTS_of 683 (by decide +kernel) (by decide +kernel)
theorem k_Four_217 : Cond.constantLong RX8 217 (8) ∈ zTS := zTS_of 684 (by decide +kernel) (by decide +kernel)
theorem k_Four_219 : Cond.constantLong RX8 219 (24) ∈ zTS := zTS_of 685 (by decide +kernel) (by decide +kernel)
theorem k_Four_221 : Cond.constantLong RX8 221 (6) ∈ zTS := zTS_of 686 (by decide +kernel) (by decide +kernel)
theorem k_Four_223 : Cond.constantLong RX8 223 (48) ∈ zTS := zTS_of 687 (by decide +kernel) (by decide +kernel)
theorem l_Law0_94 : Cond.methodLink "FourCubesLaw" 94 M_Four_sight.1 ∈ zTS := zTS_of 688 (by decide +kernel) (by decide +kernel)
theorem l_Four_225 : Cond.methodLink RX8 225 M_Cube_turningsThatShow.1 ∈ zTS := zTS_of 692 (by decide +kernel) (by decide +kernel)
theorem l_Cube_42 : Cond.methodLink RX1 42 M_Cube_mayShow.1 ∈ zTS := zTS_of 696 (by decide +kernel) (by decide +kernel)
theorem l_Cube_46 : Cond.methodLink RX1 46 M_Cube_mayBe.1 ∈ zTS := zTS_of 700 (by decide +kernel) (by decide +kernel)
theorem l_Law0_98 : Cond.methodLink "FourCubesLaw" 98 M_Four_wall.1 ∈ zTS := zTS_of 704 (by decide +kernel) (by decide +kernel)
theorem l_Four_228 : Cond.methodLink RX8 228 M_Tower_fitWall.1 ∈ zTS := zTS_of 708 (by decide +kernel) (by decide +kernel)
theorem l_Tower_160 : Cond.methodLink RX7 160 M_Tower_touch.1 ∈ zTS := zTS_of 712 (by decide +kernel) (by decide +kernel)
theorem l_Tower_164 : Cond.methodLink RX7 164 M_Cube_turningsWith.1 ∈ zTS := zTS_of 716 (by decide +kernel) (by decide +kernel)
theorem l_Law0_102 : Cond.methodLink "FourCubesLaw" 102 M_Four_great.1 ∈ zTS := zTS_of 720 (by decide +kernel) (by decide +kernel)
theorem l_Four_231 : Cond.methodLink RX8 231 M_Cube_hasCornerOf.1 ∈ zTS := zTS_of 724 (by decide +kernel) (by decide +kernel)
theorem l_Law0_106 : Cond.methodLink "FourCubesLaw" 106 M_Four_undo.1 ∈ zTS := zTS_of 728 (by decide +kernel) (by decide +kernel)
theorem l_Law0_110 : Cond.methodLink "FourCubesLaw" 110 M_Four_redo.1 ∈ zTS := zTS_of 732 (by decide +kernel) (by decide +kernel)
theorem l_Law0_114 : Cond.methodLink "FourCubesLaw" 114 M_Four_body.1 ∈ zTS := zTS_of 736 (by decide +kernel) (by decide +kernel)
theorem l_Four_247 : Cond.methodLink RX8 247 M_Four_isKind.1 ∈ zTS := zTS_of 740 (by decide +kernel) (by decide +kernel)
theorem l_Four_250 : Cond.methodLink RX8 250 M_Bodies_add.1 ∈ zTS := zTS_of 743 (by decide +kernel) (by decide +kernel)
theorem l_Law0_118 : Cond.methodLink "FourCubesLaw" 118 M_Four_act.1 ∈ zTS := zTS_of 747 (by decide +kernel) (by decide +kernel)
theorem l_Four_252 : Cond.methodLink RX8 252 M_Bodies_perform.1 ∈ zTS := zTS_of 751 (by decide +kernel) (by decide +kernel)
theorem l_Bodies_37 : Cond.methodLink RX0 37 M_Bodies_runFrom.1 ∈ zTS := zTS_of 755 (by decide +kernel) (by decide +kernel)
theorem s_Bodies_41 : Cond.fieldLink RX0 41 RX0 "OWN" "[I" ∈ zTS := zTS_of 759 (by decide +kernel) (by decide +kernel)
theorem l_Bodies_44 : Cond.methodLink RX0 44 M_Bodies_run.1 ∈ zTS := zTS_of 761 (by decide +kernel) (by decide +kernel)
theorem s_Bodies_22 : Cond.fieldLink RX0 22 RX0 "ABOVE" "[I" ∈ zTS := zTS_of 765 (by decide +kernel) (by decide +kernel)
theorem l_Law0_122 : Cond.methodLink "FourCubesLaw" 122 M_Four_trace.1 ∈ zTS := zTS_of 767 (by decide +kernel) (by decide +kernel)
theorem l_Four_256 : Cond.methodLink RX8 256 M_Bodies_traced.1 ∈ zTS := zTS_of 771 (by decide +kernel) (by decide +kernel)
theorem l_Bodies_28 : Cond.methodLink RX0 28 M_Math_min_7cf53.1 ∈ zTS := zTS_of 775 (by decide +kernel) (by decide +kernel)
theorem l_Law0_126 : Cond.methodLink "FourCubesLaw" 126 M_Four_keep.1 ∈ zTS := zTS_of 776 (by decide +kernel) (by decide +kernel)
theorem l_Four_263 : Cond.methodLink RX8 263 M_Shelf_clear.1 ∈ zTS := zTS_of 780 (by decide +kernel) (by decide +kernel)
theorem l_Four_266 : Cond.methodLink RX8 266 M_Shelf_holdBody.1 ∈ zTS := zTS_of 784 (by decide +kernel) (by decide +kernel)
theorem l_Law0_130 : Cond.methodLink "FourCubesLaw" 130 M_Four_row.1 ∈ zTS := zTS_of 788 (by decide +kernel) (by decide +kernel)
theorem l_Four_269 : Cond.methodLink RX8 269 M_Shelf_holdRow.1 ∈ zTS := zTS_of 792 (by decide +kernel) (by decide +kernel)
theorem l_Shelf_28 : Cond.methodLink RX6 28 M_Arrays_fill_d0a16.1 ∈ zTS := zTS_of 796 (by decide +kernel) (by decide +kernel)
theorem l_Law0_136 : Cond.methodLink "FourCubesLaw" 136 M_Four_put.1 ∈ zTS := zTS_of 799 (by decide +kernel) (by decide +kernel)
theorem l_Four_272 : Cond.methodLink RX8 272 M_Four_refusalOf.1 ∈ zTS := zTS_of 803 (by decide +kernel) (by decide +kernel)
theorem l_Four_275 : Cond.methodLink RX8 275 M_Shelf_store.1 ∈ zTS := zTS_of 807 (by decide +kernel) (by decide +kernel)
theorem l_Law0_141 : Cond.methodLink "FourCubesLaw" 141 M_Four_element.1 ∈ zTS := zTS_of 811 (by decide +kernel) (by decide +kernel)
theorem k_Four_281 : Cond.constantLong RX8 281 (-9223372036854775808) ∈ zTS := zTS_of 815 (by decide +kernel) (by decide +kernel)
theorem l_Law0_145 : Cond.methodLink "FourCubesLaw" 145 M_Four_shift.1 ∈ zTS := zTS_of 816 (by decide +kernel) (by decide +kernel)
theorem l_Four_283 : Cond.methodLink RX8 283 M_Shelf_hasStretch.1 ∈ zTS := zTS_of 820 (by decide +kernel) (by decide +kernel)
theorem l_Law0_150 : Cond.methodLink "FourCubesLaw" 150 M_Four_taken.1 ∈ zTS := zTS_of 824 (by decide +kernel) (by decide +kernel)
theorem l_Four_295 : Cond.methodLink RX8 295 M_Bodies_kindOf.1 ∈ zTS := zTS_of 828 (by decide +kernel) (by decide +kernel)
theorem l_Four_298 : Cond.methodLink RX8 298 M_Bodies_isUnder.1 ∈ zTS := zTS_of 832 (by decide +kernel) (by decide +kernel)
theorem l_Law0_154 : Cond.methodLink "FourCubesLaw" 154 M_Four_count.1 ∈ zTS := zTS_of 835 (by decide +kernel) (by decide +kernel)
theorem l_Law0_12 : Cond.methodLink "FourCubesLaw" 12 M_Model_init.1 ∈ zTS := zTS_of 841 (by decide +kernel) (by decide +kernel)
theorem w_Model_99 : Cond.fieldLink RX9 99 RX9 (TX9 1).2.1 (TX9 1).2.2.1 ∈ zTS := zTS_of 845 (by decide +kernel) (by decide +kernel)
theorem f_Model_99 : zF RX9 99 9 1 := ⟨RX9, TX9, 45, rfl, by decide, w_Model_99, inX9, rfl⟩
theorem g_Model_99 : zFp RX9 99 9 1 (.int) := ⟨RX9, TX9, 45, tyX9, rfl, by decide, w_Model_99, inX9, rfl, tyX9_ok, nmX9, rfl, by decide +kernel⟩
theorem w_Model_7 : Cond.fieldLink RX9 7 RX9 (TX9 2).2.1 (TX9 2).2.2.1 ∈ zTS := zTS_of 846 (by decide +kernel) (by decide +kernel)
theorem f_Model_7 : zF RX9 7 9 2 := ⟨RX9, TX9, 45, rfl, by decide, w_Model_7, inX9, rfl⟩
theorem w_Model_13 : Cond.fieldLink RX9 13 RX9 (TX9 3).2.1 (TX9 3).2.2.1 ∈ zTS := zTS_of 847 (by decide +kernel) (by decide +kernel)
theorem f_Model_13 : zF RX9 13 9 3 := ⟨RX9, TX9, 45, rfl, by decide, w_Model_13, inX9, rfl⟩
theorem w_Model_147 : Cond.fieldLink RX9 147 RX9 (TX9 4).2.1 (TX9 4).2.2.1 ∈ zTS := zTS_of 848 (by decide +kernel) (by decide +kernel)
theorem f_Model_147 : zF RX9 147 9 4 := ⟨RX9, TX9, 45, rfl, by decide, w_Model_147, inX9, rfl⟩
theorem g_Model_147 : zFp RX9 147 9 4 (.int) := ⟨RX9, TX9, 45, tyX9, rfl, by decide, w_Model_147, inX9, rfl, tyX9_ok, nmX9, rfl, by decide +kernel⟩
theorem w_Model_16 : Cond.fieldLink RX9 16 RX9 (TX9 5).2.1 (TX9 5).2.2.1 ∈ zTS := zTS_of 849 (by decide +kernel) (by decide +kernel)
theorem f_Model_16 : zF RX9 16 9 5 := ⟨RX9, TX9, 45, rfl, by decide, w_Model_16, inX9, rfl⟩
theorem w_Model_126 : Cond.fieldLink RX9 126 RX9 (TX9 6).2.1 (TX9 6).2.2.1 ∈ zTS := zTS_of 850 (by decide +kernel) (by decide +kernel)
theorem f_Model_126 : zF RX9 126 9 6 := ⟨RX9, TX9, 45, rfl, by decide, w_Model_126, inX9, rfl⟩
theorem g_Model_126 : zFp RX9 126 9 6 (.int) := ⟨RX9, TX9, 45, tyX9, rfl, by decide, w_Model_126, inX9, rfl, tyX9_ok, nmX9, rfl, by decide +kernel⟩
theorem w_Model_123 : Cond.fieldLink RX9 123 RX9 (TX9 7).2.1 (TX9 7).2.2.1 ∈ zTS := zTS_of 851 (by decide +kernel) (by decide +kernel)
theorem f_Model_123 : zF RX9 123 9 7 := ⟨RX9, TX9, 45, rfl, by decide, w_Model_123, inX9, rfl⟩
theorem g_Model_123 : zFp RX9 123 9 7 (.int) := ⟨RX9, TX9, 45, tyX9, rfl, by decide, w_Model_123, inX9, rfl, tyX9_ok, nmX9, rfl, by decide +kernel⟩
theorem w_Model_19 : Cond.fieldLink RX9 19 RX9 (TX9 8).2.1 (TX9 8).2.2.1 ∈ zTS := zTS_of 852 (by decide +kernel) (by decide +kernel)
theorem f_Model_19 : zF RX9 19 9 8 := ⟨RX9, TX9, 45, rfl, by decide, w_Model_19, inX9, rfl⟩
theorem w_Model_22 : Cond.fieldLink RX9 22 RX9 (TX9 9).2.1 (TX9 9).2.2.1 ∈ zTS := zTS_of 853 (by decide +kernel) (by decide +kernel)
theorem f_Model_22 : zF RX9 22 9 9 := ⟨RX9, TX9, 45, rfl, by decide, w_Model_22, inX9, rfl⟩
theorem w_Model_25 : Cond.fieldLink RX9 25 RX9 (TX9 10).2.1 (TX9 10).2.2.1 ∈ zTS := zTS_of 854 (by decide +kernel) (by decide +kernel)
theorem f_Model_25 : zF RX9 25 9 10 := ⟨RX9, TX9, 45, rfl, by decide, w_Model_25, inX9, rfl⟩
theorem w_Model_28 : Cond.fieldLink RX9 28 RX9 (TX9 11).2.1 (TX9 11).2.2.1 ∈ zTS := zTS_of 855 (by decide +kernel) (by decide +kernel)
theorem f_Model_28 : zF RX9 28 9 11 := ⟨RX9, TX9, 45, rfl, by decide, w_Model_28, inX9, rfl⟩
theorem w_Model_31 : Cond.fieldLink RX9 31 RX9 (TX9 12).2.1 (TX9 12).2.2.1 ∈ zTS := zTS_of 856 (by decide +kernel) (by decide +kernel)
theorem f_Model_31 : zF RX9 31 9 12 := ⟨RX9, TX9, 45, rfl, by decide, w_Model_31, inX9, rfl⟩
theorem w_Model_150 : Cond.fieldLink RX9 150 RX9 (TX9 13).2.1 (TX9 13).2.2.1 ∈ zTS := zTS_of 857 (by decide +kernel) (by decide +kernel)
theorem f_Model_150 : zF RX9 150 9 13 := ⟨RX9, TX9, 45, rfl, by decide, w_Model_150, inX9, rfl⟩
theorem g_Model_150 : zFp RX9 150 9 13 (.int) := ⟨RX9, TX9, 45, tyX9, rfl, by decide, w_Model_150, inX9, rfl, tyX9_ok, nmX9, rfl, by decide +kernel⟩
theorem w_Model_153 : Cond.fieldLink RX9 153 RX9 (TX9 14).2.1 (TX9 14).2.2.1 ∈ zTS := zTS_of 858 (by decide +kernel) (by decide +kernel)
theorem f_Model_153 : zF RX9 153 9 14 := ⟨RX9, TX9, 45, rfl, by decide, w_Model_153, inX9, rfl⟩
theorem g_Model_153 : zFp RX9 153 9 14 (.int) := ⟨RX9, TX9, 45, tyX9, rfl, by decide, w_Model_153, inX9, rfl, tyX9_ok, nmX9, rfl, by decide +kernel⟩
theorem w_Model_156 : Cond.fieldLink RX9 156 RX9 (TX9 15).2.1 (TX9 15).2.2.1 ∈ zTS := zTS_of 859 (by decide +kernel) (by decide +kernel)
theorem f_Model_156 : zF RX9 156 9 15 := ⟨RX9, TX9, 45, rfl, by decide, w_Model_156, inX9, rfl⟩
theorem g_Model_156 : zFp RX9 156 9 15 (.int) := ⟨RX9, TX9, 45, tyX9, rfl, by decide, w_Model_156, inX9, rfl, tyX9_ok, nmX9, rfl, by decide +kernel⟩
theorem w_Model_162 : Cond.fieldLink RX9 162 RX9 (TX9 16).2.1 (TX9 16).2.2.1 ∈ zTS := zTS_of 860 (by decide +kernel) (by decide +kernel)
theorem f_Model_162 : zF RX9 162 9 16 := ⟨RX9, TX9, 45, rfl, by decide, w_Model_162, inX9, rfl⟩
theorem g_Model_162 : zFp RX9 162 9 16 (.int) := ⟨RX9, TX9, 45, tyX9, rfl, by decide, w_Model_162, inX9, rfl, tyX9_ok, nmX9, rfl, by decide +kernel⟩
theorem w_Model_159 : Cond.fieldLink RX9 159 RX9 (TX9 17).2.1 (TX9 17).2.2.1 ∈ zTS := zTS_of 861 (by decide +kernel) (by decide +kernel)
theorem f_Model_159 : zF RX9 159 9 17 := ⟨RX9, TX9, 45, rfl, by decide, w_Model_159, inX9, rfl⟩
theorem g_Model_159 : zFp RX9 159 9 17 (.int) := ⟨RX9, TX9, 45, tyX9, rfl, by decide, w_Model_159, inX9, rfl, tyX9_ok, nmX9, rfl, by decide +kernel⟩
theorem w_Model_35 : Cond.fieldLink RX9 35 RX9 (TX9 18).2.1 (TX9 18).2.2.1 ∈ zTS := zTS_of 862 (by decide +kernel) (by decide +kernel)
theorem f_Model_35 : zF RX9 35 9 18 := ⟨RX9, TX9, 45, rfl, by decide, w_Model_35, inX9, rfl⟩
theorem w_Model_38 : Cond.fieldLink RX9 38 RX9 (TX9 19).2.1 (TX9 19).2.2.1 ∈ zTS := zTS_of 863 (by decide +kernel) (by decide +kernel)
theorem f_Model_38 : zF RX9 38 9 19 := ⟨RX9, TX9, 45, rfl, by decide, w_Model_38, inX9, rfl⟩
theorem w_Model_41 : Cond.fieldLink RX9 41 RX9 (TX9 20).2.1 (TX9 20).2.2.1 ∈ zTS := zTS_of 864 (by decide +kernel) (by decide +kernel)
theorem f_Model_41 : zF RX9 41 9 20 := ⟨RX9, TX9, 45, rfl, by decide, w_Model_41, inX9, rfl⟩
theorem w_Model_44 : Cond.fieldLink RX9 44 RX9 (TX9 21).2.1 (TX9 21).2.2.1 ∈ zTS := zTS_of 865 (by decide +kernel) (by decide +kernel)
theorem f_Model_44 : zF RX9 44 9 21 := ⟨RX9, TX9, 45, rfl, by decide, w_Model_44, inX9, rfl⟩
theorem w_Model_48 : Cond.fieldLink RX9 48 RX9 (TX9 22).2.1 (TX9 22).2.2.1 ∈ zTS := zTS_of 866 (by decide +kernel) (by decide +kernel)
theorem f_Model_48 : zF RX9 48 9 22 := ⟨RX9, TX9, 45, rfl, by decide, w_Model_48, inX9, rfl⟩
theorem w_Model_51 : Cond.fieldLink RX9 51 RX9 (TX9 23).2.1 (TX9 23).2.2.1 ∈ zTS := zTS_of 867 (by decide +kernel) (by decide +kernel)
theorem f_Model_51 : zF RX9 51 9 23 := ⟨RX9, TX9, 45, rfl, by decide, w_Model_51, inX9, rfl⟩
theorem w_Model_54 : Cond.fieldLink RX9 54 RX9 (TX9 24).2.1 (TX9 24).2.2.1 ∈ zTS := zTS_of 868 (by decide +kernel) (by decide +kernel)
theorem f_Model_54 : zF RX9 54 9 24 := ⟨RX9, TX9, 45, rfl, by decide, w_Model_54, inX9, rfl⟩
theorem w_Model_216 : Cond.fieldLink RX9 216 RX9 (TX9 25).2.1 (TX9 25).2.2.1 ∈ zTS := zTS_of 869 (by decide +kernel) (by decide +kernel)
theorem f_Model_216 : zF RX9 216 9 25 := ⟨RX9, TX9, 45, rfl, by decide, w_Model_216, inX9, rfl⟩
theorem g_Model_216 : zFp RX9 216 9 25 (.boolean) := ⟨RX9, TX9, 45, tyX9, rfl, by decide, w_Model_216, inX9, rfl, tyX9_ok, nmX9, rfl, by decide +kernel⟩
theorem w_Model_57 : Cond.fieldLink RX9 57 RX9 (TX9 26).2.1 (TX9 26).2.2.1 ∈ zTS := zTS_of 870 (by decide +kernel) (by decide +kernel)
theorem f_Model_57 : zF RX9 57 9 26 := ⟨RX9, TX9, 45, rfl, by decide, w_Model_57, inX9, rfl⟩
theorem w_Model_61 : Cond.fieldLink RX9 61 RX9 (TX9 27).2.1 (TX9 27).2.2.1 ∈ zTS := zTS_of 871 (by decide +kernel) (by decide +kernel)
theorem f_Model_61 : zF RX9 61 9 27 := ⟨RX9, TX9, 45, rfl, by decide, w_Model_61, inX9, rfl⟩
theorem w_Model_237 : Cond.fieldLink RX9 237 RX9 (TX9 28).2.1 (TX9 28).2.2.1 ∈ zTS := zTS_of 872 (by decide +kernel) (by decide +kernel)
theorem f_Model_237 : zF RX9 237 9 28 := ⟨RX9, TX9, 45, rfl, by decide, w_Model_237, inX9, rfl⟩
theorem g_Model_237 : zFp RX9 237 9 28 (.int) := ⟨RX9, TX9, 45, tyX9, rfl, by decide, w_Model_237, inX9, rfl, tyX9_ok, nmX9, rfl, by decide +kernel⟩
theorem w_Model_64 : Cond.fieldLink RX9 64 RX9 (TX9 29).2.1 (TX9 29).2.2.1 ∈ zTS := zTS_of 873 (by decide +kernel) (by decide +kernel)
theorem f_Model_64 : zF RX9 64 9 29 := ⟨RX9, TX9, 45, rfl, by decide, w_Model_64, inX9, rfl⟩
theorem w_Model_67 : Cond.fieldLink RX9 67 RX9 (TX9 30).2.1 (TX9 30).2.2.1 ∈ zTS := zTS_of 874 (by decide +kernel) (by decide +kernel)
theorem f_Model_67 : zF RX9 67 9 30 := ⟨RX9, TX9, 45, rfl, by decide, w_Model_67, inX9, rfl⟩
theorem w_Model_256 : Cond.fieldLink RX9 256 RX9 (TX9 31).2.1 (TX9 31).2.2.1 ∈ zTS := zTS_of 875 (by decide +kernel) (by decide +kernel)
theorem f_Model_256 : zF RX9 256 9 31 := ⟨RX9, TX9, 45, rfl, by decide, w_Model_256, inX9, rfl⟩
theorem g_Model_256 : zFp RX9 256 9 31 (.int) := ⟨RX9, TX9, 45, tyX9, rfl, by decide, w_Model_256, inX9, rfl, tyX9_ok, nmX9, rfl, by decide +kernel⟩
theorem w_Model_250 : Cond.fieldLink RX9 250 RX9 (TX9 32).2.1 (TX9 32).2.2.1 ∈ zTS := zTS_of 876 (by decide +kernel) (by decide +kernel)
theorem f_Model_250 : zF RX9 250 9 32 := ⟨RX9, TX9, 45, rfl, by decide, w_Model_250, inX9, rfl⟩
theorem g_Model_250 : zFp RX9 250 9 32 (.int) := ⟨RX9, TX9, 45, tyX9, rfl, by decide, w_Model_250, inX9, rfl, tyX9_ok, nmX9, rfl, by decide +kernel⟩
theorem w_Model_259 : Cond.fieldLink RX9 259 RX9 (TX9 33).2.1 (TX9 33).2.2.1 ∈ zTS := zTS_of 877 (by decide +kernel) (by decide +kernel)
theorem f_Model_259 : zF RX9 259 9 33 := ⟨RX9, TX9, 45, rfl, by decide, w_Model_259, inX9, rfl⟩
theorem g_Model_259 : zFp RX9 259 9 33 (.boolean) := ⟨RX9, TX9, 45, tyX9, rfl, by decide, w_Model_259, inX9, rfl, tyX9_ok, nmX9, rfl, by decide +kernel⟩
theorem w_Model_279 : Cond.fieldLink RX9 279 RX9 (TX9 34).2.1 (TX9 34).2.2.1 ∈ zTS := zTS_of 878 (by decide +kernel) (by decide +kernel)
theorem f_Model_279 : zF RX9 279 9 34 := ⟨RX9, TX9, 45, rfl, by decide, w_Model_279, inX9, rfl⟩
theorem g_Model_279 : zFp RX9 279 9 34 (.int) := ⟨RX9, TX9, 45, tyX9, rfl, by decide, w_Model_279, inX9, rfl, tyX9_ok, nmX9, rfl, by decide +kernel⟩
theorem w_Model_70 : Cond.fieldLink RX9 70 RX9 (TX9 35).2.1 (TX9 35).2.2.1 ∈ zTS := zTS_of 879 (by decide +kernel) (by decide +kernel)
theorem f_Model_70 : zF RX9 70 9 35 := ⟨RX9, TX9, 45, rfl, by decide, w_Model_70, inX9, rfl⟩
theorem w_Model_73 : Cond.fieldLink RX9 73 RX9 (TX9 36).2.1 (TX9 36).2.2.1 ∈ zTS := zTS_of 880 (by decide +kernel) (by decide +kernel)
theorem f_Model_73 : zF RX9 73 9 36 := ⟨RX9, TX9, 45, rfl, by decide, w_Model_73, inX9, rfl⟩
theorem w_Model_345 : Cond.fieldLink RX9 345 RX9 (TX9 37).2.1 (TX9 37).2.2.1 ∈ zTS := zTS_of 881 (by decide +kernel) (by decide +kernel)
theorem f_Model_345 : zF RX9 345 9 37 := ⟨RX9, TX9, 45, rfl, by decide, w_Model_345, inX9, rfl⟩
theorem g_Model_345 : zFp RX9 345 9 37 (.int) := ⟨RX9, TX9, 45, tyX9, rfl, by decide, w_Model_345, inX9, rfl, tyX9_ok, nmX9, rfl, by decide +kernel⟩
theorem w_Model_76 : Cond.fieldLink RX9 76 RX9 (TX9 38).2.1 (TX9 38).2.2.1 ∈ zTS := zTS_of 882 (by decide +kernel) (by decide +kernel)
theorem f_Model_76 : zF RX9 76 9 38 := ⟨RX9, TX9, 45, rfl, by decide, w_Model_76, inX9, rfl⟩
theorem w_Model_348 : Cond.fieldLink RX9 348 RX9 (TX9 39).2.1 (TX9 39).2.2.1 ∈ zTS := zTS_of 883 (by decide +kernel) (by decide +kernel)
theorem f_Model_348 : zF RX9 348 9 39 := ⟨RX9, TX9, 45, rfl, by decide, w_Model_348, inX9, rfl⟩
theorem g_Model_348 : zFp RX9 348 9 39 (.int) := ⟨RX9, TX9, 45, tyX9, rfl, by decide, w_Model_348, inX9, rfl, tyX9_ok, nmX9, rfl, by decide +kernel⟩
theorem w_Model_79 : Cond.fieldLink RX9 79 RX9 (TX9 40).2.1 (TX9 40).2.2.1 ∈ zTS := zTS_of 884 (by decide +kernel) (by decide +kernel)
theorem f_Model_79 : zF RX9 79 9 40 := ⟨RX9, TX9, 45, rfl, by decide, w_Model_79, inX9, rfl⟩
theorem w_Model_82 : Cond.fieldLink RX9 82 RX9 (TX9 41).2.1 (TX9 41).2.2.1 ∈ zTS := zTS_of 885 (by decide +kernel) (by decide +kernel)
theorem f_Model_82 : zF RX9 82 9 41 := ⟨RX9, TX9, 45, rfl, by decide, w_Model_82, inX9, rfl⟩
theorem w_Model_85 : Cond.fieldLink RX9 85 RX9 (TX9 42).2.1 (TX9 42).2.2.1 ∈ zTS := zTS_of 886 (by decide +kernel) (by decide +kernel)
theorem f_Model_85 : zF RX9 85 9 42 := ⟨RX9, TX9, 45, rfl, by decide, w_Model_85, inX9, rfl⟩
theorem w_Model_88 : Cond.fieldLink RX9 88 RX9 (TX9 43).2.1 (TX9 43).2.2.1 ∈ zTS := zTS_of 887 (by decide +kernel) (by decide +kernel)
theorem f_Model_88 : zF RX9 88 9 43 := ⟨RX9, TX9, 45, rfl, by decide, w_Model_88, inX9, rfl⟩
theorem w_Model_92 : Cond.fieldLink RX9 92 RX9 (TX9 44).2.1 (TX9 44).2.2.1 ∈ zTS := zTS_of 888 (by decide +kernel) (by decide +kernel)
theorem f_Model_92 : zF RX9 92 9 44 := ⟨RX9, TX9, 45, rfl, by decide, w_Model_92, inX9, rfl⟩
theorem l_Law0_17 : Cond.methodLink "FourCubesLaw" 17 M_Model_cube.1 ∈ zTS := zTS_of 981 (by decide +kernel) (by decide +kernel)
theorem k_Model_110 : Cond.constant RX9 110 (111111) ∈ zTS := zTS_of 985 (by decide +kernel) (by decide +kernel)
theorem k_Model_111 : Cond.constant RX9 111 (777777) ∈ zTS := zTS_of 986 (by decide +kernel) (by decide +kernel)
theorem l_Model_102 : Cond.methodLink RX9 102 M_Model_in.1 ∈ zTS := zTS_of 987 (by decide +kernel) (by decide +kernel)
theorem l_Law0_22 : Cond.methodLink "FourCubesLaw" 22 M_Model_cubes.1 ∈ zTS := zTS_of 990 (by decide +kernel) (by decide +kernel)
theorem l_Model_112 : Cond.methodLink RX9 112 M_Model_isShelf.1 ∈ zTS := zTS_of 994 (by decide +kernel) (by decide +kernel)
theorem k_Model_115 : Cond.constantLong RX9 115 (5) ∈ zTS := zTS_of 997 (by decide +kernel) (by decide +kernel)
theorem k_Model_117 : Cond.constantLong RX9 117 (6) ∈ zTS := zTS_of 998 (by decide +kernel) (by decide +kernel)
theorem l_Law0_109 : Cond.methodLink "FourCubesLaw" 109 M_Model_undo.1 ∈ zTS := zTS_of 999 (by decide +kernel) (by decide +kernel)
theorem l_Model_129 : Cond.methodLink RX9 129 M_Model_lays.1 ∈ zTS := zTS_of 1003 (by decide +kernel) (by decide +kernel)
theorem l_Law0_113 : Cond.methodLink "FourCubesLaw" 113 M_Model_redo.1 ∈ zTS := zTS_of 1007 (by decide +kernel) (by decide +kernel)
theorem l_Law0_27 : Cond.methodLink "FourCubesLaw" 27 M_Model_paint.1 ∈ zTS := zTS_of 1011 (by decide +kernel) (by decide +kernel)
theorem l_Model_133 : Cond.methodLink RX9 133 M_Model_isFace.1 ∈ zTS := zTS_of 1015 (by decide +kernel) (by decide +kernel)
theorem l_Model_106 : Cond.methodLink RX9 106 M_Model_isCube.1 ∈ zTS := zTS_of 1019 (by decide +kernel) (by decide +kernel)
theorem l_Model_136 : Cond.methodLink RX9 136 M_Model_changes.1 ∈ zTS := zTS_of 1023 (by decide +kernel) (by decide +kernel)
theorem l_Model_119 : Cond.methodLink RX9 119 M_Model_valueAt.1 ∈ zTS := zTS_of 1027 (by decide +kernel) (by decide +kernel)
theorem l_Law0_31 : Cond.methodLink "FourCubesLaw" 31 M_Model_of.1 ∈ zTS := zTS_of 1031 (by decide +kernel) (by decide +kernel)
theorem l_Model_140 : Cond.methodLink RX9 140 M_Model_lineOf.1 ∈ zTS := zTS_of 1035 (by decide +kernel) (by decide +kernel)
theorem l_Law0_35 : Cond.methodLink "FourCubesLaw" 35 M_Model_box.1 ∈ zTS := zTS_of 1039 (by decide +kernel) (by decide +kernel)
theorem l_Model_143 : Cond.methodLink RX9 143 M_Model_bitsOf.1 ∈ zTS := zTS_of 1043 (by decide +kernel) (by decide +kernel)
theorem l_Law0_39 : Cond.methodLink "FourCubesLaw" 39 M_Model_feed.1 ∈ zTS := zTS_of 1046 (by decide +kernel) (by decide +kernel)
theorem l_Law0_44 : Cond.methodLink "FourCubesLaw" 44 M_Model_law.1 ∈ zTS := zTS_of 1050 (by decide +kernel) (by decide +kernel)
theorem l_Model_213 : Cond.methodLink RX9 213 M_Model_readText.1 ∈ zTS := zTS_of 1054 (by decide +kernel) (by decide +kernel)
theorem l_Model_204 : Cond.methodLink RX9 204 M_Model_line.1 ∈ zTS := zTS_of 1058 (by decide +kernel) (by decide +kernel)
theorem l_Model_186 : Cond.methodLink RX9 186 M_Model_either.1 ∈ zTS := zTS_of 1062 (by decide +kernel) (by decide +kernel)
theorem l_Model_201 : Cond.methodLink RX9 201 M_Model_both.1 ∈ zTS := zTS_of 1066 (by decide +kernel) (by decide +kernel)
theorem l_Model_198 : Cond.methodLink RX9 198 M_Model_compared.1 ∈ zTS := zTS_of 1070 (by decide +kernel) (by decide +kernel)
theorem l_Model_195 : Cond.methodLink RX9 195 M_Model_sum.1 ∈ zTS := zTS_of 1074 (by decide +kernel) (by decide +kernel)
theorem l_Model_192 : Cond.methodLink RX9 192 M_Model_product.1 ∈ zTS := zTS_of 1078 (by decide +kernel) (by decide +kernel)
theorem l_Model_183 : Cond.methodLink RX9 183 M_Model_operand.1 ∈ zTS := zTS_of 1082 (by decide +kernel) (by decide +kernel)
theorem l_Model_168 : Cond.methodLink RX9 168 M_Model_look.1 ∈ zTS := zTS_of 1086 (by decide +kernel) (by decide +kernel)
theorem l_Model_176 : Cond.methodLink RX9 176 M_Model_nameOf.1 ∈ zTS := zTS_of 1090 (by decide +kernel) (by decide +kernel)
theorem l_Model_172 : Cond.methodLink RX9 172 M_Model_addStep.1 ∈ zTS := zTS_of 1093 (by decide +kernel) (by decide +kernel)
theorem l_Model_179 : Cond.methodLink RX9 179 M_Model_opens.1 ∈ zTS := zTS_of 1097 (by decide +kernel) (by decide +kernel)
theorem l_Model_165 : Cond.methodLink RX9 165 M_Model_faulty.1 ∈ zTS := zTS_of 1101 (by decide +kernel) (by decide +kernel)
theorem l_Model_189 : Cond.methodLink RX9 189 M_Model_figure.1 ∈ zTS := zTS_of 1105 (by decide +kernel) (by decide +kernel)
theorem l_Law0_48 : Cond.methodLink "FourCubesLaw" 48 M_Model_turn.1 ∈ zTS := zTS_of 1109 (by decide +kernel) (by decide +kernel)
theorem l_Law0_52 : Cond.methodLink "FourCubesLaw" 52 M_Model_shows.1 ∈ zTS := zTS_of 1113 (by decide +kernel) (by decide +kernel)
theorem l_Model_223 : Cond.methodLink RX9 223 M_Model_showsOf.1 ∈ zTS := zTS_of 1117 (by decide +kernel) (by decide +kernel)
theorem l_Model_220 : Cond.methodLink RX9 220 M_Model_opposite.1 ∈ zTS := zTS_of 1121 (by decide +kernel) (by decide +kernel)
theorem l_Law0_56 : Cond.methodLink "FourCubesLaw" 56 M_Model_judge.1 ∈ zTS := zTS_of 1124 (by decide +kernel) (by decide +kernel)
theorem l_Model_240 : Cond.methodLink RX9 240 M_Model_findMay.1 ∈ zTS := zTS_of 1128 (by decide +kernel) (by decide +kernel)
theorem l_Model_226 : Cond.methodLink RX9 226 M_Model_mayAt.1 ∈ zTS := zTS_of 1132 (by decide +kernel) (by decide +kernel)
theorem l_Model_230 : Cond.methodLink RX9 230 M_Model_asks.1 ∈ zTS := zTS_of 1135 (by decide +kernel) (by decide +kernel)
theorem l_Model_234 : Cond.methodLink RX9 234 M_Model_gives.1 ∈ zTS := zTS_of 1139 (by decide +kernel) (by decide +kernel)
theorem l_Model_210 : Cond.methodLink RX9 210 M_Model_worked.1 ∈ zTS := zTS_of 1143 (by decide +kernel) (by decide +kernel)
theorem l_Model_207 : Cond.methodLink RX9 207 M_Model_twoOf.1 ∈ zTS := zTS_of 1147 (by decide +kernel) (by decide +kernel)
theorem l_Model_243 : Cond.methodLink RX9 243 M_Model_findTower.1 ∈ zTS := zTS_of 1150 (by decide +kernel) (by decide +kernel)
theorem l_Model_247 : Cond.methodLink RX9 247 M_Model_mayBe.1 ∈ zTS := zTS_of 1154 (by decide +kernel) (by decide +kernel)
theorem l_Law0_60 : Cond.methodLink "FourCubesLaw" 60 M_Model_ways.1 ∈ zTS := zTS_of 1158 (by decide +kernel) (by decide +kernel)
theorem l_Model_276 : Cond.methodLink RX9 276 M_Model_isSet.1 ∈ zTS := zTS_of 1162 (by decide +kernel) (by decide +kernel)
theorem l_Model_272 : Cond.methodLink RX9 272 M_Model_findWays.1 ∈ zTS := zTS_of 1166 (by decide +kernel) (by decide +kernel)
theorem l_Model_269 : Cond.methodLink RX9 269 M_Model_goOn.1 ∈ zTS := zTS_of 1170 (by decide +kernel) (by decide +kernel)
theorem l_Model_262 : Cond.methodLink RX9 262 M_Model_isTried.1 ∈ zTS := zTS_of 1174 (by decide +kernel) (by decide +kernel)
theorem l_Model_253 : Cond.methodLink RX9 253 M_Model_isHeld.1 ∈ zTS := zTS_of 1178 (by decide +kernel) (by decide +kernel)
theorem l_Model_266 : Cond.methodLink RX9 266 M_Model_wrongWith.1 ∈ zTS := zTS_of 1182 (by decide +kernel) (by decide +kernel)
theorem l_Law0_64 : Cond.methodLink "FourCubesLaw" 64 M_Model_near.1 ∈ zTS := zTS_of 1186 (by decide +kernel) (by decide +kernel)
theorem l_Model_282 : Cond.methodLink RX9 282 M_Model_findNear.1 ∈ zTS := zTS_of 1190 (by decide +kernel) (by decide +kernel)
theorem l_Law0_68 : Cond.methodLink "FourCubesLaw" 68 M_Model_build.1 ∈ zTS := zTS_of 1194 (by decide +kernel) (by decide +kernel)
theorem l_Law0_72 : Cond.methodLink "FourCubesLaw" 72 M_Model_mend.1 ∈ zTS := zTS_of 1198 (by decide +kernel) (by decide +kernel)
theorem l_Model_285 : Cond.methodLink RX9 285 M_Model_hasWay.1 ∈ zTS := zTS_of 1202 (by decide +kernel) (by decide +kernel)
theorem l_Law0_76 : Cond.methodLink "FourCubesLaw" 76 M_Model_open.1 ∈ zTS := zTS_of 1206 (by decide +kernel) (by decide +kernel)
theorem l_Law0_80 : Cond.methodLink "FourCubesLaw" 80 M_Model_swap.1 ∈ zTS := zTS_of 1210 (by decide +kernel) (by decide +kernel)
theorem l_Law0_84 : Cond.methodLink "FourCubesLaw" 84 M_Model_rings.1 ∈ zTS := zTS_of 1214 (by decide +kernel) (by decide +kernel)
theorem l_Model_288 : Cond.methodLink RX9 288 M_Model_isRing.1 ∈ zTS := zTS_of 1218 (by decide +kernel) (by decide +kernel)
theorem l_Model_291 : Cond.methodLink RX9 291 M_Model_areParted.1 ∈ zTS := zTS_of 1222 (by decide +kernel) (by decide +kernel)
theorem l_Law0_88 : Cond.methodLink "FourCubesLaw" 88 M_Model_alike.1 ∈ zTS := zTS_of 1226 (by decide +kernel) (by decide +kernel)
theorem l_Model_298 : Cond.methodLink RX9 298 M_Model_areAlike.1 ∈ zTS := zTS_of 1230 (by decide +kernel) (by decide +kernel)
theorem l_Model_294 : Cond.methodLink RX9 294 M_Model_isAs.1 ∈ zTS := zTS_of 1234 (by decide +kernel) (by decide +kernel)
theorem l_Law0_93 : Cond.methodLink "FourCubesLaw" 93 M_Model_many.1 ∈ zTS := zTS_of 1238 (by decide +kernel) (by decide +kernel)
theorem k_Model_302 : Cond.constantLong RX9 302 (-1) ∈ zTS := zTS_of 1242 (by decide +kernel) (by decide +kernel)
theorem k_Model_304 : Cond.constantLong RX9 304 (3) ∈ zTS := zTS_of 1243 (by decide +kernel) (by decide +kernel)
theorem k_Model_306 : Cond.constantLong RX9 306 (12) ∈ zTS := zTS_of 1244 (by decide +kernel) (by decide +kernel)
theorem k_Model_308 : Cond.constantLong RX9 308 (8) ∈ zTS := zTS_of 1245 (by decide +kernel) (by decide +kernel)
theorem k_Model_310 : Cond.constantLong RX9 310 (24) ∈ zTS := zTS_of 1246 (by decide +kernel) (by decide +kernel)
theorem k_Model_312 : Cond.constantLong RX9 312 (9) ∈ zTS := zTS_of 1247 (by decide +kernel) (by decide +kernel)
theorem k_Model_314 : Cond.constantLong RX9 314 (13) ∈ zTS := zTS_of 1248 (by decide +kernel) (by decide +kernel)
theorem k_Model_316 : Cond.constantLong RX9 316 (14) ∈ zTS := zTS_of 1249 (by decide +kernel) (by decide +kernel)
theorem k_Model_318 : Cond.constantLong RX9 318 (48) ∈ zTS := zTS_of 1250 (by decide +kernel) (by decide +kernel)
theorem l_Law0_97 : Cond.methodLink "FourCubesLaw" 97 M_Model_sight.1 ∈ zTS := zTS_of 1251 (by decide +kernel) (by decide +kernel)
theorem l_Model_324 : Cond.methodLink RX9 324 M_Model_isColour.1 ∈ zTS := zTS_of 1255 (by decide +kernel) (by decide +kernel)
theorem l_Model_327 : Cond.methodLink RX9 327 M_Model_sightOf.1 ∈ zTS := zTS_of 1258 (by decide +kernel) (by decide +kernel)
theorem l_Model_320 : Cond.methodLink RX9 320 M_Model_doesShow.1 ∈ zTS := zTS_of 1262 (by decide +kernel) (by decide +kernel)
theorem l_Law0_101 : Cond.methodLink "FourCubesLaw" 101 M_Model_wall.1 ∈ zTS := zTS_of 1266 (by decide +kernel) (by decide +kernel)
theorem l_Model_336 : Cond.methodLink RX9 336 M_Model_goWall.1 ∈ zTS := zTS_of 1270 (by decide +kernel) (by decide +kernel)
theorem l_Model_333 : Cond.methodLink RX9 333 M_Model_fitsWall.1 ∈ zTS := zTS_of 1274 (by decide +kernel) (by decide +kernel)
theorem l_Model_330 : Cond.methodLink RX9 330 M_Model_touch.1 ∈ zTS := zTS_of 1278 (by decide +kernel) (by decide +kernel)
theorem l_Law0_105 : Cond.methodLink "FourCubesLaw" 105 M_Model_great.1 ∈ zTS := zTS_of 1282 (by decide +kernel) (by decide +kernel)
theorem l_Model_342 : Cond.methodLink RX9 342 M_Model_isGreat.1 ∈ zTS := zTS_of 1286 (by decide +kernel) (by decide +kernel)
theorem l_Model_339 : Cond.methodLink RX9 339 M_Model_isOf.1 ∈ zTS := zTS_of 1290 (by decide +kernel) (by decide +kernel)
theorem l_Law0_125 : Cond.methodLink "FourCubesLaw" 125 M_Model_trace.1 ∈ zTS := zTS_of 1294 (by decide +kernel) (by decide +kernel)
theorem l_Law0_117 : Cond.methodLink "FourCubesLaw" 117 M_Model_body.1 ∈ zTS := zTS_of 1298 (by decide +kernel) (by decide +kernel)
theorem l_Law0_121 : Cond.methodLink "FourCubesLaw" 121 M_Model_act.1 ∈ zTS := zTS_of 1302 (by decide +kernel) (by decide +kernel)
theorem l_Model_387 : Cond.methodLink RX9 387 M_Model_isBody.1 ∈ zTS := zTS_of 1306 (by decide +kernel) (by decide +kernel)
theorem l_Model_363 : Cond.methodLink RX9 363 M_Model_turningBy.1 ∈ zTS := zTS_of 1310 (by decide +kernel) (by decide +kernel)
theorem l_Model_357 : Cond.methodLink RX9 357 M_Model_isUnder.1 ∈ zTS := zTS_of 1314 (by decide +kernel) (by decide +kernel)
theorem l_Model_351 : Cond.methodLink RX9 351 M_Model_ran.1 ∈ zTS := zTS_of 1317 (by decide +kernel) (by decide +kernel)
theorem l_Model_354 : Cond.methodLink RX9 354 M_Model_plainTurns.1 ∈ zTS := zTS_of 1321 (by decide +kernel) (by decide +kernel)
theorem l_Model_360 : Cond.methodLink RX9 360 M_Model_toldTurns.1 ∈ zTS := zTS_of 1325 (by decide +kernel) (by decide +kernel)
theorem l_Model_378 : Cond.methodLink RX9 378 M_Model_showing.1 ∈ zTS := zTS_of 1329 (by decide +kernel) (by decide +kernel)
theorem l_Model_369 : Cond.methodLink RX9 369 M_Model_wallShows.1 ∈ zTS := zTS_of 1333 (by decide +kernel) (by decide +kernel)
theorem l_Model_366 : Cond.methodLink RX9 366 M_Model_plainShows.1 ∈ zTS := zTS_of 1337 (by decide +kernel) (by decide +kernel)
theorem l_Model_372 : Cond.methodLink RX9 372 M_Model_lying.1 ∈ zTS := zTS_of 1341 (by decide +kernel) (by decide +kernel)
theorem l_Model_375 : Cond.methodLink RX9 375 M_Model_plainLies.1 ∈ zTS := zTS_of 1345 (by decide +kernel) (by decide +kernel)
theorem l_Model_390 : Cond.methodLink RX9 390 M_Model_telling.1 ∈ zTS := zTS_of 1349 (by decide +kernel) (by decide +kernel)
theorem l_Model_384 : Cond.methodLink RX9 384 M_Model_rowTells.1 ∈ zTS := zTS_of 1353 (by decide +kernel) (by decide +kernel)
theorem l_Model_381 : Cond.methodLink RX9 381 M_Model_plainTells.1 ∈ zTS := zTS_of 1357 (by decide +kernel) (by decide +kernel)
theorem l_Law0_157 : Cond.methodLink "FourCubesLaw" 157 M_Model_count.1 ∈ zTS := zTS_of 1361 (by decide +kernel) (by decide +kernel)
theorem l_Law0_129 : Cond.methodLink "FourCubesLaw" 129 M_Model_keep.1 ∈ zTS := zTS_of 1365 (by decide +kernel) (by decide +kernel)
theorem l_Law0_133 : Cond.methodLink "FourCubesLaw" 133 M_Model_row.1 ∈ zTS := zTS_of 1369 (by decide +kernel) (by decide +kernel)
theorem l_Law0_140 : Cond.methodLink "FourCubesLaw" 140 M_Model_put.1 ∈ zTS := zTS_of 1373 (by decide +kernel) (by decide +kernel)
theorem l_Model_393 : Cond.methodLink RX9 393 M_Model_whyNoPlace.1 ∈ zTS := zTS_of 1377 (by decide +kernel) (by decide +kernel)
theorem l_Law0_144 : Cond.methodLink "FourCubesLaw" 144 M_Model_element.1 ∈ zTS := zTS_of 1381 (by decide +kernel) (by decide +kernel)
theorem k_Model_398 : Cond.constantLong RX9 398 (-9223372036854775808) ∈ zTS := zTS_of 1385 (by decide +kernel) (by decide +kernel)
theorem l_Law0_149 : Cond.methodLink "FourCubesLaw" 149 M_Model_shift.1 ∈ zTS := zTS_of 1386 (by decide +kernel) (by decide +kernel)
theorem l_Law0_153 : Cond.methodLink "FourCubesLaw" 153 M_Model_taken.1 ∈ zTS := zTS_of 1390 (by decide +kernel) (by decide +kernel)
theorem k_Law0_134 : Cond.constantLong "FourCubesLaw" 134 (4294967295) ∈ zTS := zTS_of 1394 (by decide +kernel) (by decide +kernel)
theorem mc_Bodies_init : zMc M_Bodies_init 0 := ⟨zTS_of 245 (by decide +kernel) (by decide +kernel), zTS_of 8 (by decide +kernel) (by decide +kernel), by decide +kernel, by decide +kernel, by decide⟩
theorem mc_Bodies_add : zMc M_Bodies_add 1 := ⟨zTS_of 746 (by decide +kernel) (by decide +kernel), zTS_of 8 (by decide +kernel) (by decide +kernel), by decide +kernel, by decide +kernel, by decide⟩
theorem mi_Bodies_add : zMI M_Bodies_add 1 := ⟨mc_Bodies_add, zTS_of 744 (by decide +kernel) (by decide +kernel), zTS_of 745 (by decide +kernel) (by decide +kernel)⟩
theorem mc_Bodies_kindOf : zMc M_Bodies_kindOf 1 := ⟨zTS_of 831 (by decide +kernel) (by decide +kernel), zTS_of 8 (by decide +kernel) (by decide +kernel), by decide +kernel, by decide +kernel, by decide⟩
theorem mi_Bodies_kindOf : zMI M_Bodies_kindOf 1 := ⟨mc_Bodies_kindOf, zTS_of 829 (by decide +kernel) (by decide +kernel), zTS_of 830 (by decide +kernel) (by decide +kernel)⟩
theorem mc_Bodies_isUnder : zMc M_Bodies_isUnder 2 := ⟨zTS_of 834 (by decide +kernel) (by decide +kernel), zTS_of 8 (by decide +kernel) (by decide +kernel), by decide +kernel, by decide +kernel, by decide⟩
theorem ms_Bodies_isUnder : zMS M_Bodies_isUnder 2 := ⟨mc_Bodies_isUnder, zTS_of 833 (by decide +kernel) (by decide +kernel)⟩
theorem mc_Bodies_traced : zMc M_Bodies_traced 0 := ⟨zTS_of 774 (by decide +kernel) (by decide +kernel), zTS_of 8 (by decide +kernel) (by decide +kernel), by decide +kernel, by decide +kernel, by decide⟩
theorem mi_Bodies_traced : zMI M_Bodies_traced 0 := ⟨mc_Bodies_traced, zTS_of 772 (by decide +kernel) (by decide +kernel), zTS_of 773 (by decide +kernel) (by decide +kernel)⟩
theorem mc_Bodies_perform : zMc M_Bodies_perform 3 := ⟨zTS_of 754 (by decide +kernel) (by decide +kernel), zTS_of 8 (by decide +kernel) (by decide +kernel), by decide +kernel, by decide +kernel, by decide⟩
theorem mi_Bodies_perform : zMI M_Bodies_perform 3 := ⟨mc_Bodies_perform, zTS_of 752 (by decide +kernel) (by decide +kernel), zTS_of 753 (by decide +kernel) (by decide +kernel)⟩
theorem mc_Bodies_runFrom : zMc M_Bodies_runFrom 4 := ⟨zTS_of 758 (by decide +kernel) (by decide +kernel), zTS_of 8 (by decide +kernel) (by decide +kernel), by decide +kernel, by decide +kernel, by decide⟩
theorem mi_Bodies_runFrom : zMI M_Bodies_runFrom 4 := ⟨mc_Bodies_runFrom, zTS_of 757 (by decide +kernel) (by decide +kernel), zTS_sel 32 (by decide +kernel) (by decide +kernel)⟩
theorem mc_Bodies_run : zMc M_Bodies_run 4 := ⟨zTS_of 764 (by decide +kernel) (by decide +kernel), zTS_of 8 (by decide +kernel) (by decide +kernel), by decide +kernel, by decide +kernel, by decide⟩
theorem mi_Bodies_run : zMI M_Bodies_run 4 := ⟨mc_Bodies_run, zTS_of 763 (by decide +kernel) (by decide +kernel), zTS_sel 33 (by decide +kernel) (by decide +kernel)⟩
theorem mc_Cube_init : zMc M_Cube_init 0 := ⟨zTS_of 28 (by decide +kernel) (by decide +kernel), zTS_of 2 (by decide +kernel) (by decide +kernel), by decide +kernel, by decide +kernel, by decide⟩
theorem mc_Cube_seen : zMc M_Cube_seen 2 := ⟨zTS_of 488 (by decide +kernel) (by decide +kernel), zTS_of 2 (by decide +kernel) (by decide +kernel), by decide +kernel, by decide +kernel, by decide⟩
theorem mi_Cube_seen : zMI M_Cube_seen 2 := ⟨mc_Cube_seen, zTS_of 486 (by decide +kernel) (by decide +kernel), zTS_of 487 (by decide +kernel) (by decide +kernel)⟩
theorem mc_Cube_endOf : zMc M_Cube_endOf 1 := ⟨zTS_of 393 (by decide +kernel) (by decide +kernel), zTS_of 2 (by decide +kernel) (by decide +kernel), by decide +kernel, by decide +kernel, by decide⟩
theorem ms_Cube_endOf : zMS M_Cube_endOf 1 := ⟨mc_Cube_endOf, zTS_of 392 (by decide +kernel) (by decide +kernel)⟩
theorem mc_Cube_line : zMc M_Cube_line 1 := ⟨zTS_of 390 (by decide +kernel) (by decide +kernel), zTS_of 2 (by decide +kernel) (by decide +kernel), by decide +kernel, by decide +kernel, by decide⟩
theorem mi_Cube_line : zMI M_Cube_line 1 := ⟨mc_Cube_line, zTS_of 388 (by decide +kernel) (by decide +kernel), zTS_of 389 (by decide +kernel) (by decide +kernel)⟩
theorem mc_Cube_turnsInto : zMc M_Cube_turnsInto 2 := ⟨zTS_of 672 (by decide +kernel) (by decide +kernel), zTS_of 2 (by decide +kernel) (by decide +kernel), by decide +kernel, by decide +kernel, by decide⟩
theorem mi_Cube_turnsInto : zMI M_Cube_turnsInto 2 := ⟨mc_Cube_turnsInto, zTS_of 670 (by decide +kernel) (by decide +kernel), zTS_of 671 (by decide +kernel) (by decide +kernel)⟩
theorem mc_Cube_isLike : zMc M_Cube_isLike 3 := ⟨zTS_of 676 (by decide +kernel) (by decide +kernel), zTS_of 2 (by decide +kernel) (by decide +kernel), by decide +kernel, by decide +kernel, by decide⟩
theorem mi_Cube_isLike : zMI M_Cube_isLike 3 := ⟨mc_Cube_isLike, zTS_of 675 (by decide +kernel) (by decide +kernel), zTS_sel 28 (by decide +kernel) (by decide +kernel)⟩
theorem mc_Cube_turningsThatShow : zMc M_Cube_turningsThatShow 1 := ⟨zTS_of 695 (by decide +kernel) (by decide +kernel), zTS_of 2 (by decide +kernel) (by decide +kernel), by decide +kernel, by decide +kernel, by decide⟩
theorem mi_Cube_turningsThatShow : zMI M_Cube_turningsThatShow 1 := ⟨mc_Cube_turningsThatShow, zTS_of 693 (by decide +kernel) (by decide +kernel), zTS_of 694 (by decide +kernel) (by decide +kernel)⟩
theorem mc_Cube_turningsWith : zMc M_Cube_turningsWith 2 := ⟨zTS_of 719 (by decide +kernel) (by decide +kernel), zTS_of 2 (by decide +kernel) (by decide +kernel), by decide +kernel, by decide +kernel, by decide⟩
theorem mi_Cube_turningsWith : zMI M_Cube_turningsWith 2 := ⟨mc_Cube_turningsWith, zTS_of 717 (by decide +kernel) (by decide +kernel), zTS_of 718 (by decide +kernel) (by decide +kernel)⟩
theorem mc_Cube_mayShow : zMc M_Cube_mayShow 3 := ⟨zTS_of 699 (by decide +kernel) (by decide +kernel), zTS_of 2 (by decide +kernel) (by decide +kernel), by decide +kernel, by decide +kernel, by decide⟩
theorem mi_Cube_mayShow : zMI M_Cube_mayShow 3 := ⟨mc_Cube_mayShow, zTS_of 698 (by decide +kernel) (by decide +kernel), zTS_sel 29 (by decide +kernel) (by decide +kernel)⟩
theorem mc_Cube_mayBe : zMc M_Cube_mayBe 2 := ⟨zTS_of 703 (by decide +kernel) (by decide +kernel), zTS_of 2 (by decide +kernel) (by decide +kernel), by decide +kernel, by decide +kernel, by decide⟩
theorem mi_Cube_mayBe : zMI M_Cube_mayBe 2 := ⟨mc_Cube_mayBe, zTS_of 702 (by decide +kernel) (by decide +kernel), zTS_sel 30 (by decide +kernel) (by decide +kernel)⟩
theorem mc_Cube_hasCornerOf : zMc M_Cube_hasCornerOf 1 := ⟨zTS_of 727 (by decide +kernel) (by decide +kernel), zTS_of 2 (by decide +kernel) (by decide +kernel), by decide +kernel, by decide +kernel, by decide⟩
theorem mi_Cube_hasCornerOf : zMI M_Cube_hasCornerOf 1 := ⟨mc_Cube_hasCornerOf, zTS_of 725 (by decide +kernel) (by decide +kernel), zTS_of 726 (by decide +kernel) (by decide +kernel)⟩
theorem mc_Law_init : zMc M_Law_init 0 := ⟨zTS_of 46 (by decide +kernel) (by decide +kernel), zTS_of 3 (by decide +kernel) (by decide +kernel), by decide +kernel, by decide +kernel, by decide⟩
theorem mc_Law_takeByte : zMc M_Law_takeByte 1 := ⟨zTS_of 423 (by decide +kernel) (by decide +kernel), zTS_of 3 (by decide +kernel) (by decide +kernel), by decide +kernel, by decide +kernel, by decide⟩
theorem mi_Law_takeByte : zMI M_Law_takeByte 1 := ⟨mc_Law_takeByte, zTS_of 421 (by decide +kernel) (by decide +kernel), zTS_of 422 (by decide +kernel) (by decide +kernel)⟩
theorem mc_Law_takeTape : zMc M_Law_takeTape 0 := ⟨zTS_of 431 (by decide +kernel) (by decide +kernel), zTS_of 3 (by decide +kernel) (by decide +kernel), by decide +kernel, by decide +kernel, by decide⟩
theorem mi_Law_takeTape : zMI M_Law_takeTape 0 := ⟨mc_Law_takeTape, zTS_of 429 (by decide +kernel) (by decide +kernel), zTS_of 430 (by decide +kernel) (by decide +kernel)⟩
theorem mc_Law_peek : zMc M_Law_peek 0 := ⟨zTS_of 451 (by decide +kernel) (by decide +kernel), zTS_of 3 (by decide +kernel) (by decide +kernel), by decide +kernel, by decide +kernel, by decide⟩
theorem mi_Law_peek : zMI M_Law_peek 0 := ⟨mc_Law_peek, zTS_of 450 (by decide +kernel) (by decide +kernel), zTS_sel 13 (by decide +kernel) (by decide +kernel)⟩
theorem mc_Law_emit : zMc M_Law_emit 1 := ⟨zTS_of 462 (by decide +kernel) (by decide +kernel), zTS_of 3 (by decide +kernel) (by decide +kernel), by decide +kernel, by decide +kernel, by decide⟩
theorem mi_Law_emit : zMI M_Law_emit 1 := ⟨mc_Law_emit, zTS_of 461 (by decide +kernel) (by decide +kernel), zTS_sel 15 (by decide +kernel) (by decide +kernel)⟩
theorem mc_Law_readText : zMc M_Law_readText 0 := ⟨zTS_of 435 (by decide +kernel) (by decide +kernel), zTS_of 3 (by decide +kernel) (by decide +kernel), by decide +kernel, by decide +kernel, by decide⟩
theorem mi_Law_readText : zMI M_Law_readText 0 := ⟨mc_Law_readText, zTS_of 434 (by decide +kernel) (by decide +kernel), zTS_sel 9 (by decide +kernel) (by decide +kernel)⟩
theorem mc_Law_readLine : zMc M_Law_readLine 0 := ⟨zTS_of 439 (by decide +kernel) (by decide +kernel), zTS_of 3 (by decide +kernel) (by decide +kernel), by decide +kernel, by decide +kernel, by decide⟩
theorem mi_Law_readLine : zMI M_Law_readLine 0 := ⟨mc_Law_readLine, zTS_of 438 (by decide +kernel) (by decide +kernel), zTS_sel 10 (by decide +kernel) (by decide +kernel)⟩
theorem mc_Law_readLevel : zMc M_Law_readLevel 2 := ⟨zTS_of 443 (by decide +kernel) (by decide +kernel), zTS_of 3 (by decide +kernel) (by decide +kernel), by decide +kernel, by decide +kernel, by decide⟩
theorem mi_Law_readLevel : zMI M_Law_readLevel 2 := ⟨mc_Law_readLevel, zTS_of 442 (by decide +kernel) (by decide +kernel), zTS_sel 11 (by decide +kernel) (by decide +kernel)⟩
theorem mc_Law_isJoin : zMc M_Law_isJoin 2 := ⟨zTS_of 473 (by decide +kernel) (by decide +kernel), zTS_of 3 (by decide +kernel) (by decide +kernel), by decide +kernel, by decide +kernel, by decide⟩
theorem ms_Law_isJoin : zMS M_Law_isJoin 2 := ⟨mc_Law_isJoin, zTS_of 472 (by decide +kernel) (by decide +kernel)⟩
theorem mc_Law_readOperand : zMc M_Law_readOperand 1 := ⟨zTS_of 447 (by decide +kernel) (by decide +kernel), zTS_of 3 (by decide +kernel) (by decide +kernel), by decide +kernel, by decide +kernel, by decide⟩
theorem mi_Law_readOperand : zMI M_Law_readOperand 1 := ⟨mc_Law_readOperand, zTS_of 446 (by decide +kernel) (by decide +kernel), zTS_sel 12 (by decide +kernel) (by decide +kernel)⟩
theorem mc_Law_readInside : zMc M_Law_readInside 1 := ⟨zTS_of 466 (by decide +kernel) (by decide +kernel), zTS_of 3 (by decide +kernel) (by decide +kernel), by decide +kernel, by decide +kernel, by decide⟩
theorem mi_Law_readInside : zMI M_Law_readInside 1 := ⟨mc_Law_readInside, zTS_of 465 (by decide +kernel) (by decide +kernel), zTS_sel 16 (by decide +kernel) (by decide +kernel)⟩
theorem mc_Law_readTurned : zMc M_Law_readTurned 2 := ⟨zTS_of 470 (by decide +kernel) (by decide +kernel), zTS_of 3 (by decide +kernel) (by decide +kernel), by decide +kernel, by decide +kernel, by decide⟩
theorem mi_Law_readTurned : zMI M_Law_readTurned 2 := ⟨mc_Law_readTurned, zTS_of 469 (by decide +kernel) (by decide +kernel), zTS_sel 17 (by decide +kernel) (by decide +kernel)⟩
theorem mc_Law_readNumber : zMc M_Law_readNumber 0 := ⟨zTS_of 458 (by decide +kernel) (by decide +kernel), zTS_of 3 (by decide +kernel) (by decide +kernel), by decide +kernel, by decide +kernel, by decide⟩
theorem mi_Law_readNumber : zMI M_Law_readNumber 0 := ⟨mc_Law_readNumber, zTS_of 457 (by decide +kernel) (by decide +kernel), zTS_sel 14 (by decide +kernel) (by decide +kernel)⟩
theorem mc_Law_isDigit : zMc M_Law_isDigit 1 := ⟨zTS_of 454 (by decide +kernel) (by decide +kernel), zTS_of 3 (by decide +kernel) (by decide +kernel), by decide +kernel, by decide +kernel, by decide⟩
theorem ms_Law_isDigit : zMS M_Law_isDigit 1 := ⟨mc_Law_isDigit, zTS_of 453 (by decide +kernel) (by decide +kernel)⟩
theorem mc_Law_isName : zMc M_Law_isName 1 := ⟨zTS_of 62 (by decide +kernel) (by decide +kernel), zTS_of 3 (by decide +kernel) (by decide +kernel), by decide +kernel, by decide +kernel, by decide⟩
theorem ms_Law_isName : zMS M_Law_isName 1 := ⟨mc_Law_isName, zTS_of 61 (by decide +kernel) (by decide +kernel)⟩
theorem mc_Law_allows : zMc M_Law_allows 4 := ⟨zTS_of 510 (by decide +kernel) (by decide +kernel), zTS_of 3 (by decide +kernel) (by decide +kernel), by decide +kernel, by decide +kernel, by decide⟩
theorem mi_Law_allows : zMI M_Law_allows 4 := ⟨mc_Law_allows, zTS_of 508 (by decide +kernel) (by decide +kernel), zTS_of 509 (by decide +kernel) (by decide +kernel)⟩
theorem mc_Law_workOutAll : zMc M_Law_workOutAll 0 := ⟨zTS_of 51 (by decide +kernel) (by decide +kernel), zTS_of 3 (by decide +kernel) (by decide +kernel), by decide +kernel, by decide +kernel, by decide⟩
theorem mi_Law_workOutAll : zMI M_Law_workOutAll 0 := ⟨mc_Law_workOutAll, zTS_of 50 (by decide +kernel) (by decide +kernel), zTS_sel 0 (by decide +kernel) (by decide +kernel)⟩
theorem mc_Law_workedOut : zMc M_Law_workedOut 0 := ⟨zTS_of 59 (by decide +kernel) (by decide +kernel), zTS_of 3 (by decide +kernel) (by decide +kernel), by decide +kernel, by decide +kernel, by decide⟩
theorem mi_Law_workedOut : zMI M_Law_workedOut 0 := ⟨mc_Law_workedOut, zTS_of 58 (by decide +kernel) (by decide +kernel), zTS_sel 1 (by decide +kernel) (by decide +kernel)⟩
theorem mc_Law_named : zMc M_Law_named 1 := ⟨zTS_of 66 (by decide +kernel) (by decide +kernel), zTS_of 3 (by decide +kernel) (by decide +kernel), by decide +kernel, by decide +kernel, by decide⟩
theorem mi_Law_named : zMI M_Law_named 1 := ⟨mc_Law_named, zTS_of 65 (by decide +kernel) (by decide +kernel), zTS_sel 2 (by decide +kernel) (by decide +kernel)⟩
theorem mc_Law_turned : zMc M_Law_turned 2 := ⟨zTS_of 69 (by decide +kernel) (by decide +kernel), zTS_of 3 (by decide +kernel) (by decide +kernel), by decide +kernel, by decide +kernel, by decide⟩
theorem ms_Law_turned : zMS M_Law_turned 2 := ⟨mc_Law_turned, zTS_of 68 (by decide +kernel) (by decide +kernel)⟩
theorem mc_Law_joined : zMc M_Law_joined 3 := ⟨zTS_of 72 (by decide +kernel) (by decide +kernel), zTS_of 3 (by decide +kernel) (by decide +kernel), by decide +kernel, by decide +kernel, by decide⟩
theorem ms_Law_joined : zMS M_Law_joined 3 := ⟨mc_Law_joined, zTS_of 71 (by decide +kernel) (by decide +kernel)⟩
theorem mc_Past_init : zMc M_Past_init 0 := ⟨zTS_of 218 (by decide +kernel) (by decide +kernel), zTS_of 7 (by decide +kernel) (by decide +kernel), by decide +kernel, by decide +kernel, by decide⟩
theorem mc_Past_add : zMc M_Past_add 3 := ⟨zTS_of 374 (by decide +kernel) (by decide +kernel), zTS_of 7 (by decide +kernel) (by decide +kernel), by decide +kernel, by decide +kernel, by decide⟩
theorem mi_Past_add : zMI M_Past_add 3 := ⟨mc_Past_add, zTS_of 372 (by decide +kernel) (by decide +kernel), zTS_of 373 (by decide +kernel) (by decide +kernel)⟩
theorem mc_Past_forgetOldest : zMc M_Past_forgetOldest 0 := ⟨zTS_of 378 (by decide +kernel) (by decide +kernel), zTS_of 7 (by decide +kernel) (by decide +kernel), by decide +kernel, by decide +kernel, by decide⟩
theorem mi_Past_forgetOldest : zMI M_Past_forgetOldest 0 := ⟨mc_Past_forgetOldest, zTS_of 377 (by decide +kernel) (by decide +kernel), zTS_sel 6 (by decide +kernel) (by decide +kernel)⟩
theorem mc_Rings_init : zMc M_Rings_init 0 := ⟨zTS_of 198 (by decide +kernel) (by decide +kernel), zTS_of 6 (by decide +kernel) (by decide +kernel), by decide +kernel, by decide +kernel, by decide⟩
theorem mc_Rings_gather : zMc M_Rings_gather 2 := ⟨zTS_of 646 (by decide +kernel) (by decide +kernel), zTS_of 6 (by decide +kernel) (by decide +kernel), by decide +kernel, by decide +kernel, by decide⟩
theorem mi_Rings_gather : zMI M_Rings_gather 2 := ⟨mc_Rings_gather, zTS_of 644 (by decide +kernel) (by decide +kernel), zTS_of 645 (by decide +kernel) (by decide +kernel)⟩
theorem mc_Rings_isChoice : zMc M_Rings_isChoice 1 := ⟨zTS_of 649 (by decide +kernel) (by decide +kernel), zTS_of 6 (by decide +kernel) (by decide +kernel), by decide +kernel, by decide +kernel, by decide⟩
theorem ms_Rings_isChoice : zMS M_Rings_isChoice 1 := ⟨mc_Rings_isChoice, zTS_of 648 (by decide +kernel) (by decide +kernel)⟩
theorem mc_Rings_isRing : zMc M_Rings_isRing 2 := ⟨zTS_of 653 (by decide +kernel) (by decide +kernel), zTS_of 6 (by decide +kernel) (by decide +kernel), by decide +kernel, by decide +kernel, by decide⟩
theorem mi_Rings_isRing : zMI M_Rings_isRing 2 := ⟨mc_Rings_isRing, zTS_of 652 (by decide +kernel) (by decide +kernel), zTS_sel 26 (by decide +kernel) (by decide +kernel)⟩
theorem mc_Rings_parted : zMc M_Rings_parted 0 := ⟨zTS_of 659 (by decide +kernel) (by decide +kernel), zTS_of 6 (by decide +kernel) (by decide +kernel), by decide +kernel, by decide +kernel, by decide⟩
theorem mi_Rings_parted : zMI M_Rings_parted 0 := ⟨mc_Rings_parted, zTS_of 657 (by decide +kernel) (by decide +kernel), zTS_of 658 (by decide +kernel) (by decide +kernel)⟩
theorem mc_Rings_shareNone : zMc M_Rings_shareNone 1 := ⟨zTS_of 663 (by decide +kernel) (by decide +kernel), zTS_of 6 (by decide +kernel) (by decide +kernel), by decide +kernel, by decide +kernel, by decide⟩
theorem mi_Rings_shareNone : zMI M_Rings_shareNone 1 := ⟨mc_Rings_shareNone, zTS_of 662 (by decide +kernel) (by decide +kernel), zTS_sel 27 (by decide +kernel) (by decide +kernel)⟩
theorem mc_Search_init : zMc M_Search_init 0 := ⟨zTS_of 124 (by decide +kernel) (by decide +kernel), zTS_of 5 (by decide +kernel) (by decide +kernel), by decide +kernel, by decide +kernel, by decide⟩
theorem mc_Search_pairOf : zMc M_Search_pairOf 2 := ⟨zTS_of 506 (by decide +kernel) (by decide +kernel), zTS_of 5 (by decide +kernel) (by decide +kernel), by decide +kernel, by decide +kernel, by decide⟩
theorem ms_Search_pairOf : zMS M_Search_pairOf 2 := ⟨mc_Search_pairOf, zTS_of 505 (by decide +kernel) (by decide +kernel)⟩
theorem mc_Search_fitAny : zMc M_Search_fitAny 1 := ⟨zTS_of 533 (by decide +kernel) (by decide +kernel), zTS_of 5 (by decide +kernel) (by decide +kernel), by decide +kernel, by decide +kernel, by decide⟩
theorem mi_Search_fitAny : zMI M_Search_fitAny 1 := ⟨mc_Search_fitAny, zTS_of 531 (by decide +kernel) (by decide +kernel), zTS_of 532 (by decide +kernel) (by decide +kernel)⟩
theorem mc_Search_fitting : zMc M_Search_fitting 2 := ⟨zTS_of 554 (by decide +kernel) (by decide +kernel), zTS_of 5 (by decide +kernel) (by decide +kernel), by decide +kernel, by decide +kernel, by decide⟩
theorem mi_Search_fitting : zMI M_Search_fitting 2 := ⟨mc_Search_fitting, zTS_of 552 (by decide +kernel) (by decide +kernel), zTS_of 553 (by decide +kernel) (by decide +kernel)⟩
theorem mc_Search_answer : zMc M_Search_answer 1 := ⟨zTS_of 546 (by decide +kernel) (by decide +kernel), zTS_of 5 (by decide +kernel) (by decide +kernel), by decide +kernel, by decide +kernel, by decide⟩
theorem mi_Search_answer : zMI M_Search_answer 1 := ⟨mc_Search_answer, zTS_of 544 (by decide +kernel) (by decide +kernel), zTS_of 545 (by decide +kernel) (by decide +kernel)⟩
theorem mc_Search_hasAny : zMc M_Search_hasAny 0 := ⟨zTS_of 624 (by decide +kernel) (by decide +kernel), zTS_of 5 (by decide +kernel) (by decide +kernel), by decide +kernel, by decide +kernel, by decide⟩
theorem mi_Search_hasAny : zMI M_Search_hasAny 0 := ⟨mc_Search_hasAny, zTS_of 622 (by decide +kernel) (by decide +kernel), zTS_of 623 (by decide +kernel) (by decide +kernel)⟩
theorem mc_Search_total : zMc M_Search_total 1 := ⟨zTS_of 550 (by decide +kernel) (by decide +kernel), zTS_of 5 (by decide +kernel) (by decide +kernel), by decide +kernel, by decide +kernel, by decide⟩
theorem mi_Search_total : zMI M_Search_total 1 := ⟨mc_Search_total, zTS_of 549 (by decide +kernel) (by decide +kernel), zTS_sel 20 (by decide +kernel) (by decide +kernel)⟩
theorem mc_Search_find : zMc M_Search_find 1 := ⟨zTS_of 560 (by decide +kernel) (by decide +kernel), zTS_of 5 (by decide +kernel) (by decide +kernel), by decide +kernel, by decide +kernel, by decide⟩
theorem mi_Search_find : zMI M_Search_find 1 := ⟨mc_Search_find, zTS_of 559 (by decide +kernel) (by decide +kernel), zTS_sel 21 (by decide +kernel) (by decide +kernel)⟩
theorem mc_Shelf_init : zMc M_Shelf_init 0 := ⟨zTS_of 271 (by decide +kernel) (by decide +kernel), zTS_of 9 (by decide +kernel) (by decide +kernel), by decide +kernel, by decide +kernel, by decide⟩
theorem mc_Shelf_isBare : zMc M_Shelf_isBare 0 := ⟨zTS_of 341 (by decide +kernel) (by decide +kernel), zTS_of 9 (by decide +kernel) (by decide +kernel), by decide +kernel, by decide +kernel, by decide⟩
theorem mi_Shelf_isBare : zMI M_Shelf_isBare 0 := ⟨mc_Shelf_isBare, zTS_of 339 (by decide +kernel) (by decide +kernel), zTS_of 340 (by decide +kernel) (by decide +kernel)⟩
theorem mc_Shelf_isRow : zMc M_Shelf_isRow 0 := ⟨zTS_of 345 (by decide +kernel) (by decide +kernel), zTS_of 9 (by decide +kernel) (by decide +kernel), by decide +kernel, by decide +kernel, by decide⟩
theorem mi_Shelf_isRow : zMI M_Shelf_isRow 0 := ⟨mc_Shelf_isRow, zTS_of 343 (by decide +kernel) (by decide +kernel), zTS_of 344 (by decide +kernel) (by decide +kernel)⟩
theorem mc_Shelf_clear : zMc M_Shelf_clear 0 := ⟨zTS_of 783 (by decide +kernel) (by decide +kernel), zTS_of 9 (by decide +kernel) (by decide +kernel), by decide +kernel, by decide +kernel, by decide⟩
theorem mi_Shelf_clear : zMI M_Shelf_clear 0 := ⟨mc_Shelf_clear, zTS_of 781 (by decide +kernel) (by decide +kernel), zTS_of 782 (by decide +kernel) (by decide +kernel)⟩
theorem mc_Shelf_holdBody : zMc M_Shelf_holdBody 1 := ⟨zTS_of 787 (by decide +kernel) (by decide +kernel), zTS_of 9 (by decide +kernel) (by decide +kernel), by decide +kernel, by decide +kernel, by decide⟩
theorem mi_Shelf_holdBody : zMI M_Shelf_holdBody 1 := ⟨mc_Shelf_holdBody, zTS_of 785 (by decide +kernel) (by decide +kernel), zTS_of 786 (by decide +kernel) (by decide +kernel)⟩
theorem mc_Shelf_holdRow : zMc M_Shelf_holdRow 2 := ⟨zTS_of 795 (by decide +kernel) (by decide +kernel), zTS_of 9 (by decide +kernel) (by decide +kernel), by decide +kernel, by decide +kernel, by decide⟩
theorem mi_Shelf_holdRow : zMI M_Shelf_holdRow 2 := ⟨mc_Shelf_holdRow, zTS_of 793 (by decide +kernel) (by decide +kernel), zTS_of 794 (by decide +kernel) (by decide +kernel)⟩
theorem mc_Shelf_store : zMc M_Shelf_store 2 := ⟨zTS_of 810 (by decide +kernel) (by decide +kernel), zTS_of 9 (by decide +kernel) (by decide +kernel), by decide +kernel, by decide +kernel, by decide⟩
theorem mi_Shelf_store : zMI M_Shelf_store 2 := ⟨mc_Shelf_store, zTS_of 808 (by decide +kernel) (by decide +kernel), zTS_of 809 (by decide +kernel) (by decide +kernel)⟩
theorem mc_Shelf_hasStretch : zMc M_Shelf_hasStretch 2 := ⟨zTS_of 353 (by decide +kernel) (by decide +kernel), zTS_of 9 (by decide +kernel) (by decide +kernel), by decide +kernel, by decide +kernel, by decide⟩
theorem mi_Shelf_hasStretch : zMI M_Shelf_hasStretch 2 := ⟨mc_Shelf_hasStretch, zTS_of 351 (by decide +kernel) (by decide +kernel), zTS_of 352 (by decide +kernel) (by decide +kernel)⟩
theorem mc_Shelf_hasSixColours : zMc M_Shelf_hasSixColours 1 := ⟨zTS_of 349 (by decide +kernel) (by decide +kernel), zTS_of 9 (by decide +kernel) (by decide +kernel), by decide +kernel, by decide +kernel, by decide⟩
theorem mi_Shelf_hasSixColours : zMI M_Shelf_hasSixColours 1 := ⟨mc_Shelf_hasSixColours, zTS_of 347 (by decide +kernel) (by decide +kernel), zTS_of 348 (by decide +kernel) (by decide +kernel)⟩
theorem mc_Tower_init : zMc M_Tower_init 3 := ⟨zTS_of 145 (by decide +kernel) (by decide +kernel), zTS_of 4 (by decide +kernel) (by decide +kernel), by decide +kernel, by decide +kernel, by decide⟩
theorem mc_Tower_pile : zMc M_Tower_pile 1 := ⟨zTS_of 498 (by decide +kernel) (by decide +kernel), zTS_of 4 (by decide +kernel) (by decide +kernel), by decide +kernel, by decide +kernel, by decide⟩
theorem mi_Tower_pile : zMI M_Tower_pile 1 := ⟨mc_Tower_pile, zTS_of 496 (by decide +kernel) (by decide +kernel), zTS_of 497 (by decide +kernel) (by decide +kernel)⟩
theorem mc_Tower_firstWrong : zMc M_Tower_firstWrong 0 := ⟨zTS_of 502 (by decide +kernel) (by decide +kernel), zTS_of 4 (by decide +kernel) (by decide +kernel), by decide +kernel, by decide +kernel, by decide⟩
theorem mi_Tower_firstWrong : zMI M_Tower_firstWrong 0 := ⟨mc_Tower_firstWrong, zTS_of 500 (by decide +kernel) (by decide +kernel), zTS_of 501 (by decide +kernel) (by decide +kernel)⟩
theorem mc_Tower_startFrom : zMc M_Tower_startFrom 1 := ⟨zTS_of 518 (by decide +kernel) (by decide +kernel), zTS_of 4 (by decide +kernel) (by decide +kernel), by decide +kernel, by decide +kernel, by decide⟩
theorem mi_Tower_startFrom : zMI M_Tower_startFrom 1 := ⟨mc_Tower_startFrom, zTS_of 516 (by decide +kernel) (by decide +kernel), zTS_of 517 (by decide +kernel) (by decide +kernel)⟩
theorem mc_Tower_fitAll : zMc M_Tower_fitAll 0 := ⟨zTS_of 524 (by decide +kernel) (by decide +kernel), zTS_of 4 (by decide +kernel) (by decide +kernel), by decide +kernel, by decide +kernel, by decide⟩
theorem mi_Tower_fitAll : zMI M_Tower_fitAll 0 := ⟨mc_Tower_fitAll, zTS_of 522 (by decide +kernel) (by decide +kernel), zTS_of 523 (by decide +kernel) (by decide +kernel)⟩
theorem mc_Tower_fitPair : zMc M_Tower_fitPair 1 := ⟨zTS_of 528 (by decide +kernel) (by decide +kernel), zTS_of 4 (by decide +kernel) (by decide +kernel), by decide +kernel, by decide +kernel, by decide⟩
theorem mi_Tower_fitPair : zMI M_Tower_fitPair 1 := ⟨mc_Tower_fitPair, zTS_of 527 (by decide +kernel) (by decide +kernel), zTS_sel 18 (by decide +kernel) (by decide +kernel)⟩
theorem mc_Tower_findAllowed : zMc M_Tower_findAllowed 2 := ⟨zTS_of 538 (by decide +kernel) (by decide +kernel), zTS_of 4 (by decide +kernel) (by decide +kernel), by decide +kernel, by decide +kernel, by decide⟩
theorem mi_Tower_findAllowed : zMI M_Tower_findAllowed 2 := ⟨mc_Tower_findAllowed, zTS_of 537 (by decide +kernel) (by decide +kernel), zTS_sel 19 (by decide +kernel) (by decide +kernel)⟩
theorem mc_Tower_goes : zMc M_Tower_goes 0 := ⟨zTS_of 618 (by decide +kernel) (by decide +kernel), zTS_of 4 (by decide +kernel) (by decide +kernel), by decide +kernel, by decide +kernel, by decide⟩
theorem mi_Tower_goes : zMI M_Tower_goes 0 := ⟨mc_Tower_goes, zTS_of 616 (by decide +kernel) (by decide +kernel), zTS_of 617 (by decide +kernel) (by decide +kernel)⟩
theorem mc_Tower_goesWith : zMc M_Tower_goesWith 3 := ⟨zTS_of 614 (by decide +kernel) (by decide +kernel), zTS_of 4 (by decide +kernel) (by decide +kernel), by decide +kernel, by decide +kernel, by decide⟩
theorem mi_Tower_goesWith : zMI M_Tower_goesWith 3 := ⟨mc_Tower_goesWith, zTS_of 612 (by decide +kernel) (by decide +kernel), zTS_of 613 (by decide +kernel) (by decide +kernel)⟩
theorem mc_Tower_findMends : zMc M_Tower_findMends 1 := ⟨zTS_of 610 (by decide +kernel) (by decide +kernel), zTS_of 4 (by decide +kernel) (by decide +kernel), by decide +kernel, by decide +kernel, by decide⟩
theorem mi_Tower_findMends : zMI M_Tower_findMends 1 := ⟨mc_Tower_findMends, zTS_of 608 (by decide +kernel) (by decide +kernel), zTS_of 609 (by decide +kernel) (by decide +kernel)⟩
theorem mc_Tower_stuckFrom : zMc M_Tower_stuckFrom 1 := ⟨zTS_of 592 (by decide +kernel) (by decide +kernel), zTS_of 4 (by decide +kernel) (by decide +kernel), by decide +kernel, by decide +kernel, by decide⟩
theorem mi_Tower_stuckFrom : zMI M_Tower_stuckFrom 1 := ⟨mc_Tower_stuckFrom, zTS_of 590 (by decide +kernel) (by decide +kernel), zTS_of 591 (by decide +kernel) (by decide +kernel)⟩
theorem mc_Tower_looksFrom : zMc M_Tower_looksFrom 1 := ⟨zTS_of 601 (by decide +kernel) (by decide +kernel), zTS_of 4 (by decide +kernel) (by decide +kernel), by decide +kernel, by decide +kernel, by decide⟩
theorem mi_Tower_looksFrom : zMI M_Tower_looksFrom 1 := ⟨mc_Tower_looksFrom, zTS_of 599 (by decide +kernel) (by decide +kernel), zTS_of 600 (by decide +kernel) (by decide +kernel)⟩
theorem mc_Tower_leastWrong : zMc M_Tower_leastWrong 0 := ⟨zTS_of 568 (by decide +kernel) (by decide +kernel), zTS_of 4 (by decide +kernel) (by decide +kernel), by decide +kernel, by decide +kernel, by decide⟩
theorem mi_Tower_leastWrong : zMI M_Tower_leastWrong 0 := ⟨mc_Tower_leastWrong, zTS_of 566 (by decide +kernel) (by decide +kernel), zTS_of 567 (by decide +kernel) (by decide +kernel)⟩
theorem mc_Tower_weigh : zMc M_Tower_weigh 1 := ⟨zTS_of 575 (by decide +kernel) (by decide +kernel), zTS_of 4 (by decide +kernel) (by decide +kernel), by decide +kernel, by decide +kernel, by decide⟩
theorem mi_Tower_weigh : zMI M_Tower_weigh 1 := ⟨mc_Tower_weigh, zTS_of 574 (by decide +kernel) (by decide +kernel), zTS_sel 22 (by decide +kernel) (by decide +kernel)⟩
theorem mc_Tower_descend : zMc M_Tower_descend 2 := ⟨zTS_of 580 (by decide +kernel) (by decide +kernel), zTS_of 4 (by decide +kernel) (by decide +kernel), by decide +kernel, by decide +kernel, by decide⟩
theorem mi_Tower_descend : zMI M_Tower_descend 2 := ⟨mc_Tower_descend, zTS_of 579 (by decide +kernel) (by decide +kernel), zTS_sel 23 (by decide +kernel) (by decide +kernel)⟩
theorem mc_Tower_costOf : zMc M_Tower_costOf 2 := ⟨zTS_of 584 (by decide +kernel) (by decide +kernel), zTS_of 4 (by decide +kernel) (by decide +kernel), by decide +kernel, by decide +kernel, by decide⟩
theorem mi_Tower_costOf : zMI M_Tower_costOf 2 := ⟨mc_Tower_costOf, zTS_of 583 (by decide +kernel) (by decide +kernel), zTS_sel 24 (by decide +kernel) (by decide +kernel)⟩
theorem mc_Tower_fitWall : zMc M_Tower_fitWall 0 := ⟨zTS_of 711 (by decide +kernel) (by decide +kernel), zTS_of 4 (by decide +kernel) (by decide +kernel), by decide +kernel, by decide +kernel, by decide⟩
theorem mi_Tower_fitWall : zMI M_Tower_fitWall 0 := ⟨mc_Tower_fitWall, zTS_of 709 (by decide +kernel) (by decide +kernel), zTS_of 710 (by decide +kernel) (by decide +kernel)⟩
theorem mc_Tower_touch : zMc M_Tower_touch 3 := ⟨zTS_of 715 (by decide +kernel) (by decide +kernel), zTS_of 4 (by decide +kernel) (by decide +kernel), by decide +kernel, by decide +kernel, by decide⟩
theorem mi_Tower_touch : zMI M_Tower_touch 3 := ⟨mc_Tower_touch, zTS_of 714 (by decide +kernel) (by decide +kernel), zTS_sel 31 (by decide +kernel) (by decide +kernel)⟩
theorem mc_Four_init : zMc M_Four_init 0 := ⟨zTS_of 19 (by decide +kernel) (by decide +kernel), zTS_of 1 (by decide +kernel) (by decide +kernel), by decide +kernel, by decide +kernel, by decide⟩
theorem mc_Four_cube : zMc M_Four_cube 1 := ⟨zTS_of 325 (by decide +kernel) (by decide +kernel), zTS_of 1 (by decide +kernel) (by decide +kernel), by decide +kernel, by decide +kernel, by decide⟩
theorem mi_Four_cube : zMI M_Four_cube 1 := ⟨mc_Four_cube, zTS_of 323 (by decide +kernel) (by decide +kernel), zTS_of 324 (by decide +kernel) (by decide +kernel)⟩
theorem mc_Four_cubes : zMc M_Four_cubes 3 := ⟨zTS_of 334 (by decide +kernel) (by decide +kernel), zTS_of 1 (by decide +kernel) (by decide +kernel), by decide +kernel, by decide +kernel, by decide⟩
theorem mi_Four_cubes : zMI M_Four_cubes 3 := ⟨mc_Four_cubes, zTS_of 332 (by decide +kernel) (by decide +kernel), zTS_of 333 (by decide +kernel) (by decide +kernel)⟩
theorem mc_Four_paint : zMc M_Four_paint 2 := ⟨zTS_of 358 (by decide +kernel) (by decide +kernel), zTS_of 1 (by decide +kernel) (by decide +kernel), by decide +kernel, by decide +kernel, by decide⟩
theorem mi_Four_paint : zMI M_Four_paint 2 := ⟨mc_Four_paint, zTS_of 356 (by decide +kernel) (by decide +kernel), zTS_of 357 (by decide +kernel) (by decide +kernel)⟩
theorem mc_Four_of : zMc M_Four_of 2 := ⟨zTS_of 386 (by decide +kernel) (by decide +kernel), zTS_of 1 (by decide +kernel) (by decide +kernel), by decide +kernel, by decide +kernel, by decide⟩
theorem mi_Four_of : zMI M_Four_of 2 := ⟨mc_Four_of, zTS_of 384 (by decide +kernel) (by decide +kernel), zTS_of 385 (by decide +kernel) (by decide +kernel)⟩
theorem mc_Four_box : zMc M_Four_box 1 := ⟨zTS_of 405 (by decide +kernel) (by decide +kernel), zTS_of 1 (by decide +kernel) (by decide +kernel), by decide +kernel, by decide +kernel, by decide⟩
theorem mi_Four_box : zMI M_Four_box 1 := ⟨mc_Four_box, zTS_of 403 (by decide +kernel) (by decide +kernel), zTS_of 404 (by decide +kernel) (by decide +kernel)⟩
theorem mc_Four_feed : zMc M_Four_feed 1 := ⟨zTS_of 419 (by decide +kernel) (by decide +kernel), zTS_of 1 (by decide +kernel) (by decide +kernel), by decide +kernel, by decide +kernel, by decide⟩
theorem mi_Four_feed : zMI M_Four_feed 1 := ⟨mc_Four_feed, zTS_of 417 (by decide +kernel) (by decide +kernel), zTS_of 418 (by decide +kernel) (by decide +kernel)⟩
theorem mc_Four_law : zMc M_Four_law 0 := ⟨zTS_of 427 (by decide +kernel) (by decide +kernel), zTS_of 1 (by decide +kernel) (by decide +kernel), by decide +kernel, by decide +kernel, by decide⟩
theorem mi_Four_law : zMI M_Four_law 0 := ⟨mc_Four_law, zTS_of 425 (by decide +kernel) (by decide +kernel), zTS_of 426 (by decide +kernel) (by decide +kernel)⟩
theorem mc_Four_turn : zMc M_Four_turn 2 := ⟨zTS_of 477 (by decide +kernel) (by decide +kernel), zTS_of 1 (by decide +kernel) (by decide +kernel), by decide +kernel, by decide +kernel, by decide⟩
theorem mi_Four_turn : zMI M_Four_turn 2 := ⟨mc_Four_turn, zTS_of 475 (by decide +kernel) (by decide +kernel), zTS_of 476 (by decide +kernel) (by decide +kernel)⟩
theorem mc_Four_shows : zMc M_Four_shows 3 := ⟨zTS_of 484 (by decide +kernel) (by decide +kernel), zTS_of 1 (by decide +kernel) (by decide +kernel), by decide +kernel, by decide +kernel, by decide⟩
theorem mi_Four_shows : zMI M_Four_shows 3 := ⟨mc_Four_shows, zTS_of 482 (by decide +kernel) (by decide +kernel), zTS_of 483 (by decide +kernel) (by decide +kernel)⟩
theorem mc_Four_judge : zMc M_Four_judge 0 := ⟨zTS_of 494 (by decide +kernel) (by decide +kernel), zTS_of 1 (by decide +kernel) (by decide +kernel), by decide +kernel, by decide +kernel, by decide⟩
theorem mi_Four_judge : zMI M_Four_judge 0 := ⟨mc_Four_judge, zTS_of 492 (by decide +kernel) (by decide +kernel), zTS_of 493 (by decide +kernel) (by decide +kernel)⟩
theorem mc_Four_ways : zMc M_Four_ways 2 := ⟨zTS_of 514 (by decide +kernel) (by decide +kernel), zTS_of 1 (by decide +kernel) (by decide +kernel), by decide +kernel, by decide +kernel, by decide⟩
theorem mi_Four_ways : zMI M_Four_ways 2 := ⟨mc_Four_ways, zTS_of 512 (by decide +kernel) (by decide +kernel), zTS_of 513 (by decide +kernel) (by decide +kernel)⟩
theorem mc_Four_near : zMc M_Four_near 1 := ⟨zTS_of 564 (by decide +kernel) (by decide +kernel), zTS_of 1 (by decide +kernel) (by decide +kernel), by decide +kernel, by decide +kernel, by decide⟩
theorem mi_Four_near : zMI M_Four_near 1 := ⟨mc_Four_near, zTS_of 562 (by decide +kernel) (by decide +kernel), zTS_of 563 (by decide +kernel) (by decide +kernel)⟩
theorem mc_Four_build : zMc M_Four_build 2 := ⟨zTS_of 588 (by decide +kernel) (by decide +kernel), zTS_of 1 (by decide +kernel) (by decide +kernel), by decide +kernel, by decide +kernel, by decide⟩
theorem mi_Four_build : zMI M_Four_build 2 := ⟨mc_Four_build, zTS_of 586 (by decide +kernel) (by decide +kernel), zTS_of 587 (by decide +kernel) (by decide +kernel)⟩
theorem mc_Four_mend : zMc M_Four_mend 1 := ⟨zTS_of 606 (by decide +kernel) (by decide +kernel), zTS_of 1 (by decide +kernel) (by decide +kernel), by decide +kernel, by decide +kernel, by decide⟩
theorem mi_Four_mend : zMI M_Four_mend 1 := ⟨mc_Four_mend, zTS_of 604 (by decide +kernel) (by decide +kernel), zTS_of 605 (by decide +kernel) (by decide +kernel)⟩
theorem mc_Four_open : zMc M_Four_open 1 := ⟨zTS_of 628 (by decide +kernel) (by decide +kernel), zTS_of 1 (by decide +kernel) (by decide +kernel), by decide +kernel, by decide +kernel, by decide⟩
theorem mi_Four_open : zMI M_Four_open 1 := ⟨mc_Four_open, zTS_of 626 (by decide +kernel) (by decide +kernel), zTS_of 627 (by decide +kernel) (by decide +kernel)⟩
theorem mc_Four_swap : zMc M_Four_swap 1 := ⟨zTS_of 633 (by decide +kernel) (by decide +kernel), zTS_of 1 (by decide +kernel) (by decide +kernel), by decide +kernel, by decide +kernel, by decide⟩
theorem mi_Four_swap : zMI M_Four_swap 1 := ⟨mc_Four_swap, zTS_of 631 (by decide +kernel) (by decide +kernel), zTS_of 632 (by decide +kernel) (by decide +kernel)⟩
theorem mc_Four_rings : zMc M_Four_rings 1 := ⟨zTS_of 642 (by decide +kernel) (by decide +kernel), zTS_of 1 (by decide +kernel) (by decide +kernel), by decide +kernel, by decide +kernel, by decide⟩
theorem mi_Four_rings : zMI M_Four_rings 1 := ⟨mc_Four_rings, zTS_of 640 (by decide +kernel) (by decide +kernel), zTS_of 641 (by decide +kernel) (by decide +kernel)⟩
theorem mc_Four_alike : zMc M_Four_alike 1 := ⟨zTS_of 668 (by decide +kernel) (by decide +kernel), zTS_of 1 (by decide +kernel) (by decide +kernel), by decide +kernel, by decide +kernel, by decide⟩
theorem mi_Four_alike : zMI M_Four_alike 1 := ⟨mc_Four_alike, zTS_of 666 (by decide +kernel) (by decide +kernel), zTS_of 667 (by decide +kernel) (by decide +kernel)⟩
theorem mc_Four_many : zMc M_Four_many 2 := ⟨zTS_of 680 (by decide +kernel) (by decide +kernel), zTS_of 1 (by decide +kernel) (by decide +kernel), by decide +kernel, by decide +kernel, by decide⟩
theorem mi_Four_many : zMI M_Four_many 2 := ⟨mc_Four_many, zTS_of 678 (by decide +kernel) (by decide +kernel), zTS_of 679 (by decide +kernel) (by decide +kernel)⟩
theorem mc_Four_sight : zMc M_Four_sight 2 := ⟨zTS_of 691 (by decide +kernel) (by decide +kernel), zTS_of 1 (by decide +kernel) (by decide +kernel), by decide +kernel, by decide +kernel, by decide⟩
theorem mi_Four_sight : zMI M_Four_sight 2 := ⟨mc_Four_sight, zTS_of 689 (by decide +kernel) (by decide +kernel), zTS_of 690 (by decide +kernel) (by decide +kernel)⟩
theorem mc_Four_wall : zMc M_Four_wall 1 := ⟨zTS_of 707 (by decide +kernel) (by decide +kernel), zTS_of 1 (by decide +kernel) (by decide +kernel), by decide +kernel, by decide +kernel, by decide⟩
theorem mi_Four_wall : zMI M_Four_wall 1 := ⟨mc_Four_wall, zTS_of 705 (by decide +kernel) (by decide +kernel), zTS_of 706 (by decide +kernel) (by decide +kernel)⟩
theorem mc_Four_great : zMc M_Four_great 1 := ⟨zTS_of 723 (by decide +kernel) (by decide +kernel), zTS_of 1 (by decide +kernel) (by decide +kernel), by decide +kernel, by decide +kernel, by decide⟩
theorem mi_Four_great : zMI M_Four_great 1 := ⟨mc_Four_great, zTS_of 721 (by decide +kernel) (by decide +kernel), zTS_of 722 (by decide +kernel) (by decide +kernel)⟩
theorem mc_Four_undo : zMc M_Four_undo 0 := ⟨zTS_of 731 (by decide +kernel) (by decide +kernel), zTS_of 1 (by decide +kernel) (by decide +kernel), by decide +kernel, by decide +kernel, by decide⟩
theorem mi_Four_undo : zMI M_Four_undo 0 := ⟨mc_Four_undo, zTS_of 729 (by decide +kernel) (by decide +kernel), zTS_of 730 (by decide +kernel) (by decide +kernel)⟩
theorem mc_Four_redo : zMc M_Four_redo 0 := ⟨zTS_of 735 (by decide +kernel) (by decide +kernel), zTS_of 1 (by decide +kernel) (by decide +kernel), by decide +kernel, by decide +kernel, by decide⟩
theorem mi_Four_redo : zMI M_Four_redo 0 := ⟨mc_Four_redo, zTS_of 733 (by decide +kernel) (by decide +kernel), zTS_of 734 (by decide +kernel) (by decide +kernel)⟩
theorem mc_Four_body : zMc M_Four_body 1 := ⟨zTS_of 739 (by decide +kernel) (by decide +kernel), zTS_of 1 (by decide +kernel) (by decide +kernel), by decide +kernel, by decide +kernel, by decide⟩
theorem mi_Four_body : zMI M_Four_body 1 := ⟨mc_Four_body, zTS_of 737 (by decide +kernel) (by decide +kernel), zTS_of 738 (by decide +kernel) (by decide +kernel)⟩
theorem mc_Four_act : zMc M_Four_act 3 := ⟨zTS_of 750 (by decide +kernel) (by decide +kernel), zTS_of 1 (by decide +kernel) (by decide +kernel), by decide +kernel, by decide +kernel, by decide⟩
theorem mi_Four_act : zMI M_Four_act 3 := ⟨mc_Four_act, zTS_of 748 (by decide +kernel) (by decide +kernel), zTS_of 749 (by decide +kernel) (by decide +kernel)⟩
theorem mc_Four_trace : zMc M_Four_trace 1 := ⟨zTS_of 770 (by decide +kernel) (by decide +kernel), zTS_of 1 (by decide +kernel) (by decide +kernel), by decide +kernel, by decide +kernel, by decide⟩
theorem mi_Four_trace : zMI M_Four_trace 1 := ⟨mc_Four_trace, zTS_of 768 (by decide +kernel) (by decide +kernel), zTS_of 769 (by decide +kernel) (by decide +kernel)⟩
theorem mc_Four_keep : zMc M_Four_keep 2 := ⟨zTS_of 779 (by decide +kernel) (by decide +kernel), zTS_of 1 (by decide +kernel) (by decide +kernel), by decide +kernel, by decide +kernel, by decide⟩
theorem mi_Four_keep : zMI M_Four_keep 2 := ⟨mc_Four_keep, zTS_of 777 (by decide +kernel) (by decide +kernel), zTS_of 778 (by decide +kernel) (by decide +kernel)⟩
theorem mc_Four_row : zMc M_Four_row 3 := ⟨zTS_of 791 (by decide +kernel) (by decide +kernel), zTS_of 1 (by decide +kernel) (by decide +kernel), by decide +kernel, by decide +kernel, by decide⟩
theorem mi_Four_row : zMI M_Four_row 3 := ⟨mc_Four_row, zTS_of 789 (by decide +kernel) (by decide +kernel), zTS_of 790 (by decide +kernel) (by decide +kernel)⟩
theorem mc_Four_put : zMc M_Four_put 3 := ⟨zTS_of 802 (by decide +kernel) (by decide +kernel), zTS_of 1 (by decide +kernel) (by decide +kernel), by decide +kernel, by decide +kernel, by decide⟩
theorem mi_Four_put : zMI M_Four_put 3 := ⟨mc_Four_put, zTS_of 800 (by decide +kernel) (by decide +kernel), zTS_of 801 (by decide +kernel) (by decide +kernel)⟩
theorem mc_Four_element : zMc M_Four_element 2 := ⟨zTS_of 814 (by decide +kernel) (by decide +kernel), zTS_of 1 (by decide +kernel) (by decide +kernel), by decide +kernel, by decide +kernel, by decide⟩
theorem mi_Four_element : zMI M_Four_element 2 := ⟨mc_Four_element, zTS_of 812 (by decide +kernel) (by decide +kernel), zTS_of 813 (by decide +kernel) (by decide +kernel)⟩
theorem mc_Four_shift : zMc M_Four_shift 5 := ⟨zTS_of 819 (by decide +kernel) (by decide +kernel), zTS_of 1 (by decide +kernel) (by decide +kernel), by decide +kernel, by decide +kernel, by decide⟩
theorem mi_Four_shift : zMI M_Four_shift 5 := ⟨mc_Four_shift, zTS_of 817 (by decide +kernel) (by decide +kernel), zTS_of 818 (by decide +kernel) (by decide +kernel)⟩
theorem mc_Four_taken : zMc M_Four_taken 2 := ⟨zTS_of 827 (by decide +kernel) (by decide +kernel), zTS_of 1 (by decide +kernel) (by decide +kernel), by decide +kernel, by decide +kernel, by decide⟩
theorem mi_Four_taken : zMI M_Four_taken 2 := ⟨mc_Four_taken, zTS_of 825 (by decide +kernel) (by decide +kernel), zTS_of 826 (by decide +kernel) (by decide +kernel)⟩
theorem mc_Four_count : zMc M_Four_count 1 := ⟨zTS_of 838 (by decide +kernel) (by decide +kernel), zTS_of 1 (by decide +kernel) (by decide +kernel), by decide +kernel, by decide +kernel, by decide⟩
theorem mi_Four_count : zMI M_Four_count 1 := ⟨mc_Four_count, zTS_of 836 (by decide +kernel) (by decide +kernel), zTS_of 837 (by decide +kernel) (by decide +kernel)⟩
theorem mc_Four_areSixColours : zMc M_Four_areSixColours 1 := ⟨zTS_of 328 (by decide +kernel) (by decide +kernel), zTS_of 1 (by decide +kernel) (by decide +kernel), by decide +kernel, by decide +kernel, by decide⟩
theorem ms_Four_areSixColours : zMS M_Four_areSixColours 1 := ⟨mc_Four_areSixColours, zTS_of 327 (by decide +kernel) (by decide +kernel)⟩
theorem mc_Four_isShelf : zMc M_Four_isShelf 1 := ⟨zTS_of 337 (by decide +kernel) (by decide +kernel), zTS_of 1 (by decide +kernel) (by decide +kernel), by decide +kernel, by decide +kernel, by decide⟩
theorem ms_Four_isShelf : zMS M_Four_isShelf 1 := ⟨mc_Four_isShelf, zTS_of 336 (by decide +kernel) (by decide +kernel)⟩
theorem mc_Four_isTurning : zMc M_Four_isTurning 1 := ⟨zTS_of 480 (by decide +kernel) (by decide +kernel), zTS_of 1 (by decide +kernel) (by decide +kernel), by decide +kernel, by decide +kernel, by decide⟩
theorem ms_Four_isTurning : zMS M_Four_isTurning 1 := ⟨mc_Four_isTurning, zTS_of 479 (by decide +kernel) (by decide +kernel)⟩
theorem mc_Four_isKind : zMc M_Four_isKind 1 := ⟨zTS_of 742 (by decide +kernel) (by decide +kernel), zTS_of 1 (by decide +kernel) (by decide +kernel), by decide +kernel, by decide +kernel, by decide⟩
theorem ms_Four_isKind : zMS M_Four_isKind 1 := ⟨mc_Four_isKind, zTS_of 741 (by decide +kernel) (by decide +kernel)⟩
theorem mc_Four_isCube : zMc M_Four_isCube 1 := ⟨zTS_of 366 (by decide +kernel) (by decide +kernel), zTS_of 1 (by decide +kernel) (by decide +kernel), by decide +kernel, by decide +kernel, by decide⟩
theorem mi_Four_isCube : zMI M_Four_isCube 1 := ⟨mc_Four_isCube, zTS_of 365 (by decide +kernel) (by decide +kernel), zTS_sel 4 (by decide +kernel) (by decide +kernel)⟩
theorem mc_Four_areCubes : zMc M_Four_areCubes 1 := ⟨zTS_of 409 (by decide +kernel) (by decide +kernel), zTS_of 1 (by decide +kernel) (by decide +kernel), by decide +kernel, by decide +kernel, by decide⟩
theorem mi_Four_areCubes : zMI M_Four_areCubes 1 := ⟨mc_Four_areCubes, zTS_of 408 (by decide +kernel) (by decide +kernel), zTS_sel 8 (by decide +kernel) (by decide +kernel)⟩
theorem mc_Four_isFace : zMc M_Four_isFace 1 := ⟨zTS_of 362 (by decide +kernel) (by decide +kernel), zTS_of 1 (by decide +kernel) (by decide +kernel), by decide +kernel, by decide +kernel, by decide⟩
theorem mi_Four_isFace : zMI M_Four_isFace 1 := ⟨mc_Four_isFace, zTS_of 361 (by decide +kernel) (by decide +kernel), zTS_sel 3 (by decide +kernel) (by decide +kernel)⟩
theorem mc_Four_colourAt : zMc M_Four_colourAt 1 := ⟨zTS_of 370 (by decide +kernel) (by decide +kernel), zTS_of 1 (by decide +kernel) (by decide +kernel), by decide +kernel, by decide +kernel, by decide⟩
theorem mi_Four_colourAt : zMI M_Four_colourAt 1 := ⟨mc_Four_colourAt, zTS_of 369 (by decide +kernel) (by decide +kernel), zTS_sel 5 (by decide +kernel) (by decide +kernel)⟩
theorem mc_Four_setColour : zMc M_Four_setColour 2 := ⟨zTS_of 382 (by decide +kernel) (by decide +kernel), zTS_of 1 (by decide +kernel) (by decide +kernel), by decide +kernel, by decide +kernel, by decide⟩
theorem mi_Four_setColour : zMI M_Four_setColour 2 := ⟨mc_Four_setColour, zTS_of 381 (by decide +kernel) (by decide +kernel), zTS_sel 7 (by decide +kernel) (by decide +kernel)⟩
theorem mc_Four_goesExchanged : zMc M_Four_goesExchanged 2 := ⟨zTS_of 637 (by decide +kernel) (by decide +kernel), zTS_of 1 (by decide +kernel) (by decide +kernel), by decide +kernel, by decide +kernel, by decide⟩
theorem mi_Four_goesExchanged : zMI M_Four_goesExchanged 2 := ⟨mc_Four_goesExchanged, zTS_of 636 (by decide +kernel) (by decide +kernel), zTS_sel 25 (by decide +kernel) (by decide +kernel)⟩
theorem mc_Four_refusalOf : zMc M_Four_refusalOf 2 := ⟨zTS_of 806 (by decide +kernel) (by decide +kernel), zTS_of 1 (by decide +kernel) (by decide +kernel), by decide +kernel, by decide +kernel, by decide⟩
theorem mi_Four_refusalOf : zMI M_Four_refusalOf 2 := ⟨mc_Four_refusalOf, zTS_of 805 (by decide +kernel) (by decide +kernel), zTS_sel 34 (by decide +kernel) (by decide +kernel)⟩
theorem mc_Model_init : zMc M_Model_init 0 := ⟨zTS_of 843 (by decide +kernel) (by decide +kernel), zTS_of 10 (by decide +kernel) (by decide +kernel), by decide +kernel, by decide +kernel, by decide⟩
theorem mc_Model_in : zMc M_Model_in 3 := ⟨zTS_of 989 (by decide +kernel) (by decide +kernel), zTS_of 10 (by decide +kernel) (by decide +kernel), by decide +kernel, by decide +kernel, by decide⟩
theorem ms_Model_in : zMS M_Model_in 3 := ⟨mc_Model_in, zTS_of 988 (by decide +kernel) (by decide +kernel)⟩
theorem mc_Model_bitsOf : zMc M_Model_bitsOf 1 := ⟨zTS_of 1045 (by decide +kernel) (by decide +kernel), zTS_of 10 (by decide +kernel) (by decide +kernel), by decide +kernel, by decide +kernel, by decide⟩
theorem ms_Model_bitsOf : zMS M_Model_bitsOf 1 := ⟨mc_Model_bitsOf, zTS_of 1044 (by decide +kernel) (by decide +kernel)⟩
theorem mc_Model_isCube : zMc M_Model_isCube 1 := ⟨zTS_of 1022 (by decide +kernel) (by decide +kernel), zTS_of 10 (by decide +kernel) (by decide +kernel), by decide +kernel, by decide +kernel, by decide⟩
theorem mi_Model_isCube : zMI M_Model_isCube 1 := ⟨mc_Model_isCube, zTS_of 1021 (by decide +kernel) (by decide +kernel), zTS_sel 37 (by decide +kernel) (by decide +kernel)⟩
theorem mc_Model_isFace : zMc M_Model_isFace 1 := ⟨zTS_of 1018 (by decide +kernel) (by decide +kernel), zTS_of 10 (by decide +kernel) (by decide +kernel), by decide +kernel, by decide +kernel, by decide⟩
theorem mi_Model_isFace : zMI M_Model_isFace 1 := ⟨mc_Model_isFace, zTS_of 1017 (by decide +kernel) (by decide +kernel), zTS_sel 36 (by decide +kernel) (by decide +kernel)⟩
theorem mc_Model_isColour : zMc M_Model_isColour 1 := ⟨zTS_of 1257 (by decide +kernel) (by decide +kernel), zTS_of 10 (by decide +kernel) (by decide +kernel), by decide +kernel, by decide +kernel, by decide⟩
theorem ms_Model_isColour : zMS M_Model_isColour 1 := ⟨mc_Model_isColour, zTS_of 1256 (by decide +kernel) (by decide +kernel)⟩
theorem mc_Model_cube : zMc M_Model_cube 1 := ⟨zTS_of 984 (by decide +kernel) (by decide +kernel), zTS_of 10 (by decide +kernel) (by decide +kernel), by decide +kernel, by decide +kernel, by decide⟩
theorem mi_Model_cube : zMI M_Model_cube 1 := ⟨mc_Model_cube, zTS_of 982 (by decide +kernel) (by decide +kernel), zTS_of 983 (by decide +kernel) (by decide +kernel)⟩
theorem mc_Model_cubes : zMc M_Model_cubes 3 := ⟨zTS_of 993 (by decide +kernel) (by decide +kernel), zTS_of 10 (by decide +kernel) (by decide +kernel), by decide +kernel, by decide +kernel, by decide⟩
theorem mi_Model_cubes : zMI M_Model_cubes 3 := ⟨mc_Model_cubes, zTS_of 991 (by decide +kernel) (by decide +kernel), zTS_of 992 (by decide +kernel) (by decide +kernel)⟩
theorem mc_Model_valueAt : zMc M_Model_valueAt 2 := ⟨zTS_of 1030 (by decide +kernel) (by decide +kernel), zTS_of 10 (by decide +kernel) (by decide +kernel), by decide +kernel, by decide +kernel, by decide⟩
theorem mi_Model_valueAt : zMI M_Model_valueAt 2 := ⟨mc_Model_valueAt, zTS_of 1029 (by decide +kernel) (by decide +kernel), zTS_sel 39 (by decide +kernel) (by decide +kernel)⟩
theorem mc_Model_lays : zMc M_Model_lays 3 := ⟨zTS_of 1006 (by decide +kernel) (by decide +kernel), zTS_of 10 (by decide +kernel) (by decide +kernel), by decide +kernel, by decide +kernel, by decide⟩
theorem mi_Model_lays : zMI M_Model_lays 3 := ⟨mc_Model_lays, zTS_of 1005 (by decide +kernel) (by decide +kernel), zTS_sel 35 (by decide +kernel) (by decide +kernel)⟩
theorem mc_Model_changes : zMc M_Model_changes 3 := ⟨zTS_of 1026 (by decide +kernel) (by decide +kernel), zTS_of 10 (by decide +kernel) (by decide +kernel), by decide +kernel, by decide +kernel, by decide⟩
theorem mi_Model_changes : zMI M_Model_changes 3 := ⟨mc_Model_changes, zTS_of 1025 (by decide +kernel) (by decide +kernel), zTS_sel 38 (by decide +kernel) (by decide +kernel)⟩
theorem mc_Model_undo : zMc M_Model_undo 0 := ⟨zTS_of 1002 (by decide +kernel) (by decide +kernel), zTS_of 10 (by decide +kernel) (by decide +kernel), by decide +kernel, by decide +kernel, by decide⟩
theorem mi_Model_undo : zMI M_Model_undo 0 := ⟨mc_Model_undo, zTS_of 1000 (by decide +kernel) (by decide +kernel), zTS_of 1001 (by decide +kernel) (by decide +kernel)⟩
theorem mc_Model_redo : zMc M_Model_redo 0 := ⟨zTS_of 1010 (by decide +kernel) (by decide +kernel), zTS_of 10 (by decide +kernel) (by decide +kernel), by decide +kernel, by decide +kernel, by decide⟩
theorem mi_Model_redo : zMI M_Model_redo 0 := ⟨mc_Model_redo, zTS_of 1008 (by decide +kernel) (by decide +kernel), zTS_of 1009 (by decide +kernel) (by decide +kernel)⟩
theorem mc_Model_paint : zMc M_Model_paint 2 := ⟨zTS_of 1014 (by decide +kernel) (by decide +kernel), zTS_of 10 (by decide +kernel) (by decide +kernel), by decide +kernel, by decide +kernel, by decide⟩
theorem mi_Model_paint : zMI M_Model_paint 2 := ⟨mc_Model_paint, zTS_of 1012 (by decide +kernel) (by decide +kernel), zTS_of 1013 (by decide +kernel) (by decide +kernel)⟩
theorem mc_Model_lineOf : zMc M_Model_lineOf 2 := ⟨zTS_of 1038 (by decide +kernel) (by decide +kernel), zTS_of 10 (by decide +kernel) (by decide +kernel), by decide +kernel, by decide +kernel, by decide⟩
theorem mi_Model_lineOf : zMI M_Model_lineOf 2 := ⟨mc_Model_lineOf, zTS_of 1037 (by decide +kernel) (by decide +kernel), zTS_sel 40 (by decide +kernel) (by decide +kernel)⟩
theorem mc_Model_of : zMc M_Model_of 2 := ⟨zTS_of 1034 (by decide +kernel) (by decide +kernel), zTS_of 10 (by decide +kernel) (by decide +kernel), by decide +kernel, by decide +kernel, by decide⟩
theorem mi_Model_of : zMI M_Model_of 2 := ⟨mc_Model_of, zTS_of 1032 (by decide +kernel) (by decide +kernel), zTS_of 1033 (by decide +kernel) (by decide +kernel)⟩
theorem mc_Model_box : zMc M_Model_box 1 := ⟨zTS_of 1042 (by decide +kernel) (by decide +kernel), zTS_of 10 (by decide +kernel) (by decide +kernel), by decide +kernel, by decide +kernel, by decide⟩
theorem mi_Model_box : zMI M_Model_box 1 := ⟨mc_Model_box, zTS_of 1040 (by decide +kernel) (by decide +kernel), zTS_of 1041 (by decide +kernel) (by decide +kernel)⟩
theorem mc_Model_feed : zMc M_Model_feed 1 := ⟨zTS_of 1049 (by decide +kernel) (by decide +kernel), zTS_of 10 (by decide +kernel) (by decide +kernel), by decide +kernel, by decide +kernel, by decide⟩
theorem mi_Model_feed : zMI M_Model_feed 1 := ⟨mc_Model_feed, zTS_of 1047 (by decide +kernel) (by decide +kernel), zTS_of 1048 (by decide +kernel) (by decide +kernel)⟩
theorem mc_Model_look : zMc M_Model_look 0 := ⟨zTS_of 1089 (by decide +kernel) (by decide +kernel), zTS_of 10 (by decide +kernel) (by decide +kernel), by decide +kernel, by decide +kernel, by decide⟩
theorem mi_Model_look : zMI M_Model_look 0 := ⟨mc_Model_look, zTS_of 1088 (by decide +kernel) (by decide +kernel), zTS_sel 49 (by decide +kernel) (by decide +kernel)⟩
theorem mc_Model_faulty : zMc M_Model_faulty 0 := ⟨zTS_of 1104 (by decide +kernel) (by decide +kernel), zTS_of 10 (by decide +kernel) (by decide +kernel), by decide +kernel, by decide +kernel, by decide⟩
theorem mi_Model_faulty : zMI M_Model_faulty 0 := ⟨mc_Model_faulty, zTS_of 1103 (by decide +kernel) (by decide +kernel), zTS_sel 52 (by decide +kernel) (by decide +kernel)⟩
theorem mc_Model_addStep : zMc M_Model_addStep 2 := ⟨zTS_of 1096 (by decide +kernel) (by decide +kernel), zTS_of 10 (by decide +kernel) (by decide +kernel), by decide +kernel, by decide +kernel, by decide⟩
theorem mi_Model_addStep : zMI M_Model_addStep 2 := ⟨mc_Model_addStep, zTS_of 1095 (by decide +kernel) (by decide +kernel), zTS_sel 50 (by decide +kernel) (by decide +kernel)⟩
theorem mc_Model_nameOf : zMc M_Model_nameOf 1 := ⟨zTS_of 1092 (by decide +kernel) (by decide +kernel), zTS_of 10 (by decide +kernel) (by decide +kernel), by decide +kernel, by decide +kernel, by decide⟩
theorem ms_Model_nameOf : zMS M_Model_nameOf 1 := ⟨mc_Model_nameOf, zTS_of 1091 (by decide +kernel) (by decide +kernel)⟩
theorem mc_Model_opens : zMc M_Model_opens 0 := ⟨zTS_of 1100 (by decide +kernel) (by decide +kernel), zTS_of 10 (by decide +kernel) (by decide +kernel), by decide +kernel, by decide +kernel, by decide⟩
theorem mi_Model_opens : zMI M_Model_opens 0 := ⟨mc_Model_opens, zTS_of 1099 (by decide +kernel) (by decide +kernel), zTS_sel 51 (by decide +kernel) (by decide +kernel)⟩
theorem mc_Model_figure : zMc M_Model_figure 0 := ⟨zTS_of 1108 (by decide +kernel) (by decide +kernel), zTS_of 10 (by decide +kernel) (by decide +kernel), by decide +kernel, by decide +kernel, by decide⟩
theorem mi_Model_figure : zMI M_Model_figure 0 := ⟨mc_Model_figure, zTS_of 1107 (by decide +kernel) (by decide +kernel), zTS_sel 53 (by decide +kernel) (by decide +kernel)⟩
theorem mc_Model_operand : zMc M_Model_operand 0 := ⟨zTS_of 1085 (by decide +kernel) (by decide +kernel), zTS_of 10 (by decide +kernel) (by decide +kernel), by decide +kernel, by decide +kernel, by decide⟩
theorem mi_Model_operand : zMI M_Model_operand 0 := ⟨mc_Model_operand, zTS_of 1084 (by decide +kernel) (by decide +kernel), zTS_sel 48 (by decide +kernel) (by decide +kernel)⟩
theorem mc_Model_product : zMc M_Model_product 0 := ⟨zTS_of 1081 (by decide +kernel) (by decide +kernel), zTS_of 10 (by decide +kernel) (by decide +kernel), by decide +kernel, by decide +kernel, by decide⟩
theorem mi_Model_product : zMI M_Model_product 0 := ⟨mc_Model_product, zTS_of 1080 (by decide +kernel) (by decide +kernel), zTS_sel 47 (by decide +kernel) (by decide +kernel)⟩
theorem mc_Model_sum : zMc M_Model_sum 0 := ⟨zTS_of 1077 (by decide +kernel) (by decide +kernel), zTS_of 10 (by decide +kernel) (by decide +kernel), by decide +kernel, by decide +kernel, by decide⟩
theorem mi_Model_sum : zMI M_Model_sum 0 := ⟨mc_Model_sum, zTS_of 1076 (by decide +kernel) (by decide +kernel), zTS_sel 46 (by decide +kernel) (by decide +kernel)⟩
theorem mc_Model_compared : zMc M_Model_compared 0 := ⟨zTS_of 1073 (by decide +kernel) (by decide +kernel), zTS_of 10 (by decide +kernel) (by decide +kernel), by decide +kernel, by decide +kernel, by decide⟩
theorem mi_Model_compared : zMI M_Model_compared 0 := ⟨mc_Model_compared, zTS_of 1072 (by decide +kernel) (by decide +kernel), zTS_sel 45 (by decide +kernel) (by decide +kernel)⟩
theorem mc_Model_both : zMc M_Model_both 0 := ⟨zTS_of 1069 (by decide +kernel) (by decide +kernel), zTS_of 10 (by decide +kernel) (by decide +kernel), by decide +kernel, by decide +kernel, by decide⟩
theorem mi_Model_both : zMI M_Model_both 0 := ⟨mc_Model_both, zTS_of 1068 (by decide +kernel) (by decide +kernel), zTS_sel 44 (by decide +kernel) (by decide +kernel)⟩
theorem mc_Model_either : zMc M_Model_either 0 := ⟨zTS_of 1065 (by decide +kernel) (by decide +kernel), zTS_of 10 (by decide +kernel) (by decide +kernel), by decide +kernel, by decide +kernel, by decide⟩
theorem mi_Model_either : zMI M_Model_either 0 := ⟨mc_Model_either, zTS_of 1064 (by decide +kernel) (by decide +kernel), zTS_sel 43 (by decide +kernel) (by decide +kernel)⟩
theorem mc_Model_line : zMc M_Model_line 0 := ⟨zTS_of 1061 (by decide +kernel) (by decide +kernel), zTS_of 10 (by decide +kernel) (by decide +kernel), by decide +kernel, by decide +kernel, by decide⟩
theorem mi_Model_line : zMI M_Model_line 0 := ⟨mc_Model_line, zTS_of 1060 (by decide +kernel) (by decide +kernel), zTS_sel 42 (by decide +kernel) (by decide +kernel)⟩
theorem mc_Model_readText : zMc M_Model_readText 1 := ⟨zTS_of 1057 (by decide +kernel) (by decide +kernel), zTS_of 10 (by decide +kernel) (by decide +kernel), by decide +kernel, by decide +kernel, by decide⟩
theorem mi_Model_readText : zMI M_Model_readText 1 := ⟨mc_Model_readText, zTS_of 1056 (by decide +kernel) (by decide +kernel), zTS_sel 41 (by decide +kernel) (by decide +kernel)⟩
theorem mc_Model_twoOf : zMc M_Model_twoOf 3 := ⟨zTS_of 1149 (by decide +kernel) (by decide +kernel), zTS_of 10 (by decide +kernel) (by decide +kernel), by decide +kernel, by decide +kernel, by decide⟩
theorem ms_Model_twoOf : zMS M_Model_twoOf 3 := ⟨mc_Model_twoOf, zTS_of 1148 (by decide +kernel) (by decide +kernel)⟩
theorem mc_Model_worked : zMc M_Model_worked 3 := ⟨zTS_of 1146 (by decide +kernel) (by decide +kernel), zTS_of 10 (by decide +kernel) (by decide +kernel), by decide +kernel, by decide +kernel, by decide⟩
theorem mi_Model_worked : zMI M_Model_worked 3 := ⟨mc_Model_worked, zTS_of 1145 (by decide +kernel) (by decide +kernel), zTS_sel 58 (by decide +kernel) (by decide +kernel)⟩
theorem mc_Model_gives : zMc M_Model_gives 1 := ⟨zTS_of 1142 (by decide +kernel) (by decide +kernel), zTS_of 10 (by decide +kernel) (by decide +kernel), by decide +kernel, by decide +kernel, by decide⟩
theorem mi_Model_gives : zMI M_Model_gives 1 := ⟨mc_Model_gives, zTS_of 1141 (by decide +kernel) (by decide +kernel), zTS_sel 57 (by decide +kernel) (by decide +kernel)⟩
theorem mc_Model_law : zMc M_Model_law 0 := ⟨zTS_of 1053 (by decide +kernel) (by decide +kernel), zTS_of 10 (by decide +kernel) (by decide +kernel), by decide +kernel, by decide +kernel, by decide⟩
theorem mi_Model_law : zMI M_Model_law 0 := ⟨mc_Model_law, zTS_of 1051 (by decide +kernel) (by decide +kernel), zTS_of 1052 (by decide +kernel) (by decide +kernel)⟩
theorem mc_Model_turn : zMc M_Model_turn 2 := ⟨zTS_of 1112 (by decide +kernel) (by decide +kernel), zTS_of 10 (by decide +kernel) (by decide +kernel), by decide +kernel, by decide +kernel, by decide⟩
theorem mi_Model_turn : zMI M_Model_turn 2 := ⟨mc_Model_turn, zTS_of 1110 (by decide +kernel) (by decide +kernel), zTS_of 1111 (by decide +kernel) (by decide +kernel)⟩
theorem mc_Model_opposite : zMc M_Model_opposite 1 := ⟨zTS_of 1123 (by decide +kernel) (by decide +kernel), zTS_of 10 (by decide +kernel) (by decide +kernel), by decide +kernel, by decide +kernel, by decide⟩
theorem ms_Model_opposite : zMS M_Model_opposite 1 := ⟨mc_Model_opposite, zTS_of 1122 (by decide +kernel) (by decide +kernel)⟩
theorem mc_Model_showsOf : zMc M_Model_showsOf 3 := ⟨zTS_of 1120 (by decide +kernel) (by decide +kernel), zTS_of 10 (by decide +kernel) (by decide +kernel), by decide +kernel, by decide +kernel, by decide⟩
theorem mi_Model_showsOf : zMI M_Model_showsOf 3 := ⟨mc_Model_showsOf, zTS_of 1119 (by decide +kernel) (by decide +kernel), zTS_sel 54 (by decide +kernel) (by decide +kernel)⟩
theorem mc_Model_shows : zMc M_Model_shows 3 := ⟨zTS_of 1116 (by decide +kernel) (by decide +kernel), zTS_of 10 (by decide +kernel) (by decide +kernel), by decide +kernel, by decide +kernel, by decide⟩
theorem mi_Model_shows : zMI M_Model_shows 3 := ⟨mc_Model_shows, zTS_of 1114 (by decide +kernel) (by decide +kernel), zTS_of 1115 (by decide +kernel) (by decide +kernel)⟩
theorem mc_Model_mayAt : zMc M_Model_mayAt 5 := ⟨zTS_of 1134 (by decide +kernel) (by decide +kernel), zTS_of 10 (by decide +kernel) (by decide +kernel), by decide +kernel, by decide +kernel, by decide⟩
theorem ms_Model_mayAt : zMS M_Model_mayAt 5 := ⟨mc_Model_mayAt, zTS_of 1133 (by decide +kernel) (by decide +kernel)⟩
theorem mc_Model_findMay : zMc M_Model_findMay 0 := ⟨zTS_of 1131 (by decide +kernel) (by decide +kernel), zTS_of 10 (by decide +kernel) (by decide +kernel), by decide +kernel, by decide +kernel, by decide⟩
theorem mi_Model_findMay : zMI M_Model_findMay 0 := ⟨mc_Model_findMay, zTS_of 1130 (by decide +kernel) (by decide +kernel), zTS_sel 55 (by decide +kernel) (by decide +kernel)⟩
theorem mc_Model_asks : zMc M_Model_asks 5 := ⟨zTS_of 1138 (by decide +kernel) (by decide +kernel), zTS_of 10 (by decide +kernel) (by decide +kernel), by decide +kernel, by decide +kernel, by decide⟩
theorem mi_Model_asks : zMI M_Model_asks 5 := ⟨mc_Model_asks, zTS_of 1137 (by decide +kernel) (by decide +kernel), zTS_sel 56 (by decide +kernel) (by decide +kernel)⟩
theorem mc_Model_findTower : zMc M_Model_findTower 1 := ⟨zTS_of 1153 (by decide +kernel) (by decide +kernel), zTS_of 10 (by decide +kernel) (by decide +kernel), by decide +kernel, by decide +kernel, by decide⟩
theorem mi_Model_findTower : zMI M_Model_findTower 1 := ⟨mc_Model_findTower, zTS_of 1152 (by decide +kernel) (by decide +kernel), zTS_sel 59 (by decide +kernel) (by decide +kernel)⟩
theorem mc_Model_mayBe : zMc M_Model_mayBe 5 := ⟨zTS_of 1157 (by decide +kernel) (by decide +kernel), zTS_of 10 (by decide +kernel) (by decide +kernel), by decide +kernel, by decide +kernel, by decide⟩
theorem mi_Model_mayBe : zMI M_Model_mayBe 5 := ⟨mc_Model_mayBe, zTS_of 1156 (by decide +kernel) (by decide +kernel), zTS_sel 60 (by decide +kernel) (by decide +kernel)⟩
theorem mc_Model_judge : zMc M_Model_judge 0 := ⟨zTS_of 1127 (by decide +kernel) (by decide +kernel), zTS_of 10 (by decide +kernel) (by decide +kernel), by decide +kernel, by decide +kernel, by decide⟩
theorem mi_Model_judge : zMI M_Model_judge 0 := ⟨mc_Model_judge, zTS_of 1125 (by decide +kernel) (by decide +kernel), zTS_of 1126 (by decide +kernel) (by decide +kernel)⟩
theorem mc_Model_isHeld : zMc M_Model_isHeld 1 := ⟨zTS_of 1181 (by decide +kernel) (by decide +kernel), zTS_of 10 (by decide +kernel) (by decide +kernel), by decide +kernel, by decide +kernel, by decide⟩
theorem mi_Model_isHeld : zMI M_Model_isHeld 1 := ⟨mc_Model_isHeld, zTS_of 1180 (by decide +kernel) (by decide +kernel), zTS_sel 65 (by decide +kernel) (by decide +kernel)⟩
theorem mc_Model_isTried : zMc M_Model_isTried 2 := ⟨zTS_of 1177 (by decide +kernel) (by decide +kernel), zTS_of 10 (by decide +kernel) (by decide +kernel), by decide +kernel, by decide +kernel, by decide⟩
theorem mi_Model_isTried : zMI M_Model_isTried 2 := ⟨mc_Model_isTried, zTS_of 1176 (by decide +kernel) (by decide +kernel), zTS_sel 64 (by decide +kernel) (by decide +kernel)⟩
theorem mc_Model_wrongWith : zMc M_Model_wrongWith 2 := ⟨zTS_of 1185 (by decide +kernel) (by decide +kernel), zTS_of 10 (by decide +kernel) (by decide +kernel), by decide +kernel, by decide +kernel, by decide⟩
theorem mi_Model_wrongWith : zMI M_Model_wrongWith 2 := ⟨mc_Model_wrongWith, zTS_of 1184 (by decide +kernel) (by decide +kernel), zTS_sel 66 (by decide +kernel) (by decide +kernel)⟩
theorem mc_Model_goOn : zMc M_Model_goOn 1 := ⟨zTS_of 1173 (by decide +kernel) (by decide +kernel), zTS_of 10 (by decide +kernel) (by decide +kernel), by decide +kernel, by decide +kernel, by decide⟩
theorem mi_Model_goOn : zMI M_Model_goOn 1 := ⟨mc_Model_goOn, zTS_of 1172 (by decide +kernel) (by decide +kernel), zTS_sel 63 (by decide +kernel) (by decide +kernel)⟩
theorem mc_Model_findWays : zMc M_Model_findWays 3 := ⟨zTS_of 1169 (by decide +kernel) (by decide +kernel), zTS_of 10 (by decide +kernel) (by decide +kernel), by decide +kernel, by decide +kernel, by decide⟩
theorem mi_Model_findWays : zMI M_Model_findWays 3 := ⟨mc_Model_findWays, zTS_of 1168 (by decide +kernel) (by decide +kernel), zTS_sel 62 (by decide +kernel) (by decide +kernel)⟩
theorem mc_Model_hasWay : zMc M_Model_hasWay 1 := ⟨zTS_of 1205 (by decide +kernel) (by decide +kernel), zTS_of 10 (by decide +kernel) (by decide +kernel), by decide +kernel, by decide +kernel, by decide⟩
theorem mi_Model_hasWay : zMI M_Model_hasWay 1 := ⟨mc_Model_hasWay, zTS_of 1204 (by decide +kernel) (by decide +kernel), zTS_sel 68 (by decide +kernel) (by decide +kernel)⟩
theorem mc_Model_isSet : zMc M_Model_isSet 1 := ⟨zTS_of 1165 (by decide +kernel) (by decide +kernel), zTS_of 10 (by decide +kernel) (by decide +kernel), by decide +kernel, by decide +kernel, by decide⟩
theorem mi_Model_isSet : zMI M_Model_isSet 1 := ⟨mc_Model_isSet, zTS_of 1164 (by decide +kernel) (by decide +kernel), zTS_sel 61 (by decide +kernel) (by decide +kernel)⟩
theorem mc_Model_ways : zMc M_Model_ways 2 := ⟨zTS_of 1161 (by decide +kernel) (by decide +kernel), zTS_of 10 (by decide +kernel) (by decide +kernel), by decide +kernel, by decide +kernel, by decide⟩
theorem mi_Model_ways : zMI M_Model_ways 2 := ⟨mc_Model_ways, zTS_of 1159 (by decide +kernel) (by decide +kernel), zTS_of 1160 (by decide +kernel) (by decide +kernel)⟩
theorem mc_Model_findNear : zMc M_Model_findNear 2 := ⟨zTS_of 1193 (by decide +kernel) (by decide +kernel), zTS_of 10 (by decide +kernel) (by decide +kernel), by decide +kernel, by decide +kernel, by decide⟩
theorem mi_Model_findNear : zMI M_Model_findNear 2 := ⟨mc_Model_findNear, zTS_of 1192 (by decide +kernel) (by decide +kernel), zTS_sel 67 (by decide +kernel) (by decide +kernel)⟩
theorem mc_Model_near : zMc M_Model_near 1 := ⟨zTS_of 1189 (by decide +kernel) (by decide +kernel), zTS_of 10 (by decide +kernel) (by decide +kernel), by decide +kernel, by decide +kernel, by decide⟩
theorem mi_Model_near : zMI M_Model_near 1 := ⟨mc_Model_near, zTS_of 1187 (by decide +kernel) (by decide +kernel), zTS_of 1188 (by decide +kernel) (by decide +kernel)⟩
theorem mc_Model_build : zMc M_Model_build 2 := ⟨zTS_of 1197 (by decide +kernel) (by decide +kernel), zTS_of 10 (by decide +kernel) (by decide +kernel), by decide +kernel, by decide +kernel, by decide⟩
theorem mi_Model_build : zMI M_Model_build 2 := ⟨mc_Model_build, zTS_of 1195 (by decide +kernel) (by decide +kernel), zTS_of 1196 (by decide +kernel) (by decide +kernel)⟩
theorem mc_Model_mend : zMc M_Model_mend 1 := ⟨zTS_of 1201 (by decide +kernel) (by decide +kernel), zTS_of 10 (by decide +kernel) (by decide +kernel), by decide +kernel, by decide +kernel, by decide⟩
theorem mi_Model_mend : zMI M_Model_mend 1 := ⟨mc_Model_mend, zTS_of 1199 (by decide +kernel) (by decide +kernel), zTS_of 1200 (by decide +kernel) (by decide +kernel)⟩
theorem mc_Model_open : zMc M_Model_open 1 := ⟨zTS_of 1209 (by decide +kernel) (by decide +kernel), zTS_of 10 (by decide +kernel) (by decide +kernel), by decide +kernel, by decide +kernel, by decide⟩
theorem mi_Model_open : zMI M_Model_open 1 := ⟨mc_Model_open, zTS_of 1207 (by decide +kernel) (by decide +kernel), zTS_of 1208 (by decide +kernel) (by decide +kernel)⟩
theorem mc_Model_swap : zMc M_Model_swap 1 := ⟨zTS_of 1213 (by decide +kernel) (by decide +kernel), zTS_of 10 (by decide +kernel) (by decide +kernel), by decide +kernel, by decide +kernel, by decide⟩
theorem mi_Model_swap : zMI M_Model_swap 1 := ⟨mc_Model_swap, zTS_of 1211 (by decide +kernel) (by decide +kernel), zTS_of 1212 (by decide +kernel) (by decide +kernel)⟩
theorem mc_Model_isRing : zMc M_Model_isRing 1 := ⟨zTS_of 1221 (by decide +kernel) (by decide +kernel), zTS_of 10 (by decide +kernel) (by decide +kernel), by decide +kernel, by decide +kernel, by decide⟩
theorem mi_Model_isRing : zMI M_Model_isRing 1 := ⟨mc_Model_isRing, zTS_of 1220 (by decide +kernel) (by decide +kernel), zTS_sel 69 (by decide +kernel) (by decide +kernel)⟩
theorem mc_Model_areParted : zMc M_Model_areParted 2 := ⟨zTS_of 1225 (by decide +kernel) (by decide +kernel), zTS_of 10 (by decide +kernel) (by decide +kernel), by decide +kernel, by decide +kernel, by decide⟩
theorem mi_Model_areParted : zMI M_Model_areParted 2 := ⟨mc_Model_areParted, zTS_of 1224 (by decide +kernel) (by decide +kernel), zTS_sel 70 (by decide +kernel) (by decide +kernel)⟩
theorem mc_Model_rings : zMc M_Model_rings 1 := ⟨zTS_of 1217 (by decide +kernel) (by decide +kernel), zTS_of 10 (by decide +kernel) (by decide +kernel), by decide +kernel, by decide +kernel, by decide⟩
theorem mi_Model_rings : zMI M_Model_rings 1 := ⟨mc_Model_rings, zTS_of 1215 (by decide +kernel) (by decide +kernel), zTS_of 1216 (by decide +kernel) (by decide +kernel)⟩
theorem mc_Model_isAs : zMc M_Model_isAs 4 := ⟨zTS_of 1237 (by decide +kernel) (by decide +kernel), zTS_of 10 (by decide +kernel) (by decide +kernel), by decide +kernel, by decide +kernel, by decide⟩
theorem mi_Model_isAs : zMI M_Model_isAs 4 := ⟨mc_Model_isAs, zTS_of 1236 (by decide +kernel) (by decide +kernel), zTS_sel 72 (by decide +kernel) (by decide +kernel)⟩
theorem mc_Model_areAlike : zMc M_Model_areAlike 3 := ⟨zTS_of 1233 (by decide +kernel) (by decide +kernel), zTS_of 10 (by decide +kernel) (by decide +kernel), by decide +kernel, by decide +kernel, by decide⟩
theorem mi_Model_areAlike : zMI M_Model_areAlike 3 := ⟨mc_Model_areAlike, zTS_of 1232 (by decide +kernel) (by decide +kernel), zTS_sel 71 (by decide +kernel) (by decide +kernel)⟩
theorem mc_Model_alike : zMc M_Model_alike 1 := ⟨zTS_of 1229 (by decide +kernel) (by decide +kernel), zTS_of 10 (by decide +kernel) (by decide +kernel), by decide +kernel, by decide +kernel, by decide⟩
theorem mi_Model_alike : zMI M_Model_alike 1 := ⟨mc_Model_alike, zTS_of 1227 (by decide +kernel) (by decide +kernel), zTS_of 1228 (by decide +kernel) (by decide +kernel)⟩
theorem mc_Model_many : zMc M_Model_many 2 := ⟨zTS_of 1241 (by decide +kernel) (by decide +kernel), zTS_of 10 (by decide +kernel) (by decide +kernel), by decide +kernel, by decide +kernel, by decide⟩
theorem mi_Model_many : zMI M_Model_many 2 := ⟨mc_Model_many, zTS_of 1239 (by decide +kernel) (by decide +kernel), zTS_of 1240 (by decide +kernel) (by decide +kernel)⟩
theorem mc_Model_doesShow : zMc M_Model_doesShow 4 := ⟨zTS_of 1265 (by decide +kernel) (by decide +kernel), zTS_of 10 (by decide +kernel) (by decide +kernel), by decide +kernel, by decide +kernel, by decide⟩
theorem mi_Model_doesShow : zMI M_Model_doesShow 4 := ⟨mc_Model_doesShow, zTS_of 1264 (by decide +kernel) (by decide +kernel), zTS_sel 74 (by decide +kernel) (by decide +kernel)⟩
theorem mc_Model_sightOf : zMc M_Model_sightOf 2 := ⟨zTS_of 1261 (by decide +kernel) (by decide +kernel), zTS_of 10 (by decide +kernel) (by decide +kernel), by decide +kernel, by decide +kernel, by decide⟩
theorem mi_Model_sightOf : zMI M_Model_sightOf 2 := ⟨mc_Model_sightOf, zTS_of 1260 (by decide +kernel) (by decide +kernel), zTS_sel 73 (by decide +kernel) (by decide +kernel)⟩
theorem mc_Model_sight : zMc M_Model_sight 2 := ⟨zTS_of 1254 (by decide +kernel) (by decide +kernel), zTS_of 10 (by decide +kernel) (by decide +kernel), by decide +kernel, by decide +kernel, by decide⟩
theorem mi_Model_sight : zMI M_Model_sight 2 := ⟨mc_Model_sight, zTS_of 1252 (by decide +kernel) (by decide +kernel), zTS_of 1253 (by decide +kernel) (by decide +kernel)⟩
theorem mc_Model_touch : zMc M_Model_touch 5 := ⟨zTS_of 1281 (by decide +kernel) (by decide +kernel), zTS_of 10 (by decide +kernel) (by decide +kernel), by decide +kernel, by decide +kernel, by decide⟩
theorem mi_Model_touch : zMI M_Model_touch 5 := ⟨mc_Model_touch, zTS_of 1280 (by decide +kernel) (by decide +kernel), zTS_sel 77 (by decide +kernel) (by decide +kernel)⟩
theorem mc_Model_fitsWall : zMc M_Model_fitsWall 2 := ⟨zTS_of 1277 (by decide +kernel) (by decide +kernel), zTS_of 10 (by decide +kernel) (by decide +kernel), by decide +kernel, by decide +kernel, by decide⟩
theorem mi_Model_fitsWall : zMI M_Model_fitsWall 2 := ⟨mc_Model_fitsWall, zTS_of 1276 (by decide +kernel) (by decide +kernel), zTS_sel 76 (by decide +kernel) (by decide +kernel)⟩
theorem mc_Model_goWall : zMc M_Model_goWall 1 := ⟨zTS_of 1273 (by decide +kernel) (by decide +kernel), zTS_of 10 (by decide +kernel) (by decide +kernel), by decide +kernel, by decide +kernel, by decide⟩
theorem mi_Model_goWall : zMI M_Model_goWall 1 := ⟨mc_Model_goWall, zTS_of 1272 (by decide +kernel) (by decide +kernel), zTS_sel 75 (by decide +kernel) (by decide +kernel)⟩
theorem mc_Model_wall : zMc M_Model_wall 1 := ⟨zTS_of 1269 (by decide +kernel) (by decide +kernel), zTS_of 10 (by decide +kernel) (by decide +kernel), by decide +kernel, by decide +kernel, by decide⟩
theorem mi_Model_wall : zMI M_Model_wall 1 := ⟨mc_Model_wall, zTS_of 1267 (by decide +kernel) (by decide +kernel), zTS_of 1268 (by decide +kernel) (by decide +kernel)⟩
theorem mc_Model_isOf : zMc M_Model_isOf 3 := ⟨zTS_of 1293 (by decide +kernel) (by decide +kernel), zTS_of 10 (by decide +kernel) (by decide +kernel), by decide +kernel, by decide +kernel, by decide⟩
theorem mi_Model_isOf : zMI M_Model_isOf 3 := ⟨mc_Model_isOf, zTS_of 1292 (by decide +kernel) (by decide +kernel), zTS_sel 79 (by decide +kernel) (by decide +kernel)⟩
theorem mc_Model_isGreat : zMc M_Model_isGreat 2 := ⟨zTS_of 1289 (by decide +kernel) (by decide +kernel), zTS_of 10 (by decide +kernel) (by decide +kernel), by decide +kernel, by decide +kernel, by decide⟩
theorem mi_Model_isGreat : zMI M_Model_isGreat 2 := ⟨mc_Model_isGreat, zTS_of 1288 (by decide +kernel) (by decide +kernel), zTS_sel 78 (by decide +kernel) (by decide +kernel)⟩
theorem mc_Model_great : zMc M_Model_great 1 := ⟨zTS_of 1285 (by decide +kernel) (by decide +kernel), zTS_of 10 (by decide +kernel) (by decide +kernel), by decide +kernel, by decide +kernel, by decide⟩
theorem mi_Model_great : zMI M_Model_great 1 := ⟨mc_Model_great, zTS_of 1283 (by decide +kernel) (by decide +kernel), zTS_of 1284 (by decide +kernel) (by decide +kernel)⟩
theorem mc_Model_isBody : zMc M_Model_isBody 1 := ⟨zTS_of 1309 (by decide +kernel) (by decide +kernel), zTS_of 10 (by decide +kernel) (by decide +kernel), by decide +kernel, by decide +kernel, by decide⟩
theorem mi_Model_isBody : zMI M_Model_isBody 1 := ⟨mc_Model_isBody, zTS_of 1308 (by decide +kernel) (by decide +kernel), zTS_sel 80 (by decide +kernel) (by decide +kernel)⟩
theorem mc_Model_ran : zMc M_Model_ran 1 := ⟨zTS_of 1320 (by decide +kernel) (by decide +kernel), zTS_of 10 (by decide +kernel) (by decide +kernel), by decide +kernel, by decide +kernel, by decide⟩
theorem mi_Model_ran : zMI M_Model_ran 1 := ⟨mc_Model_ran, zTS_of 1319 (by decide +kernel) (by decide +kernel), zTS_sel 82 (by decide +kernel) (by decide +kernel)⟩
theorem mc_Model_trace : zMc M_Model_trace 1 := ⟨zTS_of 1297 (by decide +kernel) (by decide +kernel), zTS_of 10 (by decide +kernel) (by decide +kernel), by decide +kernel, by decide +kernel, by decide⟩
theorem mi_Model_trace : zMI M_Model_trace 1 := ⟨mc_Model_trace, zTS_of 1295 (by decide +kernel) (by decide +kernel), zTS_of 1296 (by decide +kernel) (by decide +kernel)⟩
theorem mc_Model_body : zMc M_Model_body 1 := ⟨zTS_of 1301 (by decide +kernel) (by decide +kernel), zTS_of 10 (by decide +kernel) (by decide +kernel), by decide +kernel, by decide +kernel, by decide⟩
theorem mi_Model_body : zMI M_Model_body 1 := ⟨mc_Model_body, zTS_of 1299 (by decide +kernel) (by decide +kernel), zTS_of 1300 (by decide +kernel) (by decide +kernel)⟩
theorem mc_Model_isUnder : zMc M_Model_isUnder 2 := ⟨zTS_of 1316 (by decide +kernel) (by decide +kernel), zTS_of 10 (by decide +kernel) (by decide +kernel), by decide +kernel, by decide +kernel, by decide⟩
theorem ms_Model_isUnder : zMS M_Model_isUnder 2 := ⟨mc_Model_isUnder, zTS_of 1315 (by decide +kernel) (by decide +kernel)⟩
theorem mc_Model_plainTurns : zMc M_Model_plainTurns 2 := ⟨zTS_of 1324 (by decide +kernel) (by decide +kernel), zTS_of 10 (by decide +kernel) (by decide +kernel), by decide +kernel, by decide +kernel, by decide⟩
theorem mi_Model_plainTurns : zMI M_Model_plainTurns 2 := ⟨mc_Model_plainTurns, zTS_of 1323 (by decide +kernel) (by decide +kernel), zTS_sel 83 (by decide +kernel) (by decide +kernel)⟩
theorem mc_Model_toldTurns : zMc M_Model_toldTurns 2 := ⟨zTS_of 1328 (by decide +kernel) (by decide +kernel), zTS_of 10 (by decide +kernel) (by decide +kernel), by decide +kernel, by decide +kernel, by decide⟩
theorem mi_Model_toldTurns : zMI M_Model_toldTurns 2 := ⟨mc_Model_toldTurns, zTS_of 1327 (by decide +kernel) (by decide +kernel), zTS_sel 84 (by decide +kernel) (by decide +kernel)⟩
theorem mc_Model_turningBy : zMc M_Model_turningBy 2 := ⟨zTS_of 1313 (by decide +kernel) (by decide +kernel), zTS_of 10 (by decide +kernel) (by decide +kernel), by decide +kernel, by decide +kernel, by decide⟩
theorem mi_Model_turningBy : zMI M_Model_turningBy 2 := ⟨mc_Model_turningBy, zTS_of 1312 (by decide +kernel) (by decide +kernel), zTS_sel 81 (by decide +kernel) (by decide +kernel)⟩
theorem mc_Model_plainShows : zMc M_Model_plainShows 2 := ⟨zTS_of 1340 (by decide +kernel) (by decide +kernel), zTS_of 10 (by decide +kernel) (by decide +kernel), by decide +kernel, by decide +kernel, by decide⟩
theorem mi_Model_plainShows : zMI M_Model_plainShows 2 := ⟨mc_Model_plainShows, zTS_of 1339 (by decide +kernel) (by decide +kernel), zTS_sel 87 (by decide +kernel) (by decide +kernel)⟩
theorem mc_Model_wallShows : zMc M_Model_wallShows 2 := ⟨zTS_of 1336 (by decide +kernel) (by decide +kernel), zTS_of 10 (by decide +kernel) (by decide +kernel), by decide +kernel, by decide +kernel, by decide⟩
theorem mi_Model_wallShows : zMI M_Model_wallShows 2 := ⟨mc_Model_wallShows, zTS_of 1335 (by decide +kernel) (by decide +kernel), zTS_sel 86 (by decide +kernel) (by decide +kernel)⟩
theorem mc_Model_showing : zMc M_Model_showing 2 := ⟨zTS_of 1332 (by decide +kernel) (by decide +kernel), zTS_of 10 (by decide +kernel) (by decide +kernel), by decide +kernel, by decide +kernel, by decide⟩
theorem mi_Model_showing : zMI M_Model_showing 2 := ⟨mc_Model_showing, zTS_of 1331 (by decide +kernel) (by decide +kernel), zTS_sel 85 (by decide +kernel) (by decide +kernel)⟩
theorem mc_Model_plainLies : zMc M_Model_plainLies 2 := ⟨zTS_of 1348 (by decide +kernel) (by decide +kernel), zTS_of 10 (by decide +kernel) (by decide +kernel), by decide +kernel, by decide +kernel, by decide⟩
theorem mi_Model_plainLies : zMI M_Model_plainLies 2 := ⟨mc_Model_plainLies, zTS_of 1347 (by decide +kernel) (by decide +kernel), zTS_sel 89 (by decide +kernel) (by decide +kernel)⟩
theorem mc_Model_lying : zMc M_Model_lying 2 := ⟨zTS_of 1344 (by decide +kernel) (by decide +kernel), zTS_of 10 (by decide +kernel) (by decide +kernel), by decide +kernel, by decide +kernel, by decide⟩
theorem mi_Model_lying : zMI M_Model_lying 2 := ⟨mc_Model_lying, zTS_of 1343 (by decide +kernel) (by decide +kernel), zTS_sel 88 (by decide +kernel) (by decide +kernel)⟩
theorem mc_Model_plainTells : zMc M_Model_plainTells 2 := ⟨zTS_of 1360 (by decide +kernel) (by decide +kernel), zTS_of 10 (by decide +kernel) (by decide +kernel), by decide +kernel, by decide +kernel, by decide⟩
theorem mi_Model_plainTells : zMI M_Model_plainTells 2 := ⟨mc_Model_plainTells, zTS_of 1359 (by decide +kernel) (by decide +kernel), zTS_sel 92 (by decide +kernel) (by decide +kernel)⟩
theorem mc_Model_rowTells : zMc M_Model_rowTells 2 := ⟨zTS_of 1356 (by decide +kernel) (by decide +kernel), zTS_of 10 (by decide +kernel) (by decide +kernel), by decide +kernel, by decide +kernel, by decide⟩
theorem mi_Model_rowTells : zMI M_Model_rowTells 2 := ⟨mc_Model_rowTells, zTS_of 1355 (by decide +kernel) (by decide +kernel), zTS_sel 91 (by decide +kernel) (by decide +kernel)⟩
theorem mc_Model_telling : zMc M_Model_telling 2 := ⟨zTS_of 1352 (by decide +kernel) (by decide +kernel), zTS_of 10 (by decide +kernel) (by decide +kernel), by decide +kernel, by decide +kernel, by decide⟩
theorem mi_Model_telling : zMI M_Model_telling 2 := ⟨mc_Model_telling, zTS_of 1351 (by decide +kernel) (by decide +kernel), zTS_sel 90 (by decide +kernel) (by decide +kernel)⟩
theorem mc_Model_act : zMc M_Model_act 3 := ⟨zTS_of 1305 (by decide +kernel) (by decide +kernel), zTS_of 10 (by decide +kernel) (by decide +kernel), by decide +kernel, by decide +kernel, by decide⟩
theorem mi_Model_act : zMI M_Model_act 3 := ⟨mc_Model_act, zTS_of 1303 (by decide +kernel) (by decide +kernel), zTS_of 1304 (by decide +kernel) (by decide +kernel)⟩
theorem mc_Model_count : zMc M_Model_count 1 := ⟨zTS_of 1364 (by decide +kernel) (by decide +kernel), zTS_of 10 (by decide +kernel) (by decide +kernel), by decide +kernel, by decide +kernel, by decide⟩
theorem mi_Model_count : zMI M_Model_count 1 := ⟨mc_Model_count, zTS_of 1362 (by decide +kernel) (by decide +kernel), zTS_of 1363 (by decide +kernel) (by decide +kernel)⟩
theorem mc_Model_isShelf : zMc M_Model_isShelf 1 := ⟨zTS_of 996 (by decide +kernel) (by decide +kernel), zTS_of 10 (by decide +kernel) (by decide +kernel), by decide +kernel, by decide +kernel, by decide⟩
theorem ms_Model_isShelf : zMS M_Model_isShelf 1 := ⟨mc_Model_isShelf, zTS_of 995 (by decide +kernel) (by decide +kernel)⟩
theorem mc_Model_keep : zMc M_Model_keep 2 := ⟨zTS_of 1368 (by decide +kernel) (by decide +kernel), zTS_of 10 (by decide +kernel) (by decide +kernel), by decide +kernel, by decide +kernel, by decide⟩
theorem mi_Model_keep : zMI M_Model_keep 2 := ⟨mc_Model_keep, zTS_of 1366 (by decide +kernel) (by decide +kernel), zTS_of 1367 (by decide +kernel) (by decide +kernel)⟩
theorem mc_Model_row : zMc M_Model_row 3 := ⟨zTS_of 1372 (by decide +kernel) (by decide +kernel), zTS_of 10 (by decide +kernel) (by decide +kernel), by decide +kernel, by decide +kernel, by decide⟩
theorem mi_Model_row : zMI M_Model_row 3 := ⟨mc_Model_row, zTS_of 1370 (by decide +kernel) (by decide +kernel), zTS_of 1371 (by decide +kernel) (by decide +kernel)⟩
theorem mc_Model_whyNoPlace : zMc M_Model_whyNoPlace 2 := ⟨zTS_of 1380 (by decide +kernel) (by decide +kernel), zTS_of 10 (by decide +kernel) (by decide +kernel), by decide +kernel, by decide +kernel, by decide⟩
theorem mi_Model_whyNoPlace : zMI M_Model_whyNoPlace 2 := ⟨mc_Model_whyNoPlace, zTS_of 1379 (by decide +kernel) (by decide +kernel), zTS_sel 93 (by decide +kernel) (by decide +kernel)⟩
theorem mc_Model_put : zMc M_Model_put 3 := ⟨zTS_of 1376 (by decide +kernel) (by decide +kernel), zTS_of 10 (by decide +kernel) (by decide +kernel), by decide +kernel, by decide +kernel, by decide⟩
theorem mi_Model_put : zMI M_Model_put 3 := ⟨mc_Model_put, zTS_of 1374 (by decide +kernel) (by decide +kernel), zTS_of 1375 (by decide +kernel) (by decide +kernel)⟩
theorem mc_Model_element : zMc M_Model_element 2 := ⟨zTS_of 1384 (by decide +kernel) (by decide +kernel), zTS_of 10 (by decide +kernel) (by decide +kernel), by decide +kernel, by decide +kernel, by decide⟩
theorem mi_Model_element : zMI M_Model_element 2 := ⟨mc_Model_element, zTS_of 1382 (by decide +kernel) (by decide +kernel), zTS_of 1383 (by decide +kernel) (by decide +kernel)⟩
theorem mc_Model_shift : zMc M_Model_shift 5 := ⟨zTS_of 1389 (by decide +kernel) (by decide +kernel), zTS_of 10 (by decide +kernel) (by decide +kernel), by decide +kernel, by decide +kernel, by decide⟩
theorem mi_Model_shift : zMI M_Model_shift 5 := ⟨mc_Model_shift, zTS_of 1387 (by decide +kernel) (by decide +kernel), zTS_of 1388 (by decide +kernel) (by decide +kernel)⟩
theorem mc_Model_taken : zMc M_Model_taken 2 := ⟨zTS_of 1393 (by decide +kernel) (by decide +kernel), zTS_of 10 (by decide +kernel) (by decide +kernel), by decide +kernel, by decide +kernel, by decide⟩
theorem mi_Model_taken : zMI M_Model_taken 2 := ⟨mc_Model_taken, zTS_of 1391 (by decide +kernel) (by decide +kernel), zTS_of 1392 (by decide +kernel) (by decide +kernel)⟩
theorem mc_Integer_numberOfTrailingZeros_0f7a4 : zMc M_Integer_numberOfTrailingZeros_0f7a4 1 := ⟨zTS_of 596 (by decide +kernel) (by decide +kernel), zTS_of 12 (by decide +kernel) (by decide +kernel), by decide +kernel, by decide +kernel, by decide⟩
theorem ms_Integer_numberOfTrailingZeros_0f7a4 : zMS M_Integer_numberOfTrailingZeros_0f7a4 1 := ⟨mc_Integer_numberOfTrailingZeros_0f7a4, zTS_of 595 (by decide +kernel) (by decide +kernel)⟩
theorem mc_Integer_bitCount_0f7a4 : zMc M_Integer_bitCount_0f7a4 1 := ⟨zTS_of 412 (by decide +kernel) (by decide +kernel), zTS_of 12 (by decide +kernel) (by decide +kernel), by decide +kernel, by decide +kernel, by decide⟩
theorem ms_Integer_bitCount_0f7a4 : zMS M_Integer_bitCount_0f7a4 1 := ⟨mc_Integer_bitCount_0f7a4, zTS_of 411 (by decide +kernel) (by decide +kernel)⟩
theorem mc_Math_max_7cf53 : zMc M_Math_max_7cf53 2 := ⟨zTS_of 401 (by decide +kernel) (by decide +kernel), zTS_of 11 (by decide +kernel) (by decide +kernel), by decide +kernel, by decide +kernel, by decide⟩
theorem ms_Math_max_7cf53 : zMS M_Math_max_7cf53 2 := ⟨mc_Math_max_7cf53, zTS_of 400 (by decide +kernel) (by decide +kernel)⟩
theorem mc_Math_min_7cf53 : zMc M_Math_min_7cf53 2 := ⟨zTS_of 398 (by decide +kernel) (by decide +kernel), zTS_of 11 (by decide +kernel) (by decide +kernel), by decide +kernel, by decide +kernel, by decide⟩
theorem ms_Math_min_7cf53 : zMS M_Math_min_7cf53 2 := ⟨mc_Math_min_7cf53, zTS_of 397 (by decide +kernel) (by decide +kernel)⟩
theorem mc_Arrays_fill_d0a16 : zMc M_Arrays_fill_d0a16 2 := ⟨zTS_of 798 (by decide +kernel) (by decide +kernel), zTS_of 13 (by decide +kernel) (by decide +kernel), by decide +kernel, by decide +kernel, by decide⟩
theorem ms_Arrays_fill_d0a16 : zMS M_Arrays_fill_d0a16 2 := ⟨mc_Arrays_fill_d0a16, zTS_of 797 (by decide +kernel) (by decide +kernel)⟩
theorem mc_Arrays_fill_53178 : zMc M_Arrays_fill_53178 2 := ⟨zTS_of 542 (by decide +kernel) (by decide +kernel), zTS_of 13 (by decide +kernel) (by decide +kernel), by decide +kernel, by decide +kernel, by decide⟩
theorem ms_Arrays_fill_53178 : zMS M_Arrays_fill_53178 2 := ⟨mc_Arrays_fill_53178, zTS_of 541 (by decide +kernel) (by decide +kernel)⟩
theorem mc_Arrays_fill_031fb : zMc M_Arrays_fill_031fb 2 := ⟨zTS_of 571 (by decide +kernel) (by decide +kernel), zTS_of 13 (by decide +kernel) (by decide +kernel), by decide +kernel, by decide +kernel, by decide⟩
theorem ms_Arrays_fill_031fb : zMS M_Arrays_fill_031fb 2 := ⟨mc_Arrays_fill_031fb, zTS_of 570 (by decide +kernel) (by decide +kernel)⟩
end
section
def K_Model_init : List (Nat × Instr × Nat × Nat) := [(0, .aload_n 0, 1, 1), (1, .invokespecial 1, 3, 4), (4, .aload_n 0, 1, 5), (5, .bipush 48, 2, 7), (7, .newarray .int, 2, 9), (9, .putfield 7, 3, 12), (12, .aload_n 0, 1, 13), (13, .bipush 8, 2, 15), (15, .newarray .int, 2, 17), (17, .putfield 13, 3, 20), (20, .aload_n 0, 1, 21), (21, .bipush 24, 2, 23), (23, .newarray .int, 2, 25), (25, .dup, 1, 26), (26, .iconst 0, 1, 27), (27, .iconst 5, 1, 28), (28, .iastore, 1, 29), (29, .dup, 1, 30), (30, .iconst 1, 1, 31), (31, .iconst 1, 1, 32), (32, .iastore, 1, 33), (33, .dup, 1, 34), (34, .iconst 2, 1, 35), (35, .iconst 4, 1, 36), (36, .iastore, 1, 37), (37, .dup, 1, 38), (38, .iconst 3, 1, 39), (39, .iconst 3, 1, 40), (40, .iastore, 1, 41), (41, .dup, 1, 42), (42, .iconst 4, 1, 43), (43, .iconst 0, 1, 44), (44, .iastore, 1, 45), (45, .dup, 1, 46), (46, .iconst 5, 1, 47), (47, .iconst 5, 1, 48), (48, .iastore, 1, 49), (49, .dup, 1, 50), (50, .bipush 6, 2, 52), (52, .iconst 2, 1, 53), (53, .iastore, 1, 54), (54, .dup, 1, 55), (55, .bipush 7, 2, 57), (57, .iconst 4, 1, 58), (58, .iastore, 1, 59), (59, .dup, 1, 60), (60, .bipush 8, 2, 62), (62, .iconst 4, 1, 63), (63, .iastore, 1, 64), (64, .dup, 1, 65), (65, .bipush 9, 2, 67), (67, .iconst 1, 1, 68), (68, .iastore, 1, 69), (69, .dup, 1, 70), (70, .bipush 10, 2, 72), (72, .iconst 5, 1, 73), (73, .iastore, 1, 74), (74, .dup, 1, 75), (75, .bipush 11, 2, 77), (77, .iconst 3, 1, 78), (78, .iastore, 1, 79), (79, .dup, 1, 80), (80, .bipush 12, 2, 82), (82, .iconst 0, 1, 83), (83, .iastore, 1, 84), (84, .dup, 1, 85), (85, .bipush 13, 2, 87), (87, .iconst 4, 1, 88), (88, .iastore, 1, 89), (89, .dup, 1, 90), (90, .bipush 14, 2, 92), (92, .iconst 2, 1, 93), (93, .iastore, 1, 94), (94, .dup, 1, 95), (95, .bipush 15, 2, 97), (97, .iconst 5, 1, 98), (98, .iastore, 1, 99), (99, .dup, 1, 100), (100, .bipush 16, 2, 102), (102, .iconst 0, 1, 103), (103, .iastore, 1, 104), (104, .dup, 1, 105), (105, .bipush 17, 2, 107), (107, .iconst 1, 1, 108), (108, .iastore, 1, 109), (109, .dup, 1, 110), (110, .bipush 18, 2, 112), (112, .iconst 2, 1, 113), (113, .iastore, 1, 114), (114, .dup, 1, 115), (115, .bipush 19, 2, 117), (117, .iconst 3, 1, 118), (118, .iastore, 1, 119), (119, .dup, 1, 120), (120, .bipush 20, 2, 122), (122, .iconst 2, 1, 123), (123, .iastore, 1, 124), (124, .dup, 1, 125), (125, .bipush 21, 2, 127), (127, .iconst 1, 1, 128), (128, .iastore, 1, 129), (129, .dup, 1, 130), (130, .bipush 22, 2, 132), (132, .iconst 0, 1, 133), (133, .iastore, 1, 134), (134, .dup, 1, 135), (135, .bipush 23, 2, 137), (137, .iconst 3, 1, 138), (138, .iastore, 1, 139), (139, .putfield 16, 3, 142), (142, .aload_n 0, 1, 143), (143, .bipush 40, 2, 145), (145, .newarray .int, 2, 147), (147, .putfield 19, 3, 150), (150, .aload_n 0, 1, 151), (151, .bipush 40, 2, 153), (153, .newarray .int, 2, 155), (155, .putfield 22, 3, 158), (158, .aload_n 0, 1, 159), (159, .bipush 40, 2, 161), (161, .newarray .int, 2, 163), (163, .putfield 25, 3, 166), (166, .aload_n 0, 1, 167), (167, .bipush 40, 2, 169), (169, .newarray .int, 2, 171), (171, .putfield 28, 3, 174), (174, .aload_n 0, 1, 175), (175, .bipush 120, 2, 177), (177, .newarray .byte, 2, 179), (179, .putfield 31, 3, 182), (182, .aload_n 0, 1, 183), (183, .sipush 260, 3, 186), (186, .newarray .byte, 2, 188), (188, .putfield 35, 3, 191), (191, .aload_n 0, 1, 192), (192, .sipush 260, 3, 195), (195, .newarray .int, 2, 197), (197, .putfield 38, 3, 200), (200, .aload_n 0, 1, 201), (201, .iconst 2, 1, 202), (202, .newarray .int, 2, 204), (204, .putfield 41, 3, 207), (207, .aload_n 0, 1, 208), (208, .bipush 122, 2, 210), (210, .newarray .short, 2, 212), (212, .putfield 44, 3, 215), (215, .aload_n 0, 1, 216), (216, .bipush 122, 2, 218), (218, .newarray .short, 2, 220), (220, .putfield 48, 3, 223), (223, .aload_n 0, 1, 224), (224, .iconst 5, 1, 225), (225, .newarray .int, 2, 227), (227, .putfield 51, 3, 230), (230, .aload_n 0, 1, 231), (231, .sipush 130, 3, 234), (234, .newarray .int, 2, 236), (236, .putfield 54, 3, 239), (239, .aload_n 0, 1, 240), (240, .sipush 2304, 3, 243), (243, .newarray .boolean, 2, 245), (245, .putfield 57, 3, 248), (248, .aload_n 0, 1, 249), (249, .bipush 8, 2, 251), (251, .newarray .int, 2, 253), (253, .putfield 61, 3, 256), (256, .aload_n 0, 1, 257), (257, .bipush 8, 2, 259), (259, .newarray .int, 2, 261), (261, .putfield 64, 3, 264), (264, .aload_n 0, 1, 265), (265, .bipush 8, 2, 267), (267, .newarray .int, 2, 269), (269, .putfield 67, 3, 272), (272, .aload_n 0, 1, 273), (273, .bipush 7, 2, 275), (275, .newarray .int, 2, 277), (277, .putfield 70, 3, 280), (280, .aload_n 0, 1, 281), (281, .bipush 81, 2, 283), (283, .newarray .int, 2, 285), (285, .putfield 73, 3, 288), (288, .aload_n 0, 1, 289), (289, .bipush 50, 2, 291), (291, .newarray .int, 2, 293), (293, .putfield 76, 3, 296), (296, .aload_n 0, 1, 297), (297, .bipush 24, 2, 299), (299, .newarray .int, 2, 301), (301, .putfield 79, 3, 304), (304, .aload_n 0, 1, 305), (305, .bipush 6, 2, 307), (307, .newarray .int, 2, 309), (309, .dup, 1, 310), (310, .iconst 0, 1, 311), (311, .iconst (-1), 1, 312), (312, .iastore, 1, 313), (313, .dup, 1, 314), (314, .iconst 1, 1, 315), (315, .iconst (-1), 1, 316), (316, .iastore, 1, 317), (317, .dup, 1, 318), (318, .iconst 2, 1, 319), (319, .iconst (-1), 1, 320), (320, .iastore, 1, 321), (321, .dup, 1, 322), (322, .iconst 3, 1, 323), (323, .iconst (-1), 1, 324), (324, .iastore, 1, 325), (325, .dup, 1, 326), (326, .iconst 4, 1, 327), (327, .iconst (-1), 1, 328), (328, .iastore, 1, 329), (329, .dup, 1, 330), (330, .iconst 5, 1, 331), (331, .iconst (-1), 1, 332), (332, .iastore, 1, 333), (333, .putfield 82, 3, 336), (336, .aload_n 0, 1, 337), (337, .bipush 6, 2, 339), (339, .newarray .int, 2, 341), (341, .putfield 85, 3, 344), (344, .aload_n 0, 1, 345), (345, .sipush 360, 3, 348), (348, .newarray .long, 2, 350), (350, .putfield 88, 3, 353), (353, .aload_n 0, 1, 354), (354, .bipush 60, 2, 356), (356, .newarray .long, 2, 358), (358, .putfield 92, 3, 361), (361, .return_, 1, 362)]
set_option maxRecDepth 20000 in
theorem D_Model_init {i pc n npc : Nat} {ins : Instr} (h : K_Model_init[i]? = some (pc, ins, n, npc)) : zD prog_11_method_1_code pc ins n npc := zDall (by decide +kernel) h
def K_Model_in : List (Nat × Instr × Nat × Nat) := [(0, .iload_n 0, 1, 1), (1, .iload_n 1, 1, 2), (2, .if_icmp .lt 12, 3, 5), (5, .iload_n 0, 1, 6), (6, .iload_n 2, 1, 7), (7, .if_icmp .gt 7, 3, 10), (10, .iconst 1, 1, 11), (11, .goto 4, 3, 14), (14, .iconst 0, 1, 15), (15, .ireturn, 1, 16)]
set_option maxRecDepth 20000 in
theorem D_Model_in {i pc n npc : Nat} {ins : Instr} (h : K_Model_in[i]? = some (pc, ins, n, npc)) : zD prog_11_method_3_code pc ins n npc := zDall (by decide +kernel) h
def K_Model_bitsOf : List (Nat × Instr × Nat × Nat) := [(0, .iconst 0, 1, 1), (1, .istore_n 1, 1, 2), (2, .iload_n 0, 1, 3), (3, .istore_n 2, 1, 4), (4, .iload_n 2, 1, 5), (5, .ifCond .eq 15, 3, 8), (8, .iinc 1 1, 3, 11), (11, .iload_n 2, 1, 12), (12, .iload_n 2, 1, 13), (13, .iconst 1, 1, 14), (14, .isub, 1, 15), (15, .iand, 1, 16), (16, .istore_n 2, 1, 17), (17, .goto (-13), 3, 20), (20, .iload_n 1, 1, 21), (21, .ireturn, 1, 22)]
set_option maxRecDepth 20000 in
theorem D_Model_bitsOf {i pc n npc : Nat} {ins : Instr} (h : K_Model_bitsOf[i]? = some (pc, ins, n, npc)) : zD prog_11_method_4_code pc ins n npc := zDall (by decide +kernel) h
def K_Model_isCube : List (Nat × Instr × Nat × Nat) := [(0, .iload_n 1, 1, 1), (1, .iconst 0, 1, 2), (2, .aload_n 0, 1, 3), (3, .getfield 99, 3, 6), (6, .iconst 1, 1, 7), (7, .isub, 1, 8), (8, .invokestatic 102, 3, 11), (11, .ireturn, 1, 12)]
set_option maxRecDepth 20000 in
theorem D_Model_isCube {i pc n npc : Nat} {ins : Instr} (h : K_Model_isCube[i]? = some (pc, ins, n, npc)) : zD prog_11_method_5_code pc ins n npc := zDall (by decide +kernel) h
def K_Model_isFace : List (Nat × Instr × Nat × Nat) := [(0, .iload_n 1, 1, 1), (1, .ifCond .lt 27, 3, 4), (4, .aload_n 0, 1, 5), (5, .iload_n 1, 1, 6), (6, .bipush 10, 2, 8), (8, .idiv, 1, 9), (9, .invokevirtual 106, 3, 12), (12, .ifCond .eq 16, 3, 15), (15, .iload_n 1, 1, 16), (16, .bipush 10, 2, 18), (18, .irem, 1, 19), (19, .bipush 6, 2, 21), (21, .if_icmp .ge 7, 3, 24), (24, .iconst 1, 1, 25), (25, .goto 4, 3, 28), (28, .iconst 0, 1, 29), (29, .ireturn, 1, 30)]
set_option maxRecDepth 20000 in
theorem D_Model_isFace {i pc n npc : Nat} {ins : Instr} (h : K_Model_isFace[i]? = some (pc, ins, n, npc)) : zD prog_11_method_6_code pc ins n npc := zDall (by decide +kernel) h
def K_Model_isColour : List (Nat × Instr × Nat × Nat) := [(0, .iload_n 0, 1, 1), (1, .iconst 0, 1, 2), (2, .iconst 5, 1, 3), (3, .invokestatic 102, 3, 6), (6, .ireturn, 1, 7)]
set_option maxRecDepth 20000 in
theorem D_Model_isColour {i pc n npc : Nat} {ins : Instr} (h : K_Model_isColour[i]? = some (pc, ins, n, npc)) : zD prog_11_method_7_code pc ins n npc := zDall (by decide +kernel) h
def K_Model_cube : List (Nat × Instr × Nat × Nat) := [(0, .iload_n 1, 1, 1), (1, .ldc 110, 2, 3), (3, .ldc 111, 2, 5), (5, .invokestatic 102, 3, 8), (8, .ifCond .ne 5, 3, 11), (11, .iconst (-1), 1, 12), (12, .ireturn, 1, 13), (13, .iload_n 1, 1, 14), (14, .istore_n 2, 1, 15), (15, .iload_n 2, 1, 16), (16, .ifCond .le 26, 3, 19), (19, .iload_n 2, 1, 20), (20, .bipush 10, 2, 22), (22, .irem, 1, 23), (23, .iconst 1, 1, 24), (24, .bipush 7, 2, 26), (26, .invokestatic 102, 3, 29), (29, .ifCond .ne 5, 3, 32), (32, .iconst (-1), 1, 33), (33, .ireturn, 1, 34), (34, .iload_n 2, 1, 35), (35, .bipush 10, 2, 37), (37, .idiv, 1, 38), (38, .istore_n 2, 1, 39), (39, .goto (-24), 3, 42), (42, .aload_n 0, 1, 43), (43, .getfield 99, 3, 46), (46, .bipush 8, 2, 48), (48, .if_icmp .ne 6, 3, 51), (51, .bipush (-3), 2, 53), (53, .ireturn, 1, 54), (54, .iload_n 1, 1, 55), (55, .istore_n 2, 1, 56), (56, .iconst 5, 1, 57), (57, .istore_n 3, 1, 58), (58, .iload_n 3, 1, 59), (59, .ifCond .lt 34, 3, 62), (62, .aload_n 0, 1, 63), (63, .getfield 7, 3, 66), (66, .bipush 6, 2, 68), (68, .aload_n 0, 1, 69), (69, .getfield 99, 3, 72), (72, .imul, 1, 73), (73, .iload_n 3, 1, 74), (74, .iadd, 1, 75), (75, .iload_n 2, 1, 76), (76, .bipush 10, 2, 78), (78, .irem, 1, 79), (79, .iconst 1, 1, 80), (80, .isub, 1, 81), (81, .iastore, 1, 82), (82, .iload_n 2, 1, 83), (83, .bipush 10, 2, 85), (85, .idiv, 1, 86), (86, .istore_n 2, 1, 87), (87, .iinc 3 (-1), 3, 90), (90, .goto (-32), 3, 93), (93, .aload_n 0, 1, 94), (94, .getfield 13, 3, 97), (97, .aload_n 0, 1, 98), (98, .getfield 99, 3, 101), (101, .bipush 16, 2, 103), (103, .iastore, 1, 104), (104, .aload_n 0, 1, 105), (105, .dup, 1, 106), (106, .getfield 99, 3, 109), (109, .iconst 1, 1, 110), (110, .iadd, 1, 111), (111, .putfield 99, 3, 114), (114, .aload_n 0, 1, 115), (115, .getfield 99, 3, 118), (118, .iconst 1, 1, 119), (119, .isub, 1, 120), (120, .ireturn, 1, 121)]
set_option maxRecDepth 20000 in
theorem D_Model_cube {i pc n npc : Nat} {ins : Instr} (h : K_Model_cube[i]? = some (pc, ins, n, npc)) : zD prog_11_method_8_code pc ins n npc := zDall (by decide +kernel) h
def K_Model_cubes : List (Nat × Instr × Nat × Nat) := [(0, .iload_n 1, 1, 1), (1, .invokestatic 112, 3, 4), (4, .ifCond .eq 13, 3, 7), (7, .iload_n 3, 1, 8), (8, .iconst 1, 1, 9), (9, .bipush 8, 2, 11), (11, .invokestatic 102, 3, 14), (14, .ifCond .ne 5, 3, 17), (17, .iconst (-1), 1, 18), (18, .ireturn, 1, 19), (19, .aload_n 0, 1, 20), (20, .getfield 82, 3, 23), (23, .iload_n 1, 1, 24), (24, .iaload, 1, 25), (25, .iconst (-1), 1, 26), (26, .if_icmp .eq 17, 3, 29), (29, .aload_n 0, 1, 30), (30, .getfield 82, 3, 33), (33, .iload_n 1, 1, 34), (34, .iaload, 1, 35), (35, .bipush (-2), 2, 37), (37, .if_icmp .eq 6, 3, 40), (40, .bipush (-12), 2, 42), (42, .ireturn, 1, 43), (43, .aload_n 0, 1, 44), (44, .getfield 82, 3, 47), (47, .iload_n 1, 1, 48), (48, .iaload, 1, 49), (49, .iconst (-1), 1, 50), (50, .if_icmp .ne 5, 3, 53), (53, .iconst 0, 1, 54), (54, .ireturn, 1, 55), (55, .iconst 0, 1, 56), (56, .istore 4, 2, 58), (58, .iload 4, 2, 60), (60, .iload_n 3, 1, 61), (61, .if_icmp .ge 180, 3, 64), (64, .iload_n 2, 1, 65), (65, .i2l, 1, 66), (66, .bipush 6, 2, 68), (68, .iload 4, 2, 70), (70, .imul, 1, 71), (71, .i2l, 1, 72), (72, .ladd, 1, 73), (73, .lstore 5, 2, 75), (75, .lload 5, 2, 77), (77, .lconst 0, 1, 78), (78, .lcmp, 1, 79), (79, .ifCond .lt 29, 3, 82), (82, .lload 5, 2, 84), (84, .ldc2_w 115, 3, 87), (87, .ladd, 1, 88), (88, .aload_n 0, 1, 89), (89, .getfield 85, 3, 92), (92, .iload_n 1, 1, 93), (93, .iaload, 1, 94), (94, .i2l, 1, 95), (95, .lcmp, 1, 96), (96, .ifCond .ge 12, 3, 99), (99, .aload_n 0, 1, 100), (100, .getfield 99, 3, 103), (103, .bipush 8, 2, 105), (105, .if_icmp .ne 6, 3, 108), (108, .iload 4, 2, 110), (110, .ireturn, 1, 111), (111, .bipush 60, 2, 113), (113, .iload_n 1, 1, 114), (114, .imul, 1, 115), (115, .lload 5, 2, 117), (117, .l2i, 1, 118), (118, .iadd, 1, 119), (119, .istore 7, 2, 121), (121, .iconst 0, 1, 122), (122, .istore 8, 2, 124), (124, .iload 8, 2, 126), (126, .bipush 6, 2, 128), (128, .if_icmp .ge 44, 3, 131), (131, .aload_n 0, 1, 132), (132, .getfield 88, 3, 135), (135, .iload 7, 2, 137), (137, .iload 8, 2, 139), (139, .iadd, 1, 140), (140, .laload, 1, 141), (141, .lconst 0, 1, 142), (142, .lcmp, 1, 143), (143, .ifCond .lt 20, 3, 146), (146, .aload_n 0, 1, 147), (147, .getfield 88, 3, 150), (150, .iload 7, 2, 152), (152, .iload 8, 2, 154), (154, .iadd, 1, 155), (155, .laload, 1, 156), (156, .ldc2_w 117, 3, 159), (159, .lcmp, 1, 160), (160, .ifCond .le 6, 3, 163), (163, .iload 4, 2, 165), (165, .ireturn, 1, 166), (166, .iinc 8 1, 3, 169), (169, .goto (-45), 3, 172), (172, .iconst 0, 1, 173), (173, .istore 8, 2, 175), (175, .iload 8, 2, 177), (177, .bipush 6, 2, 179), (179, .if_icmp .ge 35, 3, 182), (182, .aload_n 0, 1, 183), (183, .getfield 7, 3, 186), (186, .bipush 6, 2, 188), (188, .aload_n 0, 1, 189), (189, .getfield 99, 3, 192), (192, .imul, 1, 193), (193, .iload 8, 2, 195), (195, .iadd, 1, 196), (196, .aload_n 0, 1, 197), (197, .getfield 88, 3, 200), (200, .iload 7, 2, 202), (202, .iload 8, 2, 204), (204, .iadd, 1, 205), (205, .laload, 1, 206), (206, .l2i, 1, 207), (207, .iastore, 1, 208), (208, .iinc 8 1, 3, 211), (211, .goto (-36), 3, 214), (214, .aload_n 0, 1, 215), (215, .getfield 13, 3, 218), (218, .aload_n 0, 1, 219), (219, .getfield 99, 3, 222), (222, .bipush 16, 2, 224), (224, .iastore, 1, 225), (225, .aload_n 0, 1, 226), (226, .dup, 1, 227), (227, .getfield 99, 3, 230), (230, .iconst 1, 1, 231), (231, .iadd, 1, 232), (232, .putfield 99, 3, 235), (235, .iinc 4 1, 3, 238), (238, .goto (-180), 3, 241), (241, .iload_n 3, 1, 242), (242, .ireturn, 1, 243)]
set_option maxRecDepth 20000 in
theorem D_Model_cubes {i pc n npc : Nat} {ins : Instr} (h : K_Model_cubes[i]? = some (pc, ins, n, npc)) : zD prog_11_method_9_code pc ins n npc := zDall (by decide +kernel) h
def K_Model_valueAt : List (Nat × Instr × Nat × Nat) := [(0, .aload_n 0, 1, 1), (1, .getfield 7, 3, 4), (4, .iload_n 2, 1, 5), (5, .iaload, 1, 6), (6, .ireturn, 1, 7)]
set_option maxRecDepth 20000 in
theorem D_Model_valueAt {i pc n npc : Nat} {ins : Instr} (h : K_Model_valueAt[i]? = some (pc, ins, n, npc)) : zD prog_11_method_10_code pc ins n npc := zDall (by decide +kernel) h
def K_Model_lays : List (Nat × Instr × Nat × Nat) := [(0, .aload_n 0, 1, 1), (1, .getfield 7, 3, 4), (4, .iload_n 2, 1, 5), (5, .iload_n 3, 1, 6), (6, .iastore, 1, 7), (7, .return_, 1, 8)]
set_option maxRecDepth 20000 in
theorem D_Model_lays {i pc n npc : Nat} {ins : Instr} (h : K_Model_lays[i]? = some (pc, ins, n, npc)) : zD prog_11_method_11_code pc ins n npc := zDall (by decide +kernel) h
def K_Model_changes : List (Nat × Instr × Nat × Nat) := [(0, .aload_n 0, 1, 1), (1, .iload_n 1, 1, 2), (2, .iload_n 2, 1, 3), (3, .invokevirtual 119, 3, 6), (6, .istore 4, 2, 8), (8, .iload 4, 2, 10), (10, .iload_n 3, 1, 11), (11, .if_icmp .ne 6, 3, 14), (14, .iload 4, 2, 16), (16, .ireturn, 1, 17), (17, .aload_n 0, 1, 18), (18, .iconst 0, 1, 19), (19, .putfield 123, 3, 22), (22, .aload_n 0, 1, 23), (23, .getfield 126, 3, 26), (26, .bipush 40, 2, 28), (28, .if_icmp .ne 93, 3, 31), (31, .iconst 1, 1, 32), (32, .istore 5, 2, 34), (34, .iload 5, 2, 36), (36, .bipush 40, 2, 38), (38, .if_icmp .ge 73, 3, 41), (41, .aload_n 0, 1, 42), (42, .getfield 19, 3, 45), (45, .iload 5, 2, 47), (47, .iconst 1, 1, 48), (48, .isub, 1, 49), (49, .aload_n 0, 1, 50), (50, .getfield 19, 3, 53), (53, .iload 5, 2, 55), (55, .iaload, 1, 56), (56, .iastore, 1, 57), (57, .aload_n 0, 1, 58), (58, .getfield 22, 3, 61), (61, .iload 5, 2, 63), (63, .iconst 1, 1, 64), (64, .isub, 1, 65), (65, .aload_n 0, 1, 66), (66, .getfield 22, 3, 69), (69, .iload 5, 2, 71), (71, .iaload, 1, 72), (72, .iastore, 1, 73), (73, .aload_n 0, 1, 74), (74, .getfield 25, 3, 77), (77, .iload 5, 2, 79), (79, .iconst 1, 1, 80), (80, .isub, 1, 81), (81, .aload_n 0, 1, 82), (82, .getfield 25, 3, 85), (85, .iload 5, 2, 87), (87, .iaload, 1, 88), (88, .iastore, 1, 89), (89, .aload_n 0, 1, 90), (90, .getfield 28, 3, 93), (93, .iload 5, 2, 95), (95, .iconst 1, 1, 96), (96, .isub, 1, 97), (97, .aload_n 0, 1, 98), (98, .getfield 28, 3, 101), (101, .iload 5, 2, 103), (103, .iaload, 1, 104), (104, .iastore, 1, 105), (105, .iinc 5 1, 3, 108), (108, .goto (-74), 3, 111), (111, .aload_n 0, 1, 112), (112, .dup, 1, 113), (113, .getfield 126, 3, 116), (116, .iconst 1, 1, 117), (117, .isub, 1, 118), (118, .putfield 126, 3, 121), (121, .aload_n 0, 1, 122), (122, .getfield 19, 3, 125), (125, .aload_n 0, 1, 126), (126, .getfield 126, 3, 129), (129, .iload_n 1, 1, 130), (130, .iastore, 1, 131), (131, .aload_n 0, 1, 132), (132, .getfield 22, 3, 135), (135, .aload_n 0, 1, 136), (136, .getfield 126, 3, 139), (139, .iload_n 2, 1, 140), (140, .iastore, 1, 141), (141, .aload_n 0, 1, 142), (142, .getfield 25, 3, 145), (145, .aload_n 0, 1, 146), (146, .getfield 126, 3, 149), (149, .iload 4, 2, 151), (151, .iastore, 1, 152), (152, .aload_n 0, 1, 153), (153, .getfield 28, 3, 156), (156, .aload_n 0, 1, 157), (157, .getfield 126, 3, 160), (160, .iload_n 3, 1, 161), (161, .iastore, 1, 162), (162, .aload_n 0, 1, 163), (163, .dup, 1, 164), (164, .getfield 126, 3, 167), (167, .iconst 1, 1, 168), (168, .iadd, 1, 169), (169, .putfield 126, 3, 172), (172, .aload_n 0, 1, 173), (173, .iload_n 1, 1, 174), (174, .iload_n 2, 1, 175), (175, .iload_n 3, 1, 176), (176, .invokevirtual 129, 3, 179), (179, .iload 4, 2, 181), (181, .ireturn, 1, 182)]
set_option maxRecDepth 20000 in
theorem D_Model_changes {i pc n npc : Nat} {ins : Instr} (h : K_Model_changes[i]? = some (pc, ins, n, npc)) : zD prog_11_method_12_code pc ins n npc := zDall (by decide +kernel) h
def K_Model_undo : List (Nat × Instr × Nat × Nat) := [(0, .aload_n 0, 1, 1), (1, .getfield 126, 3, 4), (4, .ifCond .ne 6, 3, 7), (7, .bipush (-5), 2, 9), (9, .ireturn, 1, 10), (10, .aload_n 0, 1, 11), (11, .dup, 1, 12), (12, .getfield 126, 3, 15), (15, .iconst 1, 1, 16), (16, .isub, 1, 17), (17, .putfield 126, 3, 20), (20, .aload_n 0, 1, 21), (21, .dup, 1, 22), (22, .getfield 123, 3, 25), (25, .iconst 1, 1, 26), (26, .iadd, 1, 27), (27, .putfield 123, 3, 30), (30, .aload_n 0, 1, 31), (31, .aload_n 0, 1, 32), (32, .getfield 19, 3, 35), (35, .aload_n 0, 1, 36), (36, .getfield 126, 3, 39), (39, .iaload, 1, 40), (40, .aload_n 0, 1, 41), (41, .getfield 22, 3, 44), (44, .aload_n 0, 1, 45), (45, .getfield 126, 3, 48), (48, .iaload, 1, 49), (49, .aload_n 0, 1, 50), (50, .getfield 25, 3, 53), (53, .aload_n 0, 1, 54), (54, .getfield 126, 3, 57), (57, .iaload, 1, 58), (58, .invokevirtual 129, 3, 61), (61, .aload_n 0, 1, 62), (62, .getfield 126, 3, 65), (65, .ireturn, 1, 66)]
set_option maxRecDepth 20000 in
theorem D_Model_undo {i pc n npc : Nat} {ins : Instr} (h : K_Model_undo[i]? = some (pc, ins, n, npc)) : zD prog_11_method_13_code pc ins n npc := zDall (by decide +kernel) h
def K_Model_redo : List (Nat × Instr × Nat × Nat) := [(0, .aload_n 0, 1, 1), (1, .getfield 123, 3, 4), (4, .ifCond .ne 6, 3, 7), (7, .bipush (-5), 2, 9), (9, .ireturn, 1, 10), (10, .aload_n 0, 1, 11), (11, .aload_n 0, 1, 12), (12, .getfield 19, 3, 15), (15, .aload_n 0, 1, 16), (16, .getfield 126, 3, 19), (19, .iaload, 1, 20), (20, .aload_n 0, 1, 21), (21, .getfield 22, 3, 24), (24, .aload_n 0, 1, 25), (25, .getfield 126, 3, 28), (28, .iaload, 1, 29), (29, .aload_n 0, 1, 30), (30, .getfield 28, 3, 33), (33, .aload_n 0, 1, 34), (34, .getfield 126, 3, 37), (37, .iaload, 1, 38), (38, .invokevirtual 129, 3, 41), (41, .aload_n 0, 1, 42), (42, .dup, 1, 43), (43, .getfield 126, 3, 46), (46, .iconst 1, 1, 47), (47, .iadd, 1, 48), (48, .putfield 126, 3, 51), (51, .aload_n 0, 1, 52), (52, .dup, 1, 53), (53, .getfield 123, 3, 56), (56, .iconst 1, 1, 57), (57, .isub, 1, 58), (58, .putfield 123, 3, 61), (61, .aload_n 0, 1, 62), (62, .getfield 123, 3, 65), (65, .ireturn, 1, 66)]
set_option maxRecDepth 20000 in
theorem D_Model_redo {i pc n npc : Nat} {ins : Instr} (h : K_Model_redo[i]? = some (pc, ins, n, npc)) : zD prog_11_method_14_code pc ins n npc := zDall (by decide +kernel) h
def K_Model_paint : List (Nat × Instr × Nat × Nat) := [(0, .aload_n 0, 1, 1), (1, .iload_n 1, 1, 2), (2, .invokevirtual 133, 3, 5), (5, .ifCond .eq 34, 3, 8), (8, .iload_n 2, 1, 9), (9, .iconst 0, 1, 10), (10, .bipush 6, 2, 12), (12, .invokestatic 102, 3, 15), (15, .ifCond .eq 24, 3, 18), (18, .aload_n 0, 1, 19), (19, .iconst 0, 1, 20), (20, .bipush 6, 2, 22), (22, .iload_n 1, 1, 23), (23, .bipush 10, 2, 25), (25, .idiv, 1, 26), (26, .imul, 1, 27), (27, .iload_n 1, 1, 28), (28, .bipush 10, 2, 30), (30, .irem, 1, 31), (31, .iadd, 1, 32), (32, .iload_n 2, 1, 33), (33, .invokevirtual 136, 3, 36), (36, .goto 4, 3, 39), (39, .iconst (-1), 1, 40), (40, .ireturn, 1, 41)]
set_option maxRecDepth 20000 in
theorem D_Model_paint {i pc n npc : Nat} {ins : Instr} (h : K_Model_paint[i]? = some (pc, ins, n, npc)) : zD prog_11_method_15_code pc ins n npc := zDall (by decide +kernel) h
def K_Model_lineOf : List (Nat × Instr × Nat × Nat) := [(0, .aload_n 0, 1, 1), (1, .getfield 7, 3, 4), (4, .bipush 6, 2, 6), (6, .iload_n 1, 1, 7), (7, .imul, 1, 8), (8, .iload_n 2, 1, 9), (9, .iconst 2, 1, 10), (10, .if_icmp .ne 7, 3, 13), (13, .iconst 4, 1, 14), (14, .goto 4, 3, 17), (17, .iload_n 2, 1, 18), (18, .iadd, 1, 19), (19, .iaload, 1, 20), (20, .istore_n 3, 1, 21), (21, .aload_n 0, 1, 22), (22, .getfield 7, 3, 25), (25, .bipush 6, 2, 27), (27, .iload_n 1, 1, 28), (28, .imul, 1, 29), (29, .iload_n 2, 1, 30), (30, .iconst 2, 1, 31), (31, .if_icmp .ne 7, 3, 34), (34, .iconst 5, 1, 35), (35, .goto 6, 3, 38), (38, .iload_n 2, 1, 39), (39, .iconst 2, 1, 40), (40, .iadd, 1, 41), (41, .iadd, 1, 42), (42, .iaload, 1, 43), (43, .istore 4, 2, 45), (45, .iload_n 3, 1, 46), (46, .iload 4, 2, 48), (48, .if_icmp .ge 13, 3, 51), (51, .bipush 10, 2, 53), (53, .iload_n 3, 1, 54), (54, .imul, 1, 55), (55, .iload 4, 2, 57), (57, .iadd, 1, 58), (58, .goto 10, 3, 61), (61, .bipush 10, 2, 63), (63, .iload 4, 2, 65), (65, .imul, 1, 66), (66, .iload_n 3, 1, 67), (67, .iadd, 1, 68), (68, .ireturn, 1, 69)]
set_option maxRecDepth 20000 in
theorem D_Model_lineOf {i pc n npc : Nat} {ins : Instr} (h : K_Model_lineOf[i]? = some (pc, ins, n, npc)) : zD prog_11_method_16_code pc ins n npc := zDall (by decide +kernel) h
def K_Model_of : List (Nat × Instr × Nat × Nat) := [(0, .aload_n 0, 1, 1), (1, .iload_n 1, 1, 2), (2, .invokevirtual 106, 3, 5), (5, .ifCond .ne 5, 3, 8), (8, .iconst (-1), 1, 9), (9, .ireturn, 1, 10), (10, .iload_n 2, 1, 11), (11, .iconst 0, 1, 12), (12, .iconst 5, 1, 13), (13, .invokestatic 102, 3, 16), (16, .ifCond .eq 15, 3, 19), (19, .aload_n 0, 1, 20), (20, .getfield 7, 3, 23), (23, .bipush 6, 2, 25), (25, .iload_n 1, 1, 26), (26, .imul, 1, 27), (27, .iload_n 2, 1, 28), (28, .iadd, 1, 29), (29, .iaload, 1, 30), (30, .ireturn, 1, 31), (31, .iload_n 2, 1, 32), (32, .bipush 6, 2, 34), (34, .if_icmp .ne 12, 3, 37), (37, .aload_n 0, 1, 38), (38, .getfield 13, 3, 41), (41, .iload_n 1, 1, 42), (42, .iaload, 1, 43), (43, .goto 27, 3, 46), (46, .iload_n 2, 1, 47), (47, .bipush 10, 2, 49), (49, .bipush 12, 2, 51), (51, .invokestatic 102, 3, 54), (54, .ifCond .eq 15, 3, 57), (57, .aload_n 0, 1, 58), (58, .iload_n 1, 1, 59), (59, .iload_n 2, 1, 60), (60, .bipush 10, 2, 62), (62, .isub, 1, 63), (63, .invokevirtual 140, 3, 66), (66, .goto 4, 3, 69), (69, .iconst (-1), 1, 70), (70, .ireturn, 1, 71)]
set_option maxRecDepth 20000 in
theorem D_Model_of {i pc n npc : Nat} {ins : Instr} (h : K_Model_of[i]? = some (pc, ins, n, npc)) : zD prog_11_method_17_code pc ins n npc := zDall (by decide +kernel) h
def K_Model_box : List (Nat × Instr × Nat × Nat) := [(0, .iload_n 1, 1, 1), (1, .ifCond .lt 20, 3, 4), (4, .iload_n 1, 1, 5), (5, .aload_n 0, 1, 6), (6, .getfield 99, 3, 9), (9, .ishr, 1, 10), (10, .ifCond .ne 11, 3, 13), (13, .iload_n 1, 1, 14), (14, .invokestatic 143, 3, 17), (17, .iconst 4, 1, 18), (18, .if_icmp .le 5, 3, 21), (21, .iconst (-1), 1, 22), (22, .ireturn, 1, 23), (23, .aload_n 0, 1, 24), (24, .getfield 147, 3, 27), (27, .istore_n 2, 1, 28), (28, .aload_n 0, 1, 29), (29, .iload_n 1, 1, 30), (30, .putfield 147, 3, 33), (33, .iload_n 2, 1, 34), (34, .ireturn, 1, 35)]
set_option maxRecDepth 20000 in
theorem D_Model_box {i pc n npc : Nat} {ins : Instr} (h : K_Model_box[i]? = some (pc, ins, n, npc)) : zD prog_11_method_18_code pc ins n npc := zDall (by decide +kernel) h
def K_Model_feed : List (Nat × Instr × Nat × Nat) := [(0, .iload_n 1, 1, 1), (1, .iconst 0, 1, 2), (2, .sipush 255, 3, 5), (5, .invokestatic 102, 3, 8), (8, .ifCond .ne 5, 3, 11), (11, .iconst (-1), 1, 12), (12, .ireturn, 1, 13), (13, .aload_n 0, 1, 14), (14, .getfield 150, 3, 17), (17, .bipush 120, 2, 19), (19, .if_icmp .ne 6, 3, 22), (22, .bipush (-3), 2, 24), (24, .ireturn, 1, 25), (25, .aload_n 0, 1, 26), (26, .getfield 31, 3, 29), (29, .aload_n 0, 1, 30), (30, .getfield 150, 3, 33), (33, .iload_n 1, 1, 34), (34, .i2b, 1, 35), (35, .bastore, 1, 36), (36, .aload_n 0, 1, 37), (37, .dup, 1, 38), (38, .getfield 150, 3, 41), (41, .iconst 1, 1, 42), (42, .iadd, 1, 43), (43, .putfield 150, 3, 46), (46, .aload_n 0, 1, 47), (47, .getfield 150, 3, 50), (50, .ireturn, 1, 51)]
set_option maxRecDepth 20000 in
theorem D_Model_feed {i pc n npc : Nat} {ins : Instr} (h : K_Model_feed[i]? = some (pc, ins, n, npc)) : zD prog_11_method_19_code pc ins n npc := zDall (by decide +kernel) h
def K_Model_look : List (Nat × Instr × Nat × Nat) := [(0, .aload_n 0, 1, 1), (1, .getfield 153, 3, 4), (4, .aload_n 0, 1, 5), (5, .getfield 150, 3, 8), (8, .if_icmp .ge 15, 3, 11), (11, .aload_n 0, 1, 12), (12, .getfield 31, 3, 15), (15, .aload_n 0, 1, 16), (16, .getfield 153, 3, 19), (19, .baload, 1, 20), (20, .goto 4, 3, 23), (23, .iconst (-1), 1, 24), (24, .ireturn, 1, 25)]
set_option maxRecDepth 20000 in
theorem D_Model_look {i pc n npc : Nat} {ins : Instr} (h : K_Model_look[i]? = some (pc, ins, n, npc)) : zD prog_11_method_20_code pc ins n npc := zDall (by decide +kernel) h
def K_Model_faulty : List (Nat × Instr × Nat × Nat) := [(0, .aload_n 0, 1, 1), (1, .getfield 156, 3, 4), (4, .ifCond .ge 11, 3, 7), (7, .aload_n 0, 1, 8), (8, .aload_n 0, 1, 9), (9, .getfield 153, 3, 12), (12, .putfield 156, 3, 15), (15, .return_, 1, 16)]
set_option maxRecDepth 20000 in
theorem D_Model_faulty {i pc n npc : Nat} {ins : Instr} (h : K_Model_faulty[i]? = some (pc, ins, n, npc)) : zD prog_11_method_21_code pc ins n npc := zDall (by decide +kernel) h
def K_Model_addStep : List (Nat × Instr × Nat × Nat) := [(0, .aload_n 0, 1, 1), (1, .getfield 35, 3, 4), (4, .sipush 130, 3, 7), (7, .aload_n 0, 1, 8), (8, .getfield 159, 3, 11), (11, .iadd, 1, 12), (12, .iload_n 1, 1, 13), (13, .i2b, 1, 14), (14, .bastore, 1, 15), (15, .aload_n 0, 1, 16), (16, .getfield 38, 3, 19), (19, .sipush 130, 3, 22), (22, .aload_n 0, 1, 23), (23, .getfield 159, 3, 26), (26, .iadd, 1, 27), (27, .iload_n 2, 1, 28), (28, .iastore, 1, 29), (29, .aload_n 0, 1, 30), (30, .dup, 1, 31), (31, .getfield 159, 3, 34), (34, .iconst 1, 1, 35), (35, .iadd, 1, 36), (36, .putfield 159, 3, 39), (39, .return_, 1, 40)]
set_option maxRecDepth 20000 in
theorem D_Model_addStep {i pc n npc : Nat} {ins : Instr} (h : K_Model_addStep[i]? = some (pc, ins, n, npc)) : zD prog_11_method_22_code pc ins n npc := zDall (by decide +kernel) h
def K_Model_nameOf : List (Nat × Instr × Nat × Nat) := [(0, .iload_n 0, 1, 1), (1, .lookupswitch 61 #[(97, 51), (98, 53), (105, 57), (106, 59), (115, 55)], 51, 52), (52, .iconst 0, 1, 53), (53, .ireturn, 1, 54), (54, .iconst 1, 1, 55), (55, .ireturn, 1, 56), (56, .iconst 2, 1, 57), (57, .ireturn, 1, 58), (58, .iconst 3, 1, 59), (59, .ireturn, 1, 60), (60, .iconst 4, 1, 61), (61, .ireturn, 1, 62), (62, .iconst (-1), 1, 63), (63, .ireturn, 1, 64)]
set_option maxRecDepth 20000 in
theorem D_Model_nameOf {i pc n npc : Nat} {ins : Instr} (h : K_Model_nameOf[i]? = some (pc, ins, n, npc)) : zD prog_11_method_23_code pc ins n npc := zDall (by decide +kernel) h
def K_Model_opens : List (Nat × Instr × Nat × Nat) := [(0, .aload_n 0, 1, 1), (1, .getfield 162, 3, 4), (4, .bipush 6, 2, 6), (6, .if_icmp .ne 9, 3, 9), (9, .aload_n 0, 1, 10), (10, .invokevirtual 165, 3, 13), (13, .iconst 0, 1, 14), (14, .ireturn, 1, 15), (15, .aload_n 0, 1, 16), (16, .dup, 1, 17), (17, .getfield 162, 3, 20), (20, .iconst 1, 1, 21), (21, .iadd, 1, 22), (22, .putfield 162, 3, 25), (25, .aload_n 0, 1, 26), (26, .dup, 1, 27), (27, .getfield 153, 3, 30), (30, .iconst 1, 1, 31), (31, .iadd, 1, 32), (32, .putfield 153, 3, 35), (35, .iconst 1, 1, 36), (36, .ireturn, 1, 37)]
set_option maxRecDepth 20000 in
theorem D_Model_opens {i pc n npc : Nat} {ins : Instr} (h : K_Model_opens[i]? = some (pc, ins, n, npc)) : zD prog_11_method_24_code pc ins n npc := zDall (by decide +kernel) h
def K_Model_figure : List (Nat × Instr × Nat × Nat) := [(0, .iconst 0, 1, 1), (1, .istore_n 1, 1, 2), (2, .iconst 0, 1, 3), (3, .istore_n 2, 1, 4), (4, .iload_n 2, 1, 5), (5, .iconst 4, 1, 6), (6, .if_icmp .ge 46, 3, 9), (9, .aload_n 0, 1, 10), (10, .invokevirtual 168, 3, 13), (13, .bipush 48, 2, 15), (15, .bipush 57, 2, 17), (17, .invokestatic 102, 3, 20), (20, .ifCond .eq 32, 3, 23), (23, .bipush 10, 2, 25), (25, .iload_n 1, 1, 26), (26, .imul, 1, 27), (27, .aload_n 0, 1, 28), (28, .invokevirtual 168, 3, 31), (31, .iadd, 1, 32), (32, .bipush 48, 2, 34), (34, .isub, 1, 35), (35, .istore_n 1, 1, 36), (36, .iinc 2 1, 3, 39), (39, .aload_n 0, 1, 40), (40, .dup, 1, 41), (41, .getfield 153, 3, 44), (44, .iconst 1, 1, 45), (45, .iadd, 1, 46), (46, .putfield 153, 3, 49), (49, .goto (-45), 3, 52), (52, .iload_n 2, 1, 53), (53, .ifCond .eq 17, 3, 56), (56, .aload_n 0, 1, 57), (57, .invokevirtual 168, 3, 60), (60, .bipush 48, 2, 62), (62, .bipush 57, 2, 64), (64, .invokestatic 102, 3, 67), (67, .ifCond .eq 7, 3, 70), (70, .aload_n 0, 1, 71), (71, .invokevirtual 165, 3, 74), (74, .aload_n 0, 1, 75), (75, .iconst 1, 1, 76), (76, .iload_n 1, 1, 77), (77, .invokevirtual 172, 3, 80), (80, .return_, 1, 81)]
set_option maxRecDepth 20000 in
theorem D_Model_figure {i pc n npc : Nat} {ins : Instr} (h : K_Model_figure[i]? = some (pc, ins, n, npc)) : zD prog_11_method_25_code pc ins n npc := zDall (by decide +kernel) h
def K_Model_operand : List (Nat × Instr × Nat × Nat) := [(0, .aload_n 0, 1, 1), (1, .invokevirtual 168, 3, 4), (4, .istore_n 1, 1, 5), (5, .iload_n 1, 1, 6), (6, .invokestatic 176, 3, 9), (9, .ifCond .lt 25, 3, 12), (12, .aload_n 0, 1, 13), (13, .iconst 2, 1, 14), (14, .iload_n 1, 1, 15), (15, .invokestatic 176, 3, 18), (18, .invokevirtual 172, 3, 21), (21, .aload_n 0, 1, 22), (22, .dup, 1, 23), (23, .getfield 153, 3, 26), (26, .iconst 1, 1, 27), (27, .iadd, 1, 28), (28, .putfield 153, 3, 31), (31, .goto 123, 3, 34), (34, .iload_n 1, 1, 35), (35, .bipush 33, 2, 37), (37, .if_icmp .eq 9, 3, 40), (40, .iload_n 1, 1, 41), (41, .bipush 45, 2, 43), (43, .if_icmp .ne 44, 3, 46), (46, .aload_n 0, 1, 47), (47, .invokevirtual 179, 3, 50), (50, .ifCond .ne 4, 3, 53), (53, .return_, 1, 54), (54, .aload_n 0, 1, 55), (55, .invokevirtual 183, 3, 58), (58, .aload_n 0, 1, 59), (59, .dup, 1, 60), (60, .getfield 162, 3, 63), (63, .iconst 1, 1, 64), (64, .isub, 1, 65), (65, .putfield 162, 3, 68), (68, .aload_n 0, 1, 69), (69, .iload_n 1, 1, 70), (70, .bipush 33, 2, 72), (72, .if_icmp .ne 7, 3, 75), (75, .iconst 3, 1, 76), (76, .goto 4, 3, 79), (79, .iconst 4, 1, 80), (80, .iconst 0, 1, 81), (81, .invokevirtual 172, 3, 84), (84, .goto 70, 3, 87), (87, .iload_n 1, 1, 88), (88, .bipush 40, 2, 90), (90, .if_icmp .ne 60, 3, 93), (93, .aload_n 0, 1, 94), (94, .invokevirtual 179, 3, 97), (97, .ifCond .ne 4, 3, 100), (100, .return_, 1, 101), (101, .aload_n 0, 1, 102), (102, .invokevirtual 186, 3, 105), (105, .aload_n 0, 1, 106), (106, .getfield 156, 3, 109), (109, .ifCond .lt 4, 3, 112), (112, .return_, 1, 113), (113, .aload_n 0, 1, 114), (114, .invokevirtual 168, 3, 117), (117, .bipush 41, 2, 119), (119, .if_icmp .eq 8, 3, 122), (122, .aload_n 0, 1, 123), (123, .invokevirtual 165, 3, 126), (126, .return_, 1, 127), (127, .aload_n 0, 1, 128), (128, .dup, 1, 129), (129, .getfield 153, 3, 132), (132, .iconst 1, 1, 133), (133, .iadd, 1, 134), (134, .putfield 153, 3, 137), (137, .aload_n 0, 1, 138), (138, .dup, 1, 139), (139, .getfield 162, 3, 142), (142, .iconst 1, 1, 143), (143, .isub, 1, 144), (144, .putfield 162, 3, 147), (147, .goto 7, 3, 150), (150, .aload_n 0, 1, 151), (151, .invokevirtual 189, 3, 154), (154, .return_, 1, 155)]
set_option maxRecDepth 20000 in
theorem D_Model_operand {i pc n npc : Nat} {ins : Instr} (h : K_Model_operand[i]? = some (pc, ins, n, npc)) : zD prog_11_method_26_code pc ins n npc := zDall (by decide +kernel) h
def K_Model_product : List (Nat × Instr × Nat × Nat) := [(0, .aload_n 0, 1, 1), (1, .invokevirtual 183, 3, 4), (4, .aload_n 0, 1, 5), (5, .getfield 156, 3, 8), (8, .ifCond .ge 58, 3, 11), (11, .aload_n 0, 1, 12), (12, .invokevirtual 168, 3, 15), (15, .bipush 42, 2, 17), (17, .if_icmp .eq 21, 3, 20), (20, .aload_n 0, 1, 21), (21, .invokevirtual 168, 3, 24), (24, .bipush 47, 2, 26), (26, .if_icmp .eq 12, 3, 29), (29, .aload_n 0, 1, 30), (30, .invokevirtual 168, 3, 33), (33, .bipush 37, 2, 35), (35, .if_icmp .ne 31, 3, 38), (38, .aload_n 0, 1, 39), (39, .invokevirtual 168, 3, 42), (42, .istore_n 1, 1, 43), (43, .aload_n 0, 1, 44), (44, .dup, 1, 45), (45, .getfield 153, 3, 48), (48, .iconst 1, 1, 49), (49, .iadd, 1, 50), (50, .putfield 153, 3, 53), (53, .aload_n 0, 1, 54), (54, .invokevirtual 183, 3, 57), (57, .aload_n 0, 1, 58), (58, .iload_n 1, 1, 59), (59, .iconst 0, 1, 60), (60, .invokevirtual 172, 3, 63), (63, .goto (-59), 3, 66), (66, .return_, 1, 67)]
set_option maxRecDepth 20000 in
theorem D_Model_product {i pc n npc : Nat} {ins : Instr} (h : K_Model_product[i]? = some (pc, ins, n, npc)) : zD prog_11_method_27_code pc ins n npc := zDall (by decide +kernel) h
def K_Model_sum : List (Nat × Instr × Nat × Nat) := [(0, .aload_n 0, 1, 1), (1, .invokevirtual 192, 3, 4), (4, .aload_n 0, 1, 5), (5, .getfield 156, 3, 8), (8, .ifCond .ge 49, 3, 11), (11, .aload_n 0, 1, 12), (12, .invokevirtual 168, 3, 15), (15, .bipush 43, 2, 17), (17, .if_icmp .eq 12, 3, 20), (20, .aload_n 0, 1, 21), (21, .invokevirtual 168, 3, 24), (24, .bipush 45, 2, 26), (26, .if_icmp .ne 31, 3, 29), (29, .aload_n 0, 1, 30), (30, .invokevirtual 168, 3, 33), (33, .istore_n 1, 1, 34), (34, .aload_n 0, 1, 35), (35, .dup, 1, 36), (36, .getfield 153, 3, 39), (39, .iconst 1, 1, 40), (40, .iadd, 1, 41), (41, .putfield 153, 3, 44), (44, .aload_n 0, 1, 45), (45, .invokevirtual 192, 3, 48), (48, .aload_n 0, 1, 49), (49, .iload_n 1, 1, 50), (50, .iconst 0, 1, 51), (51, .invokevirtual 172, 3, 54), (54, .goto (-50), 3, 57), (57, .return_, 1, 58)]
set_option maxRecDepth 20000 in
theorem D_Model_sum {i pc n npc : Nat} {ins : Instr} (h : K_Model_sum[i]? = some (pc, ins, n, npc)) : zD prog_11_method_28_code pc ins n npc := zDall (by decide +kernel) h
def K_Model_compared : List (Nat × Instr × Nat × Nat) := [(0, .aload_n 0, 1, 1), (1, .invokevirtual 195, 3, 4), (4, .aload_n 0, 1, 5), (5, .invokevirtual 168, 3, 8), (8, .istore_n 1, 1, 9), (9, .aload_n 0, 1, 10), (10, .getfield 156, 3, 13), (13, .ifCond .ge 21, 3, 16), (16, .iload_n 1, 1, 17), (17, .bipush 60, 2, 19), (19, .if_icmp .eq 16, 3, 22), (22, .iload_n 1, 1, 23), (23, .bipush 61, 2, 25), (25, .if_icmp .eq 10, 3, 28), (28, .iload_n 1, 1, 29), (29, .bipush 62, 2, 31), (31, .if_icmp .eq 4, 3, 34), (34, .return_, 1, 35), (35, .aload_n 0, 1, 36), (36, .dup, 1, 37), (37, .getfield 153, 3, 40), (40, .iconst 1, 1, 41), (41, .iadd, 1, 42), (42, .putfield 153, 3, 45), (45, .aload_n 0, 1, 46), (46, .invokevirtual 195, 3, 49), (49, .aload_n 0, 1, 50), (50, .iload_n 1, 1, 51), (51, .iconst 0, 1, 52), (52, .invokevirtual 172, 3, 55), (55, .return_, 1, 56)]
set_option maxRecDepth 20000 in
theorem D_Model_compared {i pc n npc : Nat} {ins : Instr} (h : K_Model_compared[i]? = some (pc, ins, n, npc)) : zD prog_11_method_29_code pc ins n npc := zDall (by decide +kernel) h
def K_Model_both : List (Nat × Instr × Nat × Nat) := [(0, .aload_n 0, 1, 1), (1, .invokevirtual 198, 3, 4), (4, .aload_n 0, 1, 5), (5, .getfield 156, 3, 8), (8, .ifCond .ge 36, 3, 11), (11, .aload_n 0, 1, 12), (12, .invokevirtual 168, 3, 15), (15, .bipush 38, 2, 17), (17, .if_icmp .ne 27, 3, 20), (20, .aload_n 0, 1, 21), (21, .dup, 1, 22), (22, .getfield 153, 3, 25), (25, .iconst 1, 1, 26), (26, .iadd, 1, 27), (27, .putfield 153, 3, 30), (30, .aload_n 0, 1, 31), (31, .invokevirtual 198, 3, 34), (34, .aload_n 0, 1, 35), (35, .bipush 38, 2, 37), (37, .iconst 0, 1, 38), (38, .invokevirtual 172, 3, 41), (41, .goto (-37), 3, 44), (44, .return_, 1, 45)]
set_option maxRecDepth 20000 in
theorem D_Model_both {i pc n npc : Nat} {ins : Instr} (h : K_Model_both[i]? = some (pc, ins, n, npc)) : zD prog_11_method_30_code pc ins n npc := zDall (by decide +kernel) h
def K_Model_either : List (Nat × Instr × Nat × Nat) := [(0, .aload_n 0, 1, 1), (1, .invokevirtual 201, 3, 4), (4, .aload_n 0, 1, 5), (5, .getfield 156, 3, 8), (8, .ifCond .ge 36, 3, 11), (11, .aload_n 0, 1, 12), (12, .invokevirtual 168, 3, 15), (15, .bipush 124, 2, 17), (17, .if_icmp .ne 27, 3, 20), (20, .aload_n 0, 1, 21), (21, .dup, 1, 22), (22, .getfield 153, 3, 25), (25, .iconst 1, 1, 26), (26, .iadd, 1, 27), (27, .putfield 153, 3, 30), (30, .aload_n 0, 1, 31), (31, .invokevirtual 201, 3, 34), (34, .aload_n 0, 1, 35), (35, .bipush 124, 2, 37), (37, .iconst 0, 1, 38), (38, .invokevirtual 172, 3, 41), (41, .goto (-37), 3, 44), (44, .return_, 1, 45)]
set_option maxRecDepth 20000 in
theorem D_Model_either {i pc n npc : Nat} {ins : Instr} (h : K_Model_either[i]? = some (pc, ins, n, npc)) : zD prog_11_method_31_code pc ins n npc := zDall (by decide +kernel) h
def K_Model_line : List (Nat × Instr × Nat × Nat) := [(0, .bipush 61, 2, 2), (2, .aload_n 0, 1, 3), (3, .getfield 41, 3, 6), (6, .iconst 1, 1, 7), (7, .iaload, 1, 8), (8, .iadd, 1, 9), (9, .istore_n 1, 1, 10), (10, .aload_n 0, 1, 11), (11, .getfield 44, 3, 14), (14, .iload_n 1, 1, 15), (15, .aload_n 0, 1, 16), (16, .getfield 159, 3, 19), (19, .i2s, 1, 20), (20, .sastore, 1, 21), (21, .aload_n 0, 1, 22), (22, .invokevirtual 186, 3, 25), (25, .aload_n 0, 1, 26), (26, .getfield 156, 3, 29), (29, .ifCond .ge 37, 3, 32), (32, .aload_n 0, 1, 33), (33, .invokevirtual 168, 3, 36), (36, .bipush 63, 2, 38), (38, .if_icmp .ne 28, 3, 41), (41, .aload_n 0, 1, 42), (42, .dup, 1, 43), (43, .getfield 153, 3, 46), (46, .iconst 1, 1, 47), (47, .iadd, 1, 48), (48, .putfield 153, 3, 51), (51, .aload_n 0, 1, 52), (52, .getfield 44, 3, 55), (55, .iload_n 1, 1, 56), (56, .aload_n 0, 1, 57), (57, .getfield 159, 3, 60), (60, .i2s, 1, 61), (61, .sastore, 1, 62), (62, .aload_n 0, 1, 63), (63, .invokevirtual 186, 3, 66), (66, .aload_n 0, 1, 67), (67, .getfield 48, 3, 70), (70, .iload_n 1, 1, 71), (71, .aload_n 0, 1, 72), (72, .getfield 159, 3, 75), (75, .i2s, 1, 76), (76, .sastore, 1, 77), (77, .aload_n 0, 1, 78), (78, .getfield 41, 3, 81), (81, .iconst 1, 1, 82), (82, .dup2, 1, 83), (83, .iaload, 1, 84), (84, .iconst 1, 1, 85), (85, .iadd, 1, 86), (86, .iastore, 1, 87), (87, .return_, 1, 88)]
set_option maxRecDepth 20000 in
theorem D_Model_line {i pc n npc : Nat} {ins : Instr} (h : K_Model_line[i]? = some (pc, ins, n, npc)) : zD prog_11_method_32_code pc ins n npc := zDall (by decide +kernel) h
def K_Model_readText : List (Nat × Instr × Nat × Nat) := [(0, .aload_n 0, 1, 1), (1, .iconst 0, 1, 2), (2, .putfield 153, 3, 5), (5, .aload_n 0, 1, 6), (6, .iconst (-1), 1, 7), (7, .putfield 156, 3, 10), (10, .aload_n 0, 1, 11), (11, .iconst 0, 1, 12), (12, .putfield 162, 3, 15), (15, .aload_n 0, 1, 16), (16, .iconst 0, 1, 17), (17, .putfield 159, 3, 20), (20, .aload_n 0, 1, 21), (21, .getfield 41, 3, 24), (24, .iconst 1, 1, 25), (25, .iconst 0, 1, 26), (26, .iastore, 1, 27), (27, .aload_n 0, 1, 28), (28, .invokevirtual 204, 3, 31), (31, .aload_n 0, 1, 32), (32, .getfield 156, 3, 35), (35, .ifCond .ge 29, 3, 38), (38, .aload_n 0, 1, 39), (39, .invokevirtual 168, 3, 42), (42, .bipush 59, 2, 44), (44, .if_icmp .ne 20, 3, 47), (47, .aload_n 0, 1, 48), (48, .dup, 1, 49), (49, .getfield 153, 3, 52), (52, .iconst 1, 1, 53), (53, .iadd, 1, 54), (54, .putfield 153, 3, 57), (57, .aload_n 0, 1, 58), (58, .invokevirtual 204, 3, 61), (61, .goto (-30), 3, 64), (64, .aload_n 0, 1, 65), (65, .getfield 156, 3, 68), (68, .ifCond .ge 18, 3, 71), (71, .aload_n 0, 1, 72), (72, .getfield 153, 3, 75), (75, .aload_n 0, 1, 76), (76, .getfield 150, 3, 79), (79, .if_icmp .ge 7, 3, 82), (82, .aload_n 0, 1, 83), (83, .invokevirtual 165, 3, 86), (86, .aload_n 0, 1, 87), (87, .iconst 0, 1, 88), (88, .putfield 150, 3, 91), (91, .aload_n 0, 1, 92), (92, .getfield 156, 3, 95), (95, .ifCond .lt 8, 3, 98), (98, .aload_n 0, 1, 99), (99, .getfield 156, 3, 102), (102, .ireturn, 1, 103), (103, .iconst 0, 1, 104), (104, .istore_n 2, 1, 105), (105, .iload_n 2, 1, 106), (106, .aload_n 0, 1, 107), (107, .getfield 159, 3, 110), (110, .if_icmp .ge 53, 3, 113), (113, .aload_n 0, 1, 114), (114, .getfield 35, 3, 117), (117, .sipush 130, 3, 120), (120, .iload_n 1, 1, 121), (121, .imul, 1, 122), (122, .iload_n 2, 1, 123), (123, .iadd, 1, 124), (124, .aload_n 0, 1, 125), (125, .getfield 35, 3, 128), (128, .sipush 130, 3, 131), (131, .iload_n 2, 1, 132), (132, .iadd, 1, 133), (133, .baload, 1, 134), (134, .bastore, 1, 135), (135, .aload_n 0, 1, 136), (136, .getfield 38, 3, 139), (139, .sipush 130, 3, 142), (142, .iload_n 1, 1, 143), (143, .imul, 1, 144), (144, .iload_n 2, 1, 145), (145, .iadd, 1, 146), (146, .aload_n 0, 1, 147), (147, .getfield 38, 3, 150), (150, .sipush 130, 3, 153), (153, .iload_n 2, 1, 154), (154, .iadd, 1, 155), (155, .iaload, 1, 156), (156, .iastore, 1, 157), (157, .iinc 2 1, 3, 160), (160, .goto (-55), 3, 163), (163, .aload_n 0, 1, 164), (164, .getfield 41, 3, 167), (167, .iload_n 1, 1, 168), (168, .aload_n 0, 1, 169), (169, .getfield 41, 3, 172), (172, .iconst 1, 1, 173), (173, .iaload, 1, 174), (174, .iastore, 1, 175), (175, .iconst 0, 1, 176), (176, .istore_n 2, 1, 177), (177, .iload_n 2, 1, 178), (178, .aload_n 0, 1, 179), (179, .getfield 41, 3, 182), (182, .iload_n 1, 1, 183), (183, .iaload, 1, 184), (184, .if_icmp .ge 49, 3, 187), (187, .aload_n 0, 1, 188), (188, .getfield 44, 3, 191), (191, .bipush 61, 2, 193), (193, .iload_n 1, 1, 194), (194, .imul, 1, 195), (195, .iload_n 2, 1, 196), (196, .iadd, 1, 197), (197, .aload_n 0, 1, 198), (198, .getfield 44, 3, 201), (201, .bipush 61, 2, 203), (203, .iload_n 2, 1, 204), (204, .iadd, 1, 205), (205, .saload, 1, 206), (206, .sastore, 1, 207), (207, .aload_n 0, 1, 208), (208, .getfield 48, 3, 211), (211, .bipush 61, 2, 213), (213, .iload_n 1, 1, 214), (214, .imul, 1, 215), (215, .iload_n 2, 1, 216), (216, .iadd, 1, 217), (217, .aload_n 0, 1, 218), (218, .getfield 48, 3, 221), (221, .bipush 61, 2, 223), (223, .iload_n 2, 1, 224), (224, .iadd, 1, 225), (225, .saload, 1, 226), (226, .sastore, 1, 227), (227, .iinc 2 1, 3, 230), (230, .goto (-53), 3, 233), (233, .iconst (-1), 1, 234), (234, .ireturn, 1, 235)]
set_option maxRecDepth 20000 in
theorem D_Model_readText {i pc n npc : Nat} {ins : Instr} (h : K_Model_readText[i]? = some (pc, ins, n, npc)) : zD prog_11_method_33_code pc ins n npc := zDall (by decide +kernel) h
def K_Model_twoOf : List (Nat × Instr × Nat × Nat) := [(0, .iload_n 0, 1, 1), (1, .tableswitch 217 37 62 #[153, 203, 217, 217, 217, 127, 119, 217, 123, 217, 131, 217, 217, 217, 217, 217, 217, 217, 217, 217, 217, 217, 217, 170, 181, 192], 119, 120), (120, .iload_n 1, 1, 121), (121, .iload_n 2, 1, 122), (122, .iadd, 1, 123), (123, .ireturn, 1, 124), (124, .iload_n 1, 1, 125), (125, .iload_n 2, 1, 126), (126, .isub, 1, 127), (127, .ireturn, 1, 128), (128, .iload_n 1, 1, 129), (129, .iload_n 2, 1, 130), (130, .imul, 1, 131), (131, .ireturn, 1, 132), (132, .iload_n 2, 1, 133), (133, .ifCond .ne 7, 3, 136), (136, .iconst 0, 1, 137), (137, .goto 16, 3, 140), (140, .iload_n 2, 1, 141), (141, .iconst (-1), 1, 142), (142, .if_icmp .ne 8, 3, 145), (145, .iload_n 1, 1, 146), (146, .ineg, 1, 147), (147, .goto 6, 3, 150), (150, .iload_n 1, 1, 151), (151, .iload_n 2, 1, 152), (152, .idiv, 1, 153), (153, .ireturn, 1, 154), (154, .iload_n 2, 1, 155), (155, .ifCond .eq 8, 3, 158), (158, .iload_n 2, 1, 159), (159, .iconst (-1), 1, 160), (160, .if_icmp .ne 7, 3, 163), (163, .iconst 0, 1, 164), (164, .goto 6, 3, 167), (167, .iload_n 1, 1, 168), (168, .iload_n 2, 1, 169), (169, .irem, 1, 170), (170, .ireturn, 1, 171), (171, .iload_n 1, 1, 172), (172, .iload_n 2, 1, 173), (173, .if_icmp .ge 7, 3, 176), (176, .iconst 1, 1, 177), (177, .goto 4, 3, 180), (180, .iconst 0, 1, 181), (181, .ireturn, 1, 182), (182, .iload_n 1, 1, 183), (183, .iload_n 2, 1, 184), (184, .if_icmp .ne 7, 3, 187), (187, .iconst 1, 1, 188), (188, .goto 4, 3, 191), (191, .iconst 0, 1, 192), (192, .ireturn, 1, 193), (193, .iload_n 1, 1, 194), (194, .iload_n 2, 1, 195), (195, .if_icmp .le 7, 3, 198), (198, .iconst 1, 1, 199), (199, .goto 4, 3, 202), (202, .iconst 0, 1, 203), (203, .ireturn, 1, 204), (204, .iload_n 1, 1, 205), (205, .ifCond .eq 11, 3, 208), (208, .iload_n 2, 1, 209), (209, .ifCond .eq 7, 3, 212), (212, .iconst 1, 1, 213), (213, .goto 4, 3, 216), (216, .iconst 0, 1, 217), (217, .ireturn, 1, 218), (218, .iload_n 1, 1, 219), (219, .ifCond .ne 7, 3, 222), (222, .iload_n 2, 1, 223), (223, .ifCond .eq 7, 3, 226), (226, .iconst 1, 1, 227), (227, .goto 4, 3, 230), (230, .iconst 0, 1, 231), (231, .ireturn, 1, 232)]
set_option maxRecDepth 20000 in
theorem D_Model_twoOf {i pc n npc : Nat} {ins : Instr} (h : K_Model_twoOf[i]? = some (pc, ins, n, npc)) : zD prog_11_method_34_code pc ins n npc := zDall (by decide +kernel) h
def K_Model_worked : List (Nat × Instr × Nat × Nat) := [(0, .iconst 0, 1, 1), (1, .istore 4, 2, 3), (3, .sipush 130, 3, 6), (6, .iload_n 1, 1, 7), (7, .imul, 1, 8), (8, .iload_n 2, 1, 9), (9, .iadd, 1, 10), (10, .istore 5, 2, 12), (12, .iload 5, 2, 14), (14, .sipush 130, 3, 17), (17, .iload_n 1, 1, 18), (18, .imul, 1, 19), (19, .iload_n 3, 1, 20), (20, .iadd, 1, 21), (21, .if_icmp .ge 167, 3, 24), (24, .aload_n 0, 1, 25), (25, .getfield 35, 3, 28), (28, .iload 5, 2, 30), (30, .baload, 1, 31), (31, .istore 6, 2, 33), (33, .iload 6, 2, 35), (35, .iconst 1, 1, 36), (36, .if_icmp .eq 9, 3, 39), (39, .iload 6, 2, 41), (41, .iconst 2, 1, 42), (42, .if_icmp .ne 44, 3, 45), (45, .aload_n 0, 1, 46), (46, .getfield 54, 3, 49), (49, .iload 4, 2, 51), (51, .iload 6, 2, 53), (53, .iconst 1, 1, 54), (54, .if_icmp .ne 13, 3, 57), (57, .aload_n 0, 1, 58), (58, .getfield 38, 3, 61), (61, .iload 5, 2, 63), (63, .iaload, 1, 64), (64, .goto 15, 3, 67), (67, .aload_n 0, 1, 68), (68, .getfield 51, 3, 71), (71, .aload_n 0, 1, 72), (72, .getfield 38, 3, 75), (75, .iload 5, 2, 77), (77, .iaload, 1, 78), (78, .iaload, 1, 79), (79, .iastore, 1, 80), (80, .iinc 4 1, 3, 83), (83, .goto 99, 3, 86), (86, .iload 6, 2, 88), (88, .iconst 3, 1, 89), (89, .if_icmp .ne 32, 3, 92), (92, .aload_n 0, 1, 93), (93, .getfield 54, 3, 96), (96, .iload 4, 2, 98), (98, .iconst 1, 1, 99), (99, .isub, 1, 100), (100, .aload_n 0, 1, 101), (101, .getfield 54, 3, 104), (104, .iload 4, 2, 106), (106, .iconst 1, 1, 107), (107, .isub, 1, 108), (108, .iaload, 1, 109), (109, .ifCond .ne 7, 3, 112), (112, .iconst 1, 1, 113), (113, .goto 4, 3, 116), (116, .iconst 0, 1, 117), (117, .iastore, 1, 118), (118, .goto 64, 3, 121), (121, .iload 6, 2, 123), (123, .iconst 4, 1, 124), (124, .if_icmp .ne 25, 3, 127), (127, .aload_n 0, 1, 128), (128, .getfield 54, 3, 131), (131, .iload 4, 2, 133), (133, .iconst 1, 1, 134), (134, .isub, 1, 135), (135, .aload_n 0, 1, 136), (136, .getfield 54, 3, 139), (139, .iload 4, 2, 141), (141, .iconst 1, 1, 142), (142, .isub, 1, 143), (143, .iaload, 1, 144), (144, .ineg, 1, 145), (145, .iastore, 1, 146), (146, .goto 36, 3, 149), (149, .iinc 4 (-1), 3, 152), (152, .aload_n 0, 1, 153), (153, .getfield 54, 3, 156), (156, .iload 4, 2, 158), (158, .iconst 1, 1, 159), (159, .isub, 1, 160), (160, .iload 6, 2, 162), (162, .aload_n 0, 1, 163), (163, .getfield 54, 3, 166), (166, .iload 4, 2, 168), (168, .iconst 1, 1, 169), (169, .isub, 1, 170), (170, .iaload, 1, 171), (171, .aload_n 0, 1, 172), (172, .getfield 54, 3, 175), (175, .iload 4, 2, 177), (177, .iaload, 1, 178), (178, .invokestatic 207, 3, 181), (181, .iastore, 1, 182), (182, .iinc 5 1, 3, 185), (185, .goto (-173), 3, 188), (188, .aload_n 0, 1, 189), (189, .getfield 54, 3, 192), (192, .iconst 0, 1, 193), (193, .iaload, 1, 194), (194, .ireturn, 1, 195)]
set_option maxRecDepth 20000 in
theorem D_Model_worked {i pc n npc : Nat} {ins : Instr} (h : K_Model_worked[i]? = some (pc, ins, n, npc)) : zD prog_11_method_35_code pc ins n npc := zDall (by decide +kernel) h
def K_Model_gives : List (Nat × Instr × Nat × Nat) := [(0, .iconst 0, 1, 1), (1, .istore_n 2, 1, 2), (2, .bipush 61, 2, 4), (4, .iload_n 1, 1, 5), (5, .imul, 1, 6), (6, .istore_n 3, 1, 7), (7, .iload_n 3, 1, 8), (8, .bipush 61, 2, 10), (10, .iload_n 1, 1, 11), (11, .imul, 1, 12), (12, .aload_n 0, 1, 13), (13, .getfield 41, 3, 16), (16, .iload_n 1, 1, 17), (17, .iaload, 1, 18), (18, .iadd, 1, 19), (19, .if_icmp .ge 59, 3, 22), (22, .aload_n 0, 1, 23), (23, .getfield 44, 3, 26), (26, .iload_n 3, 1, 27), (27, .saload, 1, 28), (28, .iload_n 2, 1, 29), (29, .if_icmp .eq 18, 3, 32), (32, .aload_n 0, 1, 33), (33, .iload_n 1, 1, 34), (34, .iload_n 2, 1, 35), (35, .aload_n 0, 1, 36), (36, .getfield 44, 3, 39), (39, .iload_n 3, 1, 40), (40, .saload, 1, 41), (41, .invokevirtual 210, 3, 44), (44, .ifCond .eq 21, 3, 47), (47, .aload_n 0, 1, 48), (48, .iload_n 1, 1, 49), (49, .aload_n 0, 1, 50), (50, .getfield 44, 3, 53), (53, .iload_n 3, 1, 54), (54, .saload, 1, 55), (55, .aload_n 0, 1, 56), (56, .getfield 48, 3, 59), (59, .iload_n 3, 1, 60), (60, .saload, 1, 61), (61, .invokevirtual 210, 3, 64), (64, .ireturn, 1, 65), (65, .aload_n 0, 1, 66), (66, .getfield 48, 3, 69), (69, .iload_n 3, 1, 70), (70, .saload, 1, 71), (71, .istore_n 2, 1, 72), (72, .iinc 3 1, 3, 75), (75, .goto (-68), 3, 78), (78, .iconst 0, 1, 79), (79, .ireturn, 1, 80)]
set_option maxRecDepth 20000 in
theorem D_Model_gives {i pc n npc : Nat} {ins : Instr} (h : K_Model_gives[i]? = some (pc, ins, n, npc)) : zD prog_11_method_36_code pc ins n npc := zDall (by decide +kernel) h
def K_Model_law : List (Nat × Instr × Nat × Nat) := [(0, .aload_n 0, 1, 1), (1, .iconst 0, 1, 2), (2, .invokevirtual 213, 3, 5), (5, .istore_n 1, 1, 6), (6, .iload_n 1, 1, 7), (7, .ifCond .lt 8, 3, 10), (10, .bipush (-100), 2, 12), (12, .iload_n 1, 1, 13), (13, .isub, 1, 14), (14, .ireturn, 1, 15), (15, .aload_n 0, 1, 16), (16, .iconst 1, 1, 17), (17, .putfield 216, 3, 20), (20, .iconst 1, 1, 21), (21, .ireturn, 1, 22)]
set_option maxRecDepth 20000 in
theorem D_Model_law {i pc n npc : Nat} {ins : Instr} (h : K_Model_law[i]? = some (pc, ins, n, npc)) : zD prog_11_method_37_code pc ins n npc := zDall (by decide +kernel) h
def K_Model_turn : List (Nat × Instr × Nat × Nat) := [(0, .aload_n 0, 1, 1), (1, .iload_n 1, 1, 2), (2, .invokevirtual 106, 3, 5), (5, .ifCond .eq 13, 3, 8), (8, .iload_n 2, 1, 9), (9, .iconst 0, 1, 10), (10, .bipush 23, 2, 12), (12, .invokestatic 102, 3, 15), (15, .ifCond .ne 5, 3, 18), (18, .iconst (-1), 1, 19), (19, .ireturn, 1, 20), (20, .aload_n 0, 1, 21), (21, .getfield 13, 3, 24), (24, .iload_n 1, 1, 25), (25, .iaload, 1, 26), (26, .istore_n 3, 1, 27), (27, .aload_n 0, 1, 28), (28, .getfield 13, 3, 31), (31, .iload_n 1, 1, 32), (32, .iload_n 2, 1, 33), (33, .iastore, 1, 34), (34, .iload_n 3, 1, 35), (35, .ireturn, 1, 36)]
set_option maxRecDepth 20000 in
theorem D_Model_turn {i pc n npc : Nat} {ins : Instr} (h : K_Model_turn[i]? = some (pc, ins, n, npc)) : zD prog_11_method_38_code pc ins n npc := zDall (by decide +kernel) h
def K_Model_opposite : List (Nat × Instr × Nat × Nat) := [(0, .iload_n 0, 1, 1), (1, .iconst 4, 1, 2), (2, .if_icmp .ge 11, 3, 5), (5, .iload_n 0, 1, 6), (6, .iconst 2, 1, 7), (7, .iadd, 1, 8), (8, .iconst 4, 1, 9), (9, .irem, 1, 10), (10, .goto 7, 3, 13), (13, .bipush 9, 2, 15), (15, .iload_n 0, 1, 16), (16, .isub, 1, 17), (17, .ireturn, 1, 18)]
set_option maxRecDepth 20000 in
theorem D_Model_opposite {i pc n npc : Nat} {ins : Instr} (h : K_Model_opposite[i]? = some (pc, ins, n, npc)) : zD prog_11_method_39_code pc ins n npc := zDall (by decide +kernel) h
def K_Model_showsOf : List (Nat × Instr × Nat × Nat) := [(0, .iload_n 2, 1, 1), (1, .iconst 4, 1, 2), (2, .idiv, 1, 3), (3, .istore 4, 2, 5), (5, .iload_n 3, 1, 6), (6, .iconst 4, 1, 7), (7, .if_icmp .ne 8, 3, 10), (10, .iload 4, 2, 12), (12, .goto 33, 3, 15), (15, .iload_n 3, 1, 16), (16, .iconst 5, 1, 17), (17, .if_icmp .ne 11, 3, 20), (20, .iload 4, 2, 22), (22, .invokestatic 220, 3, 25), (25, .goto 20, 3, 28), (28, .aload_n 0, 1, 29), (29, .getfield 16, 3, 32), (32, .iconst 4, 1, 33), (33, .iload 4, 2, 35), (35, .imul, 1, 36), (36, .iload_n 2, 1, 37), (37, .iconst 4, 1, 38), (38, .irem, 1, 39), (39, .iload_n 3, 1, 40), (40, .iadd, 1, 41), (41, .iconst 4, 1, 42), (42, .irem, 1, 43), (43, .iadd, 1, 44), (44, .iaload, 1, 45), (45, .istore 5, 2, 47), (47, .aload_n 0, 1, 48), (48, .getfield 7, 3, 51), (51, .bipush 6, 2, 53), (53, .iload_n 1, 1, 54), (54, .imul, 1, 55), (55, .iload 5, 2, 57), (57, .iadd, 1, 58), (58, .iaload, 1, 59), (59, .ireturn, 1, 60)]
set_option maxRecDepth 20000 in
theorem D_Model_showsOf {i pc n npc : Nat} {ins : Instr} (h : K_Model_showsOf[i]? = some (pc, ins, n, npc)) : zD prog_11_method_40_code pc ins n npc := zDall (by decide +kernel) h
def K_Model_shows : List (Nat × Instr × Nat × Nat) := [(0, .aload_n 0, 1, 1), (1, .iload_n 1, 1, 2), (2, .invokevirtual 106, 3, 5), (5, .ifCond .eq 32, 3, 8), (8, .iload_n 2, 1, 9), (9, .iconst 0, 1, 10), (10, .bipush 23, 2, 12), (12, .invokestatic 102, 3, 15), (15, .ifCond .eq 22, 3, 18), (18, .iload_n 3, 1, 19), (19, .iconst 0, 1, 20), (20, .iconst 5, 1, 21), (21, .invokestatic 102, 3, 24), (24, .ifCond .eq 13, 3, 27), (27, .aload_n 0, 1, 28), (28, .iload_n 1, 1, 29), (29, .iload_n 2, 1, 30), (30, .iload_n 3, 1, 31), (31, .invokevirtual 223, 3, 34), (34, .goto 4, 3, 37), (37, .iconst (-1), 1, 38), (38, .ireturn, 1, 39)]
set_option maxRecDepth 20000 in
theorem D_Model_shows {i pc n npc : Nat} {ins : Instr} (h : K_Model_shows[i]? = some (pc, ins, n, npc)) : zD prog_11_method_41_code pc ins n npc := zDall (by decide +kernel) h
def K_Model_mayAt : List (Nat × Instr × Nat × Nat) := [(0, .bipush 36, 2, 2), (2, .bipush 16, 2, 4), (4, .iload_n 0, 1, 5), (5, .imul, 1, 6), (6, .iconst 4, 1, 7), (7, .iload_n 1, 1, 8), (8, .imul, 1, 9), (9, .iadd, 1, 10), (10, .iload_n 2, 1, 11), (11, .iadd, 1, 12), (12, .imul, 1, 13), (13, .bipush 6, 2, 15), (15, .iload_n 3, 1, 16), (16, .imul, 1, 17), (17, .iadd, 1, 18), (18, .iload 4, 2, 20), (20, .iadd, 1, 21), (21, .ireturn, 1, 22)]
set_option maxRecDepth 20000 in
theorem D_Model_mayAt {i pc n npc : Nat} {ins : Instr} (h : K_Model_mayAt[i]? = some (pc, ins, n, npc)) : zD prog_11_method_42_code pc ins n npc := zDall (by decide +kernel) h
def K_Model_findMay : List (Nat × Instr × Nat × Nat) := [(0, .iconst 0, 1, 1), (1, .istore_n 1, 1, 2), (2, .iload_n 1, 1, 3), (3, .iconst 4, 1, 4), (4, .if_icmp .ge 95, 3, 7), (7, .iconst 0, 1, 8), (8, .istore_n 2, 1, 9), (9, .iload_n 2, 1, 10), (10, .iconst 4, 1, 11), (11, .if_icmp .ge 82, 3, 14), (14, .iload_n 2, 1, 15), (15, .iconst 1, 1, 16), (16, .iadd, 1, 17), (17, .istore_n 3, 1, 18), (18, .iload_n 3, 1, 19), (19, .iconst 4, 1, 20), (20, .if_icmp .ge 67, 3, 23), (23, .iconst 0, 1, 24), (24, .istore 4, 2, 26), (26, .iload 4, 2, 28), (28, .bipush 6, 2, 30), (30, .if_icmp .ge 51, 3, 33), (33, .iconst 0, 1, 34), (34, .istore 5, 2, 36), (36, .iload 5, 2, 38), (38, .bipush 6, 2, 40), (40, .if_icmp .ge 35, 3, 43), (43, .aload_n 0, 1, 44), (44, .getfield 57, 3, 47), (47, .iload_n 1, 1, 48), (48, .iload_n 2, 1, 49), (49, .iload_n 3, 1, 50), (50, .iload 4, 2, 52), (52, .iload 5, 2, 54), (54, .invokestatic 226, 3, 57), (57, .aload_n 0, 1, 58), (58, .iload_n 1, 1, 59), (59, .iload_n 2, 1, 60), (60, .iload_n 3, 1, 61), (61, .iload 4, 2, 63), (63, .iload 5, 2, 65), (65, .invokevirtual 230, 3, 68), (68, .bastore, 1, 69), (69, .iinc 5 1, 3, 72), (72, .goto (-36), 3, 75), (75, .iinc 4 1, 3, 78), (78, .goto (-52), 3, 81), (81, .iinc 3 1, 3, 84), (84, .goto (-66), 3, 87), (87, .iinc 2 1, 3, 90), (90, .goto (-81), 3, 93), (93, .iinc 1 1, 3, 96), (96, .goto (-94), 3, 99), (99, .return_, 1, 100)]
set_option maxRecDepth 20000 in
theorem D_Model_findMay {i pc n npc : Nat} {ins : Instr} (h : K_Model_findMay[i]? = some (pc, ins, n, npc)) : zD prog_11_method_43_code pc ins n npc := zDall (by decide +kernel) h
def K_Model_asks : List (Nat × Instr × Nat × Nat) := [(0, .aload_n 0, 1, 1), (1, .getfield 216, 3, 4), (4, .ifCond .ne 16, 3, 7), (7, .iload 4, 2, 9), (9, .iload 5, 2, 11), (11, .if_icmp .eq 7, 3, 14), (14, .iconst 1, 1, 15), (15, .goto 4, 3, 18), (18, .iconst 0, 1, 19), (19, .ireturn, 1, 20), (20, .aload_n 0, 1, 21), (21, .getfield 51, 3, 24), (24, .iconst 0, 1, 25), (25, .iload 4, 2, 27), (27, .iastore, 1, 28), (28, .aload_n 0, 1, 29), (29, .getfield 51, 3, 32), (32, .iconst 1, 1, 33), (33, .iload 5, 2, 35), (35, .iastore, 1, 36), (36, .aload_n 0, 1, 37), (37, .getfield 51, 3, 40), (40, .iconst 2, 1, 41), (41, .iload_n 1, 1, 42), (42, .iastore, 1, 43), (43, .aload_n 0, 1, 44), (44, .getfield 51, 3, 47), (47, .iconst 3, 1, 48), (48, .iload_n 2, 1, 49), (49, .iastore, 1, 50), (50, .aload_n 0, 1, 51), (51, .getfield 51, 3, 54), (54, .iconst 4, 1, 55), (55, .iload_n 3, 1, 56), (56, .iastore, 1, 57), (57, .aload_n 0, 1, 58), (58, .iconst 0, 1, 59), (59, .invokevirtual 234, 3, 62), (62, .ifCond .eq 7, 3, 65), (65, .iconst 1, 1, 66), (66, .goto 4, 3, 69), (69, .iconst 0, 1, 70), (70, .ireturn, 1, 71)]
set_option maxRecDepth 20000 in
theorem D_Model_asks {i pc n npc : Nat} {ins : Instr} (h : K_Model_asks[i]? = some (pc, ins, n, npc)) : zD prog_11_method_44_code pc ins n npc := zDall (by decide +kernel) h
def K_Model_findTower : List (Nat × Instr × Nat × Nat) := [(0, .aload_n 0, 1, 1), (1, .iconst 0, 1, 2), (2, .putfield 237, 3, 5), (5, .iconst 0, 1, 6), (6, .istore_n 2, 1, 7), (7, .iload_n 2, 1, 8), (8, .aload_n 0, 1, 9), (9, .getfield 99, 3, 12), (12, .if_icmp .ge 40, 3, 15), (15, .iload_n 1, 1, 16), (16, .iload_n 2, 1, 17), (17, .ishr, 1, 18), (18, .iconst 1, 1, 19), (19, .iand, 1, 20), (20, .ifCond .ne 6, 3, 23), (23, .goto 23, 3, 26), (26, .aload_n 0, 1, 27), (27, .getfield 61, 3, 30), (30, .aload_n 0, 1, 31), (31, .getfield 237, 3, 34), (34, .iload_n 2, 1, 35), (35, .iastore, 1, 36), (36, .aload_n 0, 1, 37), (37, .dup, 1, 38), (38, .getfield 237, 3, 41), (41, .iconst 1, 1, 42), (42, .iadd, 1, 43), (43, .putfield 237, 3, 46), (46, .iinc 2 1, 3, 49), (49, .goto (-42), 3, 52), (52, .return_, 1, 53)]
set_option maxRecDepth 20000 in
theorem D_Model_findTower {i pc n npc : Nat} {ins : Instr} (h : K_Model_findTower[i]? = some (pc, ins, n, npc)) : zD prog_11_method_45_code pc ins n npc := zDall (by decide +kernel) h
def K_Model_mayBe : List (Nat × Instr × Nat × Nat) := [(0, .aload_n 0, 1, 1), (1, .aload_n 0, 1, 2), (2, .getfield 61, 3, 5), (5, .iload_n 2, 1, 6), (6, .iaload, 1, 7), (7, .iload_n 3, 1, 8), (8, .iload_n 1, 1, 9), (9, .invokevirtual 223, 3, 12), (12, .istore 6, 2, 14), (14, .aload_n 0, 1, 15), (15, .aload_n 0, 1, 16), (16, .getfield 61, 3, 19), (19, .iload 4, 2, 21), (21, .iaload, 1, 22), (22, .iload 5, 2, 24), (24, .iload_n 1, 1, 25), (25, .invokevirtual 223, 3, 28), (28, .istore 7, 2, 30), (30, .iload 6, 2, 32), (32, .bipush 6, 2, 34), (34, .if_icmp .eq 29, 3, 37), (37, .iload 7, 2, 39), (39, .bipush 6, 2, 41), (41, .if_icmp .eq 22, 3, 44), (44, .aload_n 0, 1, 45), (45, .getfield 57, 3, 48), (48, .iload_n 1, 1, 49), (49, .iload_n 2, 1, 50), (50, .iload 4, 2, 52), (52, .iload 6, 2, 54), (54, .iload 7, 2, 56), (56, .invokestatic 226, 3, 59), (59, .baload, 1, 60), (60, .ifCond .eq 7, 3, 63), (63, .iconst 1, 1, 64), (64, .goto 4, 3, 67), (67, .iconst 0, 1, 68), (68, .ireturn, 1, 69)]
set_option maxRecDepth 20000 in
theorem D_Model_mayBe {i pc n npc : Nat} {ins : Instr} (h : K_Model_mayBe[i]? = some (pc, ins, n, npc)) : zD prog_11_method_46_code pc ins n npc := zDall (by decide +kernel) h
def K_Model_judge : List (Nat × Instr × Nat × Nat) := [(0, .aload_n 0, 1, 1), (1, .invokevirtual 240, 3, 4), (4, .aload_n 0, 1, 5), (5, .aload_n 0, 1, 6), (6, .getfield 147, 3, 9), (9, .invokevirtual 243, 3, 12), (12, .iconst 0, 1, 13), (13, .istore_n 1, 1, 14), (14, .iload_n 1, 1, 15), (15, .iconst 4, 1, 16), (16, .if_icmp .ge 87, 3, 19), (19, .iconst 0, 1, 20), (20, .istore_n 2, 1, 21), (21, .iload_n 2, 1, 22), (22, .aload_n 0, 1, 23), (23, .getfield 237, 3, 26), (26, .if_icmp .ge 71, 3, 29), (29, .iload_n 2, 1, 30), (30, .iconst 1, 1, 31), (31, .iadd, 1, 32), (32, .istore_n 3, 1, 33), (33, .iload_n 3, 1, 34), (34, .aload_n 0, 1, 35), (35, .getfield 237, 3, 38), (38, .if_icmp .ge 53, 3, 41), (41, .aload_n 0, 1, 42), (42, .iload_n 1, 1, 43), (43, .iload_n 2, 1, 44), (44, .aload_n 0, 1, 45), (45, .getfield 13, 3, 48), (48, .aload_n 0, 1, 49), (49, .getfield 61, 3, 52), (52, .iload_n 2, 1, 53), (53, .iaload, 1, 54), (54, .iaload, 1, 55), (55, .iload_n 3, 1, 56), (56, .aload_n 0, 1, 57), (57, .getfield 13, 3, 60), (60, .aload_n 0, 1, 61), (61, .getfield 61, 3, 64), (64, .iload_n 3, 1, 65), (65, .iaload, 1, 66), (66, .iaload, 1, 67), (67, .invokevirtual 247, 3, 70), (70, .ifCond .ne 15, 3, 73), (73, .bipush 100, 2, 75), (75, .iload_n 1, 1, 76), (76, .imul, 1, 77), (77, .bipush 10, 2, 79), (79, .iload_n 2, 1, 80), (80, .imul, 1, 81), (81, .iadd, 1, 82), (82, .iload_n 3, 1, 83), (83, .iadd, 1, 84), (84, .ireturn, 1, 85), (85, .iinc 3 1, 3, 88), (88, .goto (-55), 3, 91), (91, .iinc 2 1, 3, 94), (94, .goto (-73), 3, 97), (97, .iinc 1 1, 3, 100), (100, .goto (-86), 3, 103), (103, .bipush (-2), 2, 105), (105, .ireturn, 1, 106)]
set_option maxRecDepth 20000 in
theorem D_Model_judge {i pc n npc : Nat} {ins : Instr} (h : K_Model_judge[i]? = some (pc, ins, n, npc)) : zD prog_11_method_47_code pc ins n npc := zDall (by decide +kernel) h
def K_Model_isHeld : List (Nat × Instr × Nat × Nat) := [(0, .aload_n 0, 1, 1), (1, .getfield 250, 3, 4), (4, .aload_n 0, 1, 5), (5, .getfield 61, 3, 8), (8, .iload_n 1, 1, 9), (9, .iaload, 1, 10), (10, .ishr, 1, 11), (11, .iconst 1, 1, 12), (12, .iand, 1, 13), (13, .iconst 1, 1, 14), (14, .if_icmp .ne 7, 3, 17), (17, .iconst 1, 1, 18), (18, .goto 4, 3, 21), (21, .iconst 0, 1, 22), (22, .ireturn, 1, 23)]
set_option maxRecDepth 20000 in
theorem D_Model_isHeld {i pc n npc : Nat} {ins : Instr} (h : K_Model_isHeld[i]? = some (pc, ins, n, npc)) : zD prog_11_method_48_code pc ins n npc := zDall (by decide +kernel) h
def K_Model_isTried : List (Nat × Instr × Nat × Nat) := [(0, .aload_n 0, 1, 1), (1, .iload_n 1, 1, 2), (2, .invokevirtual 253, 3, 5), (5, .ifCond .eq 26, 3, 8), (8, .iload_n 2, 1, 9), (9, .aload_n 0, 1, 10), (10, .getfield 13, 3, 13), (13, .aload_n 0, 1, 14), (14, .getfield 61, 3, 17), (17, .iload_n 1, 1, 18), (18, .iaload, 1, 19), (19, .iaload, 1, 20), (20, .if_icmp .ne 7, 3, 23), (23, .iconst 1, 1, 24), (24, .goto 22, 3, 27), (27, .iconst 0, 1, 28), (28, .goto 18, 3, 31), (31, .iload_n 1, 1, 32), (32, .ifCond .gt 9, 3, 35), (35, .iload_n 2, 1, 36), (36, .iconst 4, 1, 37), (37, .irem, 1, 38), (38, .ifCond .ne 7, 3, 41), (41, .iconst 1, 1, 42), (42, .goto 4, 3, 45), (45, .iconst 0, 1, 46), (46, .ireturn, 1, 47)]
set_option maxRecDepth 20000 in
theorem D_Model_isTried {i pc n npc : Nat} {ins : Instr} (h : K_Model_isTried[i]? = some (pc, ins, n, npc)) : zD prog_11_method_49_code pc ins n npc := zDall (by decide +kernel) h
def K_Model_wrongWith : List (Nat × Instr × Nat × Nat) := [(0, .iconst 0, 1, 1), (1, .istore_n 3, 1, 2), (2, .iconst 0, 1, 3), (3, .istore 4, 2, 5), (5, .iload 4, 2, 7), (7, .iload_n 1, 1, 8), (8, .if_icmp .ge 47, 3, 11), (11, .iconst 0, 1, 12), (12, .istore 5, 2, 14), (14, .iload 5, 2, 16), (16, .iconst 4, 1, 17), (17, .if_icmp .ge 32, 3, 20), (20, .aload_n 0, 1, 21), (21, .iload 5, 2, 23), (23, .iload 4, 2, 25), (25, .aload_n 0, 1, 26), (26, .getfield 64, 3, 29), (29, .iload 4, 2, 31), (31, .iaload, 1, 32), (32, .iload_n 1, 1, 33), (33, .iload_n 2, 1, 34), (34, .invokevirtual 247, 3, 37), (37, .ifCond .ne 6, 3, 40), (40, .iinc 3 1, 3, 43), (43, .iinc 5 1, 3, 46), (46, .goto (-32), 3, 49), (49, .iinc 4 1, 3, 52), (52, .goto (-47), 3, 55), (55, .iload_n 3, 1, 56), (56, .ireturn, 1, 57)]
set_option maxRecDepth 20000 in
theorem D_Model_wrongWith {i pc n npc : Nat} {ins : Instr} (h : K_Model_wrongWith[i]? = some (pc, ins, n, npc)) : zD prog_11_method_50_code pc ins n npc := zDall (by decide +kernel) h
def K_Model_goOn : List (Nat × Instr × Nat × Nat) := [(0, .iload_n 1, 1, 1), (1, .aload_n 0, 1, 2), (2, .getfield 237, 3, 5), (5, .if_icmp .ne 49, 3, 8), (8, .aload_n 0, 1, 9), (9, .getfield 256, 3, 12), (12, .ifCond .ne 31, 3, 15), (15, .iconst 0, 1, 16), (16, .istore_n 2, 1, 17), (17, .iload_n 2, 1, 18), (18, .aload_n 0, 1, 19), (19, .getfield 237, 3, 22), (22, .if_icmp .ge 21, 3, 25), (25, .aload_n 0, 1, 26), (26, .getfield 67, 3, 29), (29, .iload_n 2, 1, 30), (30, .aload_n 0, 1, 31), (31, .getfield 64, 3, 34), (34, .iload_n 2, 1, 35), (35, .iaload, 1, 36), (36, .iastore, 1, 37), (37, .iinc 2 1, 3, 40), (40, .goto (-23), 3, 43), (43, .aload_n 0, 1, 44), (44, .dup, 1, 45), (45, .getfield 256, 3, 48), (48, .iconst 1, 1, 49), (49, .iadd, 1, 50), (50, .putfield 256, 3, 53), (53, .return_, 1, 54), (54, .iconst 0, 1, 55), (55, .istore_n 2, 1, 56), (56, .iload_n 2, 1, 57), (57, .bipush 24, 2, 59), (59, .if_icmp .ge 59, 3, 62), (62, .aload_n 0, 1, 63), (63, .getfield 259, 3, 66), (66, .ifCond .eq 11, 3, 69), (69, .aload_n 0, 1, 70), (70, .getfield 256, 3, 73), (73, .ifCond .le 4, 3, 76), (76, .return_, 1, 77), (77, .aload_n 0, 1, 78), (78, .iload_n 1, 1, 79), (79, .iload_n 2, 1, 80), (80, .invokevirtual 262, 3, 83), (83, .ifCond .eq 29, 3, 86), (86, .aload_n 0, 1, 87), (87, .iload_n 1, 1, 88), (88, .iload_n 2, 1, 89), (89, .invokevirtual 266, 3, 92), (92, .ifCond .le 6, 3, 95), (95, .goto 17, 3, 98), (98, .aload_n 0, 1, 99), (99, .getfield 64, 3, 102), (102, .iload_n 1, 1, 103), (103, .iload_n 2, 1, 104), (104, .iastore, 1, 105), (105, .aload_n 0, 1, 106), (106, .iload_n 1, 1, 107), (107, .iconst 1, 1, 108), (108, .iadd, 1, 109), (109, .invokevirtual 269, 3, 112), (112, .iinc 2 1, 3, 115), (115, .goto (-59), 3, 118), (118, .return_, 1, 119)]
set_option maxRecDepth 20000 in
theorem D_Model_goOn {i pc n npc : Nat} {ins : Instr} (h : K_Model_goOn[i]? = some (pc, ins, n, npc)) : zD prog_11_method_51_code pc ins n npc := zDall (by decide +kernel) h
def K_Model_findWays : List (Nat × Instr × Nat × Nat) := [(0, .aload_n 0, 1, 1), (1, .iload_n 1, 1, 2), (2, .invokevirtual 243, 3, 5), (5, .aload_n 0, 1, 6), (6, .iload_n 2, 1, 7), (7, .putfield 250, 3, 10), (10, .aload_n 0, 1, 11), (11, .iload_n 3, 1, 12), (12, .putfield 259, 3, 15), (15, .aload_n 0, 1, 16), (16, .iconst 0, 1, 17), (17, .putfield 256, 3, 20), (20, .aload_n 0, 1, 21), (21, .iconst 0, 1, 22), (22, .invokevirtual 269, 3, 25), (25, .return_, 1, 26)]
set_option maxRecDepth 20000 in
theorem D_Model_findWays {i pc n npc : Nat} {ins : Instr} (h : K_Model_findWays[i]? = some (pc, ins, n, npc)) : zD prog_11_method_52_code pc ins n npc := zDall (by decide +kernel) h
def K_Model_hasWay : List (Nat × Instr × Nat × Nat) := [(0, .aload_n 0, 1, 1), (1, .iload_n 1, 1, 2), (2, .iconst 0, 1, 3), (3, .iconst 1, 1, 4), (4, .invokevirtual 272, 3, 7), (7, .aload_n 0, 1, 8), (8, .getfield 256, 3, 11), (11, .ifCond .le 7, 3, 14), (14, .iconst 1, 1, 15), (15, .goto 4, 3, 18), (18, .iconst 0, 1, 19), (19, .ireturn, 1, 20)]
set_option maxRecDepth 20000 in
theorem D_Model_hasWay {i pc n npc : Nat} {ins : Instr} (h : K_Model_hasWay[i]? = some (pc, ins, n, npc)) : zD prog_11_method_53_code pc ins n npc := zDall (by decide +kernel) h
def K_Model_isSet : List (Nat × Instr × Nat × Nat) := [(0, .iload_n 1, 1, 1), (1, .ifCond .lt 16, 3, 4), (4, .iload_n 1, 1, 5), (5, .aload_n 0, 1, 6), (6, .getfield 99, 3, 9), (9, .ishr, 1, 10), (10, .ifCond .ne 7, 3, 13), (13, .iconst 1, 1, 14), (14, .goto 4, 3, 17), (17, .iconst 0, 1, 18), (18, .ireturn, 1, 19)]
set_option maxRecDepth 20000 in
theorem D_Model_isSet {i pc n npc : Nat} {ins : Instr} (h : K_Model_isSet[i]? = some (pc, ins, n, npc)) : zD prog_11_method_54_code pc ins n npc := zDall (by decide +kernel) h
def K_Model_ways : List (Nat × Instr × Nat × Nat) := [(0, .aload_n 0, 1, 1), (1, .iload_n 1, 1, 2), (2, .invokevirtual 276, 3, 5), (5, .ifCond .eq 20, 3, 8), (8, .iload_n 2, 1, 9), (9, .iconst (-1), 1, 10), (10, .aload_n 0, 1, 11), (11, .getfield 147, 3, 14), (14, .invokestatic 143, 3, 17), (17, .iconst 1, 1, 18), (18, .isub, 1, 19), (19, .invokestatic 102, 3, 22), (22, .ifCond .ne 5, 3, 25), (25, .iconst (-1), 1, 26), (26, .ireturn, 1, 27), (27, .aload_n 0, 1, 28), (28, .invokevirtual 240, 3, 31), (31, .aload_n 0, 1, 32), (32, .aload_n 0, 1, 33), (33, .getfield 147, 3, 36), (36, .iload_n 1, 1, 37), (37, .iload_n 2, 1, 38), (38, .ifCond .lt 7, 3, 41), (41, .iconst 1, 1, 42), (42, .goto 4, 3, 45), (45, .iconst 0, 1, 46), (46, .invokevirtual 272, 3, 49), (49, .iload_n 2, 1, 50), (50, .ifCond .ge 8, 3, 53), (53, .aload_n 0, 1, 54), (54, .getfield 256, 3, 57), (57, .ireturn, 1, 58), (58, .aload_n 0, 1, 59), (59, .getfield 256, 3, 62), (62, .ifCond .ne 8, 3, 65), (65, .bipush (-2), 2, 67), (67, .goto 9, 3, 70), (70, .aload_n 0, 1, 71), (71, .getfield 67, 3, 74), (74, .iload_n 2, 1, 75), (75, .iaload, 1, 76), (76, .ireturn, 1, 77)]
set_option maxRecDepth 20000 in
theorem D_Model_ways {i pc n npc : Nat} {ins : Instr} (h : K_Model_ways[i]? = some (pc, ins, n, npc)) : zD prog_11_method_55_code pc ins n npc := zDall (by decide +kernel) h
def K_Model_findNear : List (Nat × Instr × Nat × Nat) := [(0, .iload_n 2, 1, 1), (1, .aload_n 0, 1, 2), (2, .getfield 279, 3, 5), (5, .if_icmp .lt 4, 3, 8), (8, .return_, 1, 9), (9, .iload_n 1, 1, 10), (10, .aload_n 0, 1, 11), (11, .getfield 237, 3, 14), (14, .if_icmp .ne 9, 3, 17), (17, .aload_n 0, 1, 18), (18, .iload_n 2, 1, 19), (19, .putfield 279, 3, 22), (22, .return_, 1, 23), (23, .iconst 0, 1, 24), (24, .istore_n 3, 1, 25), (25, .iload_n 3, 1, 26), (26, .bipush 24, 2, 28), (28, .if_icmp .ge 43, 3, 31), (31, .aload_n 0, 1, 32), (32, .iload_n 1, 1, 33), (33, .iload_n 3, 1, 34), (34, .invokevirtual 262, 3, 37), (37, .ifCond .ne 6, 3, 40), (40, .goto 25, 3, 43), (43, .aload_n 0, 1, 44), (44, .getfield 64, 3, 47), (47, .iload_n 1, 1, 48), (48, .iload_n 3, 1, 49), (49, .iastore, 1, 50), (50, .aload_n 0, 1, 51), (51, .iload_n 1, 1, 52), (52, .iconst 1, 1, 53), (53, .iadd, 1, 54), (54, .iload_n 2, 1, 55), (55, .aload_n 0, 1, 56), (56, .iload_n 1, 1, 57), (57, .iload_n 3, 1, 58), (58, .invokevirtual 266, 3, 61), (61, .iadd, 1, 62), (62, .invokevirtual 282, 3, 65), (65, .iinc 3 1, 3, 68), (68, .goto (-43), 3, 71), (71, .return_, 1, 72)]
set_option maxRecDepth 20000 in
theorem D_Model_findNear {i pc n npc : Nat} {ins : Instr} (h : K_Model_findNear[i]? = some (pc, ins, n, npc)) : zD prog_11_method_56_code pc ins n npc := zDall (by decide +kernel) h
def K_Model_near : List (Nat × Instr × Nat × Nat) := [(0, .aload_n 0, 1, 1), (1, .iload_n 1, 1, 2), (2, .invokevirtual 276, 3, 5), (5, .ifCond .ne 5, 3, 8), (8, .iconst (-1), 1, 9), (9, .ireturn, 1, 10), (10, .aload_n 0, 1, 11), (11, .invokevirtual 240, 3, 14), (14, .aload_n 0, 1, 15), (15, .aload_n 0, 1, 16), (16, .getfield 147, 3, 19), (19, .invokevirtual 243, 3, 22), (22, .aload_n 0, 1, 23), (23, .iload_n 1, 1, 24), (24, .putfield 250, 3, 27), (27, .aload_n 0, 1, 28), (28, .bipush 25, 2, 30), (30, .putfield 279, 3, 33), (33, .aload_n 0, 1, 34), (34, .iconst 0, 1, 35), (35, .iconst 0, 1, 36), (36, .invokevirtual 282, 3, 39), (39, .aload_n 0, 1, 40), (40, .getfield 279, 3, 43), (43, .ireturn, 1, 44)]
set_option maxRecDepth 20000 in
theorem D_Model_near {i pc n npc : Nat} {ins : Instr} (h : K_Model_near[i]? = some (pc, ins, n, npc)) : zD prog_11_method_57_code pc ins n npc := zDall (by decide +kernel) h
def K_Model_build : List (Nat × Instr × Nat × Nat) := [(0, .iload_n 1, 1, 1), (1, .iconst 0, 1, 2), (2, .bipush 23, 2, 4), (4, .invokestatic 102, 3, 7), (7, .ifCond .eq 12, 3, 10), (10, .iload_n 2, 1, 11), (11, .iconst 0, 1, 12), (12, .iconst 1, 1, 13), (13, .invokestatic 102, 3, 16), (16, .ifCond .ne 5, 3, 19), (19, .iconst (-1), 1, 20), (20, .ireturn, 1, 21), (21, .aload_n 0, 1, 22), (22, .getfield 147, 3, 25), (25, .ifCond .ne 6, 3, 28), (28, .bipush (-5), 2, 30), (30, .ireturn, 1, 31), (31, .aload_n 0, 1, 32), (32, .invokevirtual 240, 3, 35), (35, .aload_n 0, 1, 36), (36, .aload_n 0, 1, 37), (37, .getfield 147, 3, 40), (40, .invokevirtual 243, 3, 43), (43, .aload_n 0, 1, 44), (44, .getfield 64, 3, 47), (47, .iconst 0, 1, 48), (48, .iload_n 1, 1, 49), (49, .iastore, 1, 50), (50, .iconst 0, 1, 51), (51, .istore_n 3, 1, 52), (52, .bipush (-2), 2, 54), (54, .istore 4, 2, 56), (56, .iconst 1, 1, 57), (57, .istore 5, 2, 59), (59, .iload 5, 2, 61), (61, .aload_n 0, 1, 62), (62, .getfield 237, 3, 65), (65, .if_icmp .ge 69, 3, 68), (68, .iload 4, 2, 70), (70, .ifCond .ge 64, 3, 73), (73, .iload 5, 2, 75), (75, .istore 4, 2, 77), (77, .iconst 0, 1, 78), (78, .istore 6, 2, 80), (80, .iload 6, 2, 82), (82, .bipush 24, 2, 84), (84, .if_icmp .ge 44, 3, 87), (87, .iload 4, 2, 89), (89, .ifCond .lt 39, 3, 92), (92, .iinc 3 1, 3, 95), (95, .aload_n 0, 1, 96), (96, .iload 5, 2, 98), (98, .iload 6, 2, 100), (100, .invokevirtual 266, 3, 103), (103, .ifCond .le 6, 3, 106), (106, .goto 16, 3, 109), (109, .aload_n 0, 1, 110), (110, .getfield 64, 3, 113), (113, .iload 5, 2, 115), (115, .iload 6, 2, 117), (117, .iastore, 1, 118), (118, .bipush (-2), 2, 120), (120, .istore 4, 2, 122), (122, .iinc 6 1, 3, 125), (125, .goto (-45), 3, 128), (128, .iinc 5 1, 3, 131), (131, .goto (-72), 3, 134), (134, .iload_n 2, 1, 135), (135, .ifCond .ne 8, 3, 138), (138, .iload 4, 2, 140), (140, .goto 4, 3, 143), (143, .iload_n 3, 1, 144), (144, .ireturn, 1, 145)]
set_option maxRecDepth 20000 in
theorem D_Model_build {i pc n npc : Nat} {ins : Instr} (h : K_Model_build[i]? = some (pc, ins, n, npc)) : zD prog_11_method_58_code pc ins n npc := zDall (by decide +kernel) h
def K_Model_mend : List (Nat × Instr × Nat × Nat) := [(0, .iload_n 1, 1, 1), (1, .iconst 0, 1, 2), (2, .iconst 3, 1, 3), (3, .invokestatic 102, 3, 6), (6, .ifCond .ne 5, 3, 9), (9, .iconst (-1), 1, 10), (10, .ireturn, 1, 11), (11, .aload_n 0, 1, 12), (12, .invokevirtual 240, 3, 15), (15, .iconst 0, 1, 16), (16, .istore_n 2, 1, 17), (17, .iconst (-1), 1, 18), (18, .istore_n 3, 1, 19), (19, .iconst 0, 1, 20), (20, .istore 4, 2, 22), (22, .iload 4, 2, 24), (24, .bipush 6, 2, 26), (26, .aload_n 0, 1, 27), (27, .getfield 99, 3, 30), (30, .imul, 1, 31), (31, .if_icmp .ge 122, 3, 34), (34, .aload_n 0, 1, 35), (35, .getfield 147, 3, 38), (38, .iload 4, 2, 40), (40, .bipush 6, 2, 42), (42, .idiv, 1, 43), (43, .ishr, 1, 44), (44, .iconst 1, 1, 45), (45, .iand, 1, 46), (46, .ifCond .ne 6, 3, 49), (49, .goto 98, 3, 52), (52, .aload_n 0, 1, 53), (53, .getfield 7, 3, 56), (56, .iload 4, 2, 58), (58, .iaload, 1, 59), (59, .istore 5, 2, 61), (61, .iconst 0, 1, 62), (62, .istore 6, 2, 64), (64, .iload 6, 2, 66), (66, .bipush 6, 2, 68), (68, .if_icmp .ge 70, 3, 71), (71, .iload 6, 2, 73), (73, .iload 5, 2, 75), (75, .if_icmp .ne 6, 3, 78), (78, .goto 54, 3, 81), (81, .aload_n 0, 1, 82), (82, .getfield 7, 3, 85), (85, .iload 4, 2, 87), (87, .iload 6, 2, 89), (89, .iastore, 1, 90), (90, .aload_n 0, 1, 91), (91, .aload_n 0, 1, 92), (92, .getfield 147, 3, 95), (95, .invokevirtual 285, 3, 98), (98, .ifCond .ne 6, 3, 101), (101, .goto 31, 3, 104), (104, .iinc 2 1, 3, 107), (107, .iload_n 3, 1, 108), (108, .ifCond .ge 24, 3, 111), (111, .bipush 100, 2, 113), (113, .iload 4, 2, 115), (115, .bipush 6, 2, 117), (117, .idiv, 1, 118), (118, .imul, 1, 119), (119, .bipush 10, 2, 121), (121, .iload 4, 2, 123), (123, .bipush 6, 2, 125), (125, .irem, 1, 126), (126, .imul, 1, 127), (127, .iadd, 1, 128), (128, .iload 6, 2, 130), (130, .iadd, 1, 131), (131, .istore_n 3, 1, 132), (132, .iinc 6 1, 3, 135), (135, .goto (-71), 3, 138), (138, .aload_n 0, 1, 139), (139, .getfield 7, 3, 142), (142, .iload 4, 2, 144), (144, .iload 5, 2, 146), (146, .iastore, 1, 147), (147, .iinc 4 1, 3, 150), (150, .goto (-128), 3, 153), (153, .iload_n 1, 1, 154), (154, .ifCond .ne 5, 3, 157), (157, .iload_n 2, 1, 158), (158, .ireturn, 1, 159), (159, .iload_n 3, 1, 160), (160, .ifCond .ge 6, 3, 163), (163, .bipush (-2), 2, 165), (165, .ireturn, 1, 166), (166, .iload_n 1, 1, 167), (167, .iconst 1, 1, 168), (168, .if_icmp .ne 10, 3, 171), (171, .iload_n 3, 1, 172), (172, .bipush 100, 2, 174), (174, .idiv, 1, 175), (175, .goto 22, 3, 178), (178, .iload_n 1, 1, 179), (179, .iconst 2, 1, 180), (180, .if_icmp .ne 13, 3, 183), (183, .iload_n 3, 1, 184), (184, .bipush 10, 2, 186), (186, .idiv, 1, 187), (187, .bipush 10, 2, 189), (189, .irem, 1, 190), (190, .goto 7, 3, 193), (193, .iload_n 3, 1, 194), (194, .bipush 10, 2, 196), (196, .irem, 1, 197), (197, .ireturn, 1, 198)]
set_option maxRecDepth 20000 in
theorem D_Model_mend {i pc n npc : Nat} {ins : Instr} (h : K_Model_mend[i]? = some (pc, ins, n, npc)) : zD prog_11_method_59_code pc ins n npc := zDall (by decide +kernel) h
def K_Model_open : List (Nat × Instr × Nat × Nat) := [(0, .aload_n 0, 1, 1), (1, .iload_n 1, 1, 2), (2, .invokevirtual 133, 3, 5), (5, .ifCond .ne 5, 3, 8), (8, .iconst (-1), 1, 9), (9, .ireturn, 1, 10), (10, .bipush 6, 2, 12), (12, .iload_n 1, 1, 13), (13, .bipush 10, 2, 15), (15, .idiv, 1, 16), (16, .imul, 1, 17), (17, .iload_n 1, 1, 18), (18, .bipush 10, 2, 20), (20, .irem, 1, 21), (21, .iadd, 1, 22), (22, .istore_n 2, 1, 23), (23, .aload_n 0, 1, 24), (24, .getfield 7, 3, 27), (27, .iload_n 2, 1, 28), (28, .iaload, 1, 29), (29, .bipush 6, 2, 31), (31, .if_icmp .ne 17, 3, 34), (34, .aload_n 0, 1, 35), (35, .getfield 147, 3, 38), (38, .iload_n 1, 1, 39), (39, .bipush 10, 2, 41), (41, .idiv, 1, 42), (42, .ishr, 1, 43), (43, .iconst 1, 1, 44), (44, .iand, 1, 45), (45, .ifCond .ne 6, 3, 48), (48, .bipush (-5), 2, 50), (50, .ireturn, 1, 51), (51, .aload_n 0, 1, 52), (52, .invokevirtual 240, 3, 55), (55, .iconst 0, 1, 56), (56, .istore_n 3, 1, 57), (57, .iconst 0, 1, 58), (58, .istore 4, 2, 60), (60, .iload 4, 2, 62), (62, .bipush 6, 2, 64), (64, .if_icmp .ge 35, 3, 67), (67, .aload_n 0, 1, 68), (68, .getfield 7, 3, 71), (71, .iload_n 2, 1, 72), (72, .iload 4, 2, 74), (74, .iastore, 1, 75), (75, .aload_n 0, 1, 76), (76, .aload_n 0, 1, 77), (77, .getfield 147, 3, 80), (80, .invokevirtual 285, 3, 83), (83, .ifCond .eq 10, 3, 86), (86, .iload_n 3, 1, 87), (87, .iconst 1, 1, 88), (88, .iload 4, 2, 90), (90, .ishl, 1, 91), (91, .ior, 1, 92), (92, .istore_n 3, 1, 93), (93, .iinc 4 1, 3, 96), (96, .goto (-36), 3, 99), (99, .aload_n 0, 1, 100), (100, .getfield 7, 3, 103), (103, .iload_n 2, 1, 104), (104, .bipush 6, 2, 106), (106, .iastore, 1, 107), (107, .iload_n 3, 1, 108), (108, .ireturn, 1, 109)]
set_option maxRecDepth 20000 in
theorem D_Model_open {i pc n npc : Nat} {ins : Instr} (h : K_Model_open[i]? = some (pc, ins, n, npc)) : zD prog_11_method_60_code pc ins n npc := zDall (by decide +kernel) h
def K_Model_swap : List (Nat × Instr × Nat × Nat) := [(0, .iload_n 1, 1, 1), (1, .iconst 0, 1, 2), (2, .iconst 1, 1, 3), (3, .invokestatic 102, 3, 6), (6, .ifCond .ne 5, 3, 9), (9, .iconst (-1), 1, 10), (10, .ireturn, 1, 11), (11, .iconst 1, 1, 12), (12, .aload_n 0, 1, 13), (13, .getfield 99, 3, 16), (16, .ishl, 1, 17), (17, .iconst 1, 1, 18), (18, .isub, 1, 19), (19, .istore_n 2, 1, 20), (20, .aload_n 0, 1, 21), (21, .getfield 99, 3, 24), (24, .aload_n 0, 1, 25), (25, .getfield 147, 3, 28), (28, .invokestatic 143, 3, 31), (31, .isub, 1, 32), (32, .iconst 4, 1, 33), (33, .if_icmp .le 6, 3, 36), (36, .bipush (-5), 2, 38), (38, .ireturn, 1, 39), (39, .aload_n 0, 1, 40), (40, .invokevirtual 240, 3, 43), (43, .iconst 0, 1, 44), (44, .istore_n 3, 1, 45), (45, .iload_n 3, 1, 46), (46, .aload_n 0, 1, 47), (47, .getfield 99, 3, 50), (50, .if_icmp .ge 105, 3, 53), (53, .aload_n 0, 1, 54), (54, .getfield 147, 3, 57), (57, .iload_n 3, 1, 58), (58, .ishr, 1, 59), (59, .iconst 1, 1, 60), (60, .iand, 1, 61), (61, .ifCond .ne 6, 3, 64), (64, .goto 85, 3, 67), (67, .iconst 0, 1, 68), (68, .istore 4, 2, 70), (70, .iload 4, 2, 72), (72, .aload_n 0, 1, 73), (73, .getfield 99, 3, 76), (76, .if_icmp .ge 73, 3, 79), (79, .aload_n 0, 1, 80), (80, .getfield 147, 3, 83), (83, .iload 4, 2, 85), (85, .ishr, 1, 86), (86, .iconst 1, 1, 87), (87, .iand, 1, 88), (88, .iconst 1, 1, 89), (89, .if_icmp .ne 6, 3, 92), (92, .goto 51, 3, 95), (95, .aload_n 0, 1, 96), (96, .getfield 147, 3, 99), (99, .iconst 1, 1, 100), (100, .iload_n 3, 1, 101), (101, .ishl, 1, 102), (102, .iconst 1, 1, 103), (103, .iload 4, 2, 105), (105, .ishl, 1, 106), (106, .ior, 1, 107), (107, .ixor, 1, 108), (108, .istore 5, 2, 110), (110, .aload_n 0, 1, 111), (111, .iload 5, 2, 113), (113, .invokevirtual 285, 3, 116), (116, .ifCond .eq 27, 3, 119), (119, .aload_n 0, 1, 120), (120, .iload_n 2, 1, 121), (121, .iload 5, 2, 123), (123, .iconst (-1), 1, 124), (124, .ixor, 1, 125), (125, .iand, 1, 126), (126, .invokevirtual 285, 3, 129), (129, .ifCond .eq 14, 3, 132), (132, .iload_n 1, 1, 133), (133, .ifCond .ne 7, 3, 136), (136, .iload_n 3, 1, 137), (137, .goto 5, 3, 140), (140, .iload 4, 2, 142), (142, .ireturn, 1, 143), (143, .iinc 4 1, 3, 146), (146, .goto (-76), 3, 149), (149, .iinc 3 1, 3, 152), (152, .goto (-107), 3, 155), (155, .bipush (-2), 2, 157), (157, .ireturn, 1, 158)]
set_option maxRecDepth 20000 in
theorem D_Model_swap {i pc n npc : Nat} {ins : Instr} (h : K_Model_swap[i]? = some (pc, ins, n, npc)) : zD prog_11_method_61_code pc ins n npc := zDall (by decide +kernel) h
def K_Model_isRing : List (Nat × Instr × Nat × Nat) := [(0, .iconst 0, 1, 1), (1, .istore_n 2, 1, 2), (2, .iload_n 2, 1, 3), (3, .bipush 6, 2, 5), (5, .if_icmp .gt 16, 3, 8), (8, .aload_n 0, 1, 9), (9, .getfield 70, 3, 12), (12, .iload_n 2, 1, 13), (13, .iconst 0, 1, 14), (14, .iastore, 1, 15), (15, .iinc 2 1, 3, 18), (18, .goto (-16), 3, 21), (21, .iload_n 1, 1, 22), (22, .istore_n 2, 1, 23), (23, .iconst 0, 1, 24), (24, .istore_n 3, 1, 25), (25, .iload_n 3, 1, 26), (26, .aload_n 0, 1, 27), (27, .getfield 237, 3, 30), (30, .if_icmp .ge 56, 3, 33), (33, .aload_n 0, 1, 34), (34, .aload_n 0, 1, 35), (35, .getfield 61, 3, 38), (38, .iload_n 3, 1, 39), (39, .iaload, 1, 40), (40, .iload_n 2, 1, 41), (41, .iconst 3, 1, 42), (42, .irem, 1, 43), (43, .invokevirtual 140, 3, 46), (46, .istore 4, 2, 48), (48, .iload_n 2, 1, 49), (49, .iconst 3, 1, 50), (50, .idiv, 1, 51), (51, .istore_n 2, 1, 52), (52, .aload_n 0, 1, 53), (53, .getfield 70, 3, 56), (56, .iload 4, 2, 58), (58, .bipush 10, 2, 60), (60, .idiv, 1, 61), (61, .dup2, 1, 62), (62, .iaload, 1, 63), (63, .iconst 1, 1, 64), (64, .iadd, 1, 65), (65, .iastore, 1, 66), (66, .aload_n 0, 1, 67), (67, .getfield 70, 3, 70), (70, .iload 4, 2, 72), (72, .bipush 10, 2, 74), (74, .irem, 1, 75), (75, .dup2, 1, 76), (76, .iaload, 1, 77), (77, .iconst 1, 1, 78), (78, .iadd, 1, 79), (79, .iastore, 1, 80), (80, .iinc 3 1, 3, 83), (83, .goto (-58), 3, 86), (86, .iconst 0, 1, 87), (87, .istore_n 3, 1, 88), (88, .iload_n 3, 1, 89), (89, .aload_n 0, 1, 90), (90, .getfield 237, 3, 93), (93, .if_icmp .ge 21, 3, 96), (96, .aload_n 0, 1, 97), (97, .getfield 70, 3, 100), (100, .iload_n 3, 1, 101), (101, .iaload, 1, 102), (102, .iconst 2, 1, 103), (103, .if_icmp .eq 5, 3, 106), (106, .iconst 0, 1, 107), (107, .ireturn, 1, 108), (108, .iinc 3 1, 3, 111), (111, .goto (-23), 3, 114), (114, .iconst 1, 1, 115), (115, .ireturn, 1, 116)]
set_option maxRecDepth 20000 in
theorem D_Model_isRing {i pc n npc : Nat} {ins : Instr} (h : K_Model_isRing[i]? = some (pc, ins, n, npc)) : zD prog_11_method_62_code pc ins n npc := zDall (by decide +kernel) h
def K_Model_areParted : List (Nat × Instr × Nat × Nat) := [(0, .iload_n 1, 1, 1), (1, .istore_n 3, 1, 2), (2, .iload_n 2, 1, 3), (3, .istore 4, 2, 5), (5, .iconst 0, 1, 6), (6, .istore 5, 2, 8), (8, .iload 5, 2, 10), (10, .aload_n 0, 1, 11), (11, .getfield 237, 3, 14), (14, .if_icmp .ge 31, 3, 17), (17, .iload_n 3, 1, 18), (18, .iconst 3, 1, 19), (19, .irem, 1, 20), (20, .iload 4, 2, 22), (22, .iconst 3, 1, 23), (23, .irem, 1, 24), (24, .if_icmp .ne 5, 3, 27), (27, .iconst 0, 1, 28), (28, .ireturn, 1, 29), (29, .iload_n 3, 1, 30), (30, .iconst 3, 1, 31), (31, .idiv, 1, 32), (32, .istore_n 3, 1, 33), (33, .iload 4, 2, 35), (35, .iconst 3, 1, 36), (36, .idiv, 1, 37), (37, .istore 4, 2, 39), (39, .iinc 5 1, 3, 42), (42, .goto (-34), 3, 45), (45, .iconst 1, 1, 46), (46, .ireturn, 1, 47)]
set_option maxRecDepth 20000 in
theorem D_Model_areParted {i pc n npc : Nat} {ins : Instr} (h : K_Model_areParted[i]? = some (pc, ins, n, npc)) : zD prog_11_method_63_code pc ins n npc := zDall (by decide +kernel) h
def K_Model_rings : List (Nat × Instr × Nat × Nat) := [(0, .iload_n 1, 1, 1), (1, .iconst 0, 1, 2), (2, .iconst 1, 1, 3), (3, .invokestatic 102, 3, 6), (6, .ifCond .ne 5, 3, 9), (9, .iconst (-1), 1, 10), (10, .ireturn, 1, 11), (11, .aload_n 0, 1, 12), (12, .getfield 147, 3, 15), (15, .ifCond .ne 6, 3, 18), (18, .bipush (-5), 2, 20), (20, .ireturn, 1, 21), (21, .aload_n 0, 1, 22), (22, .aload_n 0, 1, 23), (23, .getfield 147, 3, 26), (26, .invokevirtual 243, 3, 29), (29, .iconst 1, 1, 30), (30, .istore_n 2, 1, 31), (31, .iconst 0, 1, 32), (32, .istore_n 3, 1, 33), (33, .iload_n 3, 1, 34), (34, .aload_n 0, 1, 35), (35, .getfield 237, 3, 38), (38, .if_icmp .ge 13, 3, 41), (41, .iload_n 2, 1, 42), (42, .iconst 3, 1, 43), (43, .imul, 1, 44), (44, .istore_n 2, 1, 45), (45, .iinc 3 1, 3, 48), (48, .goto (-15), 3, 51), (51, .iconst 0, 1, 52), (52, .istore_n 3, 1, 53), (53, .iconst 0, 1, 54), (54, .istore 4, 2, 56), (56, .iload 4, 2, 58), (58, .iload_n 2, 1, 59), (59, .if_icmp .ge 32, 3, 62), (62, .aload_n 0, 1, 63), (63, .iload 4, 2, 65), (65, .invokevirtual 288, 3, 68), (68, .ifCond .ne 6, 3, 71), (71, .goto 14, 3, 74), (74, .aload_n 0, 1, 75), (75, .getfield 73, 3, 78), (78, .iload_n 3, 1, 79), (79, .iload 4, 2, 81), (81, .iastore, 1, 82), (82, .iinc 3 1, 3, 85), (85, .iinc 4 1, 3, 88), (88, .goto (-32), 3, 91), (91, .iload_n 1, 1, 92), (92, .ifCond .ne 5, 3, 95), (95, .iload_n 3, 1, 96), (96, .ireturn, 1, 97), (97, .iconst 0, 1, 98), (98, .istore 4, 2, 100), (100, .iconst 0, 1, 101), (101, .istore 5, 2, 103), (103, .iload 5, 2, 105), (105, .iload_n 3, 1, 106), (106, .if_icmp .ge 51, 3, 109), (109, .iload 5, 2, 111), (111, .iconst 1, 1, 112), (112, .iadd, 1, 113), (113, .istore 6, 2, 115), (115, .iload 6, 2, 117), (117, .iload_n 3, 1, 118), (118, .if_icmp .ge 33, 3, 121), (121, .aload_n 0, 1, 122), (122, .aload_n 0, 1, 123), (123, .getfield 73, 3, 126), (126, .iload 5, 2, 128), (128, .iaload, 1, 129), (129, .aload_n 0, 1, 130), (130, .getfield 73, 3, 133), (133, .iload 6, 2, 135), (135, .iaload, 1, 136), (136, .invokevirtual 291, 3, 139), (139, .ifCond .eq 6, 3, 142), (142, .iinc 4 1, 3, 145), (145, .iinc 6 1, 3, 148), (148, .goto (-33), 3, 151), (151, .iinc 5 1, 3, 154), (154, .goto (-51), 3, 157), (157, .iload 4, 2, 159), (159, .ireturn, 1, 160)]
set_option maxRecDepth 20000 in
theorem D_Model_rings {i pc n npc : Nat} {ins : Instr} (h : K_Model_rings[i]? = some (pc, ins, n, npc)) : zD prog_11_method_64_code pc ins n npc := zDall (by decide +kernel) h
def K_Model_isAs : List (Nat × Instr × Nat × Nat) := [(0, .iconst 0, 1, 1), (1, .istore 5, 2, 3), (3, .iload 5, 2, 5), (5, .bipush 6, 2, 7), (7, .if_icmp .ge 62, 3, 10), (10, .iload 4, 2, 12), (12, .ifCond .eq 22, 3, 15), (15, .iload 5, 2, 17), (17, .iconst 1, 1, 18), (18, .if_icmp .eq 9, 3, 21), (21, .iload 5, 2, 23), (23, .iconst 3, 1, 24), (24, .if_icmp .ne 10, 3, 27), (27, .iconst 4, 1, 28), (28, .iload 5, 2, 30), (30, .isub, 1, 31), (31, .goto 5, 3, 34), (34, .iload 5, 2, 36), (36, .istore 6, 2, 38), (38, .aload_n 0, 1, 39), (39, .iload_n 1, 1, 40), (40, .iload_n 2, 1, 41), (41, .iload 6, 2, 43), (43, .invokevirtual 223, 3, 46), (46, .aload_n 0, 1, 47), (47, .getfield 7, 3, 50), (50, .bipush 6, 2, 52), (52, .iload_n 3, 1, 53), (53, .imul, 1, 54), (54, .iload 5, 2, 56), (56, .iadd, 1, 57), (57, .iaload, 1, 58), (58, .if_icmp .eq 5, 3, 61), (61, .iconst 0, 1, 62), (62, .ireturn, 1, 63), (63, .iinc 5 1, 3, 66), (66, .goto (-63), 3, 69), (69, .iconst 1, 1, 70), (70, .ireturn, 1, 71)]
set_option maxRecDepth 20000 in
theorem D_Model_isAs {i pc n npc : Nat} {ins : Instr} (h : K_Model_isAs[i]? = some (pc, ins, n, npc)) : zD prog_11_method_65_code pc ins n npc := zDall (by decide +kernel) h
def K_Model_areAlike : List (Nat × Instr × Nat × Nat) := [(0, .iconst 0, 1, 1), (1, .istore 4, 2, 3), (3, .iload 4, 2, 5), (5, .bipush 24, 2, 7), (7, .if_icmp .ge 23, 3, 10), (10, .aload_n 0, 1, 11), (11, .iload_n 1, 1, 12), (12, .iload 4, 2, 14), (14, .iload_n 2, 1, 15), (15, .iload_n 3, 1, 16), (16, .invokevirtual 294, 3, 19), (19, .ifCond .eq 5, 3, 22), (22, .iconst 1, 1, 23), (23, .ireturn, 1, 24), (24, .iinc 4 1, 3, 27), (27, .goto (-24), 3, 30), (30, .iconst 0, 1, 31), (31, .ireturn, 1, 32)]
set_option maxRecDepth 20000 in
theorem D_Model_areAlike {i pc n npc : Nat} {ins : Instr} (h : K_Model_areAlike[i]? = some (pc, ins, n, npc)) : zD prog_11_method_66_code pc ins n npc := zDall (by decide +kernel) h
def K_Model_alike : List (Nat × Instr × Nat × Nat) := [(0, .iload_n 1, 1, 1), (1, .ifCond .lt 25, 3, 4), (4, .aload_n 0, 1, 5), (5, .iload_n 1, 1, 6), (6, .bipush 10, 2, 8), (8, .idiv, 1, 9), (9, .invokevirtual 106, 3, 12), (12, .ifCond .eq 14, 3, 15), (15, .aload_n 0, 1, 16), (16, .iload_n 1, 1, 17), (17, .bipush 10, 2, 19), (19, .irem, 1, 20), (20, .invokevirtual 106, 3, 23), (23, .ifCond .ne 5, 3, 26), (26, .iconst (-1), 1, 27), (27, .ireturn, 1, 28), (28, .aload_n 0, 1, 29), (29, .iload_n 1, 1, 30), (30, .bipush 10, 2, 32), (32, .idiv, 1, 33), (33, .iload_n 1, 1, 34), (34, .bipush 10, 2, 36), (36, .irem, 1, 37), (37, .iconst 0, 1, 38), (38, .invokevirtual 298, 3, 41), (41, .ifCond .eq 7, 3, 44), (44, .iconst 1, 1, 45), (45, .goto 24, 3, 48), (48, .aload_n 0, 1, 49), (49, .iload_n 1, 1, 50), (50, .bipush 10, 2, 52), (52, .idiv, 1, 53), (53, .iload_n 1, 1, 54), (54, .bipush 10, 2, 56), (56, .irem, 1, 57), (57, .iconst 1, 1, 58), (58, .invokevirtual 298, 3, 61), (61, .ifCond .eq 7, 3, 64), (64, .iconst 2, 1, 65), (65, .goto 4, 3, 68), (68, .iconst 0, 1, 69), (69, .ireturn, 1, 70)]
set_option maxRecDepth 20000 in
theorem D_Model_alike {i pc n npc : Nat} {ins : Instr} (h : K_Model_alike[i]? = some (pc, ins, n, npc)) : zD prog_11_method_67_code pc ins n npc := zDall (by decide +kernel) h
def K_Model_many : List (Nat × Instr × Nat × Nat) := [(0, .iload_n 1, 1, 1), (1, .iconst 1, 1, 2), (2, .sipush 1000, 3, 5), (5, .invokestatic 102, 3, 8), (8, .ifCond .eq 12, 3, 11), (11, .iload_n 2, 1, 12), (12, .iconst 0, 1, 13), (13, .iconst 1, 1, 14), (14, .invokestatic 102, 3, 17), (17, .ifCond .ne 7, 3, 20), (20, .ldc2_w 302, 3, 23), (23, .lreturn, 1, 24), (24, .iload_n 1, 1, 25), (25, .i2l, 1, 26), (26, .iload_n 1, 1, 27), (27, .i2l, 1, 28), (28, .lmul, 1, 29), (29, .lstore_n 3, 1, 30), (30, .lload_n 3, 1, 31), (31, .iload_n 1, 1, 32), (32, .i2l, 1, 33), (33, .lmul, 1, 34), (34, .lstore 5, 2, 36), (36, .lload_n 3, 1, 37), (37, .lload_n 3, 1, 38), (38, .lmul, 1, 39), (39, .lstore 7, 2, 41), (41, .lload 5, 2, 43), (43, .lload 5, 2, 45), (45, .lmul, 1, 46), (46, .lstore 9, 2, 48), (48, .iload_n 2, 1, 49), (49, .ifCond .ne 30, 3, 52), (52, .lload 9, 2, 54), (54, .ldc2_w 304, 3, 57), (57, .lload 7, 2, 59), (59, .lmul, 1, 60), (60, .ladd, 1, 61), (61, .ldc2_w 306, 3, 64), (64, .lload 5, 2, 66), (66, .lmul, 1, 67), (67, .ladd, 1, 68), (68, .ldc2_w 308, 3, 71), (71, .lload_n 3, 1, 72), (72, .lmul, 1, 73), (73, .ladd, 1, 74), (74, .ldc2_w 310, 3, 77), (77, .ldiv, 1, 78), (78, .lreturn, 1, 79), (79, .lload 9, 2, 81), (81, .ldc2_w 304, 3, 84), (84, .lload 7, 2, 86), (86, .lmul, 1, 87), (87, .iload_n 1, 1, 88), (88, .i2l, 1, 89), (89, .lmul, 1, 90), (90, .ladd, 1, 91), (91, .ldc2_w 312, 3, 94), (94, .lload 7, 2, 96), (96, .lmul, 1, 97), (97, .ladd, 1, 98), (98, .ldc2_w 314, 3, 101), (101, .lload 5, 2, 103), (103, .lmul, 1, 104), (104, .ladd, 1, 105), (105, .ldc2_w 316, 3, 108), (108, .lload_n 3, 1, 109), (109, .lmul, 1, 110), (110, .ladd, 1, 111), (111, .ldc2_w 308, 3, 114), (114, .iload_n 1, 1, 115), (115, .i2l, 1, 116), (116, .lmul, 1, 117), (117, .ladd, 1, 118), (118, .ldc2_w 318, 3, 121), (121, .ldiv, 1, 122), (122, .lreturn, 1, 123)]
set_option maxRecDepth 20000 in
theorem D_Model_many {i pc n npc : Nat} {ins : Instr} (h : K_Model_many[i]? = some (pc, ins, n, npc)) : zD prog_11_method_68_code pc ins n npc := zDall (by decide +kernel) h
def K_Model_doesShow : List (Nat × Instr × Nat × Nat) := [(0, .aload_n 0, 1, 1), (1, .iload_n 1, 1, 2), (2, .iload_n 2, 1, 3), (3, .iload_n 3, 1, 4), (4, .invokevirtual 223, 3, 7), (7, .istore 5, 2, 9), (9, .iload 5, 2, 11), (11, .bipush 6, 2, 13), (13, .if_icmp .eq 10, 3, 16), (16, .iload 5, 2, 18), (18, .iload 4, 2, 20), (20, .if_icmp .ne 7, 3, 23), (23, .iconst 1, 1, 24), (24, .goto 4, 3, 27), (27, .iconst 0, 1, 28), (28, .ireturn, 1, 29)]
set_option maxRecDepth 20000 in
theorem D_Model_doesShow {i pc n npc : Nat} {ins : Instr} (h : K_Model_doesShow[i]? = some (pc, ins, n, npc)) : zD prog_11_method_69_code pc ins n npc := zDall (by decide +kernel) h
def K_Model_sightOf : List (Nat × Instr × Nat × Nat) := [(0, .iconst 0, 1, 1), (1, .istore_n 3, 1, 2), (2, .iconst 0, 1, 3), (3, .istore 4, 2, 5), (5, .iload 4, 2, 7), (7, .bipush 24, 2, 9), (9, .if_icmp .ge 64, 3, 12), (12, .aload_n 0, 1, 13), (13, .iload_n 1, 1, 14), (14, .iload 4, 2, 16), (16, .iconst 4, 1, 17), (17, .iload_n 2, 1, 18), (18, .bipush 100, 2, 20), (20, .idiv, 1, 21), (21, .invokevirtual 320, 3, 24), (24, .ifCond .eq 43, 3, 27), (27, .aload_n 0, 1, 28), (28, .iload_n 1, 1, 29), (29, .iload 4, 2, 31), (31, .iconst 0, 1, 32), (32, .iload_n 2, 1, 33), (33, .bipush 10, 2, 35), (35, .idiv, 1, 36), (36, .bipush 10, 2, 38), (38, .irem, 1, 39), (39, .invokevirtual 320, 3, 42), (42, .ifCond .eq 25, 3, 45), (45, .aload_n 0, 1, 46), (46, .iload_n 1, 1, 47), (47, .iload 4, 2, 49), (49, .iconst 1, 1, 50), (50, .iload_n 2, 1, 51), (51, .bipush 10, 2, 53), (53, .irem, 1, 54), (54, .invokevirtual 320, 3, 57), (57, .ifCond .eq 10, 3, 60), (60, .iload_n 3, 1, 61), (61, .iconst 1, 1, 62), (62, .iload 4, 2, 64), (64, .ishl, 1, 65), (65, .ior, 1, 66), (66, .istore_n 3, 1, 67), (67, .iinc 4 1, 3, 70), (70, .goto (-65), 3, 73), (73, .iload_n 3, 1, 74), (74, .ireturn, 1, 75)]
set_option maxRecDepth 20000 in
theorem D_Model_sightOf {i pc n npc : Nat} {ins : Instr} (h : K_Model_sightOf[i]? = some (pc, ins, n, npc)) : zD prog_11_method_70_code pc ins n npc := zDall (by decide +kernel) h
def K_Model_sight : List (Nat × Instr × Nat × Nat) := [(0, .iload_n 1, 1, 1), (1, .ifCond .lt 49, 3, 4), (4, .iload_n 1, 1, 5), (5, .bipush 100, 2, 7), (7, .idiv, 1, 8), (8, .invokestatic 324, 3, 11), (11, .ifCond .eq 39, 3, 14), (14, .iload_n 1, 1, 15), (15, .bipush 10, 2, 17), (17, .idiv, 1, 18), (18, .bipush 10, 2, 20), (20, .irem, 1, 21), (21, .invokestatic 324, 3, 24), (24, .ifCond .eq 26, 3, 27), (27, .iload_n 1, 1, 28), (28, .bipush 10, 2, 30), (30, .irem, 1, 31), (31, .invokestatic 324, 3, 34), (34, .ifCond .eq 16, 3, 37), (37, .iload_n 2, 1, 38), (38, .iconst (-1), 1, 39), (39, .if_icmp .eq 13, 3, 42), (42, .aload_n 0, 1, 43), (43, .iload_n 2, 1, 44), (44, .invokevirtual 106, 3, 47), (47, .ifCond .ne 5, 3, 50), (50, .iconst (-1), 1, 51), (51, .ireturn, 1, 52), (52, .iload_n 2, 1, 53), (53, .ifCond .lt 10, 3, 56), (56, .aload_n 0, 1, 57), (57, .iload_n 2, 1, 58), (58, .iload_n 1, 1, 59), (59, .invokevirtual 327, 3, 62), (62, .ireturn, 1, 63), (63, .iconst 0, 1, 64), (64, .istore_n 3, 1, 65), (65, .iconst 0, 1, 66), (66, .istore 4, 2, 68), (68, .iload 4, 2, 70), (70, .aload_n 0, 1, 71), (71, .getfield 99, 3, 74), (74, .if_icmp .ge 26, 3, 77), (77, .aload_n 0, 1, 78), (78, .iload 4, 2, 80), (80, .iload_n 1, 1, 81), (81, .invokevirtual 327, 3, 84), (84, .ifCond .eq 10, 3, 87), (87, .iload_n 3, 1, 88), (88, .iconst 1, 1, 89), (89, .iload 4, 2, 91), (91, .ishl, 1, 92), (92, .ior, 1, 93), (93, .istore_n 3, 1, 94), (94, .iinc 4 1, 3, 97), (97, .goto (-29), 3, 100), (100, .iload_n 3, 1, 101), (101, .ireturn, 1, 102)]
set_option maxRecDepth 20000 in
theorem D_Model_sight {i pc n npc : Nat} {ins : Instr} (h : K_Model_sight[i]? = some (pc, ins, n, npc)) : zD prog_11_method_71_code pc ins n npc := zDall (by decide +kernel) h
def K_Model_touch : List (Nat × Instr × Nat × Nat) := [(0, .aload_n 0, 1, 1), (1, .aload_n 0, 1, 2), (2, .getfield 61, 3, 5), (5, .iload_n 1, 1, 6), (6, .iaload, 1, 7), (7, .aload_n 0, 1, 8), (8, .getfield 64, 3, 11), (11, .iload_n 1, 1, 12), (12, .iaload, 1, 13), (13, .iload_n 2, 1, 14), (14, .invokevirtual 223, 3, 17), (17, .istore 6, 2, 19), (19, .aload_n 0, 1, 20), (20, .aload_n 0, 1, 21), (21, .getfield 61, 3, 24), (24, .iload_n 3, 1, 25), (25, .iaload, 1, 26), (26, .iload 5, 2, 28), (28, .iload 4, 2, 30), (30, .invokevirtual 223, 3, 33), (33, .istore 7, 2, 35), (35, .iload 6, 2, 37), (37, .bipush 6, 2, 39), (39, .if_icmp .eq 17, 3, 42), (42, .iload 7, 2, 44), (44, .bipush 6, 2, 46), (46, .if_icmp .eq 10, 3, 49), (49, .iload 6, 2, 51), (51, .iload 7, 2, 53), (53, .if_icmp .ne 7, 3, 56), (56, .iconst 1, 1, 57), (57, .goto 4, 3, 60), (60, .iconst 0, 1, 61), (61, .ireturn, 1, 62)]
set_option maxRecDepth 20000 in
theorem D_Model_touch {i pc n npc : Nat} {ins : Instr} (h : K_Model_touch[i]? = some (pc, ins, n, npc)) : zD prog_11_method_72_code pc ins n npc := zDall (by decide +kernel) h
def K_Model_fitsWall : List (Nat × Instr × Nat × Nat) := [(0, .iload_n 1, 1, 1), (1, .iconst 1, 1, 2), (2, .if_icmp .ne 13, 3, 5), (5, .aload_n 0, 1, 6), (6, .iconst 0, 1, 7), (7, .iconst 1, 1, 8), (8, .iconst 1, 1, 9), (9, .iconst 3, 1, 10), (10, .iload_n 2, 1, 11), (11, .invokevirtual 330, 3, 14), (14, .ireturn, 1, 15), (15, .iload_n 1, 1, 16), (16, .iconst 2, 1, 17), (17, .if_icmp .ne 13, 3, 20), (20, .aload_n 0, 1, 21), (21, .iconst 0, 1, 22), (22, .iconst 4, 1, 23), (23, .iconst 2, 1, 24), (24, .iconst 5, 1, 25), (25, .iload_n 2, 1, 26), (26, .invokevirtual 330, 3, 29), (29, .ireturn, 1, 30), (30, .iload_n 1, 1, 31), (31, .ifCond .eq 27, 3, 34), (34, .aload_n 0, 1, 35), (35, .iconst 1, 1, 36), (36, .iconst 4, 1, 37), (37, .iconst 3, 1, 38), (38, .iconst 5, 1, 39), (39, .iload_n 2, 1, 40), (40, .invokevirtual 330, 3, 43), (43, .ifCond .eq 19, 3, 46), (46, .aload_n 0, 1, 47), (47, .iconst 2, 1, 48), (48, .iconst 1, 1, 49), (49, .iconst 3, 1, 50), (50, .iconst 3, 1, 51), (51, .iload_n 2, 1, 52), (52, .invokevirtual 330, 3, 55), (55, .ifCond .eq 7, 3, 58), (58, .iconst 1, 1, 59), (59, .goto 4, 3, 62), (62, .iconst 0, 1, 63), (63, .ireturn, 1, 64)]
set_option maxRecDepth 20000 in
theorem D_Model_fitsWall {i pc n npc : Nat} {ins : Instr} (h : K_Model_fitsWall[i]? = some (pc, ins, n, npc)) : zD prog_11_method_73_code pc ins n npc := zDall (by decide +kernel) h
def K_Model_goWall : List (Nat × Instr × Nat × Nat) := [(0, .iload_n 1, 1, 1), (1, .iconst 4, 1, 2), (2, .if_icmp .ne 46, 3, 5), (5, .aload_n 0, 1, 6), (6, .getfield 256, 3, 9), (9, .ifCond .ne 28, 3, 12), (12, .iconst 0, 1, 13), (13, .istore_n 2, 1, 14), (14, .iload_n 2, 1, 15), (15, .iconst 4, 1, 16), (16, .if_icmp .ge 21, 3, 19), (19, .aload_n 0, 1, 20), (20, .getfield 67, 3, 23), (23, .iload_n 2, 1, 24), (24, .aload_n 0, 1, 25), (25, .getfield 64, 3, 28), (28, .iload_n 2, 1, 29), (29, .iaload, 1, 30), (30, .iastore, 1, 31), (31, .iinc 2 1, 3, 34), (34, .goto (-20), 3, 37), (37, .aload_n 0, 1, 38), (38, .dup, 1, 39), (39, .getfield 256, 3, 42), (42, .iconst 1, 1, 43), (43, .iadd, 1, 44), (44, .putfield 256, 3, 47), (47, .return_, 1, 48), (48, .iconst 0, 1, 49), (49, .istore_n 2, 1, 50), (50, .iload_n 2, 1, 51), (51, .bipush 24, 2, 53), (53, .if_icmp .ge 50, 3, 56), (56, .aload_n 0, 1, 57), (57, .getfield 259, 3, 60), (60, .ifCond .eq 11, 3, 63), (63, .aload_n 0, 1, 64), (64, .getfield 256, 3, 67), (67, .ifCond .le 4, 3, 70), (70, .return_, 1, 71), (71, .aload_n 0, 1, 72), (72, .iload_n 1, 1, 73), (73, .iload_n 2, 1, 74), (74, .invokevirtual 333, 3, 77), (77, .ifCond .ne 6, 3, 80), (80, .goto 17, 3, 83), (83, .aload_n 0, 1, 84), (84, .getfield 64, 3, 87), (87, .iload_n 1, 1, 88), (88, .iload_n 2, 1, 89), (89, .iastore, 1, 90), (90, .aload_n 0, 1, 91), (91, .iload_n 1, 1, 92), (92, .iconst 1, 1, 93), (93, .iadd, 1, 94), (94, .invokevirtual 336, 3, 97), (97, .iinc 2 1, 3, 100), (100, .goto (-50), 3, 103), (103, .return_, 1, 104)]
set_option maxRecDepth 20000 in
theorem D_Model_goWall {i pc n npc : Nat} {ins : Instr} (h : K_Model_goWall[i]? = some (pc, ins, n, npc)) : zD prog_11_method_74_code pc ins n npc := zDall (by decide +kernel) h
def K_Model_wall : List (Nat × Instr × Nat × Nat) := [(0, .iload_n 1, 1, 1), (1, .iconst (-1), 1, 2), (2, .iconst 3, 1, 3), (3, .invokestatic 102, 3, 6), (6, .ifCond .ne 5, 3, 9), (9, .iconst (-1), 1, 10), (10, .ireturn, 1, 11), (11, .aload_n 0, 1, 12), (12, .getfield 147, 3, 15), (15, .invokestatic 143, 3, 18), (18, .iconst 4, 1, 19), (19, .if_icmp .ge 6, 3, 22), (22, .bipush (-5), 2, 24), (24, .ireturn, 1, 25), (25, .aload_n 0, 1, 26), (26, .aload_n 0, 1, 27), (27, .getfield 147, 3, 30), (30, .invokevirtual 243, 3, 33), (33, .aload_n 0, 1, 34), (34, .iconst 0, 1, 35), (35, .putfield 256, 3, 38), (38, .aload_n 0, 1, 39), (39, .iload_n 1, 1, 40), (40, .ifCond .lt 7, 3, 43), (43, .iconst 1, 1, 44), (44, .goto 4, 3, 47), (47, .iconst 0, 1, 48), (48, .putfield 259, 3, 51), (51, .aload_n 0, 1, 52), (52, .iconst 0, 1, 53), (53, .invokevirtual 336, 3, 56), (56, .iload_n 1, 1, 57), (57, .ifCond .ge 8, 3, 60), (60, .aload_n 0, 1, 61), (61, .getfield 256, 3, 64), (64, .ireturn, 1, 65), (65, .aload_n 0, 1, 66), (66, .getfield 256, 3, 69), (69, .ifCond .ne 8, 3, 72), (72, .bipush (-2), 2, 74), (74, .goto 9, 3, 77), (77, .aload_n 0, 1, 78), (78, .getfield 67, 3, 81), (81, .iload_n 1, 1, 82), (82, .iaload, 1, 83), (83, .ireturn, 1, 84)]
set_option maxRecDepth 20000 in
theorem D_Model_wall {i pc n npc : Nat} {ins : Instr} (h : K_Model_wall[i]? = some (pc, ins, n, npc)) : zD prog_11_method_75_code pc ins n npc := zDall (by decide +kernel) h
def K_Model_isOf : List (Nat × Instr × Nat × Nat) := [(0, .aload_n 0, 1, 1), (1, .getfield 7, 3, 4), (4, .bipush 6, 2, 6), (6, .iload_n 1, 1, 7), (7, .imul, 1, 8), (8, .iload_n 2, 1, 9), (9, .iadd, 1, 10), (10, .iaload, 1, 11), (11, .iload_n 3, 1, 12), (12, .if_icmp .eq 19, 3, 15), (15, .aload_n 0, 1, 16), (16, .getfield 7, 3, 19), (19, .bipush 6, 2, 21), (21, .iload_n 1, 1, 22), (22, .imul, 1, 23), (23, .iload_n 2, 1, 24), (24, .iadd, 1, 25), (25, .iaload, 1, 26), (26, .bipush 6, 2, 28), (28, .if_icmp .ne 7, 3, 31), (31, .iconst 1, 1, 32), (32, .goto 4, 3, 35), (35, .iconst 0, 1, 36), (36, .ireturn, 1, 37)]
set_option maxRecDepth 20000 in
theorem D_Model_isOf {i pc n npc : Nat} {ins : Instr} (h : K_Model_isOf[i]? = some (pc, ins, n, npc)) : zD prog_11_method_76_code pc ins n npc := zDall (by decide +kernel) h
def K_Model_isGreat : List (Nat × Instr × Nat × Nat) := [(0, .aload_n 0, 1, 1), (1, .iload_n 1, 1, 2), (2, .iconst 0, 1, 3), (3, .iload_n 2, 1, 4), (4, .invokevirtual 339, 3, 7), (7, .ifCond .ne 13, 3, 10), (10, .aload_n 0, 1, 11), (11, .iload_n 1, 1, 12), (12, .iconst 2, 1, 13), (13, .iload_n 2, 1, 14), (14, .invokevirtual 339, 3, 17), (17, .ifCond .eq 47, 3, 20), (20, .aload_n 0, 1, 21), (21, .iload_n 1, 1, 22), (22, .iconst 1, 1, 23), (23, .iload_n 2, 1, 24), (24, .invokevirtual 339, 3, 27), (27, .ifCond .ne 13, 3, 30), (30, .aload_n 0, 1, 31), (31, .iload_n 1, 1, 32), (32, .iconst 3, 1, 33), (33, .iload_n 2, 1, 34), (34, .invokevirtual 339, 3, 37), (37, .ifCond .eq 27, 3, 40), (40, .aload_n 0, 1, 41), (41, .iload_n 1, 1, 42), (42, .iconst 4, 1, 43), (43, .iload_n 2, 1, 44), (44, .invokevirtual 339, 3, 47), (47, .ifCond .ne 13, 3, 50), (50, .aload_n 0, 1, 51), (51, .iload_n 1, 1, 52), (52, .iconst 5, 1, 53), (53, .iload_n 2, 1, 54), (54, .invokevirtual 339, 3, 57), (57, .ifCond .eq 7, 3, 60), (60, .iconst 1, 1, 61), (61, .goto 4, 3, 64), (64, .iconst 0, 1, 65), (65, .ireturn, 1, 66)]
set_option maxRecDepth 20000 in
theorem D_Model_isGreat {i pc n npc : Nat} {ins : Instr} (h : K_Model_isGreat[i]? = some (pc, ins, n, npc)) : zD prog_11_method_77_code pc ins n npc := zDall (by decide +kernel) h
def K_Model_great : List (Nat × Instr × Nat × Nat) := [(0, .iload_n 1, 1, 1), (1, .invokestatic 324, 3, 4), (4, .ifCond .ne 5, 3, 7), (7, .iconst (-1), 1, 8), (8, .ireturn, 1, 9), (9, .iconst 0, 1, 10), (10, .istore_n 2, 1, 11), (11, .iconst 0, 1, 12), (12, .istore_n 3, 1, 13), (13, .iload_n 3, 1, 14), (14, .aload_n 0, 1, 15), (15, .getfield 99, 3, 18), (18, .if_icmp .ge 24, 3, 21), (21, .aload_n 0, 1, 22), (22, .iload_n 3, 1, 23), (23, .iload_n 1, 1, 24), (24, .invokevirtual 342, 3, 27), (27, .ifCond .eq 9, 3, 30), (30, .iload_n 2, 1, 31), (31, .iconst 1, 1, 32), (32, .iload_n 3, 1, 33), (33, .ishl, 1, 34), (34, .ior, 1, 35), (35, .istore_n 2, 1, 36), (36, .iinc 3 1, 3, 39), (39, .goto (-26), 3, 42), (42, .iload_n 2, 1, 43), (43, .ireturn, 1, 44)]
set_option maxRecDepth 20000 in
theorem D_Model_great {i pc n npc : Nat} {ins : Instr} (h : K_Model_great[i]? = some (pc, ins, n, npc)) : zD prog_11_method_78_code pc ins n npc := zDall (by decide +kernel) h
def K_Model_isBody : List (Nat × Instr × Nat × Nat) := [(0, .iload_n 1, 1, 1), (1, .iconst 0, 1, 2), (2, .aload_n 0, 1, 3), (3, .getfield 345, 3, 6), (6, .iconst 1, 1, 7), (7, .isub, 1, 8), (8, .invokestatic 102, 3, 11), (11, .ireturn, 1, 12)]
set_option maxRecDepth 20000 in
theorem D_Model_isBody {i pc n npc : Nat} {ins : Instr} (h : K_Model_isBody[i]? = some (pc, ins, n, npc)) : zD prog_11_method_79_code pc ins n npc := zDall (by decide +kernel) h
def K_Model_ran : List (Nat × Instr × Nat × Nat) := [(0, .aload_n 0, 1, 1), (1, .getfield 348, 3, 4), (4, .bipush 24, 2, 6), (6, .if_icmp .ge 13, 3, 9), (9, .aload_n 0, 1, 10), (10, .getfield 79, 3, 13), (13, .aload_n 0, 1, 14), (14, .getfield 348, 3, 17), (17, .iload_n 1, 1, 18), (18, .iastore, 1, 19), (19, .aload_n 0, 1, 20), (20, .dup, 1, 21), (21, .getfield 348, 3, 24), (24, .iconst 1, 1, 25), (25, .iadd, 1, 26), (26, .putfield 348, 3, 29), (29, .return_, 1, 30)]
set_option maxRecDepth 20000 in
theorem D_Model_ran {i pc n npc : Nat} {ins : Instr} (h : K_Model_ran[i]? = some (pc, ins, n, npc)) : zD prog_11_method_80_code pc ins n npc := zDall (by decide +kernel) h
def K_Model_trace : List (Nat × Instr × Nat × Nat) := [(0, .iload_n 1, 1, 1), (1, .ifCond .lt 26, 3, 4), (4, .iload_n 1, 1, 5), (5, .aload_n 0, 1, 6), (6, .getfield 348, 3, 9), (9, .if_icmp .ge 18, 3, 12), (12, .iload_n 1, 1, 13), (13, .bipush 24, 2, 15), (15, .if_icmp .ge 12, 3, 18), (18, .aload_n 0, 1, 19), (19, .getfield 79, 3, 22), (22, .iload_n 1, 1, 23), (23, .iaload, 1, 24), (24, .goto 4, 3, 27), (27, .iconst (-1), 1, 28), (28, .ireturn, 1, 29)]
set_option maxRecDepth 20000 in
theorem D_Model_trace {i pc n npc : Nat} {ins : Instr} (h : K_Model_trace[i]? = some (pc, ins, n, npc)) : zD prog_11_method_81_code pc ins n npc := zDall (by decide +kernel) h
def K_Model_body : List (Nat × Instr × Nat × Nat) := [(0, .iload_n 1, 1, 1), (1, .iconst 0, 1, 2), (2, .bipush 7, 2, 4), (4, .invokestatic 102, 3, 7), (7, .ifCond .ne 5, 3, 10), (10, .iconst (-1), 1, 11), (11, .ireturn, 1, 12), (12, .aload_n 0, 1, 13), (13, .getfield 345, 3, 16), (16, .bipush 50, 2, 18), (18, .if_icmp .ne 6, 3, 21), (21, .bipush (-3), 2, 23), (23, .ireturn, 1, 24), (24, .aload_n 0, 1, 25), (25, .getfield 76, 3, 28), (28, .aload_n 0, 1, 29), (29, .getfield 345, 3, 32), (32, .iload_n 1, 1, 33), (33, .iastore, 1, 34), (34, .aload_n 0, 1, 35), (35, .dup, 1, 36), (36, .getfield 345, 3, 39), (39, .iconst 1, 1, 40), (40, .iadd, 1, 41), (41, .putfield 345, 3, 44), (44, .aload_n 0, 1, 45), (45, .getfield 345, 3, 48), (48, .iconst 1, 1, 49), (49, .isub, 1, 50), (50, .ireturn, 1, 51)]
set_option maxRecDepth 20000 in
theorem D_Model_body {i pc n npc : Nat} {ins : Instr} (h : K_Model_body[i]? = some (pc, ins, n, npc)) : zD prog_11_method_82_code pc ins n npc := zDall (by decide +kernel) h
def K_Model_isUnder : List (Nat × Instr × Nat × Nat) := [(0, .iload_n 1, 1, 1), (1, .ifCond .eq 55, 3, 4), (4, .iload_n 0, 1, 5), (5, .iload_n 1, 1, 6), (6, .if_icmp .eq 50, 3, 9), (9, .iload_n 1, 1, 10), (10, .iconst 1, 1, 11), (11, .if_icmp .ne 13, 3, 14), (14, .iload_n 0, 1, 15), (15, .iconst 4, 1, 16), (16, .if_icmp .eq 40, 3, 19), (19, .iload_n 0, 1, 20), (20, .iconst 5, 1, 21), (21, .if_icmp .eq 35, 3, 24), (24, .iload_n 1, 1, 25), (25, .iconst 2, 1, 26), (26, .if_icmp .ne 8, 3, 29), (29, .iload_n 0, 1, 30), (30, .iconst 3, 1, 31), (31, .if_icmp .eq 25, 3, 34), (34, .iload_n 1, 1, 35), (35, .iconst 4, 1, 36), (36, .if_icmp .ne 8, 3, 39), (39, .iload_n 0, 1, 40), (40, .iconst 5, 1, 41), (41, .if_icmp .eq 15, 3, 44), (44, .iload_n 1, 1, 45), (45, .bipush 6, 2, 47), (47, .if_icmp .ne 13, 3, 50), (50, .iload_n 0, 1, 51), (51, .bipush 7, 2, 53), (53, .if_icmp .ne 7, 3, 56), (56, .iconst 1, 1, 57), (57, .goto 4, 3, 60), (60, .iconst 0, 1, 61), (61, .ireturn, 1, 62)]
set_option maxRecDepth 20000 in
theorem D_Model_isUnder {i pc n npc : Nat} {ins : Instr} (h : K_Model_isUnder[i]? = some (pc, ins, n, npc)) : zD prog_11_method_83_code pc ins n npc := zDall (by decide +kernel) h
def K_Model_plainTurns : List (Nat × Instr × Nat × Nat) := [(0, .aload_n 0, 1, 1), (1, .iconst 1, 1, 2), (2, .invokevirtual 351, 3, 5), (5, .iload_n 2, 1, 6), (6, .iload_n 1, 1, 7), (7, .iadd, 1, 8), (8, .ireturn, 1, 9)]
set_option maxRecDepth 20000 in
theorem D_Model_plainTurns {i pc n npc : Nat} {ins : Instr} (h : K_Model_plainTurns[i]? = some (pc, ins, n, npc)) : zD prog_11_method_84_code pc ins n npc := zDall (by decide +kernel) h
def K_Model_toldTurns : List (Nat × Instr × Nat × Nat) := [(0, .aload_n 0, 1, 1), (1, .bipush 70, 2, 3), (3, .invokevirtual 351, 3, 6), (6, .aload_n 0, 1, 7), (7, .iload_n 1, 1, 8), (8, .iload_n 2, 1, 9), (9, .invokevirtual 354, 3, 12), (12, .iconst 2, 1, 13), (13, .imul, 1, 14), (14, .ireturn, 1, 15)]
set_option maxRecDepth 20000 in
theorem D_Model_toldTurns {i pc n npc : Nat} {ins : Instr} (h : K_Model_toldTurns[i]? = some (pc, ins, n, npc)) : zD prog_11_method_85_code pc ins n npc := zDall (by decide +kernel) h
def K_Model_turningBy : List (Nat × Instr × Nat × Nat) := [(0, .aload_n 0, 1, 1), (1, .getfield 76, 3, 4), (4, .iload_n 1, 1, 5), (5, .iaload, 1, 6), (6, .iconst 1, 1, 7), (7, .invokestatic 357, 3, 10), (10, .ifCond .eq 18, 3, 13), (13, .aload_n 0, 1, 14), (14, .bipush 20, 2, 16), (16, .invokevirtual 351, 3, 19), (19, .aload_n 0, 1, 20), (20, .iload_n 1, 1, 21), (21, .iload_n 2, 1, 22), (22, .invokevirtual 354, 3, 25), (25, .iconst 3, 1, 26), (26, .iadd, 1, 27), (27, .ireturn, 1, 28), (28, .aload_n 0, 1, 29), (29, .getfield 76, 3, 32), (32, .iload_n 1, 1, 33), (33, .iaload, 1, 34), (34, .bipush 7, 2, 36), (36, .if_icmp .ne 18, 3, 39), (39, .aload_n 0, 1, 40), (40, .bipush 81, 2, 42), (42, .invokevirtual 351, 3, 45), (45, .aload_n 0, 1, 46), (46, .iload_n 1, 1, 47), (47, .iload_n 2, 1, 48), (48, .invokevirtual 360, 3, 51), (51, .iconst 1, 1, 52), (52, .isub, 1, 53), (53, .ireturn, 1, 54), (54, .aload_n 0, 1, 55), (55, .getfield 76, 3, 58), (58, .iload_n 1, 1, 59), (59, .iaload, 1, 60), (60, .bipush 6, 2, 62), (62, .if_icmp .ne 12, 3, 65), (65, .aload_n 0, 1, 66), (66, .iload_n 1, 1, 67), (67, .iload_n 2, 1, 68), (68, .invokevirtual 360, 3, 71), (71, .goto 9, 3, 74), (74, .aload_n 0, 1, 75), (75, .iload_n 1, 1, 76), (76, .iload_n 2, 1, 77), (77, .invokevirtual 354, 3, 80), (80, .ireturn, 1, 81)]
set_option maxRecDepth 20000 in
theorem D_Model_turningBy {i pc n npc : Nat} {ins : Instr} (h : K_Model_turningBy[i]? = some (pc, ins, n, npc)) : zD prog_11_method_86_code pc ins n npc := zDall (by decide +kernel) h
def K_Model_plainShows : List (Nat × Instr × Nat × Nat) := [(0, .aload_n 0, 1, 1), (1, .bipush 10, 2, 3), (3, .invokevirtual 351, 3, 6), (6, .aload_n 0, 1, 7), (7, .iload_n 1, 1, 8), (8, .iload_n 2, 1, 9), (9, .invokevirtual 363, 3, 12), (12, .iconst 2, 1, 13), (13, .imul, 1, 14), (14, .ireturn, 1, 15)]
set_option maxRecDepth 20000 in
theorem D_Model_plainShows {i pc n npc : Nat} {ins : Instr} (h : K_Model_plainShows[i]? = some (pc, ins, n, npc)) : zD prog_11_method_87_code pc ins n npc := zDall (by decide +kernel) h
def K_Model_wallShows : List (Nat × Instr × Nat × Nat) := [(0, .aload_n 0, 1, 1), (1, .bipush 30, 2, 3), (3, .invokevirtual 351, 3, 6), (6, .aload_n 0, 1, 7), (7, .iload_n 1, 1, 8), (8, .iload_n 2, 1, 9), (9, .invokevirtual 366, 3, 12), (12, .ineg, 1, 13), (13, .ireturn, 1, 14)]
set_option maxRecDepth 20000 in
theorem D_Model_wallShows {i pc n npc : Nat} {ins : Instr} (h : K_Model_wallShows[i]? = some (pc, ins, n, npc)) : zD prog_11_method_88_code pc ins n npc := zDall (by decide +kernel) h
def K_Model_showing : List (Nat × Instr × Nat × Nat) := [(0, .aload_n 0, 1, 1), (1, .getfield 76, 3, 4), (4, .iload_n 1, 1, 5), (5, .iaload, 1, 6), (6, .iconst 3, 1, 7), (7, .if_icmp .ne 18, 3, 10), (10, .aload_n 0, 1, 11), (11, .bipush 41, 2, 13), (13, .invokevirtual 351, 3, 16), (16, .aload_n 0, 1, 17), (17, .iload_n 1, 1, 18), (18, .iload_n 2, 1, 19), (19, .iconst 1, 1, 20), (20, .iadd, 1, 21), (21, .invokevirtual 369, 3, 24), (24, .ireturn, 1, 25), (25, .aload_n 0, 1, 26), (26, .getfield 76, 3, 29), (29, .iload_n 1, 1, 30), (30, .iaload, 1, 31), (31, .bipush 7, 2, 33), (33, .if_icmp .ne 25, 3, 36), (36, .aload_n 0, 1, 37), (37, .bipush 80, 2, 39), (39, .invokevirtual 351, 3, 42), (42, .aload_n 0, 1, 43), (43, .iload_n 1, 1, 44), (44, .iload_n 2, 1, 45), (45, .invokevirtual 366, 3, 48), (48, .istore_n 3, 1, 49), (49, .iload_n 3, 1, 50), (50, .aload_n 0, 1, 51), (51, .iload_n 1, 1, 52), (52, .iconst 2, 1, 53), (53, .invokevirtual 372, 3, 56), (56, .iadd, 1, 57), (57, .ireturn, 1, 58), (58, .aload_n 0, 1, 59), (59, .getfield 76, 3, 62), (62, .iload_n 1, 1, 63), (63, .iaload, 1, 64), (64, .iconst 2, 1, 65), (65, .if_icmp .ne 12, 3, 68), (68, .aload_n 0, 1, 69), (69, .iload_n 1, 1, 70), (70, .iload_n 2, 1, 71), (71, .invokevirtual 369, 3, 74), (74, .goto 9, 3, 77), (77, .aload_n 0, 1, 78), (78, .iload_n 1, 1, 79), (79, .iload_n 2, 1, 80), (80, .invokevirtual 366, 3, 83), (83, .ireturn, 1, 84)]
set_option maxRecDepth 20000 in
theorem D_Model_showing {i pc n npc : Nat} {ins : Instr} (h : K_Model_showing[i]? = some (pc, ins, n, npc)) : zD prog_11_method_89_code pc ins n npc := zDall (by decide +kernel) h
def K_Model_plainLies : List (Nat × Instr × Nat × Nat) := [(0, .aload_n 0, 1, 1), (1, .bipush 11, 2, 3), (3, .invokevirtual 351, 3, 6), (6, .iload_n 2, 1, 7), (7, .iload_n 1, 1, 8), (8, .ixor, 1, 9), (9, .ireturn, 1, 10)]
set_option maxRecDepth 20000 in
theorem D_Model_plainLies {i pc n npc : Nat} {ins : Instr} (h : K_Model_plainLies[i]? = some (pc, ins, n, npc)) : zD prog_11_method_90_code pc ins n npc := zDall (by decide +kernel) h
def K_Model_lying : List (Nat × Instr × Nat × Nat) := [(0, .aload_n 0, 1, 1), (1, .getfield 76, 3, 4), (4, .iload_n 1, 1, 5), (5, .iaload, 1, 6), (6, .iconst 3, 1, 7), (7, .if_icmp .ne 18, 3, 10), (10, .aload_n 0, 1, 11), (11, .bipush 40, 2, 13), (13, .invokevirtual 351, 3, 16), (16, .aload_n 0, 1, 17), (17, .iload_n 1, 1, 18), (18, .iload_n 2, 1, 19), (19, .invokevirtual 375, 3, 22), (22, .iconst 3, 1, 23), (23, .imul, 1, 24), (24, .ireturn, 1, 25), (25, .aload_n 0, 1, 26), (26, .getfield 76, 3, 29), (29, .iload_n 1, 1, 30), (30, .iaload, 1, 31), (31, .iconst 5, 1, 32), (32, .if_icmp .ne 25, 3, 35), (35, .aload_n 0, 1, 36), (36, .bipush 60, 2, 38), (38, .invokevirtual 351, 3, 41), (41, .aload_n 0, 1, 42), (42, .iload_n 1, 1, 43), (43, .iload_n 2, 1, 44), (44, .invokevirtual 375, 3, 47), (47, .istore_n 3, 1, 48), (48, .iload_n 3, 1, 49), (49, .aload_n 0, 1, 50), (50, .iload_n 1, 1, 51), (51, .iconst 2, 1, 52), (52, .invokevirtual 363, 3, 55), (55, .isub, 1, 56), (56, .ireturn, 1, 57), (57, .aload_n 0, 1, 58), (58, .iload_n 1, 1, 59), (59, .iload_n 2, 1, 60), (60, .invokevirtual 375, 3, 63), (63, .ireturn, 1, 64)]
set_option maxRecDepth 20000 in
theorem D_Model_lying {i pc n npc : Nat} {ins : Instr} (h : K_Model_lying[i]? = some (pc, ins, n, npc)) : zD prog_11_method_91_code pc ins n npc := zDall (by decide +kernel) h
def K_Model_plainTells : List (Nat × Instr × Nat × Nat) := [(0, .aload_n 0, 1, 1), (1, .iconst 2, 1, 2), (2, .invokevirtual 351, 3, 5), (5, .aload_n 0, 1, 6), (6, .iload_n 1, 1, 7), (7, .iload_n 2, 1, 8), (8, .invokevirtual 378, 3, 11), (11, .istore_n 3, 1, 12), (12, .iload_n 3, 1, 13), (13, .aload_n 0, 1, 14), (14, .iload_n 1, 1, 15), (15, .iconst 1, 1, 16), (16, .invokevirtual 372, 3, 19), (19, .isub, 1, 20), (20, .ireturn, 1, 21)]
set_option maxRecDepth 20000 in
theorem D_Model_plainTells {i pc n npc : Nat} {ins : Instr} (h : K_Model_plainTells[i]? = some (pc, ins, n, npc)) : zD prog_11_method_92_code pc ins n npc := zDall (by decide +kernel) h
def K_Model_rowTells : List (Nat × Instr × Nat × Nat) := [(0, .aload_n 0, 1, 1), (1, .bipush 50, 2, 3), (3, .invokevirtual 351, 3, 6), (6, .aload_n 0, 1, 7), (7, .iload_n 1, 1, 8), (8, .iload_n 2, 1, 9), (9, .invokevirtual 381, 3, 12), (12, .iconst 5, 1, 13), (13, .ixor, 1, 14), (14, .ireturn, 1, 15)]
set_option maxRecDepth 20000 in
theorem D_Model_rowTells {i pc n npc : Nat} {ins : Instr} (h : K_Model_rowTells[i]? = some (pc, ins, n, npc)) : zD prog_11_method_93_code pc ins n npc := zDall (by decide +kernel) h
def K_Model_telling : List (Nat × Instr × Nat × Nat) := [(0, .aload_n 0, 1, 1), (1, .getfield 76, 3, 4), (4, .iload_n 1, 1, 5), (5, .iaload, 1, 6), (6, .iconst 5, 1, 7), (7, .if_icmp .ne 18, 3, 10), (10, .aload_n 0, 1, 11), (11, .bipush 61, 2, 13), (13, .invokevirtual 351, 3, 16), (16, .aload_n 0, 1, 17), (17, .iload_n 1, 1, 18), (18, .iload_n 2, 1, 19), (19, .invokevirtual 384, 3, 22), (22, .iconst 1, 1, 23), (23, .iadd, 1, 24), (24, .ireturn, 1, 25), (25, .aload_n 0, 1, 26), (26, .getfield 76, 3, 29), (29, .iload_n 1, 1, 30), (30, .iaload, 1, 31), (31, .iconst 4, 1, 32), (32, .if_icmp .ne 12, 3, 35), (35, .aload_n 0, 1, 36), (36, .iload_n 1, 1, 37), (37, .iload_n 2, 1, 38), (38, .invokevirtual 384, 3, 41), (41, .goto 9, 3, 44), (44, .aload_n 0, 1, 45), (45, .iload_n 1, 1, 46), (46, .iload_n 2, 1, 47), (47, .invokevirtual 381, 3, 50), (50, .ireturn, 1, 51)]
set_option maxRecDepth 20000 in
theorem D_Model_telling {i pc n npc : Nat} {ins : Instr} (h : K_Model_telling[i]? = some (pc, ins, n, npc)) : zD prog_11_method_94_code pc ins n npc := zDall (by decide +kernel) h
def K_Model_act : List (Nat × Instr × Nat × Nat) := [(0, .aload_n 0, 1, 1), (1, .iconst 0, 1, 2), (2, .putfield 348, 3, 5), (5, .aload_n 0, 1, 6), (6, .iload_n 1, 1, 7), (7, .invokevirtual 387, 3, 10), (10, .ifCond .eq 12, 3, 13), (13, .iload_n 2, 1, 14), (14, .iconst 0, 1, 15), (15, .iconst 3, 1, 16), (16, .invokestatic 102, 3, 19), (19, .ifCond .ne 5, 3, 22), (22, .iconst 0, 1, 23), (23, .ireturn, 1, 24), (24, .iload_n 2, 1, 25), (25, .ifCond .ne 12, 3, 28), (28, .aload_n 0, 1, 29), (29, .iload_n 1, 1, 30), (30, .iload_n 3, 1, 31), (31, .invokevirtual 363, 3, 34), (34, .goto 37, 3, 37), (37, .iload_n 2, 1, 38), (38, .iconst 1, 1, 39), (39, .if_icmp .ne 12, 3, 42), (42, .aload_n 0, 1, 43), (43, .iload_n 1, 1, 44), (44, .iload_n 3, 1, 45), (45, .invokevirtual 378, 3, 48), (48, .goto 23, 3, 51), (51, .iload_n 2, 1, 52), (52, .iconst 2, 1, 53), (53, .if_icmp .ne 12, 3, 56), (56, .aload_n 0, 1, 57), (57, .iload_n 1, 1, 58), (58, .iload_n 3, 1, 59), (59, .invokevirtual 372, 3, 62), (62, .goto 9, 3, 65), (65, .aload_n 0, 1, 66), (66, .iload_n 1, 1, 67), (67, .iload_n 3, 1, 68), (68, .invokevirtual 390, 3, 71), (71, .ireturn, 1, 72)]
set_option maxRecDepth 20000 in
theorem D_Model_act {i pc n npc : Nat} {ins : Instr} (h : K_Model_act[i]? = some (pc, ins, n, npc)) : zD prog_11_method_95_code pc ins n npc := zDall (by decide +kernel) h
def K_Model_count : List (Nat × Instr × Nat × Nat) := [(0, .iload_n 1, 1, 1), (1, .tableswitch 69 0 5 #[39, 44, 49, 54, 59, 64], 39, 40), (40, .aload_n 0, 1, 41), (41, .getfield 99, 3, 44), (44, .ireturn, 1, 45), (45, .aload_n 0, 1, 46), (46, .getfield 147, 3, 49), (49, .ireturn, 1, 50), (50, .aload_n 0, 1, 51), (51, .getfield 150, 3, 54), (54, .ireturn, 1, 55), (55, .aload_n 0, 1, 56), (56, .getfield 126, 3, 59), (59, .ireturn, 1, 60), (60, .aload_n 0, 1, 61), (61, .getfield 345, 3, 64), (64, .ireturn, 1, 65), (65, .aload_n 0, 1, 66), (66, .getfield 348, 3, 69), (69, .ireturn, 1, 70), (70, .iconst (-1), 1, 71), (71, .ireturn, 1, 72)]
set_option maxRecDepth 20000 in
theorem D_Model_count {i pc n npc : Nat} {ins : Instr} (h : K_Model_count[i]? = some (pc, ins, n, npc)) : zD prog_11_method_96_code pc ins n npc := zDall (by decide +kernel) h
def K_Model_isShelf : List (Nat × Instr × Nat × Nat) := [(0, .iload_n 0, 1, 1), (1, .iconst 0, 1, 2), (2, .iconst 5, 1, 3), (3, .invokestatic 102, 3, 6), (6, .ireturn, 1, 7)]
set_option maxRecDepth 20000 in
theorem D_Model_isShelf {i pc n npc : Nat} {ins : Instr} (h : K_Model_isShelf[i]? = some (pc, ins, n, npc)) : zD prog_11_method_97_code pc ins n npc := zDall (by decide +kernel) h
def K_Model_keep : List (Nat × Instr × Nat × Nat) := [(0, .iload_n 1, 1, 1), (1, .invokestatic 112, 3, 4), (4, .ifCond .eq 16, 3, 7), (7, .iload_n 2, 1, 8), (8, .iconst (-1), 1, 9), (9, .if_icmp .eq 13, 3, 12), (12, .aload_n 0, 1, 13), (13, .iload_n 2, 1, 14), (14, .invokevirtual 387, 3, 17), (17, .ifCond .ne 5, 3, 20), (20, .iconst (-1), 1, 21), (21, .ireturn, 1, 22), (22, .aload_n 0, 1, 23), (23, .getfield 82, 3, 26), (26, .iload_n 1, 1, 27), (27, .iload_n 2, 1, 28), (28, .iastore, 1, 29), (29, .iconst 1, 1, 30), (30, .ireturn, 1, 31)]
set_option maxRecDepth 20000 in
theorem D_Model_keep {i pc n npc : Nat} {ins : Instr} (h : K_Model_keep[i]? = some (pc, ins, n, npc)) : zD prog_11_method_98_code pc ins n npc := zDall (by decide +kernel) h
def K_Model_row : List (Nat × Instr × Nat × Nat) := [(0, .iload_n 1, 1, 1), (1, .invokestatic 112, 3, 4), (4, .ifCond .eq 18, 3, 7), (7, .iload_n 2, 1, 8), (8, .iconst 0, 1, 9), (9, .iconst 4, 1, 10), (10, .invokestatic 102, 3, 13), (13, .ifCond .eq 9, 3, 16), (16, .iload_n 3, 1, 17), (17, .bipush 60, 2, 19), (19, .if_icmp .le 5, 3, 22), (22, .iconst (-1), 1, 23), (23, .ireturn, 1, 24), (24, .iload_n 3, 1, 25), (25, .ifCond .ge 6, 3, 28), (28, .bipush (-14), 2, 30), (30, .ireturn, 1, 31), (31, .aload_n 0, 1, 32), (32, .getfield 82, 3, 35), (35, .iload_n 1, 1, 36), (36, .bipush (-2), 2, 38), (38, .iload_n 2, 1, 39), (39, .isub, 1, 40), (40, .iastore, 1, 41), (41, .aload_n 0, 1, 42), (42, .getfield 85, 3, 45), (45, .iload_n 1, 1, 46), (46, .iload_n 3, 1, 47), (47, .iastore, 1, 48), (48, .bipush 60, 2, 50), (50, .iload_n 1, 1, 51), (51, .imul, 1, 52), (52, .istore 4, 2, 54), (54, .iload 4, 2, 56), (56, .bipush 60, 2, 58), (58, .iload_n 1, 1, 59), (59, .imul, 1, 60), (60, .bipush 60, 2, 62), (62, .iadd, 1, 63), (63, .if_icmp .ge 17, 3, 66), (66, .aload_n 0, 1, 67), (67, .getfield 88, 3, 70), (70, .iload 4, 2, 72), (72, .lconst 0, 1, 73), (73, .lastore, 1, 74), (74, .iinc 4 1, 3, 77), (77, .goto (-23), 3, 80), (80, .iconst 1, 1, 81), (81, .ireturn, 1, 82)]
set_option maxRecDepth 20000 in
theorem D_Model_row {i pc n npc : Nat} {ins : Instr} (h : K_Model_row[i]? = some (pc, ins, n, npc)) : zD prog_11_method_99_code pc ins n npc := zDall (by decide +kernel) h
def K_Model_whyNoPlace : List (Nat × Instr × Nat × Nat) := [(0, .iload_n 1, 1, 1), (1, .invokestatic 112, 3, 4), (4, .ifCond .ne 5, 3, 7), (7, .iconst (-1), 1, 8), (8, .ireturn, 1, 9), (9, .aload_n 0, 1, 10), (10, .getfield 82, 3, 13), (13, .iload_n 1, 1, 14), (14, .iaload, 1, 15), (15, .iconst (-1), 1, 16), (16, .if_icmp .ne 6, 3, 19), (19, .bipush (-11), 2, 21), (21, .ireturn, 1, 22), (22, .aload_n 0, 1, 23), (23, .getfield 82, 3, 26), (26, .iload_n 1, 1, 27), (27, .iaload, 1, 28), (28, .ifCond .lt 6, 3, 31), (31, .bipush (-12), 2, 33), (33, .ireturn, 1, 34), (34, .iload_n 2, 1, 35), (35, .iconst 0, 1, 36), (36, .aload_n 0, 1, 37), (37, .getfield 85, 3, 40), (40, .iload_n 1, 1, 41), (41, .iaload, 1, 42), (42, .iconst 1, 1, 43), (43, .isub, 1, 44), (44, .invokestatic 102, 3, 47), (47, .ifCond .eq 7, 3, 50), (50, .iconst 0, 1, 51), (51, .goto 5, 3, 54), (54, .bipush (-13), 2, 56), (56, .ireturn, 1, 57)]
set_option maxRecDepth 20000 in
theorem D_Model_whyNoPlace {i pc n npc : Nat} {ins : Instr} (h : K_Model_whyNoPlace[i]? = some (pc, ins, n, npc)) : zD prog_11_method_100_code pc ins n npc := zDall (by decide +kernel) h
def K_Model_put : List (Nat × Instr × Nat × Nat) := [(0, .aload_n 0, 1, 1), (1, .iload_n 1, 1, 2), (2, .iload_n 2, 1, 3), (3, .invokevirtual 393, 3, 6), (6, .istore 5, 2, 8), (8, .iload 5, 2, 10), (10, .ifCond .ge 6, 3, 13), (13, .iload 5, 2, 15), (15, .ireturn, 1, 16), (16, .bipush (-2), 2, 18), (18, .aload_n 0, 1, 19), (19, .getfield 82, 3, 22), (22, .iload_n 1, 1, 23), (23, .iaload, 1, 24), (24, .isub, 1, 25), (25, .istore 6, 2, 27), (27, .aload_n 0, 1, 28), (28, .getfield 88, 3, 31), (31, .bipush 60, 2, 33), (33, .iload_n 1, 1, 34), (34, .imul, 1, 35), (35, .iload_n 2, 1, 36), (36, .iadd, 1, 37), (37, .iload 6, 2, 39), (39, .ifCond .ne 10, 3, 42), (42, .lload_n 3, 1, 43), (43, .l2i, 1, 44), (44, .i2b, 1, 45), (45, .i2l, 1, 46), (46, .goto 49, 3, 49), (49, .iload 6, 2, 51), (51, .iconst 1, 1, 52), (52, .if_icmp .ne 10, 3, 55), (55, .lload_n 3, 1, 56), (56, .l2i, 1, 57), (57, .i2s, 1, 58), (58, .i2l, 1, 59), (59, .goto 36, 3, 62), (62, .iload 6, 2, 64), (64, .iconst 2, 1, 65), (65, .if_icmp .ne 9, 3, 68), (68, .lload_n 3, 1, 69), (69, .l2i, 1, 70), (70, .i2l, 1, 71), (71, .goto 24, 3, 74), (74, .iload 6, 2, 76), (76, .iconst 3, 1, 77), (77, .if_icmp .ne 7, 3, 80), (80, .lload_n 3, 1, 81), (81, .goto 14, 3, 84), (84, .lload_n 3, 1, 85), (85, .lconst 0, 1, 86), (86, .lcmp, 1, 87), (87, .ifCond .eq 7, 3, 90), (90, .lconst 1, 1, 91), (91, .goto 4, 3, 94), (94, .lconst 0, 1, 95), (95, .lastore, 1, 96), (96, .iconst 1, 1, 97), (97, .ireturn, 1, 98)]
set_option maxRecDepth 20000 in
theorem D_Model_put {i pc n npc : Nat} {ins : Instr} (h : K_Model_put[i]? = some (pc, ins, n, npc)) : zD prog_11_method_101_code pc ins n npc := zDall (by decide +kernel) h
def K_Model_element : List (Nat × Instr × Nat × Nat) := [(0, .aload_n 0, 1, 1), (1, .iload_n 1, 1, 2), (2, .iload_n 2, 1, 3), (3, .invokevirtual 393, 3, 6), (6, .ifCond .ge 9, 3, 9), (9, .ldc2_w 398, 3, 12), (12, .goto 14, 3, 15), (15, .aload_n 0, 1, 16), (16, .getfield 88, 3, 19), (19, .bipush 60, 2, 21), (21, .iload_n 1, 1, 22), (22, .imul, 1, 23), (23, .iload_n 2, 1, 24), (24, .iadd, 1, 25), (25, .laload, 1, 26), (26, .lreturn, 1, 27)]
set_option maxRecDepth 20000 in
theorem D_Model_element {i pc n npc : Nat} {ins : Instr} (h : K_Model_element[i]? = some (pc, ins, n, npc)) : zD prog_11_method_102_code pc ins n npc := zDall (by decide +kernel) h
def K_Model_shift : List (Nat × Instr × Nat × Nat) := [(0, .iload_n 1, 1, 1), (1, .invokestatic 112, 3, 4), (4, .ifCond .eq 10, 3, 7), (7, .iload_n 3, 1, 8), (8, .invokestatic 112, 3, 11), (11, .ifCond .ne 5, 3, 14), (14, .iconst (-1), 1, 15), (15, .ireturn, 1, 16), (16, .aload_n 0, 1, 17), (17, .getfield 82, 3, 20), (20, .iload_n 1, 1, 21), (21, .iaload, 1, 22), (22, .iconst (-1), 1, 23), (23, .if_icmp .eq 13, 3, 26), (26, .aload_n 0, 1, 27), (27, .getfield 82, 3, 30), (30, .iload_n 3, 1, 31), (31, .iaload, 1, 32), (32, .iconst (-1), 1, 33), (33, .if_icmp .ne 6, 3, 36), (36, .bipush (-11), 2, 38), (38, .ireturn, 1, 39), (39, .aload_n 0, 1, 40), (40, .getfield 82, 3, 43), (43, .iload_n 1, 1, 44), (44, .iaload, 1, 45), (45, .ifCond .ge 18, 3, 48), (48, .aload_n 0, 1, 49), (49, .getfield 82, 3, 52), (52, .iload_n 1, 1, 53), (53, .iaload, 1, 54), (54, .aload_n 0, 1, 55), (55, .getfield 82, 3, 58), (58, .iload_n 3, 1, 59), (59, .iaload, 1, 60), (60, .if_icmp .eq 6, 3, 63), (63, .bipush (-12), 2, 65), (65, .ireturn, 1, 66), (66, .iload 5, 2, 68), (68, .ifCond .lt 39, 3, 71), (71, .iload_n 2, 1, 72), (72, .ifCond .lt 35, 3, 75), (75, .iload 4, 2, 77), (77, .ifCond .lt 30, 3, 80), (80, .iload_n 2, 1, 81), (81, .aload_n 0, 1, 82), (82, .getfield 85, 3, 85), (85, .iload_n 1, 1, 86), (86, .iaload, 1, 87), (87, .iload 5, 2, 89), (89, .isub, 1, 90), (90, .if_icmp .gt 17, 3, 93), (93, .iload 4, 2, 95), (95, .aload_n 0, 1, 96), (96, .getfield 85, 3, 99), (99, .iload_n 3, 1, 100), (100, .iaload, 1, 101), (101, .iload 5, 2, 103), (103, .isub, 1, 104), (104, .if_icmp .le 6, 3, 107), (107, .bipush (-13), 2, 109), (109, .ireturn, 1, 110), (110, .iconst 0, 1, 111), (111, .istore 6, 2, 113), (113, .iload 6, 2, 115), (115, .iload 5, 2, 117), (117, .if_icmp .ge 30, 3, 120), (120, .aload_n 0, 1, 121), (121, .getfield 92, 3, 124), (124, .iload 6, 2, 126), (126, .aload_n 0, 1, 127), (127, .getfield 88, 3, 130), (130, .bipush 60, 2, 132), (132, .iload_n 1, 1, 133), (133, .imul, 1, 134), (134, .iload_n 2, 1, 135), (135, .iadd, 1, 136), (136, .iload 6, 2, 138), (138, .iadd, 1, 139), (139, .laload, 1, 140), (140, .lastore, 1, 141), (141, .iinc 6 1, 3, 144), (144, .goto (-31), 3, 147), (147, .iconst 0, 1, 148), (148, .istore 6, 2, 150), (150, .iload 6, 2, 152), (152, .iload 5, 2, 154), (154, .if_icmp .ge 31, 3, 157), (157, .aload_n 0, 1, 158), (158, .getfield 88, 3, 161), (161, .bipush 60, 2, 163), (163, .iload_n 3, 1, 164), (164, .imul, 1, 165), (165, .iload 4, 2, 167), (167, .iadd, 1, 168), (168, .iload 6, 2, 170), (170, .iadd, 1, 171), (171, .aload_n 0, 1, 172), (172, .getfield 92, 3, 175), (175, .iload 6, 2, 177), (177, .laload, 1, 178), (178, .lastore, 1, 179), (179, .iinc 6 1, 3, 182), (182, .goto (-32), 3, 185), (185, .iload 5, 2, 187), (187, .ireturn, 1, 188)]
set_option maxRecDepth 20000 in
theorem D_Model_shift {i pc n npc : Nat} {ins : Instr} (h : K_Model_shift[i]? = some (pc, ins, n, npc)) : zD prog_11_method_103_code pc ins n npc := zDall (by decide +kernel) h
def K_Model_taken : List (Nat × Instr × Nat × Nat) := [(0, .iload_n 1, 1, 1), (1, .invokestatic 112, 3, 4), (4, .ifCond .eq 13, 3, 7), (7, .iload_n 2, 1, 8), (8, .iconst 0, 1, 9), (9, .bipush 7, 2, 11), (11, .invokestatic 102, 3, 14), (14, .ifCond .ne 5, 3, 17), (17, .iconst (-1), 1, 18), (18, .ireturn, 1, 19), (19, .aload_n 0, 1, 20), (20, .getfield 82, 3, 23), (23, .iload_n 1, 1, 24), (24, .iaload, 1, 25), (25, .iconst (-1), 1, 26), (26, .if_icmp .ne 6, 3, 29), (29, .bipush (-11), 2, 31), (31, .ireturn, 1, 32), (32, .aload_n 0, 1, 33), (33, .getfield 82, 3, 36), (36, .iload_n 1, 1, 37), (37, .iaload, 1, 38), (38, .ifCond .lt 35, 3, 41), (41, .aload_n 0, 1, 42), (42, .getfield 76, 3, 45), (45, .aload_n 0, 1, 46), (46, .getfield 82, 3, 49), (49, .iload_n 1, 1, 50), (50, .iaload, 1, 51), (51, .iaload, 1, 52), (52, .iload_n 2, 1, 53), (53, .invokestatic 357, 3, 56), (56, .ifCond .eq 17, 3, 59), (59, .aload_n 0, 1, 60), (60, .getfield 76, 3, 63), (63, .aload_n 0, 1, 64), (64, .getfield 82, 3, 67), (67, .iload_n 1, 1, 68), (68, .iaload, 1, 69), (69, .iaload, 1, 70), (70, .goto 5, 3, 73), (73, .bipush (-12), 2, 75), (75, .ireturn, 1, 76)]
set_option maxRecDepth 20000 in
theorem D_Model_taken {i pc n npc : Nat} {ins : Instr} (h : K_Model_taken[i]? = some (pc, ins, n, npc)) : zD prog_11_method_104_code pc ins n npc := zDall (by decide +kernel) h
end
section
def K_Bodies_init : List (Nat × Instr × Nat × Nat) := [(0, .aload_n 0, 1, 1), (1, .invokespecial 3, 3, 4), (4, .aload_n 0, 1, 5), (5, .bipush 50, 2, 7), (7, .newarray .int, 2, 9), (9, .putfield 11, 3, 12), (12, .aload_n 0, 1, 13), (13, .bipush 24, 2, 15), (15, .newarray .int, 2, 17), (17, .putfield 15, 3, 20), (20, .return_, 1, 21)]
set_option maxRecDepth 20000 in
theorem D_Bodies_init {i pc n npc : Nat} {ins : Instr} (h : K_Bodies_init[i]? = some (pc, ins, n, npc)) : zD prog_2_method_1_code pc ins n npc := zDall (by decide +kernel) h
def K_Bodies_add : List (Nat × Instr × Nat × Nat) := [(0, .aload_n 0, 1, 1), (1, .getfield 18, 3, 4), (4, .bipush 50, 2, 6), (6, .if_icmp .lt 6, 3, 9), (9, .bipush (-3), 2, 11), (11, .ireturn, 1, 12), (12, .aload_n 0, 1, 13), (13, .getfield 11, 3, 16), (16, .aload_n 0, 1, 17), (17, .getfield 18, 3, 20), (20, .iload_n 1, 1, 21), (21, .iastore, 1, 22), (22, .aload_n 0, 1, 23), (23, .dup, 1, 24), (24, .getfield 18, 3, 27), (27, .iconst 1, 1, 28), (28, .iadd, 1, 29), (29, .putfield 18, 3, 32), (32, .aload_n 0, 1, 33), (33, .getfield 18, 3, 36), (36, .iconst 1, 1, 37), (37, .isub, 1, 38), (38, .ireturn, 1, 39)]
set_option maxRecDepth 20000 in
theorem D_Bodies_add {i pc n npc : Nat} {ins : Instr} (h : K_Bodies_add[i]? = some (pc, ins, n, npc)) : zD prog_2_method_2_code pc ins n npc := zDall (by decide +kernel) h
def K_Bodies_kindOf : List (Nat × Instr × Nat × Nat) := [(0, .iload_n 1, 1, 1), (1, .ifCond .lt 20, 3, 4), (4, .iload_n 1, 1, 5), (5, .aload_n 0, 1, 6), (6, .getfield 18, 3, 9), (9, .if_icmp .ge 12, 3, 12), (12, .aload_n 0, 1, 13), (13, .getfield 11, 3, 16), (16, .iload_n 1, 1, 17), (17, .iaload, 1, 18), (18, .goto 4, 3, 21), (21, .iconst (-1), 1, 22), (22, .ireturn, 1, 23)]
set_option maxRecDepth 20000 in
theorem D_Bodies_kindOf {i pc n npc : Nat} {ins : Instr} (h : K_Bodies_kindOf[i]? = some (pc, ins, n, npc)) : zD prog_2_method_3_code pc ins n npc := zDall (by decide +kernel) h
def K_Bodies_isUnder : List (Nat × Instr × Nat × Nat) := [(0, .iload_n 0, 1, 1), (1, .istore_n 2, 1, 2), (2, .iconst 0, 1, 3), (3, .istore_n 3, 1, 4), (4, .iload_n 3, 1, 5), (5, .bipush 8, 2, 7), (7, .if_icmp .ge 26, 3, 10), (10, .iload_n 2, 1, 11), (11, .ifCond .lt 22, 3, 14), (14, .iload_n 2, 1, 15), (15, .iload_n 1, 1, 16), (16, .if_icmp .ne 5, 3, 19), (19, .iconst 1, 1, 20), (20, .ireturn, 1, 21), (21, .getstatic 22, 3, 24), (24, .iload_n 2, 1, 25), (25, .iaload, 1, 26), (26, .istore_n 2, 1, 27), (27, .iinc 3 1, 3, 30), (30, .goto (-26), 3, 33), (33, .iconst 0, 1, 34), (34, .ireturn, 1, 35)]
set_option maxRecDepth 20000 in
theorem D_Bodies_isUnder {i pc n npc : Nat} {ins : Instr} (h : K_Bodies_isUnder[i]? = some (pc, ins, n, npc)) : zD prog_2_method_4_code pc ins n npc := zDall (by decide +kernel) h
def K_Bodies_traced : List (Nat × Instr × Nat × Nat) := [(0, .aload_n 0, 1, 1), (1, .getfield 25, 3, 4), (4, .bipush 24, 2, 6), (6, .invokestatic 28, 3, 9), (9, .ireturn, 1, 10)]
set_option maxRecDepth 20000 in
theorem D_Bodies_traced {i pc n npc : Nat} {ins : Instr} (h : K_Bodies_traced[i]? = some (pc, ins, n, npc)) : zD prog_2_method_5_code pc ins n npc := zDall (by decide +kernel) h
def K_Bodies_perform : List (Nat × Instr × Nat × Nat) := [(0, .aload_n 0, 1, 1), (1, .iconst 0, 1, 2), (2, .putfield 25, 3, 5), (5, .iload_n 1, 1, 6), (6, .ifCond .lt 20, 3, 9), (9, .iload_n 1, 1, 10), (10, .aload_n 0, 1, 11), (11, .getfield 18, 3, 14), (14, .if_icmp .ge 12, 3, 17), (17, .iload_n 2, 1, 18), (18, .ifCond .lt 8, 3, 21), (21, .iload_n 2, 1, 22), (22, .iconst 4, 1, 23), (23, .if_icmp .lt 5, 3, 26), (26, .iconst 0, 1, 27), (27, .ireturn, 1, 28), (28, .aload_n 0, 1, 29), (29, .iload_n 1, 1, 30), (30, .putfield 34, 3, 33), (33, .aload_n 0, 1, 34), (34, .aload_n 0, 1, 35), (35, .getfield 11, 3, 38), (38, .aload_n 0, 1, 39), (39, .getfield 34, 3, 42), (42, .iaload, 1, 43), (43, .iload_n 2, 1, 44), (44, .iload_n 3, 1, 45), (45, .iconst 0, 1, 46), (46, .invokevirtual 37, 3, 49), (49, .ireturn, 1, 50)]
set_option maxRecDepth 20000 in
theorem D_Bodies_perform {i pc n npc : Nat} {ins : Instr} (h : K_Bodies_perform[i]? = some (pc, ins, n, npc)) : zD prog_2_method_6_code pc ins n npc := zDall (by decide +kernel) h
def K_Bodies_runFrom : List (Nat × Instr × Nat × Nat) := [(0, .iload_n 1, 1, 1), (1, .istore 5, 2, 3), (3, .iconst 0, 1, 4), (4, .istore 6, 2, 6), (6, .iload 6, 2, 8), (8, .bipush 8, 2, 10), (10, .if_icmp .ge 51, 3, 13), (13, .iload 5, 2, 15), (15, .ifCond .lt 46, 3, 18), (18, .getstatic 41, 3, 21), (21, .iconst 4, 1, 22), (22, .iload 5, 2, 24), (24, .imul, 1, 25), (25, .iload_n 2, 1, 26), (26, .iadd, 1, 27), (27, .iaload, 1, 28), (28, .istore 7, 2, 30), (30, .iload 7, 2, 32), (32, .ifCond .eq 15, 3, 35), (35, .aload_n 0, 1, 36), (36, .iload 7, 2, 38), (38, .iload 5, 2, 40), (40, .iload_n 3, 1, 41), (41, .iload 4, 2, 43), (43, .invokevirtual 44, 3, 46), (46, .ireturn, 1, 47), (47, .getstatic 22, 3, 50), (50, .iload 5, 2, 52), (52, .iaload, 1, 53), (53, .istore 5, 2, 55), (55, .iinc 6 1, 3, 58), (58, .goto (-52), 3, 61), (61, .iconst 0, 1, 62), (62, .ireturn, 1, 63)]
set_option maxRecDepth 20000 in
theorem D_Bodies_runFrom {i pc n npc : Nat} {ins : Instr} (h : K_Bodies_runFrom[i]? = some (pc, ins, n, npc)) : zD prog_2_method_7_code pc ins n npc := zDall (by decide +kernel) h
def K_Bodies_run : List (Nat × Instr × Nat × Nat) := [(0, .iload 4, 2, 2), (2, .bipush 20, 2, 4), (4, .if_icmp .lt 5, 3, 7), (7, .iconst 0, 1, 8), (8, .ireturn, 1, 9), (9, .aload_n 0, 1, 10), (10, .getfield 25, 3, 13), (13, .bipush 24, 2, 15), (15, .if_icmp .ge 13, 3, 18), (18, .aload_n 0, 1, 19), (19, .getfield 15, 3, 22), (22, .aload_n 0, 1, 23), (23, .getfield 25, 3, 26), (26, .iload_n 1, 1, 27), (27, .iastore, 1, 28), (28, .aload_n 0, 1, 29), (29, .dup, 1, 30), (30, .getfield 25, 3, 33), (33, .iconst 1, 1, 34), (34, .iadd, 1, 35), (35, .putfield 25, 3, 38), (38, .aload_n 0, 1, 39), (39, .getfield 11, 3, 42), (42, .aload_n 0, 1, 43), (43, .getfield 34, 3, 46), (46, .iaload, 1, 47), (47, .istore 5, 2, 49), (49, .getstatic 22, 3, 52), (52, .iload_n 2, 1, 53), (53, .iaload, 1, 54), (54, .istore 6, 2, 56), (56, .iload 4, 2, 58), (58, .iconst 1, 1, 59), (59, .iadd, 1, 60), (60, .istore 7, 2, 62), (62, .iload_n 1, 1, 63), (63, .lookupswitch 317 #[(1, 121), (2, 128), (10, 150), (11, 163), (20, 170), (30, 183), (40, 195), (41, 208), (50, 221), (60, 234), (61, 256), (70, 269), (80, 282), (81, 304)], 121, 184), (184, .iload_n 3, 1, 185), (185, .aload_n 0, 1, 186), (186, .getfield 34, 3, 189), (189, .iadd, 1, 190), (190, .ireturn, 1, 191), (191, .aload_n 0, 1, 192), (192, .iload 5, 2, 194), (194, .iconst 1, 1, 195), (195, .iload_n 3, 1, 196), (196, .iload 7, 2, 198), (198, .invokevirtual 37, 3, 201), (201, .aload_n 0, 1, 202), (202, .iload 5, 2, 204), (204, .iconst 2, 1, 205), (205, .iconst 1, 1, 206), (206, .iload 7, 2, 208), (208, .invokevirtual 37, 3, 211), (211, .isub, 1, 212), (212, .ireturn, 1, 213), (213, .aload_n 0, 1, 214), (214, .iload 5, 2, 216), (216, .iconst 0, 1, 217), (217, .iload_n 3, 1, 218), (218, .iload 7, 2, 220), (220, .invokevirtual 37, 3, 223), (223, .iconst 2, 1, 224), (224, .imul, 1, 225), (225, .ireturn, 1, 226), (226, .iload_n 3, 1, 227), (227, .aload_n 0, 1, 228), (228, .getfield 34, 3, 231), (231, .ixor, 1, 232), (232, .ireturn, 1, 233), (233, .aload_n 0, 1, 234), (234, .iload 6, 2, 236), (236, .iconst 0, 1, 237), (237, .iload_n 3, 1, 238), (238, .iload 7, 2, 240), (240, .invokevirtual 37, 3, 243), (243, .iconst 3, 1, 244), (244, .iadd, 1, 245), (245, .ireturn, 1, 246), (246, .aload_n 0, 1, 247), (247, .iload 6, 2, 249), (249, .iconst 1, 1, 250), (250, .iload_n 3, 1, 251), (251, .iload 7, 2, 253), (253, .invokevirtual 37, 3, 256), (256, .ineg, 1, 257), (257, .ireturn, 1, 258), (258, .aload_n 0, 1, 259), (259, .iload 6, 2, 261), (261, .iconst 2, 1, 262), (262, .iload_n 3, 1, 263), (263, .iload 7, 2, 265), (265, .invokevirtual 37, 3, 268), (268, .iconst 3, 1, 269), (269, .imul, 1, 270), (270, .ireturn, 1, 271), (271, .aload_n 0, 1, 272), (272, .iload 6, 2, 274), (274, .iconst 1, 1, 275), (275, .iload_n 3, 1, 276), (276, .iconst 1, 1, 277), (277, .iadd, 1, 278), (278, .iload 7, 2, 280), (280, .invokevirtual 37, 3, 283), (283, .ireturn, 1, 284), (284, .aload_n 0, 1, 285), (285, .iload 6, 2, 287), (287, .iconst 3, 1, 288), (288, .iload_n 3, 1, 289), (289, .iload 7, 2, 291), (291, .invokevirtual 37, 3, 294), (294, .iconst 5, 1, 295), (295, .ixor, 1, 296), (296, .ireturn, 1, 297), (297, .aload_n 0, 1, 298), (298, .iload 6, 2, 300), (300, .iconst 2, 1, 301), (301, .iload_n 3, 1, 302), (302, .iload 7, 2, 304), (304, .invokevirtual 37, 3, 307), (307, .aload_n 0, 1, 308), (308, .iload 5, 2, 310), (310, .iconst 0, 1, 311), (311, .iconst 2, 1, 312), (312, .iload 7, 2, 314), (314, .invokevirtual 37, 3, 317), (317, .isub, 1, 318), (318, .ireturn, 1, 319), (319, .aload_n 0, 1, 320), (320, .iload 6, 2, 322), (322, .iconst 3, 1, 323), (323, .iload_n 3, 1, 324), (324, .iload 7, 2, 326), (326, .invokevirtual 37, 3, 329), (329, .iconst 1, 1, 330), (330, .iadd, 1, 331), (331, .ireturn, 1, 332), (332, .aload_n 0, 1, 333), (333, .iload 6, 2, 335), (335, .iconst 0, 1, 336), (336, .iload_n 3, 1, 337), (337, .iload 7, 2, 339), (339, .invokevirtual 37, 3, 342), (342, .iconst 2, 1, 343), (343, .imul, 1, 344), (344, .ireturn, 1, 345), (345, .aload_n 0, 1, 346), (346, .iload 6, 2, 348), (348, .iconst 1, 1, 349), (349, .iload_n 3, 1, 350), (350, .iload 7, 2, 352), (352, .invokevirtual 37, 3, 355), (355, .aload_n 0, 1, 356), (356, .iload 5, 2, 358), (358, .iconst 2, 1, 359), (359, .iconst 2, 1, 360), (360, .iload 7, 2, 362), (362, .invokevirtual 37, 3, 365), (365, .iadd, 1, 366), (366, .ireturn, 1, 367), (367, .aload_n 0, 1, 368), (368, .iload 6, 2, 370), (370, .iconst 0, 1, 371), (371, .iload_n 3, 1, 372), (372, .iload 7, 2, 374), (374, .invokevirtual 37, 3, 377), (377, .iconst 1, 1, 378), (378, .isub, 1, 379), (379, .ireturn, 1, 380), (380, .iconst 0, 1, 381), (381, .ireturn, 1, 382)]
set_option maxRecDepth 20000 in
theorem D_Bodies_run {i pc n npc : Nat} {ins : Instr} (h : K_Bodies_run[i]? = some (pc, ins, n, npc)) : zD prog_2_method_8_code pc ins n npc := zDall (by decide +kernel) h
def K_Cube_init : List (Nat × Instr × Nat × Nat) := [(0, .aload_n 0, 1, 1), (1, .invokespecial 3, 3, 4), (4, .aload_n 0, 1, 5), (5, .bipush 6, 2, 7), (7, .newarray .int, 2, 9), (9, .putfield 9, 3, 12), (12, .aload_n 0, 1, 13), (13, .bipush 16, 2, 15), (15, .putfield 15, 3, 18), (18, .return_, 1, 19)]
set_option maxRecDepth 20000 in
theorem D_Cube_init {i pc n npc : Nat} {ins : Instr} (h : K_Cube_init[i]? = some (pc, ins, n, npc)) : zD prog_3_method_1_code pc ins n npc := zDall (by decide +kernel) h
def K_Cube_seen : List (Nat × Instr × Nat × Nat) := [(0, .aload_n 0, 1, 1), (1, .getfield 9, 3, 4), (4, .getstatic 19, 3, 7), (7, .bipush 6, 2, 9), (9, .iload_n 1, 1, 10), (10, .imul, 1, 11), (11, .iload_n 2, 1, 12), (12, .iadd, 1, 13), (13, .iaload, 1, 14), (14, .iaload, 1, 15), (15, .ireturn, 1, 16)]
set_option maxRecDepth 20000 in
theorem D_Cube_seen {i pc n npc : Nat} {ins : Instr} (h : K_Cube_seen[i]? = some (pc, ins, n, npc)) : zD prog_3_method_2_code pc ins n npc := zDall (by decide +kernel) h
def K_Cube_endOf : List (Nat × Instr × Nat × Nat) := [(0, .iload_n 0, 1, 1), (1, .iconst 2, 1, 2), (2, .if_icmp .ne 7, 3, 5), (5, .iconst 4, 1, 6), (6, .goto 4, 3, 9), (9, .iload_n 0, 1, 10), (10, .ireturn, 1, 11)]
set_option maxRecDepth 20000 in
theorem D_Cube_endOf {i pc n npc : Nat} {ins : Instr} (h : K_Cube_endOf[i]? = some (pc, ins, n, npc)) : zD prog_3_method_3_code pc ins n npc := zDall (by decide +kernel) h
def K_Cube_line : List (Nat × Instr × Nat × Nat) := [(0, .iload_n 1, 1, 1), (1, .invokestatic 22, 3, 4), (4, .istore_n 2, 1, 5), (5, .aload_n 0, 1, 6), (6, .getfield 9, 3, 9), (9, .iload_n 2, 1, 10), (10, .iaload, 1, 11), (11, .istore_n 3, 1, 12), (12, .aload_n 0, 1, 13), (13, .getfield 9, 3, 16), (16, .getstatic 26, 3, 19), (19, .iload_n 2, 1, 20), (20, .iaload, 1, 21), (21, .iaload, 1, 22), (22, .istore 4, 2, 24), (24, .bipush 10, 2, 26), (26, .iload_n 3, 1, 27), (27, .iload 4, 2, 29), (29, .invokestatic 29, 3, 32), (32, .imul, 1, 33), (33, .iload_n 3, 1, 34), (34, .iload 4, 2, 36), (36, .invokestatic 35, 3, 39), (39, .iadd, 1, 40), (40, .ireturn, 1, 41)]
set_option maxRecDepth 20000 in
theorem D_Cube_line {i pc n npc : Nat} {ins : Instr} (h : K_Cube_line[i]? = some (pc, ins, n, npc)) : zD prog_3_method_4_code pc ins n npc := zDall (by decide +kernel) h
def K_Cube_turnsInto : List (Nat × Instr × Nat × Nat) := [(0, .iconst 0, 1, 1), (1, .istore_n 3, 1, 2), (2, .iload_n 3, 1, 3), (3, .bipush 24, 2, 5), (5, .if_icmp .ge 21, 3, 8), (8, .aload_n 0, 1, 9), (9, .aload_n 1, 1, 10), (10, .iload_n 3, 1, 11), (11, .iload_n 2, 1, 12), (12, .invokevirtual 38, 3, 15), (15, .ifCond .eq 5, 3, 18), (18, .iconst 1, 1, 19), (19, .ireturn, 1, 20), (20, .iinc 3 1, 3, 23), (23, .goto (-21), 3, 26), (26, .iconst 0, 1, 27), (27, .ireturn, 1, 28)]
set_option maxRecDepth 20000 in
theorem D_Cube_turnsInto {i pc n npc : Nat} {ins : Instr} (h : K_Cube_turnsInto[i]? = some (pc, ins, n, npc)) : zD prog_3_method_5_code pc ins n npc := zDall (by decide +kernel) h
def K_Cube_isLike : List (Nat × Instr × Nat × Nat) := [(0, .iconst 0, 1, 1), (1, .istore 4, 2, 3), (3, .iload 4, 2, 5), (5, .bipush 6, 2, 7), (7, .if_icmp .ge 78, 3, 10), (10, .getstatic 19, 3, 13), (13, .bipush 6, 2, 15), (15, .iload_n 2, 1, 16), (16, .imul, 1, 17), (17, .iload 4, 2, 19), (19, .iadd, 1, 20), (20, .iaload, 1, 21), (21, .istore 5, 2, 23), (23, .iload_n 3, 1, 24), (24, .ifCond .eq 19, 3, 27), (27, .iload 5, 2, 29), (29, .iconst 1, 1, 30), (30, .if_icmp .eq 9, 3, 33), (33, .iload 5, 2, 35), (35, .iconst 3, 1, 36), (36, .if_icmp .ne 7, 3, 39), (39, .iconst 1, 1, 40), (40, .goto 4, 3, 43), (43, .iconst 0, 1, 44), (44, .istore 6, 2, 46), (46, .aload_n 0, 1, 47), (47, .getfield 9, 3, 50), (50, .iload 6, 2, 52), (52, .ifCond .eq 12, 3, 55), (55, .getstatic 26, 3, 58), (58, .iload 5, 2, 60), (60, .iaload, 1, 61), (61, .goto 5, 3, 64), (64, .iload 5, 2, 66), (66, .iaload, 1, 67), (67, .aload_n 1, 1, 68), (68, .getfield 9, 3, 71), (71, .iload 4, 2, 73), (73, .iaload, 1, 74), (74, .if_icmp .eq 5, 3, 77), (77, .iconst 0, 1, 78), (78, .ireturn, 1, 79), (79, .iinc 4 1, 3, 82), (82, .goto (-79), 3, 85), (85, .iconst 1, 1, 86), (86, .ireturn, 1, 87)]
set_option maxRecDepth 20000 in
theorem D_Cube_isLike {i pc n npc : Nat} {ins : Instr} (h : K_Cube_isLike[i]? = some (pc, ins, n, npc)) : zD prog_3_method_6_code pc ins n npc := zDall (by decide +kernel) h
def K_Cube_turningsThatShow : List (Nat × Instr × Nat × Nat) := [(0, .iconst 0, 1, 1), (1, .istore_n 2, 1, 2), (2, .iconst 0, 1, 3), (3, .istore_n 3, 1, 4), (4, .iload_n 3, 1, 5), (5, .bipush 24, 2, 7), (7, .if_icmp .ge 57, 3, 10), (10, .aload_n 0, 1, 11), (11, .iload_n 3, 1, 12), (12, .iconst 4, 1, 13), (13, .iload_n 1, 1, 14), (14, .bipush 100, 2, 16), (16, .idiv, 1, 17), (17, .invokevirtual 42, 3, 20), (20, .ifCond .eq 38, 3, 23), (23, .aload_n 0, 1, 24), (24, .iload_n 3, 1, 25), (25, .iconst 0, 1, 26), (26, .iload_n 1, 1, 27), (27, .bipush 10, 2, 29), (29, .idiv, 1, 30), (30, .bipush 10, 2, 32), (32, .irem, 1, 33), (33, .invokevirtual 42, 3, 36), (36, .ifCond .eq 22, 3, 39), (39, .aload_n 0, 1, 40), (40, .iload_n 3, 1, 41), (41, .iconst 1, 1, 42), (42, .iload_n 1, 1, 43), (43, .bipush 10, 2, 45), (45, .irem, 1, 46), (46, .invokevirtual 42, 3, 49), (49, .ifCond .eq 9, 3, 52), (52, .iload_n 2, 1, 53), (53, .iconst 1, 1, 54), (54, .iload_n 3, 1, 55), (55, .ishl, 1, 56), (56, .ior, 1, 57), (57, .istore_n 2, 1, 58), (58, .iinc 3 1, 3, 61), (61, .goto (-57), 3, 64), (64, .iload_n 2, 1, 65), (65, .ireturn, 1, 66)]
set_option maxRecDepth 20000 in
theorem D_Cube_turningsThatShow {i pc n npc : Nat} {ins : Instr} (h : K_Cube_turningsThatShow[i]? = some (pc, ins, n, npc)) : zD prog_3_method_7_code pc ins n npc := zDall (by decide +kernel) h
def K_Cube_turningsWith : List (Nat × Instr × Nat × Nat) := [(0, .iconst 0, 1, 1), (1, .istore_n 3, 1, 2), (2, .iconst 0, 1, 3), (3, .istore 4, 2, 5), (5, .iload 4, 2, 7), (7, .bipush 24, 2, 9), (9, .if_icmp .ge 33, 3, 12), (12, .iload_n 2, 1, 13), (13, .bipush 6, 2, 15), (15, .if_icmp .eq 14, 3, 18), (18, .aload_n 0, 1, 19), (19, .iload 4, 2, 21), (21, .iload_n 1, 1, 22), (22, .iload_n 2, 1, 23), (23, .invokevirtual 42, 3, 26), (26, .ifCond .eq 10, 3, 29), (29, .iload_n 3, 1, 30), (30, .iconst 1, 1, 31), (31, .iload 4, 2, 33), (33, .ishl, 1, 34), (34, .ior, 1, 35), (35, .istore_n 3, 1, 36), (36, .iinc 4 1, 3, 39), (39, .goto (-34), 3, 42), (42, .iload_n 3, 1, 43), (43, .ireturn, 1, 44)]
set_option maxRecDepth 20000 in
theorem D_Cube_turningsWith {i pc n npc : Nat} {ins : Instr} (h : K_Cube_turningsWith[i]? = some (pc, ins, n, npc)) : zD prog_3_method_8_code pc ins n npc := zDall (by decide +kernel) h
def K_Cube_mayShow : List (Nat × Instr × Nat × Nat) := [(0, .aload_n 0, 1, 1), (1, .getstatic 19, 3, 4), (4, .bipush 6, 2, 6), (6, .iload_n 1, 1, 7), (7, .imul, 1, 8), (8, .iload_n 2, 1, 9), (9, .iadd, 1, 10), (10, .iaload, 1, 11), (11, .iload_n 3, 1, 12), (12, .invokevirtual 46, 3, 15), (15, .ireturn, 1, 16)]
set_option maxRecDepth 20000 in
theorem D_Cube_mayShow {i pc n npc : Nat} {ins : Instr} (h : K_Cube_mayShow[i]? = some (pc, ins, n, npc)) : zD prog_3_method_9_code pc ins n npc := zDall (by decide +kernel) h
def K_Cube_mayBe : List (Nat × Instr × Nat × Nat) := [(0, .aload_n 0, 1, 1), (1, .getfield 9, 3, 4), (4, .iload_n 1, 1, 5), (5, .iaload, 1, 6), (6, .iload_n 2, 1, 7), (7, .if_icmp .eq 14, 3, 10), (10, .aload_n 0, 1, 11), (11, .getfield 9, 3, 14), (14, .iload_n 1, 1, 15), (15, .iaload, 1, 16), (16, .bipush 6, 2, 18), (18, .if_icmp .ne 7, 3, 21), (21, .iconst 1, 1, 22), (22, .goto 4, 3, 25), (25, .iconst 0, 1, 26), (26, .ireturn, 1, 27)]
set_option maxRecDepth 20000 in
theorem D_Cube_mayBe {i pc n npc : Nat} {ins : Instr} (h : K_Cube_mayBe[i]? = some (pc, ins, n, npc)) : zD prog_3_method_10_code pc ins n npc := zDall (by decide +kernel) h
def K_Cube_hasCornerOf : List (Nat × Instr × Nat × Nat) := [(0, .iconst 0, 1, 1), (1, .istore_n 2, 1, 2), (2, .iload_n 2, 1, 3), (3, .iconst 3, 1, 4), (4, .if_icmp .ge 38, 3, 7), (7, .iload_n 2, 1, 8), (8, .invokestatic 22, 3, 11), (11, .istore_n 3, 1, 12), (12, .aload_n 0, 1, 13), (13, .iload_n 3, 1, 14), (14, .iload_n 1, 1, 15), (15, .invokevirtual 46, 3, 18), (18, .ifCond .ne 18, 3, 21), (21, .aload_n 0, 1, 22), (22, .getstatic 26, 3, 25), (25, .iload_n 3, 1, 26), (26, .iaload, 1, 27), (27, .iload_n 1, 1, 28), (28, .invokevirtual 46, 3, 31), (31, .ifCond .ne 5, 3, 34), (34, .iconst 0, 1, 35), (35, .ireturn, 1, 36), (36, .iinc 2 1, 3, 39), (39, .goto (-37), 3, 42), (42, .iconst 1, 1, 43), (43, .ireturn, 1, 44)]
set_option maxRecDepth 20000 in
theorem D_Cube_hasCornerOf {i pc n npc : Nat} {ins : Instr} (h : K_Cube_hasCornerOf[i]? = some (pc, ins, n, npc)) : zD prog_3_method_11_code pc ins n npc := zDall (by decide +kernel) h
def K_Law_init : List (Nat × Instr × Nat × Nat) := [(0, .aload_n 0, 1, 1), (1, .invokespecial 3, 3, 4), (4, .aload_n 0, 1, 5), (5, .bipush 120, 2, 7), (7, .newarray .int, 2, 9), (9, .putfield 11, 3, 12), (12, .aload_n 0, 1, 13), (13, .bipush 121, 2, 15), (15, .newarray .int, 2, 17), (17, .putfield 15, 3, 20), (20, .aload_n 0, 1, 21), (21, .bipush 121, 2, 23), (23, .newarray .int, 2, 25), (25, .putfield 18, 3, 28), (28, .aload_n 0, 1, 29), (29, .bipush 121, 2, 31), (31, .newarray .int, 2, 33), (33, .putfield 21, 3, 36), (36, .aload_n 0, 1, 37), (37, .sipush 1176, 3, 40), (40, .newarray .boolean, 2, 42), (42, .putfield 24, 3, 45), (45, .aload_n 0, 1, 46), (46, .invokevirtual 28, 3, 49), (49, .return_, 1, 50)]
set_option maxRecDepth 20000 in
theorem D_Law_init {i pc n npc : Nat} {ins : Instr} (h : K_Law_init[i]? = some (pc, ins, n, npc)) : zD prog_4_method_1_code pc ins n npc := zDall (by decide +kernel) h
def K_Law_takeByte : List (Nat × Instr × Nat × Nat) := [(0, .aload_n 0, 1, 1), (1, .getfield 31, 3, 4), (4, .bipush 120, 2, 6), (6, .if_icmp .lt 6, 3, 9), (9, .bipush (-3), 2, 11), (11, .ireturn, 1, 12), (12, .aload_n 0, 1, 13), (13, .getfield 11, 3, 16), (16, .aload_n 0, 1, 17), (17, .getfield 31, 3, 20), (20, .iload_n 1, 1, 21), (21, .iastore, 1, 22), (22, .aload_n 0, 1, 23), (23, .dup, 1, 24), (24, .getfield 31, 3, 27), (27, .iconst 1, 1, 28), (28, .iadd, 1, 29), (29, .putfield 31, 3, 32), (32, .aload_n 0, 1, 33), (33, .getfield 31, 3, 36), (36, .ireturn, 1, 37)]
set_option maxRecDepth 20000 in
theorem D_Law_takeByte {i pc n npc : Nat} {ins : Instr} (h : K_Law_takeByte[i]? = some (pc, ins, n, npc)) : zD prog_4_method_2_code pc ins n npc := zDall (by decide +kernel) h
def K_Law_takeTape : List (Nat × Instr × Nat × Nat) := [(0, .aload_n 0, 1, 1), (1, .iconst 0, 1, 2), (2, .putfield 35, 3, 5), (5, .aload_n 0, 1, 6), (6, .iconst 0, 1, 7), (7, .putfield 38, 3, 10), (10, .aload_n 0, 1, 11), (11, .invokevirtual 41, 3, 14), (14, .istore_n 1, 1, 15), (15, .aload_n 0, 1, 16), (16, .iconst 0, 1, 17), (17, .putfield 31, 3, 20), (20, .iload_n 1, 1, 21), (21, .ifCond .ne 11, 3, 24), (24, .bipush (-100), 2, 26), (26, .aload_n 0, 1, 27), (27, .getfield 35, 3, 30), (30, .isub, 1, 31), (31, .ireturn, 1, 32), (32, .aload_n 0, 1, 33), (33, .getfield 18, 3, 36), (36, .astore_n 2, 1, 37), (37, .aload_n 0, 1, 38), (38, .aload_n 0, 1, 39), (39, .getfield 15, 3, 42), (42, .putfield 18, 3, 45), (45, .aload_n 0, 1, 46), (46, .aload_n 2, 1, 47), (47, .putfield 15, 3, 50), (50, .aload_n 0, 1, 51), (51, .aload_n 0, 1, 52), (52, .getfield 38, 3, 55), (55, .putfield 45, 3, 58), (58, .aload_n 0, 1, 59), (59, .invokevirtual 28, 3, 62), (62, .iconst 1, 1, 63), (63, .ireturn, 1, 64)]
set_option maxRecDepth 20000 in
theorem D_Law_takeTape {i pc n npc : Nat} {ins : Instr} (h : K_Law_takeTape[i]? = some (pc, ins, n, npc)) : zD prog_4_method_3_code pc ins n npc := zDall (by decide +kernel) h
def K_Law_peek : List (Nat × Instr × Nat × Nat) := [(0, .aload_n 0, 1, 1), (1, .getfield 35, 3, 4), (4, .aload_n 0, 1, 5), (5, .getfield 31, 3, 8), (8, .if_icmp .ge 15, 3, 11), (11, .aload_n 0, 1, 12), (12, .getfield 11, 3, 15), (15, .aload_n 0, 1, 16), (16, .getfield 35, 3, 19), (19, .iaload, 1, 20), (20, .goto 4, 3, 23), (23, .iconst (-1), 1, 24), (24, .ireturn, 1, 25)]
set_option maxRecDepth 20000 in
theorem D_Law_peek {i pc n npc : Nat} {ins : Instr} (h : K_Law_peek[i]? = some (pc, ins, n, npc)) : zD prog_4_method_4_code pc ins n npc := zDall (by decide +kernel) h
def K_Law_emit : List (Nat × Instr × Nat × Nat) := [(0, .aload_n 0, 1, 1), (1, .getfield 38, 3, 4), (4, .aload_n 0, 1, 5), (5, .getfield 15, 3, 8), (8, .arraylength, 1, 9), (9, .if_icmp .ge 23, 3, 12), (12, .aload_n 0, 1, 13), (13, .getfield 15, 3, 16), (16, .aload_n 0, 1, 17), (17, .getfield 38, 3, 20), (20, .iload_n 1, 1, 21), (21, .iastore, 1, 22), (22, .aload_n 0, 1, 23), (23, .dup, 1, 24), (24, .getfield 38, 3, 27), (27, .iconst 1, 1, 28), (28, .iadd, 1, 29), (29, .putfield 38, 3, 32), (32, .return_, 1, 33)]
set_option maxRecDepth 20000 in
theorem D_Law_emit {i pc n npc : Nat} {ins : Instr} (h : K_Law_emit[i]? = some (pc, ins, n, npc)) : zD prog_4_method_5_code pc ins n npc := zDall (by decide +kernel) h
def K_Law_readText : List (Nat × Instr × Nat × Nat) := [(0, .iconst 0, 1, 1), (1, .istore_n 1, 1, 2), (2, .iload_n 1, 1, 3), (3, .bipush 120, 2, 5), (5, .if_icmp .gt 52, 3, 8), (8, .aload_n 0, 1, 9), (9, .invokevirtual 48, 3, 12), (12, .ifCond .ne 5, 3, 15), (15, .iconst 0, 1, 16), (16, .ireturn, 1, 17), (17, .aload_n 0, 1, 18), (18, .getfield 35, 3, 21), (21, .aload_n 0, 1, 22), (22, .getfield 31, 3, 25), (25, .if_icmp .lt 5, 3, 28), (28, .iconst 1, 1, 29), (29, .ireturn, 1, 30), (30, .aload_n 0, 1, 31), (31, .invokevirtual 51, 3, 34), (34, .bipush 59, 2, 36), (36, .if_icmp .eq 5, 3, 39), (39, .iconst 0, 1, 40), (40, .ireturn, 1, 41), (41, .aload_n 0, 1, 42), (42, .dup, 1, 43), (43, .getfield 35, 3, 46), (46, .iconst 1, 1, 47), (47, .iadd, 1, 48), (48, .putfield 35, 3, 51), (51, .iinc 1 1, 3, 54), (54, .goto (-52), 3, 57), (57, .iconst 0, 1, 58), (58, .ireturn, 1, 59)]
set_option maxRecDepth 20000 in
theorem D_Law_readText {i pc n npc : Nat} {ins : Instr} (h : K_Law_readText[i]? = some (pc, ins, n, npc)) : zD prog_4_method_6_code pc ins n npc := zDall (by decide +kernel) h
def K_Law_readLine : List (Nat × Instr × Nat × Nat) := [(0, .aload_n 0, 1, 1), (1, .iconst 0, 1, 2), (2, .iconst 0, 1, 3), (3, .invokevirtual 55, 3, 6), (6, .ifCond .ne 5, 3, 9), (9, .iconst 0, 1, 10), (10, .ireturn, 1, 11), (11, .aload_n 0, 1, 12), (12, .invokevirtual 51, 3, 15), (15, .bipush 63, 2, 17), (17, .if_icmp .eq 11, 3, 20), (20, .aload_n 0, 1, 21), (21, .bipush (-59), 2, 23), (23, .invokevirtual 59, 3, 26), (26, .iconst 1, 1, 27), (27, .ireturn, 1, 28), (28, .aload_n 0, 1, 29), (29, .dup, 1, 30), (30, .getfield 35, 3, 33), (33, .iconst 1, 1, 34), (34, .iadd, 1, 35), (35, .putfield 35, 3, 38), (38, .aload_n 0, 1, 39), (39, .iconst 0, 1, 40), (40, .iconst 0, 1, 41), (41, .invokevirtual 55, 3, 44), (44, .ifCond .ne 5, 3, 47), (47, .iconst 0, 1, 48), (48, .ireturn, 1, 49), (49, .aload_n 0, 1, 50), (50, .bipush (-63), 2, 52), (52, .invokevirtual 59, 3, 55), (55, .iconst 1, 1, 56), (56, .ireturn, 1, 57)]
set_option maxRecDepth 20000 in
theorem D_Law_readLine {i pc n npc : Nat} {ins : Instr} (h : K_Law_readLine[i]? = some (pc, ins, n, npc)) : zD prog_4_method_7_code pc ins n npc := zDall (by decide +kernel) h
def K_Law_readLevel : List (Nat × Instr × Nat × Nat) := [(0, .iload_n 1, 1, 1), (1, .iconst 5, 1, 2), (2, .if_icmp .lt 9, 3, 5), (5, .aload_n 0, 1, 6), (6, .iload_n 2, 1, 7), (7, .invokevirtual 63, 3, 10), (10, .ireturn, 1, 11), (11, .aload_n 0, 1, 12), (12, .iload_n 1, 1, 13), (13, .iconst 1, 1, 14), (14, .iadd, 1, 15), (15, .iload_n 2, 1, 16), (16, .invokevirtual 55, 3, 19), (19, .ifCond .ne 5, 3, 22), (22, .iconst 0, 1, 23), (23, .ireturn, 1, 24), (24, .iload_n 1, 1, 25), (25, .iconst 2, 1, 26), (26, .if_icmp .ne 7, 3, 29), (29, .iconst 1, 1, 30), (30, .goto 5, 3, 33), (33, .bipush 120, 2, 35), (35, .istore_n 3, 1, 36), (36, .iconst 0, 1, 37), (37, .istore 4, 2, 39), (39, .iload 4, 2, 41), (41, .iload_n 3, 1, 42), (42, .if_icmp .ge 56, 3, 45), (45, .aload_n 0, 1, 46), (46, .invokevirtual 51, 3, 49), (49, .iload_n 1, 1, 50), (50, .invokestatic 67, 3, 53), (53, .ifCond .eq 45, 3, 56), (56, .aload_n 0, 1, 57), (57, .invokevirtual 51, 3, 60), (60, .istore 5, 2, 62), (62, .aload_n 0, 1, 63), (63, .dup, 1, 64), (64, .getfield 35, 3, 67), (67, .iconst 1, 1, 68), (68, .iadd, 1, 69), (69, .putfield 35, 3, 72), (72, .aload_n 0, 1, 73), (73, .iload_n 1, 1, 74), (74, .iconst 1, 1, 75), (75, .iadd, 1, 76), (76, .iload_n 2, 1, 77), (77, .invokevirtual 55, 3, 80), (80, .ifCond .ne 5, 3, 83), (83, .iconst 0, 1, 84), (84, .ireturn, 1, 85), (85, .aload_n 0, 1, 86), (86, .iload 5, 2, 88), (88, .ineg, 1, 89), (89, .invokevirtual 59, 3, 92), (92, .iinc 4 1, 3, 95), (95, .goto (-56), 3, 98), (98, .iconst 1, 1, 99), (99, .ireturn, 1, 100)]
set_option maxRecDepth 20000 in
theorem D_Law_readLevel {i pc n npc : Nat} {ins : Instr} (h : K_Law_readLevel[i]? = some (pc, ins, n, npc)) : zD prog_4_method_8_code pc ins n npc := zDall (by decide +kernel) h
def K_Law_isJoin : List (Nat × Instr × Nat × Nat) := [(0, .iload_n 0, 1, 1), (1, .lookupswitch 145 #[(37, 134), (38, 101), (42, 134), (43, 123), (45, 123), (47, 134), (60, 112), (61, 112), (62, 112), (124, 91)], 91, 92), (92, .iload_n 1, 1, 93), (93, .ifCond .ne 7, 3, 96), (96, .iconst 1, 1, 97), (97, .goto 4, 3, 100), (100, .iconst 0, 1, 101), (101, .ireturn, 1, 102), (102, .iload_n 1, 1, 103), (103, .iconst 1, 1, 104), (104, .if_icmp .ne 7, 3, 107), (107, .iconst 1, 1, 108), (108, .goto 4, 3, 111), (111, .iconst 0, 1, 112), (112, .ireturn, 1, 113), (113, .iload_n 1, 1, 114), (114, .iconst 2, 1, 115), (115, .if_icmp .ne 7, 3, 118), (118, .iconst 1, 1, 119), (119, .goto 4, 3, 122), (122, .iconst 0, 1, 123), (123, .ireturn, 1, 124), (124, .iload_n 1, 1, 125), (125, .iconst 3, 1, 126), (126, .if_icmp .ne 7, 3, 129), (129, .iconst 1, 1, 130), (130, .goto 4, 3, 133), (133, .iconst 0, 1, 134), (134, .ireturn, 1, 135), (135, .iload_n 1, 1, 136), (136, .iconst 4, 1, 137), (137, .if_icmp .ne 7, 3, 140), (140, .iconst 1, 1, 141), (141, .goto 4, 3, 144), (144, .iconst 0, 1, 145), (145, .ireturn, 1, 146), (146, .iconst 0, 1, 147), (147, .ireturn, 1, 148)]
set_option maxRecDepth 20000 in
theorem D_Law_isJoin {i pc n npc : Nat} {ins : Instr} (h : K_Law_isJoin[i]? = some (pc, ins, n, npc)) : zD prog_4_method_9_code pc ins n npc := zDall (by decide +kernel) h
def K_Law_readOperand : List (Nat × Instr × Nat × Nat) := [(0, .aload_n 0, 1, 1), (1, .invokevirtual 51, 3, 4), (4, .istore_n 2, 1, 5), (5, .iload_n 2, 1, 6), (6, .invokestatic 70, 3, 9), (9, .ifCond .eq 9, 3, 12), (12, .aload_n 0, 1, 13), (13, .invokevirtual 73, 3, 16), (16, .iconst 1, 1, 17), (17, .ireturn, 1, 18), (18, .iload_n 2, 1, 19), (19, .invokestatic 76, 3, 22), (22, .ifCond .eq 21, 3, 25), (25, .aload_n 0, 1, 26), (26, .dup, 1, 27), (27, .getfield 35, 3, 30), (30, .iconst 1, 1, 31), (31, .iadd, 1, 32), (32, .putfield 35, 3, 35), (35, .aload_n 0, 1, 36), (36, .iload_n 2, 1, 37), (37, .ineg, 1, 38), (38, .invokevirtual 59, 3, 41), (41, .iconst 1, 1, 42), (42, .ireturn, 1, 43), (43, .iload_n 2, 1, 44), (44, .bipush 40, 2, 46), (46, .if_icmp .eq 15, 3, 49), (49, .iload_n 2, 1, 50), (50, .bipush 33, 2, 52), (52, .if_icmp .eq 9, 3, 55), (55, .iload_n 2, 1, 56), (56, .bipush 45, 2, 58), (58, .if_icmp .ne 9, 3, 61), (61, .iload_n 1, 1, 62), (62, .bipush 6, 2, 64), (64, .if_icmp .lt 5, 3, 67), (67, .iconst 0, 1, 68), (68, .ireturn, 1, 69), (69, .aload_n 0, 1, 70), (70, .dup, 1, 71), (71, .getfield 35, 3, 74), (74, .iconst 1, 1, 75), (75, .iadd, 1, 76), (76, .putfield 35, 3, 79), (79, .iload_n 2, 1, 80), (80, .bipush 40, 2, 82), (82, .if_icmp .ne 13, 3, 85), (85, .aload_n 0, 1, 86), (86, .iload_n 1, 1, 87), (87, .iconst 1, 1, 88), (88, .iadd, 1, 89), (89, .invokevirtual 79, 3, 92), (92, .goto 11, 3, 95), (95, .aload_n 0, 1, 96), (96, .iload_n 2, 1, 97), (97, .iload_n 1, 1, 98), (98, .iconst 1, 1, 99), (99, .iadd, 1, 100), (100, .invokevirtual 82, 3, 103), (103, .ireturn, 1, 104)]
set_option maxRecDepth 20000 in
theorem D_Law_readOperand {i pc n npc : Nat} {ins : Instr} (h : K_Law_readOperand[i]? = some (pc, ins, n, npc)) : zD prog_4_method_10_code pc ins n npc := zDall (by decide +kernel) h
def K_Law_readInside : List (Nat × Instr × Nat × Nat) := [(0, .aload_n 0, 1, 1), (1, .iconst 0, 1, 2), (2, .iload_n 1, 1, 3), (3, .invokevirtual 55, 3, 6), (6, .ifCond .eq 12, 3, 9), (9, .aload_n 0, 1, 10), (10, .invokevirtual 51, 3, 13), (13, .bipush 41, 2, 15), (15, .if_icmp .eq 5, 3, 18), (18, .iconst 0, 1, 19), (19, .ireturn, 1, 20), (20, .aload_n 0, 1, 21), (21, .dup, 1, 22), (22, .getfield 35, 3, 25), (25, .iconst 1, 1, 26), (26, .iadd, 1, 27), (27, .putfield 35, 3, 30), (30, .iconst 1, 1, 31), (31, .ireturn, 1, 32)]
set_option maxRecDepth 20000 in
theorem D_Law_readInside {i pc n npc : Nat} {ins : Instr} (h : K_Law_readInside[i]? = some (pc, ins, n, npc)) : zD prog_4_method_11_code pc ins n npc := zDall (by decide +kernel) h
def K_Law_readTurned : List (Nat × Instr × Nat × Nat) := [(0, .aload_n 0, 1, 1), (1, .iload_n 2, 1, 2), (2, .invokevirtual 63, 3, 5), (5, .ifCond .ne 5, 3, 8), (8, .iconst 0, 1, 9), (9, .ireturn, 1, 10), (10, .aload_n 0, 1, 11), (11, .iload_n 1, 1, 12), (12, .bipush 45, 2, 14), (14, .if_icmp .ne 8, 3, 17), (17, .bipush (-126), 2, 19), (19, .goto 5, 3, 22), (22, .iload_n 1, 1, 23), (23, .ineg, 1, 24), (24, .invokevirtual 59, 3, 27), (27, .iconst 1, 1, 28), (28, .ireturn, 1, 29)]
set_option maxRecDepth 20000 in
theorem D_Law_readTurned {i pc n npc : Nat} {ins : Instr} (h : K_Law_readTurned[i]? = some (pc, ins, n, npc)) : zD prog_4_method_12_code pc ins n npc := zDall (by decide +kernel) h
def K_Law_readNumber : List (Nat × Instr × Nat × Nat) := [(0, .iconst 0, 1, 1), (1, .istore_n 1, 1, 2), (2, .iconst 0, 1, 3), (3, .istore_n 2, 1, 4), (4, .iload_n 2, 1, 5), (5, .iconst 4, 1, 6), (6, .if_icmp .ge 42, 3, 9), (9, .aload_n 0, 1, 10), (10, .invokevirtual 51, 3, 13), (13, .invokestatic 70, 3, 16), (16, .ifCond .eq 32, 3, 19), (19, .bipush 10, 2, 21), (21, .iload_n 1, 1, 22), (22, .imul, 1, 23), (23, .aload_n 0, 1, 24), (24, .invokevirtual 51, 3, 27), (27, .iadd, 1, 28), (28, .bipush 48, 2, 30), (30, .isub, 1, 31), (31, .istore_n 1, 1, 32), (32, .aload_n 0, 1, 33), (33, .dup, 1, 34), (34, .getfield 35, 3, 37), (37, .iconst 1, 1, 38), (38, .iadd, 1, 39), (39, .putfield 35, 3, 42), (42, .iinc 2 1, 3, 45), (45, .goto (-41), 3, 48), (48, .aload_n 0, 1, 49), (49, .iload_n 1, 1, 50), (50, .invokevirtual 59, 3, 53), (53, .return_, 1, 54)]
set_option maxRecDepth 20000 in
theorem D_Law_readNumber {i pc n npc : Nat} {ins : Instr} (h : K_Law_readNumber[i]? = some (pc, ins, n, npc)) : zD prog_4_method_13_code pc ins n npc := zDall (by decide +kernel) h
def K_Law_isDigit : List (Nat × Instr × Nat × Nat) := [(0, .iload_n 0, 1, 1), (1, .bipush 48, 2, 3), (3, .if_icmp .lt 13, 3, 6), (6, .iload_n 0, 1, 7), (7, .bipush 57, 2, 9), (9, .if_icmp .gt 7, 3, 12), (12, .iconst 1, 1, 13), (13, .goto 4, 3, 16), (16, .iconst 0, 1, 17), (17, .ireturn, 1, 18)]
set_option maxRecDepth 20000 in
theorem D_Law_isDigit {i pc n npc : Nat} {ins : Instr} (h : K_Law_isDigit[i]? = some (pc, ins, n, npc)) : zD prog_4_method_14_code pc ins n npc := zDall (by decide +kernel) h
def K_Law_isName : List (Nat × Instr × Nat × Nat) := [(0, .iload_n 0, 1, 1), (1, .bipush 97, 2, 3), (3, .if_icmp .eq 27, 3, 6), (6, .iload_n 0, 1, 7), (7, .bipush 98, 2, 9), (9, .if_icmp .eq 21, 3, 12), (12, .iload_n 0, 1, 13), (13, .bipush 115, 2, 15), (15, .if_icmp .eq 15, 3, 18), (18, .iload_n 0, 1, 19), (19, .bipush 105, 2, 21), (21, .if_icmp .eq 9, 3, 24), (24, .iload_n 0, 1, 25), (25, .bipush 106, 2, 27), (27, .if_icmp .ne 7, 3, 30), (30, .iconst 1, 1, 31), (31, .goto 4, 3, 34), (34, .iconst 0, 1, 35), (35, .ireturn, 1, 36)]
set_option maxRecDepth 20000 in
theorem D_Law_isName {i pc n npc : Nat} {ins : Instr} (h : K_Law_isName[i]? = some (pc, ins, n, npc)) : zD prog_4_method_15_code pc ins n npc := zDall (by decide +kernel) h
def K_Law_allows : List (Nat × Instr × Nat × Nat) := [(0, .aload_n 0, 1, 1), (1, .getfield 24, 3, 4), (4, .iload_n 1, 1, 5), (5, .iconst 4, 1, 6), (6, .imul, 1, 7), (7, .iload_n 2, 1, 8), (8, .iadd, 1, 9), (9, .bipush 7, 2, 11), (11, .imul, 1, 12), (12, .iload_n 3, 1, 13), (13, .iadd, 1, 14), (14, .bipush 7, 2, 16), (16, .imul, 1, 17), (17, .iload 4, 2, 19), (19, .iadd, 1, 20), (20, .baload, 1, 21), (21, .ireturn, 1, 22)]
set_option maxRecDepth 20000 in
theorem D_Law_allows {i pc n npc : Nat} {ins : Instr} (h : K_Law_allows[i]? = some (pc, ins, n, npc)) : zD prog_4_method_16_code pc ins n npc := zDall (by decide +kernel) h
def K_Law_workOutAll : List (Nat × Instr × Nat × Nat) := [(0, .iconst 0, 1, 1), (1, .istore_n 1, 1, 2), (2, .iload_n 1, 1, 3), (3, .aload_n 0, 1, 4), (4, .getfield 24, 3, 7), (7, .arraylength, 1, 8), (8, .if_icmp .ge 119, 3, 11), (11, .iload_n 1, 1, 12), (12, .sipush 196, 3, 15), (15, .idiv, 1, 16), (16, .istore_n 2, 1, 17), (17, .aload_n 0, 1, 18), (18, .iload_n 1, 1, 19), (19, .bipush 7, 2, 21), (21, .idiv, 1, 22), (22, .bipush 7, 2, 24), (24, .irem, 1, 25), (25, .putfield 85, 3, 28), (28, .aload_n 0, 1, 29), (29, .iload_n 1, 1, 30), (30, .bipush 7, 2, 32), (32, .irem, 1, 33), (33, .putfield 88, 3, 36), (36, .aload_n 0, 1, 37), (37, .iload_n 1, 1, 38), (38, .bipush 49, 2, 40), (40, .idiv, 1, 41), (41, .iconst 4, 1, 42), (42, .irem, 1, 43), (43, .putfield 91, 3, 46), (46, .aload_n 0, 1, 47), (47, .getstatic 94, 3, 50), (50, .iload_n 2, 1, 51), (51, .iaload, 1, 52), (52, .putfield 97, 3, 55), (55, .aload_n 0, 1, 56), (56, .getstatic 100, 3, 59), (59, .iload_n 2, 1, 60), (60, .iaload, 1, 61), (61, .putfield 103, 3, 64), (64, .aload_n 0, 1, 65), (65, .getfield 24, 3, 68), (68, .iload_n 1, 1, 69), (69, .aload_n 0, 1, 70), (70, .getfield 85, 3, 73), (73, .bipush 6, 2, 75), (75, .if_icmp .eq 40, 3, 78), (78, .aload_n 0, 1, 79), (79, .getfield 88, 3, 82), (82, .bipush 6, 2, 84), (84, .if_icmp .eq 31, 3, 87), (87, .aload_n 0, 1, 88), (88, .getfield 45, 3, 91), (91, .ifCond .ne 17, 3, 94), (94, .aload_n 0, 1, 95), (95, .getfield 85, 3, 98), (98, .aload_n 0, 1, 99), (99, .getfield 88, 3, 102), (102, .if_icmp .eq 17, 3, 105), (105, .goto 10, 3, 108), (108, .aload_n 0, 1, 109), (109, .invokevirtual 106, 3, 112), (112, .ifCond .eq 7, 3, 115), (115, .iconst 1, 1, 116), (116, .goto 4, 3, 119), (119, .iconst 0, 1, 120), (120, .bastore, 1, 121), (121, .iinc 1 1, 3, 124), (124, .goto (-122), 3, 127), (127, .return_, 1, 128)]
set_option maxRecDepth 20000 in
theorem D_Law_workOutAll {i pc n npc : Nat} {ins : Instr} (h : K_Law_workOutAll[i]? = some (pc, ins, n, npc)) : zD prog_4_method_17_code pc ins n npc := zDall (by decide +kernel) h
def K_Law_workedOut : List (Nat × Instr × Nat × Nat) := [(0, .iconst 0, 1, 1), (1, .istore_n 1, 1, 2), (2, .iconst 0, 1, 3), (3, .istore_n 2, 1, 4), (4, .iload_n 2, 1, 5), (5, .aload_n 0, 1, 6), (6, .getfield 45, 3, 9), (9, .if_icmp .ge 187, 3, 12), (12, .aload_n 0, 1, 13), (13, .getfield 18, 3, 16), (16, .iload_n 2, 1, 17), (17, .iaload, 1, 18), (18, .ineg, 1, 19), (19, .istore_n 3, 1, 20), (20, .iload_n 3, 1, 21), (21, .ifCond .le 10, 3, 24), (24, .iload_n 3, 1, 25), (25, .invokestatic 76, 3, 28), (28, .ifCond .eq 38, 3, 31), (31, .iload_n 1, 1, 32), (32, .aload_n 0, 1, 33), (33, .getfield 21, 3, 36), (36, .arraylength, 1, 37), (37, .if_icmp .ge 153, 3, 40), (40, .aload_n 0, 1, 41), (41, .getfield 21, 3, 44), (44, .iload_n 1, 1, 45), (45, .iload_n 3, 1, 46), (46, .ifCond .gt 8, 3, 49), (49, .iload_n 3, 1, 50), (50, .ineg, 1, 51), (51, .goto 8, 3, 54), (54, .aload_n 0, 1, 55), (55, .iload_n 3, 1, 56), (56, .invokevirtual 109, 3, 59), (59, .iastore, 1, 60), (60, .iinc 1 1, 3, 63), (63, .goto 127, 3, 66), (66, .iload_n 3, 1, 67), (67, .bipush 33, 2, 69), (69, .if_icmp .eq 9, 3, 72), (72, .iload_n 3, 1, 73), (73, .bipush 126, 2, 75), (75, .if_icmp .ne 31, 3, 78), (78, .iload_n 1, 1, 79), (79, .iconst 1, 1, 80), (80, .if_icmp .lt 110, 3, 83), (83, .aload_n 0, 1, 84), (84, .getfield 21, 3, 87), (87, .iload_n 1, 1, 88), (88, .iconst 1, 1, 89), (89, .isub, 1, 90), (90, .iload_n 3, 1, 91), (91, .aload_n 0, 1, 92), (92, .getfield 21, 3, 95), (95, .iload_n 1, 1, 96), (96, .iconst 1, 1, 97), (97, .isub, 1, 98), (98, .iaload, 1, 99), (99, .invokestatic 113, 3, 102), (102, .iastore, 1, 103), (103, .goto 87, 3, 106), (106, .iload_n 3, 1, 107), (107, .bipush 59, 2, 109), (109, .if_icmp .ne 21, 3, 112), (112, .iload_n 1, 1, 113), (113, .iconst 1, 1, 114), (114, .if_icmp .lt 14, 3, 117), (117, .aload_n 0, 1, 118), (118, .getfield 21, 3, 121), (121, .iload_n 1, 1, 122), (122, .iconst 1, 1, 123), (123, .isub, 1, 124), (124, .iaload, 1, 125), (125, .goto 4, 3, 128), (128, .iconst 0, 1, 129), (129, .ireturn, 1, 130), (130, .iload_n 1, 1, 131), (131, .iconst 2, 1, 132), (132, .if_icmp .lt 58, 3, 135), (135, .iinc 1 (-2), 3, 138), (138, .aload_n 0, 1, 139), (139, .getfield 21, 3, 142), (142, .iload_n 1, 1, 143), (143, .iaload, 1, 144), (144, .istore 4, 2, 146), (146, .aload_n 0, 1, 147), (147, .getfield 21, 3, 150), (150, .iload_n 1, 1, 151), (151, .iconst 1, 1, 152), (152, .iadd, 1, 153), (153, .iaload, 1, 154), (154, .istore 5, 2, 156), (156, .iload_n 3, 1, 157), (157, .bipush 63, 2, 159), (159, .if_icmp .eq 23, 3, 162), (162, .aload_n 0, 1, 163), (163, .getfield 21, 3, 166), (166, .iload_n 1, 1, 167), (167, .iload_n 3, 1, 168), (168, .iload 4, 2, 170), (170, .iload 5, 2, 172), (172, .invokestatic 117, 3, 175), (175, .iastore, 1, 176), (176, .iinc 1 1, 3, 179), (179, .goto 11, 3, 182), (182, .iload 4, 2, 184), (184, .ifCond .eq 6, 3, 187), (187, .iload 5, 2, 189), (189, .ireturn, 1, 190), (190, .iinc 2 1, 3, 193), (193, .goto (-189), 3, 196), (196, .iconst 0, 1, 197), (197, .ireturn, 1, 198)]
set_option maxRecDepth 20000 in
theorem D_Law_workedOut {i pc n npc : Nat} {ins : Instr} (h : K_Law_workedOut[i]? = some (pc, ins, n, npc)) : zD prog_4_method_18_code pc ins n npc := zDall (by decide +kernel) h
def K_Law_named : List (Nat × Instr × Nat × Nat) := [(0, .iload_n 1, 1, 1), (1, .lookupswitch 63 #[(97, 43), (98, 48), (105, 58), (115, 53)], 43, 44), (44, .aload_n 0, 1, 45), (45, .getfield 85, 3, 48), (48, .ireturn, 1, 49), (49, .aload_n 0, 1, 50), (50, .getfield 88, 3, 53), (53, .ireturn, 1, 54), (54, .aload_n 0, 1, 55), (55, .getfield 91, 3, 58), (58, .ireturn, 1, 59), (59, .aload_n 0, 1, 60), (60, .getfield 97, 3, 63), (63, .ireturn, 1, 64), (64, .aload_n 0, 1, 65), (65, .getfield 103, 3, 68), (68, .ireturn, 1, 69)]
set_option maxRecDepth 20000 in
theorem D_Law_named {i pc n npc : Nat} {ins : Instr} (h : K_Law_named[i]? = some (pc, ins, n, npc)) : zD prog_4_method_19_code pc ins n npc := zDall (by decide +kernel) h
def K_Law_turned : List (Nat × Instr × Nat × Nat) := [(0, .iload_n 0, 1, 1), (1, .bipush 126, 2, 3), (3, .if_icmp .ne 6, 3, 6), (6, .iload_n 1, 1, 7), (7, .ineg, 1, 8), (8, .ireturn, 1, 9), (9, .iload_n 1, 1, 10), (10, .ifCond .ne 7, 3, 13), (13, .iconst 1, 1, 14), (14, .goto 4, 3, 17), (17, .iconst 0, 1, 18), (18, .ireturn, 1, 19)]
set_option maxRecDepth 20000 in
theorem D_Law_turned {i pc n npc : Nat} {ins : Instr} (h : K_Law_turned[i]? = some (pc, ins, n, npc)) : zD prog_4_method_20_code pc ins n npc := zDall (by decide +kernel) h
def K_Law_joined : List (Nat × Instr × Nat × Nat) := [(0, .iload_n 0, 1, 1), (1, .lookupswitch 188 #[(37, 176), (38, 105), (42, 160), (43, 152), (45, 156), (47, 164), (60, 119), (61, 130), (62, 141), (124, 91)], 91, 92), (92, .iload_n 1, 1, 93), (93, .ifCond .ne 7, 3, 96), (96, .iload_n 2, 1, 97), (97, .ifCond .eq 7, 3, 100), (100, .iconst 1, 1, 101), (101, .goto 4, 3, 104), (104, .iconst 0, 1, 105), (105, .ireturn, 1, 106), (106, .iload_n 1, 1, 107), (107, .ifCond .eq 11, 3, 110), (110, .iload_n 2, 1, 111), (111, .ifCond .eq 7, 3, 114), (114, .iconst 1, 1, 115), (115, .goto 4, 3, 118), (118, .iconst 0, 1, 119), (119, .ireturn, 1, 120), (120, .iload_n 1, 1, 121), (121, .iload_n 2, 1, 122), (122, .if_icmp .ge 7, 3, 125), (125, .iconst 1, 1, 126), (126, .goto 4, 3, 129), (129, .iconst 0, 1, 130), (130, .ireturn, 1, 131), (131, .iload_n 1, 1, 132), (132, .iload_n 2, 1, 133), (133, .if_icmp .ne 7, 3, 136), (136, .iconst 1, 1, 137), (137, .goto 4, 3, 140), (140, .iconst 0, 1, 141), (141, .ireturn, 1, 142), (142, .iload_n 1, 1, 143), (143, .iload_n 2, 1, 144), (144, .if_icmp .le 7, 3, 147), (147, .iconst 1, 1, 148), (148, .goto 4, 3, 151), (151, .iconst 0, 1, 152), (152, .ireturn, 1, 153), (153, .iload_n 1, 1, 154), (154, .iload_n 2, 1, 155), (155, .iadd, 1, 156), (156, .ireturn, 1, 157), (157, .iload_n 1, 1, 158), (158, .iload_n 2, 1, 159), (159, .isub, 1, 160), (160, .ireturn, 1, 161), (161, .iload_n 1, 1, 162), (162, .iload_n 2, 1, 163), (163, .imul, 1, 164), (164, .ireturn, 1, 165), (165, .iload_n 2, 1, 166), (166, .ifCond .ne 7, 3, 169), (169, .iconst 0, 1, 170), (170, .goto 6, 3, 173), (173, .iload_n 1, 1, 174), (174, .iload_n 2, 1, 175), (175, .idiv, 1, 176), (176, .ireturn, 1, 177), (177, .iload_n 2, 1, 178), (178, .ifCond .ne 7, 3, 181), (181, .iconst 0, 1, 182), (182, .goto 6, 3, 185), (185, .iload_n 1, 1, 186), (186, .iload_n 2, 1, 187), (187, .irem, 1, 188), (188, .ireturn, 1, 189), (189, .iconst 0, 1, 190), (190, .ireturn, 1, 191)]
set_option maxRecDepth 20000 in
theorem D_Law_joined {i pc n npc : Nat} {ins : Instr} (h : K_Law_joined[i]? = some (pc, ins, n, npc)) : zD prog_4_method_21_code pc ins n npc := zDall (by decide +kernel) h
def K_Past_init : List (Nat × Instr × Nat × Nat) := [(0, .aload_n 0, 1, 1), (1, .invokespecial 1, 3, 4), (4, .aload_n 0, 1, 5), (5, .bipush 40, 2, 7), (7, .newarray .int, 2, 9), (9, .putfield 9, 3, 12), (12, .aload_n 0, 1, 13), (13, .bipush 40, 2, 15), (15, .newarray .int, 2, 17), (17, .putfield 13, 3, 20), (20, .aload_n 0, 1, 21), (21, .bipush 40, 2, 23), (23, .newarray .int, 2, 25), (25, .putfield 16, 3, 28), (28, .return_, 1, 29)]
set_option maxRecDepth 20000 in
theorem D_Past_init {i pc n npc : Nat} {ins : Instr} (h : K_Past_init[i]? = some (pc, ins, n, npc)) : zD prog_5_method_1_code pc ins n npc := zDall (by decide +kernel) h
def K_Past_add : List (Nat × Instr × Nat × Nat) := [(0, .aload_n 0, 1, 1), (1, .getfield 19, 3, 4), (4, .bipush 40, 2, 6), (6, .if_icmp .lt 7, 3, 9), (9, .aload_n 0, 1, 10), (10, .invokevirtual 23, 3, 13), (13, .aload_n 0, 1, 14), (14, .getfield 9, 3, 17), (17, .aload_n 0, 1, 18), (18, .getfield 19, 3, 21), (21, .iload_n 1, 1, 22), (22, .iastore, 1, 23), (23, .aload_n 0, 1, 24), (24, .getfield 13, 3, 27), (27, .aload_n 0, 1, 28), (28, .getfield 19, 3, 31), (31, .iload_n 2, 1, 32), (32, .iastore, 1, 33), (33, .aload_n 0, 1, 34), (34, .getfield 16, 3, 37), (37, .aload_n 0, 1, 38), (38, .getfield 19, 3, 41), (41, .iload_n 3, 1, 42), (42, .iastore, 1, 43), (43, .aload_n 0, 1, 44), (44, .dup, 1, 45), (45, .getfield 19, 3, 48), (48, .iconst 1, 1, 49), (49, .iadd, 1, 50), (50, .putfield 19, 3, 53), (53, .aload_n 0, 1, 54), (54, .aload_n 0, 1, 55), (55, .getfield 19, 3, 58), (58, .putfield 26, 3, 61), (61, .return_, 1, 62)]
set_option maxRecDepth 20000 in
theorem D_Past_add {i pc n npc : Nat} {ins : Instr} (h : K_Past_add[i]? = some (pc, ins, n, npc)) : zD prog_5_method_2_code pc ins n npc := zDall (by decide +kernel) h
def K_Past_forgetOldest : List (Nat × Instr × Nat × Nat) := [(0, .iconst 1, 1, 1), (1, .istore_n 1, 1, 2), (2, .iload_n 1, 1, 3), (3, .bipush 40, 2, 5), (5, .if_icmp .ge 51, 3, 8), (8, .aload_n 0, 1, 9), (9, .getfield 9, 3, 12), (12, .iload_n 1, 1, 13), (13, .iconst 1, 1, 14), (14, .isub, 1, 15), (15, .aload_n 0, 1, 16), (16, .getfield 9, 3, 19), (19, .iload_n 1, 1, 20), (20, .iaload, 1, 21), (21, .iastore, 1, 22), (22, .aload_n 0, 1, 23), (23, .getfield 13, 3, 26), (26, .iload_n 1, 1, 27), (27, .iconst 1, 1, 28), (28, .isub, 1, 29), (29, .aload_n 0, 1, 30), (30, .getfield 13, 3, 33), (33, .iload_n 1, 1, 34), (34, .iaload, 1, 35), (35, .iastore, 1, 36), (36, .aload_n 0, 1, 37), (37, .getfield 16, 3, 40), (40, .iload_n 1, 1, 41), (41, .iconst 1, 1, 42), (42, .isub, 1, 43), (43, .aload_n 0, 1, 44), (44, .getfield 16, 3, 47), (47, .iload_n 1, 1, 48), (48, .iaload, 1, 49), (49, .iastore, 1, 50), (50, .iinc 1 1, 3, 53), (53, .goto (-51), 3, 56), (56, .aload_n 0, 1, 57), (57, .bipush 39, 2, 59), (59, .putfield 19, 3, 62), (62, .return_, 1, 63)]
set_option maxRecDepth 20000 in
theorem D_Past_forgetOldest {i pc n npc : Nat} {ins : Instr} (h : K_Past_forgetOldest[i]? = some (pc, ins, n, npc)) : zD prog_5_method_3_code pc ins n npc := zDall (by decide +kernel) h
def K_Rings_init : List (Nat × Instr × Nat × Nat) := [(0, .aload_n 0, 1, 1), (1, .invokespecial 3, 3, 4), (4, .aload_n 0, 1, 5), (5, .bipush 81, 2, 7), (7, .newarray .int, 2, 9), (9, .putfield 11, 3, 12), (12, .aload_n 0, 1, 13), (13, .bipush 7, 2, 15), (15, .newarray .int, 2, 17), (17, .putfield 15, 3, 20), (20, .return_, 1, 21)]
set_option maxRecDepth 20000 in
theorem D_Rings_init {i pc n npc : Nat} {ins : Instr} (h : K_Rings_init[i]? = some (pc, ins, n, npc)) : zD prog_6_method_1_code pc ins n npc := zDall (by decide +kernel) h
def K_Rings_gather : List (Nat × Instr × Nat × Nat) := [(0, .aload_n 0, 1, 1), (1, .iload_n 2, 1, 2), (2, .putfield 18, 3, 5), (5, .aload_n 0, 1, 6), (6, .iconst 0, 1, 7), (7, .putfield 22, 3, 10), (10, .iconst 0, 1, 11), (11, .istore_n 3, 1, 12), (12, .iload_n 3, 1, 13), (13, .iconst 1, 1, 14), (14, .iconst 2, 1, 15), (15, .aload_n 0, 1, 16), (16, .getfield 18, 3, 19), (19, .imul, 1, 20), (20, .ishl, 1, 21), (21, .if_icmp .ge 54, 3, 24), (24, .iload_n 3, 1, 25), (25, .invokestatic 25, 3, 28), (28, .ifCond .eq 41, 3, 31), (31, .aload_n 0, 1, 32), (32, .aload_n 1, 1, 33), (33, .iload_n 3, 1, 34), (34, .invokevirtual 29, 3, 37), (37, .ifCond .eq 32, 3, 40), (40, .aload_n 0, 1, 41), (41, .getfield 22, 3, 44), (44, .bipush 81, 2, 46), (46, .if_icmp .ge 23, 3, 49), (49, .aload_n 0, 1, 50), (50, .getfield 11, 3, 53), (53, .aload_n 0, 1, 54), (54, .getfield 22, 3, 57), (57, .iload_n 3, 1, 58), (58, .iastore, 1, 59), (59, .aload_n 0, 1, 60), (60, .dup, 1, 61), (61, .getfield 22, 3, 64), (64, .iconst 1, 1, 65), (65, .iadd, 1, 66), (66, .putfield 22, 3, 69), (69, .iinc 3 1, 3, 72), (72, .goto (-60), 3, 75), (75, .return_, 1, 76)]
set_option maxRecDepth 20000 in
theorem D_Rings_gather {i pc n npc : Nat} {ins : Instr} (h : K_Rings_gather[i]? = some (pc, ins, n, npc)) : zD prog_6_method_2_code pc ins n npc := zDall (by decide +kernel) h
def K_Rings_isChoice : List (Nat × Instr × Nat × Nat) := [(0, .iload_n 0, 1, 1), (1, .iload_n 0, 1, 2), (2, .iconst 1, 1, 3), (3, .ishr, 1, 4), (4, .iand, 1, 5), (5, .bipush 85, 2, 7), (7, .iand, 1, 8), (8, .ifCond .ne 7, 3, 11), (11, .iconst 1, 1, 12), (12, .goto 4, 3, 15), (15, .iconst 0, 1, 16), (16, .ireturn, 1, 17)]
set_option maxRecDepth 20000 in
theorem D_Rings_isChoice {i pc n npc : Nat} {ins : Instr} (h : K_Rings_isChoice[i]? = some (pc, ins, n, npc)) : zD prog_6_method_3_code pc ins n npc := zDall (by decide +kernel) h
def K_Rings_isRing : List (Nat × Instr × Nat × Nat) := [(0, .aload_n 0, 1, 1), (1, .getfield 15, 3, 4), (4, .iconst 0, 1, 5), (5, .invokestatic 33, 3, 8), (8, .iconst 0, 1, 9), (9, .istore_n 3, 1, 10), (10, .iload_n 3, 1, 11), (11, .aload_n 0, 1, 12), (12, .getfield 18, 3, 15), (15, .if_icmp .ge 52, 3, 18), (18, .aload_n 1, 1, 19), (19, .iload_n 3, 1, 20), (20, .aaload, 1, 21), (21, .iload_n 2, 1, 22), (22, .iconst 2, 1, 23), (23, .iload_n 3, 1, 24), (24, .imul, 1, 25), (25, .ishr, 1, 26), (26, .iconst 3, 1, 27), (27, .iand, 1, 28), (28, .invokevirtual 39, 3, 31), (31, .istore 4, 2, 33), (33, .aload_n 0, 1, 34), (34, .getfield 15, 3, 37), (37, .iload 4, 2, 39), (39, .bipush 10, 2, 41), (41, .idiv, 1, 42), (42, .dup2, 1, 43), (43, .iaload, 1, 44), (44, .iconst 1, 1, 45), (45, .iadd, 1, 46), (46, .iastore, 1, 47), (47, .aload_n 0, 1, 48), (48, .getfield 15, 3, 51), (51, .iload 4, 2, 53), (53, .bipush 10, 2, 55), (55, .irem, 1, 56), (56, .dup2, 1, 57), (57, .iaload, 1, 58), (58, .iconst 1, 1, 59), (59, .iadd, 1, 60), (60, .iastore, 1, 61), (61, .iinc 3 1, 3, 64), (64, .goto (-54), 3, 67), (67, .iconst 0, 1, 68), (68, .istore_n 3, 1, 69), (69, .iload_n 3, 1, 70), (70, .aload_n 0, 1, 71), (71, .getfield 18, 3, 74), (74, .if_icmp .ge 21, 3, 77), (77, .aload_n 0, 1, 78), (78, .getfield 15, 3, 81), (81, .iload_n 3, 1, 82), (82, .iaload, 1, 83), (83, .iconst 2, 1, 84), (84, .if_icmp .eq 5, 3, 87), (87, .iconst 0, 1, 88), (88, .ireturn, 1, 89), (89, .iinc 3 1, 3, 92), (92, .goto (-23), 3, 95), (95, .iconst 1, 1, 96), (96, .ireturn, 1, 97)]
set_option maxRecDepth 20000 in
theorem D_Rings_isRing {i pc n npc : Nat} {ins : Instr} (h : K_Rings_isRing[i]? = some (pc, ins, n, npc)) : zD prog_6_method_4_code pc ins n npc := zDall (by decide +kernel) h
def K_Rings_parted : List (Nat × Instr × Nat × Nat) := [(0, .iconst 0, 1, 1), (1, .istore_n 1, 1, 2), (2, .iconst 0, 1, 3), (3, .istore_n 2, 1, 4), (4, .iload_n 2, 1, 5), (5, .aload_n 0, 1, 6), (6, .getfield 22, 3, 9), (9, .if_icmp .ge 50, 3, 12), (12, .iload_n 2, 1, 13), (13, .iconst 1, 1, 14), (14, .iadd, 1, 15), (15, .istore_n 3, 1, 16), (16, .iload_n 3, 1, 17), (17, .aload_n 0, 1, 18), (18, .getfield 22, 3, 21), (21, .if_icmp .ge 32, 3, 24), (24, .aload_n 0, 1, 25), (25, .aload_n 0, 1, 26), (26, .getfield 11, 3, 29), (29, .iload_n 2, 1, 30), (30, .iaload, 1, 31), (31, .aload_n 0, 1, 32), (32, .getfield 11, 3, 35), (35, .iload_n 3, 1, 36), (36, .iaload, 1, 37), (37, .ixor, 1, 38), (38, .invokevirtual 45, 3, 41), (41, .ifCond .eq 6, 3, 44), (44, .iinc 1 1, 3, 47), (47, .iinc 3 1, 3, 50), (50, .goto (-34), 3, 53), (53, .iinc 2 1, 3, 56), (56, .goto (-52), 3, 59), (59, .iload_n 1, 1, 60), (60, .ireturn, 1, 61)]
set_option maxRecDepth 20000 in
theorem D_Rings_parted {i pc n npc : Nat} {ins : Instr} (h : K_Rings_parted[i]? = some (pc, ins, n, npc)) : zD prog_6_method_5_code pc ins n npc := zDall (by decide +kernel) h
def K_Rings_shareNone : List (Nat × Instr × Nat × Nat) := [(0, .iload_n 1, 1, 1), (1, .iload_n 1, 1, 2), (2, .iconst 1, 1, 3), (3, .ishr, 1, 4), (4, .ior, 1, 5), (5, .bipush 85, 2, 7), (7, .iand, 1, 8), (8, .istore_n 2, 1, 9), (9, .iload_n 2, 1, 10), (10, .invokestatic 48, 3, 13), (13, .aload_n 0, 1, 14), (14, .getfield 18, 3, 17), (17, .if_icmp .ne 7, 3, 20), (20, .iconst 1, 1, 21), (21, .goto 4, 3, 24), (24, .iconst 0, 1, 25), (25, .ireturn, 1, 26)]
set_option maxRecDepth 20000 in
theorem D_Rings_shareNone {i pc n npc : Nat} {ins : Instr} (h : K_Rings_shareNone[i]? = some (pc, ins, n, npc)) : zD prog_6_method_6_code pc ins n npc := zDall (by decide +kernel) h
def K_Search_init : List (Nat × Instr × Nat × Nat) := [(0, .aload_n 0, 1, 1), (1, .invokespecial 3, 3, 4), (4, .aload_n 0, 1, 5), (5, .iconst 4, 1, 6), (6, .newarray .int, 2, 8), (8, .putfield 9, 3, 11), (11, .aload_n 0, 1, 12), (12, .sipush 144, 3, 15), (15, .newarray .int, 2, 17), (17, .putfield 15, 3, 20), (20, .aload_n 0, 1, 21), (21, .iconst 4, 1, 22), (22, .newarray .int, 2, 24), (24, .putfield 18, 3, 27), (27, .return_, 1, 28)]
set_option maxRecDepth 20000 in
theorem D_Search_init {i pc n npc : Nat} {ins : Instr} (h : K_Search_init[i]? = some (pc, ins, n, npc)) : zD prog_7_method_1_code pc ins n npc := zDall (by decide +kernel) h
def K_Search_pairOf : List (Nat × Instr × Nat × Nat) := [(0, .iload_n 1, 1, 1), (1, .iload_n 1, 1, 2), (2, .iconst 1, 1, 3), (3, .isub, 1, 4), (4, .imul, 1, 5), (5, .iconst 2, 1, 6), (6, .idiv, 1, 7), (7, .iload_n 0, 1, 8), (8, .iadd, 1, 9), (9, .ireturn, 1, 10)]
set_option maxRecDepth 20000 in
theorem D_Search_pairOf {i pc n npc : Nat} {ins : Instr} (h : K_Search_pairOf[i]? = some (pc, ins, n, npc)) : zD prog_7_method_2_code pc ins n npc := zDall (by decide +kernel) h
def K_Search_fitAny : List (Nat × Instr × Nat × Nat) := [(0, .iconst 0, 1, 1), (1, .istore_n 2, 1, 2), (2, .iload_n 2, 1, 3), (3, .bipush 24, 2, 5), (5, .if_icmp .ge 22, 3, 8), (8, .aload_n 0, 1, 9), (9, .getfield 15, 3, 12), (12, .iload_n 1, 1, 13), (13, .bipush 24, 2, 15), (15, .imul, 1, 16), (16, .iload_n 2, 1, 17), (17, .iadd, 1, 18), (18, .ldc 21, 2, 20), (20, .iastore, 1, 21), (21, .iinc 2 1, 3, 24), (24, .goto (-22), 3, 27), (27, .return_, 1, 28)]
set_option maxRecDepth 20000 in
theorem D_Search_fitAny {i pc n npc : Nat} {ins : Instr} (h : K_Search_fitAny[i]? = some (pc, ins, n, npc)) : zD prog_7_method_3_code pc ins n npc := zDall (by decide +kernel) h
def K_Search_fitting : List (Nat × Instr × Nat × Nat) := [(0, .iload_n 2, 1, 1), (1, .istore_n 3, 1, 2), (2, .iconst 0, 1, 3), (3, .istore 4, 2, 5), (5, .iload 4, 2, 7), (7, .iload_n 1, 1, 8), (8, .if_icmp .ge 34, 3, 11), (11, .iload_n 3, 1, 12), (12, .aload_n 0, 1, 13), (13, .getfield 15, 3, 16), (16, .iload 4, 2, 18), (18, .iload_n 1, 1, 19), (19, .invokestatic 22, 3, 22), (22, .bipush 24, 2, 24), (24, .imul, 1, 25), (25, .aload_n 0, 1, 26), (26, .getfield 18, 3, 29), (29, .iload 4, 2, 31), (31, .iaload, 1, 32), (32, .iadd, 1, 33), (33, .iaload, 1, 34), (34, .iand, 1, 35), (35, .istore_n 3, 1, 36), (36, .iinc 4 1, 3, 39), (39, .goto (-34), 3, 42), (42, .iload_n 3, 1, 43), (43, .ireturn, 1, 44)]
set_option maxRecDepth 20000 in
theorem D_Search_fitting {i pc n npc : Nat} {ins : Instr} (h : K_Search_fitting[i]? = some (pc, ins, n, npc)) : zD prog_7_method_4_code pc ins n npc := zDall (by decide +kernel) h
def K_Search_answer : List (Nat × Instr × Nat × Nat) := [(0, .iload_n 1, 1, 1), (1, .ifCond .ge 9, 3, 4), (4, .aload_n 0, 1, 5), (5, .iconst 0, 1, 6), (6, .invokevirtual 26, 3, 9), (9, .ireturn, 1, 10), (10, .aload_n 0, 1, 11), (11, .iconst 0, 1, 12), (12, .invokevirtual 30, 3, 15), (15, .ifCond .eq 12, 3, 18), (18, .aload_n 0, 1, 19), (19, .getfield 18, 3, 22), (22, .iload_n 1, 1, 23), (23, .iaload, 1, 24), (24, .goto 5, 3, 27), (27, .bipush (-2), 2, 29), (29, .ireturn, 1, 30)]
set_option maxRecDepth 20000 in
theorem D_Search_answer {i pc n npc : Nat} {ins : Instr} (h : K_Search_answer[i]? = some (pc, ins, n, npc)) : zD prog_7_method_5_code pc ins n npc := zDall (by decide +kernel) h
def K_Search_hasAny : List (Nat × Instr × Nat × Nat) := [(0, .aload_n 0, 1, 1), (1, .iconst 0, 1, 2), (2, .invokevirtual 30, 3, 5), (5, .ireturn, 1, 6)]
set_option maxRecDepth 20000 in
theorem D_Search_hasAny {i pc n npc : Nat} {ins : Instr} (h : K_Search_hasAny[i]? = some (pc, ins, n, npc)) : zD prog_7_method_6_code pc ins n npc := zDall (by decide +kernel) h
def K_Search_total : List (Nat × Instr × Nat × Nat) := [(0, .iload_n 1, 1, 1), (1, .aload_n 0, 1, 2), (2, .getfield 34, 3, 5), (5, .if_icmp .lt 5, 3, 8), (8, .iconst 1, 1, 9), (9, .ireturn, 1, 10), (10, .aload_n 0, 1, 11), (11, .iload_n 1, 1, 12), (12, .aload_n 0, 1, 13), (13, .getfield 9, 3, 16), (16, .iload_n 1, 1, 17), (17, .iaload, 1, 18), (18, .invokevirtual 38, 3, 21), (21, .istore_n 2, 1, 22), (22, .iload_n 1, 1, 23), (23, .aload_n 0, 1, 24), (24, .getfield 34, 3, 27), (27, .iconst 1, 1, 28), (28, .isub, 1, 29), (29, .if_icmp .ne 8, 3, 32), (32, .iload_n 2, 1, 33), (33, .invokestatic 41, 3, 36), (36, .ireturn, 1, 37), (37, .iconst 0, 1, 38), (38, .istore_n 3, 1, 39), (39, .iconst 0, 1, 40), (40, .istore 4, 2, 42), (42, .iload 4, 2, 44), (44, .bipush 24, 2, 46), (46, .if_icmp .ge 36, 3, 49), (49, .iload_n 2, 1, 50), (50, .iload 4, 2, 52), (52, .ishr, 1, 53), (53, .iconst 1, 1, 54), (54, .iand, 1, 55), (55, .ifCond .eq 21, 3, 58), (58, .aload_n 0, 1, 59), (59, .getfield 18, 3, 62), (62, .iload_n 1, 1, 63), (63, .iload 4, 2, 65), (65, .iastore, 1, 66), (66, .iload_n 3, 1, 67), (67, .aload_n 0, 1, 68), (68, .iload_n 1, 1, 69), (69, .iconst 1, 1, 70), (70, .iadd, 1, 71), (71, .invokevirtual 26, 3, 74), (74, .iadd, 1, 75), (75, .istore_n 3, 1, 76), (76, .iinc 4 1, 3, 79), (79, .goto (-37), 3, 82), (82, .iload_n 3, 1, 83), (83, .ireturn, 1, 84)]
set_option maxRecDepth 20000 in
theorem D_Search_total {i pc n npc : Nat} {ins : Instr} (h : K_Search_total[i]? = some (pc, ins, n, npc)) : zD prog_7_method_7_code pc ins n npc := zDall (by decide +kernel) h
def K_Search_find : List (Nat × Instr × Nat × Nat) := [(0, .iload_n 1, 1, 1), (1, .aload_n 0, 1, 2), (2, .getfield 34, 3, 5), (5, .if_icmp .lt 5, 3, 8), (8, .iconst 1, 1, 9), (9, .ireturn, 1, 10), (10, .aload_n 0, 1, 11), (11, .iload_n 1, 1, 12), (12, .aload_n 0, 1, 13), (13, .getfield 9, 3, 16), (16, .iload_n 1, 1, 17), (17, .iaload, 1, 18), (18, .invokevirtual 38, 3, 21), (21, .istore_n 2, 1, 22), (22, .iconst 0, 1, 23), (23, .istore_n 3, 1, 24), (24, .iload_n 3, 1, 25), (25, .bipush 24, 2, 27), (27, .if_icmp .ge 36, 3, 30), (30, .iload_n 2, 1, 31), (31, .iload_n 3, 1, 32), (32, .ishr, 1, 33), (33, .iconst 1, 1, 34), (34, .iand, 1, 35), (35, .ifCond .eq 22, 3, 38), (38, .aload_n 0, 1, 39), (39, .getfield 18, 3, 42), (42, .iload_n 1, 1, 43), (43, .iload_n 3, 1, 44), (44, .iastore, 1, 45), (45, .aload_n 0, 1, 46), (46, .iload_n 1, 1, 47), (47, .iconst 1, 1, 48), (48, .iadd, 1, 49), (49, .invokevirtual 30, 3, 52), (52, .ifCond .eq 5, 3, 55), (55, .iconst 1, 1, 56), (56, .ireturn, 1, 57), (57, .iinc 3 1, 3, 60), (60, .goto (-36), 3, 63), (63, .iconst 0, 1, 64), (64, .ireturn, 1, 65)]
set_option maxRecDepth 20000 in
theorem D_Search_find {i pc n npc : Nat} {ins : Instr} (h : K_Search_find[i]? = some (pc, ins, n, npc)) : zD prog_7_method_8_code pc ins n npc := zDall (by decide +kernel) h
def K_Shelf_init : List (Nat × Instr × Nat × Nat) := [(0, .aload_n 0, 1, 1), (1, .invokespecial 3, 3, 4), (4, .aload_n 0, 1, 5), (5, .iconst 0, 1, 6), (6, .putfield 11, 3, 9), (9, .aload_n 0, 1, 10), (10, .bipush 60, 2, 12), (12, .newarray .long, 2, 14), (14, .putfield 15, 3, 17), (17, .return_, 1, 18)]
set_option maxRecDepth 20000 in
theorem D_Shelf_init {i pc n npc : Nat} {ins : Instr} (h : K_Shelf_init[i]? = some (pc, ins, n, npc)) : zD prog_8_method_1_code pc ins n npc := zDall (by decide +kernel) h
def K_Shelf_isBare : List (Nat × Instr × Nat × Nat) := [(0, .aload_n 0, 1, 1), (1, .getfield 11, 3, 4), (4, .ifCond .ne 7, 3, 7), (7, .iconst 1, 1, 8), (8, .goto 4, 3, 11), (11, .iconst 0, 1, 12), (12, .ireturn, 1, 13)]
set_option maxRecDepth 20000 in
theorem D_Shelf_isBare {i pc n npc : Nat} {ins : Instr} (h : K_Shelf_isBare[i]? = some (pc, ins, n, npc)) : zD prog_8_method_2_code pc ins n npc := zDall (by decide +kernel) h
def K_Shelf_isRow : List (Nat × Instr × Nat × Nat) := [(0, .aload_n 0, 1, 1), (1, .getfield 11, 3, 4), (4, .iconst 2, 1, 5), (5, .if_icmp .ne 7, 3, 8), (8, .iconst 1, 1, 9), (9, .goto 4, 3, 12), (12, .iconst 0, 1, 13), (13, .ireturn, 1, 14)]
set_option maxRecDepth 20000 in
theorem D_Shelf_isRow {i pc n npc : Nat} {ins : Instr} (h : K_Shelf_isRow[i]? = some (pc, ins, n, npc)) : zD prog_8_method_3_code pc ins n npc := zDall (by decide +kernel) h
def K_Shelf_clear : List (Nat × Instr × Nat × Nat) := [(0, .aload_n 0, 1, 1), (1, .iconst 0, 1, 2), (2, .putfield 11, 3, 5), (5, .return_, 1, 6)]
set_option maxRecDepth 20000 in
theorem D_Shelf_clear {i pc n npc : Nat} {ins : Instr} (h : K_Shelf_clear[i]? = some (pc, ins, n, npc)) : zD prog_8_method_4_code pc ins n npc := zDall (by decide +kernel) h
def K_Shelf_holdBody : List (Nat × Instr × Nat × Nat) := [(0, .aload_n 0, 1, 1), (1, .iconst 1, 1, 2), (2, .putfield 11, 3, 5), (5, .aload_n 0, 1, 6), (6, .iload_n 1, 1, 7), (7, .putfield 19, 3, 10), (10, .return_, 1, 11)]
set_option maxRecDepth 20000 in
theorem D_Shelf_holdBody {i pc n npc : Nat} {ins : Instr} (h : K_Shelf_holdBody[i]? = some (pc, ins, n, npc)) : zD prog_8_method_5_code pc ins n npc := zDall (by decide +kernel) h
def K_Shelf_holdRow : List (Nat × Instr × Nat × Nat) := [(0, .aload_n 0, 1, 1), (1, .iconst 2, 1, 2), (2, .putfield 11, 3, 5), (5, .aload_n 0, 1, 6), (6, .iload_n 1, 1, 7), (7, .putfield 22, 3, 10), (10, .aload_n 0, 1, 11), (11, .iload_n 2, 1, 12), (12, .putfield 25, 3, 15), (15, .aload_n 0, 1, 16), (16, .getfield 15, 3, 19), (19, .lconst 0, 1, 20), (20, .invokestatic 28, 3, 23), (23, .return_, 1, 24)]
set_option maxRecDepth 20000 in
theorem D_Shelf_holdRow {i pc n npc : Nat} {ins : Instr} (h : K_Shelf_holdRow[i]? = some (pc, ins, n, npc)) : zD prog_8_method_6_code pc ins n npc := zDall (by decide +kernel) h
def K_Shelf_store : List (Nat × Instr × Nat × Nat) := [(0, .aload_n 0, 1, 1), (1, .getfield 22, 3, 4), (4, .tableswitch 80 0 3 #[32, 45, 58, 70], 32, 36), (36, .aload_n 0, 1, 37), (37, .getfield 15, 3, 40), (40, .iload_n 1, 1, 41), (41, .lload_n 2, 1, 42), (42, .l2i, 1, 43), (43, .i2b, 1, 44), (44, .i2l, 1, 45), (45, .lastore, 1, 46), (46, .goto 55, 3, 49), (49, .aload_n 0, 1, 50), (50, .getfield 15, 3, 53), (53, .iload_n 1, 1, 54), (54, .lload_n 2, 1, 55), (55, .l2i, 1, 56), (56, .i2s, 1, 57), (57, .i2l, 1, 58), (58, .lastore, 1, 59), (59, .goto 42, 3, 62), (62, .aload_n 0, 1, 63), (63, .getfield 15, 3, 66), (66, .iload_n 1, 1, 67), (67, .lload_n 2, 1, 68), (68, .l2i, 1, 69), (69, .i2l, 1, 70), (70, .lastore, 1, 71), (71, .goto 30, 3, 74), (74, .aload_n 0, 1, 75), (75, .getfield 15, 3, 78), (78, .iload_n 1, 1, 79), (79, .lload_n 2, 1, 80), (80, .lastore, 1, 81), (81, .goto 20, 3, 84), (84, .aload_n 0, 1, 85), (85, .getfield 15, 3, 88), (88, .iload_n 1, 1, 89), (89, .lload_n 2, 1, 90), (90, .lconst 0, 1, 91), (91, .lcmp, 1, 92), (92, .ifCond .eq 7, 3, 95), (95, .lconst 1, 1, 96), (96, .goto 4, 3, 99), (99, .lconst 0, 1, 100), (100, .lastore, 1, 101), (101, .return_, 1, 102)]
set_option maxRecDepth 20000 in
theorem D_Shelf_store {i pc n npc : Nat} {ins : Instr} (h : K_Shelf_store[i]? = some (pc, ins, n, npc)) : zD prog_8_method_7_code pc ins n npc := zDall (by decide +kernel) h
def K_Shelf_hasStretch : List (Nat × Instr × Nat × Nat) := [(0, .iload_n 1, 1, 1), (1, .ifCond .lt 29, 3, 4), (4, .iload_n 1, 1, 5), (5, .aload_n 0, 1, 6), (6, .getfield 25, 3, 9), (9, .if_icmp .gt 21, 3, 12), (12, .iload_n 2, 1, 13), (13, .ifCond .lt 17, 3, 16), (16, .iload_n 2, 1, 17), (17, .aload_n 0, 1, 18), (18, .getfield 25, 3, 21), (21, .iload_n 1, 1, 22), (22, .isub, 1, 23), (23, .if_icmp .gt 7, 3, 26), (26, .iconst 1, 1, 27), (27, .goto 4, 3, 30), (30, .iconst 0, 1, 31), (31, .ireturn, 1, 32)]
set_option maxRecDepth 20000 in
theorem D_Shelf_hasStretch {i pc n npc : Nat} {ins : Instr} (h : K_Shelf_hasStretch[i]? = some (pc, ins, n, npc)) : zD prog_8_method_8_code pc ins n npc := zDall (by decide +kernel) h
def K_Shelf_hasSixColours : List (Nat × Instr × Nat × Nat) := [(0, .aload_n 0, 1, 1), (1, .iload_n 1, 1, 2), (2, .bipush 6, 2, 4), (4, .invokevirtual 34, 3, 7), (7, .ifCond .ne 5, 3, 10), (10, .iconst 0, 1, 11), (11, .ireturn, 1, 12), (12, .iload_n 1, 1, 13), (13, .istore_n 2, 1, 14), (14, .iload_n 2, 1, 15), (15, .iload_n 1, 1, 16), (16, .bipush 6, 2, 18), (18, .iadd, 1, 19), (19, .if_icmp .ge 35, 3, 22), (22, .aload_n 0, 1, 23), (23, .getfield 15, 3, 26), (26, .iload_n 2, 1, 27), (27, .laload, 1, 28), (28, .lconst 0, 1, 29), (29, .lcmp, 1, 30), (30, .ifCond .lt 16, 3, 33), (33, .aload_n 0, 1, 34), (34, .getfield 15, 3, 37), (37, .iload_n 2, 1, 38), (38, .laload, 1, 39), (39, .ldc2_w 38, 3, 42), (42, .lcmp, 1, 43), (43, .ifCond .le 5, 3, 46), (46, .iconst 0, 1, 47), (47, .ireturn, 1, 48), (48, .iinc 2 1, 3, 51), (51, .goto (-37), 3, 54), (54, .iconst 1, 1, 55), (55, .ireturn, 1, 56)]
set_option maxRecDepth 20000 in
theorem D_Shelf_hasSixColours {i pc n npc : Nat} {ins : Instr} (h : K_Shelf_hasSixColours[i]? = some (pc, ins, n, npc)) : zD prog_8_method_9_code pc ins n npc := zDall (by decide +kernel) h
def K_Tower_init : List (Nat × Instr × Nat × Nat) := [(0, .aload_n 0, 1, 1), (1, .invokespecial 3, 3, 4), (4, .aload_n 0, 1, 5), (5, .iconst 4, 1, 6), (6, .anewarray 9, 3, 9), (9, .putfield 11, 3, 12), (12, .aload_n 0, 1, 13), (13, .iconst 4, 1, 14), (14, .newarray .int, 2, 16), (16, .putfield 17, 3, 19), (19, .aload_n 0, 1, 20), (20, .bipush 7, 2, 22), (22, .newarray .int, 2, 24), (24, .putfield 21, 3, 27), (27, .aload_n 0, 1, 28), (28, .bipush 7, 2, 30), (30, .newarray .int, 2, 32), (32, .putfield 24, 3, 35), (35, .aload_n 0, 1, 36), (36, .sipush 3456, 3, 39), (39, .newarray .byte, 2, 41), (41, .putfield 27, 3, 44), (44, .aload_n 0, 1, 45), (45, .iconst 5, 1, 46), (46, .newarray .int, 2, 48), (48, .putfield 31, 3, 51), (51, .aload_n 0, 1, 52), (52, .aload_n 1, 1, 53), (53, .putfield 34, 3, 56), (56, .aload_n 0, 1, 57), (57, .aload_n 2, 1, 58), (58, .putfield 37, 3, 61), (61, .aload_n 0, 1, 62), (62, .aload_n 3, 1, 63), (63, .putfield 41, 3, 66), (66, .iconst 0, 1, 67), (67, .istore 4, 2, 69), (69, .iload 4, 2, 71), (71, .iconst 4, 1, 72), (72, .if_icmp .ge 20, 3, 75), (75, .aload_n 0, 1, 76), (76, .getfield 11, 3, 79), (79, .iload 4, 2, 81), (81, .aload_n 1, 1, 82), (82, .iload 4, 2, 84), (84, .aaload, 1, 85), (85, .aastore, 1, 86), (86, .iinc 4 1, 3, 89), (89, .goto (-20), 3, 92), (92, .return_, 1, 93)]
set_option maxRecDepth 20000 in
theorem D_Tower_init {i pc n npc : Nat} {ins : Instr} (h : K_Tower_init[i]? = some (pc, ins, n, npc)) : zD prog_9_method_1_code pc ins n npc := zDall (by decide +kernel) h
def K_Tower_pile : List (Nat × Instr × Nat × Nat) := [(0, .aload_n 0, 1, 1), (1, .iconst 0, 1, 2), (2, .putfield 45, 3, 5), (5, .iconst 0, 1, 6), (6, .istore_n 2, 1, 7), (7, .iload_n 2, 1, 8), (8, .aload_n 0, 1, 9), (9, .getfield 34, 3, 12), (12, .arraylength, 1, 13), (13, .if_icmp .ge 60, 3, 16), (16, .aload_n 0, 1, 17), (17, .getfield 45, 3, 20), (20, .iconst 4, 1, 21), (21, .if_icmp .ge 52, 3, 24), (24, .iload_n 1, 1, 25), (25, .iload_n 2, 1, 26), (26, .ishr, 1, 27), (27, .iconst 1, 1, 28), (28, .iand, 1, 29), (29, .ifCond .eq 38, 3, 32), (32, .aload_n 0, 1, 33), (33, .getfield 11, 3, 36), (36, .aload_n 0, 1, 37), (37, .getfield 45, 3, 40), (40, .aload_n 0, 1, 41), (41, .getfield 34, 3, 44), (44, .iload_n 2, 1, 45), (45, .aaload, 1, 46), (46, .aastore, 1, 47), (47, .aload_n 0, 1, 48), (48, .getfield 17, 3, 51), (51, .aload_n 0, 1, 52), (52, .getfield 45, 3, 55), (55, .iload_n 2, 1, 56), (56, .iastore, 1, 57), (57, .aload_n 0, 1, 58), (58, .dup, 1, 59), (59, .getfield 45, 3, 62), (62, .iconst 1, 1, 63), (63, .iadd, 1, 64), (64, .putfield 45, 3, 67), (67, .iinc 2 1, 3, 70), (70, .goto (-63), 3, 73), (73, .aload_n 0, 1, 74), (74, .getfield 41, 3, 77), (77, .aload_n 0, 1, 78), (78, .getfield 45, 3, 81), (81, .putfield 49, 3, 84), (84, .return_, 1, 85)]
set_option maxRecDepth 20000 in
theorem D_Tower_pile {i pc n npc : Nat} {ins : Instr} (h : K_Tower_pile[i]? = some (pc, ins, n, npc)) : zD prog_9_method_2_code pc ins n npc := zDall (by decide +kernel) h
def K_Tower_firstWrong : List (Nat × Instr × Nat × Nat) := [(0, .iconst 0, 1, 1), (1, .istore_n 1, 1, 2), (2, .iload_n 1, 1, 3), (3, .iconst 4, 1, 4), (4, .if_icmp .ge 117, 3, 7), (7, .iconst 0, 1, 8), (8, .istore_n 2, 1, 9), (9, .iload_n 2, 1, 10), (10, .aload_n 0, 1, 11), (11, .getfield 45, 3, 14), (14, .if_icmp .ge 101, 3, 17), (17, .iload_n 2, 1, 18), (18, .iconst 1, 1, 19), (19, .iadd, 1, 20), (20, .istore_n 3, 1, 21), (21, .iload_n 3, 1, 22), (22, .aload_n 0, 1, 23), (23, .getfield 45, 3, 26), (26, .if_icmp .ge 83, 3, 29), (29, .aload_n 0, 1, 30), (30, .getfield 11, 3, 33), (33, .iload_n 2, 1, 34), (34, .aaload, 1, 35), (35, .aload_n 0, 1, 36), (36, .getfield 11, 3, 39), (39, .iload_n 2, 1, 40), (40, .aaload, 1, 41), (41, .getfield 52, 3, 44), (44, .iload_n 1, 1, 45), (45, .invokevirtual 55, 3, 48), (48, .istore 4, 2, 50), (50, .aload_n 0, 1, 51), (51, .getfield 11, 3, 54), (54, .iload_n 3, 1, 55), (55, .aaload, 1, 56), (56, .aload_n 0, 1, 57), (57, .getfield 11, 3, 60), (60, .iload_n 3, 1, 61), (61, .aaload, 1, 62), (62, .getfield 52, 3, 65), (65, .iload_n 1, 1, 66), (66, .invokevirtual 55, 3, 69), (69, .istore 5, 2, 71), (71, .aload_n 0, 1, 72), (72, .getfield 37, 3, 75), (75, .iload_n 2, 1, 76), (76, .iload_n 3, 1, 77), (77, .invokestatic 59, 3, 80), (80, .iload_n 1, 1, 81), (81, .iload 4, 2, 83), (83, .iload 5, 2, 85), (85, .invokevirtual 62, 3, 88), (88, .ifCond .ne 15, 3, 91), (91, .bipush 100, 2, 93), (93, .iload_n 1, 1, 94), (94, .imul, 1, 95), (95, .bipush 10, 2, 97), (97, .iload_n 2, 1, 98), (98, .imul, 1, 99), (99, .iadd, 1, 100), (100, .iload_n 3, 1, 101), (101, .iadd, 1, 102), (102, .ireturn, 1, 103), (103, .iinc 3 1, 3, 106), (106, .goto (-85), 3, 109), (109, .iinc 2 1, 3, 112), (112, .goto (-103), 3, 115), (115, .iinc 1 1, 3, 118), (118, .goto (-116), 3, 121), (121, .bipush (-2), 2, 123), (123, .ireturn, 1, 124)]
set_option maxRecDepth 20000 in
theorem D_Tower_firstWrong {i pc n npc : Nat} {ins : Instr} (h : K_Tower_firstWrong[i]? = some (pc, ins, n, npc)) : zD prog_9_method_3_code pc ins n npc := zDall (by decide +kernel) h
def K_Tower_startFrom : List (Nat × Instr × Nat × Nat) := [(0, .iconst 0, 1, 1), (1, .istore_n 2, 1, 2), (2, .iload_n 2, 1, 3), (3, .aload_n 0, 1, 4), (4, .getfield 45, 3, 7), (7, .if_icmp .ge 65, 3, 10), (10, .iload_n 1, 1, 11), (11, .aload_n 0, 1, 12), (12, .getfield 17, 3, 15), (15, .iload_n 2, 1, 16), (16, .iaload, 1, 17), (17, .ishr, 1, 18), (18, .iconst 1, 1, 19), (19, .iand, 1, 20), (20, .ifCond .eq 26, 3, 23), (23, .aload_n 0, 1, 24), (24, .getfield 41, 3, 27), (27, .getfield 68, 3, 30), (30, .iload_n 2, 1, 31), (31, .iconst 1, 1, 32), (32, .aload_n 0, 1, 33), (33, .getfield 11, 3, 36), (36, .iload_n 2, 1, 37), (37, .aaload, 1, 38), (38, .getfield 52, 3, 41), (41, .ishl, 1, 42), (42, .iastore, 1, 43), (43, .goto 23, 3, 46), (46, .aload_n 0, 1, 47), (47, .getfield 41, 3, 50), (50, .getfield 68, 3, 53), (53, .iload_n 2, 1, 54), (54, .iload_n 2, 1, 55), (55, .ifCond .ne 8, 3, 58), (58, .ldc 71, 2, 60), (60, .goto 5, 3, 63), (63, .ldc 72, 2, 65), (65, .iastore, 1, 66), (66, .iinc 2 1, 3, 69), (69, .goto (-67), 3, 72), (72, .return_, 1, 73)]
set_option maxRecDepth 20000 in
theorem D_Tower_startFrom {i pc n npc : Nat} {ins : Instr} (h : K_Tower_startFrom[i]? = some (pc, ins, n, npc)) : zD prog_9_method_4_code pc ins n npc := zDall (by decide +kernel) h
def K_Tower_fitAll : List (Nat × Instr × Nat × Nat) := [(0, .iconst 1, 1, 1), (1, .istore_n 1, 1, 2), (2, .iload_n 1, 1, 3), (3, .aload_n 0, 1, 4), (4, .getfield 45, 3, 7), (7, .if_icmp .ge 31, 3, 10), (10, .iconst 0, 1, 11), (11, .istore_n 2, 1, 12), (12, .iload_n 2, 1, 13), (13, .iload_n 1, 1, 14), (14, .if_icmp .ge 18, 3, 17), (17, .aload_n 0, 1, 18), (18, .iload_n 2, 1, 19), (19, .iload_n 1, 1, 20), (20, .invokestatic 59, 3, 23), (23, .invokevirtual 73, 3, 26), (26, .iinc 2 1, 3, 29), (29, .goto (-17), 3, 32), (32, .iinc 1 1, 3, 35), (35, .goto (-33), 3, 38), (38, .return_, 1, 39)]
set_option maxRecDepth 20000 in
theorem D_Tower_fitAll {i pc n npc : Nat} {ins : Instr} (h : K_Tower_fitAll[i]? = some (pc, ins, n, npc)) : zD prog_9_method_5_code pc ins n npc := zDall (by decide +kernel) h
def K_Tower_fitPair : List (Nat × Instr × Nat × Nat) := [(0, .aload_n 0, 1, 1), (1, .getfield 11, 3, 4), (4, .getstatic 77, 3, 7), (7, .iload_n 1, 1, 8), (8, .iaload, 1, 9), (9, .aaload, 1, 10), (10, .astore_n 2, 1, 11), (11, .aload_n 0, 1, 12), (12, .getfield 41, 3, 15), (15, .iload_n 1, 1, 16), (16, .invokevirtual 80, 3, 19), (19, .iconst 0, 1, 20), (20, .istore_n 3, 1, 21), (21, .iload_n 3, 1, 22), (22, .iconst 4, 1, 23), (23, .if_icmp .ge 61, 3, 26), (26, .aload_n 0, 1, 27), (27, .iload_n 1, 1, 28), (28, .iload_n 3, 1, 29), (29, .invokevirtual 83, 3, 32), (32, .iconst 0, 1, 33), (33, .istore 4, 2, 35), (35, .iload 4, 2, 37), (37, .bipush 24, 2, 39), (39, .if_icmp .ge 39, 3, 42), (42, .aload_n 0, 1, 43), (43, .getfield 41, 3, 46), (46, .getfield 87, 3, 49), (49, .iload_n 1, 1, 50), (50, .bipush 24, 2, 52), (52, .imul, 1, 53), (53, .iload 4, 2, 55), (55, .iadd, 1, 56), (56, .dup2, 1, 57), (57, .iaload, 1, 58), (58, .aload_n 0, 1, 59), (59, .getfield 21, 3, 62), (62, .aload_n 2, 1, 63), (63, .iload 4, 2, 65), (65, .iload_n 3, 1, 66), (66, .invokevirtual 55, 3, 69), (69, .iaload, 1, 70), (70, .iand, 1, 71), (71, .iastore, 1, 72), (72, .iinc 4 1, 3, 75), (75, .goto (-40), 3, 78), (78, .iinc 3 1, 3, 81), (81, .goto (-60), 3, 84), (84, .return_, 1, 85)]
set_option maxRecDepth 20000 in
theorem D_Tower_fitPair {i pc n npc : Nat} {ins : Instr} (h : K_Tower_fitPair[i]? = some (pc, ins, n, npc)) : zD prog_9_method_6_code pc ins n npc := zDall (by decide +kernel) h
def K_Tower_findAllowed : List (Nat × Instr × Nat × Nat) := [(0, .aload_n 0, 1, 1), (1, .getfield 11, 3, 4), (4, .getstatic 77, 3, 7), (7, .iload_n 1, 1, 8), (8, .iaload, 1, 9), (9, .aaload, 1, 10), (10, .astore_n 3, 1, 11), (11, .aload_n 0, 1, 12), (12, .getfield 11, 3, 15), (15, .getstatic 90, 3, 18), (18, .iload_n 1, 1, 19), (19, .iaload, 1, 20), (20, .aaload, 1, 21), (21, .astore 4, 2, 23), (23, .aload_n 0, 1, 24), (24, .getfield 24, 3, 27), (27, .iconst 0, 1, 28), (28, .invokestatic 93, 3, 31), (31, .iconst 0, 1, 32), (32, .istore 5, 2, 34), (34, .iload 5, 2, 36), (36, .bipush 24, 2, 38), (38, .if_icmp .ge 29, 3, 41), (41, .aload_n 0, 1, 42), (42, .getfield 24, 3, 45), (45, .aload 4, 2, 47), (47, .iload 5, 2, 49), (49, .iload_n 2, 1, 50), (50, .invokevirtual 55, 3, 53), (53, .dup2, 1, 54), (54, .iaload, 1, 55), (55, .iconst 1, 1, 56), (56, .iload 5, 2, 58), (58, .ishl, 1, 59), (59, .ior, 1, 60), (60, .iastore, 1, 61), (61, .iinc 5 1, 3, 64), (64, .goto (-30), 3, 67), (67, .aload_n 0, 1, 68), (68, .getfield 21, 3, 71), (71, .iconst 0, 1, 72), (72, .invokestatic 93, 3, 75), (75, .iconst 0, 1, 76), (76, .istore 5, 2, 78), (78, .iload 5, 2, 80), (80, .bipush 6, 2, 82), (82, .if_icmp .ge 67, 3, 85), (85, .aload_n 3, 1, 86), (86, .getfield 99, 3, 89), (89, .iload 5, 2, 91), (91, .iaload, 1, 92), (92, .istore 6, 2, 94), (94, .iconst 0, 1, 95), (95, .istore 7, 2, 97), (97, .iload 7, 2, 99), (99, .bipush 7, 2, 101), (101, .if_icmp .ge 42, 3, 104), (104, .aload_n 0, 1, 105), (105, .getfield 37, 3, 108), (108, .iload_n 1, 1, 109), (109, .iload_n 2, 1, 110), (110, .iload 6, 2, 112), (112, .iload 7, 2, 114), (114, .invokevirtual 62, 3, 117), (117, .ifCond .eq 20, 3, 120), (120, .aload_n 0, 1, 121), (121, .getfield 21, 3, 124), (124, .iload 6, 2, 126), (126, .dup2, 1, 127), (127, .iaload, 1, 128), (128, .aload_n 0, 1, 129), (129, .getfield 24, 3, 132), (132, .iload 7, 2, 134), (134, .iaload, 1, 135), (135, .ior, 1, 136), (136, .iastore, 1, 137), (137, .iinc 7 1, 3, 140), (140, .goto (-43), 3, 143), (143, .iinc 5 1, 3, 146), (146, .goto (-68), 3, 149), (149, .return_, 1, 150)]
set_option maxRecDepth 20000 in
theorem D_Tower_findAllowed {i pc n npc : Nat} {ins : Instr} (h : K_Tower_findAllowed[i]? = some (pc, ins, n, npc)) : zD prog_9_method_7_code pc ins n npc := zDall (by decide +kernel) h
def K_Tower_goes : List (Nat × Instr × Nat × Nat) := [(0, .aload_n 0, 1, 1), (1, .iconst 0, 1, 2), (2, .invokevirtual 102, 3, 5), (5, .aload_n 0, 1, 6), (6, .invokevirtual 105, 3, 9), (9, .aload_n 0, 1, 10), (10, .getfield 41, 3, 13), (13, .invokevirtual 108, 3, 16), (16, .ireturn, 1, 17)]
set_option maxRecDepth 20000 in
theorem D_Tower_goes {i pc n npc : Nat} {ins : Instr} (h : K_Tower_goes[i]? = some (pc, ins, n, npc)) : zD prog_9_method_8_code pc ins n npc := zDall (by decide +kernel) h
def K_Tower_goesWith : List (Nat × Instr × Nat × Nat) := [(0, .aload_n 1, 1, 1), (1, .getfield 99, 3, 4), (4, .iload_n 2, 1, 5), (5, .iaload, 1, 6), (6, .istore 4, 2, 8), (8, .aload_n 1, 1, 9), (9, .getfield 99, 3, 12), (12, .iload_n 2, 1, 13), (13, .iload_n 3, 1, 14), (14, .iastore, 1, 15), (15, .aload_n 0, 1, 16), (16, .invokevirtual 112, 3, 19), (19, .istore 5, 2, 21), (21, .aload_n 1, 1, 22), (22, .getfield 99, 3, 25), (25, .iload_n 2, 1, 26), (26, .iload 4, 2, 28), (28, .iastore, 1, 29), (29, .iload 5, 2, 31), (31, .ireturn, 1, 32)]
set_option maxRecDepth 20000 in
theorem D_Tower_goesWith {i pc n npc : Nat} {ins : Instr} (h : K_Tower_goesWith[i]? = some (pc, ins, n, npc)) : zD prog_9_method_9_code pc ins n npc := zDall (by decide +kernel) h
def K_Tower_findMends : List (Nat × Instr × Nat × Nat) := [(0, .aload_n 0, 1, 1), (1, .iconst 0, 1, 2), (2, .putfield 115, 3, 5), (5, .iconst 0, 1, 6), (6, .istore_n 2, 1, 7), (7, .iload_n 2, 1, 8), (8, .aload_n 0, 1, 9), (9, .getfield 45, 3, 12), (12, .bipush 36, 2, 14), (14, .imul, 1, 15), (15, .if_icmp .ge 113, 3, 18), (18, .iload_n 1, 1, 19), (19, .ifCond .eq 10, 3, 22), (22, .aload_n 0, 1, 23), (23, .getfield 115, 3, 26), (26, .ifCond .gt 102, 3, 29), (29, .iload_n 2, 1, 30), (30, .bipush 36, 2, 32), (32, .idiv, 1, 33), (33, .istore_n 3, 1, 34), (34, .iload_n 2, 1, 35), (35, .bipush 6, 2, 37), (37, .idiv, 1, 38), (38, .bipush 6, 2, 40), (40, .irem, 1, 41), (41, .istore 4, 2, 43), (43, .iload_n 2, 1, 44), (44, .bipush 6, 2, 46), (46, .irem, 1, 47), (47, .istore 5, 2, 49), (49, .aload_n 0, 1, 50), (50, .getfield 11, 3, 53), (53, .iload_n 3, 1, 54), (54, .aaload, 1, 55), (55, .getfield 99, 3, 58), (58, .iload 4, 2, 60), (60, .iaload, 1, 61), (61, .iload 5, 2, 63), (63, .if_icmp .eq 59, 3, 66), (66, .aload_n 0, 1, 67), (67, .aload_n 0, 1, 68), (68, .getfield 11, 3, 71), (71, .iload_n 3, 1, 72), (72, .aaload, 1, 73), (73, .iload 4, 2, 75), (75, .iload 5, 2, 77), (77, .invokevirtual 118, 3, 80), (80, .ifCond .eq 42, 3, 83), (83, .aload_n 0, 1, 84), (84, .getfield 115, 3, 87), (87, .ifCond .ne 25, 3, 90), (90, .aload_n 0, 1, 91), (91, .bipush 100, 2, 93), (93, .aload_n 0, 1, 94), (94, .getfield 17, 3, 97), (97, .iload_n 3, 1, 98), (98, .iaload, 1, 99), (99, .imul, 1, 100), (100, .bipush 10, 2, 102), (102, .iload 4, 2, 104), (104, .imul, 1, 105), (105, .iadd, 1, 106), (106, .iload 5, 2, 108), (108, .iadd, 1, 109), (109, .putfield 122, 3, 112), (112, .aload_n 0, 1, 113), (113, .dup, 1, 114), (114, .getfield 115, 3, 117), (117, .iconst 1, 1, 118), (118, .iadd, 1, 119), (119, .putfield 115, 3, 122), (122, .iinc 2 1, 3, 125), (125, .goto (-118), 3, 128), (128, .return_, 1, 129)]
set_option maxRecDepth 20000 in
theorem D_Tower_findMends {i pc n npc : Nat} {ins : Instr} (h : K_Tower_findMends[i]? = some (pc, ins, n, npc)) : zD prog_9_method_10_code pc ins n npc := zDall (by decide +kernel) h
def K_Tower_stuckFrom : List (Nat × Instr × Nat × Nat) := [(0, .aload_n 0, 1, 1), (1, .getfield 41, 3, 4), (4, .getfield 125, 3, 7), (7, .iconst 0, 1, 8), (8, .iload_n 1, 1, 9), (9, .iastore, 1, 10), (10, .iconst 1, 1, 11), (11, .istore_n 2, 1, 12), (12, .iload_n 2, 1, 13), (13, .aload_n 0, 1, 14), (14, .getfield 45, 3, 17), (17, .if_icmp .ge 39, 3, 20), (20, .aload_n 0, 1, 21), (21, .getfield 41, 3, 24), (24, .iload_n 2, 1, 25), (25, .ldc 72, 2, 27), (27, .invokevirtual 128, 3, 30), (30, .istore_n 3, 1, 31), (31, .iload_n 3, 1, 32), (32, .ifCond .ne 5, 3, 35), (35, .iload_n 2, 1, 36), (36, .ireturn, 1, 37), (37, .aload_n 0, 1, 38), (38, .getfield 41, 3, 41), (41, .getfield 125, 3, 44), (44, .iload_n 2, 1, 45), (45, .iload_n 3, 1, 46), (46, .invokestatic 131, 3, 49), (49, .iastore, 1, 50), (50, .iinc 2 1, 3, 53), (53, .goto (-41), 3, 56), (56, .bipush (-2), 2, 58), (58, .ireturn, 1, 59)]
set_option maxRecDepth 20000 in
theorem D_Tower_stuckFrom {i pc n npc : Nat} {ins : Instr} (h : K_Tower_stuckFrom[i]? = some (pc, ins, n, npc)) : zD prog_9_method_11_code pc ins n npc := zDall (by decide +kernel) h
def K_Tower_looksFrom : List (Nat × Instr × Nat × Nat) := [(0, .aload_n 0, 1, 1), (1, .iload_n 1, 1, 2), (2, .invokevirtual 137, 3, 5), (5, .istore_n 2, 1, 6), (6, .iload_n 2, 1, 7), (7, .ifCond .ge 10, 3, 10), (10, .aload_n 0, 1, 11), (11, .getfield 45, 3, 14), (14, .goto 4, 3, 17), (17, .iload_n 2, 1, 18), (18, .istore_n 3, 1, 19), (19, .iload_n 2, 1, 20), (20, .ifCond .ge 7, 3, 23), (23, .iconst 0, 1, 24), (24, .goto 5, 3, 27), (27, .bipush 24, 2, 29), (29, .istore 4, 2, 31), (31, .iconst 1, 1, 32), (32, .istore 5, 2, 34), (34, .iload 5, 2, 36), (36, .iload_n 3, 1, 37), (37, .if_icmp .ge 26, 3, 40), (40, .iload 4, 2, 42), (42, .aload_n 0, 1, 43), (43, .getfield 41, 3, 46), (46, .getfield 125, 3, 49), (49, .iload 5, 2, 51), (51, .iaload, 1, 52), (52, .iconst 1, 1, 53), (53, .iadd, 1, 54), (54, .iadd, 1, 55), (55, .istore 4, 2, 57), (57, .iinc 5 1, 3, 60), (60, .goto (-26), 3, 63), (63, .iload 4, 2, 65), (65, .ireturn, 1, 66)]
set_option maxRecDepth 20000 in
theorem D_Tower_looksFrom {i pc n npc : Nat} {ins : Instr} (h : K_Tower_looksFrom[i]? = some (pc, ins, n, npc)) : zD prog_9_method_12_code pc ins n npc := zDall (by decide +kernel) h
def K_Tower_leastWrong : List (Nat × Instr × Nat × Nat) := [(0, .aload_n 0, 1, 1), (1, .getfield 27, 3, 4), (4, .iconst 0, 1, 5), (5, .invokestatic 140, 3, 8), (8, .aload_n 0, 1, 9), (9, .getfield 31, 3, 12), (12, .aload_n 0, 1, 13), (13, .getfield 45, 3, 16), (16, .iconst 0, 1, 17), (17, .iastore, 1, 18), (18, .aload_n 0, 1, 19), (19, .getfield 45, 3, 22), (22, .iconst 1, 1, 23), (23, .isub, 1, 24), (24, .istore_n 1, 1, 25), (25, .iload_n 1, 1, 26), (26, .ifCond .lt 54, 3, 29), (29, .aload_n 0, 1, 30), (30, .getfield 31, 3, 33), (33, .iload_n 1, 1, 34), (34, .aload_n 0, 1, 35), (35, .getfield 31, 3, 38), (38, .iload_n 1, 1, 39), (39, .iconst 1, 1, 40), (40, .iadd, 1, 41), (41, .iaload, 1, 42), (42, .iastore, 1, 43), (43, .iconst 0, 1, 44), (44, .istore_n 2, 1, 45), (45, .iload_n 2, 1, 46), (46, .iload_n 1, 1, 47), (47, .if_icmp .ge 27, 3, 50), (50, .aload_n 0, 1, 51), (51, .getfield 31, 3, 54), (54, .iload_n 1, 1, 55), (55, .dup2, 1, 56), (56, .iaload, 1, 57), (57, .aload_n 0, 1, 58), (58, .iload_n 2, 1, 59), (59, .iload_n 1, 1, 60), (60, .invokestatic 59, 3, 63), (63, .invokevirtual 143, 3, 66), (66, .iadd, 1, 67), (67, .iastore, 1, 68), (68, .iinc 2 1, 3, 71), (71, .goto (-26), 3, 74), (74, .iinc 1 (-1), 3, 77), (77, .goto (-52), 3, 80), (80, .aload_n 0, 1, 81), (81, .bipush 25, 2, 83), (83, .putfield 146, 3, 86), (86, .aload_n 0, 1, 87), (87, .iconst 0, 1, 88), (88, .iconst 0, 1, 89), (89, .invokevirtual 149, 3, 92), (92, .aload_n 0, 1, 93), (93, .getfield 146, 3, 96), (96, .ireturn, 1, 97)]
set_option maxRecDepth 20000 in
theorem D_Tower_leastWrong {i pc n npc : Nat} {ins : Instr} (h : K_Tower_leastWrong[i]? = some (pc, ins, n, npc)) : zD prog_9_method_13_code pc ins n npc := zDall (by decide +kernel) h
def K_Tower_weigh : List (Nat × Instr × Nat × Nat) := [(0, .aload_n 0, 1, 1), (1, .getfield 11, 3, 4), (4, .getstatic 77, 3, 7), (7, .iload_n 1, 1, 8), (8, .iaload, 1, 9), (9, .aaload, 1, 10), (10, .astore_n 2, 1, 11), (11, .iload_n 1, 1, 12), (12, .bipush 24, 2, 14), (14, .imul, 1, 15), (15, .bipush 24, 2, 17), (17, .imul, 1, 18), (18, .istore_n 3, 1, 19), (19, .iconst 0, 1, 20), (20, .istore 4, 2, 22), (22, .iload 4, 2, 24), (24, .iconst 4, 1, 25), (25, .if_icmp .ge 76, 3, 28), (28, .aload_n 0, 1, 29), (29, .iload_n 1, 1, 30), (30, .iload 4, 2, 32), (32, .invokevirtual 83, 3, 35), (35, .iconst 0, 1, 36), (36, .istore 5, 2, 38), (38, .iload 5, 2, 40), (40, .sipush 576, 3, 43), (43, .if_icmp .ge 52, 3, 46), (46, .aload_n 0, 1, 47), (47, .getfield 21, 3, 50), (50, .aload_n 2, 1, 51), (51, .iload 5, 2, 53), (53, .bipush 24, 2, 55), (55, .idiv, 1, 56), (56, .iload 4, 2, 58), (58, .invokevirtual 55, 3, 61), (61, .iaload, 1, 62), (62, .istore 6, 2, 64), (64, .aload_n 0, 1, 65), (65, .getfield 27, 3, 68), (68, .iload_n 3, 1, 69), (69, .iload 5, 2, 71), (71, .iadd, 1, 72), (72, .dup2, 1, 73), (73, .baload, 1, 74), (74, .iconst 1, 1, 75), (75, .iload 6, 2, 77), (77, .iload 5, 2, 79), (79, .bipush 24, 2, 81), (81, .irem, 1, 82), (82, .ishr, 1, 83), (83, .iconst 1, 1, 84), (84, .iand, 1, 85), (85, .isub, 1, 86), (86, .iadd, 1, 87), (87, .i2b, 1, 88), (88, .bastore, 1, 89), (89, .iinc 5 1, 3, 92), (92, .goto (-54), 3, 95), (95, .iinc 4 1, 3, 98), (98, .goto (-76), 3, 101), (101, .iconst 4, 1, 102), (102, .istore 4, 2, 104), (104, .iconst 0, 1, 105), (105, .istore 5, 2, 107), (107, .iload 5, 2, 109), (109, .sipush 576, 3, 112), (112, .if_icmp .ge 25, 3, 115), (115, .iload 4, 2, 117), (117, .aload_n 0, 1, 118), (118, .getfield 27, 3, 121), (121, .iload_n 3, 1, 122), (122, .iload 5, 2, 124), (124, .iadd, 1, 125), (125, .baload, 1, 126), (126, .invokestatic 152, 3, 129), (129, .istore 4, 2, 131), (131, .iinc 5 1, 3, 134), (134, .goto (-27), 3, 137), (137, .iload 4, 2, 139), (139, .ireturn, 1, 140)]
set_option maxRecDepth 20000 in
theorem D_Tower_weigh {i pc n npc : Nat} {ins : Instr} (h : K_Tower_weigh[i]? = some (pc, ins, n, npc)) : zD prog_9_method_14_code pc ins n npc := zDall (by decide +kernel) h
def K_Tower_descend : List (Nat × Instr × Nat × Nat) := [(0, .iload_n 2, 1, 1), (1, .aload_n 0, 1, 2), (2, .getfield 31, 3, 5), (5, .iload_n 1, 1, 6), (6, .iaload, 1, 7), (7, .iadd, 1, 8), (8, .aload_n 0, 1, 9), (9, .getfield 146, 3, 12), (12, .if_icmp .lt 4, 3, 15), (15, .return_, 1, 16), (16, .iload_n 1, 1, 17), (17, .aload_n 0, 1, 18), (18, .getfield 45, 3, 21), (21, .if_icmp .lt 9, 3, 24), (24, .aload_n 0, 1, 25), (25, .iload_n 2, 1, 26), (26, .putfield 146, 3, 29), (29, .return_, 1, 30), (30, .iconst 0, 1, 31), (31, .istore_n 3, 1, 32), (32, .iload_n 3, 1, 33), (33, .bipush 24, 2, 35), (35, .if_icmp .ge 50, 3, 38), (38, .aload_n 0, 1, 39), (39, .getfield 41, 3, 42), (42, .getfield 68, 3, 45), (45, .iload_n 1, 1, 46), (46, .iaload, 1, 47), (47, .iload_n 3, 1, 48), (48, .ishr, 1, 49), (49, .iconst 1, 1, 50), (50, .iand, 1, 51), (51, .ifCond .eq 28, 3, 54), (54, .aload_n 0, 1, 55), (55, .getfield 41, 3, 58), (58, .getfield 125, 3, 61), (61, .iload_n 1, 1, 62), (62, .iload_n 3, 1, 63), (63, .iastore, 1, 64), (64, .aload_n 0, 1, 65), (65, .iload_n 1, 1, 66), (66, .iconst 1, 1, 67), (67, .iadd, 1, 68), (68, .iload_n 2, 1, 69), (69, .aload_n 0, 1, 70), (70, .iload_n 1, 1, 71), (71, .iload_n 3, 1, 72), (72, .invokevirtual 157, 3, 75), (75, .iadd, 1, 76), (76, .invokevirtual 149, 3, 79), (79, .iinc 3 1, 3, 82), (82, .goto (-50), 3, 85), (85, .return_, 1, 86)]
set_option maxRecDepth 20000 in
theorem D_Tower_descend {i pc n npc : Nat} {ins : Instr} (h : K_Tower_descend[i]? = some (pc, ins, n, npc)) : zD prog_9_method_15_code pc ins n npc := zDall (by decide +kernel) h
def K_Tower_costOf : List (Nat × Instr × Nat × Nat) := [(0, .iconst 0, 1, 1), (1, .istore_n 3, 1, 2), (2, .iconst 0, 1, 3), (3, .istore 4, 2, 5), (5, .iload 4, 2, 7), (7, .iload_n 1, 1, 8), (8, .if_icmp .ge 42, 3, 11), (11, .iload_n 3, 1, 12), (12, .aload_n 0, 1, 13), (13, .getfield 27, 3, 16), (16, .iload 4, 2, 18), (18, .iload_n 1, 1, 19), (19, .invokestatic 59, 3, 22), (22, .bipush 24, 2, 24), (24, .imul, 1, 25), (25, .aload_n 0, 1, 26), (26, .getfield 41, 3, 29), (29, .getfield 125, 3, 32), (32, .iload 4, 2, 34), (34, .iaload, 1, 35), (35, .iadd, 1, 36), (36, .bipush 24, 2, 38), (38, .imul, 1, 39), (39, .iload_n 2, 1, 40), (40, .iadd, 1, 41), (41, .baload, 1, 42), (42, .iadd, 1, 43), (43, .istore_n 3, 1, 44), (44, .iinc 4 1, 3, 47), (47, .goto (-42), 3, 50), (50, .iload_n 3, 1, 51), (51, .ireturn, 1, 52)]
set_option maxRecDepth 20000 in
theorem D_Tower_costOf {i pc n npc : Nat} {ins : Instr} (h : K_Tower_costOf[i]? = some (pc, ins, n, npc)) : zD prog_9_method_16_code pc ins n npc := zDall (by decide +kernel) h
def K_Tower_fitWall : List (Nat × Instr × Nat × Nat) := [(0, .iconst 0, 1, 1), (1, .istore_n 1, 1, 2), (2, .iload_n 1, 1, 3), (3, .iconst 4, 1, 4), (4, .if_icmp .ge 20, 3, 7), (7, .aload_n 0, 1, 8), (8, .getfield 41, 3, 11), (11, .getfield 68, 3, 14), (14, .iload_n 1, 1, 15), (15, .ldc 72, 2, 17), (17, .iastore, 1, 18), (18, .iinc 1 1, 3, 21), (21, .goto (-19), 3, 24), (24, .iconst 0, 1, 25), (25, .istore_n 1, 1, 26), (26, .iload_n 1, 1, 27), (27, .bipush 6, 2, 29), (29, .if_icmp .ge 17, 3, 32), (32, .aload_n 0, 1, 33), (33, .getfield 41, 3, 36), (36, .iload_n 1, 1, 37), (37, .invokevirtual 80, 3, 40), (40, .iinc 1 1, 3, 43), (43, .goto (-17), 3, 46), (46, .aload_n 0, 1, 47), (47, .iconst 0, 1, 48), (48, .iconst 1, 1, 49), (49, .invokestatic 59, 3, 52), (52, .iconst 1, 1, 53), (53, .iconst 3, 1, 54), (54, .invokevirtual 160, 3, 57), (57, .aload_n 0, 1, 58), (58, .iconst 2, 1, 59), (59, .iconst 3, 1, 60), (60, .invokestatic 59, 3, 63), (63, .iconst 1, 1, 64), (64, .iconst 3, 1, 65), (65, .invokevirtual 160, 3, 68), (68, .aload_n 0, 1, 69), (69, .iconst 0, 1, 70), (70, .iconst 2, 1, 71), (71, .invokestatic 59, 3, 74), (74, .iconst 4, 1, 75), (75, .iconst 5, 1, 76), (76, .invokevirtual 160, 3, 79), (79, .aload_n 0, 1, 80), (80, .iconst 1, 1, 81), (81, .iconst 3, 1, 82), (82, .invokestatic 59, 3, 85), (85, .iconst 4, 1, 86), (86, .iconst 5, 1, 87), (87, .invokevirtual 160, 3, 90), (90, .return_, 1, 91)]
set_option maxRecDepth 20000 in
theorem D_Tower_fitWall {i pc n npc : Nat} {ins : Instr} (h : K_Tower_fitWall[i]? = some (pc, ins, n, npc)) : zD prog_9_method_17_code pc ins n npc := zDall (by decide +kernel) h
def K_Tower_touch : List (Nat × Instr × Nat × Nat) := [(0, .aload_n 0, 1, 1), (1, .getfield 11, 3, 4), (4, .getstatic 77, 3, 7), (7, .iload_n 1, 1, 8), (8, .iaload, 1, 9), (9, .aaload, 1, 10), (10, .astore 4, 2, 12), (12, .aload_n 0, 1, 13), (13, .getfield 11, 3, 16), (16, .getstatic 90, 3, 19), (19, .iload_n 1, 1, 20), (20, .iaload, 1, 21), (21, .aaload, 1, 22), (22, .astore 5, 2, 24), (24, .iconst 0, 1, 25), (25, .istore 6, 2, 27), (27, .iload 6, 2, 29), (29, .bipush 24, 2, 31), (31, .if_icmp .ge 38, 3, 34), (34, .aload_n 0, 1, 35), (35, .getfield 41, 3, 38), (38, .getfield 87, 3, 41), (41, .iload_n 1, 1, 42), (42, .bipush 24, 2, 44), (44, .imul, 1, 45), (45, .iload 6, 2, 47), (47, .iadd, 1, 48), (48, .aload 5, 2, 50), (50, .iload_n 3, 1, 51), (51, .aload 4, 2, 53), (53, .iload 6, 2, 55), (55, .iload_n 2, 1, 56), (56, .invokevirtual 55, 3, 59), (59, .invokevirtual 164, 3, 62), (62, .iastore, 1, 63), (63, .iinc 6 1, 3, 66), (66, .goto (-39), 3, 69), (69, .return_, 1, 70)]
set_option maxRecDepth 20000 in
theorem D_Tower_touch {i pc n npc : Nat} {ins : Instr} (h : K_Tower_touch[i]? = some (pc, ins, n, npc)) : zD prog_9_method_18_code pc ins n npc := zDall (by decide +kernel) h
def K_Four_init : List (Nat × Instr × Nat × Nat) := [(0, .aload_n 0, 1, 1), (1, .invokespecial 1, 3, 4), (4, .aload_n 0, 1, 5), (5, .bipush 8, 2, 7), (7, .anewarray 9, 3, 10), (10, .putfield 11, 3, 13), (13, .iconst 0, 1, 14), (14, .istore_n 1, 1, 15), (15, .iload_n 1, 1, 16), (16, .bipush 8, 2, 18), (18, .if_icmp .ge 22, 3, 21), (21, .aload_n 0, 1, 22), (22, .getfield 11, 3, 25), (25, .iload_n 1, 1, 26), (26, .new 9, 3, 29), (29, .dup, 1, 30), (30, .invokespecial 15, 3, 33), (33, .aastore, 1, 34), (34, .iinc 1 1, 3, 37), (37, .goto (-22), 3, 40), (40, .aload_n 0, 1, 41), (41, .new 16, 3, 44), (44, .dup, 1, 45), (45, .invokespecial 18, 3, 48), (48, .putfield 19, 3, 51), (51, .aload_n 0, 1, 52), (52, .new 23, 3, 55), (55, .dup, 1, 56), (56, .aload_n 0, 1, 57), (57, .getfield 11, 3, 60), (60, .aload_n 0, 1, 61), (61, .getfield 19, 3, 64), (64, .new 25, 3, 67), (67, .dup, 1, 68), (68, .invokespecial 27, 3, 71), (71, .invokespecial 28, 3, 74), (74, .putfield 31, 3, 77), (77, .aload_n 0, 1, 78), (78, .new 35, 3, 81), (81, .dup, 1, 82), (82, .invokespecial 37, 3, 85), (85, .putfield 38, 3, 88), (88, .aload_n 0, 1, 89), (89, .new 42, 3, 92), (92, .dup, 1, 93), (93, .invokespecial 44, 3, 96), (96, .putfield 45, 3, 99), (99, .aload_n 0, 1, 100), (100, .new 49, 3, 103), (103, .dup, 1, 104), (104, .invokespecial 51, 3, 107), (107, .putfield 52, 3, 110), (110, .aload_n 0, 1, 111), (111, .bipush 6, 2, 113), (113, .anewarray 56, 3, 116), (116, .putfield 58, 3, 119), (119, .iconst 0, 1, 120), (120, .istore_n 1, 1, 121), (121, .iload_n 1, 1, 122), (122, .bipush 6, 2, 124), (124, .if_icmp .ge 22, 3, 127), (127, .aload_n 0, 1, 128), (128, .getfield 58, 3, 131), (131, .iload_n 1, 1, 132), (132, .new 56, 3, 135), (135, .dup, 1, 136), (136, .invokespecial 62, 3, 139), (139, .aastore, 1, 140), (140, .iinc 1 1, 3, 143), (143, .goto (-22), 3, 146), (146, .return_, 1, 147)]
set_option maxRecDepth 20000 in
theorem D_Four_init {i pc n npc : Nat} {ins : Instr} (h : K_Four_init[i]? = some (pc, ins, n, npc)) : zD prog_1_method_1_code pc ins n npc := zDall (by decide +kernel) h
def K_Four_cube : List (Nat × Instr × Nat × Nat) := [(0, .iload_n 1, 1, 1), (1, .invokestatic 63, 3, 4), (4, .ifCond .ne 5, 3, 7), (7, .iconst (-1), 1, 8), (8, .ireturn, 1, 9), (9, .aload_n 0, 1, 10), (10, .getfield 67, 3, 13), (13, .bipush 8, 2, 15), (15, .if_icmp .lt 6, 3, 18), (18, .bipush (-3), 2, 20), (20, .ireturn, 1, 21), (21, .iload_n 1, 1, 22), (22, .istore_n 2, 1, 23), (23, .iconst 5, 1, 24), (24, .istore_n 3, 1, 25), (25, .iload_n 3, 1, 26), (26, .ifCond .lt 34, 3, 29), (29, .aload_n 0, 1, 30), (30, .getfield 11, 3, 33), (33, .aload_n 0, 1, 34), (34, .getfield 67, 3, 37), (37, .aaload, 1, 38), (38, .getfield 71, 3, 41), (41, .iload_n 3, 1, 42), (42, .iload_n 2, 1, 43), (43, .bipush 10, 2, 45), (45, .irem, 1, 46), (46, .iconst 1, 1, 47), (47, .isub, 1, 48), (48, .iastore, 1, 49), (49, .iload_n 2, 1, 50), (50, .bipush 10, 2, 52), (52, .idiv, 1, 53), (53, .istore_n 2, 1, 54), (54, .iinc 3 (-1), 3, 57), (57, .goto (-32), 3, 60), (60, .aload_n 0, 1, 61), (61, .dup, 1, 62), (62, .getfield 67, 3, 65), (65, .iconst 1, 1, 66), (66, .iadd, 1, 67), (67, .putfield 67, 3, 70), (70, .aload_n 0, 1, 71), (71, .getfield 67, 3, 74), (74, .iconst 1, 1, 75), (75, .isub, 1, 76), (76, .ireturn, 1, 77)]
set_option maxRecDepth 20000 in
theorem D_Four_cube {i pc n npc : Nat} {ins : Instr} (h : K_Four_cube[i]? = some (pc, ins, n, npc)) : zD prog_1_method_2_code pc ins n npc := zDall (by decide +kernel) h
def K_Four_cubes : List (Nat × Instr × Nat × Nat) := [(0, .iload_n 1, 1, 1), (1, .invokestatic 75, 3, 4), (4, .ifCond .eq 14, 3, 7), (7, .iload_n 3, 1, 8), (8, .iconst 1, 1, 9), (9, .if_icmp .lt 9, 3, 12), (12, .iload_n 3, 1, 13), (13, .bipush 8, 2, 15), (15, .if_icmp .le 5, 3, 18), (18, .iconst (-1), 1, 19), (19, .ireturn, 1, 20), (20, .aload_n 0, 1, 21), (21, .getfield 58, 3, 24), (24, .iload_n 1, 1, 25), (25, .aaload, 1, 26), (26, .astore 4, 2, 28), (28, .aload 4, 2, 30), (30, .invokevirtual 78, 3, 33), (33, .ifCond .eq 5, 3, 36), (36, .iconst 0, 1, 37), (37, .ireturn, 1, 38), (38, .aload 4, 2, 40), (40, .invokevirtual 82, 3, 43), (43, .ifCond .eq 11, 3, 46), (46, .aload 4, 2, 48), (48, .getfield 85, 3, 51), (51, .ifCond .eq 6, 3, 54), (54, .bipush (-12), 2, 56), (56, .ireturn, 1, 57), (57, .iconst 0, 1, 58), (58, .istore 5, 2, 60), (60, .iload 5, 2, 62), (62, .iload_n 3, 1, 63), (63, .if_icmp .ge 91, 3, 66), (66, .aload_n 0, 1, 67), (67, .getfield 67, 3, 70), (70, .bipush 8, 2, 72), (72, .if_icmp .ge 82, 3, 75), (75, .aload 4, 2, 77), (77, .iload_n 2, 1, 78), (78, .bipush 6, 2, 80), (80, .iload 5, 2, 82), (82, .imul, 1, 83), (83, .iadd, 1, 84), (84, .invokevirtual 88, 3, 87), (87, .ifCond .eq 67, 3, 90), (90, .iconst 0, 1, 91), (91, .istore 6, 2, 93), (93, .iload 6, 2, 95), (95, .bipush 6, 2, 97), (97, .if_icmp .ge 41, 3, 100), (100, .aload_n 0, 1, 101), (101, .getfield 11, 3, 104), (104, .aload_n 0, 1, 105), (105, .getfield 67, 3, 108), (108, .aaload, 1, 109), (109, .getfield 71, 3, 112), (112, .iload 6, 2, 114), (114, .aload 4, 2, 116), (116, .getfield 91, 3, 119), (119, .iload_n 2, 1, 120), (120, .bipush 6, 2, 122), (122, .iload 5, 2, 124), (124, .imul, 1, 125), (125, .iadd, 1, 126), (126, .iload 6, 2, 128), (128, .iadd, 1, 129), (129, .laload, 1, 130), (130, .l2i, 1, 131), (131, .iastore, 1, 132), (132, .iinc 6 1, 3, 135), (135, .goto (-42), 3, 138), (138, .aload_n 0, 1, 139), (139, .dup, 1, 140), (140, .getfield 67, 3, 143), (143, .iconst 1, 1, 144), (144, .iadd, 1, 145), (145, .putfield 67, 3, 148), (148, .iinc 5 1, 3, 151), (151, .goto (-91), 3, 154), (154, .iload 5, 2, 156), (156, .ireturn, 1, 157)]
set_option maxRecDepth 20000 in
theorem D_Four_cubes {i pc n npc : Nat} {ins : Instr} (h : K_Four_cubes[i]? = some (pc, ins, n, npc)) : zD prog_1_method_3_code pc ins n npc := zDall (by decide +kernel) h
def K_Four_paint : List (Nat × Instr × Nat × Nat) := [(0, .aload_n 0, 1, 1), (1, .iload_n 1, 1, 2), (2, .invokevirtual 95, 3, 5), (5, .ifCond .eq 13, 3, 8), (8, .iload_n 2, 1, 9), (9, .ifCond .lt 9, 3, 12), (12, .iload_n 2, 1, 13), (13, .bipush 6, 2, 15), (15, .if_icmp .le 5, 3, 18), (18, .iconst (-1), 1, 19), (19, .ireturn, 1, 20), (20, .aload_n 0, 1, 21), (21, .iload_n 1, 1, 22), (22, .invokevirtual 98, 3, 25), (25, .istore_n 3, 1, 26), (26, .iload_n 2, 1, 27), (27, .iload_n 3, 1, 28), (28, .if_icmp .eq 19, 3, 31), (31, .aload_n 0, 1, 32), (32, .getfield 45, 3, 35), (35, .iload_n 1, 1, 36), (36, .iload_n 3, 1, 37), (37, .iload_n 2, 1, 38), (38, .invokevirtual 102, 3, 41), (41, .aload_n 0, 1, 42), (42, .iload_n 1, 1, 43), (43, .iload_n 2, 1, 44), (44, .invokevirtual 106, 3, 47), (47, .iload_n 3, 1, 48), (48, .ireturn, 1, 49)]
set_option maxRecDepth 20000 in
theorem D_Four_paint {i pc n npc : Nat} {ins : Instr} (h : K_Four_paint[i]? = some (pc, ins, n, npc)) : zD prog_1_method_4_code pc ins n npc := zDall (by decide +kernel) h
def K_Four_of : List (Nat × Instr × Nat × Nat) := [(0, .aload_n 0, 1, 1), (1, .iload_n 1, 1, 2), (2, .invokevirtual 110, 3, 5), (5, .ifCond .ne 5, 3, 8), (8, .iconst (-1), 1, 9), (9, .ireturn, 1, 10), (10, .iload_n 2, 1, 11), (11, .ifCond .lt 21, 3, 14), (14, .iload_n 2, 1, 15), (15, .bipush 6, 2, 17), (17, .if_icmp .ge 15, 3, 20), (20, .aload_n 0, 1, 21), (21, .getfield 11, 3, 24), (24, .iload_n 1, 1, 25), (25, .aaload, 1, 26), (26, .getfield 71, 3, 29), (29, .iload_n 2, 1, 30), (30, .iaload, 1, 31), (31, .ireturn, 1, 32), (32, .iload_n 2, 1, 33), (33, .bipush 6, 2, 35), (35, .if_icmp .ne 13, 3, 38), (38, .aload_n 0, 1, 39), (39, .getfield 11, 3, 42), (42, .iload_n 1, 1, 43), (43, .aaload, 1, 44), (44, .getfield 113, 3, 47), (47, .ireturn, 1, 48), (48, .iload_n 2, 1, 49), (49, .bipush 10, 2, 51), (51, .if_icmp .lt 23, 3, 54), (54, .iload_n 2, 1, 55), (55, .bipush 13, 2, 57), (57, .if_icmp .ge 17, 3, 60), (60, .aload_n 0, 1, 61), (61, .getfield 11, 3, 64), (64, .iload_n 1, 1, 65), (65, .aaload, 1, 66), (66, .iload_n 2, 1, 67), (67, .bipush 10, 2, 69), (69, .isub, 1, 70), (70, .invokevirtual 116, 3, 73), (73, .ireturn, 1, 74), (74, .iconst (-1), 1, 75), (75, .ireturn, 1, 76)]
set_option maxRecDepth 20000 in
theorem D_Four_of {i pc n npc : Nat} {ins : Instr} (h : K_Four_of[i]? = some (pc, ins, n, npc)) : zD prog_1_method_5_code pc ins n npc := zDall (by decide +kernel) h
def K_Four_box : List (Nat × Instr × Nat × Nat) := [(0, .aload_n 0, 1, 1), (1, .iload_n 1, 1, 2), (2, .invokevirtual 119, 3, 5), (5, .ifCond .eq 11, 3, 8), (8, .iload_n 1, 1, 9), (9, .invokestatic 122, 3, 12), (12, .iconst 4, 1, 13), (13, .if_icmp .le 5, 3, 16), (16, .iconst (-1), 1, 17), (17, .ireturn, 1, 18), (18, .aload_n 0, 1, 19), (19, .getfield 127, 3, 22), (22, .istore_n 2, 1, 23), (23, .aload_n 0, 1, 24), (24, .iload_n 1, 1, 25), (25, .putfield 127, 3, 28), (28, .iload_n 2, 1, 29), (29, .ireturn, 1, 30)]
set_option maxRecDepth 20000 in
theorem D_Four_box {i pc n npc : Nat} {ins : Instr} (h : K_Four_box[i]? = some (pc, ins, n, npc)) : zD prog_1_method_6_code pc ins n npc := zDall (by decide +kernel) h
def K_Four_feed : List (Nat × Instr × Nat × Nat) := [(0, .iload_n 1, 1, 1), (1, .ifCond .lt 10, 3, 4), (4, .iload_n 1, 1, 5), (5, .sipush 255, 3, 8), (8, .if_icmp .le 5, 3, 11), (11, .iconst (-1), 1, 12), (12, .ireturn, 1, 13), (13, .aload_n 0, 1, 14), (14, .getfield 19, 3, 17), (17, .iload_n 1, 1, 18), (18, .invokevirtual 130, 3, 21), (21, .ireturn, 1, 22)]
set_option maxRecDepth 20000 in
theorem D_Four_feed {i pc n npc : Nat} {ins : Instr} (h : K_Four_feed[i]? = some (pc, ins, n, npc)) : zD prog_1_method_7_code pc ins n npc := zDall (by decide +kernel) h
def K_Four_law : List (Nat × Instr × Nat × Nat) := [(0, .aload_n 0, 1, 1), (1, .getfield 19, 3, 4), (4, .invokevirtual 133, 3, 7), (7, .ireturn, 1, 8)]
set_option maxRecDepth 20000 in
theorem D_Four_law {i pc n npc : Nat} {ins : Instr} (h : K_Four_law[i]? = some (pc, ins, n, npc)) : zD prog_1_method_8_code pc ins n npc := zDall (by decide +kernel) h
def K_Four_turn : List (Nat × Instr × Nat × Nat) := [(0, .aload_n 0, 1, 1), (1, .iload_n 1, 1, 2), (2, .invokevirtual 110, 3, 5), (5, .ifCond .eq 10, 3, 8), (8, .iload_n 2, 1, 9), (9, .invokestatic 137, 3, 12), (12, .ifCond .ne 5, 3, 15), (15, .iconst (-1), 1, 16), (16, .ireturn, 1, 17), (17, .aload_n 0, 1, 18), (18, .getfield 11, 3, 21), (21, .iload_n 1, 1, 22), (22, .aaload, 1, 23), (23, .getfield 113, 3, 26), (26, .istore_n 3, 1, 27), (27, .aload_n 0, 1, 28), (28, .getfield 11, 3, 31), (31, .iload_n 1, 1, 32), (32, .aaload, 1, 33), (33, .iload_n 2, 1, 34), (34, .putfield 113, 3, 37), (37, .iload_n 3, 1, 38), (38, .ireturn, 1, 39)]
set_option maxRecDepth 20000 in
theorem D_Four_turn {i pc n npc : Nat} {ins : Instr} (h : K_Four_turn[i]? = some (pc, ins, n, npc)) : zD prog_1_method_9_code pc ins n npc := zDall (by decide +kernel) h
def K_Four_shows : List (Nat × Instr × Nat × Nat) := [(0, .aload_n 0, 1, 1), (1, .iload_n 1, 1, 2), (2, .invokevirtual 110, 3, 5), (5, .ifCond .eq 20, 3, 8), (8, .iload_n 2, 1, 9), (9, .invokestatic 137, 3, 12), (12, .ifCond .eq 13, 3, 15), (15, .iload_n 3, 1, 16), (16, .ifCond .lt 9, 3, 19), (19, .iload_n 3, 1, 20), (20, .bipush 6, 2, 22), (22, .if_icmp .lt 5, 3, 25), (25, .iconst (-1), 1, 26), (26, .ireturn, 1, 27), (27, .aload_n 0, 1, 28), (28, .getfield 11, 3, 31), (31, .iload_n 1, 1, 32), (32, .aaload, 1, 33), (33, .iload_n 2, 1, 34), (34, .iload_n 3, 1, 35), (35, .invokevirtual 140, 3, 38), (38, .ireturn, 1, 39)]
set_option maxRecDepth 20000 in
theorem D_Four_shows {i pc n npc : Nat} {ins : Instr} (h : K_Four_shows[i]? = some (pc, ins, n, npc)) : zD prog_1_method_10_code pc ins n npc := zDall (by decide +kernel) h
def K_Four_judge : List (Nat × Instr × Nat × Nat) := [(0, .aload_n 0, 1, 1), (1, .getfield 31, 3, 4), (4, .aload_n 0, 1, 5), (5, .getfield 127, 3, 8), (8, .invokevirtual 144, 3, 11), (11, .aload_n 0, 1, 12), (12, .getfield 31, 3, 15), (15, .invokevirtual 148, 3, 18), (18, .ireturn, 1, 19)]
set_option maxRecDepth 20000 in
theorem D_Four_judge {i pc n npc : Nat} {ins : Instr} (h : K_Four_judge[i]? = some (pc, ins, n, npc)) : zD prog_1_method_11_code pc ins n npc := zDall (by decide +kernel) h
def K_Four_ways : List (Nat × Instr × Nat × Nat) := [(0, .aload_n 0, 1, 1), (1, .iload_n 1, 1, 2), (2, .invokevirtual 119, 3, 5), (5, .ifCond .eq 19, 3, 8), (8, .iload_n 2, 1, 9), (9, .iconst (-1), 1, 10), (10, .if_icmp .lt 14, 3, 13), (13, .iload_n 2, 1, 14), (14, .aload_n 0, 1, 15), (15, .getfield 127, 3, 18), (18, .invokestatic 122, 3, 21), (21, .if_icmp .lt 5, 3, 24), (24, .iconst (-1), 1, 25), (25, .ireturn, 1, 26), (26, .aload_n 0, 1, 27), (27, .getfield 31, 3, 30), (30, .aload_n 0, 1, 31), (31, .getfield 127, 3, 34), (34, .invokevirtual 144, 3, 37), (37, .aload_n 0, 1, 38), (38, .getfield 31, 3, 41), (41, .iload_n 1, 1, 42), (42, .invokevirtual 151, 3, 45), (45, .aload_n 0, 1, 46), (46, .getfield 31, 3, 49), (49, .invokevirtual 154, 3, 52), (52, .aload_n 0, 1, 53), (53, .getfield 31, 3, 56), (56, .getfield 157, 3, 59), (59, .iload_n 2, 1, 60), (60, .invokevirtual 161, 3, 63), (63, .ireturn, 1, 64)]
set_option maxRecDepth 20000 in
theorem D_Four_ways {i pc n npc : Nat} {ins : Instr} (h : K_Four_ways[i]? = some (pc, ins, n, npc)) : zD prog_1_method_12_code pc ins n npc := zDall (by decide +kernel) h
def K_Four_near : List (Nat × Instr × Nat × Nat) := [(0, .aload_n 0, 1, 1), (1, .iload_n 1, 1, 2), (2, .invokevirtual 119, 3, 5), (5, .ifCond .ne 5, 3, 8), (8, .iconst (-1), 1, 9), (9, .ireturn, 1, 10), (10, .aload_n 0, 1, 11), (11, .getfield 31, 3, 14), (14, .aload_n 0, 1, 15), (15, .getfield 127, 3, 18), (18, .invokevirtual 144, 3, 21), (21, .aload_n 0, 1, 22), (22, .getfield 31, 3, 25), (25, .iload_n 1, 1, 26), (26, .invokevirtual 151, 3, 29), (29, .aload_n 0, 1, 30), (30, .getfield 31, 3, 33), (33, .invokevirtual 164, 3, 36), (36, .ireturn, 1, 37)]
set_option maxRecDepth 20000 in
theorem D_Four_near {i pc n npc : Nat} {ins : Instr} (h : K_Four_near[i]? = some (pc, ins, n, npc)) : zD prog_1_method_13_code pc ins n npc := zDall (by decide +kernel) h
def K_Four_build : List (Nat × Instr × Nat × Nat) := [(0, .iload_n 1, 1, 1), (1, .invokestatic 137, 3, 4), (4, .ifCond .eq 12, 3, 7), (7, .iload_n 2, 1, 8), (8, .ifCond .lt 8, 3, 11), (11, .iload_n 2, 1, 12), (12, .iconst 1, 1, 13), (13, .if_icmp .le 5, 3, 16), (16, .iconst (-1), 1, 17), (17, .ireturn, 1, 18), (18, .aload_n 0, 1, 19), (19, .getfield 127, 3, 22), (22, .ifCond .ne 6, 3, 25), (25, .bipush (-5), 2, 27), (27, .ireturn, 1, 28), (28, .aload_n 0, 1, 29), (29, .getfield 31, 3, 32), (32, .aload_n 0, 1, 33), (33, .getfield 127, 3, 36), (36, .invokevirtual 144, 3, 39), (39, .aload_n 0, 1, 40), (40, .getfield 31, 3, 43), (43, .invokevirtual 154, 3, 46), (46, .iload_n 2, 1, 47), (47, .ifCond .ne 14, 3, 50), (50, .aload_n 0, 1, 51), (51, .getfield 31, 3, 54), (54, .iload_n 1, 1, 55), (55, .invokevirtual 167, 3, 58), (58, .goto 11, 3, 61), (61, .aload_n 0, 1, 62), (62, .getfield 31, 3, 65), (65, .iload_n 1, 1, 66), (66, .invokevirtual 170, 3, 69), (69, .ireturn, 1, 70)]
set_option maxRecDepth 20000 in
theorem D_Four_build {i pc n npc : Nat} {ins : Instr} (h : K_Four_build[i]? = some (pc, ins, n, npc)) : zD prog_1_method_14_code pc ins n npc := zDall (by decide +kernel) h
def K_Four_mend : List (Nat × Instr × Nat × Nat) := [(0, .iload_n 1, 1, 1), (1, .ifCond .lt 8, 3, 4), (4, .iload_n 1, 1, 5), (5, .iconst 3, 1, 6), (6, .if_icmp .le 5, 3, 9), (9, .iconst (-1), 1, 10), (10, .ireturn, 1, 11), (11, .aload_n 0, 1, 12), (12, .getfield 31, 3, 15), (15, .aload_n 0, 1, 16), (16, .getfield 127, 3, 19), (19, .invokevirtual 144, 3, 22), (22, .aload_n 0, 1, 23), (23, .getfield 31, 3, 26), (26, .iload_n 1, 1, 27), (27, .ifCond .le 7, 3, 30), (30, .iconst 1, 1, 31), (31, .goto 4, 3, 34), (34, .iconst 0, 1, 35), (35, .invokevirtual 173, 3, 38), (38, .iload_n 1, 1, 39), (39, .ifCond .ne 11, 3, 42), (42, .aload_n 0, 1, 43), (43, .getfield 31, 3, 46), (46, .getfield 177, 3, 49), (49, .ireturn, 1, 50), (50, .aload_n 0, 1, 51), (51, .getfield 31, 3, 54), (54, .getfield 177, 3, 57), (57, .ifCond .ne 6, 3, 60), (60, .bipush (-2), 2, 62), (62, .ireturn, 1, 63), (63, .iload_n 1, 1, 64), (64, .iconst 1, 1, 65), (65, .if_icmp .ne 14, 3, 68), (68, .aload_n 0, 1, 69), (69, .getfield 31, 3, 72), (72, .getfield 180, 3, 75), (75, .bipush 100, 2, 77), (77, .idiv, 1, 78), (78, .ireturn, 1, 79), (79, .iload_n 1, 1, 80), (80, .iconst 2, 1, 81), (81, .if_icmp .ne 19, 3, 84), (84, .aload_n 0, 1, 85), (85, .getfield 31, 3, 88), (88, .getfield 180, 3, 91), (91, .bipush 10, 2, 93), (93, .idiv, 1, 94), (94, .bipush 10, 2, 96), (96, .irem, 1, 97), (97, .goto 13, 3, 100), (100, .aload_n 0, 1, 101), (101, .getfield 31, 3, 104), (104, .getfield 180, 3, 107), (107, .bipush 10, 2, 109), (109, .irem, 1, 110), (110, .ireturn, 1, 111)]
set_option maxRecDepth 20000 in
theorem D_Four_mend {i pc n npc : Nat} {ins : Instr} (h : K_Four_mend[i]? = some (pc, ins, n, npc)) : zD prog_1_method_15_code pc ins n npc := zDall (by decide +kernel) h
def K_Four_open : List (Nat × Instr × Nat × Nat) := [(0, .aload_n 0, 1, 1), (1, .iload_n 1, 1, 2), (2, .invokevirtual 95, 3, 5), (5, .ifCond .ne 5, 3, 8), (8, .iconst (-1), 1, 9), (9, .ireturn, 1, 10), (10, .aload_n 0, 1, 11), (11, .iload_n 1, 1, 12), (12, .invokevirtual 98, 3, 15), (15, .bipush 6, 2, 17), (17, .if_icmp .ne 17, 3, 20), (20, .aload_n 0, 1, 21), (21, .getfield 127, 3, 24), (24, .iload_n 1, 1, 25), (25, .bipush 10, 2, 27), (27, .idiv, 1, 28), (28, .ishr, 1, 29), (29, .iconst 1, 1, 30), (30, .iand, 1, 31), (31, .ifCond .ne 6, 3, 34), (34, .bipush (-5), 2, 36), (36, .ireturn, 1, 37), (37, .aload_n 0, 1, 38), (38, .getfield 31, 3, 41), (41, .aload_n 0, 1, 42), (42, .getfield 127, 3, 45), (45, .invokevirtual 144, 3, 48), (48, .iconst 0, 1, 49), (49, .istore_n 2, 1, 50), (50, .iconst 0, 1, 51), (51, .istore_n 3, 1, 52), (52, .iload_n 3, 1, 53), (53, .bipush 6, 2, 55), (55, .if_icmp .ge 39, 3, 58), (58, .aload_n 0, 1, 59), (59, .getfield 31, 3, 62), (62, .aload_n 0, 1, 63), (63, .getfield 11, 3, 66), (66, .iload_n 1, 1, 67), (67, .bipush 10, 2, 69), (69, .idiv, 1, 70), (70, .aaload, 1, 71), (71, .iload_n 1, 1, 72), (72, .bipush 10, 2, 74), (74, .irem, 1, 75), (75, .iload_n 3, 1, 76), (76, .invokevirtual 183, 3, 79), (79, .ifCond .eq 9, 3, 82), (82, .iload_n 2, 1, 83), (83, .iconst 1, 1, 84), (84, .iload_n 3, 1, 85), (85, .ishl, 1, 86), (86, .ior, 1, 87), (87, .istore_n 2, 1, 88), (88, .iinc 3 1, 3, 91), (91, .goto (-39), 3, 94), (94, .iload_n 2, 1, 95), (95, .ireturn, 1, 96)]
set_option maxRecDepth 20000 in
theorem D_Four_open {i pc n npc : Nat} {ins : Instr} (h : K_Four_open[i]? = some (pc, ins, n, npc)) : zD prog_1_method_16_code pc ins n npc := zDall (by decide +kernel) h
def K_Four_swap : List (Nat × Instr × Nat × Nat) := [(0, .iload_n 1, 1, 1), (1, .ifCond .lt 8, 3, 4), (4, .iload_n 1, 1, 5), (5, .iconst 1, 1, 6), (6, .if_icmp .le 5, 3, 9), (9, .iconst (-1), 1, 10), (10, .ireturn, 1, 11), (11, .iconst 1, 1, 12), (12, .aload_n 0, 1, 13), (13, .getfield 67, 3, 16), (16, .ishl, 1, 17), (17, .iconst 1, 1, 18), (18, .isub, 1, 19), (19, .aload_n 0, 1, 20), (20, .getfield 127, 3, 23), (23, .iconst (-1), 1, 24), (24, .ixor, 1, 25), (25, .iand, 1, 26), (26, .istore_n 2, 1, 27), (27, .iload_n 2, 1, 28), (28, .invokestatic 122, 3, 31), (31, .iconst 4, 1, 32), (32, .if_icmp .le 6, 3, 35), (35, .bipush (-5), 2, 37), (37, .ireturn, 1, 38), (38, .iconst 0, 1, 39), (39, .istore_n 3, 1, 40), (40, .iload_n 3, 1, 41), (41, .aload_n 0, 1, 42), (42, .getfield 67, 3, 45), (45, .if_icmp .ge 74, 3, 48), (48, .iconst 0, 1, 49), (49, .istore 4, 2, 51), (51, .iload 4, 2, 53), (53, .aload_n 0, 1, 54), (54, .getfield 67, 3, 57), (57, .if_icmp .ge 56, 3, 60), (60, .aload_n 0, 1, 61), (61, .getfield 127, 3, 64), (64, .iload_n 3, 1, 65), (65, .ishr, 1, 66), (66, .iconst 1, 1, 67), (67, .iand, 1, 68), (68, .ifCond .eq 39, 3, 71), (71, .iload_n 2, 1, 72), (72, .iload 4, 2, 74), (74, .ishr, 1, 75), (75, .iconst 1, 1, 76), (76, .iand, 1, 77), (77, .ifCond .eq 30, 3, 80), (80, .aload_n 0, 1, 81), (81, .iload_n 2, 1, 82), (82, .iconst 1, 1, 83), (83, .iload_n 3, 1, 84), (84, .ishl, 1, 85), (85, .iconst 1, 1, 86), (86, .iload 4, 2, 88), (88, .ishl, 1, 89), (89, .ior, 1, 90), (90, .invokevirtual 187, 3, 93), (93, .ifCond .eq 14, 3, 96), (96, .iload_n 1, 1, 97), (97, .ifCond .ne 7, 3, 100), (100, .iload_n 3, 1, 101), (101, .goto 5, 3, 104), (104, .iload 4, 2, 106), (106, .ireturn, 1, 107), (107, .iinc 4 1, 3, 110), (110, .goto (-59), 3, 113), (113, .iinc 3 1, 3, 116), (116, .goto (-76), 3, 119), (119, .bipush (-2), 2, 121), (121, .ireturn, 1, 122)]
set_option maxRecDepth 20000 in
theorem D_Four_swap {i pc n npc : Nat} {ins : Instr} (h : K_Four_swap[i]? = some (pc, ins, n, npc)) : zD prog_1_method_17_code pc ins n npc := zDall (by decide +kernel) h
def K_Four_rings : List (Nat × Instr × Nat × Nat) := [(0, .iload_n 1, 1, 1), (1, .ifCond .lt 8, 3, 4), (4, .iload_n 1, 1, 5), (5, .iconst 1, 1, 6), (6, .if_icmp .le 5, 3, 9), (9, .iconst (-1), 1, 10), (10, .ireturn, 1, 11), (11, .aload_n 0, 1, 12), (12, .getfield 127, 3, 15), (15, .ifCond .ne 6, 3, 18), (18, .bipush (-5), 2, 20), (20, .ireturn, 1, 21), (21, .aload_n 0, 1, 22), (22, .getfield 31, 3, 25), (25, .aload_n 0, 1, 26), (26, .getfield 127, 3, 29), (29, .invokevirtual 144, 3, 32), (32, .aload_n 0, 1, 33), (33, .getfield 38, 3, 36), (36, .aload_n 0, 1, 37), (37, .getfield 31, 3, 40), (40, .getfield 191, 3, 43), (43, .aload_n 0, 1, 44), (44, .getfield 31, 3, 47), (47, .getfield 194, 3, 50), (50, .invokevirtual 197, 3, 53), (53, .iload_n 1, 1, 54), (54, .ifCond .ne 13, 3, 57), (57, .aload_n 0, 1, 58), (58, .getfield 38, 3, 61), (61, .getfield 201, 3, 64), (64, .goto 10, 3, 67), (67, .aload_n 0, 1, 68), (68, .getfield 38, 3, 71), (71, .invokevirtual 204, 3, 74), (74, .ireturn, 1, 75)]
set_option maxRecDepth 20000 in
theorem D_Four_rings {i pc n npc : Nat} {ins : Instr} (h : K_Four_rings[i]? = some (pc, ins, n, npc)) : zD prog_1_method_18_code pc ins n npc := zDall (by decide +kernel) h
def K_Four_alike : List (Nat × Instr × Nat × Nat) := [(0, .iload_n 1, 1, 1), (1, .ifCond .lt 25, 3, 4), (4, .aload_n 0, 1, 5), (5, .iload_n 1, 1, 6), (6, .bipush 10, 2, 8), (8, .idiv, 1, 9), (9, .invokevirtual 110, 3, 12), (12, .ifCond .eq 14, 3, 15), (15, .aload_n 0, 1, 16), (16, .iload_n 1, 1, 17), (17, .bipush 10, 2, 19), (19, .irem, 1, 20), (20, .invokevirtual 110, 3, 23), (23, .ifCond .ne 5, 3, 26), (26, .iconst (-1), 1, 27), (27, .ireturn, 1, 28), (28, .aload_n 0, 1, 29), (29, .getfield 11, 3, 32), (32, .iload_n 1, 1, 33), (33, .bipush 10, 2, 35), (35, .idiv, 1, 36), (36, .aaload, 1, 37), (37, .astore_n 2, 1, 38), (38, .aload_n 0, 1, 39), (39, .getfield 11, 3, 42), (42, .iload_n 1, 1, 43), (43, .bipush 10, 2, 45), (45, .irem, 1, 46), (46, .aaload, 1, 47), (47, .astore_n 3, 1, 48), (48, .aload_n 2, 1, 49), (49, .aload_n 3, 1, 50), (50, .iconst 0, 1, 51), (51, .invokevirtual 207, 3, 54), (54, .ifCond .eq 5, 3, 57), (57, .iconst 1, 1, 58), (58, .ireturn, 1, 59), (59, .aload_n 2, 1, 60), (60, .aload_n 3, 1, 61), (61, .iconst 1, 1, 62), (62, .invokevirtual 207, 3, 65), (65, .ifCond .eq 7, 3, 68), (68, .iconst 2, 1, 69), (69, .goto 4, 3, 72), (72, .iconst 0, 1, 73), (73, .ireturn, 1, 74)]
set_option maxRecDepth 20000 in
theorem D_Four_alike {i pc n npc : Nat} {ins : Instr} (h : K_Four_alike[i]? = some (pc, ins, n, npc)) : zD prog_1_method_19_code pc ins n npc := zDall (by decide +kernel) h
def K_Four_many : List (Nat × Instr × Nat × Nat) := [(0, .iload_n 1, 1, 1), (1, .iconst 1, 1, 2), (2, .if_icmp .lt 19, 3, 5), (5, .iload_n 1, 1, 6), (6, .sipush 1000, 3, 9), (9, .if_icmp .gt 12, 3, 12), (12, .iload_n 2, 1, 13), (13, .ifCond .lt 8, 3, 16), (16, .iload_n 2, 1, 17), (17, .iconst 1, 1, 18), (18, .if_icmp .le 7, 3, 21), (21, .ldc2_w 211, 3, 24), (24, .lreturn, 1, 25), (25, .iload_n 1, 1, 26), (26, .i2l, 1, 27), (27, .iload_n 1, 1, 28), (28, .i2l, 1, 29), (29, .lmul, 1, 30), (30, .lstore_n 3, 1, 31), (31, .lload_n 3, 1, 32), (32, .iload_n 1, 1, 33), (33, .i2l, 1, 34), (34, .lmul, 1, 35), (35, .lstore 5, 2, 37), (37, .lload 5, 2, 39), (39, .lload 5, 2, 41), (41, .lmul, 1, 42), (42, .ldc2_w 213, 3, 45), (45, .lload_n 3, 1, 46), (46, .lmul, 1, 47), (47, .lload_n 3, 1, 48), (48, .lmul, 1, 49), (49, .ladd, 1, 50), (50, .ldc2_w 215, 3, 53), (53, .lload 5, 2, 55), (55, .lmul, 1, 56), (56, .ladd, 1, 57), (57, .ldc2_w 217, 3, 60), (60, .lload_n 3, 1, 61), (61, .lmul, 1, 62), (62, .ladd, 1, 63), (63, .lstore 7, 2, 65), (65, .iload_n 2, 1, 66), (66, .ifCond .ne 10, 3, 69), (69, .lload 7, 2, 71), (71, .ldc2_w 219, 3, 74), (74, .ldiv, 1, 75), (75, .lreturn, 1, 76), (76, .ldc2_w 213, 3, 79), (79, .lload 5, 2, 81), (81, .lmul, 1, 82), (82, .lload_n 3, 1, 83), (83, .lmul, 1, 84), (84, .ldc2_w 221, 3, 87), (87, .lload_n 3, 1, 88), (88, .lmul, 1, 89), (89, .lload_n 3, 1, 90), (90, .lmul, 1, 91), (91, .ladd, 1, 92), (92, .lload 5, 2, 94), (94, .ladd, 1, 95), (95, .ldc2_w 221, 3, 98), (98, .lload_n 3, 1, 99), (99, .lmul, 1, 100), (100, .ladd, 1, 101), (101, .bipush 8, 2, 103), (103, .iload_n 1, 1, 104), (104, .imul, 1, 105), (105, .i2l, 1, 106), (106, .ladd, 1, 107), (107, .lstore 9, 2, 109), (109, .lload 7, 2, 111), (111, .lload 9, 2, 113), (113, .ladd, 1, 114), (114, .ldc2_w 223, 3, 117), (117, .ldiv, 1, 118), (118, .lreturn, 1, 119)]
set_option maxRecDepth 20000 in
theorem D_Four_many {i pc n npc : Nat} {ins : Instr} (h : K_Four_many[i]? = some (pc, ins, n, npc)) : zD prog_1_method_20_code pc ins n npc := zDall (by decide +kernel) h
def K_Four_sight : List (Nat × Instr × Nat × Nat) := [(0, .iload_n 1, 1, 1), (1, .ifCond .lt 33, 3, 4), (4, .iload_n 1, 1, 5), (5, .bipush 100, 2, 7), (7, .idiv, 1, 8), (8, .bipush 6, 2, 10), (10, .if_icmp .ge 24, 3, 13), (13, .iload_n 1, 1, 14), (14, .bipush 10, 2, 16), (16, .idiv, 1, 17), (17, .bipush 10, 2, 19), (19, .irem, 1, 20), (20, .bipush 6, 2, 22), (22, .if_icmp .ge 12, 3, 25), (25, .iload_n 1, 1, 26), (26, .bipush 10, 2, 28), (28, .irem, 1, 29), (29, .bipush 6, 2, 31), (31, .if_icmp .lt 5, 3, 34), (34, .iconst (-1), 1, 35), (35, .ireturn, 1, 36), (36, .aload_n 0, 1, 37), (37, .iload_n 2, 1, 38), (38, .invokevirtual 110, 3, 41), (41, .ifCond .eq 14, 3, 44), (44, .aload_n 0, 1, 45), (45, .getfield 11, 3, 48), (48, .iload_n 2, 1, 49), (49, .aaload, 1, 50), (50, .iload_n 1, 1, 51), (51, .invokevirtual 225, 3, 54), (54, .ireturn, 1, 55), (55, .iload_n 2, 1, 56), (56, .iconst (-1), 1, 57), (57, .if_icmp .eq 5, 3, 60), (60, .iconst (-1), 1, 61), (61, .ireturn, 1, 62), (62, .iconst 0, 1, 63), (63, .istore_n 3, 1, 64), (64, .iconst 0, 1, 65), (65, .istore 4, 2, 67), (67, .iload 4, 2, 69), (69, .aload_n 0, 1, 70), (70, .getfield 67, 3, 73), (73, .if_icmp .ge 30, 3, 76), (76, .aload_n 0, 1, 77), (77, .getfield 11, 3, 80), (80, .iload 4, 2, 82), (82, .aaload, 1, 83), (83, .iload_n 1, 1, 84), (84, .invokevirtual 225, 3, 87), (87, .ifCond .eq 10, 3, 90), (90, .iload_n 3, 1, 91), (91, .iconst 1, 1, 92), (92, .iload 4, 2, 94), (94, .ishl, 1, 95), (95, .ior, 1, 96), (96, .istore_n 3, 1, 97), (97, .iinc 4 1, 3, 100), (100, .goto (-33), 3, 103), (103, .iload_n 3, 1, 104), (104, .ireturn, 1, 105)]
set_option maxRecDepth 20000 in
theorem D_Four_sight {i pc n npc : Nat} {ins : Instr} (h : K_Four_sight[i]? = some (pc, ins, n, npc)) : zD prog_1_method_21_code pc ins n npc := zDall (by decide +kernel) h
def K_Four_wall : List (Nat × Instr × Nat × Nat) := [(0, .iload_n 1, 1, 1), (1, .iconst (-1), 1, 2), (2, .if_icmp .lt 8, 3, 5), (5, .iload_n 1, 1, 6), (6, .iconst 4, 1, 7), (7, .if_icmp .lt 5, 3, 10), (10, .iconst (-1), 1, 11), (11, .ireturn, 1, 12), (12, .aload_n 0, 1, 13), (13, .getfield 127, 3, 16), (16, .invokestatic 122, 3, 19), (19, .iconst 4, 1, 20), (20, .if_icmp .ge 6, 3, 23), (23, .bipush (-5), 2, 25), (25, .ireturn, 1, 26), (26, .aload_n 0, 1, 27), (27, .getfield 31, 3, 30), (30, .aload_n 0, 1, 31), (31, .getfield 127, 3, 34), (34, .invokevirtual 144, 3, 37), (37, .aload_n 0, 1, 38), (38, .getfield 31, 3, 41), (41, .invokevirtual 228, 3, 44), (44, .aload_n 0, 1, 45), (45, .getfield 31, 3, 48), (48, .getfield 157, 3, 51), (51, .iload_n 1, 1, 52), (52, .invokevirtual 161, 3, 55), (55, .ireturn, 1, 56)]
set_option maxRecDepth 20000 in
theorem D_Four_wall {i pc n npc : Nat} {ins : Instr} (h : K_Four_wall[i]? = some (pc, ins, n, npc)) : zD prog_1_method_22_code pc ins n npc := zDall (by decide +kernel) h
def K_Four_great : List (Nat × Instr × Nat × Nat) := [(0, .iload_n 1, 1, 1), (1, .ifCond .lt 9, 3, 4), (4, .iload_n 1, 1, 5), (5, .bipush 6, 2, 7), (7, .if_icmp .lt 5, 3, 10), (10, .iconst (-1), 1, 11), (11, .ireturn, 1, 12), (12, .iconst 0, 1, 13), (13, .istore_n 2, 1, 14), (14, .iconst 0, 1, 15), (15, .istore_n 3, 1, 16), (16, .iload_n 3, 1, 17), (17, .aload_n 0, 1, 18), (18, .getfield 67, 3, 21), (21, .if_icmp .ge 28, 3, 24), (24, .aload_n 0, 1, 25), (25, .getfield 11, 3, 28), (28, .iload_n 3, 1, 29), (29, .aaload, 1, 30), (30, .iload_n 1, 1, 31), (31, .invokevirtual 231, 3, 34), (34, .ifCond .eq 9, 3, 37), (37, .iload_n 2, 1, 38), (38, .iconst 1, 1, 39), (39, .iload_n 3, 1, 40), (40, .ishl, 1, 41), (41, .ior, 1, 42), (42, .istore_n 2, 1, 43), (43, .iinc 3 1, 3, 46), (46, .goto (-30), 3, 49), (49, .iload_n 2, 1, 50), (50, .ireturn, 1, 51)]
set_option maxRecDepth 20000 in
theorem D_Four_great {i pc n npc : Nat} {ins : Instr} (h : K_Four_great[i]? = some (pc, ins, n, npc)) : zD prog_1_method_23_code pc ins n npc := zDall (by decide +kernel) h
def K_Four_undo : List (Nat × Instr × Nat × Nat) := [(0, .aload_n 0, 1, 1), (1, .getfield 45, 3, 4), (4, .getfield 234, 3, 7), (7, .ifCond .gt 6, 3, 10), (10, .bipush (-5), 2, 12), (12, .ireturn, 1, 13), (13, .aload_n 0, 1, 14), (14, .getfield 45, 3, 17), (17, .dup, 1, 18), (18, .getfield 234, 3, 21), (21, .iconst 1, 1, 22), (22, .isub, 1, 23), (23, .putfield 234, 3, 26), (26, .aload_n 0, 1, 27), (27, .aload_n 0, 1, 28), (28, .getfield 45, 3, 31), (31, .getfield 237, 3, 34), (34, .aload_n 0, 1, 35), (35, .getfield 45, 3, 38), (38, .getfield 234, 3, 41), (41, .iaload, 1, 42), (42, .aload_n 0, 1, 43), (43, .getfield 45, 3, 46), (46, .getfield 238, 3, 49), (49, .aload_n 0, 1, 50), (50, .getfield 45, 3, 53), (53, .getfield 234, 3, 56), (56, .iaload, 1, 57), (57, .invokevirtual 106, 3, 60), (60, .aload_n 0, 1, 61), (61, .getfield 45, 3, 64), (64, .getfield 234, 3, 67), (67, .ireturn, 1, 68)]
set_option maxRecDepth 20000 in
theorem D_Four_undo {i pc n npc : Nat} {ins : Instr} (h : K_Four_undo[i]? = some (pc, ins, n, npc)) : zD prog_1_method_24_code pc ins n npc := zDall (by decide +kernel) h
def K_Four_redo : List (Nat × Instr × Nat × Nat) := [(0, .aload_n 0, 1, 1), (1, .getfield 45, 3, 4), (4, .getfield 234, 3, 7), (7, .aload_n 0, 1, 8), (8, .getfield 45, 3, 11), (11, .getfield 241, 3, 14), (14, .if_icmp .lt 6, 3, 17), (17, .bipush (-5), 2, 19), (19, .ireturn, 1, 20), (20, .aload_n 0, 1, 21), (21, .aload_n 0, 1, 22), (22, .getfield 45, 3, 25), (25, .getfield 237, 3, 28), (28, .aload_n 0, 1, 29), (29, .getfield 45, 3, 32), (32, .getfield 234, 3, 35), (35, .iaload, 1, 36), (36, .aload_n 0, 1, 37), (37, .getfield 45, 3, 40), (40, .getfield 244, 3, 43), (43, .aload_n 0, 1, 44), (44, .getfield 45, 3, 47), (47, .getfield 234, 3, 50), (50, .iaload, 1, 51), (51, .invokevirtual 106, 3, 54), (54, .aload_n 0, 1, 55), (55, .getfield 45, 3, 58), (58, .dup, 1, 59), (59, .getfield 234, 3, 62), (62, .iconst 1, 1, 63), (63, .iadd, 1, 64), (64, .putfield 234, 3, 67), (67, .aload_n 0, 1, 68), (68, .getfield 45, 3, 71), (71, .getfield 241, 3, 74), (74, .aload_n 0, 1, 75), (75, .getfield 45, 3, 78), (78, .getfield 234, 3, 81), (81, .isub, 1, 82), (82, .ireturn, 1, 83)]
set_option maxRecDepth 20000 in
theorem D_Four_redo {i pc n npc : Nat} {ins : Instr} (h : K_Four_redo[i]? = some (pc, ins, n, npc)) : zD prog_1_method_25_code pc ins n npc := zDall (by decide +kernel) h
def K_Four_body : List (Nat × Instr × Nat × Nat) := [(0, .iload_n 1, 1, 1), (1, .invokestatic 247, 3, 4), (4, .ifCond .ne 5, 3, 7), (7, .iconst (-1), 1, 8), (8, .ireturn, 1, 9), (9, .aload_n 0, 1, 10), (10, .getfield 52, 3, 13), (13, .iload_n 1, 1, 14), (14, .invokevirtual 250, 3, 17), (17, .ireturn, 1, 18)]
set_option maxRecDepth 20000 in
theorem D_Four_body {i pc n npc : Nat} {ins : Instr} (h : K_Four_body[i]? = some (pc, ins, n, npc)) : zD prog_1_method_26_code pc ins n npc := zDall (by decide +kernel) h
def K_Four_act : List (Nat × Instr × Nat × Nat) := [(0, .aload_n 0, 1, 1), (1, .getfield 52, 3, 4), (4, .iload_n 1, 1, 5), (5, .iload_n 2, 1, 6), (6, .iload_n 3, 1, 7), (7, .invokevirtual 252, 3, 10), (10, .ireturn, 1, 11)]
set_option maxRecDepth 20000 in
theorem D_Four_act {i pc n npc : Nat} {ins : Instr} (h : K_Four_act[i]? = some (pc, ins, n, npc)) : zD prog_1_method_27_code pc ins n npc := zDall (by decide +kernel) h
def K_Four_trace : List (Nat × Instr × Nat × Nat) := [(0, .iload_n 1, 1, 1), (1, .ifCond .lt 14, 3, 4), (4, .iload_n 1, 1, 5), (5, .aload_n 0, 1, 6), (6, .getfield 52, 3, 9), (9, .invokevirtual 256, 3, 12), (12, .if_icmp .lt 7, 3, 15), (15, .iconst (-1), 1, 16), (16, .goto 12, 3, 19), (19, .aload_n 0, 1, 20), (20, .getfield 52, 3, 23), (23, .getfield 259, 3, 26), (26, .iload_n 1, 1, 27), (27, .iaload, 1, 28), (28, .ireturn, 1, 29)]
set_option maxRecDepth 20000 in
theorem D_Four_trace {i pc n npc : Nat} {ins : Instr} (h : K_Four_trace[i]? = some (pc, ins, n, npc)) : zD prog_1_method_28_code pc ins n npc := zDall (by decide +kernel) h
def K_Four_keep : List (Nat × Instr × Nat × Nat) := [(0, .iload_n 1, 1, 1), (1, .invokestatic 75, 3, 4), (4, .ifCond .eq 19, 3, 7), (7, .iload_n 2, 1, 8), (8, .iconst (-1), 1, 9), (9, .if_icmp .lt 14, 3, 12), (12, .iload_n 2, 1, 13), (13, .aload_n 0, 1, 14), (14, .getfield 52, 3, 17), (17, .getfield 262, 3, 20), (20, .if_icmp .lt 5, 3, 23), (23, .iconst (-1), 1, 24), (24, .ireturn, 1, 25), (25, .iload_n 2, 1, 26), (26, .ifCond .ge 15, 3, 29), (29, .aload_n 0, 1, 30), (30, .getfield 58, 3, 33), (33, .iload_n 1, 1, 34), (34, .aaload, 1, 35), (35, .invokevirtual 263, 3, 38), (38, .goto 13, 3, 41), (41, .aload_n 0, 1, 42), (42, .getfield 58, 3, 45), (45, .iload_n 1, 1, 46), (46, .aaload, 1, 47), (47, .iload_n 2, 1, 48), (48, .invokevirtual 266, 3, 51), (51, .iconst 1, 1, 52), (52, .ireturn, 1, 53)]
set_option maxRecDepth 20000 in
theorem D_Four_keep {i pc n npc : Nat} {ins : Instr} (h : K_Four_keep[i]? = some (pc, ins, n, npc)) : zD prog_1_method_29_code pc ins n npc := zDall (by decide +kernel) h
def K_Four_row : List (Nat × Instr × Nat × Nat) := [(0, .iload_n 1, 1, 1), (1, .invokestatic 75, 3, 4), (4, .ifCond .eq 18, 3, 7), (7, .iload_n 2, 1, 8), (8, .ifCond .lt 14, 3, 11), (11, .iload_n 2, 1, 12), (12, .iconst 5, 1, 13), (13, .if_icmp .ge 9, 3, 16), (16, .iload_n 3, 1, 17), (17, .bipush 60, 2, 19), (19, .if_icmp .le 5, 3, 22), (22, .iconst (-1), 1, 23), (23, .ireturn, 1, 24), (24, .iload_n 3, 1, 25), (25, .ifCond .ge 6, 3, 28), (28, .bipush (-14), 2, 30), (30, .ireturn, 1, 31), (31, .aload_n 0, 1, 32), (32, .getfield 58, 3, 35), (35, .iload_n 1, 1, 36), (36, .aaload, 1, 37), (37, .iload_n 2, 1, 38), (38, .iload_n 3, 1, 39), (39, .invokevirtual 269, 3, 42), (42, .iconst 1, 1, 43), (43, .ireturn, 1, 44)]
set_option maxRecDepth 20000 in
theorem D_Four_row {i pc n npc : Nat} {ins : Instr} (h : K_Four_row[i]? = some (pc, ins, n, npc)) : zD prog_1_method_30_code pc ins n npc := zDall (by decide +kernel) h
def K_Four_put : List (Nat × Instr × Nat × Nat) := [(0, .aload_n 0, 1, 1), (1, .iload_n 1, 1, 2), (2, .iload_n 2, 1, 3), (3, .invokevirtual 272, 3, 6), (6, .istore 5, 2, 8), (8, .iload 5, 2, 10), (10, .ifCond .eq 6, 3, 13), (13, .iload 5, 2, 15), (15, .ireturn, 1, 16), (16, .aload_n 0, 1, 17), (17, .getfield 58, 3, 20), (20, .iload_n 1, 1, 21), (21, .aaload, 1, 22), (22, .iload_n 2, 1, 23), (23, .lload_n 3, 1, 24), (24, .invokevirtual 275, 3, 27), (27, .iconst 1, 1, 28), (28, .ireturn, 1, 29)]
set_option maxRecDepth 20000 in
theorem D_Four_put {i pc n npc : Nat} {ins : Instr} (h : K_Four_put[i]? = some (pc, ins, n, npc)) : zD prog_1_method_31_code pc ins n npc := zDall (by decide +kernel) h
def K_Four_element : List (Nat × Instr × Nat × Nat) := [(0, .aload_n 0, 1, 1), (1, .iload_n 1, 1, 2), (2, .iload_n 2, 1, 3), (3, .invokevirtual 272, 3, 6), (6, .ifCond .eq 9, 3, 9), (9, .ldc2_w 281, 3, 12), (12, .goto 14, 3, 15), (15, .aload_n 0, 1, 16), (16, .getfield 58, 3, 19), (19, .iload_n 1, 1, 20), (20, .aaload, 1, 21), (21, .getfield 91, 3, 24), (24, .iload_n 2, 1, 25), (25, .laload, 1, 26), (26, .lreturn, 1, 27)]
set_option maxRecDepth 20000 in
theorem D_Four_element {i pc n npc : Nat} {ins : Instr} (h : K_Four_element[i]? = some (pc, ins, n, npc)) : zD prog_1_method_32_code pc ins n npc := zDall (by decide +kernel) h
def K_Four_shift : List (Nat × Instr × Nat × Nat) := [(0, .iload_n 1, 1, 1), (1, .invokestatic 75, 3, 4), (4, .ifCond .eq 10, 3, 7), (7, .iload_n 3, 1, 8), (8, .invokestatic 75, 3, 11), (11, .ifCond .ne 5, 3, 14), (14, .iconst (-1), 1, 15), (15, .ireturn, 1, 16), (16, .aload_n 0, 1, 17), (17, .getfield 58, 3, 20), (20, .iload_n 1, 1, 21), (21, .aaload, 1, 22), (22, .astore 6, 2, 24), (24, .aload_n 0, 1, 25), (25, .getfield 58, 3, 28), (28, .iload_n 3, 1, 29), (29, .aaload, 1, 30), (30, .astore 7, 2, 32), (32, .aload 6, 2, 34), (34, .invokevirtual 78, 3, 37), (37, .ifCond .ne 11, 3, 40), (40, .aload 7, 2, 42), (42, .invokevirtual 78, 3, 45), (45, .ifCond .eq 6, 3, 48), (48, .bipush (-11), 2, 50), (50, .ireturn, 1, 51), (51, .aload 6, 2, 53), (53, .invokevirtual 82, 3, 56), (56, .ifCond .eq 24, 3, 59), (59, .aload 7, 2, 61), (61, .invokevirtual 82, 3, 64), (64, .ifCond .eq 16, 3, 67), (67, .aload 6, 2, 69), (69, .getfield 85, 3, 72), (72, .aload 7, 2, 74), (74, .getfield 85, 3, 77), (77, .if_icmp .eq 6, 3, 80), (80, .bipush (-12), 2, 82), (82, .ireturn, 1, 83), (83, .aload 6, 2, 85), (85, .iload_n 2, 1, 86), (86, .iload 5, 2, 88), (88, .invokevirtual 283, 3, 91), (91, .ifCond .eq 15, 3, 94), (94, .aload 7, 2, 96), (96, .iload 4, 2, 98), (98, .iload 5, 2, 100), (100, .invokevirtual 283, 3, 103), (103, .ifCond .ne 6, 3, 106), (106, .bipush (-13), 2, 108), (108, .ireturn, 1, 109), (109, .aload 6, 2, 111), (111, .getfield 91, 3, 114), (114, .iload_n 2, 1, 115), (115, .aload 7, 2, 117), (117, .getfield 91, 3, 120), (120, .iload 4, 2, 122), (122, .iload 5, 2, 124), (124, .invokestatic 286, 3, 127), (127, .iload 5, 2, 129), (129, .ireturn, 1, 130)]
set_option maxRecDepth 20000 in
theorem D_Four_shift {i pc n npc : Nat} {ins : Instr} (h : K_Four_shift[i]? = some (pc, ins, n, npc)) : zD prog_1_method_33_code pc ins n npc := zDall (by decide +kernel) h
def K_Four_taken : List (Nat × Instr × Nat × Nat) := [(0, .iload_n 1, 1, 1), (1, .invokestatic 75, 3, 4), (4, .ifCond .eq 10, 3, 7), (7, .iload_n 2, 1, 8), (8, .invokestatic 247, 3, 11), (11, .ifCond .ne 5, 3, 14), (14, .iconst (-1), 1, 15), (15, .ireturn, 1, 16), (16, .aload_n 0, 1, 17), (17, .getfield 58, 3, 20), (20, .iload_n 1, 1, 21), (21, .aaload, 1, 22), (22, .astore_n 3, 1, 23), (23, .aload_n 3, 1, 24), (24, .invokevirtual 78, 3, 27), (27, .ifCond .eq 6, 3, 30), (30, .bipush (-11), 2, 32), (32, .ireturn, 1, 33), (33, .aload_n 3, 1, 34), (34, .invokevirtual 82, 3, 37), (37, .ifCond .ne 21, 3, 40), (40, .aload_n 0, 1, 41), (41, .getfield 52, 3, 44), (44, .aload_n 3, 1, 45), (45, .getfield 292, 3, 48), (48, .invokevirtual 295, 3, 51), (51, .iload_n 2, 1, 52), (52, .invokestatic 298, 3, 55), (55, .ifCond .ne 6, 3, 58), (58, .bipush (-12), 2, 60), (60, .ireturn, 1, 61), (61, .aload_n 0, 1, 62), (62, .getfield 52, 3, 65), (65, .aload_n 3, 1, 66), (66, .getfield 292, 3, 69), (69, .invokevirtual 295, 3, 72), (72, .ireturn, 1, 73)]
set_option maxRecDepth 20000 in
theorem D_Four_taken {i pc n npc : Nat} {ins : Instr} (h : K_Four_taken[i]? = some (pc, ins, n, npc)) : zD prog_1_method_34_code pc ins n npc := zDall (by decide +kernel) h
def K_Four_count : List (Nat × Instr × Nat × Nat) := [(0, .iload_n 1, 1, 1), (1, .tableswitch 81 0 5 #[39, 44, 49, 57, 65, 73], 39, 40), (40, .aload_n 0, 1, 41), (41, .getfield 67, 3, 44), (44, .ireturn, 1, 45), (45, .aload_n 0, 1, 46), (46, .getfield 127, 3, 49), (49, .ireturn, 1, 50), (50, .aload_n 0, 1, 51), (51, .getfield 19, 3, 54), (54, .getfield 301, 3, 57), (57, .ireturn, 1, 58), (58, .aload_n 0, 1, 59), (59, .getfield 45, 3, 62), (62, .getfield 234, 3, 65), (65, .ireturn, 1, 66), (66, .aload_n 0, 1, 67), (67, .getfield 52, 3, 70), (70, .getfield 262, 3, 73), (73, .ireturn, 1, 74), (74, .aload_n 0, 1, 75), (75, .getfield 52, 3, 78), (78, .getfield 304, 3, 81), (81, .ireturn, 1, 82), (82, .iconst (-1), 1, 83), (83, .ireturn, 1, 84)]
set_option maxRecDepth 20000 in
theorem D_Four_count {i pc n npc : Nat} {ins : Instr} (h : K_Four_count[i]? = some (pc, ins, n, npc)) : zD prog_1_method_35_code pc ins n npc := zDall (by decide +kernel) h
def K_Four_areSixColours : List (Nat × Instr × Nat × Nat) := [(0, .iload_n 0, 1, 1), (1, .ldc_w 307, 3, 4), (4, .if_icmp .lt 10, 3, 7), (7, .iload_n 0, 1, 8), (8, .ldc_w 308, 3, 11), (11, .if_icmp .le 5, 3, 14), (14, .iconst 0, 1, 15), (15, .ireturn, 1, 16), (16, .iload_n 0, 1, 17), (17, .istore_n 1, 1, 18), (18, .iconst 0, 1, 19), (19, .istore_n 2, 1, 20), (20, .iload_n 2, 1, 21), (21, .bipush 6, 2, 23), (23, .if_icmp .ge 33, 3, 26), (26, .iload_n 1, 1, 27), (27, .bipush 10, 2, 29), (29, .irem, 1, 30), (30, .iconst 1, 1, 31), (31, .if_icmp .lt 12, 3, 34), (34, .iload_n 1, 1, 35), (35, .bipush 10, 2, 37), (37, .irem, 1, 38), (38, .bipush 7, 2, 40), (40, .if_icmp .le 5, 3, 43), (43, .iconst 0, 1, 44), (44, .ireturn, 1, 45), (45, .iload_n 1, 1, 46), (46, .bipush 10, 2, 48), (48, .idiv, 1, 49), (49, .istore_n 1, 1, 50), (50, .iinc 2 1, 3, 53), (53, .goto (-33), 3, 56), (56, .iconst 1, 1, 57), (57, .ireturn, 1, 58)]
set_option maxRecDepth 20000 in
theorem D_Four_areSixColours {i pc n npc : Nat} {ins : Instr} (h : K_Four_areSixColours[i]? = some (pc, ins, n, npc)) : zD prog_1_method_36_code pc ins n npc := zDall (by decide +kernel) h
def K_Four_isShelf : List (Nat × Instr × Nat × Nat) := [(0, .iload_n 0, 1, 1), (1, .ifCond .lt 13, 3, 4), (4, .iload_n 0, 1, 5), (5, .bipush 6, 2, 7), (7, .if_icmp .ge 7, 3, 10), (10, .iconst 1, 1, 11), (11, .goto 4, 3, 14), (14, .iconst 0, 1, 15), (15, .ireturn, 1, 16)]
set_option maxRecDepth 20000 in
theorem D_Four_isShelf {i pc n npc : Nat} {ins : Instr} (h : K_Four_isShelf[i]? = some (pc, ins, n, npc)) : zD prog_1_method_37_code pc ins n npc := zDall (by decide +kernel) h
def K_Four_isTurning : List (Nat × Instr × Nat × Nat) := [(0, .iload_n 0, 1, 1), (1, .ifCond .lt 13, 3, 4), (4, .iload_n 0, 1, 5), (5, .bipush 24, 2, 7), (7, .if_icmp .ge 7, 3, 10), (10, .iconst 1, 1, 11), (11, .goto 4, 3, 14), (14, .iconst 0, 1, 15), (15, .ireturn, 1, 16)]
set_option maxRecDepth 20000 in
theorem D_Four_isTurning {i pc n npc : Nat} {ins : Instr} (h : K_Four_isTurning[i]? = some (pc, ins, n, npc)) : zD prog_1_method_38_code pc ins n npc := zDall (by decide +kernel) h
def K_Four_isKind : List (Nat × Instr × Nat × Nat) := [(0, .iload_n 0, 1, 1), (1, .ifCond .lt 13, 3, 4), (4, .iload_n 0, 1, 5), (5, .bipush 8, 2, 7), (7, .if_icmp .ge 7, 3, 10), (10, .iconst 1, 1, 11), (11, .goto 4, 3, 14), (14, .iconst 0, 1, 15), (15, .ireturn, 1, 16)]
set_option maxRecDepth 20000 in
theorem D_Four_isKind {i pc n npc : Nat} {ins : Instr} (h : K_Four_isKind[i]? = some (pc, ins, n, npc)) : zD prog_1_method_39_code pc ins n npc := zDall (by decide +kernel) h
def K_Four_isCube : List (Nat × Instr × Nat × Nat) := [(0, .iload_n 1, 1, 1), (1, .ifCond .lt 15, 3, 4), (4, .iload_n 1, 1, 5), (5, .aload_n 0, 1, 6), (6, .getfield 67, 3, 9), (9, .if_icmp .ge 7, 3, 12), (12, .iconst 1, 1, 13), (13, .goto 4, 3, 16), (16, .iconst 0, 1, 17), (17, .ireturn, 1, 18)]
set_option maxRecDepth 20000 in
theorem D_Four_isCube {i pc n npc : Nat} {ins : Instr} (h : K_Four_isCube[i]? = some (pc, ins, n, npc)) : zD prog_1_method_40_code pc ins n npc := zDall (by decide +kernel) h
def K_Four_areCubes : List (Nat × Instr × Nat × Nat) := [(0, .iload_n 1, 1, 1), (1, .ifCond .lt 17, 3, 4), (4, .iload_n 1, 1, 5), (5, .iconst 1, 1, 6), (6, .aload_n 0, 1, 7), (7, .getfield 67, 3, 10), (10, .ishl, 1, 11), (11, .if_icmp .ge 7, 3, 14), (14, .iconst 1, 1, 15), (15, .goto 4, 3, 18), (18, .iconst 0, 1, 19), (19, .ireturn, 1, 20)]
set_option maxRecDepth 20000 in
theorem D_Four_areCubes {i pc n npc : Nat} {ins : Instr} (h : K_Four_areCubes[i]? = some (pc, ins, n, npc)) : zD prog_1_method_41_code pc ins n npc := zDall (by decide +kernel) h
def K_Four_isFace : List (Nat × Instr × Nat × Nat) := [(0, .iload_n 1, 1, 1), (1, .ifCond .lt 27, 3, 4), (4, .aload_n 0, 1, 5), (5, .iload_n 1, 1, 6), (6, .bipush 10, 2, 8), (8, .idiv, 1, 9), (9, .invokevirtual 110, 3, 12), (12, .ifCond .eq 16, 3, 15), (15, .iload_n 1, 1, 16), (16, .bipush 10, 2, 18), (18, .irem, 1, 19), (19, .bipush 6, 2, 21), (21, .if_icmp .ge 7, 3, 24), (24, .iconst 1, 1, 25), (25, .goto 4, 3, 28), (28, .iconst 0, 1, 29), (29, .ireturn, 1, 30)]
set_option maxRecDepth 20000 in
theorem D_Four_isFace {i pc n npc : Nat} {ins : Instr} (h : K_Four_isFace[i]? = some (pc, ins, n, npc)) : zD prog_1_method_42_code pc ins n npc := zDall (by decide +kernel) h
def K_Four_colourAt : List (Nat × Instr × Nat × Nat) := [(0, .aload_n 0, 1, 1), (1, .getfield 11, 3, 4), (4, .iload_n 1, 1, 5), (5, .bipush 10, 2, 7), (7, .idiv, 1, 8), (8, .aaload, 1, 9), (9, .getfield 71, 3, 12), (12, .iload_n 1, 1, 13), (13, .bipush 10, 2, 15), (15, .irem, 1, 16), (16, .iaload, 1, 17), (17, .ireturn, 1, 18)]
set_option maxRecDepth 20000 in
theorem D_Four_colourAt {i pc n npc : Nat} {ins : Instr} (h : K_Four_colourAt[i]? = some (pc, ins, n, npc)) : zD prog_1_method_43_code pc ins n npc := zDall (by decide +kernel) h
def K_Four_setColour : List (Nat × Instr × Nat × Nat) := [(0, .aload_n 0, 1, 1), (1, .getfield 11, 3, 4), (4, .iload_n 1, 1, 5), (5, .bipush 10, 2, 7), (7, .idiv, 1, 8), (8, .aaload, 1, 9), (9, .getfield 71, 3, 12), (12, .iload_n 1, 1, 13), (13, .bipush 10, 2, 15), (15, .irem, 1, 16), (16, .iload_n 2, 1, 17), (17, .iastore, 1, 18), (18, .return_, 1, 19)]
set_option maxRecDepth 20000 in
theorem D_Four_setColour {i pc n npc : Nat} {ins : Instr} (h : K_Four_setColour[i]? = some (pc, ins, n, npc)) : zD prog_1_method_44_code pc ins n npc := zDall (by decide +kernel) h
def K_Four_goesExchanged : List (Nat × Instr × Nat × Nat) := [(0, .aload_n 0, 1, 1), (1, .getfield 31, 3, 4), (4, .aload_n 0, 1, 5), (5, .getfield 127, 3, 8), (8, .iload_n 2, 1, 9), (9, .ixor, 1, 10), (10, .invokevirtual 144, 3, 13), (13, .aload_n 0, 1, 14), (14, .getfield 31, 3, 17), (17, .invokevirtual 309, 3, 20), (20, .ifCond .ne 5, 3, 23), (23, .iconst 0, 1, 24), (24, .ireturn, 1, 25), (25, .aload_n 0, 1, 26), (26, .getfield 31, 3, 29), (29, .iload_n 1, 1, 30), (30, .iload_n 2, 1, 31), (31, .ixor, 1, 32), (32, .invokevirtual 144, 3, 35), (35, .aload_n 0, 1, 36), (36, .getfield 31, 3, 39), (39, .invokevirtual 309, 3, 42), (42, .ireturn, 1, 43)]
set_option maxRecDepth 20000 in
theorem D_Four_goesExchanged {i pc n npc : Nat} {ins : Instr} (h : K_Four_goesExchanged[i]? = some (pc, ins, n, npc)) : zD prog_1_method_45_code pc ins n npc := zDall (by decide +kernel) h
def K_Four_refusalOf : List (Nat × Instr × Nat × Nat) := [(0, .iload_n 1, 1, 1), (1, .invokestatic 75, 3, 4), (4, .ifCond .ne 5, 3, 7), (7, .iconst (-1), 1, 8), (8, .ireturn, 1, 9), (9, .aload_n 0, 1, 10), (10, .getfield 58, 3, 13), (13, .iload_n 1, 1, 14), (14, .aaload, 1, 15), (15, .astore_n 3, 1, 16), (16, .aload_n 3, 1, 17), (17, .invokevirtual 78, 3, 20), (20, .ifCond .eq 6, 3, 23), (23, .bipush (-11), 2, 25), (25, .ireturn, 1, 26), (26, .aload_n 3, 1, 27), (27, .invokevirtual 82, 3, 30), (30, .ifCond .ne 6, 3, 33), (33, .bipush (-12), 2, 35), (35, .ireturn, 1, 36), (36, .iload_n 2, 1, 37), (37, .ifCond .lt 11, 3, 40), (40, .iload_n 2, 1, 41), (41, .aload_n 3, 1, 42), (42, .getfield 312, 3, 45), (45, .if_icmp .lt 8, 3, 48), (48, .bipush (-13), 2, 50), (50, .goto 4, 3, 53), (53, .iconst 0, 1, 54), (54, .ireturn, 1, 55)]
set_option maxRecDepth 20000 in
theorem D_Four_refusalOf {i pc n npc : Nat} {ins : Instr} (h : K_Four_refusalOf[i]? = some (pc, ins, n, npc)) : zD prog_1_method_46_code pc ins n npc := zDall (by decide +kernel) h
def K_Integer_numberOfTrailingZeros_0f7a4 : List (Nat × Instr × Nat × Nat) := [(0, .iload_n 0, 1, 1), (1, .iconst (-1), 1, 2), (2, .ixor, 1, 3), (3, .iload_n 0, 1, 4), (4, .iconst 1, 1, 5), (5, .isub, 1, 6), (6, .iand, 1, 7), (7, .istore_n 0, 1, 8), (8, .iload_n 0, 1, 9), (9, .ifCond .gt 8, 3, 12), (12, .iload_n 0, 1, 13), (13, .bipush 32, 2, 15), (15, .iand, 1, 16), (16, .ireturn, 1, 17), (17, .iconst 1, 1, 18), (18, .istore_n 1, 1, 19), (19, .iload_n 0, 1, 20), (20, .ldc_w 264, 3, 23), (23, .if_icmp .le 11, 3, 26), (26, .iinc 1 16, 3, 29), (29, .iload_n 0, 1, 30), (30, .bipush 16, 2, 32), (32, .iushr, 1, 33), (33, .istore_n 0, 1, 34), (34, .iload_n 0, 1, 35), (35, .sipush 256, 3, 38), (38, .if_icmp .le 11, 3, 41), (41, .iinc 1 8, 3, 44), (44, .iload_n 0, 1, 45), (45, .bipush 8, 2, 47), (47, .iushr, 1, 48), (48, .istore_n 0, 1, 49), (49, .iload_n 0, 1, 50), (50, .bipush 16, 2, 52), (52, .if_icmp .le 10, 3, 55), (55, .iinc 1 4, 3, 58), (58, .iload_n 0, 1, 59), (59, .iconst 4, 1, 60), (60, .iushr, 1, 61), (61, .istore_n 0, 1, 62), (62, .iload_n 0, 1, 63), (63, .iconst 4, 1, 64), (64, .if_icmp .le 10, 3, 67), (67, .iinc 1 2, 3, 70), (70, .iload_n 0, 1, 71), (71, .iconst 2, 1, 72), (72, .iushr, 1, 73), (73, .istore_n 0, 1, 74), (74, .iload_n 1, 1, 75), (75, .iload_n 0, 1, 76), (76, .iconst 1, 1, 77), (77, .iushr, 1, 78), (78, .iadd, 1, 79), (79, .ireturn, 1, 80)]
set_option maxRecDepth 20000 in
theorem D_Integer_numberOfTrailingZeros_0f7a4 {i pc n npc : Nat} {ins : Instr} (h : K_Integer_numberOfTrailingZeros_0f7a4[i]? = some (pc, ins, n, npc)) : zD prog_12_method_48_code pc ins n npc := zDall (by decide +kernel) h
def K_Integer_bitCount_0f7a4 : List (Nat × Instr × Nat × Nat) := [(0, .iload_n 0, 1, 1), (1, .iload_n 0, 1, 2), (2, .iconst 1, 1, 3), (3, .iushr, 1, 4), (4, .ldc_w 265, 3, 7), (7, .iand, 1, 8), (8, .isub, 1, 9), (9, .istore_n 0, 1, 10), (10, .iload_n 0, 1, 11), (11, .ldc_w 266, 3, 14), (14, .iand, 1, 15), (15, .iload_n 0, 1, 16), (16, .iconst 2, 1, 17), (17, .iushr, 1, 18), (18, .ldc_w 266, 3, 21), (21, .iand, 1, 22), (22, .iadd, 1, 23), (23, .istore_n 0, 1, 24), (24, .iload_n 0, 1, 25), (25, .iload_n 0, 1, 26), (26, .iconst 4, 1, 27), (27, .iushr, 1, 28), (28, .iadd, 1, 29), (29, .ldc_w 267, 3, 32), (32, .iand, 1, 33), (33, .istore_n 0, 1, 34), (34, .iload_n 0, 1, 35), (35, .iload_n 0, 1, 36), (36, .bipush 8, 2, 38), (38, .iushr, 1, 39), (39, .iadd, 1, 40), (40, .istore_n 0, 1, 41), (41, .iload_n 0, 1, 42), (42, .iload_n 0, 1, 43), (43, .bipush 16, 2, 45), (45, .iushr, 1, 46), (46, .iadd, 1, 47), (47, .istore_n 0, 1, 48), (48, .iload_n 0, 1, 49), (49, .bipush 63, 2, 51), (51, .iand, 1, 52), (52, .ireturn, 1, 53)]
set_option maxRecDepth 20000 in
theorem D_Integer_bitCount_0f7a4 {i pc n npc : Nat} {ins : Instr} (h : K_Integer_bitCount_0f7a4[i]? = some (pc, ins, n, npc)) : zD prog_12_method_49_code pc ins n npc := zDall (by decide +kernel) h
def K_Math_max_7cf53 : List (Nat × Instr × Nat × Nat) := [(0, .iload_n 0, 1, 1), (1, .iload_n 1, 1, 2), (2, .if_icmp .lt 7, 3, 5), (5, .iload_n 0, 1, 6), (6, .goto 4, 3, 9), (9, .iload_n 1, 1, 10), (10, .ireturn, 1, 11)]
set_option maxRecDepth 20000 in
theorem D_Math_max_7cf53 {i pc n npc : Nat} {ins : Instr} (h : K_Math_max_7cf53[i]? = some (pc, ins, n, npc)) : zD prog_13_method_65_code pc ins n npc := zDall (by decide +kernel) h
def K_Math_min_7cf53 : List (Nat × Instr × Nat × Nat) := [(0, .iload_n 0, 1, 1), (1, .iload_n 1, 1, 2), (2, .if_icmp .gt 7, 3, 5), (5, .iload_n 0, 1, 6), (6, .goto 4, 3, 9), (9, .iload_n 1, 1, 10), (10, .ireturn, 1, 11)]
set_option maxRecDepth 20000 in
theorem D_Math_min_7cf53 {i pc n npc : Nat} {ins : Instr} (h : K_Math_min_7cf53[i]? = some (pc, ins, n, npc)) : zD prog_13_method_69_code pc ins n npc := zDall (by decide +kernel) h
def K_Arrays_fill_d0a16 : List (Nat × Instr × Nat × Nat) := [(0, .iconst 0, 1, 1), (1, .istore_n 3, 1, 2), (2, .aload_n 0, 1, 3), (3, .arraylength, 1, 4), (4, .istore 4, 2, 6), (6, .iload_n 3, 1, 7), (7, .iload 4, 2, 9), (9, .if_icmp .ge 13, 3, 12), (12, .aload_n 0, 1, 13), (13, .iload_n 3, 1, 14), (14, .lload_n 1, 1, 15), (15, .lastore, 1, 16), (16, .iinc 3 1, 3, 19), (19, .goto (-13), 3, 22), (22, .return_, 1, 23)]
set_option maxRecDepth 20000 in
theorem D_Arrays_fill_d0a16 {i pc n npc : Nat} {ins : Instr} (h : K_Arrays_fill_d0a16[i]? = some (pc, ins, n, npc)) : zD prog_15_method_101_code pc ins n npc := zDall (by decide +kernel) h
def K_Arrays_fill_53178 : List (Nat × Instr × Nat × Nat) := [(0, .iconst 0, 1, 1), (1, .istore_n 2, 1, 2), (2, .aload_n 0, 1, 3), (3, .arraylength, 1, 4), (4, .istore_n 3, 1, 5), (5, .iload_n 2, 1, 6), (6, .iload_n 3, 1, 7), (7, .if_icmp .ge 13, 3, 10), (10, .aload_n 0, 1, 11), (11, .iload_n 2, 1, 12), (12, .iload_n 1, 1, 13), (13, .iastore, 1, 14), (14, .iinc 2 1, 3, 17), (17, .goto (-12), 3, 20), (20, .return_, 1, 21)]
set_option maxRecDepth 20000 in
theorem D_Arrays_fill_53178 {i pc n npc : Nat} {ins : Instr} (h : K_Arrays_fill_53178[i]? = some (pc, ins, n, npc)) : zD prog_15_method_103_code pc ins n npc := zDall (by decide +kernel) h
def K_Arrays_fill_031fb : List (Nat × Instr × Nat × Nat) := [(0, .iconst 0, 1, 1), (1, .istore_n 2, 1, 2), (2, .aload_n 0, 1, 3), (3, .arraylength, 1, 4), (4, .istore_n 3, 1, 5), (5, .iload_n 2, 1, 6), (6, .iload_n 3, 1, 7), (7, .if_icmp .ge 13, 3, 10), (10, .aload_n 0, 1, 11), (11, .iload_n 2, 1, 12), (12, .iload_n 1, 1, 13), (13, .bastore, 1, 14), (14, .iinc 2 1, 3, 17), (17, .goto (-12), 3, 20), (20, .return_, 1, 21)]
set_option maxRecDepth 20000 in
theorem D_Arrays_fill_031fb {i pc n npc : Nat} {ins : Instr} (h : K_Arrays_fill_031fb[i]? = some (pc, ins, n, npc)) : zD prog_15_method_109_code pc ins n npc := zDall (by decide +kernel) h
end
section
/-! calls by the number of arguments; lists of pools; small facts -/
def z_ps : Option zV → List zV → List zV
  | none, st => st
  | some v, st => v :: st
theorem z_ps_eq (r : Option zV) (st : List zV) : r.toList ++ st = z_ps r st := by cases r <;> rfl
section ZN
variable {ι : zE} {M M' : zMR} {X : zX} {n n' : Nat} {ps : List Nat} {pc npc : Nat} {lv : List (Option zV)} {st : List zV} {mem : zM} {p k cnt idx ci N : Nat} {T : u_T} {sks : List zK} {a1 a2 a3 a4 a5 : zV}
theorem z_cV0 (hX : zG ι M X n ps) (hd : zD M.2.1 pc (.invokevirtual idx) 3 npc) (hM : zMI M' 0) (hl : Cond.methodLink M.1.cls idx M'.1 ∈ zTS) (hsh : zsh p = (cnt, .inl (ci, sks))) (hcl : zCl[ci]? = some (M'.1.cls, T, N)) (hp : p ∈ ps) (hk : k < cnt) (hn : n' < n) (hsz : ((st.map (z_tv (zeR ι))).map fun v => v.category).sum ≤ 8) (hC : zC X.2.1 ι M' n' [zP p k] mem (fun r mem' => zW ι M X npc lv (z_ps r st) mem')) : zW ι M X pc lv (zP p k :: st) mem := by
  refine z_callV (as := []) hX hd hM hl hsh hcl hp hk hn rfl rfl hsz ?_
  simp only [z_ps_eq]
  exact hC
theorem z_cV1 (hX : zG ι M X n ps) (hd : zD M.2.1 pc (.invokevirtual idx) 3 npc) (hM : zMI M' 1) (hl : Cond.methodLink M.1.cls idx M'.1 ∈ zTS) (hsh : zsh p = (cnt, .inl (ci, sks))) (hcl : zCl[ci]? = some (M'.1.cls, T, N)) (hp : p ∈ ps) (hk : k < cnt) (hn : n' < n) (hsz : ((st.map (z_tv (zeR ι))).map fun v => v.category).sum ≤ 8) (hC : zC X.2.1 ι M' n' [zP p k, a1] mem (fun r mem' => zW ι M X npc lv (z_ps r st) mem')) : zW ι M X pc lv (a1 :: zP p k :: st) mem := by
  refine z_callV (as := [a1]) hX hd hM hl hsh hcl hp hk hn rfl rfl hsz ?_
  simp only [z_ps_eq]
  exact hC
theorem z_cS1 (hX : zG ι M X n ps) (hd : zD M.2.1 pc (.invokestatic idx) 3 npc) (hM : zMS M' 1) (hl : Cond.methodLink M.1.cls idx M'.1 ∈ zTS) (hn : n' < n) (hsz : ((st.map (z_tv (zeR ι))).map fun v => v.category).sum ≤ 8) (hC : zC X.2.1 ι M' n' [a1] mem (fun r mem' => zW ι M X npc lv (z_ps r st) mem')) : zW ι M X pc lv (a1 :: st) mem := by
  refine z_callS (as := [a1]) hX hd hM hl hn rfl rfl hsz ?_
  simp only [z_ps_eq]
  exact hC
theorem z_cV2 (hX : zG ι M X n ps) (hd : zD M.2.1 pc (.invokevirtual idx) 3 npc) (hM : zMI M' 2) (hl : Cond.methodLink M.1.cls idx M'.1 ∈ zTS) (hsh : zsh p = (cnt, .inl (ci, sks))) (hcl : zCl[ci]? = some (M'.1.cls, T, N)) (hp : p ∈ ps) (hk : k < cnt) (hn : n' < n) (hsz : ((st.map (z_tv (zeR ι))).map fun v => v.category).sum ≤ 8) (hC : zC X.2.1 ι M' n' [zP p k, a1, a2] mem (fun r mem' => zW ι M X npc lv (z_ps r st) mem')) : zW ι M X pc lv (a2 :: a1 :: zP p k :: st) mem := by
  refine z_callV (as := [a1, a2]) hX hd hM hl hsh hcl hp hk hn rfl rfl hsz ?_
  simp only [z_ps_eq]
  exact hC
theorem z_cS2 (hX : zG ι M X n ps) (hd : zD M.2.1 pc (.invokestatic idx) 3 npc) (hM : zMS M' 2) (hl : Cond.methodLink M.1.cls idx M'.1 ∈ zTS) (hn : n' < n) (hsz : ((st.map (z_tv (zeR ι))).map fun v => v.category).sum ≤ 8) (hC : zC X.2.1 ι M' n' [a1, a2] mem (fun r mem' => zW ι M X npc lv (z_ps r st) mem')) : zW ι M X pc lv (a2 :: a1 :: st) mem := by
  refine z_callS (as := [a1, a2]) hX hd hM hl hn rfl rfl hsz ?_
  simp only [z_ps_eq]
  exact hC
theorem z_cV3 (hX : zG ι M X n ps) (hd : zD M.2.1 pc (.invokevirtual idx) 3 npc) (hM : zMI M' 3) (hl : Cond.methodLink M.1.cls idx M'.1 ∈ zTS) (hsh : zsh p = (cnt, .inl (ci, sks))) (hcl : zCl[ci]? = some (M'.1.cls, T, N)) (hp : p ∈ ps) (hk : k < cnt) (hn : n' < n) (hsz : ((st.map (z_tv (zeR ι))).map fun v => v.category).sum ≤ 8) (hC : zC X.2.1 ι M' n' [zP p k, a1, a2, a3] mem (fun r mem' => zW ι M X npc lv (z_ps r st) mem')) : zW ι M X pc lv (a3 :: a2 :: a1 :: zP p k :: st) mem := by
  refine z_callV (as := [a1, a2, a3]) hX hd hM hl hsh hcl hp hk hn rfl rfl hsz ?_
  simp only [z_ps_eq]
  exact hC
theorem z_cS3 (hX : zG ι M X n ps) (hd : zD M.2.1 pc (.invokestatic idx) 3 npc) (hM : zMS M' 3) (hl : Cond.methodLink M.1.cls idx M'.1 ∈ zTS) (hn : n' < n) (hsz : ((st.map (z_tv (zeR ι))).map fun v => v.category).sum ≤ 8) (hC : zC X.2.1 ι M' n' [a1, a2, a3] mem (fun r mem' => zW ι M X npc lv (z_ps r st) mem')) : zW ι M X pc lv (a3 :: a2 :: a1 :: st) mem := by
  refine z_callS (as := [a1, a2, a3]) hX hd hM hl hn rfl rfl hsz ?_
  simp only [z_ps_eq]
  exact hC
theorem z_cV4 (hX : zG ι M X n ps) (hd : zD M.2.1 pc (.invokevirtual idx) 3 npc) (hM : zMI M' 4) (hl : Cond.methodLink M.1.cls idx M'.1 ∈ zTS) (hsh : zsh p = (cnt, .inl (ci, sks))) (hcl : zCl[ci]? = some (M'.1.cls, T, N)) (hp : p ∈ ps) (hk : k < cnt) (hn : n' < n) (hsz : ((st.map (z_tv (zeR ι))).map fun v => v.category).sum ≤ 8) (hC : zC X.2.1 ι M' n' [zP p k, a1, a2, a3, a4] mem (fun r mem' => zW ι M X npc lv (z_ps r st) mem')) : zW ι M X pc lv (a4 :: a3 :: a2 :: a1 :: zP p k :: st) mem := by
  refine z_callV (as := [a1, a2, a3, a4]) hX hd hM hl hsh hcl hp hk hn rfl rfl hsz ?_
  simp only [z_ps_eq]
  exact hC
theorem z_cS4 (hX : zG ι M X n ps) (hd : zD M.2.1 pc (.invokestatic idx) 3 npc) (hM : zMS M' 4) (hl : Cond.methodLink M.1.cls idx M'.1 ∈ zTS) (hn : n' < n) (hsz : ((st.map (z_tv (zeR ι))).map fun v => v.category).sum ≤ 8) (hC : zC X.2.1 ι M' n' [a1, a2, a3, a4] mem (fun r mem' => zW ι M X npc lv (z_ps r st) mem')) : zW ι M X pc lv (a4 :: a3 :: a2 :: a1 :: st) mem := by
  refine z_callS (as := [a1, a2, a3, a4]) hX hd hM hl hn rfl rfl hsz ?_
  simp only [z_ps_eq]
  exact hC
theorem z_cV5 (hX : zG ι M X n ps) (hd : zD M.2.1 pc (.invokevirtual idx) 3 npc) (hM : zMI M' 5) (hl : Cond.methodLink M.1.cls idx M'.1 ∈ zTS) (hsh : zsh p = (cnt, .inl (ci, sks))) (hcl : zCl[ci]? = some (M'.1.cls, T, N)) (hp : p ∈ ps) (hk : k < cnt) (hn : n' < n) (hsz : ((st.map (z_tv (zeR ι))).map fun v => v.category).sum ≤ 8) (hC : zC X.2.1 ι M' n' [zP p k, a1, a2, a3, a4, a5] mem (fun r mem' => zW ι M X npc lv (z_ps r st) mem')) : zW ι M X pc lv (a5 :: a4 :: a3 :: a2 :: a1 :: zP p k :: st) mem := by
  refine z_callV (as := [a1, a2, a3, a4, a5]) hX hd hM hl hsh hcl hp hk hn rfl rfl hsz ?_
  simp only [z_ps_eq]
  exact hC
theorem z_cS5 (hX : zG ι M X n ps) (hd : zD M.2.1 pc (.invokestatic idx) 3 npc) (hM : zMS M' 5) (hl : Cond.methodLink M.1.cls idx M'.1 ∈ zTS) (hn : n' < n) (hsz : ((st.map (z_tv (zeR ι))).map fun v => v.category).sum ≤ 8) (hC : zC X.2.1 ι M' n' [a1, a2, a3, a4, a5] mem (fun r mem' => zW ι M X npc lv (z_ps r st) mem')) : zW ι M X pc lv (a5 :: a4 :: a3 :: a2 :: a1 :: st) mem := by
  refine z_callS (as := [a1, a2, a3, a4, a5]) hX hd hM hl hn rfl rfl hsz ?_
  simp only [z_ps_eq]
  exact hC
end ZN
def pL : List Nat := [4, 5, 6, 7, 8]
def pX : List Nat := [0, 1, 2, 3, 4, 5, 6, 7, 8, 9, 10, 11, 12, 13, 14, 15, 16, 17, 18, 19, 20, 21, 22, 23, 24, 25, 26, 27, 28, 29, 30, 31, 32]
def pM : List Nat := [40, 41, 42, 43, 44, 45, 46, 47, 48, 49, 50, 51, 52, 53, 54, 55, 56, 57, 58, 59, 60, 61, 62, 63, 64, 65, 66, 67]
theorem zHas.sub {ι : zE} {ps qs : List Nat} (h : zHas ι ps) (hs : ∀ p ∈ qs, p ∈ ps) : zHas ι qs := fun p k hp hk => h p k (hs p hp) hk
theorem zHas.L {ι : zE} (h : zHas ι pX) : zHas ι pL := h.sub (by decide)
theorem zHas.nil {ι : zE} : zHas ι [] := fun p k hp _ => absurd hp List.not_mem_nil
theorem nlit (n : Nat) : (OfNat.ofNat n : Int32) = nI (OfNat.ofNat n) := rfl
theorem nneg1 : (-1 : Int32).toInt = -1 := by decide
theorem upI_get (mem : zM) (p k j : Nat) (v : Int32) (a b c : Nat) : (upI mem p k j v).1 a b c = if a = p ∧ b = k ∧ c = j then v else mem.1 a b c := rfl
theorem upI_2 (mem : zM) (p k j : Nat) (v : Int32) : (upI mem p k j v).2 = mem.2 := rfl
theorem upJ_get (mem : zM) (p k j : Nat) (v : Int64) (a b c : Nat) : (upJ mem p k j v).2.1 a b c = if a = p ∧ b = k ∧ c = j then v else mem.2.1 a b c := rfl
theorem upJ_1 (mem : zM) (p k j : Nat) (v : Int64) : (upJ mem p k j v).1 = mem.1 := rfl
theorem upJ_3 (mem : zM) (p k j : Nat) (v : Int64) : (upJ mem p k j v).2.2 = mem.2.2 := rfl
theorem upR_get (mem : zM) (p k j : Nat) (v : Nat) (a b c : Nat) : (upR mem p k j v).2.2 a b c = if a = p ∧ b = k ∧ c = j then v else mem.2.2 a b c := rfl
theorem upR_1 (mem : zM) (p k j : Nat) (v : Nat) : (upR mem p k j v).1 = mem.1 := rfl
theorem upR_2 (mem : zM) (p k j : Nat) (v : Nat) : (upR mem p k j v).2.1 = mem.2.1 := rfl
theorem inc1 (i : Nat) : nI i + Int32.ofInt 1 = nI (i + 1) := (nI_succ i).symm
theorem z_inc1 {ι : zE} {M : zMR} {X : zX} {n : Nat} {ps : List Nat} {pc npc : Nat} {lv : List (Option zV)} {st : List zV} {mem : zM} {i j : Nat} (hX : zG ι M X n ps) (hd : zD M.2.1 pc (.iinc j 1) 3 npc) (hx : lv[j]? = some (some (zI (nI i)))) (hn : j < M.2.2.1) (hj : z_isJ (lv[j - 1]?) = false) (k : zW ι M X npc (lv.set j (some (zI (nI (i + 1))))) st mem) : zW ι M X pc lv st mem := z_iinc hX hd hx (inc1 i) hn hj k
def bI (b : Bool) : Int32 := if b then 1 else 0
theorem bI_0 {b : Bool} : bI b = 0 ↔ b = false := by cases b <;> decide
theorem bI_n {b : Bool} : ¬ bI b = 0 ↔ b = true := by cases b <;> decide
theorem bI_or (b : Bool) : bI b = 0 ∨ bI b = 1 := by cases b <;> decide
theorem bI_T : bI true = 1 := rfl
theorem bI_F : bI false = 0 := rfl
theorem bI_not (b : Bool) : bI b = if b = true then 1 else 0 := by cases b <;> rfl
/-- bits gathered by a loop -/
def mkI (f : Nat → Bool) : Nat → Int32
  | 0 => 0
  | n + 1 => if f n then mkI f n ||| ((1 : Int32) <<< (nI n &&& 31)) else mkI f n
theorem mkI_cong {f g : Nat → Bool} : ∀ {n : Nat}, (∀ k, k < n → f k = g k) → mkI f n = mkI g n
  | 0, _ => rfl
  | n + 1, h => by rw [mkI, mkI, h n (by omega), mkI_cong (fun k hk => h k (by omega))]
/-- is there one below n -/
def exI (f : Nat → Bool) : Nat → Bool
  | 0 => false
  | n + 1 => exI f n || f n
theorem exI_true {f : Nat → Bool} : ∀ {n : Nat}, exI f n = true ↔ ∃ k, k < n ∧ f k = true
  | 0 => by simp [exI]
  | n + 1 => by
    rw [exI, Bool.or_eq_true, exI_true]
    constructor
    · rintro (⟨k, h1, h2⟩ | h)
      · exact ⟨k, by omega, h2⟩
      · exact ⟨n, by omega, h⟩
    · rintro ⟨k, h1, h2⟩
      by_cases e : k = n
      · subst e; exact Or.inr h2
      · exact Or.inl ⟨k, by omega, h2⟩
theorem exI_false {f : Nat → Bool} {n : Nat} : exI f n = false ↔ ∀ k, k < n → f k = false := by
  rw [← Bool.not_eq_true, exI_true]
  constructor
  · intro h k hk
    cases hf : f k with
    | false => rfl
    | true => exact absurd ⟨k, hk, hf⟩ h
  · rintro h ⟨k, h1, h2⟩
    rw [h k h1] at h2; cases h2
theorem exI_cong {f g : Nat → Bool} : ∀ {n : Nat}, (∀ k, k < n → f k = g k) → exI f n = exI g n
  | 0, _ => rfl
  | n + 1, h => by rw [exI, exI, h n (by omega), exI_cong (fun k hk => h k (by omega))]
/-- do all below n -/
def alI (f : Nat → Bool) : Nat → Bool
  | 0 => true
  | n + 1 => alI f n && f n
theorem alI_true {f : Nat → Bool} : ∀ {n : Nat}, alI f n = true ↔ ∀ k, k < n → f k = true
  | 0 => by simp [alI]
  | n + 1 => by
    rw [alI, Bool.and_eq_true, alI_true]
    constructor
    · rintro ⟨h1, h2⟩ k hk
      by_cases e : k = n
      · subst e; exact h2
      · exact h1 k (by omega)
    · intro h
      exact ⟨fun k hk => h k (by omega), h n (by omega)⟩
theorem alI_false {f : Nat → Bool} {n k : Nat} (hk : k < n) (h : f k = false) : alI f n = false := by
  cases ha : alI f n with
  | false => rfl
  | true => rw [alI_true.mp ha k hk] at h; cases h
theorem alI_cong {f g : Nat → Bool} : ∀ {n : Nat}, (∀ k, k < n → f k = g k) → alI f n = alI g n
  | 0, _ => rfl
  | n + 1, h => by rw [alI, alI, h n (by omega), alI_cong (fun k hk => h k (by omega))]
end
section
/-! the JDK's own: Math.min, Math.max, System.arraycopy of longs, Arrays.fill -/
theorem w_min_code : Cond.code Lib.Math.min.name Lib.Math.min.code 2 (some .int) ∈ zTS := zTS_of 398 (by decide +kernel) (by decide +kernel)
theorem w_max_code : Cond.code Lib.Math.max.name Lib.Math.max.code 2 (some .int) ∈ zTS := zTS_of 401 (by decide +kernel) (by decide +kernel)
theorem w_min_st : Cond.static Lib.Math.min.name ∈ zTS := zTS_of 397 (by decide +kernel) (by decide +kernel)
theorem w_max_st : Cond.static Lib.Math.max.name ∈ zTS := zTS_of 400 (by decide +kernel) (by decide +kernel)
theorem w_Math_ini : Cond.initialized "java/lang/Math" ∈ zTS := zTS_of 11 (by decide +kernel) (by decide +kernel)
theorem w_Sys_ini : Cond.initialized "java/lang/System" ∈ zTS := zTS_of 14 (by decide +kernel) (by decide +kernel)
theorem w_copy_st : Cond.static arraycopyName ∈ zTS := zTS_of 822 (by decide +kernel) (by decide +kernel)
theorem w_copy_nat : Cond.native arraycopyName ∈ zTS := zTS_of 823 (by decide +kernel) (by decide +kernel)
theorem w_copy_link : Cond.methodLink RX8 286 arraycopyName ∈ zTS := zTS_of 821 (by decide +kernel) (by decide +kernel)
section ZJ
variable {ι : zE} {M : zMR} {X : zX} {n : Nat} {ps : List Nat} {pc npc : Nat} {lv : List (Option zV)} {st : List zV} {mem : zM} {p k cnt idx : Nat}
theorem z_min {x y : Int32} (hX : zG ι M X n ps) (hd : zD M.2.1 pc (.invokestatic idx) 3 npc) (hlk : Cond.methodLink M.1.cls idx Lib.Math.min.name ∈ zTS) (hn : 0 < n) (hsz : ((st.map (z_tv (zeR ι))).map fun v => v.category).sum ≤ 8) (k : zW ι M X npc lv (zI (if y < x then y else x) :: st) mem) : zW ι M X pc lv (zI y :: zI x :: st) mem := by
  obtain ⟨P, l, e, R, s, m, args, below, meth, c, A, cells, slots, Q⟩ := X
  obtain ⟨hd, rfl⟩ := hd
  intro H locs ls hP hS hl
  obtain ⟨hx, hb, hml, hown, hts, hret, hlocks, hK, hAd, hA, hSt, hfr, hlo, hce, hsl, hHas⟩ := hX
  exact va_mmin hx hb (hml.trans hl.1.symm) hown (hts _ hlk) (hts _ w_min_st) (hts _ w_Math_ini) (hts _ w_min_code) (by omega) (by omega) hce hsl hd (k H locs ls hP hS hl)
theorem z_max {x y : Int32} (hX : zG ι M X n ps) (hd : zD M.2.1 pc (.invokestatic idx) 3 npc) (hlk : Cond.methodLink M.1.cls idx Lib.Math.max.name ∈ zTS) (hn : 0 < n) (hsz : ((st.map (z_tv (zeR ι))).map fun v => v.category).sum ≤ 8) (k : zW ι M X npc lv (zI (if x < y then y else x) :: st) mem) : zW ι M X pc lv (zI y :: zI x :: st) mem := by
  obtain ⟨P, l, e, R, s, m, args, below, meth, c, A, cells, slots, Q⟩ := X
  obtain ⟨hd, rfl⟩ := hd
  intro H locs ls hP hS hl
  obtain ⟨hx, hb, hml, hown, hts, hret, hlocks, hK, hAd, hA, hSt, hfr, hlo, hce, hsl, hHas⟩ := hX
  exact va_mmax hx hb (hml.trans hl.1.symm) hown (hts _ hlk) (hts _ w_max_st) (hts _ w_Math_ini) (hts _ w_max_code) (by omega) (by omega) hce hsl hd (k H locs ls hP hS hl)
def cpJ (mem : zM) (p k k2 sp dp c : Nat) : zM := (mem.1, fun a b j => if a = p ∧ b = k2 then va_cpy (mem.2.1 p k) (mem.2.1 p k2) sp dp c j else mem.2.1 a b j, mem.2.2)
theorem z_copyl {N q0 k2 sp dp c : Nat} {f0 : Nat → Nat → Nat} (hX : zG ι M X n ps) (hd : zD M.2.1 pc (.invokestatic idx) 3 npc) (hlk : Cond.methodLink M.1.cls idx arraycopyName ∈ zTS) (hn : 0 < n) (hsz : ((st.map (z_tv (zeR ι))).map fun v => v.category).sum ≤ 8) (hsh : zsh p = (cnt, .inr (.long, N, (1, q0, f0)))) (hp : p ∈ ps) (hk : k < cnt) (hk2 : k2 < cnt) (hN : N < 2 ^ 31) (h1 : sp + c ≤ N) (h2 : dp + c ≤ N) (kk : zW ι M X npc lv st (cpJ mem p k k2 sp dp c)) : zW ι M X pc lv (zI (nI c) :: zI (nI dp) :: zP p k2 :: zI (nI sp) :: zP p k :: st) mem := by
  obtain ⟨P, l, e, R, s, m, args, below, meth, cc, A, cells, slots, Q⟩ := X
  obtain ⟨hd, rfl⟩ := hd
  intro H locs ls hP hS hl
  obtain ⟨hx, hb, hml, hown, hts, hret, hlocks, hK, hAd, hA, hSt, hfr, hlo, hce, hsl, hHas⟩ := hX
  obtain ⟨i, hi⟩ := List.getElem?_of_mem (hHas p k hp (by rw [hsh]; exact hk))
  obtain ⟨i2, hi2⟩ := List.getElem?_of_mem (hHas p k2 hp (by rw [hsh]; exact hk2))
  have he := z_ws_at (mem := mem) hi
  have he2 := z_ws_at (mem := mem) hi2
  rw [z_cellA hsh] at he he2
  have c1 := nI_clamp (n := sp) (by omega)
  have c2 := nI_clamp (n := dp) (by omega)
  have c3 := nI_clamp (n := c) (by omega)
  have hnw : nativeFrameWords "java/lang/System" "arraycopy" 5 + 11 ≤ 32 := by decide
  refine va_copyl hx hb (hml.trans hl.1.symm) hown (hts _ hlk) (hts _ w_copy_nat) (hts _ w_copy_st) (hts _ w_Sys_ini) hK hP (hAd.D mem) hS i i2 4 4 he he2 rfl rfl rfl (nI_pos (by omega)) (nI_pos (by omega)) (nI_pos (by omega)) (by rw [c1, c3]; exact h1) (by rw [c2, c3]; exact h2) (fun _ _ => rfl) (by omega) (by omega) hd (fun H1 locs1 hP1 _ hS1 => ?_)
  rw [c1, c2, c3] at hP1
  have hc : z_cell ι (cpJ mem p k k2 sp dp c) (p, k2) = (zeR ι p k2, .inl (zeT ι .long, N, .inr (.inl (va_cpy (mem.2.1 p k) (mem.2.1 p k2) sp dp c)))) := by
    rw [z_cellA hsh]
    have hf : (cpJ mem p k k2 sp dp c).2.1 p k2 = va_cpy (mem.2.1 p k) (mem.2.1 p k2) sp dp c := by
      funext j
      show (if p = p ∧ k2 = k2 then _ else _) = _
      rw [if_pos ⟨rfl, rfl⟩]
    rw [← hf]; rfl
  rw [← hc, z_ws_set (mem := mem) (mem' := cpJ mem p k k2 sp dp c) hi2 hAd.1 (fun q h => z_cell_congr rfl (by
    funext j
    show (if q.1 = p ∧ q.2 = k2 then _ else _) = _
    rw [if_neg (fun z => h (Prod.ext z.1 z.2))]) rfl)] at hP1
  exact kk H1 locs1 ls hP1 hS1 hl
end ZJ
/-- a whole row filled -/
def flI (mem : zM) (p k N : Nat) (v : Int32) : zM := (fun a b c => if a = p ∧ b = k ∧ c < N then v else mem.1 a b c, mem.2)
theorem flI_0 (mem : zM) (p k : Nat) (v : Int32) : flI mem p k 0 v = mem := by
  refine Prod.ext ?_ rfl
  funext a b c
  show (if a = p ∧ b = k ∧ c < 0 then v else mem.1 a b c) = mem.1 a b c
  rw [if_neg (by omega)]
theorem flI_s (mem : zM) (p k i : Nat) (v : Int32) : upI (flI mem p k i v) p k i v = flI mem p k (i + 1) v := by
  refine Prod.ext ?_ rfl
  funext a b c
  show (if a = p ∧ b = k ∧ c = i then v else (if a = p ∧ b = k ∧ c < i then v else mem.1 a b c)) = if a = p ∧ b = k ∧ c < i + 1 then v else mem.1 a b c
  by_cases h : a = p ∧ b = k ∧ c < i + 1
  · rw [if_pos h]
    by_cases h2 : c = i
    · rw [if_pos ⟨h.1, h.2.1, h2⟩]
    · rw [if_neg (fun z => h2 z.2.2), if_pos ⟨h.1, h.2.1, by omega⟩]
  · rw [if_neg h, if_neg (fun z => h ⟨z.1, z.2.1, by omega⟩), if_neg (fun z => h ⟨z.1, z.2.1, by omega⟩)]
theorem c_fillI {l : Launch} {ι : zE} {mem : zM} {Post : Option zV → zM → Prop} {ps : List Nat} (hH : zHas ι ps) {p k cnt N q0 : Nat} {f0 : Nat → Nat → Nat} {v : Int32} (hsh : zsh p = (cnt, .inr (.int, N, (0, q0, f0)))) (hp : p ∈ ps) (hk : k < cnt) (hN : N < 2 ^ 31) (h : Post none (flI mem p k N v)) : zC l ι M_Arrays_fill_53178 0 [zP p k, zI v] mem Post := by
  refine z_enter hH (by decide) (by simp [z_ent, M_Arrays_fill_53178]) (fun X hXl hX hR => ?_)
  refine z_iconst (v := 0) hX (D_Arrays_fill_53178 (i := 0) rfl) (by decide) ?_
  refine z_istore_n hX (D_Arrays_fill_53178 (i := 1) rfl) (by decide) rfl ?_
  refine z_aload_n hX (D_Arrays_fill_53178 (i := 2) rfl) rfl ?_
  refine z_alen (t0 := 0) (v := nI N) hX (D_Arrays_fill_53178 (i := 3) rfl) hsh hp hk rfl rfl ?_
  refine z_istore_n hX (D_Arrays_fill_53178 (i := 4) rfl) (by decide) rfl ?_
  suffices H : ∀ (d i : Nat), i + d = N → zW ι M_Arrays_fill_53178 X 5 [some (zP p k), some (zI v), some (zI (nI i)), some (zI (nI N))] [] (flI mem p k i v) by
    have := H N 0 (by omega)
    rw [flI_0] at this
    exact this
  intro d
  induction d with
  | zero =>
    intro i hi
    obtain rfl : i = N := by omega
    refine z_iload_n hX (D_Arrays_fill_53178 (i := 5) rfl) rfl ?_
    refine z_iload_n hX (D_Arrays_fill_53178 (i := 6) rfl) rfl ?_
    refine z_icmp_ge (tgt := 20) hX (D_Arrays_fill_53178 (i := 7) rfl) (by decide) (fun _ => ?_) (fun hc => absurd (nI_le (Nat.le_refl i) hN) hc)
    exact z_ret hX hR (D_Arrays_fill_53178 (i := 14) rfl) rfl h
  | succ d ih =>
    intro i hi
    refine z_iload_n hX (D_Arrays_fill_53178 (i := 5) rfl) rfl ?_
    refine z_iload_n hX (D_Arrays_fill_53178 (i := 6) rfl) rfl ?_
    refine z_icmp_ge (tgt := 20) hX (D_Arrays_fill_53178 (i := 7) rfl) (by decide) (fun hc => absurd hc (nI_ge (by omega) hN)) (fun _ => ?_)
    refine z_aload_n hX (D_Arrays_fill_53178 (i := 8) rfl) rfl ?_
    refine z_iload_n hX (D_Arrays_fill_53178 (i := 9) rfl) rfl ?_
    refine z_iload_n hX (D_Arrays_fill_53178 (i := 10) rfl) rfl ?_
    refine z_iast hX (D_Arrays_fill_53178 (i := 11) rfl) hsh hp hk hN rfl (by omega) ?_
    rw [flI_s]
    refine z_inc1 hX (D_Arrays_fill_53178 (i := 12) rfl) rfl (by decide) rfl ?_
    refine z_goto (tgt := 5) hX (D_Arrays_fill_53178 (i := 13) rfl) (by decide) ?_
    exact ih (i + 1) (by omega)
end
section
/-! the cubes -/
def stN (t w : Nat) : Nat := (zstf 91 (6 * t + w)).toNatClampNeg
theorem st_ok : ∀ t, t < 24 → ∀ w, w < 6 → zstf 91 (6 * t + w) = nI (stN t w) ∧ stN t w < 6 := by decide +kernel
def opN (f : Nat) : Nat := (zstf 90 f).toNatClampNeg
theorem op_ok : ∀ f, f < 6 → zstf 90 f = nI (opN f) ∧ opN f < 6 := by decide +kernel
theorem c_Cube_seen {l : Launch} {ι : zE} {mem : zM} {Post : Option zV → zM → Prop} (hH : zHas ι pX) {k t w : Nat} (hk : k < 8) (ht : t < 24) (hw : w < 6) (h : Post (some (zI (mem.1 3 k (stN t w)))) mem) : zC l ι M_Cube_seen 0 [zP 2 k, zI (nI t), zI (nI w)] mem Post := by
  refine z_enter hH (by decide) (by simp [z_ent, M_Cube_seen]) (fun X hXl hX hR => ?_)
  refine z_aload_n hX (D_Cube_seen (i := 0) rfl) rfl ?_
  refine z_getc hX (D_Cube_seen (i := 1) rfl) f_Cube_9 rfl (by decide) (by first | exact Nat.one_pos | assumption | omega) rfl ?_
  refine z_getsN (p := 91) hX (D_Cube_seen (i := 2) rfl) (by decide) (by decide) s_Cube_19 ?_
  refine z_bipush (v := 6) hX (D_Cube_seen (i := 3) rfl) (by decide) ?_
  refine z_iload_n hX (D_Cube_seen (i := 4) rfl) rfl ?_
  refine z_imul hX (D_Cube_seen (i := 5) rfl) ?_
  refine z_iload_n hX (D_Cube_seen (i := 6) rfl) rfl ?_
  refine z_iadd hX (D_Cube_seen (i := 7) rfl) ?_
  refine z_tald (p := 91) (j := 6 * t + w) hX (D_Cube_seen (i := 8) rfl) (by decide) (by decide) (by decide +kernel) (by first | (simp only [nlit, nI_add, pk_mul]; done) | rfl) (show 6 * t + w < 144 by omega) ?_
  refine z_iald (j := stN t w) hX (D_Cube_seen (i := 9) rfl) rfl (by decide) (by first | exact Nat.one_pos | assumption | omega) (by decide) (st_ok t ht w hw).1 (st_ok t ht w hw).2 ?_
  exact z_iret hX hR (D_Cube_seen (i := 10) rfl) rfl h
theorem c_Cube_endOf {l : Launch} {ι : zE} {mem : zM} {Post : Option zV → zM → Prop} {i : Nat} (hi : i < 3) (h : Post (some (zI (nI (if i = 2 then 4 else i)))) mem) : zC l ι M_Cube_endOf 0 [zI (nI i)] mem Post := by
  have hH : zHas ι [] := zHas.nil
  refine z_enter hH (by decide) (by simp [z_ent, M_Cube_endOf]) (fun X hXl hX hR => ?_)
  refine z_iload_n hX (D_Cube_endOf (i := 0) rfl) rfl ?_
  refine z_iconst (v := 2) hX (D_Cube_endOf (i := 1) rfl) (by decide) ?_
  refine z_icmp_ne (tgt := 9) hX (D_Cube_endOf (i := 2) rfl) (by decide) (fun hc => ?_) (fun hc => ?_)
  · refine z_iload_n hX (D_Cube_endOf (i := 5) rfl) rfl ?_
    rw [if_neg (fun e => hc (by rw [e]; rfl))] at h
    exact z_iret hX hR (D_Cube_endOf (i := 6) rfl) rfl (by assumption)
  · refine z_iconst (v := 4) hX (D_Cube_endOf (i := 3) rfl) (by decide) ?_
    refine z_goto (tgt := 10) hX (D_Cube_endOf (i := 4) rfl) (by decide) ?_
    rw [if_pos ((nI_eq (b := 2) (by omega) (by decide)).mp hc)] at h
    exact z_iret hX hR (D_Cube_endOf (i := 6) rfl) rfl (by assumption)
def edN (i : Nat) : Nat := if i = 2 then 4 else i
theorem ed_ok : ∀ i, i < 3 → edN i < 6 ∧ opN (edN i) < 6 := by decide +kernel
def lnN (a b : Nat) : Nat := 10 * (if b < a then b else a) + (if a < b then b else a)
theorem nI_iflt {a b x y : Nat} (ha : a < 2 ^ 31) (hb : b < 2 ^ 31) : (if nI a < nI b then nI x else nI y) = nI (if a < b then x else y) := by
  by_cases h : a < b
  · rw [if_pos h, if_pos ((nI_ltI ha hb).mpr h)]
  · rw [if_neg h, if_neg (fun z => h ((nI_ltI ha hb).mp z))]
theorem c_Cube_line {l : Launch} {ι : zE} {mem : zM} {Post : Option zV → zM → Prop} (hH : zHas ι pX) {k i a b : Nat} (hk : k < 8) (hi : i < 3) (ha : mem.1 3 k (edN i) = nI a) (hb : mem.1 3 k (opN (edN i)) = nI b) (la : a ≤ 6) (lb : b ≤ 6) (h : Post (some (zI (nI (lnN a b)))) mem) : zC l ι M_Cube_line 1 [zP 2 k, zI (nI i)] mem Post := by
  refine z_enter hH (by decide) (by simp [z_ent, M_Cube_line]) (fun X hXl hX hR => ?_)
  refine z_iload_n hX (D_Cube_line (i := 0) rfl) rfl ?_
  refine z_cS1 hX (D_Cube_line (i := 1) rfl) ms_Cube_endOf l_Cube_22 (by first | decide | omega) (Nat.le_of_ble_eq_true rfl) (c_Cube_endOf hi ?_)
  refine z_istore_n hX (D_Cube_line (i := 2) rfl) (by decide) rfl ?_
  refine z_aload_n hX (D_Cube_line (i := 3) rfl) rfl ?_
  refine z_getc hX (D_Cube_line (i := 4) rfl) f_Cube_9 rfl (by decide) (by first | exact Nat.one_pos | assumption | omega) rfl ?_
  refine z_iload_n hX (D_Cube_line (i := 5) rfl) rfl ?_
  refine z_iald (j := edN i) hX (D_Cube_line (i := 6) rfl) rfl (by decide) (by first | exact Nat.one_pos | assumption | omega) (by decide) rfl (ed_ok i hi).1 ?_
  refine z_istore_n hX (D_Cube_line (i := 7) rfl) (by decide) rfl ?_
  refine z_aload_n hX (D_Cube_line (i := 8) rfl) rfl ?_
  refine z_getc hX (D_Cube_line (i := 9) rfl) f_Cube_9 rfl (by decide) (by first | exact Nat.one_pos | assumption | omega) rfl ?_
  refine z_getsN (p := 90) hX (D_Cube_line (i := 10) rfl) (by decide) (by decide) s_Cube_26 ?_
  refine z_iload_n hX (D_Cube_line (i := 11) rfl) rfl ?_
  refine z_tald (p := 90) (j := edN i) hX (D_Cube_line (i := 12) rfl) (by decide) (by decide) (by decide +kernel) rfl (ed_ok i hi).1 ?_
  refine z_iald (j := opN (edN i)) hX (D_Cube_line (i := 13) rfl) rfl (by decide) (by first | exact Nat.one_pos | assumption | omega) (by decide) (op_ok _ (ed_ok i hi).1).1 (ed_ok i hi).2 ?_
  refine z_istore hX (D_Cube_line (i := 14) rfl) (by decide) rfl ?_
  refine z_bipush (v := 10) hX (D_Cube_line (i := 15) rfl) (by decide) ?_
  refine z_iload_n hX (D_Cube_line (i := 16) rfl) rfl ?_
  refine z_iload hX (D_Cube_line (i := 17) rfl) rfl ?_
  refine z_min hX (D_Cube_line (i := 18) rfl) l_Cube_29 (by first | decide | omega) (Nat.le_of_ble_eq_true rfl) ?_
  refine z_imul hX (D_Cube_line (i := 19) rfl) ?_
  refine z_iload_n hX (D_Cube_line (i := 20) rfl) rfl ?_
  refine z_iload hX (D_Cube_line (i := 21) rfl) rfl ?_
  refine z_max hX (D_Cube_line (i := 22) rfl) l_Cube_35 (by first | decide | omega) (Nat.le_of_ble_eq_true rfl) ?_
  refine z_iadd hX (D_Cube_line (i := 23) rfl) ?_
  have e : (10 : Int32) * (if mem.1 3 k (opN (edN i)) < mem.1 3 k (edN i) then mem.1 3 k (opN (edN i)) else mem.1 3 k (edN i)) + (if mem.1 3 k (edN i) < mem.1 3 k (opN (edN i)) then mem.1 3 k (opN (edN i)) else mem.1 3 k (edN i)) = nI (lnN a b) := by
    rw [ha, hb, nI_iflt (by omega) (by omega), nI_iflt (by omega) (by omega), nlit, pk_mul, nI_add]; rfl
  exact z_iret hX hR (D_Cube_line (i := 24) rfl) rfl (by rw [e]; exact h)
theorem c_Cube_mayBe {l : Launch} {ι : zE} {mem : zM} {Post : Option zV → zM → Prop} (hH : zHas ι pX) {k f : Nat} {c : Int32} (hk : k < 8) (hf : f < 6) (h : Post (some (zI (bI (decide (mem.1 3 k f = c ∨ mem.1 3 k f = 6))))) mem) : zC l ι M_Cube_mayBe 0 [zP 2 k, zI (nI f), zI c] mem Post := by
  refine z_enter hH (by decide) (by simp [z_ent, M_Cube_mayBe]) (fun X hXl hX hR => ?_)
  refine z_aload_n hX (D_Cube_mayBe (i := 0) rfl) rfl ?_
  refine z_getc hX (D_Cube_mayBe (i := 1) rfl) f_Cube_9 rfl (by decide) (by first | exact Nat.one_pos | assumption | omega) rfl ?_
  refine z_iload_n hX (D_Cube_mayBe (i := 2) rfl) rfl ?_
  refine z_iald hX (D_Cube_mayBe (i := 3) rfl) rfl (by decide) (by first | exact Nat.one_pos | assumption | omega) (by decide) rfl (by omega) ?_
  refine z_iload_n hX (D_Cube_mayBe (i := 4) rfl) rfl ?_
  refine z_icmp_eq (tgt := 21) hX (D_Cube_mayBe (i := 5) rfl) (by decide) (fun hc => ?_) (fun hc => ?_)
  · refine z_iconst (v := 1) hX (D_Cube_mayBe (i := 12) rfl) (by decide) ?_
    refine z_goto (tgt := 26) hX (D_Cube_mayBe (i := 13) rfl) (by decide) ?_
    rw [decide_eq_true (Or.inl hc)] at h
    exact z_zret hX hR (D_Cube_mayBe (i := 15) rfl) rfl (by first | exact Or.inl rfl | exact Or.inr rfl | assumption) (by assumption)
  · refine z_aload_n hX (D_Cube_mayBe (i := 6) rfl) rfl ?_
    refine z_getc hX (D_Cube_mayBe (i := 7) rfl) f_Cube_9 rfl (by decide) (by first | exact Nat.one_pos | assumption | omega) rfl ?_
    refine z_iload_n hX (D_Cube_mayBe (i := 8) rfl) rfl ?_
    refine z_iald hX (D_Cube_mayBe (i := 9) rfl) rfl (by decide) (by first | exact Nat.one_pos | assumption | omega) (by decide) rfl (by omega) ?_
    refine z_bipush (v := 6) hX (D_Cube_mayBe (i := 10) rfl) (by decide) ?_
    refine z_icmp_ne (tgt := 25) hX (D_Cube_mayBe (i := 11) rfl) (by decide) (fun h6 => ?_) (fun h6 => ?_)
    · refine z_iconst (v := 0) hX (D_Cube_mayBe (i := 14) rfl) (by decide) ?_
      rw [decide_eq_false (fun z => z.elim hc h6)] at h
      exact z_zret hX hR (D_Cube_mayBe (i := 15) rfl) rfl (by first | exact Or.inl rfl | exact Or.inr rfl | assumption) (by assumption)
    · refine z_iconst (v := 1) hX (D_Cube_mayBe (i := 12) rfl) (by decide) ?_
      refine z_goto (tgt := 26) hX (D_Cube_mayBe (i := 13) rfl) (by decide) ?_
      rw [decide_eq_true (Or.inr h6)] at h
      exact z_zret hX hR (D_Cube_mayBe (i := 15) rfl) rfl (by first | exact Or.inl rfl | exact Or.inr rfl | assumption) (by assumption)
def msC (mem : zM) (k t w : Nat) (c : Int32) : Bool := decide (mem.1 3 k (stN t w) = c ∨ mem.1 3 k (stN t w) = 6)
theorem c_Cube_mayShow {l : Launch} {ι : zE} {mem : zM} {Post : Option zV → zM → Prop} (hH : zHas ι pX) {k t w : Nat} {c : Int32} (hk : k < 8) (ht : t < 24) (hw : w < 6) (h : Post (some (zI (bI (msC mem k t w c)))) mem) : zC l ι M_Cube_mayShow 1 [zP 2 k, zI (nI t), zI (nI w), zI c] mem Post := by
  refine z_enter hH (by decide) (by simp [z_ent, M_Cube_mayShow]) (fun X hXl hX hR => ?_)
  refine z_aload_n hX (D_Cube_mayShow (i := 0) rfl) rfl ?_
  refine z_getsN (p := 91) hX (D_Cube_mayShow (i := 1) rfl) (by decide) (by decide) s_Cube_19 ?_
  refine z_bipush (v := 6) hX (D_Cube_mayShow (i := 2) rfl) (by decide) ?_
  refine z_iload_n hX (D_Cube_mayShow (i := 3) rfl) rfl ?_
  refine z_imul hX (D_Cube_mayShow (i := 4) rfl) ?_
  refine z_iload_n hX (D_Cube_mayShow (i := 5) rfl) rfl ?_
  refine z_iadd hX (D_Cube_mayShow (i := 6) rfl) ?_
  refine z_tald (p := 91) (j := 6 * t + w) hX (D_Cube_mayShow (i := 7) rfl) (by decide) (by decide) (by decide +kernel) (by first | (simp only [nlit, nI_add, pk_mul]; done) | rfl) (show 6 * t + w < 144 by omega) ?_
  rw [(st_ok t ht w hw).1]
  refine z_iload_n hX (D_Cube_mayShow (i := 8) rfl) rfl ?_
  refine z_cV2 hX (D_Cube_mayShow (i := 9) rfl) mi_Cube_mayBe l_Cube_46 rfl rfl (by decide) (by first | exact Nat.one_pos | assumption | omega) (by first | decide | omega) (Nat.le_of_ble_eq_true rfl) (c_Cube_mayBe hH hk (st_ok t ht w hw).2 ?_)
  exact z_zret hX hR (D_Cube_mayShow (i := 10) rfl) rfl (bI_or _) h
def glN (g : Bool) (f : Nat) : Nat := if g = true ∧ (f = 1 ∨ f = 3) then opN f else f
def lkC (mem : zM) (k k2 t : Nat) (g : Bool) (w : Nat) : Bool := decide (mem.1 3 k (glN g (stN t w)) = mem.1 3 k2 w)
theorem c_Cube_isLike {l : Launch} {ι : zE} {mem : zM} {Post : Option zV → zM → Prop} (hH : zHas ι pX) {k k2 t : Nat} {g : Bool} (hk : k < 8) (hk2 : k2 < 8) (ht : t < 24) (h : Post (some (zI (bI (alI (lkC mem k k2 t g) 6)))) mem) : zC l ι M_Cube_isLike 0 [zP 2 k, zP 2 k2, zI (nI t), zI (bI g)] mem Post := by
  refine z_enter hH (by decide) (by simp [z_ent, M_Cube_isLike]) (fun X hXl hX hR => ?_)
  refine z_iconst (v := 0) hX (D_Cube_isLike (i := 0) rfl) (by decide) ?_
  refine z_istore hX (D_Cube_isLike (i := 1) rfl) (by decide) rfl ?_
  suffices H : ∀ (d i : Nat) (v5 v6 : Option zV), z_isJ (some v5) = false → i + d = 6 → (∀ w, w < i → lkC mem k k2 t g w = true) → zW ι M_Cube_isLike X 3 [some (zP 2 k), some (zP 2 k2), some (zI (nI t)), some (zI (bI g)), some (zI (nI i)), v5, v6] [] mem from H 6 0 none none rfl rfl (fun _ h => absurd h (Nat.not_lt_zero _))
  intro d
  induction d with
  | zero =>
    intro i v5 v6 hJ hi hinv
    obtain rfl : i = 6 := by omega
    refine z_iload hX (D_Cube_isLike (i := 2) rfl) rfl ?_
    refine z_bipush (v := 6) hX (D_Cube_isLike (i := 3) rfl) (by decide) ?_
    refine z_icmp_ge (tgt := 85) hX (D_Cube_isLike (i := 4) rfl) (by decide) (fun _ => ?_) (fun hcc => absurd (Int32.le_refl _) hcc)
    refine z_iconst (v := 1) hX (D_Cube_isLike (i := 44) rfl) (by decide) ?_
    rw [alI_true.mpr hinv] at h
    exact z_zret hX hR (D_Cube_isLike (i := 45) rfl) rfl (by first | exact Or.inl rfl | exact Or.inr rfl | assumption) (by assumption)
  | succ d ih =>
    intro i v5 v6 hJ hi hinv
    have hi6 : i < 6 := by omega
    obtain ⟨e1, e2⟩ := st_ok t ht i hi6
    refine z_iload hX (D_Cube_isLike (i := 2) rfl) rfl ?_
    refine z_bipush (v := 6) hX (D_Cube_isLike (i := 3) rfl) (by decide) ?_
    refine z_icmp_ge (tgt := 85) hX (D_Cube_isLike (i := 4) rfl) (by decide) (fun hcc => absurd hcc (nI_ge (b := 6) hi6 (by decide))) (fun _ => ?_)
    refine z_getsN (p := 91) hX (D_Cube_isLike (i := 5) rfl) (by decide) (by decide) s_Cube_19 ?_
    refine z_bipush (v := 6) hX (D_Cube_isLike (i := 6) rfl) (by decide) ?_
    refine z_iload_n hX (D_Cube_isLike (i := 7) rfl) rfl ?_
    refine z_imul hX (D_Cube_isLike (i := 8) rfl) ?_
    refine z_iload hX (D_Cube_isLike (i := 9) rfl) rfl ?_
    refine z_iadd hX (D_Cube_isLike (i := 10) rfl) ?_
    refine z_tald (p := 91) (j := 6 * t + i) hX (D_Cube_isLike (i := 11) rfl) (by decide) (by decide) (by decide +kernel) (by first | (simp only [nlit, nI_add, pk_mul]; done) | rfl) (show 6 * t + i < 144 by omega) ?_
    rw [e1]
    refine z_istore hX (D_Cube_isLike (i := 12) rfl) (by decide) rfl ?_
    refine z_iload_n hX (D_Cube_isLike (i := 13) rfl) rfl ?_
    have key : ∀ (v6 : Option zV), zW ι M_Cube_isLike X 66 [some (zP 2 k), some (zP 2 k2), some (zI (nI t)), some (zI (bI g)), some (zI (nI i)), some (zI (nI (stN t i))), v6] [zI (nI (glN g (stN t i))), zP 3 k] mem := by
      intro v6
      have e3 : glN g (stN t i) < 6 := by
        unfold glN
        split
        · exact (op_ok _ e2).2
        · exact e2
      refine z_iald (j := glN g (stN t i)) hX (D_Cube_isLike (i := 34) rfl) rfl (by decide) (by first | exact Nat.one_pos | assumption | omega) (by decide) rfl e3 ?_
      refine z_aload_n hX (D_Cube_isLike (i := 35) rfl) rfl ?_
      refine z_getc hX (D_Cube_isLike (i := 36) rfl) f_Cube_9 rfl (by decide) (by first | exact Nat.one_pos | assumption | omega) rfl ?_
      refine z_iload hX (D_Cube_isLike (i := 37) rfl) rfl ?_
      refine z_iald (j := i) hX (D_Cube_isLike (i := 38) rfl) rfl (by decide) (by first | exact Nat.one_pos | assumption | omega) (by decide) rfl hi6 ?_
      refine z_icmp_eq (tgt := 79) hX (D_Cube_isLike (i := 39) rfl) (by decide) (fun hc => ?_) (fun hc => ?_)
      · first | refine z_inc1 hX (D_Cube_isLike (i := 42) rfl) rfl (by decide) rfl ?_ | refine z_iinc hX (D_Cube_isLike (i := 42) rfl) rfl rfl (by decide) rfl ?_
        refine z_goto (tgt := 3) hX (D_Cube_isLike (i := 43) rfl) (by decide) ?_
        exact ih (i + 1) _ _ rfl (by omega) (fun w hw => if e : w = i then by subst e; exact decide_eq_true hc else hinv w (by omega))
      · refine z_iconst (v := 0) hX (D_Cube_isLike (i := 40) rfl) (by decide) ?_
        rw [alI_false hi6 (decide_eq_false hc)] at h
        exact z_zret hX hR (D_Cube_isLike (i := 41) rfl) rfl (by first | exact Or.inl rfl | exact Or.inr rfl | assumption) (by assumption)
    have k0 : ¬ (g = true ∧ (stN t i = 1 ∨ stN t i = 3)) → ∀ v6 : Option zV, zW ι M_Cube_isLike X 43 [some (zP 2 k), some (zP 2 k2), some (zI (nI t)), some (zI (bI g)), some (zI (nI i)), some (zI (nI (stN t i))), v6] [] mem := by
      intro hn v6
      have e3 : glN g (stN t i) = stN t i := by unfold glN; rw [if_neg hn]
      refine z_iconst (v := 0) hX (D_Cube_isLike (i := 23) rfl) (by decide) ?_
      refine z_istore hX (D_Cube_isLike (i := 24) rfl) (by decide) rfl ?_
      refine z_aload_n hX (D_Cube_isLike (i := 25) rfl) rfl ?_
      refine z_getc hX (D_Cube_isLike (i := 26) rfl) f_Cube_9 rfl (by decide) (by first | exact Nat.one_pos | assumption | omega) rfl ?_
      refine z_iload hX (D_Cube_isLike (i := 27) rfl) rfl ?_
      refine z_if_eq (tgt := 64) hX (D_Cube_isLike (i := 28) rfl) (by decide) (fun _ => ?_) (fun hcc => absurd (rfl) hcc)
      refine z_iload hX (D_Cube_isLike (i := 33) rfl) rfl ?_
      rw [← e3]
      have := key (some (zI 0))
      rw [e3] at this ⊢
      exact this
    have k1 : (g = true ∧ (stN t i = 1 ∨ stN t i = 3)) → ∀ v6 : Option zV, zW ι M_Cube_isLike X 39 [some (zP 2 k), some (zP 2 k2), some (zI (nI t)), some (zI (bI g)), some (zI (nI i)), some (zI (nI (stN t i))), v6] [] mem := by
      intro hn v6
      have e3 : glN g (stN t i) = opN (stN t i) := by unfold glN; rw [if_pos hn]
      refine z_iconst (v := 1) hX (D_Cube_isLike (i := 21) rfl) (by decide) ?_
      refine z_goto (tgt := 44) hX (D_Cube_isLike (i := 22) rfl) (by decide) ?_
      refine z_istore hX (D_Cube_isLike (i := 24) rfl) (by decide) rfl ?_
      refine z_aload_n hX (D_Cube_isLike (i := 25) rfl) rfl ?_
      refine z_getc hX (D_Cube_isLike (i := 26) rfl) f_Cube_9 rfl (by decide) (by first | exact Nat.one_pos | assumption | omega) rfl ?_
      refine z_iload hX (D_Cube_isLike (i := 27) rfl) rfl ?_
      refine z_if_eq (tgt := 64) hX (D_Cube_isLike (i := 28) rfl) (by decide) (fun hcc => absurd hcc (by decide)) (fun _ => ?_)
      refine z_getsN (p := 90) hX (D_Cube_isLike (i := 29) rfl) (by decide) (by decide) s_Cube_26 ?_
      refine z_iload hX (D_Cube_isLike (i := 30) rfl) rfl ?_
      refine z_tald (p := 90) (j := stN t i) hX (D_Cube_isLike (i := 31) rfl) (by decide) (by decide) (by decide +kernel) rfl e2 ?_
      rw [(op_ok _ e2).1, ← e3]
      refine z_goto (tgt := 66) hX (D_Cube_isLike (i := 32) rfl) (by decide) ?_
      exact key _
    refine z_if_eq (tgt := 43) hX (D_Cube_isLike (i := 14) rfl) (by decide) (fun hg => ?_) (fun hg => ?_)
    · skip
      exact k0 (fun z => by rw [z.1] at hg; exact absurd hg (by decide)) _
    · refine z_iload hX (D_Cube_isLike (i := 15) rfl) rfl ?_
      refine z_iconst (v := 1) hX (D_Cube_isLike (i := 16) rfl) (by decide) ?_
      refine z_icmp_eq (tgt := 39) hX (D_Cube_isLike (i := 17) rfl) (by decide) (fun h1 => ?_) (fun h1 => ?_)
      · skip
        exact k1 ⟨bI_n.mp hg, Or.inl ((nI_eq (b := 1) (by omega) (by decide)).mp h1)⟩ _
      · refine z_iload hX (D_Cube_isLike (i := 18) rfl) rfl ?_
        refine z_iconst (v := 3) hX (D_Cube_isLike (i := 19) rfl) (by decide) ?_
        refine z_icmp_ne (tgt := 43) hX (D_Cube_isLike (i := 20) rfl) (by decide) (fun h3 => ?_) (fun h3 => ?_)
        · skip
          refine k0 (fun z => ?_) _
          rcases z.2 with e | e
          · exact h1 (by rw [e]; rfl)
          · exact h3 (by rw [e]; rfl)
        · skip
          exact k1 ⟨bI_n.mp hg, Or.inr ((nI_eq (b := 3) (by omega) (by decide)).mp h3)⟩ _
theorem c_Cube_turnsInto {l : Launch} {ι : zE} {mem : zM} {Post : Option zV → zM → Prop} (hH : zHas ι pX) {k k2 : Nat} {g : Bool} (hk : k < 8) (hk2 : k2 < 8) (h : Post (some (zI (bI (exI (fun t => alI (lkC mem k k2 t g) 6) 24)))) mem) : zC l ι M_Cube_turnsInto 1 [zP 2 k, zP 2 k2, zI (bI g)] mem Post := by
  refine z_enter hH (by decide) (by simp [z_ent, M_Cube_turnsInto]) (fun X hXl hX hR => ?_)
  refine z_iconst (v := 0) hX (D_Cube_turnsInto (i := 0) rfl) (by decide) ?_
  refine z_istore_n hX (D_Cube_turnsInto (i := 1) rfl) (by decide) rfl ?_
  suffices H : ∀ (d i : Nat), i + d = 24 → (∀ w, w < i → alI (lkC mem k k2 w g) 6 = false) → zW ι M_Cube_turnsInto X 2 [some (zP 2 k), some (zP 2 k2), some (zI (bI g)), some (zI (nI i))] [] mem from H 24 0 rfl (fun _ h => absurd h (Nat.not_lt_zero _))
  intro d
  induction d with
  | zero =>
    intro i hi hinv
    obtain rfl : i = 24 := by omega
    refine z_iload_n hX (D_Cube_turnsInto (i := 2) rfl) rfl ?_
    refine z_bipush (v := 24) hX (D_Cube_turnsInto (i := 3) rfl) (by decide) ?_
    refine z_icmp_ge (tgt := 26) hX (D_Cube_turnsInto (i := 4) rfl) (by decide) (fun _ => ?_) (fun hcc => absurd (Int32.le_refl _) hcc)
    refine z_iconst (v := 0) hX (D_Cube_turnsInto (i := 15) rfl) (by decide) ?_
    rw [exI_false.mpr hinv] at h
    exact z_zret hX hR (D_Cube_turnsInto (i := 16) rfl) rfl (by first | exact Or.inl rfl | exact Or.inr rfl | assumption) (by assumption)
  | succ d ih =>
    intro i hi hinv
    have hi6 : i < 24 := by omega
    refine z_iload_n hX (D_Cube_turnsInto (i := 2) rfl) rfl ?_
    refine z_bipush (v := 24) hX (D_Cube_turnsInto (i := 3) rfl) (by decide) ?_
    refine z_icmp_ge (tgt := 26) hX (D_Cube_turnsInto (i := 4) rfl) (by decide) (fun hcc => absurd hcc (nI_ge (b := 24) hi6 (by decide))) (fun _ => ?_)
    refine z_aload_n hX (D_Cube_turnsInto (i := 5) rfl) rfl ?_
    refine z_aload_n hX (D_Cube_turnsInto (i := 6) rfl) rfl ?_
    refine z_iload_n hX (D_Cube_turnsInto (i := 7) rfl) rfl ?_
    refine z_iload_n hX (D_Cube_turnsInto (i := 8) rfl) rfl ?_
    refine z_cV3 hX (D_Cube_turnsInto (i := 9) rfl) mi_Cube_isLike l_Cube_38 rfl rfl (by decide) (by first | exact Nat.one_pos | assumption | omega) (by first | decide | omega) (Nat.le_of_ble_eq_true rfl) (c_Cube_isLike hH hk hk2 hi6 ?_)
    refine z_if_eq (tgt := 20) hX (D_Cube_turnsInto (i := 10) rfl) (by decide) (fun hc => ?_) (fun hc => ?_)
    · first | refine z_inc1 hX (D_Cube_turnsInto (i := 13) rfl) rfl (by decide) rfl ?_ | refine z_iinc hX (D_Cube_turnsInto (i := 13) rfl) rfl rfl (by decide) rfl ?_
      refine z_goto (tgt := 2) hX (D_Cube_turnsInto (i := 14) rfl) (by decide) ?_
      exact ih (i + 1) (by omega) (fun w hw => if e : w = i then by subst e; exact bI_0.mp hc else hinv w (by omega))
    · refine z_iconst (v := 1) hX (D_Cube_turnsInto (i := 11) rfl) (by decide) ?_
      rw [exI_true.mpr ⟨i, hi6, bI_n.mp hc⟩] at h
      exact z_zret hX hR (D_Cube_turnsInto (i := 12) rfl) rfl (by first | exact Or.inl rfl | exact Or.inr rfl | assumption) (by assumption)
def tsC (mem : zM) (k : Nat) (c : Int32) (t : Nat) : Bool := msC mem k t 4 (c / 100) && (msC mem k t 0 (c / 10 - c / 10 / 10 * 10) && msC mem k t 1 (c - c / 10 * 10))
theorem c_Cube_turningsThatShow {l : Launch} {ι : zE} {mem : zM} {Post : Option zV → zM → Prop} (hH : zHas ι pX) {k : Nat} {c : Int32} (hk : k < 8) (h : Post (some (zI (mkI (tsC mem k c) 24))) mem) : zC l ι M_Cube_turningsThatShow 2 [zP 2 k, zI c] mem Post := by
  refine z_enter hH (by decide) (by simp [z_ent, M_Cube_turningsThatShow]) (fun X hXl hX hR => ?_)
  refine z_iconst (v := 0) hX (D_Cube_turningsThatShow (i := 0) rfl) (by decide) ?_
  refine z_istore_n hX (D_Cube_turningsThatShow (i := 1) rfl) (by decide) rfl ?_
  refine z_iconst (v := 0) hX (D_Cube_turningsThatShow (i := 2) rfl) (by decide) ?_
  refine z_istore_n hX (D_Cube_turningsThatShow (i := 3) rfl) (by decide) rfl ?_
  suffices H : ∀ (d i : Nat), i + d = 24 → zW ι M_Cube_turningsThatShow X 4 [some (zP 2 k), some (zI c), some (zI (mkI (tsC mem k c) i)), some (zI (nI i))] [] mem from H 24 0 rfl
  intro d
  induction d with
  | zero =>
    intro i hi
    obtain rfl : i = 24 := by omega
    refine z_iload_n hX (D_Cube_turningsThatShow (i := 4) rfl) rfl ?_
    refine z_bipush (v := 24) hX (D_Cube_turningsThatShow (i := 5) rfl) (by decide) ?_
    refine z_icmp_ge (tgt := 64) hX (D_Cube_turningsThatShow (i := 6) rfl) (by decide) (fun _ => ?_) (fun hcc => absurd (Int32.le_refl _) hcc)
    refine z_iload_n hX (D_Cube_turningsThatShow (i := 41) rfl) rfl ?_
    exact z_iret hX hR (D_Cube_turningsThatShow (i := 42) rfl) rfl (by assumption)
  | succ d ih =>
    intro i hi
    have hi6 : i < 24 := by omega
    have no : tsC mem k c i = false → zW ι M_Cube_turningsThatShow X 58 [some (zP 2 k), some (zI c), some (zI (mkI (tsC mem k c) i)), some (zI (nI i))] [] mem := by
      intro hf
      have e : mkI (tsC mem k c) (i + 1) = mkI (tsC mem k c) i := by rw [mkI, hf]; rfl
      first | refine z_inc1 hX (D_Cube_turningsThatShow (i := 39) rfl) rfl (by decide) rfl ?_ | refine z_iinc hX (D_Cube_turningsThatShow (i := 39) rfl) rfl rfl (by decide) rfl ?_
      refine z_goto (tgt := 4) hX (D_Cube_turningsThatShow (i := 40) rfl) (by decide) ?_
      rw [← e]
      exact ih (i + 1) (by omega)
    refine z_iload_n hX (D_Cube_turningsThatShow (i := 4) rfl) rfl ?_
    refine z_bipush (v := 24) hX (D_Cube_turningsThatShow (i := 5) rfl) (by decide) ?_
    refine z_icmp_ge (tgt := 64) hX (D_Cube_turningsThatShow (i := 6) rfl) (by decide) (fun hcc => absurd hcc (nI_ge (b := 24) hi6 (by decide))) (fun _ => ?_)
    refine z_aload_n hX (D_Cube_turningsThatShow (i := 7) rfl) rfl ?_
    refine z_iload_n hX (D_Cube_turningsThatShow (i := 8) rfl) rfl ?_
    refine z_iconst (v := 4) hX (D_Cube_turningsThatShow (i := 9) rfl) (by decide) ?_
    refine z_iload_n hX (D_Cube_turningsThatShow (i := 10) rfl) rfl ?_
    refine z_bipush (v := 100) hX (D_Cube_turningsThatShow (i := 11) rfl) (by decide) ?_
    refine z_idiv hX (D_Cube_turningsThatShow (i := 12) rfl) (by decide) ?_
    refine z_cV3 hX (D_Cube_turningsThatShow (i := 13) rfl) mi_Cube_mayShow l_Cube_42 rfl rfl (by decide) (by first | exact Nat.one_pos | assumption | omega) (by first | decide | omega) (Nat.le_of_ble_eq_true rfl) (c_Cube_mayShow (w := 4) hH hk hi6 (by decide) ?_)
    refine z_if_eq (tgt := 58) hX (D_Cube_turningsThatShow (i := 14) rfl) (by decide) (fun hc => ?_) (fun hc => ?_)
    · skip
      exact no (by unfold tsC; rw [bI_0.mp hc]; rfl)
    · refine z_aload_n hX (D_Cube_turningsThatShow (i := 15) rfl) rfl ?_
      refine z_iload_n hX (D_Cube_turningsThatShow (i := 16) rfl) rfl ?_
      refine z_iconst (v := 0) hX (D_Cube_turningsThatShow (i := 17) rfl) (by decide) ?_
      refine z_iload_n hX (D_Cube_turningsThatShow (i := 18) rfl) rfl ?_
      refine z_bipush (v := 10) hX (D_Cube_turningsThatShow (i := 19) rfl) (by decide) ?_
      refine z_idiv hX (D_Cube_turningsThatShow (i := 20) rfl) (by decide) ?_
      refine z_bipush (v := 10) hX (D_Cube_turningsThatShow (i := 21) rfl) (by decide) ?_
      refine z_irem hX (D_Cube_turningsThatShow (i := 22) rfl) (by decide) ?_
      refine z_cV3 hX (D_Cube_turningsThatShow (i := 23) rfl) mi_Cube_mayShow l_Cube_42 rfl rfl (by decide) (by first | exact Nat.one_pos | assumption | omega) (by first | decide | omega) (Nat.le_of_ble_eq_true rfl) (c_Cube_mayShow (w := 0) hH hk hi6 (by decide) ?_)
      refine z_if_eq (tgt := 58) hX (D_Cube_turningsThatShow (i := 24) rfl) (by decide) (fun hc2 => ?_) (fun hc2 => ?_)
      · skip
        exact no (by unfold tsC; rw [bI_0.mp hc2]; simp)
      · refine z_aload_n hX (D_Cube_turningsThatShow (i := 25) rfl) rfl ?_
        refine z_iload_n hX (D_Cube_turningsThatShow (i := 26) rfl) rfl ?_
        refine z_iconst (v := 1) hX (D_Cube_turningsThatShow (i := 27) rfl) (by decide) ?_
        refine z_iload_n hX (D_Cube_turningsThatShow (i := 28) rfl) rfl ?_
        refine z_bipush (v := 10) hX (D_Cube_turningsThatShow (i := 29) rfl) (by decide) ?_
        refine z_irem hX (D_Cube_turningsThatShow (i := 30) rfl) (by decide) ?_
        refine z_cV3 hX (D_Cube_turningsThatShow (i := 31) rfl) mi_Cube_mayShow l_Cube_42 rfl rfl (by decide) (by first | exact Nat.one_pos | assumption | omega) (by first | decide | omega) (Nat.le_of_ble_eq_true rfl) (c_Cube_mayShow (w := 1) hH hk hi6 (by decide) ?_)
        refine z_if_eq (tgt := 58) hX (D_Cube_turningsThatShow (i := 32) rfl) (by decide) (fun hc3 => ?_) (fun hc3 => ?_)
        · skip
          exact no (by unfold tsC; rw [bI_0.mp hc3]; simp)
        · refine z_iload_n hX (D_Cube_turningsThatShow (i := 33) rfl) rfl ?_
          refine z_iconst (v := 1) hX (D_Cube_turningsThatShow (i := 34) rfl) (by decide) ?_
          refine z_iload_n hX (D_Cube_turningsThatShow (i := 35) rfl) rfl ?_
          refine z_ishl hX (D_Cube_turningsThatShow (i := 36) rfl) ?_
          refine z_ior hX (D_Cube_turningsThatShow (i := 37) rfl) ?_
          refine z_istore_n hX (D_Cube_turningsThatShow (i := 38) rfl) (by decide) rfl ?_
          first | refine z_inc1 hX (D_Cube_turningsThatShow (i := 39) rfl) rfl (by decide) rfl ?_ | refine z_iinc hX (D_Cube_turningsThatShow (i := 39) rfl) rfl rfl (by decide) rfl ?_
          refine z_goto (tgt := 4) hX (D_Cube_turningsThatShow (i := 40) rfl) (by decide) ?_
          have e : mkI (tsC mem k c) (i + 1) = mkI (tsC mem k c) i ||| ((1 : Int32) <<< (nI i &&& 31)) := by
            rw [mkI, if_pos]
            unfold tsC; rw [bI_n.mp hc, bI_n.mp hc2, bI_n.mp hc3]; rfl
          rw [← e]
          exact ih (i + 1) (by omega)
def twC (mem : zM) (k w : Nat) (c : Int32) (t : Nat) : Bool := decide (c = 6) || msC mem k t w c
theorem c_Cube_turningsWith {l : Launch} {ι : zE} {mem : zM} {Post : Option zV → zM → Prop} (hH : zHas ι pX) {k w : Nat} {c : Int32} (hk : k < 8) (hw : w < 6) (h : Post (some (zI (mkI (twC mem k w c) 24))) mem) : zC l ι M_Cube_turningsWith 2 [zP 2 k, zI (nI w), zI c] mem Post := by
  refine z_enter hH (by decide) (by simp [z_ent, M_Cube_turningsWith]) (fun X hXl hX hR => ?_)
  refine z_iconst (v := 0) hX (D_Cube_turningsWith (i := 0) rfl) (by decide) ?_
  refine z_istore_n hX (D_Cube_turningsWith (i := 1) rfl) (by decide) rfl ?_
  refine z_iconst (v := 0) hX (D_Cube_turningsWith (i := 2) rfl) (by decide) ?_
  refine z_istore hX (D_Cube_turningsWith (i := 3) rfl) (by decide) rfl ?_
  suffices H : ∀ (d i : Nat), i + d = 24 → zW ι M_Cube_turningsWith X 5 [some (zP 2 k), some (zI (nI w)), some (zI c), some (zI (mkI (twC mem k w c) i)), some (zI (nI i))] [] mem from H 24 0 rfl
  intro d
  induction d with
  | zero =>
    intro i hi
    obtain rfl : i = 24 := by omega
    refine z_iload hX (D_Cube_turningsWith (i := 4) rfl) rfl ?_
    refine z_bipush (v := 24) hX (D_Cube_turningsWith (i := 5) rfl) (by decide) ?_
    refine z_icmp_ge (tgt := 42) hX (D_Cube_turningsWith (i := 6) rfl) (by decide) (fun _ => ?_) (fun hcc => absurd (Int32.le_refl _) hcc)
    refine z_iload_n hX (D_Cube_turningsWith (i := 24) rfl) rfl ?_
    exact z_iret hX hR (D_Cube_turningsWith (i := 25) rfl) rfl (by assumption)
  | succ d ih =>
    intro i hi
    have hi6 : i < 24 := by omega
    have yes : twC mem k w c i = true → zW ι M_Cube_turningsWith X 29 [some (zP 2 k), some (zI (nI w)), some (zI c), some (zI (mkI (twC mem k w c) i)), some (zI (nI i))] [] mem := by
      intro hf
      have e : mkI (twC mem k w c) (i + 1) = mkI (twC mem k w c) i ||| ((1 : Int32) <<< (nI i &&& 31)) := by rw [mkI, if_pos hf]
      refine z_iload_n hX (D_Cube_turningsWith (i := 16) rfl) rfl ?_
      refine z_iconst (v := 1) hX (D_Cube_turningsWith (i := 17) rfl) (by decide) ?_
      refine z_iload hX (D_Cube_turningsWith (i := 18) rfl) rfl ?_
      refine z_ishl hX (D_Cube_turningsWith (i := 19) rfl) ?_
      refine z_ior hX (D_Cube_turningsWith (i := 20) rfl) ?_
      refine z_istore_n hX (D_Cube_turningsWith (i := 21) rfl) (by decide) rfl ?_
      first | refine z_inc1 hX (D_Cube_turningsWith (i := 22) rfl) rfl (by decide) rfl ?_ | refine z_iinc hX (D_Cube_turningsWith (i := 22) rfl) rfl rfl (by decide) rfl ?_
      refine z_goto (tgt := 5) hX (D_Cube_turningsWith (i := 23) rfl) (by decide) ?_
      rw [← e]
      exact ih (i + 1) (by omega)
    refine z_iload hX (D_Cube_turningsWith (i := 4) rfl) rfl ?_
    refine z_bipush (v := 24) hX (D_Cube_turningsWith (i := 5) rfl) (by decide) ?_
    refine z_icmp_ge (tgt := 42) hX (D_Cube_turningsWith (i := 6) rfl) (by decide) (fun hcc => absurd hcc (nI_ge (b := 24) hi6 (by decide))) (fun _ => ?_)
    refine z_iload_n hX (D_Cube_turningsWith (i := 7) rfl) rfl ?_
    refine z_bipush (v := 6) hX (D_Cube_turningsWith (i := 8) rfl) (by decide) ?_
    refine z_icmp_eq (tgt := 29) hX (D_Cube_turningsWith (i := 9) rfl) (by decide) (fun h6 => ?_) (fun h6 => ?_)
    · skip
      exact yes (by unfold twC; rw [decide_eq_true h6]; rfl)
    · refine z_aload_n hX (D_Cube_turningsWith (i := 10) rfl) rfl ?_
      refine z_iload hX (D_Cube_turningsWith (i := 11) rfl) rfl ?_
      refine z_iload_n hX (D_Cube_turningsWith (i := 12) rfl) rfl ?_
      refine z_iload_n hX (D_Cube_turningsWith (i := 13) rfl) rfl ?_
      refine z_cV3 hX (D_Cube_turningsWith (i := 14) rfl) mi_Cube_mayShow l_Cube_42 rfl rfl (by decide) (by first | exact Nat.one_pos | assumption | omega) (by first | decide | omega) (Nat.le_of_ble_eq_true rfl) (c_Cube_mayShow hH hk hi6 hw ?_)
      refine z_if_eq (tgt := 36) hX (D_Cube_turningsWith (i := 15) rfl) (by decide) (fun hc => ?_) (fun hc => ?_)
      · first | refine z_inc1 hX (D_Cube_turningsWith (i := 22) rfl) rfl (by decide) rfl ?_ | refine z_iinc hX (D_Cube_turningsWith (i := 22) rfl) rfl rfl (by decide) rfl ?_
        refine z_goto (tgt := 5) hX (D_Cube_turningsWith (i := 23) rfl) (by decide) ?_
        have e : mkI (twC mem k w c) (i + 1) = mkI (twC mem k w c) i := by
          rw [mkI, if_neg]
          unfold twC; rw [decide_eq_false h6, bI_0.mp hc]; decide
        rw [← e]
        exact ih (i + 1) (by omega)
      · skip
        exact yes (by unfold twC; rw [bI_n.mp hc]; simp)
def ofC (mem : zM) (k f : Nat) (c : Int32) : Bool := decide (mem.1 3 k f = c ∨ mem.1 3 k f = 6)
def crC (mem : zM) (k : Nat) (c : Int32) (i : Nat) : Bool := ofC mem k (edN i) c || ofC mem k (opN (edN i)) c
theorem c_Cube_hasCornerOf {l : Launch} {ι : zE} {mem : zM} {Post : Option zV → zM → Prop} (hH : zHas ι pX) {k : Nat} {c : Int32} (hk : k < 8) (h : Post (some (zI (bI (alI (crC mem k c) 3)))) mem) : zC l ι M_Cube_hasCornerOf 1 [zP 2 k, zI c] mem Post := by
  refine z_enter hH (by decide) (by simp [z_ent, M_Cube_hasCornerOf]) (fun X hXl hX hR => ?_)
  refine z_iconst (v := 0) hX (D_Cube_hasCornerOf (i := 0) rfl) (by decide) ?_
  refine z_istore_n hX (D_Cube_hasCornerOf (i := 1) rfl) (by decide) rfl ?_
  suffices H : ∀ (d i : Nat) (v3 : Option zV), i + d = 3 → (∀ w, w < i → crC mem k c w = true) → zW ι M_Cube_hasCornerOf X 2 [some (zP 2 k), some (zI c), some (zI (nI i)), v3] [] mem from H 3 0 none rfl (fun _ h => absurd h (Nat.not_lt_zero _))
  intro d
  induction d with
  | zero =>
    intro i v3 hi hinv
    obtain rfl : i = 3 := by omega
    refine z_iload_n hX (D_Cube_hasCornerOf (i := 2) rfl) rfl ?_
    refine z_iconst (v := 3) hX (D_Cube_hasCornerOf (i := 3) rfl) (by decide) ?_
    refine z_icmp_ge (tgt := 42) hX (D_Cube_hasCornerOf (i := 4) rfl) (by decide) (fun _ => ?_) (fun hcc => absurd (Int32.le_refl _) hcc)
    refine z_iconst (v := 1) hX (D_Cube_hasCornerOf (i := 24) rfl) (by decide) ?_
    rw [alI_true.mpr hinv] at h
    exact z_zret hX hR (D_Cube_hasCornerOf (i := 25) rfl) rfl (by first | exact Or.inl rfl | exact Or.inr rfl | assumption) (by assumption)
  | succ d ih =>
    intro i v3 hi hinv
    have hi3 : i < 3 := by omega
    have yes : crC mem k c i = true → zW ι M_Cube_hasCornerOf X 36 [some (zP 2 k), some (zI c), some (zI (nI i)), some (zI (nI (edN i)))] [] mem := by
      intro hf
      first | refine z_inc1 hX (D_Cube_hasCornerOf (i := 22) rfl) rfl (by decide) rfl ?_ | refine z_iinc hX (D_Cube_hasCornerOf (i := 22) rfl) rfl rfl (by decide) rfl ?_
      refine z_goto (tgt := 2) hX (D_Cube_hasCornerOf (i := 23) rfl) (by decide) ?_
      exact ih (i + 1) _ (by omega) (fun w hw => if e : w = i then by subst e; exact hf else hinv w (by omega))
    refine z_iload_n hX (D_Cube_hasCornerOf (i := 2) rfl) rfl ?_
    refine z_iconst (v := 3) hX (D_Cube_hasCornerOf (i := 3) rfl) (by decide) ?_
    refine z_icmp_ge (tgt := 42) hX (D_Cube_hasCornerOf (i := 4) rfl) (by decide) (fun hcc => absurd hcc (nI_ge (b := 3) hi3 (by decide))) (fun _ => ?_)
    refine z_iload_n hX (D_Cube_hasCornerOf (i := 5) rfl) rfl ?_
    refine z_cS1 hX (D_Cube_hasCornerOf (i := 6) rfl) ms_Cube_endOf l_Cube_22 (by first | decide | omega) (Nat.le_of_ble_eq_true rfl) (c_Cube_endOf hi3 ?_)
    refine z_istore_n hX (D_Cube_hasCornerOf (i := 7) rfl) (by decide) rfl ?_
    refine z_aload_n hX (D_Cube_hasCornerOf (i := 8) rfl) rfl ?_
    refine z_iload_n hX (D_Cube_hasCornerOf (i := 9) rfl) rfl ?_
    refine z_iload_n hX (D_Cube_hasCornerOf (i := 10) rfl) rfl ?_
    refine z_cV2 hX (D_Cube_hasCornerOf (i := 11) rfl) mi_Cube_mayBe l_Cube_46 rfl rfl (by decide) (by first | exact Nat.one_pos | assumption | omega) (by first | decide | omega) (Nat.le_of_ble_eq_true rfl) (c_Cube_mayBe (f := edN i) hH hk (ed_ok i hi3).1 ?_)
    refine z_if_ne (tgt := 36) hX (D_Cube_hasCornerOf (i := 12) rfl) (by decide) (fun hc => ?_) (fun hc => ?_)
    · skip
      exact yes (by unfold crC ofC; rw [bI_n.mp hc]; rfl)
    · refine z_aload_n hX (D_Cube_hasCornerOf (i := 13) rfl) rfl ?_
      refine z_getsN (p := 90) hX (D_Cube_hasCornerOf (i := 14) rfl) (by decide) (by decide) s_Cube_26 ?_
      refine z_iload_n hX (D_Cube_hasCornerOf (i := 15) rfl) rfl ?_
      refine z_tald (p := 90) (j := edN i) hX (D_Cube_hasCornerOf (i := 16) rfl) (by decide) (by decide) (by decide +kernel) rfl (ed_ok i hi3).1 ?_
      rw [(op_ok _ (ed_ok i hi3).1).1]
      refine z_iload_n hX (D_Cube_hasCornerOf (i := 17) rfl) rfl ?_
      refine z_cV2 hX (D_Cube_hasCornerOf (i := 18) rfl) mi_Cube_mayBe l_Cube_46 rfl rfl (by decide) (by first | exact Nat.one_pos | assumption | omega) (by first | decide | omega) (Nat.le_of_ble_eq_true rfl) (c_Cube_mayBe (f := opN (edN i)) hH hk (ed_ok i hi3).2 ?_)
      refine z_if_ne (tgt := 36) hX (D_Cube_hasCornerOf (i := 19) rfl) (by decide) (fun hc2 => ?_) (fun hc2 => ?_)
      · skip
        exact yes (by unfold crC ofC; rw [bI_n.mp hc2]; simp)
      · refine z_iconst (v := 0) hX (D_Cube_hasCornerOf (i := 20) rfl) (by decide) ?_
        rw [alI_false hi3 (by unfold crC ofC; rw [bI_0.mp hc, bI_0.mp hc2]; rfl)] at h
        exact z_zret hX hR (D_Cube_hasCornerOf (i := 21) rfl) rfl (by first | exact Or.inl rfl | exact Or.inr rfl | assumption) (by assumption)
end
section
/-! numbers that may be; helpers of the class -/
def inN (x : Int32) (n : Nat) : Bool := decide (0 ≤ x.toInt ∧ x.toInt < n)
theorem i32_0 : (0 : Int32).toInt = 0 := rfl
theorem inN_lo {x : Int32} {n : Nat} (h : x < 0) : inN x n = false := by
  have := Int32.lt_iff_toInt_lt.mp h
  rw [i32_0] at this
  exact decide_eq_false (by omega)
theorem inN_hi {x : Int32} {n : Nat} (h : nI n ≤ x) (hn : n < 2 ^ 31) : inN x n = false := by
  have := Int32.le_iff_toInt_le.mp h
  rw [nI_toInt hn] at this
  exact decide_eq_false (by omega)
theorem inN_in {x : Int32} {n : Nat} (h1 : ¬ x < 0) (h2 : ¬ nI n ≤ x) (hn : n < 2 ^ 31) : inN x n = true := by
  have e1 : ¬ x.toInt < (0 : Int32).toInt := fun z => h1 (Int32.lt_iff_toInt_lt.mpr z)
  have e2 : ¬ (nI n).toInt ≤ x.toInt := fun z => h2 (Int32.le_iff_toInt_le.mpr z)
  rw [i32_0] at e1
  rw [nI_toInt hn] at e2
  exact decide_eq_true (by omega)
theorem inN_ex {x : Int32} {n : Nat} (h : inN x n = true) (hn : n < 2 ^ 31) : ∃ j : Nat, j < n ∧ x = nI j := by
  have h := of_decide_eq_true h
  refine ⟨x.toInt.toNat, by omega, Int32.toInt_inj.mp ?_⟩
  rw [nI_toInt (by omega)]
  omega
theorem inN_nI {j n : Nat} (h : j < n) (hn : n < 2 ^ 31) : inN (nI j) n = true := by
  unfold inN
  rw [nI_toInt (by omega)]
  exact decide_eq_true (by omega)
theorem inN_nI' {j n : Nat} (hj : j < 2 ^ 31) : inN (nI j) n = decide (j < n) := by
  unfold inN
  rw [nI_toInt hj]
  by_cases h : j < n
  · rw [decide_eq_true h]; exact decide_eq_true (by omega)
  · rw [decide_eq_false h]; exact decide_eq_false (by omega)
def fcB (x : Int32) (n : Nat) : Bool := decide (0 ≤ x.toInt ∧ x.toInt.toNat / 10 < n ∧ x.toInt.toNat % 10 < 6)
theorem fcB_lo {x : Int32} {n : Nat} (h : x < 0) : fcB x n = false := by
  have := Int32.lt_iff_toInt_lt.mp h
  rw [i32_0] at this
  exact decide_eq_false (by omega)
theorem fcB_nI {j n : Nat} (hj : j < 2 ^ 31) : fcB (nI j) n = (decide (j / 10 < n) && decide (j % 10 < 6)) := by
  unfold fcB
  rw [nI_toInt hj, ← Bool.decide_and]
  exact decide_eq_decide.mpr (by simp)
theorem fcB_ex {x : Int32} {n : Nat} (h : fcB x n = true) : ∃ k f : Nat, k < n ∧ f < 6 ∧ x = nI (10 * k + f) := by
  have h := of_decide_eq_true h
  refine ⟨x.toInt.toNat / 10, x.toInt.toNat % 10, h.2.1, h.2.2, ?_⟩
  rw [Nat.div_add_mod]
  refine Int32.toInt_inj.mp ?_
  rw [nI_toInt (by have := x.toInt_lt; omega)]
  omega
theorem sh8 : ∀ n, n ≤ 8 → (1 : Int32) <<< (nI n &&& 31) = nI (2 ^ n) := by decide +kernel
theorem sh24 : ∀ n, n < 24 → (1 : Int32) <<< (nI n &&& 31) = nI (2 ^ n) := by decide +kernel
theorem p8 : ∀ n, n ≤ 8 → 2 ^ n ≤ 256 := by decide
def digB (j i : Nat) : Bool := decide (1 ≤ j / 10 ^ i % 10 ∧ j / 10 ^ i % 10 ≤ 7)
def sixB (x : Int32) : Bool := decide (111111 ≤ x.toInt ∧ x.toInt ≤ 777777) && alI (digB x.toInt.toNat) 6
section F1
variable {l : Launch} {ι : zE} {mem : zM} {Post : Option zV → zM → Prop} {x y : Int32}
theorem c_Four_isCube (hH : zHas ι pX) {sz : Nat} (hs : mem.1 0 0 1 = nI sz) (h8 : sz ≤ 8) (h : Post (some (zI (bI (inN x sz)))) mem) : zC l ι M_Four_isCube 0 [zP 0 0, zI x] mem Post := by
  refine z_enter hH (by decide) (by simp [z_ent, M_Four_isCube]) (fun X hXl hX hR => ?_)
  refine z_iload_n hX (D_Four_isCube (i := 0) rfl) rfl ?_
  refine z_if_lt (tgt := 16) hX (D_Four_isCube (i := 1) rfl) (by decide) (fun h1 => ?_) (fun h1 => ?_)
  · refine z_iconst (v := 0) hX (D_Four_isCube (i := 8) rfl) (by decide) ?_
    rw [inN_lo h1] at h
    exact z_zret hX hR (D_Four_isCube (i := 9) rfl) rfl (by first | exact Or.inl rfl | exact Or.inr rfl | assumption) (by assumption)
  · refine z_iload_n hX (D_Four_isCube (i := 2) rfl) rfl ?_
    refine z_aload_n hX (D_Four_isCube (i := 3) rfl) rfl ?_
    refine z_geti hX (D_Four_isCube (i := 4) rfl) f_Four_67 rfl (by decide) (by first | exact Nat.one_pos | assumption | omega) rfl ?_
    rw [hs]
    refine z_icmp_ge (tgt := 16) hX (D_Four_isCube (i := 5) rfl) (by decide) (fun h2 => ?_) (fun h2 => ?_)
    · refine z_iconst (v := 0) hX (D_Four_isCube (i := 8) rfl) (by decide) ?_
      rw [inN_hi h2 (by omega)] at h
      exact z_zret hX hR (D_Four_isCube (i := 9) rfl) rfl (by first | exact Or.inl rfl | exact Or.inr rfl | assumption) (by assumption)
    · refine z_iconst (v := 1) hX (D_Four_isCube (i := 6) rfl) (by decide) ?_
      refine z_goto (tgt := 17) hX (D_Four_isCube (i := 7) rfl) (by decide) ?_
      rw [inN_in h1 h2 (by omega)] at h
      exact z_zret hX hR (D_Four_isCube (i := 9) rfl) rfl (by first | exact Or.inl rfl | exact Or.inr rfl | assumption) (by assumption)
theorem c_Four_isFace (hH : zHas ι pX) {sz : Nat} (hs : mem.1 0 0 1 = nI sz) (h8 : sz ≤ 8) (h : Post (some (zI (bI (fcB x sz)))) mem) : zC l ι M_Four_isFace 1 [zP 0 0, zI x] mem Post := by
  refine z_enter hH (by decide) (by simp [z_ent, M_Four_isFace]) (fun X hXl hX hR => ?_)
  refine z_iload_n hX (D_Four_isFace (i := 0) rfl) rfl ?_
  refine z_if_lt (tgt := 28) hX (D_Four_isFace (i := 1) rfl) (by decide) (fun h1 => ?_) (fun h1 => ?_)
  · refine z_iconst (v := 0) hX (D_Four_isFace (i := 15) rfl) (by decide) ?_
    rw [fcB_lo h1] at h
    exact z_zret hX hR (D_Four_isFace (i := 16) rfl) rfl (by first | exact Or.inl rfl | exact Or.inr rfl | assumption) (by assumption)
  · skip
    obtain ⟨j, hj, rfl⟩ := nI_of h1
    rw [fcB_nI hj] at h
    refine z_aload_n hX (D_Four_isFace (i := 2) rfl) rfl ?_
    refine z_iload_n hX (D_Four_isFace (i := 3) rfl) rfl ?_
    refine z_bipush (v := 10) hX (D_Four_isFace (i := 4) rfl) (by decide) ?_
    refine z_idiv hX (D_Four_isFace (i := 5) rfl) (by decide) ?_
    rw [nlit, pk_div hj (by decide) (by decide)]
    refine z_cV1 hX (D_Four_isFace (i := 6) rfl) mi_Four_isCube l_Four_110 rfl rfl (by decide) (by first | exact Nat.one_pos | assumption | omega) (by first | decide | omega) (Nat.le_of_ble_eq_true rfl) (c_Four_isCube hH hs h8 ?_)
    rw [inN_nI' (by omega)]
    refine z_if_eq (tgt := 28) hX (D_Four_isFace (i := 7) rfl) (by decide) (fun h2 => ?_) (fun h2 => ?_)
    · refine z_iconst (v := 0) hX (D_Four_isFace (i := 15) rfl) (by decide) ?_
      rw [bI_0.mp h2] at h
      exact z_zret hX hR (D_Four_isFace (i := 16) rfl) rfl (by first | exact Or.inl rfl | exact Or.inr rfl | assumption) (by assumption)
    · refine z_iload_n hX (D_Four_isFace (i := 8) rfl) rfl ?_
      refine z_bipush (v := 10) hX (D_Four_isFace (i := 9) rfl) (by decide) ?_
      refine z_irem hX (D_Four_isFace (i := 10) rfl) (by decide) ?_
      rw [nlit, pk_rem hj (by decide) (by decide)]
      refine z_bipush (v := 6) hX (D_Four_isFace (i := 11) rfl) (by decide) ?_
      rw [bI_n.mp h2] at h
      refine z_icmp_ge (tgt := 28) hX (D_Four_isFace (i := 12) rfl) (by decide) (fun h3 => ?_) (fun h3 => ?_)
      · refine z_iconst (v := 0) hX (D_Four_isFace (i := 15) rfl) (by decide) ?_
        rw [decide_eq_false (Nat.not_lt.mpr ((nI_leI (a := 6) (by decide) (by omega)).mp h3))] at h
        exact z_zret hX hR (D_Four_isFace (i := 16) rfl) rfl (by first | exact Or.inl rfl | exact Or.inr rfl | assumption) (by assumption)
      · refine z_iconst (v := 1) hX (D_Four_isFace (i := 13) rfl) (by decide) ?_
        refine z_goto (tgt := 29) hX (D_Four_isFace (i := 14) rfl) (by decide) ?_
        rw [decide_eq_true (Nat.not_le.mp (fun z => h3 ((nI_leI (a := 6) (by decide) (by omega)).mpr z)))] at h
        exact z_zret hX hR (D_Four_isFace (i := 16) rfl) rfl (by first | exact Or.inl rfl | exact Or.inr rfl | assumption) (by assumption)
theorem c_Four_areCubes (hH : zHas ι pX) {sz : Nat} (hs : mem.1 0 0 1 = nI sz) (h8 : sz ≤ 8) (h : Post (some (zI (bI (inN x (2 ^ sz))))) mem) : zC l ι M_Four_areCubes 0 [zP 0 0, zI x] mem Post := by
  have h9 := p8 sz h8
  refine z_enter hH (by decide) (by simp [z_ent, M_Four_areCubes]) (fun X hXl hX hR => ?_)
  refine z_iload_n hX (D_Four_areCubes (i := 0) rfl) rfl ?_
  refine z_if_lt (tgt := 18) hX (D_Four_areCubes (i := 1) rfl) (by decide) (fun h1 => ?_) (fun h1 => ?_)
  · refine z_iconst (v := 0) hX (D_Four_areCubes (i := 10) rfl) (by decide) ?_
    rw [inN_lo h1] at h
    exact z_zret hX hR (D_Four_areCubes (i := 11) rfl) rfl (by first | exact Or.inl rfl | exact Or.inr rfl | assumption) (by assumption)
  · refine z_iload_n hX (D_Four_areCubes (i := 2) rfl) rfl ?_
    refine z_iconst (v := 1) hX (D_Four_areCubes (i := 3) rfl) (by decide) ?_
    refine z_aload_n hX (D_Four_areCubes (i := 4) rfl) rfl ?_
    refine z_geti hX (D_Four_areCubes (i := 5) rfl) f_Four_67 rfl (by decide) (by first | exact Nat.one_pos | assumption | omega) rfl ?_
    refine z_ishl hX (D_Four_areCubes (i := 6) rfl) ?_
    rw [hs, sh8 sz h8]
    refine z_icmp_ge (tgt := 18) hX (D_Four_areCubes (i := 7) rfl) (by decide) (fun h2 => ?_) (fun h2 => ?_)
    · refine z_iconst (v := 0) hX (D_Four_areCubes (i := 10) rfl) (by decide) ?_
      rw [inN_hi h2 (by omega)] at h
      exact z_zret hX hR (D_Four_areCubes (i := 11) rfl) rfl (by first | exact Or.inl rfl | exact Or.inr rfl | assumption) (by assumption)
    · refine z_iconst (v := 1) hX (D_Four_areCubes (i := 8) rfl) (by decide) ?_
      refine z_goto (tgt := 19) hX (D_Four_areCubes (i := 9) rfl) (by decide) ?_
      rw [inN_in h1 h2 (by omega)] at h
      exact z_zret hX hR (D_Four_areCubes (i := 11) rfl) rfl (by first | exact Or.inl rfl | exact Or.inr rfl | assumption) (by assumption)
theorem c_Four_isShelf (h : Post (some (zI (bI (inN x 6)))) mem) : zC l ι M_Four_isShelf 0 [zI x] mem Post := by
  have hH : zHas ι [] := zHas.nil
  refine z_enter hH (by decide) (by simp [z_ent, M_Four_isShelf]) (fun X hXl hX hR => ?_)
  refine z_iload_n hX (D_Four_isShelf (i := 0) rfl) rfl ?_
  refine z_if_lt (tgt := 14) hX (D_Four_isShelf (i := 1) rfl) (by decide) (fun h1 => ?_) (fun h1 => ?_)
  · refine z_iconst (v := 0) hX (D_Four_isShelf (i := 7) rfl) (by decide) ?_
    rw [inN_lo h1] at h
    exact z_zret hX hR (D_Four_isShelf (i := 8) rfl) rfl (by first | exact Or.inl rfl | exact Or.inr rfl | assumption) (by assumption)
  · refine z_iload_n hX (D_Four_isShelf (i := 2) rfl) rfl ?_
    refine z_bipush (v := 6) hX (D_Four_isShelf (i := 3) rfl) (by decide) ?_
    refine z_icmp_ge (tgt := 14) hX (D_Four_isShelf (i := 4) rfl) (by decide) (fun h2 => ?_) (fun h2 => ?_)
    · refine z_iconst (v := 0) hX (D_Four_isShelf (i := 7) rfl) (by decide) ?_
      rw [inN_hi (n := 6) h2 (by decide)] at h
      exact z_zret hX hR (D_Four_isShelf (i := 8) rfl) rfl (by first | exact Or.inl rfl | exact Or.inr rfl | assumption) (by assumption)
    · refine z_iconst (v := 1) hX (D_Four_isShelf (i := 5) rfl) (by decide) ?_
      refine z_goto (tgt := 15) hX (D_Four_isShelf (i := 6) rfl) (by decide) ?_
      rw [inN_in (n := 6) h1 h2 (by decide)] at h
      exact z_zret hX hR (D_Four_isShelf (i := 8) rfl) rfl (by first | exact Or.inl rfl | exact Or.inr rfl | assumption) (by assumption)
theorem c_Four_isTurning (h : Post (some (zI (bI (inN x 24)))) mem) : zC l ι M_Four_isTurning 0 [zI x] mem Post := by
  have hH : zHas ι [] := zHas.nil
  refine z_enter hH (by decide) (by simp [z_ent, M_Four_isTurning]) (fun X hXl hX hR => ?_)
  refine z_iload_n hX (D_Four_isTurning (i := 0) rfl) rfl ?_
  refine z_if_lt (tgt := 14) hX (D_Four_isTurning (i := 1) rfl) (by decide) (fun h1 => ?_) (fun h1 => ?_)
  · refine z_iconst (v := 0) hX (D_Four_isTurning (i := 7) rfl) (by decide) ?_
    rw [inN_lo h1] at h
    exact z_zret hX hR (D_Four_isTurning (i := 8) rfl) rfl (by first | exact Or.inl rfl | exact Or.inr rfl | assumption) (by assumption)
  · refine z_iload_n hX (D_Four_isTurning (i := 2) rfl) rfl ?_
    refine z_bipush (v := 24) hX (D_Four_isTurning (i := 3) rfl) (by decide) ?_
    refine z_icmp_ge (tgt := 14) hX (D_Four_isTurning (i := 4) rfl) (by decide) (fun h2 => ?_) (fun h2 => ?_)
    · refine z_iconst (v := 0) hX (D_Four_isTurning (i := 7) rfl) (by decide) ?_
      rw [inN_hi (n := 24) h2 (by decide)] at h
      exact z_zret hX hR (D_Four_isTurning (i := 8) rfl) rfl (by first | exact Or.inl rfl | exact Or.inr rfl | assumption) (by assumption)
    · refine z_iconst (v := 1) hX (D_Four_isTurning (i := 5) rfl) (by decide) ?_
      refine z_goto (tgt := 15) hX (D_Four_isTurning (i := 6) rfl) (by decide) ?_
      rw [inN_in (n := 24) h1 h2 (by decide)] at h
      exact z_zret hX hR (D_Four_isTurning (i := 8) rfl) rfl (by first | exact Or.inl rfl | exact Or.inr rfl | assumption) (by assumption)
theorem c_Four_isKind (h : Post (some (zI (bI (inN x 8)))) mem) : zC l ι M_Four_isKind 0 [zI x] mem Post := by
  have hH : zHas ι [] := zHas.nil
  refine z_enter hH (by decide) (by simp [z_ent, M_Four_isKind]) (fun X hXl hX hR => ?_)
  refine z_iload_n hX (D_Four_isKind (i := 0) rfl) rfl ?_
  refine z_if_lt (tgt := 14) hX (D_Four_isKind (i := 1) rfl) (by decide) (fun h1 => ?_) (fun h1 => ?_)
  · refine z_iconst (v := 0) hX (D_Four_isKind (i := 7) rfl) (by decide) ?_
    rw [inN_lo h1] at h
    exact z_zret hX hR (D_Four_isKind (i := 8) rfl) rfl (by first | exact Or.inl rfl | exact Or.inr rfl | assumption) (by assumption)
  · refine z_iload_n hX (D_Four_isKind (i := 2) rfl) rfl ?_
    refine z_bipush (v := 8) hX (D_Four_isKind (i := 3) rfl) (by decide) ?_
    refine z_icmp_ge (tgt := 14) hX (D_Four_isKind (i := 4) rfl) (by decide) (fun h2 => ?_) (fun h2 => ?_)
    · refine z_iconst (v := 0) hX (D_Four_isKind (i := 7) rfl) (by decide) ?_
      rw [inN_hi (n := 8) h2 (by decide)] at h
      exact z_zret hX hR (D_Four_isKind (i := 8) rfl) rfl (by first | exact Or.inl rfl | exact Or.inr rfl | assumption) (by assumption)
    · refine z_iconst (v := 1) hX (D_Four_isKind (i := 5) rfl) (by decide) ?_
      refine z_goto (tgt := 15) hX (D_Four_isKind (i := 6) rfl) (by decide) ?_
      rw [inN_in (n := 8) h1 h2 (by decide)] at h
      exact z_zret hX hR (D_Four_isKind (i := 8) rfl) rfl (by first | exact Or.inl rfl | exact Or.inr rfl | assumption) (by assumption)
theorem c_Four_colourAt (hH : zHas ι pX) {k f : Nat} (hk : k < 8) (hf : f < 6) (h : Post (some (zI (mem.1 3 k f))) mem) : zC l ι M_Four_colourAt 0 [zP 0 0, zI (nI (10 * k + f))] mem Post := by
  have e1 : (10 * k + f) / 10 = k := by omega
  have e2 : (10 * k + f) % 10 = f := by omega
  refine z_enter hH (by decide) (by simp [z_ent, M_Four_colourAt]) (fun X hXl hX hR => ?_)
  refine z_aload_n hX (D_Four_colourAt (i := 0) rfl) rfl ?_
  refine z_getc hX (D_Four_colourAt (i := 1) rfl) f_Four_11 rfl (by decide) (by first | exact Nat.one_pos | assumption | omega) rfl ?_
  refine z_iload_n hX (D_Four_colourAt (i := 2) rfl) rfl ?_
  refine z_bipush (v := 10) hX (D_Four_colourAt (i := 3) rfl) (by decide) ?_
  refine z_idiv hX (D_Four_colourAt (i := 4) rfl) (by decide) ?_
  rw [nlit, pk_div (by omega) (by decide) (by decide), e1]
  refine z_aldCubec (j := k) hX (D_Four_colourAt (i := 5) rfl) rfl (by decide) (by first | exact Nat.one_pos | assumption | omega) (by decide) rfl hk ?_
  refine z_getc hX (D_Four_colourAt (i := 6) rfl) f_Four_71 rfl (by decide) (by first | exact Nat.one_pos | assumption | omega) rfl ?_
  refine z_iload_n hX (D_Four_colourAt (i := 7) rfl) rfl ?_
  refine z_bipush (v := 10) hX (D_Four_colourAt (i := 8) rfl) (by decide) ?_
  refine z_irem hX (D_Four_colourAt (i := 9) rfl) (by decide) ?_
  rw [nlit, pk_rem (by omega) (by decide) (by decide), e2]
  refine z_iald (j := f) hX (D_Four_colourAt (i := 10) rfl) rfl (by decide) (by first | exact Nat.one_pos | assumption | omega) (by decide) rfl hf ?_
  exact z_iret hX hR (D_Four_colourAt (i := 11) rfl) rfl h
theorem c_Four_setColour (hH : zHas ι pX) {k f : Nat} {c : Int32} (hk : k < 8) (hf : f < 6) (h : Post none (upI mem 3 k f c)) : zC l ι M_Four_setColour 0 [zP 0 0, zI (nI (10 * k + f)), zI c] mem Post := by
  have e1 : (10 * k + f) / 10 = k := by omega
  have e2 : (10 * k + f) % 10 = f := by omega
  refine z_enter hH (by decide) (by simp [z_ent, M_Four_setColour]) (fun X hXl hX hR => ?_)
  refine z_aload_n hX (D_Four_setColour (i := 0) rfl) rfl ?_
  refine z_getc hX (D_Four_setColour (i := 1) rfl) f_Four_11 rfl (by decide) (by first | exact Nat.one_pos | assumption | omega) rfl ?_
  refine z_iload_n hX (D_Four_setColour (i := 2) rfl) rfl ?_
  refine z_bipush (v := 10) hX (D_Four_setColour (i := 3) rfl) (by decide) ?_
  refine z_idiv hX (D_Four_setColour (i := 4) rfl) (by decide) ?_
  rw [nlit, pk_div (by omega) (by decide) (by decide), e1]
  refine z_aldCubec (j := k) hX (D_Four_setColour (i := 5) rfl) rfl (by decide) (by first | exact Nat.one_pos | assumption | omega) (by decide) rfl hk ?_
  refine z_getc hX (D_Four_setColour (i := 6) rfl) f_Four_71 rfl (by decide) (by first | exact Nat.one_pos | assumption | omega) rfl ?_
  refine z_iload_n hX (D_Four_setColour (i := 7) rfl) rfl ?_
  refine z_bipush (v := 10) hX (D_Four_setColour (i := 8) rfl) (by decide) ?_
  refine z_irem hX (D_Four_setColour (i := 9) rfl) (by decide) ?_
  rw [nlit, pk_rem (by omega) (by decide) (by decide), e2]
  refine z_iload_n hX (D_Four_setColour (i := 10) rfl) rfl ?_
  refine z_iast (j := f) hX (D_Four_setColour (i := 11) rfl) rfl (by decide) (by first | exact Nat.one_pos | assumption | omega) (by decide) rfl hf ?_
  exact z_ret hX hR (D_Four_setColour (i := 12) rfl) rfl h
end F1
end
section
/-! shelves -/
def flJ (mem : zM) (p k N : Nat) (v : Int64) : zM := (mem.1, fun a b c => if a = p ∧ b = k ∧ c < N then v else mem.2.1 a b c, mem.2.2)
theorem flJ_0 (mem : zM) (p k : Nat) (v : Int64) : flJ mem p k 0 v = mem := by
  refine Prod.ext rfl (Prod.ext ?_ rfl)
  funext a b c
  show (if a = p ∧ b = k ∧ c < 0 then v else mem.2.1 a b c) = mem.2.1 a b c
  rw [if_neg (by omega)]
theorem flJ_s (mem : zM) (p k i : Nat) (v : Int64) : upJ (flJ mem p k i v) p k i v = flJ mem p k (i + 1) v := by
  refine Prod.ext rfl (Prod.ext ?_ rfl)
  funext a b c
  show (if a = p ∧ b = k ∧ c = i then v else (if a = p ∧ b = k ∧ c < i then v else mem.2.1 a b c)) = if a = p ∧ b = k ∧ c < i + 1 then v else mem.2.1 a b c
  by_cases h : a = p ∧ b = k ∧ c < i + 1
  · rw [if_pos h]
    by_cases h2 : c = i
    · rw [if_pos ⟨h.1, h.2.1, h2⟩]
    · rw [if_neg (fun z => h2 z.2.2), if_pos ⟨h.1, h.2.1, by omega⟩]
  · rw [if_neg h, if_neg (fun z => h ⟨z.1, z.2.1, by omega⟩), if_neg (fun z => h ⟨z.1, z.2.1, by omega⟩)]
section F2
variable {l : Launch} {ι : zE} {mem : zM} {Post : Option zV → zM → Prop} {x y : Int32}
theorem c_fillJ {ps : List Nat} (hH : zHas ι ps) {p k cnt N q0 : Nat} {f0 : Nat → Nat → Nat} {v : Int64} (hsh : zsh p = (cnt, .inr (.long, N, (1, q0, f0)))) (hp : p ∈ ps) (hk : k < cnt) (hN : N < 2 ^ 31) (h : Post none (flJ mem p k N v)) : zC l ι M_Arrays_fill_d0a16 0 [zP p k, zJ v] mem Post := by
  refine z_enter hH (by decide) (by simp [z_ent, M_Arrays_fill_d0a16]) (fun X hXl hX hR => ?_)
  refine z_iconst (v := 0) hX (D_Arrays_fill_d0a16 (i := 0) rfl) (by decide) ?_
  refine z_istore_n hX (D_Arrays_fill_d0a16 (i := 1) rfl) (by decide) rfl ?_
  refine z_aload_n hX (D_Arrays_fill_d0a16 (i := 2) rfl) rfl ?_
  refine z_alen (t0 := 4) (v := nI N) hX (D_Arrays_fill_d0a16 (i := 3) rfl) hsh hp hk rfl rfl ?_
  refine z_istore hX (D_Arrays_fill_d0a16 (i := 4) rfl) (by decide) rfl ?_
  suffices H : ∀ (d i : Nat), i + d = N → zW ι M_Arrays_fill_d0a16 X 6 [some (zP p k), some (zJ v), none, some (zI (nI i)), some (zI (nI N))] [] (flJ mem p k i v) by
    have := H N 0 (by omega)
    rw [flJ_0] at this
    exact this
  intro d
  induction d with
  | zero =>
    intro i hi
    obtain rfl : i = N := by omega
    refine z_iload_n hX (D_Arrays_fill_d0a16 (i := 5) rfl) rfl ?_
    refine z_iload hX (D_Arrays_fill_d0a16 (i := 6) rfl) rfl ?_
    refine z_icmp_ge (tgt := 22) hX (D_Arrays_fill_d0a16 (i := 7) rfl) (by decide) (fun _ => ?_) (fun hc => absurd (nI_le (Nat.le_refl i) hN) hc)
    exact z_ret hX hR (D_Arrays_fill_d0a16 (i := 14) rfl) rfl h
  | succ d ih =>
    intro i hi
    refine z_iload_n hX (D_Arrays_fill_d0a16 (i := 5) rfl) rfl ?_
    refine z_iload hX (D_Arrays_fill_d0a16 (i := 6) rfl) rfl ?_
    refine z_icmp_ge (tgt := 22) hX (D_Arrays_fill_d0a16 (i := 7) rfl) (by decide) (fun hc => absurd hc (nI_ge (by omega) hN)) (fun _ => ?_)
    refine z_aload_n hX (D_Arrays_fill_d0a16 (i := 8) rfl) rfl ?_
    refine z_iload_n hX (D_Arrays_fill_d0a16 (i := 9) rfl) rfl ?_
    refine z_lload_n hX (D_Arrays_fill_d0a16 (i := 10) rfl) rfl ?_
    refine z_last hX (D_Arrays_fill_d0a16 (i := 11) rfl) hsh hp hk hN rfl (by omega) ?_
    rw [flJ_s]
    refine z_inc1 hX (D_Arrays_fill_d0a16 (i := 12) rfl) rfl (by decide) rfl ?_
    refine z_goto (tgt := 6) hX (D_Arrays_fill_d0a16 (i := 13) rfl) (by decide) ?_
    exact ih (i + 1) (by omega)
theorem c_Shelf_isBare (hH : zHas ι pX) {k : Nat} (hk : k < 6) (h : Post (some (zI (bI (decide (mem.1 31 k 0 = 0))))) mem) : zC l ι M_Shelf_isBare 0 [zP 31 k] mem Post := by
  refine z_enter hH (by decide) (by simp [z_ent, M_Shelf_isBare]) (fun X hXl hX hR => ?_)
  refine z_aload_n hX (D_Shelf_isBare (i := 0) rfl) rfl ?_
  refine z_geti hX (D_Shelf_isBare (i := 1) rfl) f_Shelf_11 rfl (by decide) (by first | exact Nat.one_pos | assumption | omega) rfl ?_
  refine z_if_ne (tgt := 11) hX (D_Shelf_isBare (i := 2) rfl) (by decide) (fun h1 => ?_) (fun h1 => ?_)
  · refine z_iconst (v := 0) hX (D_Shelf_isBare (i := 5) rfl) (by decide) ?_
    rw [decide_eq_false h1] at h
    exact z_zret hX hR (D_Shelf_isBare (i := 6) rfl) rfl (by first | exact Or.inl rfl | exact Or.inr rfl | assumption) (by assumption)
  · refine z_iconst (v := 1) hX (D_Shelf_isBare (i := 3) rfl) (by decide) ?_
    refine z_goto (tgt := 12) hX (D_Shelf_isBare (i := 4) rfl) (by decide) ?_
    rw [decide_eq_true h1] at h
    exact z_zret hX hR (D_Shelf_isBare (i := 6) rfl) rfl (by first | exact Or.inl rfl | exact Or.inr rfl | assumption) (by assumption)
theorem c_Shelf_isRow (hH : zHas ι pX) {k : Nat} (hk : k < 6) (h : Post (some (zI (bI (decide (mem.1 31 k 0 = 2))))) mem) : zC l ι M_Shelf_isRow 0 [zP 31 k] mem Post := by
  refine z_enter hH (by decide) (by simp [z_ent, M_Shelf_isRow]) (fun X hXl hX hR => ?_)
  refine z_aload_n hX (D_Shelf_isRow (i := 0) rfl) rfl ?_
  refine z_geti hX (D_Shelf_isRow (i := 1) rfl) f_Shelf_11 rfl (by decide) (by first | exact Nat.one_pos | assumption | omega) rfl ?_
  refine z_iconst (v := 2) hX (D_Shelf_isRow (i := 2) rfl) (by decide) ?_
  refine z_icmp_ne (tgt := 12) hX (D_Shelf_isRow (i := 3) rfl) (by decide) (fun h1 => ?_) (fun h1 => ?_)
  · refine z_iconst (v := 0) hX (D_Shelf_isRow (i := 6) rfl) (by decide) ?_
    rw [decide_eq_false h1] at h
    exact z_zret hX hR (D_Shelf_isRow (i := 7) rfl) rfl (by first | exact Or.inl rfl | exact Or.inr rfl | assumption) (by assumption)
  · refine z_iconst (v := 1) hX (D_Shelf_isRow (i := 4) rfl) (by decide) ?_
    refine z_goto (tgt := 13) hX (D_Shelf_isRow (i := 5) rfl) (by decide) ?_
    rw [decide_eq_true h1] at h
    exact z_zret hX hR (D_Shelf_isRow (i := 7) rfl) rfl (by first | exact Or.inl rfl | exact Or.inr rfl | assumption) (by assumption)
theorem c_Shelf_clear (hH : zHas ι pX) {k : Nat} (hk : k < 6) (h : Post none (upI mem 31 k 0 0)) : zC l ι M_Shelf_clear 0 [zP 31 k] mem Post := by
  refine z_enter hH (by decide) (by simp [z_ent, M_Shelf_clear]) (fun X hXl hX hR => ?_)
  refine z_aload_n hX (D_Shelf_clear (i := 0) rfl) rfl ?_
  refine z_iconst (v := 0) hX (D_Shelf_clear (i := 1) rfl) (by decide) ?_
  refine z_puti hX (D_Shelf_clear (i := 2) rfl) g_Shelf_11 rfl (by decide) (by first | exact Nat.one_pos | assumption | omega) rfl ?_
  exact z_ret hX hR (D_Shelf_clear (i := 3) rfl) rfl (by assumption)
theorem c_Shelf_holdBody (hH : zHas ι pX) {k : Nat} (hk : k < 6) (h : Post none (upI (upI mem 31 k 0 1) 31 k 1 x)) : zC l ι M_Shelf_holdBody 0 [zP 31 k, zI x] mem Post := by
  refine z_enter hH (by decide) (by simp [z_ent, M_Shelf_holdBody]) (fun X hXl hX hR => ?_)
  refine z_aload_n hX (D_Shelf_holdBody (i := 0) rfl) rfl ?_
  refine z_iconst (v := 1) hX (D_Shelf_holdBody (i := 1) rfl) (by decide) ?_
  refine z_puti hX (D_Shelf_holdBody (i := 2) rfl) g_Shelf_11 rfl (by decide) (by first | exact Nat.one_pos | assumption | omega) rfl ?_
  refine z_aload_n hX (D_Shelf_holdBody (i := 3) rfl) rfl ?_
  refine z_iload_n hX (D_Shelf_holdBody (i := 4) rfl) rfl ?_
  refine z_puti hX (D_Shelf_holdBody (i := 5) rfl) g_Shelf_19 rfl (by decide) (by first | exact Nat.one_pos | assumption | omega) rfl ?_
  exact z_ret hX hR (D_Shelf_holdBody (i := 6) rfl) rfl (by assumption)
theorem c_Shelf_holdRow (hH : zHas ι pX) {k : Nat} (hk : k < 6) (h : Post none (flJ (upI (upI (upI mem 31 k 0 2) 31 k 2 x) 31 k 3 y) 32 k 60 0)) : zC l ι M_Shelf_holdRow 1 [zP 31 k, zI x, zI y] mem Post := by
  refine z_enter hH (by decide) (by simp [z_ent, M_Shelf_holdRow]) (fun X hXl hX hR => ?_)
  refine z_aload_n hX (D_Shelf_holdRow (i := 0) rfl) rfl ?_
  refine z_iconst (v := 2) hX (D_Shelf_holdRow (i := 1) rfl) (by decide) ?_
  refine z_puti hX (D_Shelf_holdRow (i := 2) rfl) g_Shelf_11 rfl (by decide) (by first | exact Nat.one_pos | assumption | omega) rfl ?_
  refine z_aload_n hX (D_Shelf_holdRow (i := 3) rfl) rfl ?_
  refine z_iload_n hX (D_Shelf_holdRow (i := 4) rfl) rfl ?_
  refine z_puti hX (D_Shelf_holdRow (i := 5) rfl) g_Shelf_22 rfl (by decide) (by first | exact Nat.one_pos | assumption | omega) rfl ?_
  refine z_aload_n hX (D_Shelf_holdRow (i := 6) rfl) rfl ?_
  refine z_iload_n hX (D_Shelf_holdRow (i := 7) rfl) rfl ?_
  refine z_puti hX (D_Shelf_holdRow (i := 8) rfl) g_Shelf_25 rfl (by decide) (by first | exact Nat.one_pos | assumption | omega) rfl ?_
  refine z_aload_n hX (D_Shelf_holdRow (i := 9) rfl) rfl ?_
  refine z_getc hX (D_Shelf_holdRow (i := 10) rfl) f_Shelf_15 rfl (by decide) (by first | exact Nat.one_pos | assumption | omega) rfl ?_
  refine z_lconst (v := 0) hX (D_Shelf_holdRow (i := 11) rfl) (by decide) ?_
  refine z_cS2 hX (D_Shelf_holdRow (i := 12) rfl) ms_Arrays_fill_d0a16 l_Shelf_28 (by first | decide | omega) (Nat.le_of_ble_eq_true rfl) (c_fillJ hH (p := 32) rfl (by decide) hk (by decide) ?_)
  exact z_ret hX hR (D_Shelf_holdRow (i := 13) rfl) rfl (by assumption)
def snJ (s : Nat) (v : Int64) : Int64 := match s with
  | 0 => v.toInt32.toInt8.toInt32.toInt64
  | 1 => v.toInt32.toInt16.toInt32.toInt64
  | 2 => v.toInt32.toInt64
  | 3 => v
  | _ => if v = 0 then 0 else 1
theorem c_Shelf_store (hH : zHas ι pX) {k i s : Nat} {v : Int64} (hk : k < 6) (hi : i < 60) (hs : mem.1 31 k 2 = nI s) (h5 : s < 5) (h : Post none (upJ mem 32 k i (snJ s v))) : zC l ι M_Shelf_store 0 [zP 31 k, zI (nI i), zJ v] mem Post := by
  refine z_enter hH (by decide) (by simp [z_ent, M_Shelf_store]) (fun X hXl hX hR => ?_)
  refine z_aload_n hX (D_Shelf_store (i := 0) rfl) rfl ?_
  refine z_geti hX (D_Shelf_store (i := 1) rfl) f_Shelf_22 rfl (by decide) (by first | exact Nat.one_pos | assumption | omega) rfl ?_
  rw [hs]
  match s, h5, h with
  | 0, _, h =>
    refine z_tabIn (off := 32) (tgt := 36) hX (D_Shelf_store (i := 2) rfl) (by decide) (by decide) (by decide) (by decide) ?_
    refine z_aload_n hX (D_Shelf_store (i := 3) rfl) rfl ?_
    refine z_getc hX (D_Shelf_store (i := 4) rfl) f_Shelf_15 rfl (by decide) (by first | exact Nat.one_pos | assumption | omega) rfl ?_
    refine z_iload_n hX (D_Shelf_store (i := 5) rfl) rfl ?_
    refine z_lload_n hX (D_Shelf_store (i := 6) rfl) rfl ?_
    refine z_l2i hX (D_Shelf_store (i := 7) rfl) ?_
    refine z_i2b hX (D_Shelf_store (i := 8) rfl) ?_
    refine z_i2l hX (D_Shelf_store (i := 9) rfl) ?_
    refine z_last (j := i) hX (D_Shelf_store (i := 10) rfl) rfl (by decide) (by first | exact Nat.one_pos | assumption | omega) (by decide) rfl hi ?_
    refine z_goto (tgt := 101) hX (D_Shelf_store (i := 11) rfl) (by decide) ?_
    exact z_ret hX hR (D_Shelf_store (i := 46) rfl) rfl (by assumption)
  | 1, _, h =>
    refine z_tabIn (off := 45) (tgt := 49) hX (D_Shelf_store (i := 2) rfl) (by decide) (by decide) (by decide) (by decide) ?_
    refine z_aload_n hX (D_Shelf_store (i := 12) rfl) rfl ?_
    refine z_getc hX (D_Shelf_store (i := 13) rfl) f_Shelf_15 rfl (by decide) (by first | exact Nat.one_pos | assumption | omega) rfl ?_
    refine z_iload_n hX (D_Shelf_store (i := 14) rfl) rfl ?_
    refine z_lload_n hX (D_Shelf_store (i := 15) rfl) rfl ?_
    refine z_l2i hX (D_Shelf_store (i := 16) rfl) ?_
    refine z_i2s hX (D_Shelf_store (i := 17) rfl) ?_
    refine z_i2l hX (D_Shelf_store (i := 18) rfl) ?_
    refine z_last (j := i) hX (D_Shelf_store (i := 19) rfl) rfl (by decide) (by first | exact Nat.one_pos | assumption | omega) (by decide) rfl hi ?_
    refine z_goto (tgt := 101) hX (D_Shelf_store (i := 20) rfl) (by decide) ?_
    exact z_ret hX hR (D_Shelf_store (i := 46) rfl) rfl (by assumption)
  | 2, _, h =>
    refine z_tabIn (off := 58) (tgt := 62) hX (D_Shelf_store (i := 2) rfl) (by decide) (by decide) (by decide) (by decide) ?_
    refine z_aload_n hX (D_Shelf_store (i := 21) rfl) rfl ?_
    refine z_getc hX (D_Shelf_store (i := 22) rfl) f_Shelf_15 rfl (by decide) (by first | exact Nat.one_pos | assumption | omega) rfl ?_
    refine z_iload_n hX (D_Shelf_store (i := 23) rfl) rfl ?_
    refine z_lload_n hX (D_Shelf_store (i := 24) rfl) rfl ?_
    refine z_l2i hX (D_Shelf_store (i := 25) rfl) ?_
    refine z_i2l hX (D_Shelf_store (i := 26) rfl) ?_
    refine z_last (j := i) hX (D_Shelf_store (i := 27) rfl) rfl (by decide) (by first | exact Nat.one_pos | assumption | omega) (by decide) rfl hi ?_
    refine z_goto (tgt := 101) hX (D_Shelf_store (i := 28) rfl) (by decide) ?_
    exact z_ret hX hR (D_Shelf_store (i := 46) rfl) rfl (by assumption)
  | 3, _, h =>
    refine z_tabIn (off := 70) (tgt := 74) hX (D_Shelf_store (i := 2) rfl) (by decide) (by decide) (by decide) (by decide) ?_
    refine z_aload_n hX (D_Shelf_store (i := 29) rfl) rfl ?_
    refine z_getc hX (D_Shelf_store (i := 30) rfl) f_Shelf_15 rfl (by decide) (by first | exact Nat.one_pos | assumption | omega) rfl ?_
    refine z_iload_n hX (D_Shelf_store (i := 31) rfl) rfl ?_
    refine z_lload_n hX (D_Shelf_store (i := 32) rfl) rfl ?_
    refine z_last (j := i) hX (D_Shelf_store (i := 33) rfl) rfl (by decide) (by first | exact Nat.one_pos | assumption | omega) (by decide) rfl hi ?_
    refine z_goto (tgt := 101) hX (D_Shelf_store (i := 34) rfl) (by decide) ?_
    exact z_ret hX hR (D_Shelf_store (i := 46) rfl) rfl (by assumption)
  | 4, _, h =>
    refine z_tabOut (tgt := 84) hX (D_Shelf_store (i := 2) rfl) (by decide) (by decide) ?_
    refine z_aload_n hX (D_Shelf_store (i := 35) rfl) rfl ?_
    refine z_getc hX (D_Shelf_store (i := 36) rfl) f_Shelf_15 rfl (by decide) (by first | exact Nat.one_pos | assumption | omega) rfl ?_
    refine z_iload_n hX (D_Shelf_store (i := 37) rfl) rfl ?_
    refine z_lload_n hX (D_Shelf_store (i := 38) rfl) rfl ?_
    refine z_lconst (v := 0) hX (D_Shelf_store (i := 39) rfl) (by decide) ?_
    refine z_lcmp hX (D_Shelf_store (i := 40) rfl) ?_
    refine z_if_eq (tgt := 99) hX (D_Shelf_store (i := 41) rfl) (by decide) (fun h0 => ?_) (fun h0 => ?_)
    · refine z_lconst (v := 0) hX (D_Shelf_store (i := 44) rfl) (by decide) ?_
      refine z_last (j := i) hX (D_Shelf_store (i := 45) rfl) rfl (by decide) (by first | exact Nat.one_pos | assumption | omega) (by decide) rfl hi ?_
      have e : snJ 4 v = 0 := if_pos ((lg_cmp_eq _ _).mp h0)
      rw [e] at h
      exact z_ret hX hR (D_Shelf_store (i := 46) rfl) rfl (by assumption)
    · refine z_lconst (v := 1) hX (D_Shelf_store (i := 42) rfl) (by decide) ?_
      refine z_goto (tgt := 100) hX (D_Shelf_store (i := 43) rfl) (by decide) ?_
      refine z_last (j := i) hX (D_Shelf_store (i := 45) rfl) rfl (by decide) (by first | exact Nat.one_pos | assumption | omega) (by decide) rfl hi ?_
      have e : snJ 4 v = 1 := if_neg (fun z => h0 ((lg_cmp_eq _ _).mpr z))
      rw [e] at h
      exact z_ret hX hR (D_Shelf_store (i := 46) rfl) rfl (by assumption)
def hsB (L : Nat) (x n : Int32) : Bool := decide (0 ≤ x.toInt ∧ x.toInt ≤ L ∧ 0 ≤ n.toInt ∧ n.toInt ≤ L - x.toInt)
theorem c_Shelf_hasStretch (hH : zHas ι pX) {k L : Nat} (hk : k < 6) (hL : mem.1 31 k 3 = nI L) (h60 : L ≤ 60) (h : Post (some (zI (bI (hsB L x y)))) mem) : zC l ι M_Shelf_hasStretch 0 [zP 31 k, zI x, zI y] mem Post := by
  have n1 : ∀ a b : Int32, a < b ↔ a.toInt < b.toInt := fun a b => Int32.lt_iff_toInt_lt
  refine z_enter hH (by decide) (by simp [z_ent, M_Shelf_hasStretch]) (fun X hXl hX hR => ?_)
  refine z_iload_n hX (D_Shelf_hasStretch (i := 0) rfl) rfl ?_
  refine z_if_lt (tgt := 30) hX (D_Shelf_hasStretch (i := 1) rfl) (by decide) (fun h1 => ?_) (fun h1 => ?_)
  · refine z_iconst (v := 0) hX (D_Shelf_hasStretch (i := 16) rfl) (by decide) ?_
    rw [n1, i32_0] at h1
    rw [show hsB L x y = false from decide_eq_false (by omega)] at h
    exact z_zret hX hR (D_Shelf_hasStretch (i := 17) rfl) rfl (by first | exact Or.inl rfl | exact Or.inr rfl | assumption) (by assumption)
  · skip
    obtain ⟨j, hj, rfl⟩ := nI_of h1
    refine z_iload_n hX (D_Shelf_hasStretch (i := 2) rfl) rfl ?_
    refine z_aload_n hX (D_Shelf_hasStretch (i := 3) rfl) rfl ?_
    refine z_geti hX (D_Shelf_hasStretch (i := 4) rfl) f_Shelf_25 rfl (by decide) (by first | exact Nat.one_pos | assumption | omega) rfl ?_
    rw [hL]
    refine z_icmp_gt (tgt := 30) hX (D_Shelf_hasStretch (i := 5) rfl) (by decide) (fun h2 => ?_) (fun h2 => ?_)
    · refine z_iconst (v := 0) hX (D_Shelf_hasStretch (i := 16) rfl) (by decide) ?_
      rw [n1, nI_toInt (by omega), nI_toInt hj] at h2
      rw [show hsB L (nI j) y = false from decide_eq_false (by rw [nI_toInt hj]; omega)] at h
      exact z_zret hX hR (D_Shelf_hasStretch (i := 17) rfl) rfl (by first | exact Or.inl rfl | exact Or.inr rfl | assumption) (by assumption)
    · refine z_iload_n hX (D_Shelf_hasStretch (i := 6) rfl) rfl ?_
      rw [n1, nI_toInt (by omega), nI_toInt hj] at h2
      refine z_if_lt (tgt := 30) hX (D_Shelf_hasStretch (i := 7) rfl) (by decide) (fun h3 => ?_) (fun h3 => ?_)
      · refine z_iconst (v := 0) hX (D_Shelf_hasStretch (i := 16) rfl) (by decide) ?_
        rw [n1, i32_0] at h3
        rw [show hsB L (nI j) y = false from decide_eq_false (by omega)] at h
        exact z_zret hX hR (D_Shelf_hasStretch (i := 17) rfl) rfl (by first | exact Or.inl rfl | exact Or.inr rfl | assumption) (by assumption)
      · refine z_iload_n hX (D_Shelf_hasStretch (i := 8) rfl) rfl ?_
        refine z_aload_n hX (D_Shelf_hasStretch (i := 9) rfl) rfl ?_
        refine z_geti hX (D_Shelf_hasStretch (i := 10) rfl) f_Shelf_25 rfl (by decide) (by first | exact Nat.one_pos | assumption | omega) rfl ?_
        refine z_iload_n hX (D_Shelf_hasStretch (i := 11) rfl) rfl ?_
        refine z_isub hX (D_Shelf_hasStretch (i := 12) rfl) ?_
        rw [hL, pk_sub (by omega)]
        rw [n1, i32_0] at h3
        refine z_icmp_gt (tgt := 30) hX (D_Shelf_hasStretch (i := 13) rfl) (by decide) (fun h4 => ?_) (fun h4 => ?_)
        · refine z_iconst (v := 0) hX (D_Shelf_hasStretch (i := 16) rfl) (by decide) ?_
          rw [n1, nI_toInt (by omega)] at h4
          rw [show hsB L (nI j) y = false from decide_eq_false (by rw [nI_toInt hj]; omega)] at h
          exact z_zret hX hR (D_Shelf_hasStretch (i := 17) rfl) rfl (by first | exact Or.inl rfl | exact Or.inr rfl | assumption) (by assumption)
        · refine z_iconst (v := 1) hX (D_Shelf_hasStretch (i := 14) rfl) (by decide) ?_
          refine z_goto (tgt := 31) hX (D_Shelf_hasStretch (i := 15) rfl) (by decide) ?_
          rw [n1, nI_toInt (by omega)] at h4
          rw [show hsB L (nI j) y = true from decide_eq_true (by rw [nI_toInt hj]; omega)] at h
          exact z_zret hX hR (D_Shelf_hasStretch (i := 17) rfl) rfl (by first | exact Or.inl rfl | exact Or.inr rfl | assumption) (by assumption)
def elB (mem : zM) (k j i : Nat) : Bool := decide (0 ≤ mem.2.1 32 k (j + i) ∧ mem.2.1 32 k (j + i) ≤ 6)
theorem c_Shelf_hasSixColours (hH : zHas ι pX) {k L : Nat} (hk : k < 6) (hL : mem.1 31 k 3 = nI L) (h60 : L ≤ 60) (h : Post (some (zI (bI (hsB L x 6 && alI (elB mem k x.toInt.toNat) 6)))) mem) : zC l ι M_Shelf_hasSixColours 1 [zP 31 k, zI x] mem Post := by
  refine z_enter hH (by decide) (by simp [z_ent, M_Shelf_hasSixColours]) (fun X hXl hX hR => ?_)
  refine z_aload_n hX (D_Shelf_hasSixColours (i := 0) rfl) rfl ?_
  refine z_iload_n hX (D_Shelf_hasSixColours (i := 1) rfl) rfl ?_
  refine z_bipush (v := 6) hX (D_Shelf_hasSixColours (i := 2) rfl) (by decide) ?_
  refine z_cV2 hX (D_Shelf_hasSixColours (i := 3) rfl) mi_Shelf_hasStretch l_Shelf_34 rfl rfl (by decide) (by first | exact Nat.one_pos | assumption | omega) (by first | decide | omega) (Nat.le_of_ble_eq_true rfl) (c_Shelf_hasStretch hH hk hL h60 ?_)
  refine z_if_ne (tgt := 12) hX (D_Shelf_hasSixColours (i := 4) rfl) (by decide) (fun h1 => ?_) (fun h1 => ?_)
  · skip
    have h2 := of_decide_eq_true (bI_n.mp h1)
    rw [bI_n.mp h1, Bool.true_and] at h
    have e6 : (6 : Int32).toInt = 6 := rfl
    rw [e6] at h2
    obtain ⟨j, hj, rfl⟩ : ∃ j : Nat, j + 6 ≤ L ∧ x = nI j := by
      refine ⟨x.toInt.toNat, by omega, Int32.toInt_inj.mp ?_⟩
      rw [nI_toInt (by omega)]
      omega
    have e7 : (nI j).toInt.toNat = j := by rw [nI_toInt (by omega)]; rfl
    rw [e7] at h
    refine z_iload_n hX (D_Shelf_hasSixColours (i := 7) rfl) rfl ?_
    refine z_istore_n hX (D_Shelf_hasSixColours (i := 8) rfl) (by decide) rfl ?_
    suffices H : ∀ (d i : Nat), i + d = 6 → (∀ w, w < i → elB mem k j w = true) → zW ι M_Shelf_hasSixColours X 14 [some (zP 31 k), some (zI (nI j)), some (zI (nI (j + i)))] [] mem from H 6 0 rfl (fun _ h => absurd h (Nat.not_lt_zero _))
    intro d
    induction d with
    | zero =>
      intro i hi hinv
      obtain rfl : i = 6 := by omega
      refine z_iload_n hX (D_Shelf_hasSixColours (i := 9) rfl) rfl ?_
      refine z_iload_n hX (D_Shelf_hasSixColours (i := 10) rfl) rfl ?_
      refine z_bipush (v := 6) hX (D_Shelf_hasSixColours (i := 11) rfl) (by decide) ?_
      refine z_iadd hX (D_Shelf_hasSixColours (i := 12) rfl) ?_
      rw [nlit, nI_add]
      refine z_icmp_ge (tgt := 54) hX (D_Shelf_hasSixColours (i := 13) rfl) (by decide) (fun _ => ?_) (fun hcc => absurd (Int32.le_refl _) hcc)
      refine z_iconst (v := 1) hX (D_Shelf_hasSixColours (i := 32) rfl) (by decide) ?_
      rw [alI_true.mpr hinv] at h
      exact z_zret hX hR (D_Shelf_hasSixColours (i := 33) rfl) rfl (by first | exact Or.inl rfl | exact Or.inr rfl | assumption) (by assumption)
    | succ d ih =>
      intro i hi hinv
      refine z_iload_n hX (D_Shelf_hasSixColours (i := 9) rfl) rfl ?_
      refine z_iload_n hX (D_Shelf_hasSixColours (i := 10) rfl) rfl ?_
      refine z_bipush (v := 6) hX (D_Shelf_hasSixColours (i := 11) rfl) (by decide) ?_
      refine z_iadd hX (D_Shelf_hasSixColours (i := 12) rfl) ?_
      rw [nlit, nI_add]
      refine z_icmp_ge (tgt := 54) hX (D_Shelf_hasSixColours (i := 13) rfl) (by decide) (fun hcc => absurd hcc (nI_ge (by omega) (by omega))) (fun _ => ?_)
      refine z_aload_n hX (D_Shelf_hasSixColours (i := 14) rfl) rfl ?_
      refine z_getc hX (D_Shelf_hasSixColours (i := 15) rfl) f_Shelf_15 rfl (by decide) (by first | exact Nat.one_pos | assumption | omega) rfl ?_
      refine z_iload_n hX (D_Shelf_hasSixColours (i := 16) rfl) rfl ?_
      refine z_lald (j := j + i) hX (D_Shelf_hasSixColours (i := 17) rfl) rfl (by decide) (by first | exact Nat.one_pos | assumption | omega) (by decide) rfl (by omega) ?_
      refine z_lconst (v := 0) hX (D_Shelf_hasSixColours (i := 18) rfl) (by decide) ?_
      refine z_lcmp hX (D_Shelf_hasSixColours (i := 19) rfl) ?_
      refine z_if_lt (tgt := 46) hX (D_Shelf_hasSixColours (i := 20) rfl) (by decide) (fun h3 => ?_) (fun h3 => ?_)
      · refine z_iconst (v := 0) hX (D_Shelf_hasSixColours (i := 28) rfl) (by decide) ?_
        rw [alI_false (k := i) (by omega) (decide_eq_false (fun z => by
          have a1 := Int64.lt_iff_toInt_lt.mp ((lg_cmp_lt _ _).mp h3)
          have a2 := Int64.le_iff_toInt_le.mp z.1
          omega))] at h
        exact z_zret hX hR (D_Shelf_hasSixColours (i := 29) rfl) rfl (by first | exact Or.inl rfl | exact Or.inr rfl | assumption) (by assumption)
      · refine z_aload_n hX (D_Shelf_hasSixColours (i := 21) rfl) rfl ?_
        refine z_getc hX (D_Shelf_hasSixColours (i := 22) rfl) f_Shelf_15 rfl (by decide) (by first | exact Nat.one_pos | assumption | omega) rfl ?_
        refine z_iload_n hX (D_Shelf_hasSixColours (i := 23) rfl) rfl ?_
        refine z_lald (j := j + i) hX (D_Shelf_hasSixColours (i := 24) rfl) rfl (by decide) (by first | exact Nat.one_pos | assumption | omega) (by decide) rfl (by omega) ?_
        refine z_ldc2 (v := 6) hX (D_Shelf_hasSixColours (i := 25) rfl) k_Shelf_38 ?_
        refine z_lcmp hX (D_Shelf_hasSixColours (i := 26) rfl) ?_
        refine z_if_le (tgt := 48) hX (D_Shelf_hasSixColours (i := 27) rfl) (by decide) (fun h4 => ?_) (fun h4 => ?_)
        · first | refine z_inc1 hX (D_Shelf_hasSixColours (i := 30) rfl) rfl (by decide) rfl ?_ | refine z_iinc hX (D_Shelf_hasSixColours (i := 30) rfl) rfl rfl (by decide) rfl ?_
          refine z_goto (tgt := 14) hX (D_Shelf_hasSixColours (i := 31) rfl) (by decide) ?_
          refine ih (i + 1) (by omega) (fun w hw => if e : w = i then ?_ else hinv w (by omega))
          subst e
          refine decide_eq_true ⟨?_, (lg_cmp_le _ _).mp h4⟩
          have a1 := fun z => h3 ((lg_cmp_lt _ _).mpr (Int64.lt_iff_toInt_lt.mpr z))
          exact Int64.le_iff_toInt_le.mpr (Int.not_lt.mp a1)
        · refine z_iconst (v := 0) hX (D_Shelf_hasSixColours (i := 28) rfl) (by decide) ?_
          rw [alI_false (k := i) (by omega) (decide_eq_false (fun z => h4 ((lg_cmp_le _ _).mpr z.2)))] at h
          exact z_zret hX hR (D_Shelf_hasSixColours (i := 29) rfl) rfl (by first | exact Or.inl rfl | exact Or.inr rfl | assumption) (by assumption)
  · refine z_iconst (v := 0) hX (D_Shelf_hasSixColours (i := 5) rfl) (by decide) ?_
    rw [bI_0.mp h1, Bool.false_and] at h
    exact z_zret hX hR (D_Shelf_hasSixColours (i := 6) rfl) rfl (by first | exact Or.inl rfl | exact Or.inr rfl | assumption) (by assumption)
end F2
end
section
/-! bodies and acts -/
def fndL : List (List (Nat × Nat)) := [[(1, 0), (10, 0), (11, 0), (2, 0)], [(20, 1), (10, 0), (11, 0), (2, 0)], [(1, 0), (30, 2), (11, 0), (2, 0)], [(1, 0), (41, 3), (40, 3), (2, 0)], [(20, 1), (10, 0), (11, 0), (50, 4)], [(20, 1), (10, 0), (60, 5), (61, 5)], [(70, 6), (10, 0), (11, 0), (2, 0)], [(81, 7), (80, 7), (11, 0), (2, 0)]]
def fnd (k d : Nat) : Nat × Nat := (fndL.getD k []).getD d (0, 0)
def abN (a : Nat) : Nat := (zstf 94 a).toNatClampNeg
def owN (a d : Nat) : Nat := (zstf 95 (4 * a + d)).toNatClampNeg
def depK (a : Nat) : Nat := [0, 1, 1, 2, 2, 3, 1, 2].getD a 0
theorem own_ok : ∀ a, a < 8 → ∀ d, d < 4 → zstf 95 (4 * a + d) = nI (owN a d) ∧ (owN a d = 0 ∨ fnd a d = (owN a d, a)) ∧ (¬ owN a d = 0 ∨ (fnd a d = fnd (abN a) d ∧ zstf 94 a = nI (abN a) ∧ abN a < 8 ∧ depK a = depK (abN a) + 1)) := by decide +kernel
def vpL : List (Nat × Nat) := [(1, 0), (2, 0), (10, 0), (11, 0), (20, 1), (30, 2), (40, 3), (41, 3), (50, 4), (60, 5), (61, 5), (70, 6), (80, 7), (81, 7)]
theorem fnd_vp : ∀ k, k < 8 → ∀ d, d < 4 → fnd k d ∈ vpL ∧ depK k ≤ 3 := by decide +kernel
theorem vp_ok : ∀ q ∈ vpL, q.1 < 100 ∧ q.2 < 8 ∧ ∀ a, a < 8 → ∃ y, zstf 94 a = y := by
  intro q hq
  refine ⟨?_, ?_, fun a _ => ⟨_, rfl⟩⟩
  · revert q; decide
  · revert q; decide
def rnP : Nat → Nat → Int32 → Nat → Nat → Int32 → Int32 × List Int32
  | 0, _, _, _, _, _ => (0, [])
  | n + 1, κ, s, f, a, x => match f with
    | 1 => (x + s, [1])
    | 2 => ((rnP n κ s (fnd κ 1).1 (fnd κ 1).2 x).1 - (rnP n κ s (fnd κ 2).1 (fnd κ 2).2 1).1, 2 :: ((rnP n κ s (fnd κ 1).1 (fnd κ 1).2 x).2 ++ (rnP n κ s (fnd κ 2).1 (fnd κ 2).2 1).2))
    | 10 => ((rnP n κ s (fnd κ 0).1 (fnd κ 0).2 x).1 * 2, 10 :: (rnP n κ s (fnd κ 0).1 (fnd κ 0).2 x).2)
    | 11 => (x ^^^ s, [11])
    | 20 => ((rnP n κ s (fnd 0 0).1 (fnd 0 0).2 x).1 + 3, 20 :: (rnP n κ s (fnd 0 0).1 (fnd 0 0).2 x).2)
    | 30 => (-(rnP n κ s (fnd 0 1).1 (fnd 0 1).2 x).1, 30 :: (rnP n κ s (fnd 0 1).1 (fnd 0 1).2 x).2)
    | 40 => ((rnP n κ s (fnd 2 2).1 (fnd 2 2).2 x).1 * 3, 40 :: (rnP n κ s (fnd 2 2).1 (fnd 2 2).2 x).2)
    | 41 => ((rnP n κ s (fnd 2 1).1 (fnd 2 1).2 (x + 1)).1, 41 :: (rnP n κ s (fnd 2 1).1 (fnd 2 1).2 (x + 1)).2)
    | 50 => ((rnP n κ s (fnd 1 3).1 (fnd 1 3).2 x).1 ^^^ 5, 50 :: (rnP n κ s (fnd 1 3).1 (fnd 1 3).2 x).2)
    | 60 => ((rnP n κ s (fnd 4 2).1 (fnd 4 2).2 x).1 - (rnP n κ s (fnd κ 0).1 (fnd κ 0).2 2).1, 60 :: ((rnP n κ s (fnd 4 2).1 (fnd 4 2).2 x).2 ++ (rnP n κ s (fnd κ 0).1 (fnd κ 0).2 2).2))
    | 61 => ((rnP n κ s (fnd 4 3).1 (fnd 4 3).2 x).1 + 1, 61 :: (rnP n κ s (fnd 4 3).1 (fnd 4 3).2 x).2)
    | 70 => ((rnP n κ s (fnd 0 0).1 (fnd 0 0).2 x).1 * 2, 70 :: (rnP n κ s (fnd 0 0).1 (fnd 0 0).2 x).2)
    | 80 => ((rnP n κ s (fnd 6 1).1 (fnd 6 1).2 x).1 + (rnP n κ s (fnd κ 2).1 (fnd κ 2).2 2).1, 80 :: ((rnP n κ s (fnd 6 1).1 (fnd 6 1).2 x).2 ++ (rnP n κ s (fnd κ 2).1 (fnd κ 2).2 2).2))
    | 81 => ((rnP n κ s (fnd 6 0).1 (fnd 6 0).2 x).1 - 1, 81 :: (rnP n κ s (fnd 6 0).1 (fnd 6 0).2 x).2)
    | _ => (0, [])
abbrev rfP (n κ : Nat) (s : Int32) (k d : Nat) (x : Int32) : Int32 × List Int32 := rnP n κ s (fnd k d).1 (fnd k d).2 x
def aT (mem : zM) (r : Nat) (b : Int32) : zM := upI (if r < 24 then upI mem 29 0 r b else mem) 27 0 3 (nI (r + 1))
def trM : zM → Nat → List Int32 → zM
  | mem, _, [] => mem
  | mem, r, b :: t => trM (aT mem r b) (r + 1) t
theorem trM_app : ∀ (mem : zM) (r : Nat) (a b : List Int32), trM mem r (a ++ b) = trM (trM mem r a) (r + a.length) b
  | mem, r, [], b => rfl
  | mem, r, x :: a, b => by
    show trM (aT mem r x) (r + 1) (a ++ b) = trM (trM (aT mem r x) (r + 1) a) (r + (a.length + 1)) b
    rw [trM_app, show r + (a.length + 1) = r + 1 + a.length by omega]
def BodyOK (mem : zM) (s κ r : Nat) : Prop := mem.1 27 0 4 = nI s ∧ s < 50 ∧ mem.1 28 0 s = nI κ ∧ κ < 8 ∧ mem.1 27 0 3 = nI r
theorem BodyOK.aT {mem : zM} {s κ r : Nat} (b : Int32) (h : BodyOK mem s κ r) : BodyOK (aT mem r b) s κ (r + 1) := by
  obtain ⟨h1, h2, h3, h4, h5⟩ := h
  show BodyOK (upI (if r < 24 then upI mem 29 0 r b else mem) 27 0 3 (nI (r + 1))) s κ (r + 1)
  refine ⟨?_, h2, ?_, h4, ?_⟩
  · split
    · simp [upI_get, h1]
    · simp [upI_get, h1]
  · split
    · simp [upI_get, h3]
    · simp [upI_get, h3]
  · simp [upI_get]
theorem BodyOK.tr {s κ : Nat} : ∀ (bs : List Int32) {mem : zM} {r : Nat}, BodyOK mem s κ r → BodyOK (trM mem r bs) s κ (r + bs.length)
  | [], mem, r, h => h
  | b :: t, mem, r, h => by
    have := BodyOK.tr t (h.aT b)
    rw [show r + 1 + t.length = r + (b :: t).length by simp; omega] at this
    exact this
section F3
variable {l : Launch} {ι : zE}
theorem c_Bodies_run_step (hH : zHas ι pX) (n : Nat)
    (ihF : ∀ {mem : zM} {Post : Option zV → zM → Prop} {k d : Nat} {x : Int32} {dp s κ r : Nat}, k < 8 → d < 4 → dp + n = 20 → BodyOK mem s κ r → r + (rfP n κ (nI s) k d x).2.length < 1000000 → Post (some (zI (rfP n κ (nI s) k d x).1)) (trM mem r (rfP n κ (nI s) k d x).2) → zC l ι M_Bodies_runFrom (2 * n + 1) [zP 27 0, zI (nI k), zI (nI d), zI x, zI (nI dp)] mem Post)
    {mem : zM} {Post : Option zV → zM → Prop} {f a : Nat} {x : Int32} {dp s κ r : Nat} (hv : (f, a) ∈ vpL) (hdp : dp + (n + 1) = 20) (hB : BodyOK mem s κ r) (hlen : r + (rnP (n + 1) κ (nI s) f a x).2.length < 1000000) (h : Post (some (zI (rnP (n + 1) κ (nI s) f a x).1)) (trM mem r (rnP (n + 1) κ (nI s) f a x).2)) : zC l ι M_Bodies_run (2 * n + 2) [zP 27 0, zI (nI f), zI (nI a), zI x, zI (nI dp)] mem Post := by
  have hva := (vp_ok _ hv).2.1
  refine z_enter hH (by decide) (by simp [z_ent, M_Bodies_run]) (fun X hXl hX hR => ?_)
  subst hXl
  refine z_iload hX (D_Bodies_run (i := 0) rfl) rfl ?_
  refine z_bipush (v := 20) hX (D_Bodies_run (i := 1) rfl) (by decide) ?_
  refine z_icmp_lt (tgt := 9) hX (D_Bodies_run (i := 2) rfl) (by decide) (fun _ => ?_) (fun hcc => absurd (nI_lt (b := 20) (by omega) (by decide)) hcc)
  refine z_aload_n hX (D_Bodies_run (i := 5) rfl) rfl ?_
  refine z_geti hX (D_Bodies_run (i := 6) rfl) f_Bodies_25 rfl (by decide) (by first | exact Nat.one_pos | assumption | omega) rfl ?_
  refine z_bipush (v := 24) hX (D_Bodies_run (i := 7) rfl) (by decide) ?_
  rw [hB.2.2.2.2]
  have hB1 := hB.aT (nI f)
  have main : zW ι M_Bodies_run X 28 [some (zP 27 0), some (zI (nI f)), some (zI (nI a)), some (zI x), some (zI (nI dp)), none, none, none] [] (if r < 24 then upI mem 29 0 r (nI f) else mem) := by
    refine z_aload_n hX (D_Bodies_run (i := 15) rfl) rfl ?_
    refine z_dupP hX (D_Bodies_run (i := 16) rfl) ?_
    refine z_geti hX (D_Bodies_run (i := 17) rfl) f_Bodies_25 rfl (by decide) (by first | exact Nat.one_pos | assumption | omega) rfl ?_
    refine z_iconst (v := 1) hX (D_Bodies_run (i := 18) rfl) (by decide) ?_
    have e : (if r < 24 then upI mem 29 0 r (nI f) else mem).1 27 0 3 = nI r := by
      split
      · simp [upI_get, hB.2.2.2.2]
      · exact hB.2.2.2.2
    rw [e]
    refine z_iadd hX (D_Bodies_run (i := 19) rfl) ?_
    rw [nI_1]
    refine z_puti hX (D_Bodies_run (i := 20) rfl) g_Bodies_25 rfl (by decide) (by first | exact Nat.one_pos | assumption | omega) rfl ?_
    refine z_aload_n hX (D_Bodies_run (i := 21) rfl) rfl ?_
    refine z_getc hX (D_Bodies_run (i := 22) rfl) f_Bodies_11 rfl (by decide) (by first | exact Nat.one_pos | assumption | omega) rfl ?_
    refine z_aload_n hX (D_Bodies_run (i := 23) rfl) rfl ?_
    refine z_geti hX (D_Bodies_run (i := 24) rfl) f_Bodies_34 rfl (by decide) (by first | exact Nat.one_pos | assumption | omega) rfl ?_
    have e2 : (upI (if r < 24 then upI mem 29 0 r (nI f) else mem) 27 0 3 (nI (r + 1))) = aT mem r (nI f) := rfl
    rw [e2, hB1.1]
    refine z_iald (j := s) hX (D_Bodies_run (i := 25) rfl) rfl (by decide) (by first | exact Nat.one_pos | assumption | omega) (by decide) rfl hB.2.1 ?_
    rw [hB1.2.2.1]
    refine z_istore hX (D_Bodies_run (i := 26) rfl) (by decide) rfl ?_
    refine z_gets (p := 94) hX (D_Bodies_run (i := 27) rfl) (by decide) (by decide) s_Bodies_22 ?_
    refine z_iload_n hX (D_Bodies_run (i := 28) rfl) rfl ?_
    refine z_tald (p := 94) (j := a) hX (D_Bodies_run (i := 29) rfl) (by decide) (by decide) (by decide +kernel) rfl hva ?_
    refine z_istore hX (D_Bodies_run (i := 30) rfl) (by decide) rfl ?_
    refine z_iload hX (D_Bodies_run (i := 31) rfl) rfl ?_
    refine z_iconst (v := 1) hX (D_Bodies_run (i := 32) rfl) (by decide) ?_
    refine z_iadd hX (D_Bodies_run (i := 33) rfl) ?_
    rw [nI_1]
    refine z_istore hX (D_Bodies_run (i := 34) rfl) (by decide) rfl ?_
    refine z_iload_n hX (D_Bodies_run (i := 35) rfl) rfl ?_
    simp only [vpL, List.mem_cons, Prod.mk.injEq, List.not_mem_nil, or_false] at hv
    rcases hv with ⟨rfl, rfl⟩ | ⟨rfl, rfl⟩ | ⟨rfl, rfl⟩ | ⟨rfl, rfl⟩ | ⟨rfl, rfl⟩ | ⟨rfl, rfl⟩ | ⟨rfl, rfl⟩ | ⟨rfl, rfl⟩ | ⟨rfl, rfl⟩ | ⟨rfl, rfl⟩ | ⟨rfl, rfl⟩ | ⟨rfl, rfl⟩ | ⟨rfl, rfl⟩ | ⟨rfl, rfl⟩
    · refine z_lookup (off := 121) (tgt := 184) hX (D_Bodies_run (i := 36) rfl) (by decide) (by decide) (by decide) ?_
      refine z_iload_n hX (D_Bodies_run (i := 37) rfl) rfl ?_
      refine z_aload_n hX (D_Bodies_run (i := 38) rfl) rfl ?_
      refine z_geti hX (D_Bodies_run (i := 39) rfl) f_Bodies_34 rfl (by decide) (by first | exact Nat.one_pos | assumption | omega) rfl ?_
      refine z_iadd hX (D_Bodies_run (i := 40) rfl) ?_
      rw [hB1.1]
      exact z_iret hX hR (D_Bodies_run (i := 41) rfl) rfl (by assumption)
    · refine z_lookup (off := 128) (tgt := 191) hX (D_Bodies_run (i := 36) rfl) (by decide) (by decide) (by decide) ?_
      refine z_aload_n hX (D_Bodies_run (i := 42) rfl) rfl ?_
      refine z_iload hX (D_Bodies_run (i := 43) rfl) rfl ?_
      refine z_iconst (v := 1) hX (D_Bodies_run (i := 44) rfl) (by decide) ?_
      refine z_iload_n hX (D_Bodies_run (i := 45) rfl) rfl ?_
      refine z_iload hX (D_Bodies_run (i := 46) rfl) rfl ?_
      refine z_cV4 hX (D_Bodies_run (i := 47) rfl) mi_Bodies_runFrom l_Bodies_37 rfl rfl (by decide) (by first | exact Nat.one_pos | assumption | omega) (by first | decide | omega) (Nat.le_of_ble_eq_true rfl) (ihF (k := κ) (d := 1) (x := x) (dp := dp + 1) hB.2.2.2.1 (by decide) (by omega) hB1 (by simp only [rnP, rfP, List.length_cons, List.length_append] at hlen ⊢; omega) ?_)
      have hB2 := BodyOK.tr (rfP n κ (nI s) κ 1 x).2 hB1
      refine z_aload_n hX (D_Bodies_run (i := 48) rfl) rfl ?_
      refine z_iload hX (D_Bodies_run (i := 49) rfl) rfl ?_
      refine z_iconst (v := 2) hX (D_Bodies_run (i := 50) rfl) (by decide) ?_
      refine z_iconst (v := 1) hX (D_Bodies_run (i := 51) rfl) (by decide) ?_
      refine z_iload hX (D_Bodies_run (i := 52) rfl) rfl ?_
      refine z_cV4 hX (D_Bodies_run (i := 53) rfl) mi_Bodies_runFrom l_Bodies_37 rfl rfl (by decide) (by first | exact Nat.one_pos | assumption | omega) (by first | decide | omega) (Nat.le_of_ble_eq_true rfl) (ihF (k := κ) (d := 2) (x := 1) (dp := dp + 1) hB.2.2.2.1 (by decide) (by omega) hB2 (by simp only [rnP, rfP, List.length_cons, List.length_append] at hlen ⊢; omega) ?_)
      refine z_isub hX (D_Bodies_run (i := 54) rfl) ?_
      rw [← trM_app]
      exact z_iret hX hR (D_Bodies_run (i := 55) rfl) rfl (by assumption)
    · refine z_lookup (off := 150) (tgt := 213) hX (D_Bodies_run (i := 36) rfl) (by decide) (by decide) (by decide) ?_
      refine z_aload_n hX (D_Bodies_run (i := 56) rfl) rfl ?_
      refine z_iload hX (D_Bodies_run (i := 57) rfl) rfl ?_
      refine z_iconst (v := 0) hX (D_Bodies_run (i := 58) rfl) (by decide) ?_
      refine z_iload_n hX (D_Bodies_run (i := 59) rfl) rfl ?_
      refine z_iload hX (D_Bodies_run (i := 60) rfl) rfl ?_
      refine z_cV4 hX (D_Bodies_run (i := 61) rfl) mi_Bodies_runFrom l_Bodies_37 rfl rfl (by decide) (by first | exact Nat.one_pos | assumption | omega) (by first | decide | omega) (Nat.le_of_ble_eq_true rfl) (ihF (k := κ) (d := 0) (x := x) (dp := dp + 1) hB.2.2.2.1 (by decide) (by omega) hB1 (by simp only [rnP, rfP, List.length_cons, List.length_append] at hlen ⊢; omega) ?_)
      refine z_iconst (v := 2) hX (D_Bodies_run (i := 62) rfl) (by decide) ?_
      refine z_imul hX (D_Bodies_run (i := 63) rfl) ?_
      exact z_iret hX hR (D_Bodies_run (i := 64) rfl) rfl (by assumption)
    · refine z_lookup (off := 163) (tgt := 226) hX (D_Bodies_run (i := 36) rfl) (by decide) (by decide) (by decide) ?_
      refine z_iload_n hX (D_Bodies_run (i := 65) rfl) rfl ?_
      refine z_aload_n hX (D_Bodies_run (i := 66) rfl) rfl ?_
      refine z_geti hX (D_Bodies_run (i := 67) rfl) f_Bodies_34 rfl (by decide) (by first | exact Nat.one_pos | assumption | omega) rfl ?_
      refine z_ixor hX (D_Bodies_run (i := 68) rfl) ?_
      rw [hB1.1]
      exact z_iret hX hR (D_Bodies_run (i := 69) rfl) rfl (by assumption)
    · refine z_lookup (off := 170) (tgt := 233) hX (D_Bodies_run (i := 36) rfl) (by decide) (by decide) (by decide) ?_
      refine z_aload_n hX (D_Bodies_run (i := 70) rfl) rfl ?_
      refine z_iload hX (D_Bodies_run (i := 71) rfl) rfl ?_
      refine z_iconst (v := 0) hX (D_Bodies_run (i := 72) rfl) (by decide) ?_
      refine z_iload_n hX (D_Bodies_run (i := 73) rfl) rfl ?_
      refine z_iload hX (D_Bodies_run (i := 74) rfl) rfl ?_
      refine z_cV4 hX (D_Bodies_run (i := 75) rfl) mi_Bodies_runFrom l_Bodies_37 rfl rfl (by decide) (by first | exact Nat.one_pos | assumption | omega) (by first | decide | omega) (Nat.le_of_ble_eq_true rfl) (ihF (k := 0) (d := 0) (x := x) (dp := dp + 1) (by decide) (by decide) (by omega) hB1 (by simp only [rnP, rfP, List.length_cons, List.length_append] at hlen ⊢; omega) ?_)
      refine z_iconst (v := 3) hX (D_Bodies_run (i := 76) rfl) (by decide) ?_
      refine z_iadd hX (D_Bodies_run (i := 77) rfl) ?_
      exact z_iret hX hR (D_Bodies_run (i := 78) rfl) rfl (by assumption)
    · refine z_lookup (off := 183) (tgt := 246) hX (D_Bodies_run (i := 36) rfl) (by decide) (by decide) (by decide) ?_
      refine z_aload_n hX (D_Bodies_run (i := 79) rfl) rfl ?_
      refine z_iload hX (D_Bodies_run (i := 80) rfl) rfl ?_
      refine z_iconst (v := 1) hX (D_Bodies_run (i := 81) rfl) (by decide) ?_
      refine z_iload_n hX (D_Bodies_run (i := 82) rfl) rfl ?_
      refine z_iload hX (D_Bodies_run (i := 83) rfl) rfl ?_
      refine z_cV4 hX (D_Bodies_run (i := 84) rfl) mi_Bodies_runFrom l_Bodies_37 rfl rfl (by decide) (by first | exact Nat.one_pos | assumption | omega) (by first | decide | omega) (Nat.le_of_ble_eq_true rfl) (ihF (k := 0) (d := 1) (x := x) (dp := dp + 1) (by decide) (by decide) (by omega) hB1 (by simp only [rnP, rfP, List.length_cons, List.length_append] at hlen ⊢; omega) ?_)
      refine z_ineg hX (D_Bodies_run (i := 85) rfl) ?_
      exact z_iret hX hR (D_Bodies_run (i := 86) rfl) rfl (by assumption)
    · refine z_lookup (off := 195) (tgt := 258) hX (D_Bodies_run (i := 36) rfl) (by decide) (by decide) (by decide) ?_
      refine z_aload_n hX (D_Bodies_run (i := 87) rfl) rfl ?_
      refine z_iload hX (D_Bodies_run (i := 88) rfl) rfl ?_
      refine z_iconst (v := 2) hX (D_Bodies_run (i := 89) rfl) (by decide) ?_
      refine z_iload_n hX (D_Bodies_run (i := 90) rfl) rfl ?_
      refine z_iload hX (D_Bodies_run (i := 91) rfl) rfl ?_
      refine z_cV4 hX (D_Bodies_run (i := 92) rfl) mi_Bodies_runFrom l_Bodies_37 rfl rfl (by decide) (by first | exact Nat.one_pos | assumption | omega) (by first | decide | omega) (Nat.le_of_ble_eq_true rfl) (ihF (k := 2) (d := 2) (x := x) (dp := dp + 1) (by decide) (by decide) (by omega) hB1 (by simp only [rnP, rfP, List.length_cons, List.length_append] at hlen ⊢; omega) ?_)
      refine z_iconst (v := 3) hX (D_Bodies_run (i := 93) rfl) (by decide) ?_
      refine z_imul hX (D_Bodies_run (i := 94) rfl) ?_
      exact z_iret hX hR (D_Bodies_run (i := 95) rfl) rfl (by assumption)
    · refine z_lookup (off := 208) (tgt := 271) hX (D_Bodies_run (i := 36) rfl) (by decide) (by decide) (by decide) ?_
      refine z_aload_n hX (D_Bodies_run (i := 96) rfl) rfl ?_
      refine z_iload hX (D_Bodies_run (i := 97) rfl) rfl ?_
      refine z_iconst (v := 1) hX (D_Bodies_run (i := 98) rfl) (by decide) ?_
      refine z_iload_n hX (D_Bodies_run (i := 99) rfl) rfl ?_
      refine z_iconst (v := 1) hX (D_Bodies_run (i := 100) rfl) (by decide) ?_
      refine z_iadd hX (D_Bodies_run (i := 101) rfl) ?_
      refine z_iload hX (D_Bodies_run (i := 102) rfl) rfl ?_
      refine z_cV4 hX (D_Bodies_run (i := 103) rfl) mi_Bodies_runFrom l_Bodies_37 rfl rfl (by decide) (by first | exact Nat.one_pos | assumption | omega) (by first | decide | omega) (Nat.le_of_ble_eq_true rfl) (ihF (k := 2) (d := 1) (x := (x + 1)) (dp := dp + 1) (by decide) (by decide) (by omega) hB1 (by simp only [rnP, rfP, List.length_cons, List.length_append] at hlen ⊢; omega) ?_)
      exact z_iret hX hR (D_Bodies_run (i := 104) rfl) rfl (by assumption)
    · refine z_lookup (off := 221) (tgt := 284) hX (D_Bodies_run (i := 36) rfl) (by decide) (by decide) (by decide) ?_
      refine z_aload_n hX (D_Bodies_run (i := 105) rfl) rfl ?_
      refine z_iload hX (D_Bodies_run (i := 106) rfl) rfl ?_
      refine z_iconst (v := 3) hX (D_Bodies_run (i := 107) rfl) (by decide) ?_
      refine z_iload_n hX (D_Bodies_run (i := 108) rfl) rfl ?_
      refine z_iload hX (D_Bodies_run (i := 109) rfl) rfl ?_
      refine z_cV4 hX (D_Bodies_run (i := 110) rfl) mi_Bodies_runFrom l_Bodies_37 rfl rfl (by decide) (by first | exact Nat.one_pos | assumption | omega) (by first | decide | omega) (Nat.le_of_ble_eq_true rfl) (ihF (k := 1) (d := 3) (x := x) (dp := dp + 1) (by decide) (by decide) (by omega) hB1 (by simp only [rnP, rfP, List.length_cons, List.length_append] at hlen ⊢; omega) ?_)
      refine z_iconst (v := 5) hX (D_Bodies_run (i := 111) rfl) (by decide) ?_
      refine z_ixor hX (D_Bodies_run (i := 112) rfl) ?_
      exact z_iret hX hR (D_Bodies_run (i := 113) rfl) rfl (by assumption)
    · refine z_lookup (off := 234) (tgt := 297) hX (D_Bodies_run (i := 36) rfl) (by decide) (by decide) (by decide) ?_
      refine z_aload_n hX (D_Bodies_run (i := 114) rfl) rfl ?_
      refine z_iload hX (D_Bodies_run (i := 115) rfl) rfl ?_
      refine z_iconst (v := 2) hX (D_Bodies_run (i := 116) rfl) (by decide) ?_
      refine z_iload_n hX (D_Bodies_run (i := 117) rfl) rfl ?_
      refine z_iload hX (D_Bodies_run (i := 118) rfl) rfl ?_
      refine z_cV4 hX (D_Bodies_run (i := 119) rfl) mi_Bodies_runFrom l_Bodies_37 rfl rfl (by decide) (by first | exact Nat.one_pos | assumption | omega) (by first | decide | omega) (Nat.le_of_ble_eq_true rfl) (ihF (k := 4) (d := 2) (x := x) (dp := dp + 1) (by decide) (by decide) (by omega) hB1 (by simp only [rnP, rfP, List.length_cons, List.length_append] at hlen ⊢; omega) ?_)
      have hB2 := BodyOK.tr (rfP n κ (nI s) 4 2 x).2 hB1
      refine z_aload_n hX (D_Bodies_run (i := 120) rfl) rfl ?_
      refine z_iload hX (D_Bodies_run (i := 121) rfl) rfl ?_
      refine z_iconst (v := 0) hX (D_Bodies_run (i := 122) rfl) (by decide) ?_
      refine z_iconst (v := 2) hX (D_Bodies_run (i := 123) rfl) (by decide) ?_
      refine z_iload hX (D_Bodies_run (i := 124) rfl) rfl ?_
      refine z_cV4 hX (D_Bodies_run (i := 125) rfl) mi_Bodies_runFrom l_Bodies_37 rfl rfl (by decide) (by first | exact Nat.one_pos | assumption | omega) (by first | decide | omega) (Nat.le_of_ble_eq_true rfl) (ihF (k := κ) (d := 0) (x := 2) (dp := dp + 1) hB.2.2.2.1 (by decide) (by omega) hB2 (by simp only [rnP, rfP, List.length_cons, List.length_append] at hlen ⊢; omega) ?_)
      refine z_isub hX (D_Bodies_run (i := 126) rfl) ?_
      rw [← trM_app]
      exact z_iret hX hR (D_Bodies_run (i := 127) rfl) rfl (by assumption)
    · refine z_lookup (off := 256) (tgt := 319) hX (D_Bodies_run (i := 36) rfl) (by decide) (by decide) (by decide) ?_
      refine z_aload_n hX (D_Bodies_run (i := 128) rfl) rfl ?_
      refine z_iload hX (D_Bodies_run (i := 129) rfl) rfl ?_
      refine z_iconst (v := 3) hX (D_Bodies_run (i := 130) rfl) (by decide) ?_
      refine z_iload_n hX (D_Bodies_run (i := 131) rfl) rfl ?_
      refine z_iload hX (D_Bodies_run (i := 132) rfl) rfl ?_
      refine z_cV4 hX (D_Bodies_run (i := 133) rfl) mi_Bodies_runFrom l_Bodies_37 rfl rfl (by decide) (by first | exact Nat.one_pos | assumption | omega) (by first | decide | omega) (Nat.le_of_ble_eq_true rfl) (ihF (k := 4) (d := 3) (x := x) (dp := dp + 1) (by decide) (by decide) (by omega) hB1 (by simp only [rnP, rfP, List.length_cons, List.length_append] at hlen ⊢; omega) ?_)
      refine z_iconst (v := 1) hX (D_Bodies_run (i := 134) rfl) (by decide) ?_
      refine z_iadd hX (D_Bodies_run (i := 135) rfl) ?_
      exact z_iret hX hR (D_Bodies_run (i := 136) rfl) rfl (by assumption)
    · refine z_lookup (off := 269) (tgt := 332) hX (D_Bodies_run (i := 36) rfl) (by decide) (by decide) (by decide) ?_
      refine z_aload_n hX (D_Bodies_run (i := 137) rfl) rfl ?_
      refine z_iload hX (D_Bodies_run (i := 138) rfl) rfl ?_
      refine z_iconst (v := 0) hX (D_Bodies_run (i := 139) rfl) (by decide) ?_
      refine z_iload_n hX (D_Bodies_run (i := 140) rfl) rfl ?_
      refine z_iload hX (D_Bodies_run (i := 141) rfl) rfl ?_
      refine z_cV4 hX (D_Bodies_run (i := 142) rfl) mi_Bodies_runFrom l_Bodies_37 rfl rfl (by decide) (by first | exact Nat.one_pos | assumption | omega) (by first | decide | omega) (Nat.le_of_ble_eq_true rfl) (ihF (k := 0) (d := 0) (x := x) (dp := dp + 1) (by decide) (by decide) (by omega) hB1 (by simp only [rnP, rfP, List.length_cons, List.length_append] at hlen ⊢; omega) ?_)
      refine z_iconst (v := 2) hX (D_Bodies_run (i := 143) rfl) (by decide) ?_
      refine z_imul hX (D_Bodies_run (i := 144) rfl) ?_
      exact z_iret hX hR (D_Bodies_run (i := 145) rfl) rfl (by assumption)
    · refine z_lookup (off := 282) (tgt := 345) hX (D_Bodies_run (i := 36) rfl) (by decide) (by decide) (by decide) ?_
      refine z_aload_n hX (D_Bodies_run (i := 146) rfl) rfl ?_
      refine z_iload hX (D_Bodies_run (i := 147) rfl) rfl ?_
      refine z_iconst (v := 1) hX (D_Bodies_run (i := 148) rfl) (by decide) ?_
      refine z_iload_n hX (D_Bodies_run (i := 149) rfl) rfl ?_
      refine z_iload hX (D_Bodies_run (i := 150) rfl) rfl ?_
      refine z_cV4 hX (D_Bodies_run (i := 151) rfl) mi_Bodies_runFrom l_Bodies_37 rfl rfl (by decide) (by first | exact Nat.one_pos | assumption | omega) (by first | decide | omega) (Nat.le_of_ble_eq_true rfl) (ihF (k := 6) (d := 1) (x := x) (dp := dp + 1) (by decide) (by decide) (by omega) hB1 (by simp only [rnP, rfP, List.length_cons, List.length_append] at hlen ⊢; omega) ?_)
      have hB2 := BodyOK.tr (rfP n κ (nI s) 6 1 x).2 hB1
      refine z_aload_n hX (D_Bodies_run (i := 152) rfl) rfl ?_
      refine z_iload hX (D_Bodies_run (i := 153) rfl) rfl ?_
      refine z_iconst (v := 2) hX (D_Bodies_run (i := 154) rfl) (by decide) ?_
      refine z_iconst (v := 2) hX (D_Bodies_run (i := 155) rfl) (by decide) ?_
      refine z_iload hX (D_Bodies_run (i := 156) rfl) rfl ?_
      refine z_cV4 hX (D_Bodies_run (i := 157) rfl) mi_Bodies_runFrom l_Bodies_37 rfl rfl (by decide) (by first | exact Nat.one_pos | assumption | omega) (by first | decide | omega) (Nat.le_of_ble_eq_true rfl) (ihF (k := κ) (d := 2) (x := 2) (dp := dp + 1) hB.2.2.2.1 (by decide) (by omega) hB2 (by simp only [rnP, rfP, List.length_cons, List.length_append] at hlen ⊢; omega) ?_)
      refine z_iadd hX (D_Bodies_run (i := 158) rfl) ?_
      rw [← trM_app]
      exact z_iret hX hR (D_Bodies_run (i := 159) rfl) rfl (by assumption)
    · refine z_lookup (off := 304) (tgt := 367) hX (D_Bodies_run (i := 36) rfl) (by decide) (by decide) (by decide) ?_
      refine z_aload_n hX (D_Bodies_run (i := 160) rfl) rfl ?_
      refine z_iload hX (D_Bodies_run (i := 161) rfl) rfl ?_
      refine z_iconst (v := 0) hX (D_Bodies_run (i := 162) rfl) (by decide) ?_
      refine z_iload_n hX (D_Bodies_run (i := 163) rfl) rfl ?_
      refine z_iload hX (D_Bodies_run (i := 164) rfl) rfl ?_
      refine z_cV4 hX (D_Bodies_run (i := 165) rfl) mi_Bodies_runFrom l_Bodies_37 rfl rfl (by decide) (by first | exact Nat.one_pos | assumption | omega) (by first | decide | omega) (Nat.le_of_ble_eq_true rfl) (ihF (k := 6) (d := 0) (x := x) (dp := dp + 1) (by decide) (by decide) (by omega) hB1 (by simp only [rnP, rfP, List.length_cons, List.length_append] at hlen ⊢; omega) ?_)
      refine z_iconst (v := 1) hX (D_Bodies_run (i := 166) rfl) (by decide) ?_
      refine z_isub hX (D_Bodies_run (i := 167) rfl) ?_
      exact z_iret hX hR (D_Bodies_run (i := 168) rfl) rfl (by assumption)
  refine z_icmp_ge (tgt := 28) hX (D_Bodies_run (i := 8) rfl) (by decide) (fun hc => ?_) (fun hc => ?_)
  · have hr : ¬ r < 24 := fun z => absurd hc (nI_ge (b := 24) z (by decide))
    rw [if_neg hr] at main
    exact main
  · have hr : r < 24 := Nat.not_le.mp (fun z => hc (nI_le (a := 24) z (by omega)))
    rw [if_pos hr] at main
    refine z_aload_n hX (D_Bodies_run (i := 9) rfl) rfl ?_
    refine z_getc hX (D_Bodies_run (i := 10) rfl) f_Bodies_15 rfl (by decide) (by first | exact Nat.one_pos | assumption | omega) rfl ?_
    refine z_aload_n hX (D_Bodies_run (i := 11) rfl) rfl ?_
    refine z_geti hX (D_Bodies_run (i := 12) rfl) f_Bodies_25 rfl (by decide) (by first | exact Nat.one_pos | assumption | omega) rfl ?_
    refine z_iload_n hX (D_Bodies_run (i := 13) rfl) rfl ?_
    rw [hB.2.2.2.2]
    refine z_iast (j := r) hX (D_Bodies_run (i := 14) rfl) rfl (by decide) (by first | exact Nat.one_pos | assumption | omega) (by decide) rfl hr ?_
    exact main
end F3
end
section
/-! bodies: the search upward, the whole act, the rest -/
section F3
variable {l : Launch} {ι : zE}
theorem c_Bodies_runFrom_step (hH : zHas ι pX) (n N : Nat) (hN : N = 20 ∨ True)
    (ihR : ∀ {mem : zM} {Post : Option zV → zM → Prop} {f a : Nat} {x : Int32} {dp s κ r : Nat}, (f, a) ∈ vpL → dp + n = 20 → BodyOK mem s κ r → r + (rnP n κ (nI s) f a x).2.length < 1000000 → Post (some (zI (rnP n κ (nI s) f a x).1)) (trM mem r (rnP n κ (nI s) f a x).2) → zC l ι M_Bodies_run (2 * n) [zP 27 0, zI (nI f), zI (nI a), zI x, zI (nI dp)] mem Post)
    {mem : zM} {Post : Option zV → zM → Prop} {k d : Nat} {x : Int32} {dp s κ r : Nat} (hk : k < 8) (hd : d < 4) (hdp : dp + n = 20) (hB : BodyOK mem s κ r) (hlen : r + (rfP n κ (nI s) k d x).2.length < 1000000) (h : Post (some (zI (rfP n κ (nI s) k d x).1)) (trM mem r (rfP n κ (nI s) k d x).2)) : zC l ι M_Bodies_runFrom (2 * n + 1) [zP 27 0, zI (nI k), zI (nI d), zI x, zI (nI dp)] mem Post := by
  have hvp := fnd_vp k hk d hd
  refine z_enter hH (by decide) (by simp [z_ent, M_Bodies_runFrom]) (fun X hXl hX hR => ?_)
  subst hXl
  refine z_iload_n hX (D_Bodies_runFrom (i := 0) rfl) rfl ?_
  refine z_istore hX (D_Bodies_runFrom (i := 1) rfl) (by decide) rfl ?_
  refine z_iconst (v := 0) hX (D_Bodies_runFrom (i := 2) rfl) (by decide) ?_
  refine z_istore hX (D_Bodies_runFrom (i := 3) rfl) (by decide) rfl ?_
  suffices H : ∀ (m a i : Nat) (v7 : Option zV), a < 8 → depK a ≤ m → i + m ≤ 7 → fnd a d = fnd k d → zW ι M_Bodies_runFrom X 6 [some (zP 27 0), some (zI (nI k)), some (zI (nI d)), some (zI x), some (zI (nI dp)), some (zI (nI a)), some (zI (nI i)), v7] [] mem from H 3 k 0 none hk hvp.2 (by decide) rfl
  intro m
  induction m with
  | zero =>
    intro a i v7 ha hm hi hf
    obtain ⟨e1, e2, e3⟩ := own_ok a ha d hd
    have e4 : ¬ owN a d = 0 := fun z => by
      rcases e3 with e3 | e3
      · exact e3 z
      · have := e3.2.2.2; omega
    have e5 : fnd a d = (owN a d, a) := e2.resolve_left e4
    have e6 : owN a d < 100 := by have := (vp_ok _ (hf ▸ hvp.1)).1; rw [e5] at this; exact this
    refine z_iload hX (D_Bodies_runFrom (i := 4) rfl) rfl ?_
    refine z_bipush (v := 8) hX (D_Bodies_runFrom (i := 5) rfl) (by decide) ?_
    refine z_icmp_ge (tgt := 61) hX (D_Bodies_runFrom (i := 6) rfl) (by decide) (fun hcc => absurd hcc (nI_ge (b := 8) (by omega) (by decide))) (fun _ => ?_)
    refine z_iload hX (D_Bodies_runFrom (i := 7) rfl) rfl ?_
    refine z_if_lt (tgt := 61) hX (D_Bodies_runFrom (i := 8) rfl) (by decide) (fun hcc => absurd hcc (nI_pos (by omega))) (fun _ => ?_)
    refine z_gets (p := 95) hX (D_Bodies_runFrom (i := 9) rfl) (by decide) (by decide) s_Bodies_41 ?_
    refine z_iconst (v := 4) hX (D_Bodies_runFrom (i := 10) rfl) (by decide) ?_
    refine z_iload hX (D_Bodies_runFrom (i := 11) rfl) rfl ?_
    refine z_imul hX (D_Bodies_runFrom (i := 12) rfl) ?_
    refine z_iload_n hX (D_Bodies_runFrom (i := 13) rfl) rfl ?_
    refine z_iadd hX (D_Bodies_runFrom (i := 14) rfl) ?_
    refine z_tald (p := 95) (j := 4 * a + d) hX (D_Bodies_runFrom (i := 15) rfl) (by decide) (by decide) (by decide +kernel) (by first | (simp only [nlit, nI_add, pk_mul]; done) | rfl) (show 4 * a + d < 32 by omega) ?_
    rw [e1]
    refine z_istore hX (D_Bodies_runFrom (i := 16) rfl) (by decide) rfl ?_
    refine z_iload hX (D_Bodies_runFrom (i := 17) rfl) rfl ?_
    refine z_if_eq (tgt := 47) hX (D_Bodies_runFrom (i := 18) rfl) (by decide) (fun hcc => absurd hcc (nI_ne0 (by omega) (by omega))) (fun _ => ?_)
    refine z_aload_n hX (D_Bodies_runFrom (i := 19) rfl) rfl ?_
    refine z_iload hX (D_Bodies_runFrom (i := 20) rfl) rfl ?_
    refine z_iload hX (D_Bodies_runFrom (i := 21) rfl) rfl ?_
    refine z_iload_n hX (D_Bodies_runFrom (i := 22) rfl) rfl ?_
    refine z_iload hX (D_Bodies_runFrom (i := 23) rfl) rfl ?_
    rw [hf] at e5
    simp only [rfP, e5] at hlen h
    refine z_cV4 hX (D_Bodies_runFrom (i := 24) rfl) mi_Bodies_run l_Bodies_44 rfl rfl (by decide) (by first | exact Nat.one_pos | assumption | omega) (by first | decide | omega) (Nat.le_of_ble_eq_true rfl) (ihR (by rw [← e5]; exact hvp.1) hdp hB hlen ?_)
    exact z_iret hX hR (D_Bodies_runFrom (i := 25) rfl) rfl (by assumption)
  | succ m ih =>
    intro a i v7 ha hm hi hf
    obtain ⟨e1, e2, e3⟩ := own_ok a ha d hd
    refine z_iload hX (D_Bodies_runFrom (i := 4) rfl) rfl ?_
    refine z_bipush (v := 8) hX (D_Bodies_runFrom (i := 5) rfl) (by decide) ?_
    refine z_icmp_ge (tgt := 61) hX (D_Bodies_runFrom (i := 6) rfl) (by decide) (fun hcc => absurd hcc (nI_ge (b := 8) (by omega) (by decide))) (fun _ => ?_)
    refine z_iload hX (D_Bodies_runFrom (i := 7) rfl) rfl ?_
    refine z_if_lt (tgt := 61) hX (D_Bodies_runFrom (i := 8) rfl) (by decide) (fun hcc => absurd hcc (nI_pos (by omega))) (fun _ => ?_)
    refine z_gets (p := 95) hX (D_Bodies_runFrom (i := 9) rfl) (by decide) (by decide) s_Bodies_41 ?_
    refine z_iconst (v := 4) hX (D_Bodies_runFrom (i := 10) rfl) (by decide) ?_
    refine z_iload hX (D_Bodies_runFrom (i := 11) rfl) rfl ?_
    refine z_imul hX (D_Bodies_runFrom (i := 12) rfl) ?_
    refine z_iload_n hX (D_Bodies_runFrom (i := 13) rfl) rfl ?_
    refine z_iadd hX (D_Bodies_runFrom (i := 14) rfl) ?_
    refine z_tald (p := 95) (j := 4 * a + d) hX (D_Bodies_runFrom (i := 15) rfl) (by decide) (by decide) (by decide +kernel) (by first | (simp only [nlit, nI_add, pk_mul]; done) | rfl) (show 4 * a + d < 32 by omega) ?_
    rw [e1]
    refine z_istore hX (D_Bodies_runFrom (i := 16) rfl) (by decide) rfl ?_
    refine z_iload hX (D_Bodies_runFrom (i := 17) rfl) rfl ?_
    by_cases e4 : owN a d = 0
    · have e5 := e3.resolve_left (fun z => z e4)
      rw [e4]
      refine z_if_eq (tgt := 47) hX (D_Bodies_runFrom (i := 18) rfl) (by decide) (fun _ => ?_) (fun hcc => absurd (rfl) hcc)
      refine z_gets (p := 94) hX (D_Bodies_runFrom (i := 26) rfl) (by decide) (by decide) s_Bodies_22 ?_
      refine z_iload hX (D_Bodies_runFrom (i := 27) rfl) rfl ?_
      refine z_tald (p := 94) (j := a) hX (D_Bodies_runFrom (i := 28) rfl) (by decide) (by decide) (by decide +kernel) rfl ha ?_
      rw [e5.2.1]
      refine z_istore hX (D_Bodies_runFrom (i := 29) rfl) (by decide) rfl ?_
      first | refine z_inc1 hX (D_Bodies_runFrom (i := 30) rfl) rfl (by decide) rfl ?_ | refine z_iinc hX (D_Bodies_runFrom (i := 30) rfl) rfl rfl (by decide) rfl ?_
      refine z_goto (tgt := 6) hX (D_Bodies_runFrom (i := 31) rfl) (by decide) ?_
      exact ih (abN a) (i + 1) _ e5.2.2.1 (by omega) (by omega) (e5.1 ▸ hf)
    · have e5 : fnd a d = (owN a d, a) := e2.resolve_left e4
      have e6 : owN a d < 100 := by have := (vp_ok _ (hf ▸ hvp.1)).1; rw [e5] at this; exact this
      refine z_if_eq (tgt := 47) hX (D_Bodies_runFrom (i := 18) rfl) (by decide) (fun hcc => absurd hcc (nI_ne0 (by omega) (by omega))) (fun _ => ?_)
      refine z_aload_n hX (D_Bodies_runFrom (i := 19) rfl) rfl ?_
      refine z_iload hX (D_Bodies_runFrom (i := 20) rfl) rfl ?_
      refine z_iload hX (D_Bodies_runFrom (i := 21) rfl) rfl ?_
      refine z_iload_n hX (D_Bodies_runFrom (i := 22) rfl) rfl ?_
      refine z_iload hX (D_Bodies_runFrom (i := 23) rfl) rfl ?_
      rw [hf] at e5
      simp only [rfP, e5] at hlen h
      refine z_cV4 hX (D_Bodies_runFrom (i := 24) rfl) mi_Bodies_run l_Bodies_44 rfl rfl (by decide) (by first | exact Nat.one_pos | assumption | omega) (by first | decide | omega) (Nat.le_of_ble_eq_true rfl) (ihR (by rw [← e5]; exact hvp.1) hdp hB hlen ?_)
      exact z_iret hX hR (D_Bodies_runFrom (i := 25) rfl) rfl (by assumption)
theorem c_Bodies_run_0 (hH : zHas ι pX) {mem : zM} {Post : Option zV → zM → Prop} {f a : Nat} {x : Int32} {dp s κ r : Nat} (hdp : dp + 0 = 20) (h : Post (some (zI (rnP 0 κ (nI s) f a x).1)) (trM mem r (rnP 0 κ (nI s) f a x).2)) : zC l ι M_Bodies_run (2 * 0) [zP 27 0, zI (nI f), zI (nI a), zI x, zI (nI dp)] mem Post := by
  refine z_enter hH (by decide) (by simp [z_ent, M_Bodies_run]) (fun X hXl hX hR => ?_)
  refine z_iload hX (D_Bodies_run (i := 0) rfl) rfl ?_
  refine z_bipush (v := 20) hX (D_Bodies_run (i := 1) rfl) (by decide) ?_
  refine z_icmp_lt (tgt := 9) hX (D_Bodies_run (i := 2) rfl) (by decide) (fun hcc => absurd hcc (nI_nlt (b := 20) (by omega) (by omega))) (fun _ => ?_)
  refine z_iconst (v := 0) hX (D_Bodies_run (i := 3) rfl) (by decide) ?_
  exact z_iret hX hR (D_Bodies_run (i := 4) rfl) rfl h
theorem c_Bodies_both (hH : zHas ι pX) : ∀ n : Nat, (∀ {mem : zM} {Post : Option zV → zM → Prop} {f a : Nat} {x : Int32} {dp s κ r : Nat}, (f, a) ∈ vpL → dp + n = 20 → BodyOK mem s κ r → r + (rnP n κ (nI s) f a x).2.length < 1000000 → Post (some (zI (rnP n κ (nI s) f a x).1)) (trM mem r (rnP n κ (nI s) f a x).2) → zC l ι M_Bodies_run (2 * n) [zP 27 0, zI (nI f), zI (nI a), zI x, zI (nI dp)] mem Post) ∧ (∀ {mem : zM} {Post : Option zV → zM → Prop} {k d : Nat} {x : Int32} {dp s κ r : Nat}, k < 8 → d < 4 → dp + n = 20 → BodyOK mem s κ r → r + (rfP n κ (nI s) k d x).2.length < 1000000 → Post (some (zI (rfP n κ (nI s) k d x).1)) (trM mem r (rfP n κ (nI s) k d x).2) → zC l ι M_Bodies_runFrom (2 * n + 1) [zP 27 0, zI (nI k), zI (nI d), zI x, zI (nI dp)] mem Post) := by
  intro n
  induction n with
  | zero =>
    have R : ∀ {mem : zM} {Post : Option zV → zM → Prop} {f a : Nat} {x : Int32} {dp s κ r : Nat}, (f, a) ∈ vpL → dp + 0 = 20 → BodyOK mem s κ r → r + (rnP 0 κ (nI s) f a x).2.length < 1000000 → Post (some (zI (rnP 0 κ (nI s) f a x).1)) (trM mem r (rnP 0 κ (nI s) f a x).2) → zC l ι M_Bodies_run (2 * 0) [zP 27 0, zI (nI f), zI (nI a), zI x, zI (nI dp)] mem Post := fun _ h2 _ _ h5 => c_Bodies_run_0 hH h2 h5
    exact ⟨R, c_Bodies_runFrom_step hH 0 0 (Or.inr trivial) R⟩
  | succ n ih =>
    have R : ∀ {mem : zM} {Post : Option zV → zM → Prop} {f a : Nat} {x : Int32} {dp s κ r : Nat}, (f, a) ∈ vpL → dp + (n + 1) = 20 → BodyOK mem s κ r → r + (rnP (n + 1) κ (nI s) f a x).2.length < 1000000 → Post (some (zI (rnP (n + 1) κ (nI s) f a x).1)) (trM mem r (rnP (n + 1) κ (nI s) f a x).2) → zC l ι M_Bodies_run (2 * (n + 1)) [zP 27 0, zI (nI f), zI (nI a), zI x, zI (nI dp)] mem Post := fun h1 h2 h3 h4 h5 => c_Bodies_run_step hH n ih.2 h1 h2 h3 h4 h5
    exact ⟨R, c_Bodies_runFrom_step hH (n + 1) 0 (Or.inr trivial) R⟩
variable {mem : zM} {Post : Option zV → zM → Prop} {x y z : Int32}
theorem c_Bodies_perform_no (hH : zHas ι pX) {nb : Nat} (hn : mem.1 27 0 1 = nI nb) (h50 : nb ≤ 50) (hno : (inN x nb && inN y 4) = false) (h : Post (some (zI 0)) (upI mem 27 0 3 0)) : zC l ι M_Bodies_perform 42 [zP 27 0, zI x, zI y, zI z] mem Post := by
  have e : (upI mem 27 0 3 0).1 27 0 1 = nI nb := by simp [upI_get, hn]
  refine z_enter hH (by decide) (by simp [z_ent, M_Bodies_perform]) (fun X hXl hX hR => ?_)
  refine z_aload_n hX (D_Bodies_perform (i := 0) rfl) rfl ?_
  refine z_iconst (v := 0) hX (D_Bodies_perform (i := 1) rfl) (by decide) ?_
  refine z_puti hX (D_Bodies_perform (i := 2) rfl) g_Bodies_25 rfl (by decide) (by first | exact Nat.one_pos | assumption | omega) rfl ?_
  refine z_iload_n hX (D_Bodies_perform (i := 3) rfl) rfl ?_
  refine z_if_lt (tgt := 26) hX (D_Bodies_perform (i := 4) rfl) (by decide) (fun h1 => ?_) (fun h1 => ?_)
  · refine z_iconst (v := 0) hX (D_Bodies_perform (i := 14) rfl) (by decide) ?_
    exact z_iret hX hR (D_Bodies_perform (i := 15) rfl) rfl (by assumption)
  · refine z_iload_n hX (D_Bodies_perform (i := 5) rfl) rfl ?_
    refine z_aload_n hX (D_Bodies_perform (i := 6) rfl) rfl ?_
    refine z_geti hX (D_Bodies_perform (i := 7) rfl) f_Bodies_18 rfl (by decide) (by first | exact Nat.one_pos | assumption | omega) rfl ?_
    rw [e]
    refine z_icmp_ge (tgt := 26) hX (D_Bodies_perform (i := 8) rfl) (by decide) (fun h2 => ?_) (fun h2 => ?_)
    · refine z_iconst (v := 0) hX (D_Bodies_perform (i := 14) rfl) (by decide) ?_
      exact z_iret hX hR (D_Bodies_perform (i := 15) rfl) rfl (by assumption)
    · refine z_iload_n hX (D_Bodies_perform (i := 9) rfl) rfl ?_
      refine z_if_lt (tgt := 26) hX (D_Bodies_perform (i := 10) rfl) (by decide) (fun h3 => ?_) (fun h3 => ?_)
      · refine z_iconst (v := 0) hX (D_Bodies_perform (i := 14) rfl) (by decide) ?_
        exact z_iret hX hR (D_Bodies_perform (i := 15) rfl) rfl (by assumption)
      · refine z_iload_n hX (D_Bodies_perform (i := 11) rfl) rfl ?_
        refine z_iconst (v := 4) hX (D_Bodies_perform (i := 12) rfl) (by decide) ?_
        refine z_icmp_lt (tgt := 28) hX (D_Bodies_perform (i := 13) rfl) (by decide) (fun h4 => ?_) (fun h4 => ?_)
        · skip
          rw [inN_in h1 h2 (by omega), inN_in (n := 4) h3 (fun z => absurd h4 (Int32.not_lt.mpr z)) (by decide)] at hno
          cases hno
        · refine z_iconst (v := 0) hX (D_Bodies_perform (i := 14) rfl) (by decide) ?_
          exact z_iret hX hR (D_Bodies_perform (i := 15) rfl) rfl (by assumption)
theorem c_Bodies_perform (hH : zHas ι pX) {nb b d κ : Nat} (hn : mem.1 27 0 1 = nI nb) (h50 : nb ≤ 50) (hb : b < nb) (hd : d < 4) (hκ : mem.1 28 0 b = nI κ) (h8 : κ < 8) (hlen : (rfP 20 κ (nI b) κ d z).2.length < 1000000) (h : Post (some (zI (rfP 20 κ (nI b) κ d z).1)) (trM (upI (upI mem 27 0 3 0) 27 0 4 (nI b)) 0 (rfP 20 κ (nI b) κ d z).2)) : zC l ι M_Bodies_perform 42 [zP 27 0, zI (nI b), zI (nI d), zI z] mem Post := by
  have e : (upI mem 27 0 3 0).1 27 0 1 = nI nb := by simp [upI_get, hn]
  have e2 : (upI (upI mem 27 0 3 0) 27 0 4 (nI b)).1 27 0 4 = nI b := by simp [upI_get]
  have e3 : (upI (upI mem 27 0 3 0) 27 0 4 (nI b)).1 28 0 b = nI κ := by simp [upI_get, hκ]
  have e4 : (upI (upI mem 27 0 3 0) 27 0 4 (nI b)).1 27 0 3 = nI 0 := by simp [upI_get]; rfl
  refine z_enter hH (by decide) (by simp [z_ent, M_Bodies_perform]) (fun X hXl hX hR => ?_)
  refine z_aload_n hX (D_Bodies_perform (i := 0) rfl) rfl ?_
  refine z_iconst (v := 0) hX (D_Bodies_perform (i := 1) rfl) (by decide) ?_
  refine z_puti hX (D_Bodies_perform (i := 2) rfl) g_Bodies_25 rfl (by decide) (by first | exact Nat.one_pos | assumption | omega) rfl ?_
  refine z_iload_n hX (D_Bodies_perform (i := 3) rfl) rfl ?_
  refine z_if_lt (tgt := 26) hX (D_Bodies_perform (i := 4) rfl) (by decide) (fun hcc => absurd hcc (nI_pos (by omega))) (fun _ => ?_)
  refine z_iload_n hX (D_Bodies_perform (i := 5) rfl) rfl ?_
  refine z_aload_n hX (D_Bodies_perform (i := 6) rfl) rfl ?_
  refine z_geti hX (D_Bodies_perform (i := 7) rfl) f_Bodies_18 rfl (by decide) (by first | exact Nat.one_pos | assumption | omega) rfl ?_
  rw [e]
  refine z_icmp_ge (tgt := 26) hX (D_Bodies_perform (i := 8) rfl) (by decide) (fun hcc => absurd hcc (nI_ge hb (by omega))) (fun _ => ?_)
  refine z_iload_n hX (D_Bodies_perform (i := 9) rfl) rfl ?_
  refine z_if_lt (tgt := 26) hX (D_Bodies_perform (i := 10) rfl) (by decide) (fun hcc => absurd hcc (nI_pos (by omega))) (fun _ => ?_)
  refine z_iload_n hX (D_Bodies_perform (i := 11) rfl) rfl ?_
  refine z_iconst (v := 4) hX (D_Bodies_perform (i := 12) rfl) (by decide) ?_
  refine z_icmp_lt (tgt := 28) hX (D_Bodies_perform (i := 13) rfl) (by decide) (fun _ => ?_) (fun hcc => absurd (nI_lt (b := 4) hd (by decide)) hcc)
  refine z_aload_n hX (D_Bodies_perform (i := 16) rfl) rfl ?_
  refine z_iload_n hX (D_Bodies_perform (i := 17) rfl) rfl ?_
  refine z_puti hX (D_Bodies_perform (i := 18) rfl) g_Bodies_34 rfl (by decide) (by first | exact Nat.one_pos | assumption | omega) rfl ?_
  refine z_aload_n hX (D_Bodies_perform (i := 19) rfl) rfl ?_
  refine z_aload_n hX (D_Bodies_perform (i := 20) rfl) rfl ?_
  refine z_getc hX (D_Bodies_perform (i := 21) rfl) f_Bodies_11 rfl (by decide) (by first | exact Nat.one_pos | assumption | omega) rfl ?_
  refine z_aload_n hX (D_Bodies_perform (i := 22) rfl) rfl ?_
  refine z_geti hX (D_Bodies_perform (i := 23) rfl) f_Bodies_34 rfl (by decide) (by first | exact Nat.one_pos | assumption | omega) rfl ?_
  rw [e2]
  refine z_iald (j := b) hX (D_Bodies_perform (i := 24) rfl) rfl (by decide) (by first | exact Nat.one_pos | assumption | omega) (by decide) rfl (by omega) ?_
  rw [e3]
  refine z_iload_n hX (D_Bodies_perform (i := 25) rfl) rfl ?_
  refine z_iload_n hX (D_Bodies_perform (i := 26) rfl) rfl ?_
  refine z_iconst (v := 0) hX (D_Bodies_perform (i := 27) rfl) (by decide) ?_
  refine z_cV4 hX (D_Bodies_perform (i := 28) rfl) mi_Bodies_runFrom l_Bodies_37 rfl rfl (by decide) (by first | exact Nat.one_pos | assumption | omega) (by first | decide | omega) (Nat.le_of_ble_eq_true rfl) ((c_Bodies_both hH 20).2 (dp := 0) h8 hd rfl ⟨e2, by omega, e3, h8, e4⟩ (by rw [Nat.zero_add]; exact hlen) ?_)
  exact z_iret hX hR (D_Bodies_perform (i := 29) rfl) rfl (by assumption)
theorem c_Bodies_add (hH : zHas ι pX) {nb : Nat} (hn : mem.1 27 0 1 = nI nb) (hb : nb < 50) (h : Post (some (zI (nI nb))) (upI (upI mem 28 0 nb x) 27 0 1 (nI (nb + 1)))) : zC l ι M_Bodies_add 0 [zP 27 0, zI x] mem Post := by
  have e : (upI mem 28 0 nb x).1 27 0 1 = nI nb := by simp [upI_get, hn]
  have e2 : (upI (upI mem 28 0 nb x) 27 0 1 (nI (nb + 1))).1 27 0 1 = nI (nb + 1) := by simp [upI_get]
  refine z_enter hH (by decide) (by simp [z_ent, M_Bodies_add]) (fun X hXl hX hR => ?_)
  refine z_aload_n hX (D_Bodies_add (i := 0) rfl) rfl ?_
  refine z_geti hX (D_Bodies_add (i := 1) rfl) f_Bodies_18 rfl (by decide) (by first | exact Nat.one_pos | assumption | omega) rfl ?_
  refine z_bipush (v := 50) hX (D_Bodies_add (i := 2) rfl) (by decide) ?_
  rw [hn]
  refine z_icmp_lt (tgt := 12) hX (D_Bodies_add (i := 3) rfl) (by decide) (fun _ => ?_) (fun hcc => absurd (nI_lt (b := 50) hb (by decide)) hcc)
  refine z_aload_n hX (D_Bodies_add (i := 6) rfl) rfl ?_
  refine z_getc hX (D_Bodies_add (i := 7) rfl) f_Bodies_11 rfl (by decide) (by first | exact Nat.one_pos | assumption | omega) rfl ?_
  refine z_aload_n hX (D_Bodies_add (i := 8) rfl) rfl ?_
  refine z_geti hX (D_Bodies_add (i := 9) rfl) f_Bodies_18 rfl (by decide) (by first | exact Nat.one_pos | assumption | omega) rfl ?_
  refine z_iload_n hX (D_Bodies_add (i := 10) rfl) rfl ?_
  rw [hn]
  refine z_iast (j := nb) hX (D_Bodies_add (i := 11) rfl) rfl (by decide) (by first | exact Nat.one_pos | assumption | omega) (by decide) rfl hb ?_
  refine z_aload_n hX (D_Bodies_add (i := 12) rfl) rfl ?_
  refine z_dupP hX (D_Bodies_add (i := 13) rfl) ?_
  refine z_geti hX (D_Bodies_add (i := 14) rfl) f_Bodies_18 rfl (by decide) (by first | exact Nat.one_pos | assumption | omega) rfl ?_
  refine z_iconst (v := 1) hX (D_Bodies_add (i := 15) rfl) (by decide) ?_
  rw [e]
  refine z_iadd hX (D_Bodies_add (i := 16) rfl) ?_
  refine z_puti hX (D_Bodies_add (i := 17) rfl) g_Bodies_18 rfl (by decide) (by first | exact Nat.one_pos | assumption | omega) rfl ?_
  refine z_aload_n hX (D_Bodies_add (i := 18) rfl) rfl ?_
  refine z_geti hX (D_Bodies_add (i := 19) rfl) f_Bodies_18 rfl (by decide) (by first | exact Nat.one_pos | assumption | omega) rfl ?_
  refine z_iconst (v := 1) hX (D_Bodies_add (i := 20) rfl) (by decide) ?_
  refine z_isub hX (D_Bodies_add (i := 21) rfl) ?_
  rw [nI_1]
  rw [nlit, e2, pk_sub (by omega), Nat.add_sub_cancel]
  exact z_iret hX hR (D_Bodies_add (i := 22) rfl) rfl (by assumption)
theorem c_Bodies_add_full (hH : zHas ι pX) (hn : mem.1 27 0 1 = nI 50) (h : Post (some (zI (-3))) mem) : zC l ι M_Bodies_add 0 [zP 27 0, zI x] mem Post := by
  refine z_enter hH (by decide) (by simp [z_ent, M_Bodies_add]) (fun X hXl hX hR => ?_)
  refine z_aload_n hX (D_Bodies_add (i := 0) rfl) rfl ?_
  refine z_geti hX (D_Bodies_add (i := 1) rfl) f_Bodies_18 rfl (by decide) (by first | exact Nat.one_pos | assumption | omega) rfl ?_
  refine z_bipush (v := 50) hX (D_Bodies_add (i := 2) rfl) (by decide) ?_
  rw [hn]
  refine z_icmp_lt (tgt := 12) hX (D_Bodies_add (i := 3) rfl) (by decide) (fun hcc => absurd hcc (by decide)) (fun _ => ?_)
  refine z_bipush (v := -3) hX (D_Bodies_add (i := 4) rfl) (by decide) ?_
  exact z_iret hX hR (D_Bodies_add (i := 5) rfl) rfl (by assumption)
theorem c_Bodies_kindOf (hH : zHas ι pX) {nb b : Nat} (hn : mem.1 27 0 1 = nI nb) (h50 : nb ≤ 50) (hb : b < nb) (h : Post (some (zI (mem.1 28 0 b))) mem) : zC l ι M_Bodies_kindOf 0 [zP 27 0, zI (nI b)] mem Post := by
  refine z_enter hH (by decide) (by simp [z_ent, M_Bodies_kindOf]) (fun X hXl hX hR => ?_)
  refine z_iload_n hX (D_Bodies_kindOf (i := 0) rfl) rfl ?_
  refine z_if_lt (tgt := 21) hX (D_Bodies_kindOf (i := 1) rfl) (by decide) (fun hcc => absurd hcc (nI_pos (by omega))) (fun _ => ?_)
  refine z_iload_n hX (D_Bodies_kindOf (i := 2) rfl) rfl ?_
  refine z_aload_n hX (D_Bodies_kindOf (i := 3) rfl) rfl ?_
  refine z_geti hX (D_Bodies_kindOf (i := 4) rfl) f_Bodies_18 rfl (by decide) (by first | exact Nat.one_pos | assumption | omega) rfl ?_
  rw [hn]
  refine z_icmp_ge (tgt := 21) hX (D_Bodies_kindOf (i := 5) rfl) (by decide) (fun hcc => absurd hcc (nI_ge hb (by omega))) (fun _ => ?_)
  refine z_aload_n hX (D_Bodies_kindOf (i := 6) rfl) rfl ?_
  refine z_getc hX (D_Bodies_kindOf (i := 7) rfl) f_Bodies_11 rfl (by decide) (by first | exact Nat.one_pos | assumption | omega) rfl ?_
  refine z_iload_n hX (D_Bodies_kindOf (i := 8) rfl) rfl ?_
  refine z_iald (j := b) hX (D_Bodies_kindOf (i := 9) rfl) rfl (by decide) (by first | exact Nat.one_pos | assumption | omega) (by decide) rfl (by omega) ?_
  refine z_goto (tgt := 22) hX (D_Bodies_kindOf (i := 10) rfl) (by decide) ?_
  exact z_iret hX hR (D_Bodies_kindOf (i := 12) rfl) rfl (by assumption)
def unN : Nat → Nat → Nat → Bool
  | 0, _, _ => false
  | n + 1, a, t => if a = t then true else if a = 0 then false else unN n (abN a) t
theorem ab_ok : ∀ a, a < 8 → (a = 0 ∧ zstf 94 a = -1) ∨ (a ≠ 0 ∧ zstf 94 a = nI (abN a) ∧ abN a < 8) := by decide +kernel
theorem c_Bodies_isUnder {a t : Nat} (ha : a < 8) (ht : t < 8) (h : Post (some (zI (bI (unN 8 a t)))) mem) : zC l ι M_Bodies_isUnder 0 [zI (nI a), zI (nI t)] mem Post := by
  have hH : zHas ι [] := zHas.nil
  refine z_enter hH (by decide) (by simp [z_ent, M_Bodies_isUnder]) (fun X hXl hX hR => ?_)
  refine z_iload_n hX (D_Bodies_isUnder (i := 0) rfl) rfl ?_
  refine z_istore_n hX (D_Bodies_isUnder (i := 1) rfl) (by decide) rfl ?_
  refine z_iconst (v := 0) hX (D_Bodies_isUnder (i := 2) rfl) (by decide) ?_
  refine z_istore_n hX (D_Bodies_isUnder (i := 3) rfl) (by decide) rfl ?_
  suffices H : ∀ (n b i : Nat), b < 8 → i + n = 8 → unN n b t = unN 8 a t → zW ι M_Bodies_isUnder X 4 [some (zI (nI a)), some (zI (nI t)), some (zI (nI b)), some (zI (nI i))] [] mem from H 8 a 0 ha rfl rfl
  intro n
  induction n with
  | zero =>
    intro b i hb hi e
    obtain rfl : i = 8 := by omega
    refine z_iload_n hX (D_Bodies_isUnder (i := 4) rfl) rfl ?_
    refine z_bipush (v := 8) hX (D_Bodies_isUnder (i := 5) rfl) (by decide) ?_
    refine z_icmp_ge (tgt := 33) hX (D_Bodies_isUnder (i := 6) rfl) (by decide) (fun _ => ?_) (fun hcc => absurd (Int32.le_refl _) hcc)
    refine z_iconst (v := 0) hX (D_Bodies_isUnder (i := 20) rfl) (by decide) ?_
    rw [← e] at h
    exact z_zret hX hR (D_Bodies_isUnder (i := 21) rfl) rfl (by first | exact Or.inl rfl | exact Or.inr rfl | assumption) (by assumption)
  | succ n ih =>
    intro b i hb hi e
    refine z_iload_n hX (D_Bodies_isUnder (i := 4) rfl) rfl ?_
    refine z_bipush (v := 8) hX (D_Bodies_isUnder (i := 5) rfl) (by decide) ?_
    refine z_icmp_ge (tgt := 33) hX (D_Bodies_isUnder (i := 6) rfl) (by decide) (fun hcc => absurd hcc (nI_ge (b := 8) (by omega) (by decide))) (fun _ => ?_)
    refine z_iload_n hX (D_Bodies_isUnder (i := 7) rfl) rfl ?_
    refine z_if_lt (tgt := 33) hX (D_Bodies_isUnder (i := 8) rfl) (by decide) (fun hcc => absurd hcc (nI_pos (by omega))) (fun _ => ?_)
    refine z_iload_n hX (D_Bodies_isUnder (i := 9) rfl) rfl ?_
    refine z_iload_n hX (D_Bodies_isUnder (i := 10) rfl) rfl ?_
    refine z_icmp_ne (tgt := 21) hX (D_Bodies_isUnder (i := 11) rfl) (by decide) (fun hc => ?_) (fun hc => ?_)
    · skip
      have hc' : ¬ b = t := fun z => hc (by rw [z])
      refine z_gets (p := 94) hX (D_Bodies_isUnder (i := 14) rfl) (by decide) (by decide) s_Bodies_22 ?_
      refine z_iload_n hX (D_Bodies_isUnder (i := 15) rfl) rfl ?_
      refine z_tald (p := 94) (j := b) hX (D_Bodies_isUnder (i := 16) rfl) (by decide) (by decide) (by decide +kernel) rfl (show b < 8 from hb) ?_
      refine z_istore_n hX (D_Bodies_isUnder (i := 17) rfl) (by decide) rfl ?_
      first | refine z_inc1 hX (D_Bodies_isUnder (i := 18) rfl) rfl (by decide) rfl ?_ | refine z_iinc hX (D_Bodies_isUnder (i := 18) rfl) rfl rfl (by decide) rfl ?_
      rcases ab_ok b hb with ⟨b0, e1⟩ | ⟨b0, e1, e2⟩
      · rw [e1]
        refine z_goto (tgt := 4) hX (D_Bodies_isUnder (i := 19) rfl) (by decide) ?_
        rw [unN, if_neg hc', if_pos b0] at e
        rw [← e] at h
        refine z_iload_n hX (D_Bodies_isUnder (i := 4) rfl) rfl ?_
        refine z_bipush (v := 8) hX (D_Bodies_isUnder (i := 5) rfl) (by decide) ?_
        refine z_icmp_ge (tgt := 33) hX (D_Bodies_isUnder (i := 6) rfl) (by decide) (fun h8 => ?_) (fun h8 => ?_)
        · refine z_iconst (v := 0) hX (D_Bodies_isUnder (i := 20) rfl) (by decide) ?_
          exact z_zret hX hR (D_Bodies_isUnder (i := 21) rfl) rfl (by first | exact Or.inl rfl | exact Or.inr rfl | assumption) (by assumption)
        · refine z_iload_n hX (D_Bodies_isUnder (i := 7) rfl) rfl ?_
          refine z_if_lt (tgt := 33) hX (D_Bodies_isUnder (i := 8) rfl) (by decide) (fun _ => ?_) (fun hcc => absurd (by decide) hcc)
          refine z_iconst (v := 0) hX (D_Bodies_isUnder (i := 20) rfl) (by decide) ?_
          exact z_zret hX hR (D_Bodies_isUnder (i := 21) rfl) rfl (by first | exact Or.inl rfl | exact Or.inr rfl | assumption) (by assumption)
      · rw [e1]
        refine z_goto (tgt := 4) hX (D_Bodies_isUnder (i := 19) rfl) (by decide) ?_
        rw [unN, if_neg hc', if_neg b0] at e
        exact ih (abN b) (i + 1) e2 (by omega) e
    · refine z_iconst (v := 1) hX (D_Bodies_isUnder (i := 12) rfl) (by decide) ?_
      have hc' : b = t := (nI_eq (by omega) (by omega)).mp hc
      rw [unN, if_pos hc'] at e
      rw [← e] at h
      exact z_zret hX hR (D_Bodies_isUnder (i := 13) rfl) rfl (by first | exact Or.inl rfl | exact Or.inr rfl | assumption) (by assumption)
theorem c_Bodies_traced (hH : zHas ι pX) {r : Nat} (hr : mem.1 27 0 3 = nI r) (h3 : r < 2 ^ 31) (h : Post (some (zI (nI (if 24 < r then 24 else r)))) mem) : zC l ι M_Bodies_traced 1 [zP 27 0] mem Post := by
  refine z_enter hH (by decide) (by simp [z_ent, M_Bodies_traced]) (fun X hXl hX hR => ?_)
  refine z_aload_n hX (D_Bodies_traced (i := 0) rfl) rfl ?_
  refine z_geti hX (D_Bodies_traced (i := 1) rfl) f_Bodies_25 rfl (by decide) (by first | exact Nat.one_pos | assumption | omega) rfl ?_
  refine z_bipush (v := 24) hX (D_Bodies_traced (i := 2) rfl) (by decide) ?_
  refine z_min hX (D_Bodies_traced (i := 3) rfl) l_Bodies_28 (by first | decide | omega) (Nat.le_of_ble_eq_true rfl) ?_
  rw [hr]
  have e : (if (24 : Int32) < nI r then 24 else nI r) = nI (if 24 < r then 24 else r) := nI_iflt (a := 24) (x := 24) (by decide) h3
  rw [e]
  exact z_iret hX hR (D_Bodies_traced (i := 4) rfl) rfl (by assumption)
end F3
end
section
/-! changes kept -/
def fgM (mem : zM) (i : Nat) : zM := (fun a b c => if (a = 24 ∨ a = 25 ∨ a = 26) ∧ b = 0 ∧ c + 1 < i then mem.1 a b (c + 1) else mem.1 a b c, mem.2)
theorem fgM_1 (mem : zM) : fgM mem 1 = mem := by
  refine Prod.ext ?_ rfl
  funext a b c
  show (if (a = 24 ∨ a = 25 ∨ a = 26) ∧ b = 0 ∧ c + 1 < 1 then mem.1 a b (c + 1) else mem.1 a b c) = mem.1 a b c
  rw [if_neg (by omega)]
theorem fgM_s (mem : zM) (i : Nat) : upI (upI (upI (fgM mem (i + 1)) 24 0 i (mem.1 24 0 (i + 1))) 25 0 i (mem.1 25 0 (i + 1))) 26 0 i (mem.1 26 0 (i + 1)) = fgM mem (i + 2) := by
  refine Prod.ext ?_ rfl
  funext a b c
  simp only [upI_get, fgM]
  by_cases hb : b = 0
  · subst hb
    by_cases hc : c = i
    · subst hc
      by_cases h1 : a = 26
      · subst h1; simp
      · by_cases h2 : a = 25
        · subst h2; simp
        · by_cases h3 : a = 24
          · subst h3; simp
          · simp [h1, h2, h3]
    · have e : (c + 1 < i + 2) = (c + 1 < i + 1) := by apply propext; omega
      simp only [hc, and_false, if_false, e]
  · simp [hb]
theorem fgM_get (mem : zM) (i p c : Nat) (hc : ¬ c + 1 < i) : (fgM mem i).1 p 0 c = mem.1 p 0 c := by
  show (if (p = 24 ∨ p = 25 ∨ p = 26) ∧ 0 = 0 ∧ c + 1 < i then mem.1 p 0 (c + 1) else mem.1 p 0 c) = mem.1 p 0 c
  rw [if_neg (fun z => hc z.2.2)]
section F4
variable {l : Launch} {ι : zE} {mem : zM} {Post : Option zV → zM → Prop} {x y z : Int32}
theorem c_Past_forgetOldest (hH : zHas ι pX) (h : Post none (upI (fgM mem 40) 23 0 3 (nI 39))) : zC l ι M_Past_forgetOldest 0 [zP 23 0] mem Post := by
  refine z_enter hH (by decide) (by simp [z_ent, M_Past_forgetOldest]) (fun X hXl hX hR => ?_)
  refine z_iconst (v := 1) hX (D_Past_forgetOldest (i := 0) rfl) (by decide) ?_
  refine z_istore_n hX (D_Past_forgetOldest (i := 1) rfl) (by decide) rfl ?_
  suffices H : ∀ (d i : Nat), i + 1 + d = 40 → zW ι M_Past_forgetOldest X 2 [some (zP 23 0), some (zI (nI (i + 1)))] [] (fgM mem (i + 1)) by
    have := H 39 0 rfl
    rw [fgM_1] at this
    exact this
  intro d
  induction d with
  | zero =>
    intro i hi
    obtain rfl : i = 39 := by omega
    refine z_iload_n hX (D_Past_forgetOldest (i := 2) rfl) rfl ?_
    refine z_bipush (v := 40) hX (D_Past_forgetOldest (i := 3) rfl) (by decide) ?_
    refine z_icmp_ge (tgt := 56) hX (D_Past_forgetOldest (i := 4) rfl) (by decide) (fun _ => ?_) (fun hcc => absurd (by decide) hcc)
    refine z_aload_n hX (D_Past_forgetOldest (i := 37) rfl) rfl ?_
    refine z_bipush (v := 39) hX (D_Past_forgetOldest (i := 38) rfl) (by decide) ?_
    refine z_puti hX (D_Past_forgetOldest (i := 39) rfl) g_Past_19 rfl (by decide) (by first | exact Nat.one_pos | assumption | omega) rfl ?_
    exact z_ret hX hR (D_Past_forgetOldest (i := 40) rfl) rfl (by assumption)
  | succ d ih =>
    intro i hi
    have e1 : nI (i + 1) - 1 = nI i := nI_pred i
    refine z_iload_n hX (D_Past_forgetOldest (i := 2) rfl) rfl ?_
    refine z_bipush (v := 40) hX (D_Past_forgetOldest (i := 3) rfl) (by decide) ?_
    refine z_icmp_ge (tgt := 56) hX (D_Past_forgetOldest (i := 4) rfl) (by decide) (fun hcc => absurd hcc (nI_ge (b := 40) (by omega) (by decide))) (fun _ => ?_)
    refine z_aload_n hX (D_Past_forgetOldest (i := 5) rfl) rfl ?_
    refine z_getc hX (D_Past_forgetOldest (i := 6) rfl) f_Past_9 rfl (by decide) (by first | exact Nat.one_pos | assumption | omega) rfl ?_
    refine z_iload_n hX (D_Past_forgetOldest (i := 7) rfl) rfl ?_
    refine z_iconst (v := 1) hX (D_Past_forgetOldest (i := 8) rfl) (by decide) ?_
    refine z_isub hX (D_Past_forgetOldest (i := 9) rfl) ?_
    refine z_aload_n hX (D_Past_forgetOldest (i := 10) rfl) rfl ?_
    refine z_getc hX (D_Past_forgetOldest (i := 11) rfl) f_Past_9 rfl (by decide) (by first | exact Nat.one_pos | assumption | omega) rfl ?_
    refine z_iload_n hX (D_Past_forgetOldest (i := 12) rfl) rfl ?_
    rw [e1]
    refine z_iald (j := i + 1) hX (D_Past_forgetOldest (i := 13) rfl) rfl (by decide) (by first | exact Nat.one_pos | assumption | omega) (by decide) rfl (by omega) ?_
    rw [fgM_get mem (i + 1) 24 (i + 1) (by omega)]
    refine z_iast (j := i) hX (D_Past_forgetOldest (i := 14) rfl) rfl (by decide) (by first | exact Nat.one_pos | assumption | omega) (by decide) rfl (by omega) ?_
    refine z_aload_n hX (D_Past_forgetOldest (i := 15) rfl) rfl ?_
    refine z_getc hX (D_Past_forgetOldest (i := 16) rfl) f_Past_13 rfl (by decide) (by first | exact Nat.one_pos | assumption | omega) rfl ?_
    refine z_iload_n hX (D_Past_forgetOldest (i := 17) rfl) rfl ?_
    refine z_iconst (v := 1) hX (D_Past_forgetOldest (i := 18) rfl) (by decide) ?_
    refine z_isub hX (D_Past_forgetOldest (i := 19) rfl) ?_
    refine z_aload_n hX (D_Past_forgetOldest (i := 20) rfl) rfl ?_
    refine z_getc hX (D_Past_forgetOldest (i := 21) rfl) f_Past_13 rfl (by decide) (by first | exact Nat.one_pos | assumption | omega) rfl ?_
    refine z_iload_n hX (D_Past_forgetOldest (i := 22) rfl) rfl ?_
    rw [e1]
    refine z_iald (j := i + 1) hX (D_Past_forgetOldest (i := 23) rfl) rfl (by decide) (by first | exact Nat.one_pos | assumption | omega) (by decide) rfl (by omega) ?_
    rw [show (upI (fgM mem (i + 1)) 24 0 i (mem.1 24 0 (i + 1))).1 25 0 (i + 1) = mem.1 25 0 (i + 1) by rw [upI_get, if_neg (by omega)]; exact fgM_get mem (i + 1) 25 (i + 1) (by omega)]
    refine z_iast (j := i) hX (D_Past_forgetOldest (i := 24) rfl) rfl (by decide) (by first | exact Nat.one_pos | assumption | omega) (by decide) rfl (by omega) ?_
    refine z_aload_n hX (D_Past_forgetOldest (i := 25) rfl) rfl ?_
    refine z_getc hX (D_Past_forgetOldest (i := 26) rfl) f_Past_16 rfl (by decide) (by first | exact Nat.one_pos | assumption | omega) rfl ?_
    refine z_iload_n hX (D_Past_forgetOldest (i := 27) rfl) rfl ?_
    refine z_iconst (v := 1) hX (D_Past_forgetOldest (i := 28) rfl) (by decide) ?_
    refine z_isub hX (D_Past_forgetOldest (i := 29) rfl) ?_
    refine z_aload_n hX (D_Past_forgetOldest (i := 30) rfl) rfl ?_
    refine z_getc hX (D_Past_forgetOldest (i := 31) rfl) f_Past_16 rfl (by decide) (by first | exact Nat.one_pos | assumption | omega) rfl ?_
    refine z_iload_n hX (D_Past_forgetOldest (i := 32) rfl) rfl ?_
    rw [e1]
    refine z_iald (j := i + 1) hX (D_Past_forgetOldest (i := 33) rfl) rfl (by decide) (by first | exact Nat.one_pos | assumption | omega) (by decide) rfl (by omega) ?_
    rw [show (upI (upI (fgM mem (i + 1)) 24 0 i (mem.1 24 0 (i + 1))) 25 0 i (mem.1 25 0 (i + 1))).1 26 0 (i + 1) = mem.1 26 0 (i + 1) by rw [upI_get, if_neg (by omega), upI_get, if_neg (by omega)]; exact fgM_get mem (i + 1) 26 (i + 1) (by omega)]
    refine z_iast (j := i) hX (D_Past_forgetOldest (i := 34) rfl) rfl (by decide) (by first | exact Nat.one_pos | assumption | omega) (by decide) rfl (by omega) ?_
    rw [fgM_s]
    first | refine z_inc1 hX (D_Past_forgetOldest (i := 35) rfl) rfl (by decide) rfl ?_ | refine z_iinc hX (D_Past_forgetOldest (i := 35) rfl) rfl rfl (by decide) rfl ?_
    refine z_goto (tgt := 2) hX (D_Past_forgetOldest (i := 36) rfl) (by decide) ?_
    exact ih (i + 1) (by omega)
def adM (m1 : zM) (d : Nat) (f w i : Int32) : zM := upI (upI (upI (upI (upI m1 24 0 d f) 25 0 d w) 26 0 d i) 23 0 3 (nI (d + 1))) 23 0 4 (nI (d + 1))
theorem c_Past_add_at (hH : zHas ι pX) {X : zX} (hX : zG ι M_Past_add X 1 pX) (hR : zRt ι X Post) {m1 : zM} {d : Nat} (hd : d < 40) (h1 : m1.1 23 0 3 = nI d) (h : Post none (adM m1 d x y z)) : zW ι M_Past_add X 13 [some (zP 23 0), some (zI x), some (zI y), some (zI z)] [] m1 := by
  refine z_aload_n hX (D_Past_add (i := 6) rfl) rfl ?_
  refine z_getc hX (D_Past_add (i := 7) rfl) f_Past_9 rfl (by decide) (by first | exact Nat.one_pos | assumption | omega) rfl ?_
  refine z_aload_n hX (D_Past_add (i := 8) rfl) rfl ?_
  refine z_geti hX (D_Past_add (i := 9) rfl) f_Past_19 rfl (by decide) (by first | exact Nat.one_pos | assumption | omega) rfl ?_
  rw [h1]
  refine z_iload_n hX (D_Past_add (i := 10) rfl) rfl ?_
  refine z_iast (j := d) hX (D_Past_add (i := 11) rfl) rfl (by decide) (by first | exact Nat.one_pos | assumption | omega) (by decide) rfl hd ?_
  refine z_aload_n hX (D_Past_add (i := 12) rfl) rfl ?_
  refine z_getc hX (D_Past_add (i := 13) rfl) f_Past_13 rfl (by decide) (by first | exact Nat.one_pos | assumption | omega) rfl ?_
  refine z_aload_n hX (D_Past_add (i := 14) rfl) rfl ?_
  refine z_geti hX (D_Past_add (i := 15) rfl) f_Past_19 rfl (by decide) (by first | exact Nat.one_pos | assumption | omega) rfl ?_
  rw [show (upI m1 24 0 d x).1 23 0 3 = nI d by simp [upI_get, h1]]
  refine z_iload_n hX (D_Past_add (i := 16) rfl) rfl ?_
  refine z_iast (j := d) hX (D_Past_add (i := 17) rfl) rfl (by decide) (by first | exact Nat.one_pos | assumption | omega) (by decide) rfl hd ?_
  refine z_aload_n hX (D_Past_add (i := 18) rfl) rfl ?_
  refine z_getc hX (D_Past_add (i := 19) rfl) f_Past_16 rfl (by decide) (by first | exact Nat.one_pos | assumption | omega) rfl ?_
  refine z_aload_n hX (D_Past_add (i := 20) rfl) rfl ?_
  refine z_geti hX (D_Past_add (i := 21) rfl) f_Past_19 rfl (by decide) (by first | exact Nat.one_pos | assumption | omega) rfl ?_
  rw [show (upI (upI m1 24 0 d x) 25 0 d y).1 23 0 3 = nI d by simp [upI_get, h1]]
  refine z_iload_n hX (D_Past_add (i := 22) rfl) rfl ?_
  refine z_iast (j := d) hX (D_Past_add (i := 23) rfl) rfl (by decide) (by first | exact Nat.one_pos | assumption | omega) (by decide) rfl hd ?_
  refine z_aload_n hX (D_Past_add (i := 24) rfl) rfl ?_
  refine z_dupP hX (D_Past_add (i := 25) rfl) ?_
  refine z_geti hX (D_Past_add (i := 26) rfl) f_Past_19 rfl (by decide) (by first | exact Nat.one_pos | assumption | omega) rfl ?_
  rw [show (upI (upI (upI m1 24 0 d x) 25 0 d y) 26 0 d z).1 23 0 3 = nI d by simp [upI_get, h1]]
  refine z_iconst (v := 1) hX (D_Past_add (i := 27) rfl) (by decide) ?_
  refine z_iadd hX (D_Past_add (i := 28) rfl) ?_
  rw [nI_1]
  refine z_puti hX (D_Past_add (i := 29) rfl) g_Past_19 rfl (by decide) (by first | exact Nat.one_pos | assumption | omega) rfl ?_
  refine z_aload_n hX (D_Past_add (i := 30) rfl) rfl ?_
  refine z_aload_n hX (D_Past_add (i := 31) rfl) rfl ?_
  refine z_geti hX (D_Past_add (i := 32) rfl) f_Past_19 rfl (by decide) (by first | exact Nat.one_pos | assumption | omega) rfl ?_
  rw [show (upI (upI (upI (upI m1 24 0 d x) 25 0 d y) 26 0 d z) 23 0 3 (nI (d + 1))).1 23 0 3 = nI (d + 1) by simp [upI_get]]
  refine z_puti hX (D_Past_add (i := 33) rfl) g_Past_26 rfl (by decide) (by first | exact Nat.one_pos | assumption | omega) rfl ?_
  exact z_ret hX hR (D_Past_add (i := 34) rfl) rfl h
theorem c_Past_add (hH : zHas ι pX) {d : Nat} (hd : d < 40) (h1 : mem.1 23 0 3 = nI d) (h : Post none (adM mem d x y z)) : zC l ι M_Past_add 1 [zP 23 0, zI x, zI y, zI z] mem Post := by
  refine z_enter hH (by decide) (by simp [z_ent, M_Past_add]) (fun X hXl hX hR => ?_)
  refine z_aload_n hX (D_Past_add (i := 0) rfl) rfl ?_
  refine z_geti hX (D_Past_add (i := 1) rfl) f_Past_19 rfl (by decide) (by first | exact Nat.one_pos | assumption | omega) rfl ?_
  refine z_bipush (v := 40) hX (D_Past_add (i := 2) rfl) (by decide) ?_
  rw [h1]
  refine z_icmp_lt (tgt := 13) hX (D_Past_add (i := 3) rfl) (by decide) (fun _ => ?_) (fun hcc => absurd (nI_lt (b := 40) hd (by decide)) hcc)
  exact c_Past_add_at hH hX hR hd h1 h
theorem c_Past_add_full (hH : zHas ι pX) (h1 : mem.1 23 0 3 = nI 40) (h : Post none (adM (upI (fgM mem 40) 23 0 3 (nI 39)) 39 x y z)) : zC l ι M_Past_add 1 [zP 23 0, zI x, zI y, zI z] mem Post := by
  refine z_enter hH (by decide) (by simp [z_ent, M_Past_add]) (fun X hXl hX hR => ?_)
  refine z_aload_n hX (D_Past_add (i := 0) rfl) rfl ?_
  refine z_geti hX (D_Past_add (i := 1) rfl) f_Past_19 rfl (by decide) (by first | exact Nat.one_pos | assumption | omega) rfl ?_
  refine z_bipush (v := 40) hX (D_Past_add (i := 2) rfl) (by decide) ?_
  rw [h1]
  refine z_icmp_lt (tgt := 13) hX (D_Past_add (i := 3) rfl) (by decide) (fun hcc => absurd hcc (by decide)) (fun _ => ?_)
  refine z_aload_n hX (D_Past_add (i := 4) rfl) rfl ?_
  refine z_cV0 hX (D_Past_add (i := 5) rfl) mi_Past_forgetOldest l_Past_23 rfl rfl (by decide) (by first | exact Nat.one_pos | assumption | omega) (by first | decide | omega) (Nat.le_of_ble_eq_true rfl) (c_Past_forgetOldest hH ?_)
  exact c_Past_add_at hH hX hR (by decide) (by simp [upI_get]) h
end F4
end
section
/-! the class's simple calls -/
theorem leT {x : Int32} {n : Nat} (hn : n + 1 < 2 ^ 31) : x ≤ nI n ↔ ¬ nI (n + 1) ≤ x := by
  rw [Int32.le_iff_toInt_le, Int32.le_iff_toInt_le, nI_toInt (by omega), nI_toInt hn]
  omega
theorem ltT {x : Int32} {n : Nat} : x < nI n ↔ ¬ nI n ≤ x := Int32.not_le.symm
def ShOK (mem : zM) : Prop := ∀ k, k < 6 → ∃ L s : Nat, L ≤ 60 ∧ s < 5 ∧ mem.1 31 k 3 = nI L ∧ mem.1 31 k 2 = nI s
section F5
variable {l : Launch} {ι : zE} {mem : zM} {Post : Option zV → zM → Prop} {x y z : Int32} {sz : Nat}
theorem c_Four_turn (hH : zHas ι pX) (hs : mem.1 0 0 1 = nI sz) (h8 : sz ≤ 8) (hno : (inN x sz && inN y 24) = false → Post (some (zI (-1))) mem) (hok : ∀ k t, k < sz → t < 24 → x = nI k → y = nI t → Post (some (zI (mem.1 2 k 1))) (upI mem 2 k 1 (nI t))) : zC l ι M_Four_turn 1 [zP 0 0, zI x, zI y] mem Post := by
  refine z_enter hH (by decide) (by simp [z_ent, M_Four_turn]) (fun X hXl hX hR => ?_)
  refine z_aload_n hX (D_Four_turn (i := 0) rfl) rfl ?_
  refine z_iload_n hX (D_Four_turn (i := 1) rfl) rfl ?_
  refine z_cV1 hX (D_Four_turn (i := 2) rfl) mi_Four_isCube l_Four_110 rfl rfl (by decide) (by first | exact Nat.one_pos | assumption | omega) (by first | decide | omega) (Nat.le_of_ble_eq_true rfl) (c_Four_isCube hH hs h8 ?_)
  refine z_if_eq (tgt := 15) hX (D_Four_turn (i := 3) rfl) (by decide) (fun h1 => ?_) (fun h1 => ?_)
  · refine z_iconst (v := -1) hX (D_Four_turn (i := 7) rfl) (by decide) ?_
    exact z_iret hX hR (D_Four_turn (i := 8) rfl) rfl (hno (by rw [bI_0.mp h1]; rfl))
  · refine z_iload_n hX (D_Four_turn (i := 4) rfl) rfl ?_
    refine z_cS1 hX (D_Four_turn (i := 5) rfl) ms_Four_isTurning l_Four_137 (by first | decide | omega) (Nat.le_of_ble_eq_true rfl) (c_Four_isTurning ?_)
    refine z_if_ne (tgt := 17) hX (D_Four_turn (i := 6) rfl) (by decide) (fun h2 => ?_) (fun h2 => ?_)
    · skip
      obtain ⟨k, hk, rfl⟩ := inN_ex (bI_n.mp h1) (by omega)
      obtain ⟨t, ht, rfl⟩ := inN_ex (bI_n.mp h2) (by omega)
      have hk8 : k < 8 := by omega
      refine z_aload_n hX (D_Four_turn (i := 9) rfl) rfl ?_
      refine z_getc hX (D_Four_turn (i := 10) rfl) f_Four_11 rfl (by decide) (by first | exact Nat.one_pos | assumption | omega) rfl ?_
      refine z_iload_n hX (D_Four_turn (i := 11) rfl) rfl ?_
      refine z_aldCubec (j := k) hX (D_Four_turn (i := 12) rfl) rfl (by decide) (by first | exact Nat.one_pos | assumption | omega) (by decide) rfl hk8 ?_
      refine z_geti hX (D_Four_turn (i := 13) rfl) f_Four_113 rfl (by decide) (by first | exact Nat.one_pos | assumption | omega) rfl ?_
      refine z_istore_n hX (D_Four_turn (i := 14) rfl) (by decide) rfl ?_
      refine z_aload_n hX (D_Four_turn (i := 15) rfl) rfl ?_
      refine z_getc hX (D_Four_turn (i := 16) rfl) f_Four_11 rfl (by decide) (by first | exact Nat.one_pos | assumption | omega) rfl ?_
      refine z_iload_n hX (D_Four_turn (i := 17) rfl) rfl ?_
      refine z_aldCubec (j := k) hX (D_Four_turn (i := 18) rfl) rfl (by decide) (by first | exact Nat.one_pos | assumption | omega) (by decide) rfl hk8 ?_
      refine z_iload_n hX (D_Four_turn (i := 19) rfl) rfl ?_
      refine z_puti hX (D_Four_turn (i := 20) rfl) g_Four_113 rfl (by decide) (by first | exact Nat.one_pos | assumption | omega) rfl ?_
      refine z_iload_n hX (D_Four_turn (i := 21) rfl) rfl ?_
      exact z_iret hX hR (D_Four_turn (i := 22) rfl) rfl (hok k t hk ht rfl rfl)
    · refine z_iconst (v := -1) hX (D_Four_turn (i := 7) rfl) (by decide) ?_
      exact z_iret hX hR (D_Four_turn (i := 8) rfl) rfl (hno (by rw [bI_0.mp h2]; simp))
theorem c_Four_shows (hH : zHas ι pX) (hs : mem.1 0 0 1 = nI sz) (h8 : sz ≤ 8) (hno : (inN x sz && (inN y 24 && inN z 6)) = false → Post (some (zI (-1))) mem) (hok : ∀ k t w, k < sz → t < 24 → w < 6 → x = nI k → y = nI t → z = nI w → Post (some (zI (mem.1 3 k (stN t w)))) mem) : zC l ι M_Four_shows 1 [zP 0 0, zI x, zI y, zI z] mem Post := by
  refine z_enter hH (by decide) (by simp [z_ent, M_Four_shows]) (fun X hXl hX hR => ?_)
  refine z_aload_n hX (D_Four_shows (i := 0) rfl) rfl ?_
  refine z_iload_n hX (D_Four_shows (i := 1) rfl) rfl ?_
  refine z_cV1 hX (D_Four_shows (i := 2) rfl) mi_Four_isCube l_Four_110 rfl rfl (by decide) (by first | exact Nat.one_pos | assumption | omega) (by first | decide | omega) (Nat.le_of_ble_eq_true rfl) (c_Four_isCube hH hs h8 ?_)
  refine z_if_eq (tgt := 25) hX (D_Four_shows (i := 3) rfl) (by decide) (fun h1 => ?_) (fun h1 => ?_)
  · refine z_iconst (v := -1) hX (D_Four_shows (i := 12) rfl) (by decide) ?_
    exact z_iret hX hR (D_Four_shows (i := 13) rfl) rfl (hno (by rw [bI_0.mp h1]; rfl))
  · refine z_iload_n hX (D_Four_shows (i := 4) rfl) rfl ?_
    refine z_cS1 hX (D_Four_shows (i := 5) rfl) ms_Four_isTurning l_Four_137 (by first | decide | omega) (Nat.le_of_ble_eq_true rfl) (c_Four_isTurning ?_)
    refine z_if_eq (tgt := 25) hX (D_Four_shows (i := 6) rfl) (by decide) (fun h2 => ?_) (fun h2 => ?_)
    · refine z_iconst (v := -1) hX (D_Four_shows (i := 12) rfl) (by decide) ?_
      exact z_iret hX hR (D_Four_shows (i := 13) rfl) rfl (hno (by rw [bI_0.mp h2]; simp))
    · refine z_iload_n hX (D_Four_shows (i := 7) rfl) rfl ?_
      refine z_if_lt (tgt := 25) hX (D_Four_shows (i := 8) rfl) (by decide) (fun h3 => ?_) (fun h3 => ?_)
      · refine z_iconst (v := -1) hX (D_Four_shows (i := 12) rfl) (by decide) ?_
        exact z_iret hX hR (D_Four_shows (i := 13) rfl) rfl (hno (by rw [inN_lo h3]; simp))
      · refine z_iload_n hX (D_Four_shows (i := 9) rfl) rfl ?_
        refine z_bipush (v := 6) hX (D_Four_shows (i := 10) rfl) (by decide) ?_
        refine z_icmp_lt (tgt := 27) hX (D_Four_shows (i := 11) rfl) (by decide) (fun h4 => ?_) (fun h4 => ?_)
        · skip
          obtain ⟨k, hk, rfl⟩ := inN_ex (bI_n.mp h1) (by omega)
          obtain ⟨t, ht, rfl⟩ := inN_ex (bI_n.mp h2) (by omega)
          obtain ⟨w, hw, rfl⟩ := inN_ex (inN_in (n := 6) h3 (ltT.mp h4) (by decide)) (by omega)
          have hk8 : k < 8 := by omega
          refine z_aload_n hX (D_Four_shows (i := 14) rfl) rfl ?_
          refine z_getc hX (D_Four_shows (i := 15) rfl) f_Four_11 rfl (by decide) (by first | exact Nat.one_pos | assumption | omega) rfl ?_
          refine z_iload_n hX (D_Four_shows (i := 16) rfl) rfl ?_
          refine z_aldCubec (j := k) hX (D_Four_shows (i := 17) rfl) rfl (by decide) (by first | exact Nat.one_pos | assumption | omega) (by decide) rfl hk8 ?_
          refine z_iload_n hX (D_Four_shows (i := 18) rfl) rfl ?_
          refine z_iload_n hX (D_Four_shows (i := 19) rfl) rfl ?_
          refine z_cV2 hX (D_Four_shows (i := 20) rfl) mi_Cube_seen l_Four_140 rfl rfl (by decide) (by first | exact Nat.one_pos | assumption | omega) (by first | decide | omega) (Nat.le_of_ble_eq_true rfl) (c_Cube_seen hH hk8 ht hw ?_)
          exact z_iret hX hR (D_Four_shows (i := 21) rfl) rfl (hok k t w hk ht hw rfl rfl rfl)
        · refine z_iconst (v := -1) hX (D_Four_shows (i := 12) rfl) (by decide) ?_
          exact z_iret hX hR (D_Four_shows (i := 13) rfl) rfl (hno (by rw [inN_hi (n := 6) (Int32.not_lt.mp h4) (by decide)]; simp))
theorem c_Four_of (hH : zHas ι pX) (hs : mem.1 0 0 1 = nI sz) (h8 : sz ≤ 8) (hcol : ∀ k, k < 8 → ∀ f, f < 6 → ∃ c, c ≤ 6 ∧ mem.1 3 k f = nI c) (hno : (inN x sz = false ∨ (inN y 6 = false ∧ ¬ y = 6 ∧ inN (y - 10) 3 = false)) → Post (some (zI (-1))) mem) (hf : ∀ k f, k < sz → f < 6 → x = nI k → y = nI f → Post (some (zI (mem.1 3 k f))) mem) (ht : ∀ k, k < sz → x = nI k → y = 6 → Post (some (zI (mem.1 2 k 1))) mem) (hl : ∀ k i a b, k < sz → i < 3 → a ≤ 6 → b ≤ 6 → x = nI k → y = nI (10 + i) → mem.1 3 k (edN i) = nI a → mem.1 3 k (opN (edN i)) = nI b → Post (some (zI (nI (lnN a b)))) mem) : zC l ι M_Four_of 2 [zP 0 0, zI x, zI y] mem Post := by
  refine z_enter hH (by decide) (by simp [z_ent, M_Four_of]) (fun X hXl hX hR => ?_)
  refine z_aload_n hX (D_Four_of (i := 0) rfl) rfl ?_
  refine z_iload_n hX (D_Four_of (i := 1) rfl) rfl ?_
  refine z_cV1 hX (D_Four_of (i := 2) rfl) mi_Four_isCube l_Four_110 rfl rfl (by decide) (by first | exact Nat.one_pos | assumption | omega) (by first | decide | omega) (Nat.le_of_ble_eq_true rfl) (c_Four_isCube hH hs h8 ?_)
  refine z_if_ne (tgt := 10) hX (D_Four_of (i := 3) rfl) (by decide) (fun h1 => ?_) (fun h1 => ?_)
  · skip
    obtain ⟨k, hk, rfl⟩ := inN_ex (bI_n.mp h1) (by omega)
    have hk8 : k < 8 := by omega
    have two : inN y 6 = false → zW ι M_Four_of X 32 [some (zP 0 0), some (zI (nI k)), some (zI y)] [] mem := by
      intro h6
      refine z_iload_n hX (D_Four_of (i := 19) rfl) rfl ?_
      refine z_bipush (v := 6) hX (D_Four_of (i := 20) rfl) (by decide) ?_
      refine z_icmp_ne (tgt := 48) hX (D_Four_of (i := 21) rfl) (by decide) (fun h7 => ?_) (fun h7 => ?_)
      · refine z_iload_n hX (D_Four_of (i := 28) rfl) rfl ?_
        refine z_bipush (v := 10) hX (D_Four_of (i := 29) rfl) (by decide) ?_
        refine z_icmp_lt (tgt := 74) hX (D_Four_of (i := 30) rfl) (by decide) (fun h8' => ?_) (fun h8' => ?_)
        · refine z_iconst (v := -1) hX (D_Four_of (i := 43) rfl) (by decide) ?_
          refine z_iret hX hR (D_Four_of (i := 44) rfl) rfl (hno (Or.inr ⟨h6, h7, ?_⟩))
          have a1 := Int32.lt_iff_toInt_lt.mp h8'
          have a3 : (10 : Int32).toInt = 10 := rfl
          have a2 : ¬ inN (y - 10) 3 = true := fun w => by
            obtain ⟨j, hj, e⟩ := inN_ex w (by decide)
            have e2 : y = nI (10 + j) := by rw [← nI_add, ← e]; show y = 10 + (y - 10); rw [Int32.add_comm, Int32.sub_add_cancel]
            rw [e2, nI_toInt (by omega)] at a1
            omega
          simpa using a2
        · refine z_iload_n hX (D_Four_of (i := 31) rfl) rfl ?_
          refine z_bipush (v := 13) hX (D_Four_of (i := 32) rfl) (by decide) ?_
          refine z_icmp_ge (tgt := 74) hX (D_Four_of (i := 33) rfl) (by decide) (fun h9 => ?_) (fun h9 => ?_)
          · refine z_iconst (v := -1) hX (D_Four_of (i := 43) rfl) (by decide) ?_
            refine z_iret hX hR (D_Four_of (i := 44) rfl) rfl (hno (Or.inr ⟨h6, h7, ?_⟩))
            have a1 := Int32.le_iff_toInt_le.mp h9
            have a3 : (13 : Int32).toInt = 13 := rfl
            have a2 : ¬ inN (y - 10) 3 = true := fun w => by
              obtain ⟨j, hj, e⟩ := inN_ex w (by decide)
              have e2 : y = nI (10 + j) := by rw [← nI_add, ← e]; show y = 10 + (y - 10); rw [Int32.add_comm, Int32.sub_add_cancel]
              rw [e2, nI_toInt (by omega)] at a1
              omega
            simpa using a2
          · skip
            obtain ⟨i, hi, rfl⟩ : ∃ i : Nat, i < 3 ∧ y = nI (10 + i) := by
              have a1 := fun w => h8' (Int32.lt_iff_toInt_lt.mpr w)
              have a2 := fun w => h9 (Int32.le_iff_toInt_le.mpr w)
              have a3 : (13 : Int32).toInt = 13 := rfl
              have a4 : (10 : Int32).toInt = 10 := rfl
              rw [a4] at a1
              rw [a3] at a2
              have b1 : ¬ y.toInt < 10 := a1
              have b2 : ¬ 13 ≤ y.toInt := a2
              refine ⟨y.toInt.toNat - 10, by omega, Int32.toInt_inj.mp ?_⟩
              rw [nI_toInt (by omega)]
              omega
            obtain ⟨a, la, ea⟩ := hcol k hk8 (edN i) (ed_ok i hi).1
            obtain ⟨b, lb, eb⟩ := hcol k hk8 (opN (edN i)) (ed_ok i hi).2
            refine z_aload_n hX (D_Four_of (i := 34) rfl) rfl ?_
            refine z_getc hX (D_Four_of (i := 35) rfl) f_Four_11 rfl (by decide) (by first | exact Nat.one_pos | assumption | omega) rfl ?_
            refine z_iload_n hX (D_Four_of (i := 36) rfl) rfl ?_
            refine z_aldCubec (j := k) hX (D_Four_of (i := 37) rfl) rfl (by decide) (by first | exact Nat.one_pos | assumption | omega) (by decide) rfl hk8 ?_
            refine z_iload_n hX (D_Four_of (i := 38) rfl) rfl ?_
            refine z_bipush (v := 10) hX (D_Four_of (i := 39) rfl) (by decide) ?_
            refine z_isub hX (D_Four_of (i := 40) rfl) ?_
            rw [nlit, pk_sub (by omega), Nat.add_sub_cancel_left]
            refine z_cV1 hX (D_Four_of (i := 41) rfl) mi_Cube_line l_Four_116 rfl rfl (by decide) (by first | exact Nat.one_pos | assumption | omega) (by first | decide | omega) (Nat.le_of_ble_eq_true rfl) (c_Cube_line hH hk8 hi ea eb la lb ?_)
            exact z_iret hX hR (D_Four_of (i := 42) rfl) rfl (hl k i a b hk hi la lb rfl rfl ea eb)
      · refine z_aload_n hX (D_Four_of (i := 22) rfl) rfl ?_
        refine z_getc hX (D_Four_of (i := 23) rfl) f_Four_11 rfl (by decide) (by first | exact Nat.one_pos | assumption | omega) rfl ?_
        refine z_iload_n hX (D_Four_of (i := 24) rfl) rfl ?_
        refine z_aldCubec (j := k) hX (D_Four_of (i := 25) rfl) rfl (by decide) (by first | exact Nat.one_pos | assumption | omega) (by decide) rfl hk8 ?_
        refine z_geti hX (D_Four_of (i := 26) rfl) f_Four_113 rfl (by decide) (by first | exact Nat.one_pos | assumption | omega) rfl ?_
        exact z_iret hX hR (D_Four_of (i := 27) rfl) rfl (ht k hk rfl h7)
    refine z_iload_n hX (D_Four_of (i := 6) rfl) rfl ?_
    refine z_if_lt (tgt := 32) hX (D_Four_of (i := 7) rfl) (by decide) (fun h2 => ?_) (fun h2 => ?_)
    · skip
      exact two (inN_lo h2)
    · refine z_iload_n hX (D_Four_of (i := 8) rfl) rfl ?_
      refine z_bipush (v := 6) hX (D_Four_of (i := 9) rfl) (by decide) ?_
      refine z_icmp_ge (tgt := 32) hX (D_Four_of (i := 10) rfl) (by decide) (fun h3 => ?_) (fun h3 => ?_)
      · skip
        exact two (inN_hi (n := 6) h3 (by decide))
      · skip
        obtain ⟨f, hf6, rfl⟩ := inN_ex (inN_in (n := 6) h2 h3 (by decide)) (by omega)
        refine z_aload_n hX (D_Four_of (i := 11) rfl) rfl ?_
        refine z_getc hX (D_Four_of (i := 12) rfl) f_Four_11 rfl (by decide) (by first | exact Nat.one_pos | assumption | omega) rfl ?_
        refine z_iload_n hX (D_Four_of (i := 13) rfl) rfl ?_
        refine z_aldCubec (j := k) hX (D_Four_of (i := 14) rfl) rfl (by decide) (by first | exact Nat.one_pos | assumption | omega) (by decide) rfl hk8 ?_
        refine z_getc hX (D_Four_of (i := 15) rfl) f_Four_71 rfl (by decide) (by first | exact Nat.one_pos | assumption | omega) rfl ?_
        refine z_iload_n hX (D_Four_of (i := 16) rfl) rfl ?_
        refine z_iald (j := f) hX (D_Four_of (i := 17) rfl) rfl (by decide) (by first | exact Nat.one_pos | assumption | omega) (by decide) rfl hf6 ?_
        exact z_iret hX hR (D_Four_of (i := 18) rfl) rfl (hf k f hk hf6 rfl rfl)
  · refine z_iconst (v := -1) hX (D_Four_of (i := 4) rfl) (by decide) ?_
    exact z_iret hX hR (D_Four_of (i := 5) rfl) rfl (hno (Or.inl (bI_0.mp h1)))
theorem c_Four_alike (hH : zHas ι pX) (hs : mem.1 0 0 1 = nI sz) (h8 : sz ≤ 8) (hno : (x < 0 ∨ ∃ j : Nat, j < 2 ^ 31 ∧ x = nI j ∧ (sz ≤ j / 10 ∨ sz ≤ j % 10)) → Post (some (zI (-1))) mem) (hok : ∀ a b, a < sz → b < sz → b < 10 → x = nI (10 * a + b) → Post (some (zI (if exI (fun t => alI (lkC mem a b t false) 6) 24 = true then 1 else if exI (fun t => alI (lkC mem a b t true) 6) 24 = true then 2 else 0))) mem) : zC l ι M_Four_alike 2 [zP 0 0, zI x] mem Post := by
  refine z_enter hH (by decide) (by simp [z_ent, M_Four_alike]) (fun X hXl hX hR => ?_)
  refine z_iload_n hX (D_Four_alike (i := 0) rfl) rfl ?_
  refine z_if_lt (tgt := 26) hX (D_Four_alike (i := 1) rfl) (by decide) (fun h1 => ?_) (fun h1 => ?_)
  · refine z_iconst (v := -1) hX (D_Four_alike (i := 14) rfl) (by decide) ?_
    exact z_iret hX hR (D_Four_alike (i := 15) rfl) rfl (hno (Or.inl h1))
  · skip
    obtain ⟨j, hj, rfl⟩ := nI_of h1
    refine z_aload_n hX (D_Four_alike (i := 2) rfl) rfl ?_
    refine z_iload_n hX (D_Four_alike (i := 3) rfl) rfl ?_
    refine z_bipush (v := 10) hX (D_Four_alike (i := 4) rfl) (by decide) ?_
    refine z_idiv hX (D_Four_alike (i := 5) rfl) (by decide) ?_
    rw [nlit, pk_div hj (by decide) (by decide)]
    refine z_cV1 hX (D_Four_alike (i := 6) rfl) mi_Four_isCube l_Four_110 rfl rfl (by decide) (by first | exact Nat.one_pos | assumption | omega) (by first | decide | omega) (Nat.le_of_ble_eq_true rfl) (c_Four_isCube hH hs h8 ?_)
    rw [inN_nI' (by omega)]
    refine z_if_eq (tgt := 26) hX (D_Four_alike (i := 7) rfl) (by decide) (fun h2 => ?_) (fun h2 => ?_)
    · refine z_iconst (v := -1) hX (D_Four_alike (i := 14) rfl) (by decide) ?_
      exact z_iret hX hR (D_Four_alike (i := 15) rfl) rfl (hno (Or.inr ⟨j, hj, rfl, Or.inl (by have := of_decide_eq_false (bI_0.mp h2); omega)⟩))
    · refine z_aload_n hX (D_Four_alike (i := 8) rfl) rfl ?_
      refine z_iload_n hX (D_Four_alike (i := 9) rfl) rfl ?_
      refine z_bipush (v := 10) hX (D_Four_alike (i := 10) rfl) (by decide) ?_
      refine z_irem hX (D_Four_alike (i := 11) rfl) (by decide) ?_
      rw [nlit, pk_rem hj (by decide) (by decide)]
      refine z_cV1 hX (D_Four_alike (i := 12) rfl) mi_Four_isCube l_Four_110 rfl rfl (by decide) (by first | exact Nat.one_pos | assumption | omega) (by first | decide | omega) (Nat.le_of_ble_eq_true rfl) (c_Four_isCube hH hs h8 ?_)
      rw [inN_nI' (by omega)]
      have a1 := of_decide_eq_true (bI_n.mp h2)
      refine z_if_ne (tgt := 28) hX (D_Four_alike (i := 13) rfl) (by decide) (fun h3 => ?_) (fun h3 => ?_)
      · skip
        have a2 := of_decide_eq_true (bI_n.mp h3)
        have hA : j / 10 < 8 := by omega
        have hB : j % 10 < 8 := by omega
        have hh := hok (j / 10) (j % 10) a1 a2 (by omega) (by rw [Nat.div_add_mod])
        refine z_aload_n hX (D_Four_alike (i := 16) rfl) rfl ?_
        refine z_getc hX (D_Four_alike (i := 17) rfl) f_Four_11 rfl (by decide) (by first | exact Nat.one_pos | assumption | omega) rfl ?_
        refine z_iload_n hX (D_Four_alike (i := 18) rfl) rfl ?_
        refine z_bipush (v := 10) hX (D_Four_alike (i := 19) rfl) (by decide) ?_
        refine z_idiv hX (D_Four_alike (i := 20) rfl) (by decide) ?_
        rw [nlit, pk_div hj (by decide) (by decide)]
        refine z_aldCubec (j := j / 10) hX (D_Four_alike (i := 21) rfl) rfl (by decide) (by first | exact Nat.one_pos | assumption | omega) (by decide) rfl hA ?_
        refine z_astore_n hX (D_Four_alike (i := 22) rfl) (by decide) rfl ?_
        refine z_aload_n hX (D_Four_alike (i := 23) rfl) rfl ?_
        refine z_getc hX (D_Four_alike (i := 24) rfl) f_Four_11 rfl (by decide) (by first | exact Nat.one_pos | assumption | omega) rfl ?_
        refine z_iload_n hX (D_Four_alike (i := 25) rfl) rfl ?_
        refine z_bipush (v := 10) hX (D_Four_alike (i := 26) rfl) (by decide) ?_
        refine z_irem hX (D_Four_alike (i := 27) rfl) (by decide) ?_
        rw [nlit, pk_rem hj (by decide) (by decide)]
        refine z_aldCubec (j := j % 10) hX (D_Four_alike (i := 28) rfl) rfl (by decide) (by first | exact Nat.one_pos | assumption | omega) (by decide) rfl hB ?_
        refine z_astore_n hX (D_Four_alike (i := 29) rfl) (by decide) rfl ?_
        refine z_aload_n hX (D_Four_alike (i := 30) rfl) rfl ?_
        refine z_aload_n hX (D_Four_alike (i := 31) rfl) rfl ?_
        refine z_iconst (v := 0) hX (D_Four_alike (i := 32) rfl) (by decide) ?_
        refine z_cV2 hX (D_Four_alike (i := 33) rfl) mi_Cube_turnsInto l_Four_207 rfl rfl (by decide) (by first | exact Nat.one_pos | assumption | omega) (by first | decide | omega) (Nat.le_of_ble_eq_true rfl) (c_Cube_turnsInto (g := false) hH hA hB ?_)
        refine z_if_eq (tgt := 59) hX (D_Four_alike (i := 34) rfl) (by decide) (fun h4 => ?_) (fun h4 => ?_)
        · refine z_aload_n hX (D_Four_alike (i := 37) rfl) rfl ?_
          refine z_aload_n hX (D_Four_alike (i := 38) rfl) rfl ?_
          refine z_iconst (v := 1) hX (D_Four_alike (i := 39) rfl) (by decide) ?_
          rw [bI_0.mp h4] at hh
          refine z_cV2 hX (D_Four_alike (i := 40) rfl) mi_Cube_turnsInto l_Four_207 rfl rfl (by decide) (by first | exact Nat.one_pos | assumption | omega) (by first | decide | omega) (Nat.le_of_ble_eq_true rfl) (c_Cube_turnsInto (g := true) hH hA hB ?_)
          refine z_if_eq (tgt := 72) hX (D_Four_alike (i := 41) rfl) (by decide) (fun h5 => ?_) (fun h5 => ?_)
          · refine z_iconst (v := 0) hX (D_Four_alike (i := 44) rfl) (by decide) ?_
            rw [bI_0.mp h5] at hh
            exact z_iret hX hR (D_Four_alike (i := 45) rfl) rfl hh
          · refine z_iconst (v := 2) hX (D_Four_alike (i := 42) rfl) (by decide) ?_
            refine z_goto (tgt := 73) hX (D_Four_alike (i := 43) rfl) (by decide) ?_
            rw [bI_n.mp h5] at hh
            exact z_iret hX hR (D_Four_alike (i := 45) rfl) rfl hh
        · refine z_iconst (v := 1) hX (D_Four_alike (i := 35) rfl) (by decide) ?_
          rw [bI_n.mp h4] at hh
          exact z_iret hX hR (D_Four_alike (i := 36) rfl) rfl hh
      · refine z_iconst (v := -1) hX (D_Four_alike (i := 14) rfl) (by decide) ?_
        exact z_iret hX hR (D_Four_alike (i := 15) rfl) rfl (hno (Or.inr ⟨j, hj, rfl, Or.inr (by have := of_decide_eq_false (bI_0.mp h3); omega)⟩))
theorem c_Four_great (hH : zHas ι pX) (hs : mem.1 0 0 1 = nI sz) (h8 : sz ≤ 8) (hno : inN x 6 = false → Post (some (zI (-1))) mem) (hok : inN x 6 = true → Post (some (zI (mkI (fun k => alI (crC mem k x) 3) sz))) mem) : zC l ι M_Four_great 2 [zP 0 0, zI x] mem Post := by
  refine z_enter hH (by decide) (by simp [z_ent, M_Four_great]) (fun X hXl hX hR => ?_)
  refine z_iload_n hX (D_Four_great (i := 0) rfl) rfl ?_
  refine z_if_lt (tgt := 10) hX (D_Four_great (i := 1) rfl) (by decide) (fun h1 => ?_) (fun h1 => ?_)
  · refine z_iconst (v := -1) hX (D_Four_great (i := 5) rfl) (by decide) ?_
    exact z_iret hX hR (D_Four_great (i := 6) rfl) rfl (hno (inN_lo h1))
  · refine z_iload_n hX (D_Four_great (i := 2) rfl) rfl ?_
    refine z_bipush (v := 6) hX (D_Four_great (i := 3) rfl) (by decide) ?_
    refine z_icmp_lt (tgt := 12) hX (D_Four_great (i := 4) rfl) (by decide) (fun h2 => ?_) (fun h2 => ?_)
    · skip
      have hh := hok (inN_in (n := 6) h1 (ltT.mp h2) (by decide))
      refine z_iconst (v := 0) hX (D_Four_great (i := 7) rfl) (by decide) ?_
      refine z_istore_n hX (D_Four_great (i := 8) rfl) (by decide) rfl ?_
      refine z_iconst (v := 0) hX (D_Four_great (i := 9) rfl) (by decide) ?_
      refine z_istore_n hX (D_Four_great (i := 10) rfl) (by decide) rfl ?_
      suffices H : ∀ (d i : Nat), i + d = sz → zW ι M_Four_great X 16 [some (zP 0 0), some (zI x), some (zI (mkI (fun k => alI (crC mem k x) 3) i)), some (zI (nI i))] [] mem from H sz 0 (by omega)
      intro d
      induction d with
      | zero =>
        intro i hi
        obtain rfl : i = sz := by omega
        refine z_iload_n hX (D_Four_great (i := 11) rfl) rfl ?_
        refine z_aload_n hX (D_Four_great (i := 12) rfl) rfl ?_
        refine z_geti hX (D_Four_great (i := 13) rfl) f_Four_67 rfl (by decide) (by first | exact Nat.one_pos | assumption | omega) rfl ?_
        rw [hs]
        refine z_icmp_ge (tgt := 49) hX (D_Four_great (i := 14) rfl) (by decide) (fun _ => ?_) (fun hcc => absurd (Int32.le_refl _) hcc)
        refine z_iload_n hX (D_Four_great (i := 30) rfl) rfl ?_
        exact z_iret hX hR (D_Four_great (i := 31) rfl) rfl hh
      | succ d ih =>
        intro i hi
        have hi8 : i < 8 := by omega
        refine z_iload_n hX (D_Four_great (i := 11) rfl) rfl ?_
        refine z_aload_n hX (D_Four_great (i := 12) rfl) rfl ?_
        refine z_geti hX (D_Four_great (i := 13) rfl) f_Four_67 rfl (by decide) (by first | exact Nat.one_pos | assumption | omega) rfl ?_
        rw [hs]
        refine z_icmp_ge (tgt := 49) hX (D_Four_great (i := 14) rfl) (by decide) (fun hcc => absurd hcc (nI_ge (by omega) (by omega))) (fun _ => ?_)
        refine z_aload_n hX (D_Four_great (i := 15) rfl) rfl ?_
        refine z_getc hX (D_Four_great (i := 16) rfl) f_Four_11 rfl (by decide) (by first | exact Nat.one_pos | assumption | omega) rfl ?_
        refine z_iload_n hX (D_Four_great (i := 17) rfl) rfl ?_
        refine z_aldCubec (j := i) hX (D_Four_great (i := 18) rfl) rfl (by decide) (by first | exact Nat.one_pos | assumption | omega) (by decide) rfl hi8 ?_
        refine z_iload_n hX (D_Four_great (i := 19) rfl) rfl ?_
        refine z_cV1 hX (D_Four_great (i := 20) rfl) mi_Cube_hasCornerOf l_Four_231 rfl rfl (by decide) (by first | exact Nat.one_pos | assumption | omega) (by first | decide | omega) (Nat.le_of_ble_eq_true rfl) (c_Cube_hasCornerOf hH hi8 ?_)
        refine z_if_eq (tgt := 43) hX (D_Four_great (i := 21) rfl) (by decide) (fun h3 => ?_) (fun h3 => ?_)
        · first | refine z_inc1 hX (D_Four_great (i := 28) rfl) rfl (by decide) rfl ?_ | refine z_iinc hX (D_Four_great (i := 28) rfl) rfl rfl (by decide) rfl ?_
          refine z_goto (tgt := 16) hX (D_Four_great (i := 29) rfl) (by decide) ?_
          have e : mkI (fun k => alI (crC mem k x) 3) (i + 1) = mkI (fun k => alI (crC mem k x) 3) i := by
            rw [mkI, if_neg]
            rw [bI_0.mp h3]; decide
          rw [← e]
          exact ih (i + 1) (by omega)
        · refine z_iload_n hX (D_Four_great (i := 22) rfl) rfl ?_
          refine z_iconst (v := 1) hX (D_Four_great (i := 23) rfl) (by decide) ?_
          refine z_iload_n hX (D_Four_great (i := 24) rfl) rfl ?_
          refine z_ishl hX (D_Four_great (i := 25) rfl) ?_
          refine z_ior hX (D_Four_great (i := 26) rfl) ?_
          refine z_istore_n hX (D_Four_great (i := 27) rfl) (by decide) rfl ?_
          first | refine z_inc1 hX (D_Four_great (i := 28) rfl) rfl (by decide) rfl ?_ | refine z_iinc hX (D_Four_great (i := 28) rfl) rfl rfl (by decide) rfl ?_
          refine z_goto (tgt := 16) hX (D_Four_great (i := 29) rfl) (by decide) ?_
          have e : mkI (fun k => alI (crC mem k x) 3) (i + 1) = mkI (fun k => alI (crC mem k x) 3) i ||| ((1 : Int32) <<< (nI i &&& 31)) := by
            rw [mkI, if_pos (bI_n.mp h3)]
          rw [← e]
          exact ih (i + 1) (by omega)
    · refine z_iconst (v := -1) hX (D_Four_great (i := 5) rfl) (by decide) ?_
      exact z_iret hX hR (D_Four_great (i := 6) rfl) rfl (hno (inN_hi (n := 6) (Int32.not_lt.mp h2) (by decide)))
end F5
end
section
/-! more calls -/
section F6
variable {l : Launch} {ι : zE} {mem : zM} {Post : Option zV → zM → Prop} {x y z : Int32} {sz : Nat}
def siB (j : Nat) : Bool := decide (j / 100 < 6 ∧ j / 10 % 10 < 6 ∧ j % 10 < 6)
theorem c_Four_sight (hH : zHas ι pX) (hs : mem.1 0 0 1 = nI sz) (h8 : sz ≤ 8) (hno : (x < 0 ∨ (∃ j : Nat, j < 2 ^ 31 ∧ x = nI j ∧ siB j = false) ∨ (inN y sz = false ∧ ¬ y = -1)) → Post (some (zI (-1))) mem) (hok : ∀ j k, j < 2 ^ 31 → x = nI j → siB j = true → k < sz → y = nI k → Post (some (zI (mkI (tsC mem k (nI j)) 24))) mem) (hall : ∀ j, j < 2 ^ 31 → x = nI j → siB j = true → y = -1 → Post (some (zI (mkI (fun k => decide (¬ mkI (tsC mem k (nI j)) 24 = 0)) sz))) mem) : zC l ι M_Four_sight 3 [zP 0 0, zI x, zI y] mem Post := by
  refine z_enter hH (by decide) (by simp [z_ent, M_Four_sight]) (fun X hXl hX hR => ?_)
  refine z_iload_n hX (D_Four_sight (i := 0) rfl) rfl ?_
  refine z_if_lt (tgt := 34) hX (D_Four_sight (i := 1) rfl) (by decide) (fun h1 => ?_) (fun h1 => ?_)
  · refine z_iconst (v := -1) hX (D_Four_sight (i := 19) rfl) (by decide) ?_
    exact z_iret hX hR (D_Four_sight (i := 20) rfl) rfl (hno (Or.inl h1))
  · skip
    obtain ⟨j, hj, rfl⟩ := nI_of h1
    have bad : siB j = false → zW ι M_Four_sight X 34 [some (zP 0 0), some (zI (nI j)), some (zI y), none, none] [] mem := by
      intro hb
      refine z_iconst (v := -1) hX (D_Four_sight (i := 19) rfl) (by decide) ?_
      exact z_iret hX hR (D_Four_sight (i := 20) rfl) rfl (hno (Or.inr (Or.inl ⟨j, hj, rfl, hb⟩)))
    refine z_iload_n hX (D_Four_sight (i := 2) rfl) rfl ?_
    refine z_bipush (v := 100) hX (D_Four_sight (i := 3) rfl) (by decide) ?_
    refine z_idiv hX (D_Four_sight (i := 4) rfl) (by decide) ?_
    rw [nlit, pk_div hj (by decide) (by decide)]
    refine z_bipush (v := 6) hX (D_Four_sight (i := 5) rfl) (by decide) ?_
    refine z_icmp_ge (tgt := 34) hX (D_Four_sight (i := 6) rfl) (by decide) (fun h2 => ?_) (fun h2 => ?_)
    · skip
      exact bad (decide_eq_false (fun z => absurd h2 (nI_ge (b := 6) z.1 (by decide))))
    · refine z_iload_n hX (D_Four_sight (i := 7) rfl) rfl ?_
      refine z_bipush (v := 10) hX (D_Four_sight (i := 8) rfl) (by decide) ?_
      refine z_idiv hX (D_Four_sight (i := 9) rfl) (by decide) ?_
      rw [nlit, pk_div hj (by decide) (by decide)]
      refine z_bipush (v := 10) hX (D_Four_sight (i := 10) rfl) (by decide) ?_
      refine z_irem hX (D_Four_sight (i := 11) rfl) (by decide) ?_
      rw [nlit, pk_rem (by omega) (by decide) (by decide)]
      refine z_bipush (v := 6) hX (D_Four_sight (i := 12) rfl) (by decide) ?_
      refine z_icmp_ge (tgt := 34) hX (D_Four_sight (i := 13) rfl) (by decide) (fun h3 => ?_) (fun h3 => ?_)
      · skip
        exact bad (decide_eq_false (fun z => absurd h3 (nI_ge (b := 6) z.2.1 (by decide))))
      · refine z_iload_n hX (D_Four_sight (i := 14) rfl) rfl ?_
        refine z_bipush (v := 10) hX (D_Four_sight (i := 15) rfl) (by decide) ?_
        refine z_irem hX (D_Four_sight (i := 16) rfl) (by decide) ?_
        rw [nlit, pk_rem hj (by decide) (by decide)]
        refine z_bipush (v := 6) hX (D_Four_sight (i := 17) rfl) (by decide) ?_
        refine z_icmp_lt (tgt := 36) hX (D_Four_sight (i := 18) rfl) (by decide) (fun h4 => ?_) (fun h4 => ?_)
        · skip
          have ok : siB j = true := by
            have a4 := (nI_ltI (b := 6) (by omega) (by decide)).mp h4
            have a2 := fun z => h2 ((nI_leI (a := 6) (by decide) (by omega)).mpr z)
            have a3 := fun z => h3 ((nI_leI (a := 6) (by decide) (by omega)).mpr z)
            exact decide_eq_true ⟨Nat.not_le.mp a2, Nat.not_le.mp a3, a4⟩
          refine z_aload_n hX (D_Four_sight (i := 21) rfl) rfl ?_
          refine z_iload_n hX (D_Four_sight (i := 22) rfl) rfl ?_
          refine z_cV1 hX (D_Four_sight (i := 23) rfl) mi_Four_isCube l_Four_110 rfl rfl (by decide) (by first | exact Nat.one_pos | assumption | omega) (by first | decide | omega) (Nat.le_of_ble_eq_true rfl) (c_Four_isCube hH hs h8 ?_)
          refine z_if_eq (tgt := 55) hX (D_Four_sight (i := 24) rfl) (by decide) (fun h5 => ?_) (fun h5 => ?_)
          · refine z_iload_n hX (D_Four_sight (i := 32) rfl) rfl ?_
            refine z_iconst (v := -1) hX (D_Four_sight (i := 33) rfl) (by decide) ?_
            refine z_icmp_eq (tgt := 62) hX (D_Four_sight (i := 34) rfl) (by decide) (fun h6 => ?_) (fun h6 => ?_)
            · skip
              have hh := hall j hj rfl ok h6
              refine z_iconst (v := 0) hX (D_Four_sight (i := 37) rfl) (by decide) ?_
              refine z_istore_n hX (D_Four_sight (i := 38) rfl) (by decide) rfl ?_
              refine z_iconst (v := 0) hX (D_Four_sight (i := 39) rfl) (by decide) ?_
              refine z_istore hX (D_Four_sight (i := 40) rfl) (by decide) rfl ?_
              suffices H : ∀ (d i : Nat), i + d = sz → zW ι M_Four_sight X 67 [some (zP 0 0), some (zI (nI j)), some (zI y), some (zI (mkI (fun k => decide (¬ mkI (tsC mem k (nI j)) 24 = 0)) i)), some (zI (nI i))] [] mem from H sz 0 (by omega)
              intro d
              induction d with
              | zero =>
                intro i hi
                obtain rfl : i = sz := by omega
                refine z_iload hX (D_Four_sight (i := 41) rfl) rfl ?_
                refine z_aload_n hX (D_Four_sight (i := 42) rfl) rfl ?_
                refine z_geti hX (D_Four_sight (i := 43) rfl) f_Four_67 rfl (by decide) (by first | exact Nat.one_pos | assumption | omega) rfl ?_
                rw [hs]
                refine z_icmp_ge (tgt := 103) hX (D_Four_sight (i := 44) rfl) (by decide) (fun _ => ?_) (fun hcc => absurd (Int32.le_refl _) hcc)
                refine z_iload_n hX (D_Four_sight (i := 60) rfl) rfl ?_
                exact z_iret hX hR (D_Four_sight (i := 61) rfl) rfl hh
              | succ d ih =>
                intro i hi
                have hi8 : i < 8 := by omega
                refine z_iload hX (D_Four_sight (i := 41) rfl) rfl ?_
                refine z_aload_n hX (D_Four_sight (i := 42) rfl) rfl ?_
                refine z_geti hX (D_Four_sight (i := 43) rfl) f_Four_67 rfl (by decide) (by first | exact Nat.one_pos | assumption | omega) rfl ?_
                rw [hs]
                refine z_icmp_ge (tgt := 103) hX (D_Four_sight (i := 44) rfl) (by decide) (fun hcc => absurd hcc (nI_ge (by omega) (by omega))) (fun _ => ?_)
                refine z_aload_n hX (D_Four_sight (i := 45) rfl) rfl ?_
                refine z_getc hX (D_Four_sight (i := 46) rfl) f_Four_11 rfl (by decide) (by first | exact Nat.one_pos | assumption | omega) rfl ?_
                refine z_iload hX (D_Four_sight (i := 47) rfl) rfl ?_
                refine z_aldCubec (j := i) hX (D_Four_sight (i := 48) rfl) rfl (by decide) (by first | exact Nat.one_pos | assumption | omega) (by decide) rfl hi8 ?_
                refine z_iload_n hX (D_Four_sight (i := 49) rfl) rfl ?_
                refine z_cV1 hX (D_Four_sight (i := 50) rfl) mi_Cube_turningsThatShow l_Four_225 rfl rfl (by decide) (by first | exact Nat.one_pos | assumption | omega) (by first | decide | omega) (Nat.le_of_ble_eq_true rfl) (c_Cube_turningsThatShow hH hi8 ?_)
                refine z_if_eq (tgt := 97) hX (D_Four_sight (i := 51) rfl) (by decide) (fun h7 => ?_) (fun h7 => ?_)
                · first | refine z_inc1 hX (D_Four_sight (i := 58) rfl) rfl (by decide) rfl ?_ | refine z_iinc hX (D_Four_sight (i := 58) rfl) rfl rfl (by decide) rfl ?_
                  refine z_goto (tgt := 67) hX (D_Four_sight (i := 59) rfl) (by decide) ?_
                  have e : mkI (fun k => decide (¬ mkI (tsC mem k (nI j)) 24 = 0)) (i + 1) = mkI (fun k => decide (¬ mkI (tsC mem k (nI j)) 24 = 0)) i := by
                    rw [mkI, if_neg]
                    simpa using h7
                  rw [← e]
                  exact ih (i + 1) (by omega)
                · refine z_iload_n hX (D_Four_sight (i := 52) rfl) rfl ?_
                  refine z_iconst (v := 1) hX (D_Four_sight (i := 53) rfl) (by decide) ?_
                  refine z_iload hX (D_Four_sight (i := 54) rfl) rfl ?_
                  refine z_ishl hX (D_Four_sight (i := 55) rfl) ?_
                  refine z_ior hX (D_Four_sight (i := 56) rfl) ?_
                  refine z_istore_n hX (D_Four_sight (i := 57) rfl) (by decide) rfl ?_
                  first | refine z_inc1 hX (D_Four_sight (i := 58) rfl) rfl (by decide) rfl ?_ | refine z_iinc hX (D_Four_sight (i := 58) rfl) rfl rfl (by decide) rfl ?_
                  refine z_goto (tgt := 67) hX (D_Four_sight (i := 59) rfl) (by decide) ?_
                  have e : mkI (fun k => decide (¬ mkI (tsC mem k (nI j)) 24 = 0)) (i + 1) = mkI (fun k => decide (¬ mkI (tsC mem k (nI j)) 24 = 0)) i ||| ((1 : Int32) <<< (nI i &&& 31)) := by
                    rw [mkI, if_pos (decide_eq_true h7)]
                  rw [← e]
                  exact ih (i + 1) (by omega)
            · refine z_iconst (v := -1) hX (D_Four_sight (i := 35) rfl) (by decide) ?_
              exact z_iret hX hR (D_Four_sight (i := 36) rfl) rfl (hno (Or.inr (Or.inr ⟨bI_0.mp h5, h6⟩)))
          · skip
            obtain ⟨k, hk, rfl⟩ := inN_ex (bI_n.mp h5) (by omega)
            have hk8 : k < 8 := by omega
            refine z_aload_n hX (D_Four_sight (i := 25) rfl) rfl ?_
            refine z_getc hX (D_Four_sight (i := 26) rfl) f_Four_11 rfl (by decide) (by first | exact Nat.one_pos | assumption | omega) rfl ?_
            refine z_iload_n hX (D_Four_sight (i := 27) rfl) rfl ?_
            refine z_aldCubec (j := k) hX (D_Four_sight (i := 28) rfl) rfl (by decide) (by first | exact Nat.one_pos | assumption | omega) (by decide) rfl hk8 ?_
            refine z_iload_n hX (D_Four_sight (i := 29) rfl) rfl ?_
            refine z_cV1 hX (D_Four_sight (i := 30) rfl) mi_Cube_turningsThatShow l_Four_225 rfl rfl (by decide) (by first | exact Nat.one_pos | assumption | omega) (by first | decide | omega) (Nat.le_of_ble_eq_true rfl) (c_Cube_turningsThatShow hH hk8 ?_)
            exact z_iret hX hR (D_Four_sight (i := 31) rfl) rfl (hok j k hj rfl ok hk rfl)
        · skip
          exact bad (decide_eq_false (fun z => absurd (nI_lt (b := 6) z.2.2 (by decide)) h4))
variable {nb : Nat}
theorem c_Four_body (hH : zHas ι pX) (hn : mem.1 27 0 1 = nI nb) (h50 : nb ≤ 50) (hno : inN x 8 = false → Post (some (zI (-1))) mem) (hfull : inN x 8 = true → nb = 50 → Post (some (zI (-3))) mem) (hok : inN x 8 = true → nb < 50 → Post (some (zI (nI nb))) (upI (upI mem 28 0 nb x) 27 0 1 (nI (nb + 1)))) : zC l ι M_Four_body 1 [zP 0 0, zI x] mem Post := by
  refine z_enter hH (by decide) (by simp [z_ent, M_Four_body]) (fun X hXl hX hR => ?_)
  refine z_iload_n hX (D_Four_body (i := 0) rfl) rfl ?_
  refine z_cS1 hX (D_Four_body (i := 1) rfl) ms_Four_isKind l_Four_247 (by first | decide | omega) (Nat.le_of_ble_eq_true rfl) (c_Four_isKind ?_)
  refine z_if_ne (tgt := 9) hX (D_Four_body (i := 2) rfl) (by decide) (fun h1 => ?_) (fun h1 => ?_)
  · refine z_aload_n hX (D_Four_body (i := 5) rfl) rfl ?_
    refine z_getc hX (D_Four_body (i := 6) rfl) f_Four_52 rfl (by decide) (by first | exact Nat.one_pos | assumption | omega) rfl ?_
    refine z_iload_n hX (D_Four_body (i := 7) rfl) rfl ?_
    by_cases hb : nb < 50
    · refine z_cV1 hX (D_Four_body (i := 8) rfl) mi_Bodies_add l_Four_250 rfl rfl (by decide) (by first | exact Nat.one_pos | assumption | omega) (by first | decide | omega) (Nat.le_of_ble_eq_true rfl) (c_Bodies_add hH hn hb ?_)
      exact z_iret hX hR (D_Four_body (i := 9) rfl) rfl (hok (bI_n.mp h1) hb)
    · obtain rfl : nb = 50 := by omega
      refine z_cV1 hX (D_Four_body (i := 8) rfl) mi_Bodies_add l_Four_250 rfl rfl (by decide) (by first | exact Nat.one_pos | assumption | omega) (by first | decide | omega) (Nat.le_of_ble_eq_true rfl) (c_Bodies_add_full hH hn ?_)
      exact z_iret hX hR (D_Four_body (i := 9) rfl) rfl (hfull (bI_n.mp h1) rfl)
  · refine z_iconst (v := -1) hX (D_Four_body (i := 3) rfl) (by decide) ?_
    exact z_iret hX hR (D_Four_body (i := 4) rfl) rfl (hno (bI_0.mp h1))
theorem c_Four_act (hH : zHas ι pX) (hn : mem.1 27 0 1 = nI nb) (h50 : nb ≤ 50) (hk : ∀ b, b < nb → ∃ κ, κ < 8 ∧ mem.1 28 0 b = nI κ) (hlen : ∀ (κ : Nat), κ < 8 → ∀ d, d < 4 → ∀ s w : Int32, (rfP 20 κ s κ d w).2.length < 1000000) (hno : (inN x nb && inN y 4) = false → Post (some (zI 0)) (upI mem 27 0 3 0)) (hok : ∀ b d κ, b < nb → d < 4 → κ < 8 → x = nI b → y = nI d → mem.1 28 0 b = nI κ → Post (some (zI (rfP 20 κ (nI b) κ d z).1)) (trM (upI (upI mem 27 0 3 0) 27 0 4 (nI b)) 0 (rfP 20 κ (nI b) κ d z).2)) : zC l ι M_Four_act 43 [zP 0 0, zI x, zI y, zI z] mem Post := by
  refine z_enter hH (by decide) (by simp [z_ent, M_Four_act]) (fun X hXl hX hR => ?_)
  refine z_aload_n hX (D_Four_act (i := 0) rfl) rfl ?_
  refine z_getc hX (D_Four_act (i := 1) rfl) f_Four_52 rfl (by decide) (by first | exact Nat.one_pos | assumption | omega) rfl ?_
  refine z_iload_n hX (D_Four_act (i := 2) rfl) rfl ?_
  refine z_iload_n hX (D_Four_act (i := 3) rfl) rfl ?_
  refine z_iload_n hX (D_Four_act (i := 4) rfl) rfl ?_
  cases hb : inN x nb && inN y 4 with
  | false =>
    refine z_cV3 hX (D_Four_act (i := 5) rfl) mi_Bodies_perform l_Four_252 rfl rfl (by decide) (by first | exact Nat.one_pos | assumption | omega) (by first | decide | omega) (Nat.le_of_ble_eq_true rfl) (c_Bodies_perform_no hH hn h50 hb ?_)
    exact z_iret hX hR (D_Four_act (i := 6) rfl) rfl (hno hb)
  | true =>
    rw [Bool.and_eq_true] at hb
    obtain ⟨b, hb1, rfl⟩ := inN_ex hb.1 (by omega)
    obtain ⟨d, hd, rfl⟩ := inN_ex hb.2 (by omega)
    obtain ⟨κ, h8, e⟩ := hk b hb1
    refine z_cV3 hX (D_Four_act (i := 5) rfl) mi_Bodies_perform l_Four_252 rfl rfl (by decide) (by first | exact Nat.one_pos | assumption | omega) (by first | decide | omega) (Nat.le_of_ble_eq_true rfl) (c_Bodies_perform hH hn h50 hb1 hd e h8 (hlen κ h8 d hd _ _) ?_)
    exact z_iret hX hR (D_Four_act (i := 6) rfl) rfl (hok b d κ hb1 hd h8 rfl rfl e)
theorem c_Four_trace (hH : zHas ι pX) {r : Nat} (hr : mem.1 27 0 3 = nI r) (h3 : r < 2 ^ 31) (hno : inN x (if 24 < r then 24 else r) = false → Post (some (zI (-1))) mem) (hok : ∀ i, i < (if 24 < r then 24 else r) → x = nI i → Post (some (zI (mem.1 29 0 i))) mem) : zC l ι M_Four_trace 2 [zP 0 0, zI x] mem Post := by
  have h24 : (if 24 < r then 24 else r) ≤ 24 := by split <;> omega
  refine z_enter hH (by decide) (by simp [z_ent, M_Four_trace]) (fun X hXl hX hR => ?_)
  refine z_iload_n hX (D_Four_trace (i := 0) rfl) rfl ?_
  refine z_if_lt (tgt := 15) hX (D_Four_trace (i := 1) rfl) (by decide) (fun h1 => ?_) (fun h1 => ?_)
  · refine z_iconst (v := -1) hX (D_Four_trace (i := 7) rfl) (by decide) ?_
    refine z_goto (tgt := 28) hX (D_Four_trace (i := 8) rfl) (by decide) ?_
    exact z_iret hX hR (D_Four_trace (i := 14) rfl) rfl (hno (inN_lo h1))
  · refine z_iload_n hX (D_Four_trace (i := 2) rfl) rfl ?_
    refine z_aload_n hX (D_Four_trace (i := 3) rfl) rfl ?_
    refine z_getc hX (D_Four_trace (i := 4) rfl) f_Four_52 rfl (by decide) (by first | exact Nat.one_pos | assumption | omega) rfl ?_
    refine z_cV0 hX (D_Four_trace (i := 5) rfl) mi_Bodies_traced l_Four_256 rfl rfl (by decide) (by first | exact Nat.one_pos | assumption | omega) (by first | decide | omega) (Nat.le_of_ble_eq_true rfl) (c_Bodies_traced hH hr h3 ?_)
    refine z_icmp_lt (tgt := 19) hX (D_Four_trace (i := 6) rfl) (by decide) (fun h2 => ?_) (fun h2 => ?_)
    · skip
      obtain ⟨i, hi, rfl⟩ := inN_ex (inN_in h1 (ltT.mp h2) (by omega)) (by omega)
      refine z_aload_n hX (D_Four_trace (i := 9) rfl) rfl ?_
      refine z_getc hX (D_Four_trace (i := 10) rfl) f_Four_52 rfl (by decide) (by first | exact Nat.one_pos | assumption | omega) rfl ?_
      refine z_getc hX (D_Four_trace (i := 11) rfl) f_Four_259 rfl (by decide) (by first | exact Nat.one_pos | assumption | omega) rfl ?_
      refine z_iload_n hX (D_Four_trace (i := 12) rfl) rfl ?_
      refine z_iald (j := i) hX (D_Four_trace (i := 13) rfl) rfl (by decide) (by first | exact Nat.one_pos | assumption | omega) (by decide) rfl (by omega) ?_
      exact z_iret hX hR (D_Four_trace (i := 14) rfl) rfl (hok i hi rfl)
    · refine z_iconst (v := -1) hX (D_Four_trace (i := 7) rfl) (by decide) ?_
      refine z_goto (tgt := 28) hX (D_Four_trace (i := 8) rfl) (by decide) ?_
      exact z_iret hX hR (D_Four_trace (i := 14) rfl) rfl (hno (inN_hi (Int32.not_lt.mp h2) (by omega)))
theorem c_Four_keep (hH : zHas ι pX) (hn : mem.1 27 0 1 = nI nb) (h50 : nb ≤ 50) (hno : (inN x 6 = false ∨ (¬ y = -1 ∧ inN y nb = false)) → Post (some (zI (-1))) mem) (hclr : ∀ k, k < 6 → x = nI k → y = -1 → Post (some (zI 1)) (upI mem 31 k 0 0)) (hok : ∀ k b, k < 6 → b < nb → x = nI k → y = nI b → Post (some (zI 1)) (upI (upI mem 31 k 0 1) 31 k 1 (nI b))) : zC l ι M_Four_keep 1 [zP 0 0, zI x, zI y] mem Post := by
  refine z_enter hH (by decide) (by simp [z_ent, M_Four_keep]) (fun X hXl hX hR => ?_)
  refine z_iload_n hX (D_Four_keep (i := 0) rfl) rfl ?_
  refine z_cS1 hX (D_Four_keep (i := 1) rfl) ms_Four_isShelf l_Four_75 (by first | decide | omega) (Nat.le_of_ble_eq_true rfl) (c_Four_isShelf ?_)
  refine z_if_eq (tgt := 23) hX (D_Four_keep (i := 2) rfl) (by decide) (fun h1 => ?_) (fun h1 => ?_)
  · refine z_iconst (v := -1) hX (D_Four_keep (i := 11) rfl) (by decide) ?_
    exact z_iret hX hR (D_Four_keep (i := 12) rfl) rfl (hno (Or.inl (bI_0.mp h1)))
  · skip
    obtain ⟨k, hk, rfl⟩ := inN_ex (bI_n.mp h1) (by omega)
    refine z_iload_n hX (D_Four_keep (i := 3) rfl) rfl ?_
    refine z_iconst (v := -1) hX (D_Four_keep (i := 4) rfl) (by decide) ?_
    refine z_icmp_lt (tgt := 23) hX (D_Four_keep (i := 5) rfl) (by decide) (fun h2 => ?_) (fun h2 => ?_)
    · refine z_iconst (v := -1) hX (D_Four_keep (i := 11) rfl) (by decide) ?_
      refine z_iret hX hR (D_Four_keep (i := 12) rfl) rfl (hno (Or.inr ⟨fun e => ?_, inN_lo ?_⟩))
      · rw [e] at h2; exact absurd h2 (by decide)
      · have a1 := Int32.lt_iff_toInt_lt.mp h2
        have a2 : (-1 : Int32).toInt = -1 := rfl
        exact Int32.lt_iff_toInt_lt.mpr (by rw [i32_0]; omega)
    · refine z_iload_n hX (D_Four_keep (i := 6) rfl) rfl ?_
      refine z_aload_n hX (D_Four_keep (i := 7) rfl) rfl ?_
      refine z_getc hX (D_Four_keep (i := 8) rfl) f_Four_52 rfl (by decide) (by first | exact Nat.one_pos | assumption | omega) rfl ?_
      refine z_geti hX (D_Four_keep (i := 9) rfl) f_Four_262 rfl (by decide) (by first | exact Nat.one_pos | assumption | omega) rfl ?_
      rw [hn]
      refine z_icmp_lt (tgt := 25) hX (D_Four_keep (i := 10) rfl) (by decide) (fun h3 => ?_) (fun h3 => ?_)
      · refine z_iload_n hX (D_Four_keep (i := 13) rfl) rfl ?_
        refine z_if_ge (tgt := 41) hX (D_Four_keep (i := 14) rfl) (by decide) (fun h4 => ?_) (fun h4 => ?_)
        · skip
          obtain ⟨b, hb, rfl⟩ := inN_ex (inN_in (fun w => absurd h4 (Int32.not_le.mpr w)) (ltT.mp h3) (by omega)) (by omega)
          refine z_aload_n hX (D_Four_keep (i := 21) rfl) rfl ?_
          refine z_getc hX (D_Four_keep (i := 22) rfl) f_Four_58 rfl (by decide) (by first | exact Nat.one_pos | assumption | omega) rfl ?_
          refine z_iload_n hX (D_Four_keep (i := 23) rfl) rfl ?_
          refine z_aldShelfc (j := k) hX (D_Four_keep (i := 24) rfl) rfl (by decide) (by first | exact Nat.one_pos | assumption | omega) (by decide) rfl hk ?_
          refine z_iload_n hX (D_Four_keep (i := 25) rfl) rfl ?_
          refine z_cV1 hX (D_Four_keep (i := 26) rfl) mi_Shelf_holdBody l_Four_266 rfl rfl (by decide) (by first | exact Nat.one_pos | assumption | omega) (by first | decide | omega) (Nat.le_of_ble_eq_true rfl) (c_Shelf_holdBody hH hk ?_)
          refine z_iconst (v := 1) hX (D_Four_keep (i := 27) rfl) (by decide) ?_
          exact z_iret hX hR (D_Four_keep (i := 28) rfl) rfl (hok k b hk hb rfl rfl)
        · skip
          have e : y = -1 := by
            have a1 : ¬ y.toInt < (-1 : Int32).toInt := fun w => h2 (Int32.lt_iff_toInt_lt.mpr w)
            have a2 : ¬ (0 : Int32).toInt ≤ y.toInt := fun w => h4 (Int32.le_iff_toInt_le.mpr w)
            have a3 : (-1 : Int32).toInt = -1 := rfl
            rw [i32_0] at a2
            refine Int32.toInt_inj.mp ?_
            omega
          refine z_aload_n hX (D_Four_keep (i := 15) rfl) rfl ?_
          refine z_getc hX (D_Four_keep (i := 16) rfl) f_Four_58 rfl (by decide) (by first | exact Nat.one_pos | assumption | omega) rfl ?_
          refine z_iload_n hX (D_Four_keep (i := 17) rfl) rfl ?_
          refine z_aldShelfc (j := k) hX (D_Four_keep (i := 18) rfl) rfl (by decide) (by first | exact Nat.one_pos | assumption | omega) (by decide) rfl hk ?_
          refine z_cV0 hX (D_Four_keep (i := 19) rfl) mi_Shelf_clear l_Four_263 rfl rfl (by decide) (by first | exact Nat.one_pos | assumption | omega) (by first | decide | omega) (Nat.le_of_ble_eq_true rfl) (c_Shelf_clear hH hk ?_)
          refine z_goto (tgt := 51) hX (D_Four_keep (i := 20) rfl) (by decide) ?_
          refine z_iconst (v := 1) hX (D_Four_keep (i := 27) rfl) (by decide) ?_
          exact z_iret hX hR (D_Four_keep (i := 28) rfl) rfl (hclr k hk rfl e)
      · refine z_iconst (v := -1) hX (D_Four_keep (i := 11) rfl) (by decide) ?_
        have a1 := Int32.not_lt.mp h3
        refine z_iret hX hR (D_Four_keep (i := 12) rfl) rfl (hno (Or.inr ⟨fun e => ?_, inN_hi a1 (by omega)⟩))
        rw [e] at a1
        have a2 := Int32.le_iff_toInt_le.mp a1
        rw [nI_toInt (by omega)] at a2
        have a3 : (-1 : Int32).toInt = -1 := rfl
        omega
theorem c_Four_row (hH : zHas ι pX) (hno : (inN x 6 = false ∨ inN y 5 = false ∨ nI 61 ≤ z) → Post (some (zI (-1))) mem) (hneg : inN x 6 = true → inN y 5 = true → z < 0 → Post (some (zI (-14))) mem) (hok : ∀ k s n, k < 6 → s < 5 → n ≤ 60 → x = nI k → y = nI s → z = nI n → Post (some (zI 1)) (flJ (upI (upI (upI mem 31 k 0 2) 31 k 2 (nI s)) 31 k 3 (nI n)) 32 k 60 0)) : zC l ι M_Four_row 2 [zP 0 0, zI x, zI y, zI z] mem Post := by
  refine z_enter hH (by decide) (by simp [z_ent, M_Four_row]) (fun X hXl hX hR => ?_)
  refine z_iload_n hX (D_Four_row (i := 0) rfl) rfl ?_
  refine z_cS1 hX (D_Four_row (i := 1) rfl) ms_Four_isShelf l_Four_75 (by first | decide | omega) (Nat.le_of_ble_eq_true rfl) (c_Four_isShelf ?_)
  refine z_if_eq (tgt := 22) hX (D_Four_row (i := 2) rfl) (by decide) (fun h1 => ?_) (fun h1 => ?_)
  · refine z_iconst (v := -1) hX (D_Four_row (i := 11) rfl) (by decide) ?_
    exact z_iret hX hR (D_Four_row (i := 12) rfl) rfl (hno (Or.inl (bI_0.mp h1)))
  · refine z_iload_n hX (D_Four_row (i := 3) rfl) rfl ?_
    refine z_if_lt (tgt := 22) hX (D_Four_row (i := 4) rfl) (by decide) (fun h2 => ?_) (fun h2 => ?_)
    · refine z_iconst (v := -1) hX (D_Four_row (i := 11) rfl) (by decide) ?_
      exact z_iret hX hR (D_Four_row (i := 12) rfl) rfl (hno (Or.inr (Or.inl (inN_lo h2))))
    · refine z_iload_n hX (D_Four_row (i := 5) rfl) rfl ?_
      refine z_iconst (v := 5) hX (D_Four_row (i := 6) rfl) (by decide) ?_
      refine z_icmp_ge (tgt := 22) hX (D_Four_row (i := 7) rfl) (by decide) (fun h3 => ?_) (fun h3 => ?_)
      · refine z_iconst (v := -1) hX (D_Four_row (i := 11) rfl) (by decide) ?_
        exact z_iret hX hR (D_Four_row (i := 12) rfl) rfl (hno (Or.inr (Or.inl (inN_hi (n := 5) h3 (by decide)))))
      · refine z_iload_n hX (D_Four_row (i := 8) rfl) rfl ?_
        refine z_bipush (v := 60) hX (D_Four_row (i := 9) rfl) (by decide) ?_
        refine z_icmp_le (tgt := 24) hX (D_Four_row (i := 10) rfl) (by decide) (fun h4 => ?_) (fun h4 => ?_)
        · refine z_iload_n hX (D_Four_row (i := 13) rfl) rfl ?_
          have h5 := leT (n := 60) (by decide) |>.mp h4
          refine z_if_ge (tgt := 31) hX (D_Four_row (i := 14) rfl) (by decide) (fun h6 => ?_) (fun h6 => ?_)
          · skip
            obtain ⟨k, hk, rfl⟩ := inN_ex (bI_n.mp h1) (by omega)
            obtain ⟨s, hs, rfl⟩ := inN_ex (inN_in (n := 5) h2 h3 (by decide)) (by omega)
            obtain ⟨n, hn, rfl⟩ := inN_ex (inN_in (n := 61) (fun w => absurd h6 (Int32.not_le.mpr w)) h5 (by decide)) (by omega)
            refine z_aload_n hX (D_Four_row (i := 17) rfl) rfl ?_
            refine z_getc hX (D_Four_row (i := 18) rfl) f_Four_58 rfl (by decide) (by first | exact Nat.one_pos | assumption | omega) rfl ?_
            refine z_iload_n hX (D_Four_row (i := 19) rfl) rfl ?_
            refine z_aldShelfc (j := k) hX (D_Four_row (i := 20) rfl) rfl (by decide) (by first | exact Nat.one_pos | assumption | omega) (by decide) rfl hk ?_
            refine z_iload_n hX (D_Four_row (i := 21) rfl) rfl ?_
            refine z_iload_n hX (D_Four_row (i := 22) rfl) rfl ?_
            refine z_cV2 hX (D_Four_row (i := 23) rfl) mi_Shelf_holdRow l_Four_269 rfl rfl (by decide) (by first | exact Nat.one_pos | assumption | omega) (by first | decide | omega) (Nat.le_of_ble_eq_true rfl) (c_Shelf_holdRow hH hk ?_)
            refine z_iconst (v := 1) hX (D_Four_row (i := 24) rfl) (by decide) ?_
            exact z_iret hX hR (D_Four_row (i := 25) rfl) rfl (hok k s n hk hs (by omega) rfl rfl rfl)
          · refine z_bipush (v := -14) hX (D_Four_row (i := 15) rfl) (by decide) ?_
            exact z_iret hX hR (D_Four_row (i := 16) rfl) rfl (hneg (bI_n.mp h1) (inN_in (n := 5) h2 h3 (by decide)) (Int32.not_le.mp h6))
        · refine z_iconst (v := -1) hX (D_Four_row (i := 11) rfl) (by decide) ?_
          refine z_iret hX hR (D_Four_row (i := 12) rfl) rfl (hno (Or.inr (Or.inr (Classical.byContradiction (fun w => h4 (leT (n := 60) (by decide) |>.mpr w))))))
def rfV (mem : zM) (x i : Int32) : Int32 := if inN x 6 = true then (if mem.1 31 x.toNatClampNeg 0 = 0 then -11 else if ¬ mem.1 31 x.toNatClampNeg 0 = 2 then -12 else if inN i (mem.1 31 x.toNatClampNeg 3).toNatClampNeg = true then 0 else -13) else -1
theorem c_Four_refusalOf (hH : zHas ι pX) (hS : ShOK mem) (h : Post (some (zI (rfV mem x y))) mem) : zC l ι M_Four_refusalOf 1 [zP 0 0, zI x, zI y] mem Post := by
  unfold rfV at h
  refine z_enter hH (by decide) (by simp [z_ent, M_Four_refusalOf]) (fun X hXl hX hR => ?_)
  refine z_iload_n hX (D_Four_refusalOf (i := 0) rfl) rfl ?_
  refine z_cS1 hX (D_Four_refusalOf (i := 1) rfl) ms_Four_isShelf l_Four_75 (by first | decide | omega) (Nat.le_of_ble_eq_true rfl) (c_Four_isShelf ?_)
  refine z_if_ne (tgt := 9) hX (D_Four_refusalOf (i := 2) rfl) (by decide) (fun h1 => ?_) (fun h1 => ?_)
  · skip
    rw [if_pos (bI_n.mp h1)] at h
    obtain ⟨k, hk, rfl⟩ := inN_ex (bI_n.mp h1) (by omega)
    rw [nI_clamp (by omega)] at h
    obtain ⟨L, s, hL, h5, e3, e2⟩ := hS k hk
    rw [e3, nI_clamp (by omega)] at h
    refine z_aload_n hX (D_Four_refusalOf (i := 5) rfl) rfl ?_
    refine z_getc hX (D_Four_refusalOf (i := 6) rfl) f_Four_58 rfl (by decide) (by first | exact Nat.one_pos | assumption | omega) rfl ?_
    refine z_iload_n hX (D_Four_refusalOf (i := 7) rfl) rfl ?_
    refine z_aldShelfc (j := k) hX (D_Four_refusalOf (i := 8) rfl) rfl (by decide) (by first | exact Nat.one_pos | assumption | omega) (by decide) rfl hk ?_
    refine z_astore_n hX (D_Four_refusalOf (i := 9) rfl) (by decide) rfl ?_
    refine z_aload_n hX (D_Four_refusalOf (i := 10) rfl) rfl ?_
    refine z_cV0 hX (D_Four_refusalOf (i := 11) rfl) mi_Shelf_isBare l_Four_78 rfl rfl (by decide) (by first | exact Nat.one_pos | assumption | omega) (by first | decide | omega) (Nat.le_of_ble_eq_true rfl) (c_Shelf_isBare hH hk ?_)
    refine z_if_eq (tgt := 26) hX (D_Four_refusalOf (i := 12) rfl) (by decide) (fun h2 => ?_) (fun h2 => ?_)
    · refine z_aload_n hX (D_Four_refusalOf (i := 15) rfl) rfl ?_
      rw [if_neg (of_decide_eq_false (bI_0.mp h2))] at h
      refine z_cV0 hX (D_Four_refusalOf (i := 16) rfl) mi_Shelf_isRow l_Four_82 rfl rfl (by decide) (by first | exact Nat.one_pos | assumption | omega) (by first | decide | omega) (Nat.le_of_ble_eq_true rfl) (c_Shelf_isRow hH hk ?_)
      refine z_if_ne (tgt := 36) hX (D_Four_refusalOf (i := 17) rfl) (by decide) (fun h3 => ?_) (fun h3 => ?_)
      · refine z_iload_n hX (D_Four_refusalOf (i := 20) rfl) rfl ?_
        rw [if_neg (fun w => w (of_decide_eq_true (bI_n.mp h3)))] at h
        refine z_if_lt (tgt := 48) hX (D_Four_refusalOf (i := 21) rfl) (by decide) (fun h4 => ?_) (fun h4 => ?_)
        · refine z_bipush (v := -13) hX (D_Four_refusalOf (i := 26) rfl) (by decide) ?_
          refine z_goto (tgt := 54) hX (D_Four_refusalOf (i := 27) rfl) (by decide) ?_
          rw [if_neg (by rw [inN_lo h4]; decide)] at h
          exact z_iret hX hR (D_Four_refusalOf (i := 29) rfl) rfl (by assumption)
        · refine z_iload_n hX (D_Four_refusalOf (i := 22) rfl) rfl ?_
          refine z_aload_n hX (D_Four_refusalOf (i := 23) rfl) rfl ?_
          refine z_geti hX (D_Four_refusalOf (i := 24) rfl) f_Four_312 rfl (by decide) (by first | exact Nat.one_pos | assumption | omega) rfl ?_
          rw [e3]
          refine z_icmp_lt (tgt := 53) hX (D_Four_refusalOf (i := 25) rfl) (by decide) (fun h6 => ?_) (fun h6 => ?_)
          · refine z_iconst (v := 0) hX (D_Four_refusalOf (i := 28) rfl) (by decide) ?_
            rw [if_pos (inN_in h4 (ltT.mp h6) (by omega))] at h
            exact z_iret hX hR (D_Four_refusalOf (i := 29) rfl) rfl (by assumption)
          · refine z_bipush (v := -13) hX (D_Four_refusalOf (i := 26) rfl) (by decide) ?_
            refine z_goto (tgt := 54) hX (D_Four_refusalOf (i := 27) rfl) (by decide) ?_
            rw [if_neg (by rw [inN_hi (Int32.not_lt.mp h6) (by omega)]; decide)] at h
            exact z_iret hX hR (D_Four_refusalOf (i := 29) rfl) rfl (by assumption)
      · refine z_bipush (v := -12) hX (D_Four_refusalOf (i := 18) rfl) (by decide) ?_
        rw [if_pos (of_decide_eq_false (bI_0.mp h3))] at h
        exact z_iret hX hR (D_Four_refusalOf (i := 19) rfl) rfl (by assumption)
    · refine z_bipush (v := -11) hX (D_Four_refusalOf (i := 13) rfl) (by decide) ?_
      rw [if_pos (of_decide_eq_true (bI_n.mp h2))] at h
      exact z_iret hX hR (D_Four_refusalOf (i := 14) rfl) rfl (by assumption)
  · refine z_iconst (v := -1) hX (D_Four_refusalOf (i := 3) rfl) (by decide) ?_
    rw [if_neg (by rw [bI_0.mp h1]; decide)] at h
    exact z_iret hX hR (D_Four_refusalOf (i := 4) rfl) rfl (by assumption)
theorem rfV_0 {mem : zM} {x i : Int32} (hS : ShOK mem) (h : rfV mem x i = 0) : ∃ k j L s : Nat, k < 6 ∧ x = nI k ∧ j < L ∧ L ≤ 60 ∧ s < 5 ∧ i = nI j ∧ mem.1 31 k 0 = 2 ∧ mem.1 31 k 3 = nI L ∧ mem.1 31 k 2 = nI s := by
  unfold rfV at h
  split at h
  · next h1 =>
    obtain ⟨k, hk, rfl⟩ := inN_ex h1 (by omega)
    rw [nI_clamp (by omega)] at h
    obtain ⟨L, s, hL, h5, e3, e2⟩ := hS k hk
    rw [e3, nI_clamp (by omega)] at h
    split at h
    · exact absurd h (by decide)
    · split at h
      · exact absurd h (by decide)
      · next h3 =>
        split at h
        · next h4 =>
          obtain ⟨j, hj, rfl⟩ := inN_ex h4 (by omega)
          exact ⟨k, j, L, s, hk, rfl, hj, hL, h5, rfl, Classical.not_not.mp h3, e3, e2⟩
        · exact absurd h (by decide)
  · exact absurd h (by decide)
theorem c_Four_put (hH : zHas ι pX) (hS : ShOK mem) {v : Int64} (hno : ¬ rfV mem x y = 0 → Post (some (zI (rfV mem x y))) mem) (hok : ∀ k j s, k < 6 → j < 60 → s < 5 → x = nI k → y = nI j → mem.1 31 k 2 = nI s → rfV mem x y = 0 → Post (some (zI 1)) (upJ mem 32 k j (snJ s v))) : zC l ι M_Four_put 2 [zP 0 0, zI x, zI y, zJ v] mem Post := by
  refine z_enter hH (by decide) (by simp [z_ent, M_Four_put]) (fun X hXl hX hR => ?_)
  refine z_aload_n hX (D_Four_put (i := 0) rfl) rfl ?_
  refine z_iload_n hX (D_Four_put (i := 1) rfl) rfl ?_
  refine z_iload_n hX (D_Four_put (i := 2) rfl) rfl ?_
  refine z_cV2 hX (D_Four_put (i := 3) rfl) mi_Four_refusalOf l_Four_272 rfl rfl (by decide) (by first | exact Nat.one_pos | assumption | omega) (by first | decide | omega) (Nat.le_of_ble_eq_true rfl) (c_Four_refusalOf hH hS ?_)
  refine z_istore hX (D_Four_put (i := 4) rfl) (by decide) rfl ?_
  refine z_iload hX (D_Four_put (i := 5) rfl) rfl ?_
  refine z_if_eq (tgt := 16) hX (D_Four_put (i := 6) rfl) (by decide) (fun h1 => ?_) (fun h1 => ?_)
  · skip
    obtain ⟨k, j, L, s, hk, rfl, hj, hL, h5, rfl, e0, e3, e2⟩ := rfV_0 hS h1
    refine z_aload_n hX (D_Four_put (i := 9) rfl) rfl ?_
    refine z_getc hX (D_Four_put (i := 10) rfl) f_Four_58 rfl (by decide) (by first | exact Nat.one_pos | assumption | omega) rfl ?_
    refine z_iload_n hX (D_Four_put (i := 11) rfl) rfl ?_
    refine z_aldShelfc (j := k) hX (D_Four_put (i := 12) rfl) rfl (by decide) (by first | exact Nat.one_pos | assumption | omega) (by decide) rfl hk ?_
    refine z_iload_n hX (D_Four_put (i := 13) rfl) rfl ?_
    refine z_lload_n hX (D_Four_put (i := 14) rfl) rfl ?_
    refine z_cV2 hX (D_Four_put (i := 15) rfl) mi_Shelf_store l_Four_275 rfl rfl (by decide) (by first | exact Nat.one_pos | assumption | omega) (by first | decide | omega) (Nat.le_of_ble_eq_true rfl) (c_Shelf_store hH hk (by omega) e2 h5 ?_)
    refine z_iconst (v := 1) hX (D_Four_put (i := 16) rfl) (by decide) ?_
    exact z_iret hX hR (D_Four_put (i := 17) rfl) rfl (hok k j s hk (by omega) h5 rfl rfl e2 h1)
  · refine z_iload hX (D_Four_put (i := 7) rfl) rfl ?_
    exact z_iret hX hR (D_Four_put (i := 8) rfl) rfl (hno h1)
theorem c_Four_element (hH : zHas ι pX) (hS : ShOK mem) (hno : ¬ rfV mem x y = 0 → Post (some (zJ (-9223372036854775808))) mem) (hok : ∀ k j, k < 6 → j < 60 → x = nI k → y = nI j → rfV mem x y = 0 → Post (some (zJ (mem.2.1 32 k j))) mem) : zC l ι M_Four_element 2 [zP 0 0, zI x, zI y] mem Post := by
  refine z_enter hH (by decide) (by simp [z_ent, M_Four_element]) (fun X hXl hX hR => ?_)
  refine z_aload_n hX (D_Four_element (i := 0) rfl) rfl ?_
  refine z_iload_n hX (D_Four_element (i := 1) rfl) rfl ?_
  refine z_iload_n hX (D_Four_element (i := 2) rfl) rfl ?_
  refine z_cV2 hX (D_Four_element (i := 3) rfl) mi_Four_refusalOf l_Four_272 rfl rfl (by decide) (by first | exact Nat.one_pos | assumption | omega) (by first | decide | omega) (Nat.le_of_ble_eq_true rfl) (c_Four_refusalOf hH hS ?_)
  refine z_if_eq (tgt := 15) hX (D_Four_element (i := 4) rfl) (by decide) (fun h1 => ?_) (fun h1 => ?_)
  · skip
    obtain ⟨k, j, L, s, hk, rfl, hj, hL, h5, rfl, e0, e3, e2⟩ := rfV_0 hS h1
    refine z_aload_n hX (D_Four_element (i := 7) rfl) rfl ?_
    refine z_getc hX (D_Four_element (i := 8) rfl) f_Four_58 rfl (by decide) (by first | exact Nat.one_pos | assumption | omega) rfl ?_
    refine z_iload_n hX (D_Four_element (i := 9) rfl) rfl ?_
    refine z_aldShelfc (j := k) hX (D_Four_element (i := 10) rfl) rfl (by decide) (by first | exact Nat.one_pos | assumption | omega) (by decide) rfl hk ?_
    refine z_getc hX (D_Four_element (i := 11) rfl) f_Four_91 rfl (by decide) (by first | exact Nat.one_pos | assumption | omega) rfl ?_
    refine z_iload_n hX (D_Four_element (i := 12) rfl) rfl ?_
    refine z_lald (j := j) hX (D_Four_element (i := 13) rfl) rfl (by decide) (by first | exact Nat.one_pos | assumption | omega) (by decide) rfl (by omega) ?_
    exact z_lret hX hR (D_Four_element (i := 14) rfl) rfl (hok k j hk (by omega) rfl rfl h1)
  · refine z_ldc2 (v := -9223372036854775808) hX (D_Four_element (i := 5) rfl) k_Four_281 ?_
    refine z_goto (tgt := 26) hX (D_Four_element (i := 6) rfl) (by decide) ?_
    exact z_lret hX hR (D_Four_element (i := 14) rfl) rfl (hno h1)
end F6
end
section
/-! taken, count, feed, shift, undo, redo, paint -/
section F7
variable {l : Launch} {ι : zE} {mem : zM} {Post : Option zV → zM → Prop} {x y z : Int32} {sz nb : Nat}
theorem c_Four_taken (hH : zHas ι pX) (hn : mem.1 27 0 1 = nI nb) (h50 : nb ≤ 50) (hk : ∀ b, b < nb → ∃ κ, κ < 8 ∧ mem.1 28 0 b = nI κ) (hbd : ∀ k, k < 6 → mem.1 31 k 0 = 0 ∨ mem.1 31 k 0 = 2 ∨ (mem.1 31 k 0 = 1 ∧ ∃ b, b < nb ∧ mem.1 31 k 1 = nI b)) (hno : (inN x 6 && inN y 8) = false → Post (some (zI (-1))) mem) (hbare : ∀ k, k < 6 → x = nI k → inN y 8 = true → mem.1 31 k 0 = 0 → Post (some (zI (-11))) mem) (hrow : ∀ k, k < 6 → x = nI k → inN y 8 = true → mem.1 31 k 0 = 2 → Post (some (zI (-12))) mem) (hok : ∀ k t b κ, k < 6 → t < 8 → b < nb → κ < 8 → x = nI k → y = nI t → mem.1 31 k 0 = 1 → mem.1 31 k 1 = nI b → mem.1 28 0 b = nI κ → Post (some (zI (if unN 8 κ t = true then nI κ else -12))) mem) : zC l ι M_Four_taken 2 [zP 0 0, zI x, zI y] mem Post := by
  refine z_enter hH (by decide) (by simp [z_ent, M_Four_taken]) (fun X hXl hX hR => ?_)
  refine z_iload_n hX (D_Four_taken (i := 0) rfl) rfl ?_
  refine z_cS1 hX (D_Four_taken (i := 1) rfl) ms_Four_isShelf l_Four_75 (by first | decide | omega) (Nat.le_of_ble_eq_true rfl) (c_Four_isShelf ?_)
  refine z_if_eq (tgt := 14) hX (D_Four_taken (i := 2) rfl) (by decide) (fun h1 => ?_) (fun h1 => ?_)
  · refine z_iconst (v := -1) hX (D_Four_taken (i := 6) rfl) (by decide) ?_
    exact z_iret hX hR (D_Four_taken (i := 7) rfl) rfl (hno (by rw [bI_0.mp h1]; rfl))
  · refine z_iload_n hX (D_Four_taken (i := 3) rfl) rfl ?_
    refine z_cS1 hX (D_Four_taken (i := 4) rfl) ms_Four_isKind l_Four_247 (by first | decide | omega) (Nat.le_of_ble_eq_true rfl) (c_Four_isKind ?_)
    refine z_if_ne (tgt := 16) hX (D_Four_taken (i := 5) rfl) (by decide) (fun h2 => ?_) (fun h2 => ?_)
    · skip
      obtain ⟨k, hk6, rfl⟩ := inN_ex (bI_n.mp h1) (by omega)
      refine z_aload_n hX (D_Four_taken (i := 8) rfl) rfl ?_
      refine z_getc hX (D_Four_taken (i := 9) rfl) f_Four_58 rfl (by decide) (by first | exact Nat.one_pos | assumption | omega) rfl ?_
      refine z_iload_n hX (D_Four_taken (i := 10) rfl) rfl ?_
      refine z_aldShelfc (j := k) hX (D_Four_taken (i := 11) rfl) rfl (by decide) (by first | exact Nat.one_pos | assumption | omega) (by decide) rfl hk6 ?_
      refine z_astore_n hX (D_Four_taken (i := 12) rfl) (by decide) rfl ?_
      refine z_aload_n hX (D_Four_taken (i := 13) rfl) rfl ?_
      refine z_cV0 hX (D_Four_taken (i := 14) rfl) mi_Shelf_isBare l_Four_78 rfl rfl (by decide) (by first | exact Nat.one_pos | assumption | omega) (by first | decide | omega) (Nat.le_of_ble_eq_true rfl) (c_Shelf_isBare hH hk6 ?_)
      refine z_if_eq (tgt := 33) hX (D_Four_taken (i := 15) rfl) (by decide) (fun h3 => ?_) (fun h3 => ?_)
      · refine z_aload_n hX (D_Four_taken (i := 18) rfl) rfl ?_
        have n3 := of_decide_eq_false (bI_0.mp h3)
        refine z_cV0 hX (D_Four_taken (i := 19) rfl) mi_Shelf_isRow l_Four_82 rfl rfl (by decide) (by first | exact Nat.one_pos | assumption | omega) (by first | decide | omega) (Nat.le_of_ble_eq_true rfl) (c_Shelf_isRow hH hk6 ?_)
        refine z_if_ne (tgt := 58) hX (D_Four_taken (i := 20) rfl) (by decide) (fun h4 => ?_) (fun h4 => ?_)
        · refine z_bipush (v := -12) hX (D_Four_taken (i := 29) rfl) (by decide) ?_
          exact z_iret hX hR (D_Four_taken (i := 30) rfl) rfl (hrow k hk6 rfl (bI_n.mp h2) (of_decide_eq_true (bI_n.mp h4)))
        · skip
          have n4 := of_decide_eq_false (bI_0.mp h4)
          rcases hbd k hk6 with e | e | ⟨e, b, hb, e1⟩
          · exact absurd e n3
          · exact absurd e n4
          · obtain ⟨κ, h8, e2⟩ := hk b hb
            obtain ⟨t, ht, rfl⟩ := inN_ex (bI_n.mp h2) (by omega)
            have hh := hok k t b κ hk6 ht hb h8 rfl rfl e e1 e2
            refine z_aload_n hX (D_Four_taken (i := 21) rfl) rfl ?_
            refine z_getc hX (D_Four_taken (i := 22) rfl) f_Four_52 rfl (by decide) (by first | exact Nat.one_pos | assumption | omega) rfl ?_
            refine z_aload_n hX (D_Four_taken (i := 23) rfl) rfl ?_
            refine z_geti hX (D_Four_taken (i := 24) rfl) f_Four_292 rfl (by decide) (by first | exact Nat.one_pos | assumption | omega) rfl ?_
            rw [e1]
            refine z_cV1 hX (D_Four_taken (i := 25) rfl) mi_Bodies_kindOf l_Four_295 rfl rfl (by decide) (by first | exact Nat.one_pos | assumption | omega) (by first | decide | omega) (Nat.le_of_ble_eq_true rfl) (c_Bodies_kindOf hH hn h50 hb ?_)
            rw [e2]
            refine z_iload_n hX (D_Four_taken (i := 26) rfl) rfl ?_
            refine z_cS2 hX (D_Four_taken (i := 27) rfl) ms_Bodies_isUnder l_Four_298 (by first | decide | omega) (Nat.le_of_ble_eq_true rfl) (c_Bodies_isUnder h8 ht ?_)
            refine z_if_ne (tgt := 61) hX (D_Four_taken (i := 28) rfl) (by decide) (fun h5 => ?_) (fun h5 => ?_)
            · refine z_aload_n hX (D_Four_taken (i := 31) rfl) rfl ?_
              refine z_getc hX (D_Four_taken (i := 32) rfl) f_Four_52 rfl (by decide) (by first | exact Nat.one_pos | assumption | omega) rfl ?_
              refine z_aload_n hX (D_Four_taken (i := 33) rfl) rfl ?_
              refine z_geti hX (D_Four_taken (i := 34) rfl) f_Four_292 rfl (by decide) (by first | exact Nat.one_pos | assumption | omega) rfl ?_
              rw [if_pos (bI_n.mp h5)] at hh
              rw [e1]
              refine z_cV1 hX (D_Four_taken (i := 35) rfl) mi_Bodies_kindOf l_Four_295 rfl rfl (by decide) (by first | exact Nat.one_pos | assumption | omega) (by first | decide | omega) (Nat.le_of_ble_eq_true rfl) (c_Bodies_kindOf hH hn h50 hb ?_)
              rw [e2]
              exact z_iret hX hR (D_Four_taken (i := 36) rfl) rfl hh
            · refine z_bipush (v := -12) hX (D_Four_taken (i := 29) rfl) (by decide) ?_
              rw [if_neg (by rw [bI_0.mp h5]; decide)] at hh
              exact z_iret hX hR (D_Four_taken (i := 30) rfl) rfl hh
      · refine z_bipush (v := -11) hX (D_Four_taken (i := 16) rfl) (by decide) ?_
        exact z_iret hX hR (D_Four_taken (i := 17) rfl) rfl (hbare k hk6 rfl (bI_n.mp h2) (of_decide_eq_true (bI_n.mp h3)))
    · refine z_iconst (v := -1) hX (D_Four_taken (i := 6) rfl) (by decide) ?_
      exact z_iret hX hR (D_Four_taken (i := 7) rfl) rfl (hno (by rw [bI_0.mp h2]; simp))
theorem c_Four_count (hH : zHas ι pX) (hno : inN x 6 = false → Post (some (zI (-1))) mem) (h0 : x = 0 → Post (some (zI (mem.1 0 0 1))) mem) (h1 : x = 1 → Post (some (zI (mem.1 0 0 2))) mem) (h2 : x = 2 → Post (some (zI (mem.1 4 0 1))) mem) (h3 : x = 3 → Post (some (zI (mem.1 23 0 3))) mem) (h4 : x = 4 → Post (some (zI (mem.1 27 0 1))) mem) (h5 : x = 5 → Post (some (zI (mem.1 27 0 3))) mem) : zC l ι M_Four_count 0 [zP 0 0, zI x] mem Post := by
  refine z_enter hH (by decide) (by simp [z_ent, M_Four_count]) (fun X hXl hX hR => ?_)
  refine z_iload_n hX (D_Four_count (i := 0) rfl) rfl ?_
  cases hb : inN x 6 with
  | false =>
    have hb2 := of_decide_eq_false hb
    refine z_tabOut (tgt := 82) hX (D_Four_count (i := 1) rfl) (by omega) (by decide) ?_
    refine z_iconst (v := -1) hX (D_Four_count (i := 24) rfl) (by decide) ?_
    exact z_iret hX hR (D_Four_count (i := 25) rfl) rfl (hno hb)
  | true =>
    obtain ⟨k, hk, rfl⟩ := inN_ex hb (by omega)
    match k, hk, h0, h1, h2, h3, h4, h5 with
    | 0, _, h0, h1, h2, h3, h4, h5 =>
      refine z_tabIn (off := 39) (tgt := 40) hX (D_Four_count (i := 1) rfl) (by decide) (by decide) (by decide) (by decide) ?_
      refine z_aload_n hX (D_Four_count (i := 2) rfl) rfl ?_
      refine z_geti hX (D_Four_count (i := 3) rfl) f_Four_67 rfl (by decide) (by first | exact Nat.one_pos | assumption | omega) rfl ?_
      exact z_iret hX hR (D_Four_count (i := 4) rfl) rfl (h0 rfl)
    | 1, _, h0, h1, h2, h3, h4, h5 =>
      refine z_tabIn (off := 44) (tgt := 45) hX (D_Four_count (i := 1) rfl) (by decide) (by decide) (by decide) (by decide) ?_
      refine z_aload_n hX (D_Four_count (i := 5) rfl) rfl ?_
      refine z_geti hX (D_Four_count (i := 6) rfl) f_Four_127 rfl (by decide) (by first | exact Nat.one_pos | assumption | omega) rfl ?_
      exact z_iret hX hR (D_Four_count (i := 7) rfl) rfl (h1 rfl)
    | 2, _, h0, h1, h2, h3, h4, h5 =>
      refine z_tabIn (off := 49) (tgt := 50) hX (D_Four_count (i := 1) rfl) (by decide) (by decide) (by decide) (by decide) ?_
      refine z_aload_n hX (D_Four_count (i := 8) rfl) rfl ?_
      refine z_getc hX (D_Four_count (i := 9) rfl) f_Four_19 rfl (by decide) (by first | exact Nat.one_pos | assumption | omega) rfl ?_
      refine z_geti hX (D_Four_count (i := 10) rfl) f_Four_301 rfl (by decide) (by first | exact Nat.one_pos | assumption | omega) rfl ?_
      exact z_iret hX hR (D_Four_count (i := 11) rfl) rfl (h2 rfl)
    | 3, _, h0, h1, h2, h3, h4, h5 =>
      refine z_tabIn (off := 57) (tgt := 58) hX (D_Four_count (i := 1) rfl) (by decide) (by decide) (by decide) (by decide) ?_
      refine z_aload_n hX (D_Four_count (i := 12) rfl) rfl ?_
      refine z_getc hX (D_Four_count (i := 13) rfl) f_Four_45 rfl (by decide) (by first | exact Nat.one_pos | assumption | omega) rfl ?_
      refine z_geti hX (D_Four_count (i := 14) rfl) f_Four_234 rfl (by decide) (by first | exact Nat.one_pos | assumption | omega) rfl ?_
      exact z_iret hX hR (D_Four_count (i := 15) rfl) rfl (h3 rfl)
    | 4, _, h0, h1, h2, h3, h4, h5 =>
      refine z_tabIn (off := 65) (tgt := 66) hX (D_Four_count (i := 1) rfl) (by decide) (by decide) (by decide) (by decide) ?_
      refine z_aload_n hX (D_Four_count (i := 16) rfl) rfl ?_
      refine z_getc hX (D_Four_count (i := 17) rfl) f_Four_52 rfl (by decide) (by first | exact Nat.one_pos | assumption | omega) rfl ?_
      refine z_geti hX (D_Four_count (i := 18) rfl) f_Four_262 rfl (by decide) (by first | exact Nat.one_pos | assumption | omega) rfl ?_
      exact z_iret hX hR (D_Four_count (i := 19) rfl) rfl (h4 rfl)
    | 5, _, h0, h1, h2, h3, h4, h5 =>
      refine z_tabIn (off := 73) (tgt := 74) hX (D_Four_count (i := 1) rfl) (by decide) (by decide) (by decide) (by decide) ?_
      refine z_aload_n hX (D_Four_count (i := 20) rfl) rfl ?_
      refine z_getc hX (D_Four_count (i := 21) rfl) f_Four_52 rfl (by decide) (by first | exact Nat.one_pos | assumption | omega) rfl ?_
      refine z_geti hX (D_Four_count (i := 22) rfl) f_Four_304 rfl (by decide) (by first | exact Nat.one_pos | assumption | omega) rfl ?_
      exact z_iret hX hR (D_Four_count (i := 23) rfl) rfl (h5 rfl)
theorem c_Law_takeByte (hH : zHas ι pL) {f : Nat} (hf : mem.1 4 0 1 = nI f) (h120 : f < 120) (h : Post (some (zI (nI (f + 1)))) (upI (upI mem 5 0 f x) 4 0 1 (nI (f + 1)))) : zC l ι M_Law_takeByte 0 [zP 4 0, zI x] mem Post := by
  refine z_enter hH (by decide) (by simp [z_ent, M_Law_takeByte]) (fun X hXl hX hR => ?_)
  refine z_aload_n hX (D_Law_takeByte (i := 0) rfl) rfl ?_
  refine z_geti hX (D_Law_takeByte (i := 1) rfl) f_Law_31 rfl (by decide) (by first | exact Nat.one_pos | assumption | omega) rfl ?_
  refine z_bipush (v := 120) hX (D_Law_takeByte (i := 2) rfl) (by decide) ?_
  rw [hf]
  refine z_icmp_lt (tgt := 12) hX (D_Law_takeByte (i := 3) rfl) (by decide) (fun _ => ?_) (fun hcc => absurd (nI_lt (b := 120) h120 (by decide)) hcc)
  refine z_aload_n hX (D_Law_takeByte (i := 6) rfl) rfl ?_
  refine z_getc hX (D_Law_takeByte (i := 7) rfl) f_Law_11 rfl (by decide) (by first | exact Nat.one_pos | assumption | omega) rfl ?_
  refine z_aload_n hX (D_Law_takeByte (i := 8) rfl) rfl ?_
  refine z_geti hX (D_Law_takeByte (i := 9) rfl) f_Law_31 rfl (by decide) (by first | exact Nat.one_pos | assumption | omega) rfl ?_
  refine z_iload_n hX (D_Law_takeByte (i := 10) rfl) rfl ?_
  rw [hf]
  refine z_iast (j := f) hX (D_Law_takeByte (i := 11) rfl) rfl (by decide) (by first | exact Nat.one_pos | assumption | omega) (by decide) rfl h120 ?_
  refine z_aload_n hX (D_Law_takeByte (i := 12) rfl) rfl ?_
  refine z_dupP hX (D_Law_takeByte (i := 13) rfl) ?_
  refine z_geti hX (D_Law_takeByte (i := 14) rfl) f_Law_31 rfl (by decide) (by first | exact Nat.one_pos | assumption | omega) rfl ?_
  refine z_iconst (v := 1) hX (D_Law_takeByte (i := 15) rfl) (by decide) ?_
  rw [show (upI mem 5 0 f x).1 4 0 1 = nI f by simp [upI_get, hf]]
  refine z_iadd hX (D_Law_takeByte (i := 16) rfl) ?_
  rw [nlit, nI_add]
  refine z_puti hX (D_Law_takeByte (i := 17) rfl) g_Law_31 rfl (by decide) (by first | exact Nat.one_pos | assumption | omega) rfl ?_
  refine z_aload_n hX (D_Law_takeByte (i := 18) rfl) rfl ?_
  refine z_geti hX (D_Law_takeByte (i := 19) rfl) f_Law_31 rfl (by decide) (by first | exact Nat.one_pos | assumption | omega) rfl ?_
  rw [show (upI (upI mem 5 0 f x) 4 0 1 (nI (f + 1))).1 4 0 1 = nI (f + 1) by simp [upI_get]]
  exact z_iret hX hR (D_Law_takeByte (i := 20) rfl) rfl (by assumption)
theorem c_Law_takeByte_full (hH : zHas ι pL) (hf : mem.1 4 0 1 = nI 120) (h : Post (some (zI (-3))) mem) : zC l ι M_Law_takeByte 0 [zP 4 0, zI x] mem Post := by
  refine z_enter hH (by decide) (by simp [z_ent, M_Law_takeByte]) (fun X hXl hX hR => ?_)
  refine z_aload_n hX (D_Law_takeByte (i := 0) rfl) rfl ?_
  refine z_geti hX (D_Law_takeByte (i := 1) rfl) f_Law_31 rfl (by decide) (by first | exact Nat.one_pos | assumption | omega) rfl ?_
  refine z_bipush (v := 120) hX (D_Law_takeByte (i := 2) rfl) (by decide) ?_
  rw [hf]
  refine z_icmp_lt (tgt := 12) hX (D_Law_takeByte (i := 3) rfl) (by decide) (fun hcc => absurd hcc (by decide)) (fun _ => ?_)
  refine z_bipush (v := -3) hX (D_Law_takeByte (i := 4) rfl) (by decide) ?_
  exact z_iret hX hR (D_Law_takeByte (i := 5) rfl) rfl (by assumption)
theorem c_Four_feed (hH : zHas ι pX) {f : Nat} (hf : mem.1 4 0 1 = nI f) (h120 : f ≤ 120) (hno : inN x 256 = false → Post (some (zI (-1))) mem) (hfull : inN x 256 = true → f = 120 → Post (some (zI (-3))) mem) (hok : inN x 256 = true → f < 120 → Post (some (zI (nI (f + 1)))) (upI (upI mem 5 0 f x) 4 0 1 (nI (f + 1)))) : zC l ι M_Four_feed 1 [zP 0 0, zI x] mem Post := by
  refine z_enter hH (by decide) (by simp [z_ent, M_Four_feed]) (fun X hXl hX hR => ?_)
  refine z_iload_n hX (D_Four_feed (i := 0) rfl) rfl ?_
  refine z_if_lt (tgt := 11) hX (D_Four_feed (i := 1) rfl) (by decide) (fun h1 => ?_) (fun h1 => ?_)
  · refine z_iconst (v := -1) hX (D_Four_feed (i := 5) rfl) (by decide) ?_
    exact z_iret hX hR (D_Four_feed (i := 6) rfl) rfl (hno (inN_lo h1))
  · refine z_iload_n hX (D_Four_feed (i := 2) rfl) rfl ?_
    refine z_sipush (v := 255) hX (D_Four_feed (i := 3) rfl) (by decide) ?_
    refine z_icmp_le (tgt := 13) hX (D_Four_feed (i := 4) rfl) (by decide) (fun h2 => ?_) (fun h2 => ?_)
    · skip
      have hb := inN_in (n := 256) h1 ((leT (n := 255) (by decide)).mp h2) (by decide)
      refine z_aload_n hX (D_Four_feed (i := 7) rfl) rfl ?_
      refine z_getc hX (D_Four_feed (i := 8) rfl) f_Four_19 rfl (by decide) (by first | exact Nat.one_pos | assumption | omega) rfl ?_
      refine z_iload_n hX (D_Four_feed (i := 9) rfl) rfl ?_
      by_cases h3 : f < 120
      · refine z_cV1 hX (D_Four_feed (i := 10) rfl) mi_Law_takeByte l_Four_130 rfl rfl (by decide) (by first | exact Nat.one_pos | assumption | omega) (by first | decide | omega) (Nat.le_of_ble_eq_true rfl) (c_Law_takeByte hH.L hf h3 ?_)
        exact z_iret hX hR (D_Four_feed (i := 11) rfl) rfl (hok hb h3)
      · obtain rfl : f = 120 := by omega
        refine z_cV1 hX (D_Four_feed (i := 10) rfl) mi_Law_takeByte l_Four_130 rfl rfl (by decide) (by first | exact Nat.one_pos | assumption | omega) (by first | decide | omega) (Nat.le_of_ble_eq_true rfl) (c_Law_takeByte_full hH.L hf ?_)
        exact z_iret hX hR (D_Four_feed (i := 11) rfl) rfl (hfull hb rfl)
    · refine z_iconst (v := -1) hX (D_Four_feed (i := 5) rfl) (by decide) ?_
      exact z_iret hX hR (D_Four_feed (i := 6) rfl) rfl (hno (inN_hi (n := 256) (Classical.byContradiction (fun w => h2 ((leT (n := 255) (by decide)).mpr w))) (by decide)))
variable {xi xj xn : Int32}
theorem c_Four_shift (hH : zHas ι pX) (hS : ShOK mem) (hno : (inN x 6 && inN y 6) = false → Post (some (zI (-1))) mem) (hbare : ∀ k o, k < 6 → o < 6 → x = nI k → y = nI o → (mem.1 31 k 0 = 0 ∨ mem.1 31 o 0 = 0) → Post (some (zI (-11))) mem) (hkind : ∀ k o, k < 6 → o < 6 → x = nI k → y = nI o → ¬ mem.1 31 k 0 = 0 → ¬ mem.1 31 o 0 = 0 → (¬ mem.1 31 k 0 = 2 ∨ ¬ mem.1 31 o 0 = 2 ∨ ¬ mem.1 31 k 2 = mem.1 31 o 2) → Post (some (zI (-12))) mem) (hpl : ∀ k o L L2, k < 6 → o < 6 → x = nI k → y = nI o → mem.1 31 k 0 = 2 → mem.1 31 o 0 = 2 → mem.1 31 k 2 = mem.1 31 o 2 → mem.1 31 k 3 = nI L → mem.1 31 o 3 = nI L2 → (hsB L xi xn && hsB L2 xj xn) = false → Post (some (zI (-13))) mem) (hok : ∀ k o L L2 i j n, k < 6 → o < 6 → x = nI k → y = nI o → mem.1 31 k 0 = 2 → mem.1 31 o 0 = 2 → mem.1 31 k 2 = mem.1 31 o 2 → mem.1 31 k 3 = nI L → mem.1 31 o 3 = nI L2 → L ≤ 60 → L2 ≤ 60 → i + n ≤ L → j + n ≤ L2 → xi = nI i → xj = nI j → xn = nI n → Post (some (zI (nI n))) (cpJ mem 32 k o i j n)) : zC l ι M_Four_shift 2 [zP 0 0, zI x, zI xi, zI y, zI xj, zI xn] mem Post := by
  refine z_enter hH (by decide) (by simp [z_ent, M_Four_shift]) (fun X hXl hX hR => ?_)
  refine z_iload_n hX (D_Four_shift (i := 0) rfl) rfl ?_
  refine z_cS1 hX (D_Four_shift (i := 1) rfl) ms_Four_isShelf l_Four_75 (by first | decide | omega) (Nat.le_of_ble_eq_true rfl) (c_Four_isShelf ?_)
  refine z_if_eq (tgt := 14) hX (D_Four_shift (i := 2) rfl) (by decide) (fun h1 => ?_) (fun h1 => ?_)
  · refine z_iconst (v := -1) hX (D_Four_shift (i := 6) rfl) (by decide) ?_
    exact z_iret hX hR (D_Four_shift (i := 7) rfl) rfl (hno (by rw [bI_0.mp h1]; rfl))
  · refine z_iload_n hX (D_Four_shift (i := 3) rfl) rfl ?_
    refine z_cS1 hX (D_Four_shift (i := 4) rfl) ms_Four_isShelf l_Four_75 (by first | decide | omega) (Nat.le_of_ble_eq_true rfl) (c_Four_isShelf ?_)
    refine z_if_ne (tgt := 16) hX (D_Four_shift (i := 5) rfl) (by decide) (fun h2 => ?_) (fun h2 => ?_)
    · skip
      obtain ⟨k, hk, rfl⟩ := inN_ex (bI_n.mp h1) (by omega)
      obtain ⟨o, ho, rfl⟩ := inN_ex (bI_n.mp h2) (by omega)
      obtain ⟨L, s, hL, h5, e3, e2⟩ := hS k hk
      obtain ⟨L2, s2, hL2, h52, e32, e22⟩ := hS o ho
      refine z_aload_n hX (D_Four_shift (i := 8) rfl) rfl ?_
      refine z_getc hX (D_Four_shift (i := 9) rfl) f_Four_58 rfl (by decide) (by first | exact Nat.one_pos | assumption | omega) rfl ?_
      refine z_iload_n hX (D_Four_shift (i := 10) rfl) rfl ?_
      refine z_aldShelfc (j := k) hX (D_Four_shift (i := 11) rfl) rfl (by decide) (by first | exact Nat.one_pos | assumption | omega) (by decide) rfl hk ?_
      refine z_astore hX (D_Four_shift (i := 12) rfl) (by decide) rfl ?_
      refine z_aload_n hX (D_Four_shift (i := 13) rfl) rfl ?_
      refine z_getc hX (D_Four_shift (i := 14) rfl) f_Four_58 rfl (by decide) (by first | exact Nat.one_pos | assumption | omega) rfl ?_
      refine z_iload_n hX (D_Four_shift (i := 15) rfl) rfl ?_
      refine z_aldShelfc (j := o) hX (D_Four_shift (i := 16) rfl) rfl (by decide) (by first | exact Nat.one_pos | assumption | omega) (by decide) rfl ho ?_
      refine z_astore hX (D_Four_shift (i := 17) rfl) (by decide) rfl ?_
      refine z_aload hX (D_Four_shift (i := 18) rfl) rfl ?_
      refine z_cV0 hX (D_Four_shift (i := 19) rfl) mi_Shelf_isBare l_Four_78 rfl rfl (by decide) (by first | exact Nat.one_pos | assumption | omega) (by first | decide | omega) (Nat.le_of_ble_eq_true rfl) (c_Shelf_isBare hH hk ?_)
      refine z_if_ne (tgt := 48) hX (D_Four_shift (i := 20) rfl) (by decide) (fun h3 => ?_) (fun h3 => ?_)
      · refine z_bipush (v := -11) hX (D_Four_shift (i := 24) rfl) (by decide) ?_
        exact z_iret hX hR (D_Four_shift (i := 25) rfl) rfl (hbare k o hk ho rfl rfl (Or.inl (of_decide_eq_true (bI_n.mp h3))))
      · refine z_aload hX (D_Four_shift (i := 21) rfl) rfl ?_
        have n3 := of_decide_eq_false (bI_0.mp h3)
        refine z_cV0 hX (D_Four_shift (i := 22) rfl) mi_Shelf_isBare l_Four_78 rfl rfl (by decide) (by first | exact Nat.one_pos | assumption | omega) (by first | decide | omega) (Nat.le_of_ble_eq_true rfl) (c_Shelf_isBare hH ho ?_)
        refine z_if_eq (tgt := 51) hX (D_Four_shift (i := 23) rfl) (by decide) (fun h4 => ?_) (fun h4 => ?_)
        · refine z_aload hX (D_Four_shift (i := 26) rfl) rfl ?_
          have n4 := of_decide_eq_false (bI_0.mp h4)
          refine z_cV0 hX (D_Four_shift (i := 27) rfl) mi_Shelf_isRow l_Four_82 rfl rfl (by decide) (by first | exact Nat.one_pos | assumption | omega) (by first | decide | omega) (Nat.le_of_ble_eq_true rfl) (c_Shelf_isRow hH hk ?_)
          refine z_if_eq (tgt := 80) hX (D_Four_shift (i := 28) rfl) (by decide) (fun h6 => ?_) (fun h6 => ?_)
          · refine z_bipush (v := -12) hX (D_Four_shift (i := 37) rfl) (by decide) ?_
            exact z_iret hX hR (D_Four_shift (i := 38) rfl) rfl (hkind k o hk ho rfl rfl n3 n4 (Or.inl (of_decide_eq_false (bI_0.mp h6))))
          · refine z_aload hX (D_Four_shift (i := 29) rfl) rfl ?_
            have n6 := of_decide_eq_true (bI_n.mp h6)
            refine z_cV0 hX (D_Four_shift (i := 30) rfl) mi_Shelf_isRow l_Four_82 rfl rfl (by decide) (by first | exact Nat.one_pos | assumption | omega) (by first | decide | omega) (Nat.le_of_ble_eq_true rfl) (c_Shelf_isRow hH ho ?_)
            refine z_if_eq (tgt := 80) hX (D_Four_shift (i := 31) rfl) (by decide) (fun h7 => ?_) (fun h7 => ?_)
            · refine z_bipush (v := -12) hX (D_Four_shift (i := 37) rfl) (by decide) ?_
              exact z_iret hX hR (D_Four_shift (i := 38) rfl) rfl (hkind k o hk ho rfl rfl n3 n4 (Or.inr (Or.inl (of_decide_eq_false (bI_0.mp h7)))))
            · refine z_aload hX (D_Four_shift (i := 32) rfl) rfl ?_
              refine z_geti hX (D_Four_shift (i := 33) rfl) f_Four_85 rfl (by decide) (by first | exact Nat.one_pos | assumption | omega) rfl ?_
              refine z_aload hX (D_Four_shift (i := 34) rfl) rfl ?_
              refine z_geti hX (D_Four_shift (i := 35) rfl) f_Four_85 rfl (by decide) (by first | exact Nat.one_pos | assumption | omega) rfl ?_
              have n7 := of_decide_eq_true (bI_n.mp h7)
              refine z_icmp_eq (tgt := 83) hX (D_Four_shift (i := 36) rfl) (by decide) (fun h8 => ?_) (fun h8 => ?_)
              · refine z_aload hX (D_Four_shift (i := 39) rfl) rfl ?_
                refine z_iload_n hX (D_Four_shift (i := 40) rfl) rfl ?_
                refine z_iload hX (D_Four_shift (i := 41) rfl) rfl ?_
                refine z_cV2 hX (D_Four_shift (i := 42) rfl) mi_Shelf_hasStretch l_Four_283 rfl rfl (by decide) (by first | exact Nat.one_pos | assumption | omega) (by first | decide | omega) (Nat.le_of_ble_eq_true rfl) (c_Shelf_hasStretch hH hk e3 hL ?_)
                refine z_if_eq (tgt := 106) hX (D_Four_shift (i := 43) rfl) (by decide) (fun h9 => ?_) (fun h9 => ?_)
                · refine z_bipush (v := -13) hX (D_Four_shift (i := 49) rfl) (by decide) ?_
                  exact z_iret hX hR (D_Four_shift (i := 50) rfl) rfl (hpl k o L L2 hk ho rfl rfl n6 n7 h8 e3 e32 (by rw [bI_0.mp h9]; rfl))
                · refine z_aload hX (D_Four_shift (i := 44) rfl) rfl ?_
                  refine z_iload hX (D_Four_shift (i := 45) rfl) rfl ?_
                  refine z_iload hX (D_Four_shift (i := 46) rfl) rfl ?_
                  refine z_cV2 hX (D_Four_shift (i := 47) rfl) mi_Shelf_hasStretch l_Four_283 rfl rfl (by decide) (by first | exact Nat.one_pos | assumption | omega) (by first | decide | omega) (Nat.le_of_ble_eq_true rfl) (c_Shelf_hasStretch hH ho e32 hL2 ?_)
                  refine z_if_ne (tgt := 109) hX (D_Four_shift (i := 48) rfl) (by decide) (fun h10 => ?_) (fun h10 => ?_)
                  · skip
                    have a1 := of_decide_eq_true (bI_n.mp h9)
                    have a2 := of_decide_eq_true (bI_n.mp h10)
                    obtain ⟨i, hi, rfl⟩ : ∃ i : Nat, i ≤ 60 ∧ xi = nI i := ⟨xi.toInt.toNat, by omega, Int32.toInt_inj.mp (by rw [nI_toInt (by omega)]; omega)⟩
                    obtain ⟨j, hj, rfl⟩ : ∃ j : Nat, j ≤ 60 ∧ xj = nI j := ⟨xj.toInt.toNat, by omega, Int32.toInt_inj.mp (by rw [nI_toInt (by omega)]; omega)⟩
                    obtain ⟨n, hn, rfl⟩ : ∃ n : Nat, n ≤ 60 ∧ xn = nI n := ⟨xn.toInt.toNat, by omega, Int32.toInt_inj.mp (by rw [nI_toInt (by omega)]; omega)⟩
                    rw [nI_toInt (by omega), nI_toInt (by omega)] at a1 a2
                    refine z_aload hX (D_Four_shift (i := 51) rfl) rfl ?_
                    refine z_getc hX (D_Four_shift (i := 52) rfl) f_Four_91 rfl (by decide) (by first | exact Nat.one_pos | assumption | omega) rfl ?_
                    refine z_iload_n hX (D_Four_shift (i := 53) rfl) rfl ?_
                    refine z_aload hX (D_Four_shift (i := 54) rfl) rfl ?_
                    refine z_getc hX (D_Four_shift (i := 55) rfl) f_Four_91 rfl (by decide) (by first | exact Nat.one_pos | assumption | omega) rfl ?_
                    refine z_iload hX (D_Four_shift (i := 56) rfl) rfl ?_
                    refine z_iload hX (D_Four_shift (i := 57) rfl) rfl ?_
                    refine z_copyl hX (D_Four_shift (i := 58) rfl) w_copy_link (by decide) (Nat.le_of_ble_eq_true rfl) rfl (by decide) hk ho (by decide) (by omega) (by omega) ?_
                    refine z_iload hX (D_Four_shift (i := 59) rfl) rfl ?_
                    exact z_iret hX hR (D_Four_shift (i := 60) rfl) rfl (hok k o L L2 i j n hk ho rfl rfl n6 n7 h8 e3 e32 hL hL2 (by omega) (by omega) rfl rfl rfl)
                  · refine z_bipush (v := -13) hX (D_Four_shift (i := 49) rfl) (by decide) ?_
                    exact z_iret hX hR (D_Four_shift (i := 50) rfl) rfl (hpl k o L L2 hk ho rfl rfl n6 n7 h8 e3 e32 (by rw [bI_0.mp h10]; simp))
              · refine z_bipush (v := -12) hX (D_Four_shift (i := 37) rfl) (by decide) ?_
                exact z_iret hX hR (D_Four_shift (i := 38) rfl) rfl (hkind k o hk ho rfl rfl n3 n4 (Or.inr (Or.inr h8)))
        · refine z_bipush (v := -11) hX (D_Four_shift (i := 24) rfl) (by decide) ?_
          exact z_iret hX hR (D_Four_shift (i := 25) rfl) rfl (hbare k o hk ho rfl rfl (Or.inr (of_decide_eq_true (bI_n.mp h4))))
    · refine z_iconst (v := -1) hX (D_Four_shift (i := 6) rfl) (by decide) ?_
      exact z_iret hX hR (D_Four_shift (i := 7) rfl) rfl (hno (by rw [bI_0.mp h2]; simp))
/-- what is kept of changes: each of a face that there is -/
def PaOK (mem : zM) (sz d e : Nat) : Prop := mem.1 23 0 3 = nI d ∧ mem.1 23 0 4 = nI e ∧ d ≤ e ∧ e ≤ 40 ∧ ∀ i, i < e → ∃ k f b a : Nat, k < sz ∧ f < 6 ∧ b ≤ 6 ∧ a ≤ 6 ∧ mem.1 24 0 i = nI (10 * k + f) ∧ mem.1 25 0 i = nI b ∧ mem.1 26 0 i = nI a
theorem c_Four_undo (hH : zHas ι pX) (h8 : sz ≤ 8) {d e : Nat} (hP : PaOK mem sz d e) (hno : d = 0 → Post (some (zI (-5))) mem) (hok : ∀ k f, k < sz → f < 6 → 0 < d → mem.1 24 0 (d - 1) = nI (10 * k + f) → Post (some (zI (nI (d - 1)))) (upI (upI mem 23 0 3 (nI (d - 1))) 3 k f (mem.1 25 0 (d - 1)))) : zC l ι M_Four_undo 1 [zP 0 0] mem Post := by
  obtain ⟨p1, p2, p3, p4, p5⟩ := hP
  refine z_enter hH (by decide) (by simp [z_ent, M_Four_undo]) (fun X hXl hX hR => ?_)
  refine z_aload_n hX (D_Four_undo (i := 0) rfl) rfl ?_
  refine z_getc hX (D_Four_undo (i := 1) rfl) f_Four_45 rfl (by decide) (by first | exact Nat.one_pos | assumption | omega) rfl ?_
  refine z_geti hX (D_Four_undo (i := 2) rfl) f_Four_234 rfl (by decide) (by first | exact Nat.one_pos | assumption | omega) rfl ?_
  rw [p1]
  by_cases hd : d = 0
  · subst hd
    refine z_if_gt (tgt := 13) hX (D_Four_undo (i := 3) rfl) (by decide) (fun hcc => absurd hcc (by decide)) (fun _ => ?_)
    refine z_bipush (v := -5) hX (D_Four_undo (i := 4) rfl) (by decide) ?_
    exact z_iret hX hR (D_Four_undo (i := 5) rfl) rfl (hno rfl)
  · obtain ⟨k, f, b, a, hk, hf, hb, ha, e1, e2, e3⟩ := p5 (d - 1) (by omega)
    have hh := hok k f hk hf (by omega) e1
    have hk8 : k < 8 := by omega
    refine z_if_gt (tgt := 13) hX (D_Four_undo (i := 3) rfl) (by decide) (fun _ => ?_) (fun hcc => absurd ((Int32.not_le.mp (nI_nle (by omega) (by omega)))) hcc)
    refine z_aload_n hX (D_Four_undo (i := 6) rfl) rfl ?_
    refine z_getc hX (D_Four_undo (i := 7) rfl) f_Four_45 rfl (by decide) (by first | exact Nat.one_pos | assumption | omega) rfl ?_
    refine z_dupP hX (D_Four_undo (i := 8) rfl) ?_
    refine z_geti hX (D_Four_undo (i := 9) rfl) f_Four_234 rfl (by decide) (by first | exact Nat.one_pos | assumption | omega) rfl ?_
    rw [p1]
    refine z_iconst (v := 1) hX (D_Four_undo (i := 10) rfl) (by decide) ?_
    refine z_isub hX (D_Four_undo (i := 11) rfl) ?_
    rw [nlit, pk_sub (by omega)]
    refine z_puti hX (D_Four_undo (i := 12) rfl) g_Four_234 rfl (by decide) (by first | exact Nat.one_pos | assumption | omega) rfl ?_
    refine z_aload_n hX (D_Four_undo (i := 13) rfl) rfl ?_
    refine z_aload_n hX (D_Four_undo (i := 14) rfl) rfl ?_
    refine z_getc hX (D_Four_undo (i := 15) rfl) f_Four_45 rfl (by decide) (by first | exact Nat.one_pos | assumption | omega) rfl ?_
    refine z_getc hX (D_Four_undo (i := 16) rfl) f_Four_237 rfl (by decide) (by first | exact Nat.one_pos | assumption | omega) rfl ?_
    refine z_aload_n hX (D_Four_undo (i := 17) rfl) rfl ?_
    refine z_getc hX (D_Four_undo (i := 18) rfl) f_Four_45 rfl (by decide) (by first | exact Nat.one_pos | assumption | omega) rfl ?_
    refine z_geti hX (D_Four_undo (i := 19) rfl) f_Four_234 rfl (by decide) (by first | exact Nat.one_pos | assumption | omega) rfl ?_
    have q1 : (upI mem 23 0 3 (nI (d - 1))).1 23 0 3 = nI (d - 1) := by simp [upI_get]
    rw [q1]
    refine z_iald (j := d - 1) hX (D_Four_undo (i := 20) rfl) rfl (by decide) (by first | exact Nat.one_pos | assumption | omega) (by decide) rfl (by omega) ?_
    rw [show (upI mem 23 0 3 (nI (d - 1))).1 24 0 (d - 1) = nI (10 * k + f) by simp [upI_get, e1]]
    refine z_aload_n hX (D_Four_undo (i := 21) rfl) rfl ?_
    refine z_getc hX (D_Four_undo (i := 22) rfl) f_Four_45 rfl (by decide) (by first | exact Nat.one_pos | assumption | omega) rfl ?_
    refine z_getc hX (D_Four_undo (i := 23) rfl) f_Four_238 rfl (by decide) (by first | exact Nat.one_pos | assumption | omega) rfl ?_
    refine z_aload_n hX (D_Four_undo (i := 24) rfl) rfl ?_
    refine z_getc hX (D_Four_undo (i := 25) rfl) f_Four_45 rfl (by decide) (by first | exact Nat.one_pos | assumption | omega) rfl ?_
    refine z_geti hX (D_Four_undo (i := 26) rfl) f_Four_234 rfl (by decide) (by first | exact Nat.one_pos | assumption | omega) rfl ?_
    rw [q1]
    refine z_iald (j := d - 1) hX (D_Four_undo (i := 27) rfl) rfl (by decide) (by first | exact Nat.one_pos | assumption | omega) (by decide) rfl (by omega) ?_
    rw [show (upI mem 23 0 3 (nI (d - 1))).1 25 0 (d - 1) = mem.1 25 0 (d - 1) by simp [upI_get]]
    refine z_cV2 hX (D_Four_undo (i := 28) rfl) mi_Four_setColour l_Four_106 rfl rfl (by decide) (by first | exact Nat.one_pos | assumption | omega) (by first | decide | omega) (Nat.le_of_ble_eq_true rfl) (c_Four_setColour hH hk8 hf ?_)
    refine z_aload_n hX (D_Four_undo (i := 29) rfl) rfl ?_
    refine z_getc hX (D_Four_undo (i := 30) rfl) f_Four_45 rfl (by decide) (by first | exact Nat.one_pos | assumption | omega) rfl ?_
    refine z_geti hX (D_Four_undo (i := 31) rfl) f_Four_234 rfl (by decide) (by first | exact Nat.one_pos | assumption | omega) rfl ?_
    rw [show (upI (upI mem 23 0 3 (nI (d - 1))) 3 k f (mem.1 25 0 (d - 1))).1 23 0 3 = nI (d - 1) by simp [upI_get]]
    exact z_iret hX hR (D_Four_undo (i := 32) rfl) rfl hh
theorem c_Four_redo (hH : zHas ι pX) (h8 : sz ≤ 8) {d e : Nat} (hP : PaOK mem sz d e) (hno : d = e → Post (some (zI (-5))) mem) (hok : ∀ k f, k < sz → f < 6 → d < e → mem.1 24 0 d = nI (10 * k + f) → Post (some (zI (nI (e - (d + 1))))) (upI (upI mem 3 k f (mem.1 26 0 d)) 23 0 3 (nI (d + 1)))) : zC l ι M_Four_redo 1 [zP 0 0] mem Post := by
  obtain ⟨p1, p2, p3, p4, p5⟩ := hP
  refine z_enter hH (by decide) (by simp [z_ent, M_Four_redo]) (fun X hXl hX hR => ?_)
  refine z_aload_n hX (D_Four_redo (i := 0) rfl) rfl ?_
  refine z_getc hX (D_Four_redo (i := 1) rfl) f_Four_45 rfl (by decide) (by first | exact Nat.one_pos | assumption | omega) rfl ?_
  refine z_geti hX (D_Four_redo (i := 2) rfl) f_Four_234 rfl (by decide) (by first | exact Nat.one_pos | assumption | omega) rfl ?_
  refine z_aload_n hX (D_Four_redo (i := 3) rfl) rfl ?_
  refine z_getc hX (D_Four_redo (i := 4) rfl) f_Four_45 rfl (by decide) (by first | exact Nat.one_pos | assumption | omega) rfl ?_
  refine z_geti hX (D_Four_redo (i := 5) rfl) f_Four_241 rfl (by decide) (by first | exact Nat.one_pos | assumption | omega) rfl ?_
  rw [p1, p2]
  by_cases hd : d = e
  · subst hd
    refine z_icmp_lt (tgt := 20) hX (D_Four_redo (i := 6) rfl) (by decide) (fun hcc => absurd hcc (nI_nlt (Nat.le_refl d) (by omega))) (fun _ => ?_)
    refine z_bipush (v := -5) hX (D_Four_redo (i := 7) rfl) (by decide) ?_
    exact z_iret hX hR (D_Four_redo (i := 8) rfl) rfl (hno rfl)
  · obtain ⟨k, f, b, a, hk, hf, hb, ha, e1, e2, e3⟩ := p5 d (by omega)
    have hh := hok k f hk hf (by omega) e1
    have hk8 : k < 8 := by omega
    refine z_icmp_lt (tgt := 20) hX (D_Four_redo (i := 6) rfl) (by decide) (fun _ => ?_) (fun hcc => absurd (nI_lt (by omega) (by omega)) hcc)
    refine z_aload_n hX (D_Four_redo (i := 9) rfl) rfl ?_
    refine z_aload_n hX (D_Four_redo (i := 10) rfl) rfl ?_
    refine z_getc hX (D_Four_redo (i := 11) rfl) f_Four_45 rfl (by decide) (by first | exact Nat.one_pos | assumption | omega) rfl ?_
    refine z_getc hX (D_Four_redo (i := 12) rfl) f_Four_237 rfl (by decide) (by first | exact Nat.one_pos | assumption | omega) rfl ?_
    refine z_aload_n hX (D_Four_redo (i := 13) rfl) rfl ?_
    refine z_getc hX (D_Four_redo (i := 14) rfl) f_Four_45 rfl (by decide) (by first | exact Nat.one_pos | assumption | omega) rfl ?_
    refine z_geti hX (D_Four_redo (i := 15) rfl) f_Four_234 rfl (by decide) (by first | exact Nat.one_pos | assumption | omega) rfl ?_
    rw [p1]
    refine z_iald (j := d) hX (D_Four_redo (i := 16) rfl) rfl (by decide) (by first | exact Nat.one_pos | assumption | omega) (by decide) rfl (by omega) ?_
    rw [e1]
    refine z_aload_n hX (D_Four_redo (i := 17) rfl) rfl ?_
    refine z_getc hX (D_Four_redo (i := 18) rfl) f_Four_45 rfl (by decide) (by first | exact Nat.one_pos | assumption | omega) rfl ?_
    refine z_getc hX (D_Four_redo (i := 19) rfl) f_Four_244 rfl (by decide) (by first | exact Nat.one_pos | assumption | omega) rfl ?_
    refine z_aload_n hX (D_Four_redo (i := 20) rfl) rfl ?_
    refine z_getc hX (D_Four_redo (i := 21) rfl) f_Four_45 rfl (by decide) (by first | exact Nat.one_pos | assumption | omega) rfl ?_
    refine z_geti hX (D_Four_redo (i := 22) rfl) f_Four_234 rfl (by decide) (by first | exact Nat.one_pos | assumption | omega) rfl ?_
    rw [p1]
    refine z_iald (j := d) hX (D_Four_redo (i := 23) rfl) rfl (by decide) (by first | exact Nat.one_pos | assumption | omega) (by decide) rfl (by omega) ?_
    refine z_cV2 hX (D_Four_redo (i := 24) rfl) mi_Four_setColour l_Four_106 rfl rfl (by decide) (by first | exact Nat.one_pos | assumption | omega) (by first | decide | omega) (Nat.le_of_ble_eq_true rfl) (c_Four_setColour hH hk8 hf ?_)
    refine z_aload_n hX (D_Four_redo (i := 25) rfl) rfl ?_
    refine z_getc hX (D_Four_redo (i := 26) rfl) f_Four_45 rfl (by decide) (by first | exact Nat.one_pos | assumption | omega) rfl ?_
    refine z_dupP hX (D_Four_redo (i := 27) rfl) ?_
    refine z_geti hX (D_Four_redo (i := 28) rfl) f_Four_234 rfl (by decide) (by first | exact Nat.one_pos | assumption | omega) rfl ?_
    rw [show (upI mem 3 k f (mem.1 26 0 d)).1 23 0 3 = nI d by simp [upI_get, p1]]
    refine z_iconst (v := 1) hX (D_Four_redo (i := 29) rfl) (by decide) ?_
    refine z_iadd hX (D_Four_redo (i := 30) rfl) ?_
    rw [nlit, nI_add]
    refine z_puti hX (D_Four_redo (i := 31) rfl) g_Four_234 rfl (by decide) (by first | exact Nat.one_pos | assumption | omega) rfl ?_
    refine z_aload_n hX (D_Four_redo (i := 32) rfl) rfl ?_
    refine z_getc hX (D_Four_redo (i := 33) rfl) f_Four_45 rfl (by decide) (by first | exact Nat.one_pos | assumption | omega) rfl ?_
    refine z_geti hX (D_Four_redo (i := 34) rfl) f_Four_241 rfl (by decide) (by first | exact Nat.one_pos | assumption | omega) rfl ?_
    refine z_aload_n hX (D_Four_redo (i := 35) rfl) rfl ?_
    refine z_getc hX (D_Four_redo (i := 36) rfl) f_Four_45 rfl (by decide) (by first | exact Nat.one_pos | assumption | omega) rfl ?_
    refine z_geti hX (D_Four_redo (i := 37) rfl) f_Four_234 rfl (by decide) (by first | exact Nat.one_pos | assumption | omega) rfl ?_
    rw [show (upI (upI mem 3 k f (mem.1 26 0 d)) 23 0 3 (nI (d + 1))).1 23 0 4 = nI e by simp [upI_get, p2], show (upI (upI mem 3 k f (mem.1 26 0 d)) 23 0 3 (nI (d + 1))).1 23 0 3 = nI (d + 1) by simp [upI_get]]
    refine z_isub hX (D_Four_redo (i := 38) rfl) ?_
    rw [pk_sub (by omega)]
    exact z_iret hX hR (D_Four_redo (i := 39) rfl) rfl hh
theorem c_Four_paint (hH : zHas ι pX) (hs : mem.1 0 0 1 = nI sz) (h8 : sz ≤ 8) {d : Nat} (hd : mem.1 23 0 3 = nI d) (h40 : d ≤ 40) (hno : (fcB x sz && inN y 7) = false → Post (some (zI (-1))) mem) (hsame : ∀ k f, k < sz → f < 6 → x = nI (10 * k + f) → inN y 7 = true → y = mem.1 3 k f → Post (some (zI (mem.1 3 k f))) mem) (hok : ∀ k f, k < sz → f < 6 → x = nI (10 * k + f) → inN y 7 = true → ¬ y = mem.1 3 k f → d < 40 → Post (some (zI (mem.1 3 k f))) (upI (adM mem d x (mem.1 3 k f) y) 3 k f y)) (hfull : ∀ k f, k < sz → f < 6 → x = nI (10 * k + f) → inN y 7 = true → ¬ y = mem.1 3 k f → d = 40 → Post (some (zI (mem.1 3 k f))) (upI (adM (upI (fgM mem 40) 23 0 3 (nI 39)) 39 x (mem.1 3 k f) y) 3 k f y)) : zC l ι M_Four_paint 2 [zP 0 0, zI x, zI y] mem Post := by
  refine z_enter hH (by decide) (by simp [z_ent, M_Four_paint]) (fun X hXl hX hR => ?_)
  refine z_aload_n hX (D_Four_paint (i := 0) rfl) rfl ?_
  refine z_iload_n hX (D_Four_paint (i := 1) rfl) rfl ?_
  refine z_cV1 hX (D_Four_paint (i := 2) rfl) mi_Four_isFace l_Four_95 rfl rfl (by decide) (by first | exact Nat.one_pos | assumption | omega) (by first | decide | omega) (Nat.le_of_ble_eq_true rfl) (c_Four_isFace hH hs h8 ?_)
  refine z_if_eq (tgt := 18) hX (D_Four_paint (i := 3) rfl) (by decide) (fun h1 => ?_) (fun h1 => ?_)
  · refine z_iconst (v := -1) hX (D_Four_paint (i := 9) rfl) (by decide) ?_
    exact z_iret hX hR (D_Four_paint (i := 10) rfl) rfl (hno (by rw [bI_0.mp h1]; rfl))
  · refine z_iload_n hX (D_Four_paint (i := 4) rfl) rfl ?_
    refine z_if_lt (tgt := 18) hX (D_Four_paint (i := 5) rfl) (by decide) (fun h2 => ?_) (fun h2 => ?_)
    · refine z_iconst (v := -1) hX (D_Four_paint (i := 9) rfl) (by decide) ?_
      exact z_iret hX hR (D_Four_paint (i := 10) rfl) rfl (hno (by rw [inN_lo h2]; simp))
    · refine z_iload_n hX (D_Four_paint (i := 6) rfl) rfl ?_
      refine z_bipush (v := 6) hX (D_Four_paint (i := 7) rfl) (by decide) ?_
      refine z_icmp_le (tgt := 20) hX (D_Four_paint (i := 8) rfl) (by decide) (fun h3 => ?_) (fun h3 => ?_)
      · skip
        obtain ⟨k, f, hk, hf, rfl⟩ := fcB_ex (bI_n.mp h1)
        have hk8 : k < 8 := by omega
        have hy := inN_in (n := 7) h2 ((leT (n := 6) (by decide)).mp h3) (by decide)
        refine z_aload_n hX (D_Four_paint (i := 11) rfl) rfl ?_
        refine z_iload_n hX (D_Four_paint (i := 12) rfl) rfl ?_
        refine z_cV1 hX (D_Four_paint (i := 13) rfl) mi_Four_colourAt l_Four_98 rfl rfl (by decide) (by first | exact Nat.one_pos | assumption | omega) (by first | decide | omega) (Nat.le_of_ble_eq_true rfl) (c_Four_colourAt hH hk8 hf ?_)
        refine z_istore_n hX (D_Four_paint (i := 14) rfl) (by decide) rfl ?_
        refine z_iload_n hX (D_Four_paint (i := 15) rfl) rfl ?_
        refine z_iload_n hX (D_Four_paint (i := 16) rfl) rfl ?_
        refine z_icmp_eq (tgt := 47) hX (D_Four_paint (i := 17) rfl) (by decide) (fun h4 => ?_) (fun h4 => ?_)
        · refine z_iload_n hX (D_Four_paint (i := 28) rfl) rfl ?_
          exact z_iret hX hR (D_Four_paint (i := 29) rfl) rfl (hsame k f hk hf rfl hy h4)
        · refine z_aload_n hX (D_Four_paint (i := 18) rfl) rfl ?_
          refine z_getc hX (D_Four_paint (i := 19) rfl) f_Four_45 rfl (by decide) (by first | exact Nat.one_pos | assumption | omega) rfl ?_
          refine z_iload_n hX (D_Four_paint (i := 20) rfl) rfl ?_
          refine z_iload_n hX (D_Four_paint (i := 21) rfl) rfl ?_
          refine z_iload_n hX (D_Four_paint (i := 22) rfl) rfl ?_
          by_cases h5 : d < 40
          · refine z_cV3 hX (D_Four_paint (i := 23) rfl) mi_Past_add l_Four_102 rfl rfl (by decide) (by first | exact Nat.one_pos | assumption | omega) (by first | decide | omega) (Nat.le_of_ble_eq_true rfl) (c_Past_add hH h5 hd ?_)
            refine z_aload_n hX (D_Four_paint (i := 24) rfl) rfl ?_
            refine z_iload_n hX (D_Four_paint (i := 25) rfl) rfl ?_
            refine z_iload_n hX (D_Four_paint (i := 26) rfl) rfl ?_
            refine z_cV2 hX (D_Four_paint (i := 27) rfl) mi_Four_setColour l_Four_106 rfl rfl (by decide) (by first | exact Nat.one_pos | assumption | omega) (by first | decide | omega) (Nat.le_of_ble_eq_true rfl) (c_Four_setColour hH hk8 hf ?_)
            refine z_iload_n hX (D_Four_paint (i := 28) rfl) rfl ?_
            exact z_iret hX hR (D_Four_paint (i := 29) rfl) rfl (hok k f hk hf rfl hy h4 h5)
          · obtain rfl : d = 40 := by omega
            refine z_cV3 hX (D_Four_paint (i := 23) rfl) mi_Past_add l_Four_102 rfl rfl (by decide) (by first | exact Nat.one_pos | assumption | omega) (by first | decide | omega) (Nat.le_of_ble_eq_true rfl) (c_Past_add_full hH hd ?_)
            refine z_aload_n hX (D_Four_paint (i := 24) rfl) rfl ?_
            refine z_iload_n hX (D_Four_paint (i := 25) rfl) rfl ?_
            refine z_iload_n hX (D_Four_paint (i := 26) rfl) rfl ?_
            refine z_cV2 hX (D_Four_paint (i := 27) rfl) mi_Four_setColour l_Four_106 rfl rfl (by decide) (by first | exact Nat.one_pos | assumption | omega) (by first | decide | omega) (Nat.le_of_ble_eq_true rfl) (c_Four_setColour hH hk8 hf ?_)
            refine z_iload_n hX (D_Four_paint (i := 28) rfl) rfl ?_
            exact z_iret hX hR (D_Four_paint (i := 29) rfl) rfl (hfull k f hk hf rfl hy h4 rfl)
      · refine z_iconst (v := -1) hX (D_Four_paint (i := 9) rfl) (by decide) ?_
        exact z_iret hX hR (D_Four_paint (i := 10) rfl) rfl (hno (by rw [inN_hi (n := 7) (Classical.byContradiction (fun w => h3 ((leT (n := 6) (by decide)).mpr w))) (by decide)]; simp))
end F7
end
section
/-! cube, cubes, many, bits counted -/
section F8
variable {l : Launch} {ι : zE} {mem : zM} {Post : Option zV → zM → Prop} {x y z : Int32} {sz nb : Nat}
theorem div10 (j i : Nat) : j / 10 ^ i / 10 = j / 10 ^ (i + 1) := by rw [Nat.div_div_eq_div_mul, Nat.pow_succ]
theorem div_le10 (j i : Nat) : j / 10 ^ i ≤ j := Nat.div_le_self _ _
theorem c_Four_areSixColours (h : Post (some (zI (bI (sixB x)))) mem) : zC l ι M_Four_areSixColours 0 [zI x] mem Post := by
  have hH : zHas ι [] := zHas.nil
  have L1 : ∀ a b : Int32, a < b ↔ a.toInt < b.toInt := fun a b => Int32.lt_iff_toInt_lt
  have L2 : ∀ a b : Int32, a ≤ b ↔ a.toInt ≤ b.toInt := fun a b => Int32.le_iff_toInt_le
  have k1 : (111111 : Int32).toInt = 111111 := rfl
  have k2 : (777777 : Int32).toInt = 777777 := rfl
  refine z_enter hH (by decide) (by simp [z_ent, M_Four_areSixColours]) (fun X hXl hX hR => ?_)
  refine z_iload_n hX (D_Four_areSixColours (i := 0) rfl) rfl ?_
  refine z_ldcw (v := 111111) hX (D_Four_areSixColours (i := 1) rfl) k_Four_307 ?_
  refine z_icmp_lt (tgt := 14) hX (D_Four_areSixColours (i := 2) rfl) (by decide) (fun h1 => ?_) (fun h1 => ?_)
  · refine z_iconst (v := 0) hX (D_Four_areSixColours (i := 6) rfl) (by decide) ?_
    rw [L1, k1] at h1
    rw [show sixB x = false by unfold sixB; rw [decide_eq_false (by omega)]; rfl] at h
    exact z_zret hX hR (D_Four_areSixColours (i := 7) rfl) rfl (by first | exact Or.inl rfl | exact Or.inr rfl | assumption) (by assumption)
  · refine z_iload_n hX (D_Four_areSixColours (i := 3) rfl) rfl ?_
    refine z_ldcw (v := 777777) hX (D_Four_areSixColours (i := 4) rfl) k_Four_308 ?_
    refine z_icmp_le (tgt := 16) hX (D_Four_areSixColours (i := 5) rfl) (by decide) (fun h2 => ?_) (fun h2 => ?_)
    · skip
      rw [L1, k1] at h1
      rw [L2, k2] at h2
      obtain ⟨j, hj, rfl⟩ : ∃ j : Nat, j ≤ 777777 ∧ x = nI j := ⟨x.toInt.toNat, by omega, Int32.toInt_inj.mp (by rw [nI_toInt (by omega)]; omega)⟩
      have e0 : sixB (nI j) = alI (digB j) 6 := by
        unfold sixB
        rw [decide_eq_true ⟨by omega, h2⟩, nI_toInt (by omega)]; rfl
      rw [e0] at h
      refine z_iload_n hX (D_Four_areSixColours (i := 8) rfl) rfl ?_
      refine z_istore_n hX (D_Four_areSixColours (i := 9) rfl) (by decide) rfl ?_
      refine z_iconst (v := 0) hX (D_Four_areSixColours (i := 10) rfl) (by decide) ?_
      refine z_istore_n hX (D_Four_areSixColours (i := 11) rfl) (by decide) rfl ?_
      suffices H : ∀ (d i : Nat), i + d = 6 → (∀ w, w < i → digB j w = true) → zW ι M_Four_areSixColours X 20 [some (zI (nI j)), some (zI (nI (j / 10 ^ i))), some (zI (nI i))] [] mem by
        have := H 6 0 rfl (fun _ h => absurd h (Nat.not_lt_zero _))
        rw [Nat.pow_zero, Nat.div_one] at this
        exact this
      intro d
      induction d with
      | zero =>
        intro i hi hinv
        obtain rfl : i = 6 := by omega
        refine z_iload_n hX (D_Four_areSixColours (i := 12) rfl) rfl ?_
        refine z_bipush (v := 6) hX (D_Four_areSixColours (i := 13) rfl) (by decide) ?_
        refine z_icmp_ge (tgt := 56) hX (D_Four_areSixColours (i := 14) rfl) (by decide) (fun _ => ?_) (fun hcc => absurd (Int32.le_refl _) hcc)
        refine z_iconst (v := 1) hX (D_Four_areSixColours (i := 33) rfl) (by decide) ?_
        rw [alI_true.mpr hinv] at h
        exact z_zret hX hR (D_Four_areSixColours (i := 34) rfl) rfl (by first | exact Or.inl rfl | exact Or.inr rfl | assumption) (by assumption)
      | succ d ih =>
        intro i hi hinv
        have hq := div_le10 j i
        refine z_iload_n hX (D_Four_areSixColours (i := 12) rfl) rfl ?_
        refine z_bipush (v := 6) hX (D_Four_areSixColours (i := 13) rfl) (by decide) ?_
        refine z_icmp_ge (tgt := 56) hX (D_Four_areSixColours (i := 14) rfl) (by decide) (fun hcc => absurd hcc (nI_ge (b := 6) (by omega) (by decide))) (fun _ => ?_)
        refine z_iload_n hX (D_Four_areSixColours (i := 15) rfl) rfl ?_
        refine z_bipush (v := 10) hX (D_Four_areSixColours (i := 16) rfl) (by decide) ?_
        refine z_irem hX (D_Four_areSixColours (i := 17) rfl) (by decide) ?_
        rw [nlit, pk_rem (by omega) (by decide) (by decide)]
        refine z_iconst (v := 1) hX (D_Four_areSixColours (i := 18) rfl) (by decide) ?_
        refine z_icmp_lt (tgt := 43) hX (D_Four_areSixColours (i := 19) rfl) (by decide) (fun h3 => ?_) (fun h3 => ?_)
        · refine z_iconst (v := 0) hX (D_Four_areSixColours (i := 25) rfl) (by decide) ?_
          rw [alI_false (k := i) (by omega) (decide_eq_false (fun w => absurd ((nI_ltI (b := 1) (by omega) (by decide)).mp h3) (by omega)))] at h
          exact z_zret hX hR (D_Four_areSixColours (i := 26) rfl) rfl (by first | exact Or.inl rfl | exact Or.inr rfl | assumption) (by assumption)
        · refine z_iload_n hX (D_Four_areSixColours (i := 20) rfl) rfl ?_
          refine z_bipush (v := 10) hX (D_Four_areSixColours (i := 21) rfl) (by decide) ?_
          have h3' : ¬ j / 10 ^ i % 10 < 1 := fun w => h3 (nI_lt (b := 1) w (by decide))
          refine z_irem hX (D_Four_areSixColours (i := 22) rfl) (by decide) ?_
          rw [nlit, pk_rem (by omega) (by decide) (by decide)]
          refine z_bipush (v := 7) hX (D_Four_areSixColours (i := 23) rfl) (by decide) ?_
          refine z_icmp_le (tgt := 45) hX (D_Four_areSixColours (i := 24) rfl) (by decide) (fun h4 => ?_) (fun h4 => ?_)
          · refine z_iload_n hX (D_Four_areSixColours (i := 27) rfl) rfl ?_
            refine z_bipush (v := 10) hX (D_Four_areSixColours (i := 28) rfl) (by decide) ?_
            have h4' := (nI_leI (b := 7) (by omega) (by decide)).mp h4
            refine z_idiv hX (D_Four_areSixColours (i := 29) rfl) (by decide) ?_
            rw [nlit, pk_div (by omega) (by decide) (by decide), div10]
            refine z_istore_n hX (D_Four_areSixColours (i := 30) rfl) (by decide) rfl ?_
            first | refine z_inc1 hX (D_Four_areSixColours (i := 31) rfl) rfl (by decide) rfl ?_ | refine z_iinc hX (D_Four_areSixColours (i := 31) rfl) rfl rfl (by decide) rfl ?_
            refine z_goto (tgt := 20) hX (D_Four_areSixColours (i := 32) rfl) (by decide) ?_
            exact ih (i + 1) (by omega) (fun w hw => if e : w = i then by subst e; exact decide_eq_true ⟨by omega, h4'⟩ else hinv w (by omega))
          · refine z_iconst (v := 0) hX (D_Four_areSixColours (i := 25) rfl) (by decide) ?_
            rw [alI_false (k := i) (by omega) (decide_eq_false (fun w => h4 (nI_le (b := 7) w.2 (by decide))))] at h
            exact z_zret hX hR (D_Four_areSixColours (i := 26) rfl) rfl (by first | exact Or.inl rfl | exact Or.inr rfl | assumption) (by assumption)
    · refine z_iconst (v := 0) hX (D_Four_areSixColours (i := 6) rfl) (by decide) ?_
      rw [L2, k2] at h2
      rw [show sixB x = false by unfold sixB; rw [decide_eq_false (by omega)]; rfl] at h
      exact z_zret hX hR (D_Four_areSixColours (i := 7) rfl) rfl (by first | exact Or.inl rfl | exact Or.inr rfl | assumption) (by assumption)
def cbM (mem : zM) (k j i : Nat) : zM := (fun a b c => if a = 3 ∧ b = k ∧ 6 - i ≤ c ∧ c < 6 then nI (j / 10 ^ (5 - c) % 10 - 1) else mem.1 a b c, mem.2)
theorem cbM_0 (mem : zM) (k j : Nat) : cbM mem k j 0 = mem := by
  refine Prod.ext ?_ rfl
  funext a b c
  show (if a = 3 ∧ b = k ∧ 6 - 0 ≤ c ∧ c < 6 then _ else mem.1 a b c) = mem.1 a b c
  rw [if_neg (by omega)]
theorem cbM_s (mem : zM) (k j i : Nat) (hi : i < 6) : upI (cbM mem k j i) 3 k (5 - i) (nI (j / 10 ^ i % 10 - 1)) = cbM mem k j (i + 1) := by
  refine Prod.ext ?_ rfl
  funext a b c
  rw [upI_get]
  show (if a = 3 ∧ b = k ∧ c = 5 - i then nI (j / 10 ^ i % 10 - 1) else (if a = 3 ∧ b = k ∧ 6 - i ≤ c ∧ c < 6 then nI (j / 10 ^ (5 - c) % 10 - 1) else mem.1 a b c)) = (if a = 3 ∧ b = k ∧ 6 - (i + 1) ≤ c ∧ c < 6 then nI (j / 10 ^ (5 - c) % 10 - 1) else mem.1 a b c)
  by_cases h : a = 3 ∧ b = k ∧ 6 - (i + 1) ≤ c ∧ c < 6
  · rw [if_pos h]
    by_cases h2 : c = 5 - i
    · rw [if_pos ⟨h.1, h.2.1, h2⟩, show 5 - c = i by omega]
    · rw [if_neg (fun w => h2 w.2.2), if_pos ⟨h.1, h.2.1, by omega, h.2.2.2⟩]
  · rw [if_neg h, if_neg (fun w => h ⟨w.1, w.2.1, by omega, by omega⟩), if_neg (fun w => h ⟨w.1, w.2.1, by omega, w.2.2.2⟩)]
def fcI (i : Nat) : Int32 := nI (6 - i) - 1
theorem fcI_eq {i : Nat} (hi : i < 6) : fcI i = nI (5 - i) := by
  unfold fcI
  rw [nlit, pk_sub (by omega), show 6 - i - 1 = 5 - i by omega]
theorem fcI_s {i : Nat} (hi : i < 6) : fcI i + Int32.ofInt (-1) = fcI (i + 1) := by
  rw [fcI_eq hi]
  unfold fcI
  rw [show 6 - (i + 1) = 5 - i by omega, Int32.sub_eq_add_neg]; rfl
theorem c_Four_cube (hH : zHas ι pX) (hs : mem.1 0 0 1 = nI sz) (h8 : sz ≤ 8) (hno : sixB x = false → Post (some (zI (-1))) mem) (hfull : sixB x = true → sz = 8 → Post (some (zI (-3))) mem) (hok : ∀ j, x = nI j → sixB x = true → j ≤ 777777 → sz < 8 → Post (some (zI (nI sz))) (upI (cbM mem sz j 6) 0 0 1 (nI (sz + 1)))) : zC l ι M_Four_cube 1 [zP 0 0, zI x] mem Post := by
  refine z_enter hH (by decide) (by simp [z_ent, M_Four_cube]) (fun X hXl hX hR => ?_)
  refine z_iload_n hX (D_Four_cube (i := 0) rfl) rfl ?_
  refine z_cS1 hX (D_Four_cube (i := 1) rfl) ms_Four_areSixColours l_Four_63 (by first | decide | omega) (Nat.le_of_ble_eq_true rfl) (c_Four_areSixColours ?_)
  refine z_if_ne (tgt := 9) hX (D_Four_cube (i := 2) rfl) (by decide) (fun h1 => ?_) (fun h1 => ?_)
  · refine z_aload_n hX (D_Four_cube (i := 5) rfl) rfl ?_
    refine z_geti hX (D_Four_cube (i := 6) rfl) f_Four_67 rfl (by decide) (by first | exact Nat.one_pos | assumption | omega) rfl ?_
    refine z_bipush (v := 8) hX (D_Four_cube (i := 7) rfl) (by decide) ?_
    rw [hs]
    have hb := bI_n.mp h1
    by_cases h2 : sz < 8
    · obtain ⟨j, hj, rfl, hd⟩ : ∃ j : Nat, j ≤ 777777 ∧ x = nI j ∧ ∀ i, i < 6 → digB j i = true := by
        have hb2 := hb
        unfold sixB at hb2
        rw [Bool.and_eq_true] at hb2
        have a1 := of_decide_eq_true hb2.1
        exact ⟨x.toInt.toNat, by omega, Int32.toInt_inj.mp (by rw [nI_toInt (by omega)]; omega), alI_true.mp hb2.2⟩
      have hh := hok j rfl hb hj h2
      refine z_icmp_lt (tgt := 21) hX (D_Four_cube (i := 8) rfl) (by decide) (fun _ => ?_) (fun hcc => absurd (nI_lt (b := 8) h2 (by decide)) hcc)
      refine z_iload_n hX (D_Four_cube (i := 11) rfl) rfl ?_
      refine z_istore_n hX (D_Four_cube (i := 12) rfl) (by decide) rfl ?_
      refine z_iconst (v := 5) hX (D_Four_cube (i := 13) rfl) (by decide) ?_
      refine z_istore_n hX (D_Four_cube (i := 14) rfl) (by decide) rfl ?_
      suffices H : ∀ (d i : Nat), i + d = 6 → zW ι M_Four_cube X 25 [some (zP 0 0), some (zI (nI j)), some (zI (nI (j / 10 ^ i))), some (zI (fcI i))] [] (cbM mem sz j i) by
        have := H 6 0 rfl
        rw [Nat.pow_zero, Nat.div_one, cbM_0] at this
        exact this
      intro d
      induction d with
      | zero =>
        intro i hi
        obtain rfl : i = 6 := by omega
        refine z_iload_n hX (D_Four_cube (i := 15) rfl) rfl ?_
        refine z_if_lt (tgt := 60) hX (D_Four_cube (i := 16) rfl) (by decide) (fun _ => ?_) (fun hcc => absurd (by decide) hcc)
        refine z_aload_n hX (D_Four_cube (i := 36) rfl) rfl ?_
        refine z_dupP hX (D_Four_cube (i := 37) rfl) ?_
        refine z_geti hX (D_Four_cube (i := 38) rfl) f_Four_67 rfl (by decide) (by first | exact Nat.one_pos | assumption | omega) rfl ?_
        rw [show (cbM mem sz j 6).1 0 0 1 = nI sz by rw [← hs]; simp [cbM]]
        refine z_iconst (v := 1) hX (D_Four_cube (i := 39) rfl) (by decide) ?_
        refine z_iadd hX (D_Four_cube (i := 40) rfl) ?_
        rw [nlit, nI_add]
        refine z_puti hX (D_Four_cube (i := 41) rfl) g_Four_67 rfl (by decide) (by first | exact Nat.one_pos | assumption | omega) rfl ?_
        refine z_aload_n hX (D_Four_cube (i := 42) rfl) rfl ?_
        refine z_geti hX (D_Four_cube (i := 43) rfl) f_Four_67 rfl (by decide) (by first | exact Nat.one_pos | assumption | omega) rfl ?_
        refine z_iconst (v := 1) hX (D_Four_cube (i := 44) rfl) (by decide) ?_
        refine z_isub hX (D_Four_cube (i := 45) rfl) ?_
        rw [show (upI (cbM mem sz j 6) 0 0 1 (nI (sz + 1))).1 0 0 1 = nI (sz + 1) by simp [upI_get]]
        rw [nlit, pk_sub (by omega), Nat.add_sub_cancel]
        exact z_iret hX hR (D_Four_cube (i := 46) rfl) rfl hh
      | succ d ih =>
        intro i hi
        have hi6 : i < 6 := by omega
        have hq := div_le10 j i
        have dg := of_decide_eq_true (hd i hi6)
        have e1 := fcI_eq hi6
        refine z_iload_n hX (D_Four_cube (i := 15) rfl) rfl ?_
        refine z_if_lt (tgt := 60) hX (D_Four_cube (i := 16) rfl) (by decide) (fun hcc => absurd hcc (by rw [e1]; exact nI_pos (by omega))) (fun _ => ?_)
        refine z_aload_n hX (D_Four_cube (i := 17) rfl) rfl ?_
        refine z_getc hX (D_Four_cube (i := 18) rfl) f_Four_11 rfl (by decide) (by first | exact Nat.one_pos | assumption | omega) rfl ?_
        refine z_aload_n hX (D_Four_cube (i := 19) rfl) rfl ?_
        refine z_geti hX (D_Four_cube (i := 20) rfl) f_Four_67 rfl (by decide) (by first | exact Nat.one_pos | assumption | omega) rfl ?_
        rw [show (cbM mem sz j i).1 0 0 1 = nI sz by rw [← hs]; simp [cbM]]
        refine z_aldCubec (j := sz) hX (D_Four_cube (i := 21) rfl) rfl (by decide) (by first | exact Nat.one_pos | assumption | omega) (by decide) rfl h2 ?_
        refine z_getc hX (D_Four_cube (i := 22) rfl) f_Four_71 rfl (by decide) (by first | exact Nat.one_pos | assumption | omega) rfl ?_
        refine z_iload_n hX (D_Four_cube (i := 23) rfl) rfl ?_
        refine z_iload_n hX (D_Four_cube (i := 24) rfl) rfl ?_
        refine z_bipush (v := 10) hX (D_Four_cube (i := 25) rfl) (by decide) ?_
        refine z_irem hX (D_Four_cube (i := 26) rfl) (by decide) ?_
        rw [nlit, pk_rem (by omega) (by decide) (by decide)]
        refine z_iconst (v := 1) hX (D_Four_cube (i := 27) rfl) (by decide) ?_
        refine z_isub hX (D_Four_cube (i := 28) rfl) ?_
        rw [show nI (j / 10 ^ i % 10) - 1 = nI (j / 10 ^ i % 10 - 1) from pk_sub (b := 1) (by omega)]
        refine z_iast (j := 5 - i) hX (D_Four_cube (i := 29) rfl) rfl (by decide) (by first | exact Nat.one_pos | assumption | omega) (by decide) e1 (by omega) ?_
        rw [cbM_s mem sz j i hi6]
        refine z_iload_n hX (D_Four_cube (i := 30) rfl) rfl ?_
        refine z_bipush (v := 10) hX (D_Four_cube (i := 31) rfl) (by decide) ?_
        refine z_idiv hX (D_Four_cube (i := 32) rfl) (by decide) ?_
        rw [nlit, pk_div (by omega) (by decide) (by decide), div10]
        refine z_istore_n hX (D_Four_cube (i := 33) rfl) (by decide) rfl ?_
        refine z_iinc (v := fcI (i + 1)) hX (D_Four_cube (i := 34) rfl) rfl (fcI_s hi6) (by decide) rfl ?_
        refine z_goto (tgt := 25) hX (D_Four_cube (i := 35) rfl) (by decide) ?_
        exact ih (i + 1) (by omega)
    · obtain rfl : sz = 8 := by omega
      refine z_icmp_lt (tgt := 21) hX (D_Four_cube (i := 8) rfl) (by decide) (fun hcc => absurd hcc (by decide)) (fun _ => ?_)
      refine z_bipush (v := -3) hX (D_Four_cube (i := 9) rfl) (by decide) ?_
      exact z_iret hX hR (D_Four_cube (i := 10) rfl) rfl (hfull hb rfl)
  · refine z_iconst (v := -1) hX (D_Four_cube (i := 3) rfl) (by decide) ?_
    exact z_iret hX hR (D_Four_cube (i := 4) rfl) rfl (hno (bI_0.mp h1))
def maT (n : Int32) : Int64 := n.toInt64 * n.toInt64 * n.toInt64 * (n.toInt64 * n.toInt64 * n.toInt64) + 3 * (n.toInt64 * n.toInt64) * (n.toInt64 * n.toInt64) + 12 * (n.toInt64 * n.toInt64 * n.toInt64) + 8 * (n.toInt64 * n.toInt64)
def maG (n : Int32) : Int64 := 3 * (n.toInt64 * n.toInt64 * n.toInt64) * (n.toInt64 * n.toInt64) + 6 * (n.toInt64 * n.toInt64) * (n.toInt64 * n.toInt64) + n.toInt64 * n.toInt64 * n.toInt64 + 6 * (n.toInt64 * n.toInt64) + (8 * n).toInt64
theorem c_Four_many (hH : zHas ι pX) (hno : (x < 1 ∨ 1000 < x ∨ y < 0 ∨ ¬ y ≤ 1) → Post (some (zJ (-1))) mem) (h0 : ¬ x < 1 → ¬ 1000 < x → y = 0 → Post (some (zJ (maT x / 24))) mem) (h1 : ¬ x < 1 → ¬ 1000 < x → ¬ y = 0 → ¬ y < 0 → y ≤ 1 → Post (some (zJ ((maT x + maG x) / 48))) mem) : zC l ι M_Four_many 0 [zP 0 0, zI x, zI y] mem Post := by
  refine z_enter hH (by decide) (by simp [z_ent, M_Four_many]) (fun X hXl hX hR => ?_)
  refine z_iload_n hX (D_Four_many (i := 0) rfl) rfl ?_
  refine z_iconst (v := 1) hX (D_Four_many (i := 1) rfl) (by decide) ?_
  refine z_icmp_lt (tgt := 21) hX (D_Four_many (i := 2) rfl) (by decide) (fun a1 => ?_) (fun a1 => ?_)
  · refine z_ldc2 (v := -1) hX (D_Four_many (i := 11) rfl) k_Four_211 ?_
    exact z_lret hX hR (D_Four_many (i := 12) rfl) rfl (hno (Or.inl a1))
  · refine z_iload_n hX (D_Four_many (i := 3) rfl) rfl ?_
    refine z_sipush (v := 1000) hX (D_Four_many (i := 4) rfl) (by decide) ?_
    refine z_icmp_gt (tgt := 21) hX (D_Four_many (i := 5) rfl) (by decide) (fun a2 => ?_) (fun a2 => ?_)
    · refine z_ldc2 (v := -1) hX (D_Four_many (i := 11) rfl) k_Four_211 ?_
      exact z_lret hX hR (D_Four_many (i := 12) rfl) rfl (hno (Or.inr (Or.inl a2)))
    · refine z_iload_n hX (D_Four_many (i := 6) rfl) rfl ?_
      refine z_if_lt (tgt := 21) hX (D_Four_many (i := 7) rfl) (by decide) (fun a3 => ?_) (fun a3 => ?_)
      · refine z_ldc2 (v := -1) hX (D_Four_many (i := 11) rfl) k_Four_211 ?_
        exact z_lret hX hR (D_Four_many (i := 12) rfl) rfl (hno (Or.inr (Or.inr (Or.inl a3))))
      · refine z_iload_n hX (D_Four_many (i := 8) rfl) rfl ?_
        refine z_iconst (v := 1) hX (D_Four_many (i := 9) rfl) (by decide) ?_
        refine z_icmp_le (tgt := 25) hX (D_Four_many (i := 10) rfl) (by decide) (fun a4 => ?_) (fun a4 => ?_)
        · refine z_iload_n hX (D_Four_many (i := 13) rfl) rfl ?_
          refine z_i2l hX (D_Four_many (i := 14) rfl) ?_
          refine z_iload_n hX (D_Four_many (i := 15) rfl) rfl ?_
          refine z_i2l hX (D_Four_many (i := 16) rfl) ?_
          refine z_lmul hX (D_Four_many (i := 17) rfl) ?_
          refine z_lstore_n hX (D_Four_many (i := 18) rfl) (by decide) rfl ?_
          refine z_lload_n hX (D_Four_many (i := 19) rfl) rfl ?_
          refine z_iload_n hX (D_Four_many (i := 20) rfl) rfl ?_
          refine z_i2l hX (D_Four_many (i := 21) rfl) ?_
          refine z_lmul hX (D_Four_many (i := 22) rfl) ?_
          refine z_lstore hX (D_Four_many (i := 23) rfl) (by decide) rfl ?_
          refine z_lload hX (D_Four_many (i := 24) rfl) rfl ?_
          refine z_lload hX (D_Four_many (i := 25) rfl) rfl ?_
          refine z_lmul hX (D_Four_many (i := 26) rfl) ?_
          refine z_ldc2 (v := 3) hX (D_Four_many (i := 27) rfl) k_Four_213 ?_
          refine z_lload_n hX (D_Four_many (i := 28) rfl) rfl ?_
          refine z_lmul hX (D_Four_many (i := 29) rfl) ?_
          refine z_lload_n hX (D_Four_many (i := 30) rfl) rfl ?_
          refine z_lmul hX (D_Four_many (i := 31) rfl) ?_
          refine z_ladd hX (D_Four_many (i := 32) rfl) ?_
          refine z_ldc2 (v := 12) hX (D_Four_many (i := 33) rfl) k_Four_215 ?_
          refine z_lload hX (D_Four_many (i := 34) rfl) rfl ?_
          refine z_lmul hX (D_Four_many (i := 35) rfl) ?_
          refine z_ladd hX (D_Four_many (i := 36) rfl) ?_
          refine z_ldc2 (v := 8) hX (D_Four_many (i := 37) rfl) k_Four_217 ?_
          refine z_lload_n hX (D_Four_many (i := 38) rfl) rfl ?_
          refine z_lmul hX (D_Four_many (i := 39) rfl) ?_
          refine z_ladd hX (D_Four_many (i := 40) rfl) ?_
          refine z_lstore hX (D_Four_many (i := 41) rfl) (by decide) rfl ?_
          refine z_iload_n hX (D_Four_many (i := 42) rfl) rfl ?_
          refine z_if_ne (tgt := 76) hX (D_Four_many (i := 43) rfl) (by decide) (fun a5 => ?_) (fun a5 => ?_)
          · refine z_ldc2 (v := 3) hX (D_Four_many (i := 48) rfl) k_Four_213 ?_
            refine z_lload hX (D_Four_many (i := 49) rfl) rfl ?_
            refine z_lmul hX (D_Four_many (i := 50) rfl) ?_
            refine z_lload_n hX (D_Four_many (i := 51) rfl) rfl ?_
            refine z_lmul hX (D_Four_many (i := 52) rfl) ?_
            refine z_ldc2 (v := 6) hX (D_Four_many (i := 53) rfl) k_Four_221 ?_
            refine z_lload_n hX (D_Four_many (i := 54) rfl) rfl ?_
            refine z_lmul hX (D_Four_many (i := 55) rfl) ?_
            refine z_lload_n hX (D_Four_many (i := 56) rfl) rfl ?_
            refine z_lmul hX (D_Four_many (i := 57) rfl) ?_
            refine z_ladd hX (D_Four_many (i := 58) rfl) ?_
            refine z_lload hX (D_Four_many (i := 59) rfl) rfl ?_
            refine z_ladd hX (D_Four_many (i := 60) rfl) ?_
            refine z_ldc2 (v := 6) hX (D_Four_many (i := 61) rfl) k_Four_221 ?_
            refine z_lload_n hX (D_Four_many (i := 62) rfl) rfl ?_
            refine z_lmul hX (D_Four_many (i := 63) rfl) ?_
            refine z_ladd hX (D_Four_many (i := 64) rfl) ?_
            refine z_bipush (v := 8) hX (D_Four_many (i := 65) rfl) (by decide) ?_
            refine z_iload_n hX (D_Four_many (i := 66) rfl) rfl ?_
            refine z_imul hX (D_Four_many (i := 67) rfl) ?_
            refine z_i2l hX (D_Four_many (i := 68) rfl) ?_
            refine z_ladd hX (D_Four_many (i := 69) rfl) ?_
            refine z_lstore hX (D_Four_many (i := 70) rfl) (by decide) rfl ?_
            refine z_lload hX (D_Four_many (i := 71) rfl) rfl ?_
            refine z_lload hX (D_Four_many (i := 72) rfl) rfl ?_
            refine z_ladd hX (D_Four_many (i := 73) rfl) ?_
            refine z_ldc2 (v := 48) hX (D_Four_many (i := 74) rfl) k_Four_223 ?_
            refine z_ldiv hX (D_Four_many (i := 75) rfl) (by decide) ?_
            exact z_lret hX hR (D_Four_many (i := 76) rfl) rfl (h1 a1 a2 a5 a3 a4)
          · refine z_lload hX (D_Four_many (i := 44) rfl) rfl ?_
            refine z_ldc2 (v := 24) hX (D_Four_many (i := 45) rfl) k_Four_219 ?_
            refine z_ldiv hX (D_Four_many (i := 46) rfl) (by decide) ?_
            exact z_lret hX hR (D_Four_many (i := 47) rfl) rfl (h0 a1 a2 a5)
        · refine z_ldc2 (v := -1) hX (D_Four_many (i := 11) rfl) k_Four_211 ?_
          exact z_lret hX hR (D_Four_many (i := 12) rfl) rfl (hno (Or.inr (Or.inr (Or.inr a4))))
end F8
end
section
/-! cubes from a row; bits counted; the box -/
section F9
variable {l : Launch} {ι : zE} {mem : zM} {Post : Option zV → zM → Prop} {x y z : Int32} {sz nb : Nat}
def csP (mem : zM) (s : Nat) (x : Int32) (c e : Nat) : Int32 := (mem.2.1 32 s ((x + nI (6 * c)).toInt.toNat + e)).toInt32
def csM (mem : zM) (sz s : Nat) (x : Int32) (c : Nat) : zM := (fun a b e => if a = 3 ∧ sz ≤ b ∧ b < sz + c ∧ e < 6 then csP mem s x (b - sz) e else if a = 0 ∧ b = 0 ∧ e = 1 then nI (sz + c) else mem.1 a b e, mem.2)
def ciM (mem : zM) (sz s : Nat) (x : Int32) (c g : Nat) : zM := (fun a b e => if a = 3 ∧ b = sz + c ∧ e < g then csP mem s x c e else (csM mem sz s x c).1 a b e, mem.2)
theorem csM_0 {mem : zM} {sz s : Nat} {x : Int32} (hs : mem.1 0 0 1 = nI sz) : csM mem sz s x 0 = mem := by
  refine Prod.ext ?_ rfl
  funext a b e
  show (if a = 3 ∧ sz ≤ b ∧ b < sz + 0 ∧ e < 6 then csP mem s x (b - sz) e else if a = 0 ∧ b = 0 ∧ e = 1 then nI (sz + 0) else mem.1 a b e) = mem.1 a b e
  rw [if_neg (by omega)]
  split
  · next h => rw [h.1, h.2.1, h.2.2, hs]; rfl
  · rfl
theorem ciM_0 (mem : zM) (sz s : Nat) (x : Int32) (c : Nat) : ciM mem sz s x c 0 = csM mem sz s x c := by
  refine Prod.ext ?_ rfl
  funext a b e
  show (if a = 3 ∧ b = sz + c ∧ e < 0 then csP mem s x c e else (csM mem sz s x c).1 a b e) = _
  rw [if_neg (by omega)]
theorem ciM_s (mem : zM) (sz s : Nat) (x : Int32) (c g : Nat) : upI (ciM mem sz s x c g) 3 (sz + c) g (csP mem s x c g) = ciM mem sz s x c (g + 1) := by
  refine Prod.ext ?_ rfl
  funext a b e
  rw [upI_get]
  show (if a = 3 ∧ b = sz + c ∧ e = g then csP mem s x c g else (if a = 3 ∧ b = sz + c ∧ e < g then csP mem s x c e else (csM mem sz s x c).1 a b e)) = (if a = 3 ∧ b = sz + c ∧ e < g + 1 then csP mem s x c e else (csM mem sz s x c).1 a b e)
  by_cases h : a = 3 ∧ b = sz + c ∧ e < g + 1
  · rw [if_pos h]
    by_cases h2 : e = g
    · rw [if_pos ⟨h.1, h.2.1, h2⟩, h2]
    · rw [if_neg (fun w => h2 w.2.2), if_pos ⟨h.1, h.2.1, by omega⟩]
  · rw [if_neg h, if_neg (fun w => h ⟨w.1, w.2.1, by omega⟩), if_neg (fun w => h ⟨w.1, w.2.1, by omega⟩)]
theorem ciM_6 (mem : zM) (sz s : Nat) (x : Int32) (c : Nat) : upI (ciM mem sz s x c 6) 0 0 1 (nI (sz + c + 1)) = csM mem sz s x (c + 1) := by
  refine Prod.ext ?_ rfl
  funext a b e
  rw [upI_get]
  show (if a = 0 ∧ b = 0 ∧ e = 1 then nI (sz + c + 1) else (if a = 3 ∧ b = sz + c ∧ e < 6 then csP mem s x c e else (if a = 3 ∧ sz ≤ b ∧ b < sz + c ∧ e < 6 then csP mem s x (b - sz) e else if a = 0 ∧ b = 0 ∧ e = 1 then nI (sz + c) else mem.1 a b e))) = (if a = 3 ∧ sz ≤ b ∧ b < sz + (c + 1) ∧ e < 6 then csP mem s x (b - sz) e else if a = 0 ∧ b = 0 ∧ e = 1 then nI (sz + (c + 1)) else mem.1 a b e)
  by_cases h0 : a = 0 ∧ b = 0 ∧ e = 1
  · rw [if_pos h0, if_neg (by omega), if_pos h0]; rfl
  · rw [if_neg h0]
    by_cases h1 : a = 3 ∧ b = sz + c ∧ e < 6
    · rw [if_pos h1, if_pos ⟨h1.1, by omega, by omega, h1.2.2⟩, show b - sz = c by omega]
    · rw [if_neg h1]
      by_cases h2 : a = 3 ∧ sz ≤ b ∧ b < sz + c ∧ e < 6
      · rw [if_pos h2, if_pos ⟨h2.1, h2.2.1, by omega, h2.2.2.2⟩]
      · rw [if_neg h2, if_neg h0, if_neg (fun w => ?_)]
        · rw [if_neg h0]
        · by_cases h3 : b = sz + c
          · exact h1 ⟨w.1, h3, w.2.2.2⟩
          · exact h2 ⟨w.1, w.2.1, by omega, w.2.2.2⟩
def csB (mem : zM) (sz s L n : Nat) (x : Int32) (t : Nat) : Bool := decide (t < n) && (decide (sz + t < 8) && (hsB L (x + nI (6 * t)) 6 && alI (elB mem s (x + nI (6 * t)).toInt.toNat) 6))
theorem c_Four_cubes_loop (hH : zHas ι pX) {X : zX} (hX : zG ι M_Four_cubes X 3 pX) (hR : zRt ι X Post) (hs : mem.1 0 0 1 = nI sz) (h8 : sz ≤ 8) {s L n : Nat} (hs6 : s < 6) (hL : mem.1 31 s 3 = nI L) (h60 : L ≤ 60) (hn : n ≤ 8) {a1 : zV} (h : ∀ c, (∀ t, t < c → csB mem sz s L n x t = true) → csB mem sz s L n x c = false → Post (some (zI (nI c))) (csM mem sz s x c)) : zW ι M_Four_cubes X 60 [some (zP 0 0), some a1, some (zI x), some (zI (nI n)), some (zP 31 s), some (zI (nI 0)), none] [] mem := by
  suffices H : ∀ (d c : Nat) (v6 : Option zV), c + d = n → (∀ t, t < c → csB mem sz s L n x t = true) → zW ι M_Four_cubes X 60 [some (zP 0 0), some a1, some (zI x), some (zI (nI n)), some (zP 31 s), some (zI (nI c)), v6] [] (csM mem sz s x c) by
    have := H n 0 none (by omega) (fun _ h => absurd h (Nat.not_lt_zero _))
    rw [csM_0 hs] at this
    exact this
  intro d
  induction d with
  | zero =>
    intro c v6 hc hinv
    obtain rfl : c = n := by omega
    have hh := h c hinv (by unfold csB; rw [decide_eq_false (by omega)]; rfl)
    refine z_iload hX (D_Four_cubes (i := 31) rfl) rfl ?_
    refine z_iload_n hX (D_Four_cubes (i := 32) rfl) rfl ?_
    refine z_icmp_ge (tgt := 154) hX (D_Four_cubes (i := 33) rfl) (by decide) (fun _ => ?_) (fun hcc => absurd (Int32.le_refl _) hcc)
    refine z_iload hX (D_Four_cubes (i := 80) rfl) rfl ?_
    exact z_iret hX hR (D_Four_cubes (i := 81) rfl) rfl hh
  | succ d ih =>
    intro c v6 hc hinv
    have g1 : (csM mem sz s x c).1 0 0 1 = nI (sz + c) := by simp [csM]
    have gL : (csM mem sz s x c).1 31 s 3 = nI L := by simp [csM, hL]
    have el : ∀ w i, elB (csM mem sz s x c) s w i = elB mem s w i := fun _ _ => rfl
    have q6 : (6 : Int32) * nI c = nI (6 * c) := pk_mul 6 c
    have c8 : sz + c ≤ 8 := by
      by_cases hc0 : c = 0
      · omega
      · have a := hinv (c - 1) (by omega)
        unfold csB at a
        rw [Bool.and_eq_true, Bool.and_eq_true] at a
        have := of_decide_eq_true a.2.1
        omega
    refine z_iload hX (D_Four_cubes (i := 31) rfl) rfl ?_
    refine z_iload_n hX (D_Four_cubes (i := 32) rfl) rfl ?_
    refine z_icmp_ge (tgt := 154) hX (D_Four_cubes (i := 33) rfl) (by decide) (fun hcc => absurd hcc (nI_ge (by omega) (by omega))) (fun _ => ?_)
    refine z_aload_n hX (D_Four_cubes (i := 34) rfl) rfl ?_
    refine z_geti hX (D_Four_cubes (i := 35) rfl) f_Four_67 rfl (by decide) (by first | exact Nat.one_pos | assumption | omega) rfl ?_
    refine z_bipush (v := 8) hX (D_Four_cubes (i := 36) rfl) (by decide) ?_
    rw [g1]
    refine z_icmp_ge (tgt := 154) hX (D_Four_cubes (i := 37) rfl) (by decide) (fun h1 => ?_) (fun h1 => ?_)
    · refine z_iload hX (D_Four_cubes (i := 80) rfl) rfl ?_
      refine z_iret hX hR (D_Four_cubes (i := 81) rfl) rfl (h c hinv ?_)
      have : ¬ sz + c < 8 := fun w => absurd h1 (nI_ge (b := 8) w (by decide))
      unfold csB
      rw [decide_eq_false this]; simp
    · refine z_aload hX (D_Four_cubes (i := 38) rfl) rfl ?_
      refine z_iload_n hX (D_Four_cubes (i := 39) rfl) rfl ?_
      refine z_bipush (v := 6) hX (D_Four_cubes (i := 40) rfl) (by decide) ?_
      refine z_iload hX (D_Four_cubes (i := 41) rfl) rfl ?_
      refine z_imul hX (D_Four_cubes (i := 42) rfl) ?_
      refine z_iadd hX (D_Four_cubes (i := 43) rfl) ?_
      have c7 : sz + c < 8 := Nat.not_le.mp (fun w => h1 (nI_le (a := 8) w (by omega)))
      rw [q6]
      refine z_cV1 hX (D_Four_cubes (i := 44) rfl) mi_Shelf_hasSixColours l_Four_88 rfl rfl (by decide) (by first | exact Nat.one_pos | assumption | omega) (by first | decide | omega) (Nat.le_of_ble_eq_true rfl) (c_Shelf_hasSixColours hH hs6 gL h60 ?_)
      have e0 : csB mem sz s L n x c = (hsB L (x + nI (6 * c)) 6 && alI (elB mem s (x + nI (6 * c)).toInt.toNat) 6) := by
        unfold csB
        rw [decide_eq_true (show c < n by omega), decide_eq_true c7]; rfl
      rw [show alI (elB (csM mem sz s x c) s (x + nI (6 * c)).toInt.toNat) 6 = alI (elB mem s (x + nI (6 * c)).toInt.toNat) 6 from rfl, ← e0]
      refine z_if_eq (tgt := 154) hX (D_Four_cubes (i := 45) rfl) (by decide) (fun h2 => ?_) (fun h2 => ?_)
      · refine z_iload hX (D_Four_cubes (i := 80) rfl) rfl ?_
        exact z_iret hX hR (D_Four_cubes (i := 81) rfl) rfl (h c hinv (bI_0.mp h2))
      · skip
        have h3 := bI_n.mp h2
        have h4 := h3
        rw [e0, Bool.and_eq_true] at h4
        have h5 := of_decide_eq_true h4.1
        have e6 : (6 : Int32).toInt = 6 := rfl
        rw [e6] at h5
        obtain ⟨j, hj, hx⟩ : ∃ j : Nat, j + 6 ≤ L ∧ x + nI (6 * c) = nI j := ⟨(x + nI (6 * c)).toInt.toNat, by omega, Int32.toInt_inj.mp (by rw [nI_toInt (by omega)]; omega)⟩
        have hjj : (x + nI (6 * c)).toInt.toNat = j := by rw [hx, nI_toInt (by omega)]; rfl
        refine z_iconst (v := 0) hX (D_Four_cubes (i := 46) rfl) (by decide) ?_
        refine z_istore hX (D_Four_cubes (i := 47) rfl) (by decide) rfl ?_
        rw [← ciM_0]
        suffices HI : ∀ (d2 g : Nat), g + d2 = 6 → zW ι M_Four_cubes X 93 [some (zP 0 0), some a1, some (zI x), some (zI (nI n)), some (zP 31 s), some (zI (nI c)), some (zI (nI g))] [] (ciM mem sz s x c g) from HI 6 0 rfl
        intro d2
        induction d2 with
        | zero =>
          intro g hg
          obtain rfl : g = 6 := by omega
          refine z_iload hX (D_Four_cubes (i := 48) rfl) rfl ?_
          refine z_bipush (v := 6) hX (D_Four_cubes (i := 49) rfl) (by decide) ?_
          refine z_icmp_ge (tgt := 138) hX (D_Four_cubes (i := 50) rfl) (by decide) (fun _ => ?_) (fun hcc => absurd (Int32.le_refl _) hcc)
          refine z_aload_n hX (D_Four_cubes (i := 72) rfl) rfl ?_
          refine z_dupP hX (D_Four_cubes (i := 73) rfl) ?_
          refine z_geti hX (D_Four_cubes (i := 74) rfl) f_Four_67 rfl (by decide) (by first | exact Nat.one_pos | assumption | omega) rfl ?_
          rw [show (ciM mem sz s x c 6).1 0 0 1 = nI (sz + c) by simp [ciM, csM]]
          refine z_iconst (v := 1) hX (D_Four_cubes (i := 75) rfl) (by decide) ?_
          refine z_iadd hX (D_Four_cubes (i := 76) rfl) ?_
          rw [nlit, nI_add]
          refine z_puti hX (D_Four_cubes (i := 77) rfl) g_Four_67 rfl (by decide) (by first | exact Nat.one_pos | assumption | omega) rfl ?_
          rw [ciM_6]
          first | refine z_inc1 hX (D_Four_cubes (i := 78) rfl) rfl (by decide) rfl ?_ | refine z_iinc hX (D_Four_cubes (i := 78) rfl) rfl rfl (by decide) rfl ?_
          refine z_goto (tgt := 60) hX (D_Four_cubes (i := 79) rfl) (by decide) ?_
          exact ih (c + 1) _ (by omega) (fun t ht => if e : t = c then by subst e; exact h3 else hinv t (by omega))
        | succ d2 ih2 =>
          intro g hg
          refine z_iload hX (D_Four_cubes (i := 48) rfl) rfl ?_
          refine z_bipush (v := 6) hX (D_Four_cubes (i := 49) rfl) (by decide) ?_
          refine z_icmp_ge (tgt := 138) hX (D_Four_cubes (i := 50) rfl) (by decide) (fun hcc => absurd hcc (nI_ge (b := 6) (by omega) (by decide))) (fun _ => ?_)
          refine z_aload_n hX (D_Four_cubes (i := 51) rfl) rfl ?_
          refine z_getc hX (D_Four_cubes (i := 52) rfl) f_Four_11 rfl (by decide) (by first | exact Nat.one_pos | assumption | omega) rfl ?_
          refine z_aload_n hX (D_Four_cubes (i := 53) rfl) rfl ?_
          refine z_geti hX (D_Four_cubes (i := 54) rfl) f_Four_67 rfl (by decide) (by first | exact Nat.one_pos | assumption | omega) rfl ?_
          rw [show (ciM mem sz s x c g).1 0 0 1 = nI (sz + c) by simp [ciM, csM]]
          refine z_aldCubec (j := sz + c) hX (D_Four_cubes (i := 55) rfl) rfl (by decide) (by first | exact Nat.one_pos | assumption | omega) (by decide) rfl c7 ?_
          refine z_getc hX (D_Four_cubes (i := 56) rfl) f_Four_71 rfl (by decide) (by first | exact Nat.one_pos | assumption | omega) rfl ?_
          refine z_iload hX (D_Four_cubes (i := 57) rfl) rfl ?_
          refine z_aload hX (D_Four_cubes (i := 58) rfl) rfl ?_
          refine z_getc hX (D_Four_cubes (i := 59) rfl) f_Four_91 rfl (by decide) (by first | exact Nat.one_pos | assumption | omega) rfl ?_
          refine z_iload_n hX (D_Four_cubes (i := 60) rfl) rfl ?_
          refine z_bipush (v := 6) hX (D_Four_cubes (i := 61) rfl) (by decide) ?_
          refine z_iload hX (D_Four_cubes (i := 62) rfl) rfl ?_
          refine z_imul hX (D_Four_cubes (i := 63) rfl) ?_
          refine z_iadd hX (D_Four_cubes (i := 64) rfl) ?_
          refine z_iload hX (D_Four_cubes (i := 65) rfl) rfl ?_
          refine z_iadd hX (D_Four_cubes (i := 66) rfl) ?_
          rw [q6, hx, nI_add]
          refine z_lald (j := j + g) hX (D_Four_cubes (i := 67) rfl) rfl (by decide) (by first | exact Nat.one_pos | assumption | omega) (by decide) rfl (by omega) ?_
          refine z_l2i hX (D_Four_cubes (i := 68) rfl) ?_
          rw [show ((ciM mem sz s x c g).2.1 32 s (j + g)).toInt32 = csP mem s x c g by unfold csP; rw [hjj]; rfl]
          refine z_iast (j := g) hX (D_Four_cubes (i := 69) rfl) rfl (by decide) (by first | exact Nat.one_pos | assumption | omega) (by decide) rfl (by omega) ?_
          rw [ciM_s]
          first | refine z_inc1 hX (D_Four_cubes (i := 70) rfl) rfl (by decide) rfl ?_ | refine z_iinc hX (D_Four_cubes (i := 70) rfl) rfl rfl (by decide) rfl ?_
          refine z_goto (tgt := 93) hX (D_Four_cubes (i := 71) rfl) (by decide) ?_
          exact ih2 (g + 1) (by omega)
theorem c_Four_cubes (hH : zHas ι pX) (hs : mem.1 0 0 1 = nI sz) (h8 : sz ≤ 8) (hS : ShOK mem) (hno : (inN x 6 = false ∨ z < 1 ∨ ¬ z ≤ 8) → Post (some (zI (-1))) mem) (hbare : ∀ k, k < 6 → x = nI k → ¬ z < 1 → z ≤ 8 → mem.1 31 k 0 = 0 → Post (some (zI 0)) mem) (hkind : ∀ k, k < 6 → x = nI k → ¬ z < 1 → z ≤ 8 → ¬ mem.1 31 k 0 = 0 → (¬ mem.1 31 k 0 = 2 ∨ ¬ mem.1 31 k 2 = 0) → Post (some (zI (-12))) mem) (hok : ∀ k L n c, k < 6 → x = nI k → n ≤ 8 → z = nI n → L ≤ 60 → mem.1 31 k 0 = 2 → mem.1 31 k 2 = 0 → mem.1 31 k 3 = nI L → (∀ t, t < c → csB mem sz k L n y t = true) → csB mem sz k L n y c = false → Post (some (zI (nI c))) (csM mem sz k y c)) : zC l ι M_Four_cubes 3 [zP 0 0, zI x, zI y, zI z] mem Post := by
  refine z_enter hH (by decide) (by simp [z_ent, M_Four_cubes]) (fun X hXl hX hR => ?_)
  refine z_iload_n hX (D_Four_cubes (i := 0) rfl) rfl ?_
  refine z_cS1 hX (D_Four_cubes (i := 1) rfl) ms_Four_isShelf l_Four_75 (by first | decide | omega) (Nat.le_of_ble_eq_true rfl) (c_Four_isShelf ?_)
  refine z_if_eq (tgt := 18) hX (D_Four_cubes (i := 2) rfl) (by decide) (fun h1 => ?_) (fun h1 => ?_)
  · refine z_iconst (v := -1) hX (D_Four_cubes (i := 9) rfl) (by decide) ?_
    exact z_iret hX hR (D_Four_cubes (i := 10) rfl) rfl (hno (Or.inl (bI_0.mp h1)))
  · refine z_iload_n hX (D_Four_cubes (i := 3) rfl) rfl ?_
    refine z_iconst (v := 1) hX (D_Four_cubes (i := 4) rfl) (by decide) ?_
    refine z_icmp_lt (tgt := 18) hX (D_Four_cubes (i := 5) rfl) (by decide) (fun h2 => ?_) (fun h2 => ?_)
    · refine z_iconst (v := -1) hX (D_Four_cubes (i := 9) rfl) (by decide) ?_
      exact z_iret hX hR (D_Four_cubes (i := 10) rfl) rfl (hno (Or.inr (Or.inl h2)))
    · refine z_iload_n hX (D_Four_cubes (i := 6) rfl) rfl ?_
      refine z_bipush (v := 8) hX (D_Four_cubes (i := 7) rfl) (by decide) ?_
      refine z_icmp_le (tgt := 20) hX (D_Four_cubes (i := 8) rfl) (by decide) (fun h3 => ?_) (fun h3 => ?_)
      · skip
        obtain ⟨k, hk, rfl⟩ := inN_ex (bI_n.mp h1) (by omega)
        obtain ⟨L, s, hL, h5, e3, e2⟩ := hS k hk
        have hz := h3
        obtain ⟨n, hn, hzn⟩ : ∃ n : Nat, n ≤ 8 ∧ z = nI n := by
          have a1 : ¬ z.toInt < (1 : Int32).toInt := fun w => h2 (Int32.lt_iff_toInt_lt.mpr w)
          have a2 := Int32.le_iff_toInt_le.mp h3
          have k1 : (1 : Int32).toInt = 1 := rfl
          have k8 : (8 : Int32).toInt = 8 := rfl
          exact ⟨z.toInt.toNat, by omega, Int32.toInt_inj.mp (by rw [nI_toInt (by omega)]; omega)⟩
        refine z_aload_n hX (D_Four_cubes (i := 11) rfl) rfl ?_
        refine z_getc hX (D_Four_cubes (i := 12) rfl) f_Four_58 rfl (by decide) (by first | exact Nat.one_pos | assumption | omega) rfl ?_
        refine z_iload_n hX (D_Four_cubes (i := 13) rfl) rfl ?_
        refine z_aldShelfc (j := k) hX (D_Four_cubes (i := 14) rfl) rfl (by decide) (by first | exact Nat.one_pos | assumption | omega) (by decide) rfl hk ?_
        refine z_astore hX (D_Four_cubes (i := 15) rfl) (by decide) rfl ?_
        refine z_aload hX (D_Four_cubes (i := 16) rfl) rfl ?_
        refine z_cV0 hX (D_Four_cubes (i := 17) rfl) mi_Shelf_isBare l_Four_78 rfl rfl (by decide) (by first | exact Nat.one_pos | assumption | omega) (by first | decide | omega) (Nat.le_of_ble_eq_true rfl) (c_Shelf_isBare hH hk ?_)
        refine z_if_eq (tgt := 38) hX (D_Four_cubes (i := 18) rfl) (by decide) (fun h4 => ?_) (fun h4 => ?_)
        · refine z_aload hX (D_Four_cubes (i := 21) rfl) rfl ?_
          have n4 := of_decide_eq_false (bI_0.mp h4)
          refine z_cV0 hX (D_Four_cubes (i := 22) rfl) mi_Shelf_isRow l_Four_82 rfl rfl (by decide) (by first | exact Nat.one_pos | assumption | omega) (by first | decide | omega) (Nat.le_of_ble_eq_true rfl) (c_Shelf_isRow hH hk ?_)
          refine z_if_eq (tgt := 54) hX (D_Four_cubes (i := 23) rfl) (by decide) (fun h6 => ?_) (fun h6 => ?_)
          · refine z_bipush (v := -12) hX (D_Four_cubes (i := 27) rfl) (by decide) ?_
            exact z_iret hX hR (D_Four_cubes (i := 28) rfl) rfl (hkind k hk rfl h2 h3 n4 (Or.inl (of_decide_eq_false (bI_0.mp h6))))
          · refine z_aload hX (D_Four_cubes (i := 24) rfl) rfl ?_
            refine z_geti hX (D_Four_cubes (i := 25) rfl) f_Four_85 rfl (by decide) (by first | exact Nat.one_pos | assumption | omega) rfl ?_
            refine z_if_eq (tgt := 57) hX (D_Four_cubes (i := 26) rfl) (by decide) (fun h7 => ?_) (fun h7 => ?_)
            · refine z_iconst (v := 0) hX (D_Four_cubes (i := 29) rfl) (by decide) ?_
              refine z_istore hX (D_Four_cubes (i := 30) rfl) (by decide) rfl ?_
              subst hzn
              exact c_Four_cubes_loop hH hX hR hs h8 hk e3 hL hn (fun c q1 q2 => hok k L n c hk rfl hn rfl hL (of_decide_eq_true (bI_n.mp h6)) h7 e3 q1 q2)
            · refine z_bipush (v := -12) hX (D_Four_cubes (i := 27) rfl) (by decide) ?_
              exact z_iret hX hR (D_Four_cubes (i := 28) rfl) rfl (hkind k hk rfl h2 h3 n4 (Or.inr h7))
        · refine z_iconst (v := 0) hX (D_Four_cubes (i := 19) rfl) (by decide) ?_
          exact z_iret hX hR (D_Four_cubes (i := 20) rfl) rfl (hbare k hk rfl h2 h3 (of_decide_eq_true (bI_n.mp h4)))
      · refine z_iconst (v := -1) hX (D_Four_cubes (i := 9) rfl) (by decide) ?_
        exact z_iret hX hR (D_Four_cubes (i := 10) rfl) rfl (hno (Or.inr (Or.inr h3)))
def us (x : Int32) (k : Int32) : Int32 := (x.toUInt32 >>> (k.toUInt32 &&& Int32.toUInt32 31)).toInt32
def bcE (x : Int32) : Int32 :=
  let a := x - (us x 1 &&& 1431655765)
  let b := (a &&& 858993459) + (us a 2 &&& 858993459)
  let c := (b + us b 4) &&& 252645135
  let d := c + us c 8
  let e := d + us d 16
  e &&& 63
theorem c_bitCount (h : Post (some (zI (bcE x))) mem) : zC l ι M_Integer_bitCount_0f7a4 0 [zI x] mem Post := by
  have hH : zHas ι [] := zHas.nil
  refine z_enter hH (by decide) (by simp [z_ent, M_Integer_bitCount_0f7a4]) (fun X hXl hX hR => ?_)
  refine z_iload_n hX (D_Integer_bitCount_0f7a4 (i := 0) rfl) rfl ?_
  refine z_iload_n hX (D_Integer_bitCount_0f7a4 (i := 1) rfl) rfl ?_
  refine z_iconst (v := 1) hX (D_Integer_bitCount_0f7a4 (i := 2) rfl) (by decide) ?_
  refine z_iushr hX (D_Integer_bitCount_0f7a4 (i := 3) rfl) ?_
  refine z_ldcw (v := 1431655765) hX (D_Integer_bitCount_0f7a4 (i := 4) rfl) k_Integer_265 ?_
  refine z_iand hX (D_Integer_bitCount_0f7a4 (i := 5) rfl) ?_
  refine z_isub hX (D_Integer_bitCount_0f7a4 (i := 6) rfl) ?_
  refine z_istore_n hX (D_Integer_bitCount_0f7a4 (i := 7) rfl) (by decide) rfl ?_
  refine z_iload_n hX (D_Integer_bitCount_0f7a4 (i := 8) rfl) rfl ?_
  refine z_ldcw (v := 858993459) hX (D_Integer_bitCount_0f7a4 (i := 9) rfl) k_Integer_266 ?_
  refine z_iand hX (D_Integer_bitCount_0f7a4 (i := 10) rfl) ?_
  refine z_iload_n hX (D_Integer_bitCount_0f7a4 (i := 11) rfl) rfl ?_
  refine z_iconst (v := 2) hX (D_Integer_bitCount_0f7a4 (i := 12) rfl) (by decide) ?_
  refine z_iushr hX (D_Integer_bitCount_0f7a4 (i := 13) rfl) ?_
  refine z_ldcw (v := 858993459) hX (D_Integer_bitCount_0f7a4 (i := 14) rfl) k_Integer_266 ?_
  refine z_iand hX (D_Integer_bitCount_0f7a4 (i := 15) rfl) ?_
  refine z_iadd hX (D_Integer_bitCount_0f7a4 (i := 16) rfl) ?_
  refine z_istore_n hX (D_Integer_bitCount_0f7a4 (i := 17) rfl) (by decide) rfl ?_
  refine z_iload_n hX (D_Integer_bitCount_0f7a4 (i := 18) rfl) rfl ?_
  refine z_iload_n hX (D_Integer_bitCount_0f7a4 (i := 19) rfl) rfl ?_
  refine z_iconst (v := 4) hX (D_Integer_bitCount_0f7a4 (i := 20) rfl) (by decide) ?_
  refine z_iushr hX (D_Integer_bitCount_0f7a4 (i := 21) rfl) ?_
  refine z_iadd hX (D_Integer_bitCount_0f7a4 (i := 22) rfl) ?_
  refine z_ldcw (v := 252645135) hX (D_Integer_bitCount_0f7a4 (i := 23) rfl) k_Integer_267 ?_
  refine z_iand hX (D_Integer_bitCount_0f7a4 (i := 24) rfl) ?_
  refine z_istore_n hX (D_Integer_bitCount_0f7a4 (i := 25) rfl) (by decide) rfl ?_
  refine z_iload_n hX (D_Integer_bitCount_0f7a4 (i := 26) rfl) rfl ?_
  refine z_iload_n hX (D_Integer_bitCount_0f7a4 (i := 27) rfl) rfl ?_
  refine z_bipush (v := 8) hX (D_Integer_bitCount_0f7a4 (i := 28) rfl) (by decide) ?_
  refine z_iushr hX (D_Integer_bitCount_0f7a4 (i := 29) rfl) ?_
  refine z_iadd hX (D_Integer_bitCount_0f7a4 (i := 30) rfl) ?_
  refine z_istore_n hX (D_Integer_bitCount_0f7a4 (i := 31) rfl) (by decide) rfl ?_
  refine z_iload_n hX (D_Integer_bitCount_0f7a4 (i := 32) rfl) rfl ?_
  refine z_iload_n hX (D_Integer_bitCount_0f7a4 (i := 33) rfl) rfl ?_
  refine z_bipush (v := 16) hX (D_Integer_bitCount_0f7a4 (i := 34) rfl) (by decide) ?_
  refine z_iushr hX (D_Integer_bitCount_0f7a4 (i := 35) rfl) ?_
  refine z_iadd hX (D_Integer_bitCount_0f7a4 (i := 36) rfl) ?_
  refine z_istore_n hX (D_Integer_bitCount_0f7a4 (i := 37) rfl) (by decide) rfl ?_
  refine z_iload_n hX (D_Integer_bitCount_0f7a4 (i := 38) rfl) rfl ?_
  refine z_bipush (v := 63) hX (D_Integer_bitCount_0f7a4 (i := 39) rfl) (by decide) ?_
  refine z_iand hX (D_Integer_bitCount_0f7a4 (i := 40) rfl) ?_
  exact z_iret hX hR (D_Integer_bitCount_0f7a4 (i := 41) rfl) rfl h
/-- how many of the bits below n -/
def pcN (b : Nat) : Nat → Nat
  | 0 => 0
  | n + 1 => pcN b n + (if b.testBit n then 1 else 0)
theorem bc8 : ∀ b, b < 256 → bcE (nI b) = nI (pcN b 8) ∧ pcN b 8 ≤ 8 := by decide +kernel
theorem c_Four_box (hH : zHas ι pX) (hs : mem.1 0 0 1 = nI sz) (h8 : sz ≤ 8) (hno : (inN x (2 ^ sz) = false ∨ ∃ b, b < 2 ^ sz ∧ x = nI b ∧ 4 < pcN b 8) → Post (some (zI (-1))) mem) (hok : ∀ b, b < 2 ^ sz → x = nI b → pcN b 8 ≤ 4 → Post (some (zI (mem.1 0 0 2))) (upI mem 0 0 2 (nI b))) : zC l ι M_Four_box 1 [zP 0 0, zI x] mem Post := by
  have h9 := p8 sz h8
  refine z_enter hH (by decide) (by simp [z_ent, M_Four_box]) (fun X hXl hX hR => ?_)
  refine z_aload_n hX (D_Four_box (i := 0) rfl) rfl ?_
  refine z_iload_n hX (D_Four_box (i := 1) rfl) rfl ?_
  refine z_cV1 hX (D_Four_box (i := 2) rfl) mi_Four_areCubes l_Four_119 rfl rfl (by decide) (by first | exact Nat.one_pos | assumption | omega) (by first | decide | omega) (Nat.le_of_ble_eq_true rfl) (c_Four_areCubes hH hs h8 ?_)
  refine z_if_eq (tgt := 16) hX (D_Four_box (i := 3) rfl) (by decide) (fun h1 => ?_) (fun h1 => ?_)
  · refine z_iconst (v := -1) hX (D_Four_box (i := 8) rfl) (by decide) ?_
    exact z_iret hX hR (D_Four_box (i := 9) rfl) rfl (hno (Or.inl (bI_0.mp h1)))
  · refine z_iload_n hX (D_Four_box (i := 4) rfl) rfl ?_
    refine z_cS1 hX (D_Four_box (i := 5) rfl) ms_Integer_bitCount_0f7a4 l_Four_122 (by first | decide | omega) (Nat.le_of_ble_eq_true rfl) (c_bitCount ?_)
    obtain ⟨b, hb, rfl⟩ := inN_ex (bI_n.mp h1) (by omega)
    obtain ⟨e1, e2⟩ := bc8 b (by omega)
    rw [e1]
    refine z_iconst (v := 4) hX (D_Four_box (i := 6) rfl) (by decide) ?_
    refine z_icmp_le (tgt := 18) hX (D_Four_box (i := 7) rfl) (by decide) (fun h2 => ?_) (fun h2 => ?_)
    · refine z_aload_n hX (D_Four_box (i := 10) rfl) rfl ?_
      refine z_geti hX (D_Four_box (i := 11) rfl) f_Four_127 rfl (by decide) (by first | exact Nat.one_pos | assumption | omega) rfl ?_
      refine z_istore_n hX (D_Four_box (i := 12) rfl) (by decide) rfl ?_
      refine z_aload_n hX (D_Four_box (i := 13) rfl) rfl ?_
      refine z_iload_n hX (D_Four_box (i := 14) rfl) rfl ?_
      refine z_puti hX (D_Four_box (i := 15) rfl) g_Four_127 rfl (by decide) (by first | exact Nat.one_pos | assumption | omega) rfl ?_
      refine z_iload_n hX (D_Four_box (i := 16) rfl) rfl ?_
      exact z_iret hX hR (D_Four_box (i := 17) rfl) rfl (hok b hb rfl ((nI_leI (b := 4) (by omega) (by decide)).mp h2))
    · refine z_iconst (v := -1) hX (D_Four_box (i := 8) rfl) (by decide) ?_
      exact z_iret hX hR (D_Four_box (i := 9) rfl) rfl (hno (Or.inr ⟨b, hb, rfl, Nat.not_le.mp (fun w => h2 (nI_le (b := 4) w (by decide)))⟩))
end F9
end
section
/-! the reference's simple calls -/
def cv (mem : zM) : zM := (fun _ k f => mem.1 41 0 (6 * k + f), mem.2)
def aroN (j : Nat) : Nat := [5, 1, 4, 3, 0, 5, 2, 4, 4, 1, 5, 3, 0, 4, 2, 5, 0, 1, 2, 3, 2, 1, 0, 3].getD j 0
def ArOK (mem : zM) : Prop := ∀ j, j < 24 → mem.1 43 0 j = nI (aroN j)
def oppN (f : Nat) : Nat := if f < 4 then (f + 2) % 4 else 9 - f
theorem aro_ok : ∀ t, t < 24 → (∀ w, w < 4 → aroN (4 * (t / 4) + (t % 4 + w) % 4) = stN t w) ∧ t / 4 = stN t 4 ∧ oppN (t / 4) = stN t 5 := by decide +kernel
theorem in0 {x : Int32} {n : Nat} (hn : n < 2 ^ 30) : decide ((0 : Int32) ≤ x ∧ x ≤ nI n - 1) = inN x n := by
  unfold inN
  refine decide_eq_decide.mpr ?_
  have e := pk_sub_toInt (a := n) (b := 1) hn (by decide)
  rw [Int32.le_iff_toInt_le, Int32.le_iff_toInt_le, i32_0]
  rw [show (nI n - 1).toInt = (n : Int) - 1 from e]
  omega
theorem in0l {x : Int32} {n : Nat} (hn : n + 1 < 2 ^ 31) : decide ((0 : Int32) ≤ x ∧ x ≤ nI n) = inN x (n + 1) := by
  unfold inN
  refine decide_eq_decide.mpr ?_
  rw [Int32.le_iff_toInt_le, Int32.le_iff_toInt_le, i32_0, nI_toInt (by omega)]
  omega
section G1
variable {l : Launch} {ι : zE} {mem : zM} {Post : Option zV → zM → Prop} {x y z : Int32} {sz nb : Nat}
theorem d_in (h : Post (some (zI (bI (decide (y ≤ x ∧ x ≤ z))))) mem) : zC l ι M_Model_in 0 [zI x, zI y, zI z] mem Post := by
  have hH : zHas ι [] := zHas.nil
  refine z_enter hH (by decide) (by simp [z_ent, M_Model_in]) (fun X hXl hX hR => ?_)
  refine z_iload_n hX (D_Model_in (i := 0) rfl) rfl ?_
  refine z_iload_n hX (D_Model_in (i := 1) rfl) rfl ?_
  refine z_icmp_lt (tgt := 14) hX (D_Model_in (i := 2) rfl) (by decide) (fun h1 => ?_) (fun h1 => ?_)
  · refine z_iconst (v := 0) hX (D_Model_in (i := 8) rfl) (by decide) ?_
    rw [decide_eq_false (fun w => absurd h1 (Int32.not_lt.mpr w.1))] at h
    exact z_zret hX hR (D_Model_in (i := 9) rfl) rfl (by first | exact Or.inl rfl | exact Or.inr rfl | assumption) (by assumption)
  · refine z_iload_n hX (D_Model_in (i := 3) rfl) rfl ?_
    refine z_iload_n hX (D_Model_in (i := 4) rfl) rfl ?_
    refine z_icmp_gt (tgt := 14) hX (D_Model_in (i := 5) rfl) (by decide) (fun h2 => ?_) (fun h2 => ?_)
    · refine z_iconst (v := 0) hX (D_Model_in (i := 8) rfl) (by decide) ?_
      rw [decide_eq_false (fun w => absurd h2 (Int32.not_lt.mpr w.2))] at h
      exact z_zret hX hR (D_Model_in (i := 9) rfl) rfl (by first | exact Or.inl rfl | exact Or.inr rfl | assumption) (by assumption)
    · refine z_iconst (v := 1) hX (D_Model_in (i := 6) rfl) (by decide) ?_
      refine z_goto (tgt := 15) hX (D_Model_in (i := 7) rfl) (by decide) ?_
      rw [decide_eq_true ⟨Int32.not_lt.mp h1, Int32.not_lt.mp h2⟩] at h
      exact z_zret hX hR (D_Model_in (i := 9) rfl) rfl (by first | exact Or.inl rfl | exact Or.inr rfl | assumption) (by assumption)
theorem d_isCube (hH : zHas ι pM) (hs : mem.1 40 0 1 = nI sz) (h8 : sz ≤ 8) (h : Post (some (zI (bI (inN x sz)))) mem) : zC l ι M_Model_isCube 1 [zP 40 0, zI x] mem Post := by
  refine z_enter hH (by decide) (by simp [z_ent, M_Model_isCube]) (fun X hXl hX hR => ?_)
  refine z_iload_n hX (D_Model_isCube (i := 0) rfl) rfl ?_
  refine z_iconst (v := 0) hX (D_Model_isCube (i := 1) rfl) (by decide) ?_
  refine z_aload_n hX (D_Model_isCube (i := 2) rfl) rfl ?_
  refine z_geti hX (D_Model_isCube (i := 3) rfl) f_Model_99 rfl (by decide) (by first | exact Nat.one_pos | assumption | omega) rfl ?_
  refine z_iconst (v := 1) hX (D_Model_isCube (i := 4) rfl) (by decide) ?_
  refine z_isub hX (D_Model_isCube (i := 5) rfl) ?_
  rw [hs]
  refine z_cS3 hX (D_Model_isCube (i := 6) rfl) ms_Model_in l_Model_102 (by first | decide | omega) (Nat.le_of_ble_eq_true rfl) (d_in ?_)
  rw [in0 (by omega)]
  exact z_zret hX hR (D_Model_isCube (i := 7) rfl) rfl (bI_or _) h
theorem d_isFace (hH : zHas ι pM) (hs : mem.1 40 0 1 = nI sz) (h8 : sz ≤ 8) (h : Post (some (zI (bI (fcB x sz)))) mem) : zC l ι M_Model_isFace 2 [zP 40 0, zI x] mem Post := by
  refine z_enter hH (by decide) (by simp [z_ent, M_Model_isFace]) (fun X hXl hX hR => ?_)
  refine z_iload_n hX (D_Model_isFace (i := 0) rfl) rfl ?_
  refine z_if_lt (tgt := 28) hX (D_Model_isFace (i := 1) rfl) (by decide) (fun h1 => ?_) (fun h1 => ?_)
  · refine z_iconst (v := 0) hX (D_Model_isFace (i := 15) rfl) (by decide) ?_
    rw [fcB_lo h1] at h
    exact z_zret hX hR (D_Model_isFace (i := 16) rfl) rfl (by first | exact Or.inl rfl | exact Or.inr rfl | assumption) (by assumption)
  · skip
    obtain ⟨j, hj, rfl⟩ := nI_of h1
    rw [fcB_nI hj] at h
    refine z_aload_n hX (D_Model_isFace (i := 2) rfl) rfl ?_
    refine z_iload_n hX (D_Model_isFace (i := 3) rfl) rfl ?_
    refine z_bipush (v := 10) hX (D_Model_isFace (i := 4) rfl) (by decide) ?_
    refine z_idiv hX (D_Model_isFace (i := 5) rfl) (by decide) ?_
    rw [nlit, pk_div hj (by decide) (by decide)]
    refine z_cV1 hX (D_Model_isFace (i := 6) rfl) mi_Model_isCube l_Model_106 rfl rfl (by decide) (by first | exact Nat.one_pos | assumption | omega) (by first | decide | omega) (Nat.le_of_ble_eq_true rfl) (d_isCube hH hs h8 ?_)
    rw [inN_nI' (by omega)]
    refine z_if_eq (tgt := 28) hX (D_Model_isFace (i := 7) rfl) (by decide) (fun h2 => ?_) (fun h2 => ?_)
    · refine z_iconst (v := 0) hX (D_Model_isFace (i := 15) rfl) (by decide) ?_
      rw [bI_0.mp h2] at h
      exact z_zret hX hR (D_Model_isFace (i := 16) rfl) rfl (by first | exact Or.inl rfl | exact Or.inr rfl | assumption) (by assumption)
    · refine z_iload_n hX (D_Model_isFace (i := 8) rfl) rfl ?_
      refine z_bipush (v := 10) hX (D_Model_isFace (i := 9) rfl) (by decide) ?_
      refine z_irem hX (D_Model_isFace (i := 10) rfl) (by decide) ?_
      rw [nlit, pk_rem hj (by decide) (by decide)]
      refine z_bipush (v := 6) hX (D_Model_isFace (i := 11) rfl) (by decide) ?_
      rw [bI_n.mp h2] at h
      refine z_icmp_ge (tgt := 28) hX (D_Model_isFace (i := 12) rfl) (by decide) (fun h3 => ?_) (fun h3 => ?_)
      · refine z_iconst (v := 0) hX (D_Model_isFace (i := 15) rfl) (by decide) ?_
        rw [decide_eq_false (Nat.not_lt.mpr ((nI_leI (a := 6) (by decide) (by omega)).mp h3))] at h
        exact z_zret hX hR (D_Model_isFace (i := 16) rfl) rfl (by first | exact Or.inl rfl | exact Or.inr rfl | assumption) (by assumption)
      · refine z_iconst (v := 1) hX (D_Model_isFace (i := 13) rfl) (by decide) ?_
        refine z_goto (tgt := 29) hX (D_Model_isFace (i := 14) rfl) (by decide) ?_
        rw [decide_eq_true (Nat.not_le.mp (fun z => h3 ((nI_leI (a := 6) (by decide) (by omega)).mpr z)))] at h
        exact z_zret hX hR (D_Model_isFace (i := 16) rfl) rfl (by first | exact Or.inl rfl | exact Or.inr rfl | assumption) (by assumption)
theorem d_isColour (h : Post (some (zI (bI (inN x 6)))) mem) : zC l ι M_Model_isColour 1 [zI x] mem Post := by
  have hH : zHas ι [] := zHas.nil
  refine z_enter hH (by decide) (by simp [z_ent, M_Model_isColour]) (fun X hXl hX hR => ?_)
  refine z_iload_n hX (D_Model_isColour (i := 0) rfl) rfl ?_
  refine z_iconst (v := 0) hX (D_Model_isColour (i := 1) rfl) (by decide) ?_
  refine z_iconst (v := 5) hX (D_Model_isColour (i := 2) rfl) (by decide) ?_
  refine z_cS3 hX (D_Model_isColour (i := 3) rfl) ms_Model_in l_Model_102 (by first | decide | omega) (Nat.le_of_ble_eq_true rfl) (d_in ?_)
  rw [show decide ((0 : Int32) ≤ x ∧ x ≤ 5) = inN x 6 from in0l (n := 5) (by decide)]
  exact z_zret hX hR (D_Model_isColour (i := 4) rfl) rfl (bI_or _) h
theorem d_turn (hH : zHas ι pM) (hs : mem.1 40 0 1 = nI sz) (h8 : sz ≤ 8) (hno : (inN x sz && inN y 24) = false → Post (some (zI (-1))) mem) (hok : ∀ k t, k < sz → t < 24 → x = nI k → y = nI t → Post (some (zI (mem.1 42 0 k))) (upI mem 42 0 k (nI t))) : zC l ι M_Model_turn 2 [zP 40 0, zI x, zI y] mem Post := by
  refine z_enter hH (by decide) (by simp [z_ent, M_Model_turn]) (fun X hXl hX hR => ?_)
  refine z_aload_n hX (D_Model_turn (i := 0) rfl) rfl ?_
  refine z_iload_n hX (D_Model_turn (i := 1) rfl) rfl ?_
  refine z_cV1 hX (D_Model_turn (i := 2) rfl) mi_Model_isCube l_Model_106 rfl rfl (by decide) (by first | exact Nat.one_pos | assumption | omega) (by first | decide | omega) (Nat.le_of_ble_eq_true rfl) (d_isCube hH hs h8 ?_)
  refine z_if_eq (tgt := 18) hX (D_Model_turn (i := 3) rfl) (by decide) (fun h1 => ?_) (fun h1 => ?_)
  · refine z_iconst (v := -1) hX (D_Model_turn (i := 9) rfl) (by decide) ?_
    exact z_iret hX hR (D_Model_turn (i := 10) rfl) rfl (hno (by rw [bI_0.mp h1]; rfl))
  · refine z_iload_n hX (D_Model_turn (i := 4) rfl) rfl ?_
    refine z_iconst (v := 0) hX (D_Model_turn (i := 5) rfl) (by decide) ?_
    refine z_bipush (v := 23) hX (D_Model_turn (i := 6) rfl) (by decide) ?_
    refine z_cS3 hX (D_Model_turn (i := 7) rfl) ms_Model_in l_Model_102 (by first | decide | omega) (Nat.le_of_ble_eq_true rfl) (d_in ?_)
    rw [show decide ((0 : Int32) ≤ y ∧ y ≤ 23) = inN y 24 from in0l (n := 23) (by decide)]
    refine z_if_ne (tgt := 20) hX (D_Model_turn (i := 8) rfl) (by decide) (fun h2 => ?_) (fun h2 => ?_)
    · skip
      obtain ⟨k, hk, rfl⟩ := inN_ex (bI_n.mp h1) (by omega)
      obtain ⟨t, ht, rfl⟩ := inN_ex (bI_n.mp h2) (by omega)
      refine z_aload_n hX (D_Model_turn (i := 11) rfl) rfl ?_
      refine z_getc hX (D_Model_turn (i := 12) rfl) f_Model_13 rfl (by decide) (by first | exact Nat.one_pos | assumption | omega) rfl ?_
      refine z_iload_n hX (D_Model_turn (i := 13) rfl) rfl ?_
      refine z_iald (j := k) hX (D_Model_turn (i := 14) rfl) rfl (by decide) (by first | exact Nat.one_pos | assumption | omega) (by decide) rfl (by omega) ?_
      refine z_istore_n hX (D_Model_turn (i := 15) rfl) (by decide) rfl ?_
      refine z_aload_n hX (D_Model_turn (i := 16) rfl) rfl ?_
      refine z_getc hX (D_Model_turn (i := 17) rfl) f_Model_13 rfl (by decide) (by first | exact Nat.one_pos | assumption | omega) rfl ?_
      refine z_iload_n hX (D_Model_turn (i := 18) rfl) rfl ?_
      refine z_iload_n hX (D_Model_turn (i := 19) rfl) rfl ?_
      refine z_iast (j := k) hX (D_Model_turn (i := 20) rfl) rfl (by decide) (by first | exact Nat.one_pos | assumption | omega) (by decide) rfl (by omega) ?_
      refine z_iload_n hX (D_Model_turn (i := 21) rfl) rfl ?_
      exact z_iret hX hR (D_Model_turn (i := 22) rfl) rfl (hok k t hk ht rfl rfl)
    · refine z_iconst (v := -1) hX (D_Model_turn (i := 9) rfl) (by decide) ?_
      exact z_iret hX hR (D_Model_turn (i := 10) rfl) rfl (hno (by rw [bI_0.mp h2]; simp))
theorem d_opposite {f : Nat} (hf : f < 6) (h : Post (some (zI (nI (oppN f)))) mem) : zC l ι M_Model_opposite 0 [zI (nI f)] mem Post := by
  have hH : zHas ι [] := zHas.nil
  unfold oppN at h
  refine z_enter hH (by decide) (by simp [z_ent, M_Model_opposite]) (fun X hXl hX hR => ?_)
  refine z_iload_n hX (D_Model_opposite (i := 0) rfl) rfl ?_
  refine z_iconst (v := 4) hX (D_Model_opposite (i := 1) rfl) (by decide) ?_
  refine z_icmp_ge (tgt := 13) hX (D_Model_opposite (i := 2) rfl) (by decide) (fun h1 => ?_) (fun h1 => ?_)
  · refine z_bipush (v := 9) hX (D_Model_opposite (i := 9) rfl) (by decide) ?_
    refine z_iload_n hX (D_Model_opposite (i := 10) rfl) rfl ?_
    refine z_isub hX (D_Model_opposite (i := 11) rfl) ?_
    have : ¬ f < 4 := fun w => absurd h1 (nI_ge (b := 4) w (by decide))
    rw [if_neg this] at h
    rw [nlit, pk_sub (by omega)]
    exact z_iret hX hR (D_Model_opposite (i := 12) rfl) rfl (by assumption)
  · refine z_iload_n hX (D_Model_opposite (i := 3) rfl) rfl ?_
    refine z_iconst (v := 2) hX (D_Model_opposite (i := 4) rfl) (by decide) ?_
    refine z_iadd hX (D_Model_opposite (i := 5) rfl) ?_
    refine z_iconst (v := 4) hX (D_Model_opposite (i := 6) rfl) (by decide) ?_
    have : f < 4 := Nat.not_le.mp (fun w => h1 (nI_le (a := 4) w (by omega)))
    rw [if_pos this] at h
    rw [show nI f + 2 = nI (f + 2) from nI_add f 2]
    refine z_irem hX (D_Model_opposite (i := 7) rfl) (by decide) ?_
    rw [nlit, pk_rem (by omega) (by decide) (by decide)]
    refine z_goto (tgt := 17) hX (D_Model_opposite (i := 8) rfl) (by decide) ?_
    exact z_iret hX hR (D_Model_opposite (i := 12) rfl) rfl (by assumption)
theorem d_showsOf (hH : zHas ι pM) (hA : ArOK mem) {k t w : Nat} (hk : k < 8) (ht : t < 24) (hw : w < 6) (h : Post (some (zI ((cv mem).1 3 k (stN t w)))) mem) : zC l ι M_Model_showsOf 1 [zP 40 0, zI (nI k), zI (nI t), zI (nI w)] mem Post := by
  obtain ⟨a1, a2, a3⟩ := aro_ok t ht
  have hst := (st_ok t ht w hw).2
  refine z_enter hH (by decide) (by simp [z_ent, M_Model_showsOf]) (fun X hXl hX hR => ?_)
  refine z_iload_n hX (D_Model_showsOf (i := 0) rfl) rfl ?_
  refine z_iconst (v := 4) hX (D_Model_showsOf (i := 1) rfl) (by decide) ?_
  refine z_idiv hX (D_Model_showsOf (i := 2) rfl) (by decide) ?_
  rw [nlit, pk_div (by omega) (by decide) (by decide)]
  refine z_istore hX (D_Model_showsOf (i := 3) rfl) (by decide) rfl ?_
  refine z_iload_n hX (D_Model_showsOf (i := 4) rfl) rfl ?_
  refine z_iconst (v := 4) hX (D_Model_showsOf (i := 5) rfl) (by decide) ?_
  have last : zW ι M_Model_showsOf X 45 [some (zP 40 0), some (zI (nI k)), some (zI (nI t)), some (zI (nI w)), some (zI (nI (t / 4))), none] [zI (nI (stN t w))] mem := by
    refine z_istore hX (D_Model_showsOf (i := 29) rfl) (by decide) rfl ?_
    refine z_aload_n hX (D_Model_showsOf (i := 30) rfl) rfl ?_
    refine z_getc hX (D_Model_showsOf (i := 31) rfl) f_Model_7 rfl (by decide) (by first | exact Nat.one_pos | assumption | omega) rfl ?_
    refine z_bipush (v := 6) hX (D_Model_showsOf (i := 32) rfl) (by decide) ?_
    refine z_iload_n hX (D_Model_showsOf (i := 33) rfl) rfl ?_
    refine z_imul hX (D_Model_showsOf (i := 34) rfl) ?_
    refine z_iload hX (D_Model_showsOf (i := 35) rfl) rfl ?_
    refine z_iadd hX (D_Model_showsOf (i := 36) rfl) ?_
    refine z_iald (j := 6 * k + stN t w) hX (D_Model_showsOf (i := 37) rfl) rfl (by decide) (by first | exact Nat.one_pos | assumption | omega) (by decide) (by first | (simp only [nlit, nI_add, pk_mul]; done) | rfl) (by omega) ?_
    exact z_iret hX hR (D_Model_showsOf (i := 38) rfl) rfl h
  refine z_icmp_ne (tgt := 15) hX (D_Model_showsOf (i := 6) rfl) (by decide) (fun h1 => ?_) (fun h1 => ?_)
  · refine z_iload_n hX (D_Model_showsOf (i := 9) rfl) rfl ?_
    refine z_iconst (v := 5) hX (D_Model_showsOf (i := 10) rfl) (by decide) ?_
    have n4 : ¬ w = 4 := fun e => h1 (by rw [e]; rfl)
    refine z_icmp_ne (tgt := 28) hX (D_Model_showsOf (i := 11) rfl) (by decide) (fun h2 => ?_) (fun h2 => ?_)
    · refine z_aload_n hX (D_Model_showsOf (i := 15) rfl) rfl ?_
      refine z_getc hX (D_Model_showsOf (i := 16) rfl) f_Model_16 rfl (by decide) (by first | exact Nat.one_pos | assumption | omega) rfl ?_
      refine z_iconst (v := 4) hX (D_Model_showsOf (i := 17) rfl) (by decide) ?_
      refine z_iload hX (D_Model_showsOf (i := 18) rfl) rfl ?_
      refine z_imul hX (D_Model_showsOf (i := 19) rfl) ?_
      refine z_iload_n hX (D_Model_showsOf (i := 20) rfl) rfl ?_
      refine z_iconst (v := 4) hX (D_Model_showsOf (i := 21) rfl) (by decide) ?_
      have n5 : ¬ w = 5 := fun e => h2 (by rw [e]; rfl)
      refine z_irem hX (D_Model_showsOf (i := 22) rfl) (by decide) ?_
      rw [nlit, pk_rem (by omega) (by decide) (by decide)]
      refine z_iload_n hX (D_Model_showsOf (i := 23) rfl) rfl ?_
      refine z_iadd hX (D_Model_showsOf (i := 24) rfl) ?_
      refine z_iconst (v := 4) hX (D_Model_showsOf (i := 25) rfl) (by decide) ?_
      rw [nI_add]
      refine z_irem hX (D_Model_showsOf (i := 26) rfl) (by decide) ?_
      rw [nlit, pk_rem (by omega) (by decide) (by decide)]
      refine z_iadd hX (D_Model_showsOf (i := 27) rfl) ?_
      refine z_iald (j := 4 * (t / 4) + (t % 4 + w) % 4) hX (D_Model_showsOf (i := 28) rfl) rfl (by decide) (by first | exact Nat.one_pos | assumption | omega) (by decide) (by first | (simp only [nlit, nI_add, pk_mul]; done) | rfl) (by omega) ?_
      rw [hA _ (by omega), a1 w (by omega)]
      exact last
    · refine z_iload hX (D_Model_showsOf (i := 12) rfl) rfl ?_
      have n5 : w = 5 := (nI_eq (b := 5) (by omega) (by decide)).mp h2
      refine z_cS1 hX (D_Model_showsOf (i := 13) rfl) ms_Model_opposite l_Model_220 (by first | decide | omega) (Nat.le_of_ble_eq_true rfl) (d_opposite (by omega) ?_)
      rw [a3, ← n5]
      refine z_goto (tgt := 45) hX (D_Model_showsOf (i := 14) rfl) (by decide) ?_
      exact last
  · refine z_iload hX (D_Model_showsOf (i := 7) rfl) rfl ?_
    refine z_goto (tgt := 45) hX (D_Model_showsOf (i := 8) rfl) (by decide) ?_
    have n4 : w = 4 := (nI_eq (b := 4) (by omega) (by decide)).mp h1
    rw [n4, ← a2] at last
    rw [n4]
    exact last
theorem d_shows (hH : zHas ι pM) (hA : ArOK mem) (hs : mem.1 40 0 1 = nI sz) (h8 : sz ≤ 8) (hno : (inN x sz && (inN y 24 && inN z 6)) = false → Post (some (zI (-1))) mem) (hok : ∀ k t w, k < sz → t < 24 → w < 6 → x = nI k → y = nI t → z = nI w → Post (some (zI ((cv mem).1 3 k (stN t w)))) mem) : zC l ι M_Model_shows 2 [zP 40 0, zI x, zI y, zI z] mem Post := by
  refine z_enter hH (by decide) (by simp [z_ent, M_Model_shows]) (fun X hXl hX hR => ?_)
  refine z_aload_n hX (D_Model_shows (i := 0) rfl) rfl ?_
  refine z_iload_n hX (D_Model_shows (i := 1) rfl) rfl ?_
  refine z_cV1 hX (D_Model_shows (i := 2) rfl) mi_Model_isCube l_Model_106 rfl rfl (by decide) (by first | exact Nat.one_pos | assumption | omega) (by first | decide | omega) (Nat.le_of_ble_eq_true rfl) (d_isCube hH hs h8 ?_)
  refine z_if_eq (tgt := 37) hX (D_Model_shows (i := 3) rfl) (by decide) (fun h1 => ?_) (fun h1 => ?_)
  · refine z_iconst (v := -1) hX (D_Model_shows (i := 20) rfl) (by decide) ?_
    exact z_iret hX hR (D_Model_shows (i := 21) rfl) rfl (hno (by rw [bI_0.mp h1]; rfl))
  · refine z_iload_n hX (D_Model_shows (i := 4) rfl) rfl ?_
    refine z_iconst (v := 0) hX (D_Model_shows (i := 5) rfl) (by decide) ?_
    refine z_bipush (v := 23) hX (D_Model_shows (i := 6) rfl) (by decide) ?_
    refine z_cS3 hX (D_Model_shows (i := 7) rfl) ms_Model_in l_Model_102 (by first | decide | omega) (Nat.le_of_ble_eq_true rfl) (d_in ?_)
    rw [show decide ((0 : Int32) ≤ y ∧ y ≤ 23) = inN y 24 from in0l (n := 23) (by decide)]
    refine z_if_eq (tgt := 37) hX (D_Model_shows (i := 8) rfl) (by decide) (fun h2 => ?_) (fun h2 => ?_)
    · refine z_iconst (v := -1) hX (D_Model_shows (i := 20) rfl) (by decide) ?_
      exact z_iret hX hR (D_Model_shows (i := 21) rfl) rfl (hno (by rw [bI_0.mp h2]; simp))
    · refine z_iload_n hX (D_Model_shows (i := 9) rfl) rfl ?_
      refine z_iconst (v := 0) hX (D_Model_shows (i := 10) rfl) (by decide) ?_
      refine z_iconst (v := 5) hX (D_Model_shows (i := 11) rfl) (by decide) ?_
      refine z_cS3 hX (D_Model_shows (i := 12) rfl) ms_Model_in l_Model_102 (by first | decide | omega) (Nat.le_of_ble_eq_true rfl) (d_in ?_)
      rw [show decide ((0 : Int32) ≤ z ∧ z ≤ 5) = inN z 6 from in0l (n := 5) (by decide)]
      refine z_if_eq (tgt := 37) hX (D_Model_shows (i := 13) rfl) (by decide) (fun h3 => ?_) (fun h3 => ?_)
      · refine z_iconst (v := -1) hX (D_Model_shows (i := 20) rfl) (by decide) ?_
        exact z_iret hX hR (D_Model_shows (i := 21) rfl) rfl (hno (by rw [bI_0.mp h3]; simp))
      · skip
        obtain ⟨k, hk, rfl⟩ := inN_ex (bI_n.mp h1) (by omega)
        obtain ⟨t, ht, rfl⟩ := inN_ex (bI_n.mp h2) (by omega)
        obtain ⟨w, hw, rfl⟩ := inN_ex (bI_n.mp h3) (by omega)
        refine z_aload_n hX (D_Model_shows (i := 14) rfl) rfl ?_
        refine z_iload_n hX (D_Model_shows (i := 15) rfl) rfl ?_
        refine z_iload_n hX (D_Model_shows (i := 16) rfl) rfl ?_
        refine z_iload_n hX (D_Model_shows (i := 17) rfl) rfl ?_
        refine z_cV3 hX (D_Model_shows (i := 18) rfl) mi_Model_showsOf l_Model_223 rfl rfl (by decide) (by first | exact Nat.one_pos | assumption | omega) (by first | decide | omega) (Nat.le_of_ble_eq_true rfl) (d_showsOf hH hA (by omega) ht hw ?_)
        refine z_goto (tgt := 38) hX (D_Model_shows (i := 19) rfl) (by decide) ?_
        exact z_iret hX hR (D_Model_shows (i := 21) rfl) rfl (hok k t w hk ht hw rfl rfl rfl)
theorem d_lineOf (hH : zHas ι pM) {k i a b : Nat} (hk : k < 8) (hi : i < 3) (ha : (cv mem).1 3 k (edN i) = nI a) (hb : (cv mem).1 3 k (opN (edN i)) = nI b) (la : a ≤ 6) (lb : b ≤ 6) (h : Post (some (zI (nI (lnN a b)))) mem) : zC l ι M_Model_lineOf 0 [zP 40 0, zI (nI k), zI (nI i)] mem Post := by
  have f2 : opN 4 = 5 := by decide +kernel
  have f0 : ∀ i, i < 3 → ¬ i = 2 → opN i = i + 2 := by decide +kernel
  refine z_enter hH (by decide) (by simp [z_ent, M_Model_lineOf]) (fun X hXl hX hR => ?_)
  refine z_aload_n hX (D_Model_lineOf (i := 0) rfl) rfl ?_
  refine z_getc hX (D_Model_lineOf (i := 1) rfl) f_Model_7 rfl (by decide) (by first | exact Nat.one_pos | assumption | omega) rfl ?_
  refine z_bipush (v := 6) hX (D_Model_lineOf (i := 2) rfl) (by decide) ?_
  refine z_iload_n hX (D_Model_lineOf (i := 3) rfl) rfl ?_
  refine z_imul hX (D_Model_lineOf (i := 4) rfl) ?_
  refine z_iload_n hX (D_Model_lineOf (i := 5) rfl) rfl ?_
  refine z_iconst (v := 2) hX (D_Model_lineOf (i := 6) rfl) (by decide) ?_
  have B : zW ι M_Model_lineOf X 41 [some (zP 40 0), some (zI (nI k)), some (zI (nI i)), some (zI (nI a)), none] [zI (nI (opN (edN i))), zI (6 * nI k), zP 41 0] mem := by
    have hq := (ed_ok i hi).2
    refine z_iadd hX (D_Model_lineOf (i := 27) rfl) ?_
    refine z_iald (j := 6 * k + opN (edN i)) hX (D_Model_lineOf (i := 28) rfl) rfl (by decide) (by first | exact Nat.one_pos | assumption | omega) (by decide) (by first | (simp only [nlit, nI_add, pk_mul]; done) | rfl) (by omega) ?_
    rw [show mem.1 41 0 (6 * k + opN (edN i)) = nI b from hb]
    refine z_istore hX (D_Model_lineOf (i := 29) rfl) (by decide) rfl ?_
    refine z_iload_n hX (D_Model_lineOf (i := 30) rfl) rfl ?_
    refine z_iload hX (D_Model_lineOf (i := 31) rfl) rfl ?_
    refine z_icmp_ge (tgt := 61) hX (D_Model_lineOf (i := 32) rfl) (by decide) (fun h3 => ?_) (fun h3 => ?_)
    · refine z_bipush (v := 10) hX (D_Model_lineOf (i := 39) rfl) (by decide) ?_
      refine z_iload hX (D_Model_lineOf (i := 40) rfl) rfl ?_
      refine z_imul hX (D_Model_lineOf (i := 41) rfl) ?_
      refine z_iload_n hX (D_Model_lineOf (i := 42) rfl) rfl ?_
      refine z_iadd hX (D_Model_lineOf (i := 43) rfl) ?_
      have h4 := (nI_leI (by omega) (by omega)).mp h3
      rw [nlit, pk_mul, nI_add]
      have e : lnN a b = 10 * b + a := by
        unfold lnN
        by_cases e0 : b < a
        · rw [if_pos e0, if_neg (by omega)]
        · rw [if_neg e0, if_neg (by omega)]; omega
      rw [e] at h
      exact z_iret hX hR (D_Model_lineOf (i := 44) rfl) rfl (by assumption)
    · refine z_bipush (v := 10) hX (D_Model_lineOf (i := 33) rfl) (by decide) ?_
      refine z_iload_n hX (D_Model_lineOf (i := 34) rfl) rfl ?_
      refine z_imul hX (D_Model_lineOf (i := 35) rfl) ?_
      refine z_iload hX (D_Model_lineOf (i := 36) rfl) rfl ?_
      refine z_iadd hX (D_Model_lineOf (i := 37) rfl) ?_
      refine z_goto (tgt := 68) hX (D_Model_lineOf (i := 38) rfl) (by decide) ?_
      have h4 : a < b := Nat.not_le.mp (fun w => h3 (nI_le w (by omega)))
      rw [nlit, pk_mul, nI_add]
      have e : lnN a b = 10 * a + b := by
        unfold lnN
        rw [if_neg (by omega), if_pos h4]
      rw [e] at h
      exact z_iret hX hR (D_Model_lineOf (i := 44) rfl) rfl (by assumption)
  have A : zW ι M_Model_lineOf X 18 [some (zP 40 0), some (zI (nI k)), some (zI (nI i)), none, none] [zI (nI (edN i)), zI (6 * nI k), zP 41 0] mem := by
    have hq := (ed_ok i hi).1
    refine z_iadd hX (D_Model_lineOf (i := 11) rfl) ?_
    refine z_iald (j := 6 * k + edN i) hX (D_Model_lineOf (i := 12) rfl) rfl (by decide) (by first | exact Nat.one_pos | assumption | omega) (by decide) (by first | (simp only [nlit, nI_add, pk_mul]; done) | rfl) (by omega) ?_
    rw [show mem.1 41 0 (6 * k + edN i) = nI a from ha]
    refine z_istore_n hX (D_Model_lineOf (i := 13) rfl) (by decide) rfl ?_
    refine z_aload_n hX (D_Model_lineOf (i := 14) rfl) rfl ?_
    refine z_getc hX (D_Model_lineOf (i := 15) rfl) f_Model_7 rfl (by decide) (by first | exact Nat.one_pos | assumption | omega) rfl ?_
    refine z_bipush (v := 6) hX (D_Model_lineOf (i := 16) rfl) (by decide) ?_
    refine z_iload_n hX (D_Model_lineOf (i := 17) rfl) rfl ?_
    refine z_imul hX (D_Model_lineOf (i := 18) rfl) ?_
    refine z_iload_n hX (D_Model_lineOf (i := 19) rfl) rfl ?_
    refine z_iconst (v := 2) hX (D_Model_lineOf (i := 20) rfl) (by decide) ?_
    refine z_icmp_ne (tgt := 38) hX (D_Model_lineOf (i := 21) rfl) (by decide) (fun h2 => ?_) (fun h2 => ?_)
    · refine z_iload_n hX (D_Model_lineOf (i := 24) rfl) rfl ?_
      refine z_iconst (v := 2) hX (D_Model_lineOf (i := 25) rfl) (by decide) ?_
      refine z_iadd hX (D_Model_lineOf (i := 26) rfl) ?_
      have n2 : ¬ i = 2 := fun e => h2 (by rw [e]; rfl)
      have e : opN (edN i) = i + 2 := by unfold edN; rw [if_neg n2, f0 i hi n2]
      rw [show nI i + 2 = nI (i + 2) from nI_add i 2, ← e]
      exact B
    · refine z_iconst (v := 5) hX (D_Model_lineOf (i := 22) rfl) (by decide) ?_
      refine z_goto (tgt := 41) hX (D_Model_lineOf (i := 23) rfl) (by decide) ?_
      have n2 : i = 2 := (nI_eq (b := 2) (by omega) (by decide)).mp h2
      have e : opN (edN i) = 5 := by unfold edN; rw [if_pos n2, f2]
      rw [e] at B
      exact B
  refine z_icmp_ne (tgt := 17) hX (D_Model_lineOf (i := 7) rfl) (by decide) (fun h1 => ?_) (fun h1 => ?_)
  · refine z_iload_n hX (D_Model_lineOf (i := 10) rfl) rfl ?_
    have n2 : ¬ i = 2 := fun e => h1 (by rw [e]; rfl)
    have e : edN i = i := by unfold edN; rw [if_neg n2]
    rw [e] at A
    exact A
  · refine z_iconst (v := 4) hX (D_Model_lineOf (i := 8) rfl) (by decide) ?_
    refine z_goto (tgt := 18) hX (D_Model_lineOf (i := 9) rfl) (by decide) ?_
    have n2 : i = 2 := (nI_eq (b := 2) (by omega) (by decide)).mp h1
    have e : edN i = 4 := by unfold edN; rw [if_pos n2]
    rw [e] at A
    exact A
theorem d12 {y : Int32} : decide ((10 : Int32) ≤ y ∧ y ≤ 12) = inN (y - 10) 3 := by
  cases h : inN (y - 10) 3 with
  | true =>
    obtain ⟨j, hj, e⟩ := inN_ex h (by decide)
    have e2 : y = nI (10 + j) := by rw [← nI_add, ← e]; show y = 10 + (y - 10); rw [Int32.add_comm, Int32.sub_add_cancel]
    rw [e2]
    exact decide_eq_true ⟨nI_le (a := 10) (by omega) (by omega), nI_le (b := 12) (by omega) (by decide)⟩
  | false =>
    refine decide_eq_false (fun w => ?_)
    have a1 := Int32.le_iff_toInt_le.mp w.1
    have a2 := Int32.le_iff_toInt_le.mp w.2
    have k1 : (10 : Int32).toInt = 10 := rfl
    have k2 : (12 : Int32).toInt = 12 := rfl
    obtain ⟨i, hi, rfl⟩ : ∃ i : Nat, i < 3 ∧ y = nI (10 + i) := ⟨y.toInt.toNat - 10, by omega, Int32.toInt_inj.mp (by rw [nI_toInt (by omega)]; omega)⟩
    rw [show nI (10 + i) - 10 = nI i by rw [nlit, pk_sub (by omega), Nat.add_sub_cancel_left], inN_nI hi (by decide)] at h
    cases h
theorem d_of (hH : zHas ι pM) (hs : mem.1 40 0 1 = nI sz) (h8 : sz ≤ 8) (hcol : ∀ k, k < 8 → ∀ f, f < 6 → ∃ c, c ≤ 6 ∧ (cv mem).1 3 k f = nI c) (hno : (inN x sz = false ∨ (inN y 6 = false ∧ ¬ y = 6 ∧ inN (y - 10) 3 = false)) → Post (some (zI (-1))) mem) (hf : ∀ k f, k < sz → f < 6 → x = nI k → y = nI f → Post (some (zI ((cv mem).1 3 k f))) mem) (ht : ∀ k, k < sz → x = nI k → y = 6 → Post (some (zI (mem.1 42 0 k))) mem) (hl : ∀ k i a b, k < sz → i < 3 → a ≤ 6 → b ≤ 6 → x = nI k → y = nI (10 + i) → (cv mem).1 3 k (edN i) = nI a → (cv mem).1 3 k (opN (edN i)) = nI b → Post (some (zI (nI (lnN a b)))) mem) : zC l ι M_Model_of 2 [zP 40 0, zI x, zI y] mem Post := by
  refine z_enter hH (by decide) (by simp [z_ent, M_Model_of]) (fun X hXl hX hR => ?_)
  refine z_aload_n hX (D_Model_of (i := 0) rfl) rfl ?_
  refine z_iload_n hX (D_Model_of (i := 1) rfl) rfl ?_
  refine z_cV1 hX (D_Model_of (i := 2) rfl) mi_Model_isCube l_Model_106 rfl rfl (by decide) (by first | exact Nat.one_pos | assumption | omega) (by first | decide | omega) (Nat.le_of_ble_eq_true rfl) (d_isCube hH hs h8 ?_)
  refine z_if_ne (tgt := 10) hX (D_Model_of (i := 3) rfl) (by decide) (fun h1 => ?_) (fun h1 => ?_)
  · skip
    obtain ⟨k, hk, rfl⟩ := inN_ex (bI_n.mp h1) (by omega)
    refine z_iload_n hX (D_Model_of (i := 6) rfl) rfl ?_
    refine z_iconst (v := 0) hX (D_Model_of (i := 7) rfl) (by decide) ?_
    refine z_iconst (v := 5) hX (D_Model_of (i := 8) rfl) (by decide) ?_
    refine z_cS3 hX (D_Model_of (i := 9) rfl) ms_Model_in l_Model_102 (by first | decide | omega) (Nat.le_of_ble_eq_true rfl) (d_in ?_)
    rw [show decide ((0 : Int32) ≤ y ∧ y ≤ 5) = inN y 6 from in0l (n := 5) (by decide)]
    refine z_if_eq (tgt := 31) hX (D_Model_of (i := 10) rfl) (by decide) (fun h2 => ?_) (fun h2 => ?_)
    · refine z_iload_n hX (D_Model_of (i := 20) rfl) rfl ?_
      refine z_bipush (v := 6) hX (D_Model_of (i := 21) rfl) (by decide) ?_
      refine z_icmp_ne (tgt := 46) hX (D_Model_of (i := 22) rfl) (by decide) (fun h3 => ?_) (fun h3 => ?_)
      · refine z_iload_n hX (D_Model_of (i := 28) rfl) rfl ?_
        refine z_bipush (v := 10) hX (D_Model_of (i := 29) rfl) (by decide) ?_
        refine z_bipush (v := 12) hX (D_Model_of (i := 30) rfl) (by decide) ?_
        refine z_cS3 hX (D_Model_of (i := 31) rfl) ms_Model_in l_Model_102 (by first | decide | omega) (Nat.le_of_ble_eq_true rfl) (d_in ?_)
        rw [d12]
        refine z_if_eq (tgt := 69) hX (D_Model_of (i := 32) rfl) (by decide) (fun h4 => ?_) (fun h4 => ?_)
        · refine z_iconst (v := -1) hX (D_Model_of (i := 40) rfl) (by decide) ?_
          exact z_iret hX hR (D_Model_of (i := 41) rfl) rfl (hno (Or.inr ⟨bI_0.mp h2, h3, bI_0.mp h4⟩))
        · skip
          obtain ⟨i, hi, e⟩ := inN_ex (bI_n.mp h4) (by omega)
          have e2 : y = nI (10 + i) := by rw [← nI_add, ← e]; show y = 10 + (y - 10); rw [Int32.add_comm, Int32.sub_add_cancel]
          obtain ⟨a, la, ea⟩ := hcol k (by omega) (edN i) (ed_ok i hi).1
          obtain ⟨b, lb, eb⟩ := hcol k (by omega) (opN (edN i)) (ed_ok i hi).2
          refine z_aload_n hX (D_Model_of (i := 33) rfl) rfl ?_
          refine z_iload_n hX (D_Model_of (i := 34) rfl) rfl ?_
          refine z_iload_n hX (D_Model_of (i := 35) rfl) rfl ?_
          refine z_bipush (v := 10) hX (D_Model_of (i := 36) rfl) (by decide) ?_
          refine z_isub hX (D_Model_of (i := 37) rfl) ?_
          rw [e]
          refine z_cV2 hX (D_Model_of (i := 38) rfl) mi_Model_lineOf l_Model_140 rfl rfl (by decide) (by first | exact Nat.one_pos | assumption | omega) (by first | decide | omega) (Nat.le_of_ble_eq_true rfl) (d_lineOf hH (by omega) hi ea eb la lb ?_)
          refine z_goto (tgt := 70) hX (D_Model_of (i := 39) rfl) (by decide) ?_
          exact z_iret hX hR (D_Model_of (i := 41) rfl) rfl (hl k i a b hk hi la lb rfl e2 ea eb)
      · refine z_aload_n hX (D_Model_of (i := 23) rfl) rfl ?_
        refine z_getc hX (D_Model_of (i := 24) rfl) f_Model_13 rfl (by decide) (by first | exact Nat.one_pos | assumption | omega) rfl ?_
        refine z_iload_n hX (D_Model_of (i := 25) rfl) rfl ?_
        refine z_iald (j := k) hX (D_Model_of (i := 26) rfl) rfl (by decide) (by first | exact Nat.one_pos | assumption | omega) (by decide) rfl (by omega) ?_
        refine z_goto (tgt := 70) hX (D_Model_of (i := 27) rfl) (by decide) ?_
        exact z_iret hX hR (D_Model_of (i := 41) rfl) rfl (ht k hk rfl h3)
    · skip
      obtain ⟨f, hf6, rfl⟩ := inN_ex (bI_n.mp h2) (by omega)
      refine z_aload_n hX (D_Model_of (i := 11) rfl) rfl ?_
      refine z_getc hX (D_Model_of (i := 12) rfl) f_Model_7 rfl (by decide) (by first | exact Nat.one_pos | assumption | omega) rfl ?_
      refine z_bipush (v := 6) hX (D_Model_of (i := 13) rfl) (by decide) ?_
      refine z_iload_n hX (D_Model_of (i := 14) rfl) rfl ?_
      refine z_imul hX (D_Model_of (i := 15) rfl) ?_
      refine z_iload_n hX (D_Model_of (i := 16) rfl) rfl ?_
      refine z_iadd hX (D_Model_of (i := 17) rfl) ?_
      refine z_iald (j := 6 * k + f) hX (D_Model_of (i := 18) rfl) rfl (by decide) (by first | exact Nat.one_pos | assumption | omega) (by decide) (by first | (simp only [nlit, nI_add, pk_mul]; done) | rfl) (by omega) ?_
      exact z_iret hX hR (D_Model_of (i := 19) rfl) rfl (hf k f hk hf6 rfl rfl)
  · refine z_iconst (v := -1) hX (D_Model_of (i := 4) rfl) (by decide) ?_
    exact z_iret hX hR (D_Model_of (i := 5) rfl) rfl (hno (Or.inl (bI_0.mp h1)))
end G1
end
section
/-! the reference: alike, sight, great, many -/
section G2
variable {l : Launch} {ι : zE} {mem : zM} {Post : Option zV → zM → Prop} {x y z : Int32} {sz nb : Nat}
def mrN (g : Bool) (w : Nat) : Nat := if g = true ∧ (w = 1 ∨ w = 3) then 4 - w else w
def lkM (mem : zM) (k k2 t : Nat) (g : Bool) (w : Nat) : Bool := decide (mem.1 3 k (stN t (mrN g w)) = mem.1 3 k2 w)
theorem mr_ok : ∀ w, w < 6 → mrN true w < 6 ∧ mrN false w < 6 := by decide +kernel
theorem d_isAs (hH : zHas ι pM) (hA : ArOK mem) {k k2 t : Nat} {g : Bool} (hk : k < 8) (hk2 : k2 < 8) (ht : t < 24) (h : Post (some (zI (bI (alI (lkM (cv mem) k k2 t g) 6)))) mem) : zC l ι M_Model_isAs 2 [zP 40 0, zI (nI k), zI (nI t), zI (nI k2), zI (bI g)] mem Post := by
  refine z_enter hH (by decide) (by simp [z_ent, M_Model_isAs]) (fun X hXl hX hR => ?_)
  refine z_iconst (v := 0) hX (D_Model_isAs (i := 0) rfl) (by decide) ?_
  refine z_istore hX (D_Model_isAs (i := 1) rfl) (by decide) rfl ?_
  suffices H : ∀ (d i : Nat) (v6 : Option zV), i + d = 6 → (∀ w, w < i → lkM (cv mem) k k2 t g w = true) → zW ι M_Model_isAs X 3 [some (zP 40 0), some (zI (nI k)), some (zI (nI t)), some (zI (nI k2)), some (zI (bI g)), some (zI (nI i)), v6] [] mem from H 6 0 none rfl (fun _ h => absurd h (Nat.not_lt_zero _))
  intro d
  induction d with
  | zero =>
    intro i v6 hi hinv
    obtain rfl : i = 6 := by omega
    refine z_iload hX (D_Model_isAs (i := 2) rfl) rfl ?_
    refine z_bipush (v := 6) hX (D_Model_isAs (i := 3) rfl) (by decide) ?_
    refine z_icmp_ge (tgt := 69) hX (D_Model_isAs (i := 4) rfl) (by decide) (fun _ => ?_) (fun hcc => absurd (Int32.le_refl _) hcc)
    refine z_iconst (v := 1) hX (D_Model_isAs (i := 37) rfl) (by decide) ?_
    rw [alI_true.mpr hinv] at h
    exact z_zret hX hR (D_Model_isAs (i := 38) rfl) rfl (by first | exact Or.inl rfl | exact Or.inr rfl | assumption) (by assumption)
  | succ d ih =>
    intro i v6 hi hinv
    have hi6 : i < 6 := by omega
    have hm : mrN g i < 6 := by cases g; exact (mr_ok i hi6).2; exact (mr_ok i hi6).1
    have key : ∀ v6 : Option zV, zW ι M_Model_isAs X 36 [some (zP 40 0), some (zI (nI k)), some (zI (nI t)), some (zI (nI k2)), some (zI (bI g)), some (zI (nI i)), v6] [zI (nI (mrN g i))] mem := by
      intro v6
      refine z_istore hX (D_Model_isAs (i := 18) rfl) (by decide) rfl ?_
      refine z_aload_n hX (D_Model_isAs (i := 19) rfl) rfl ?_
      refine z_iload_n hX (D_Model_isAs (i := 20) rfl) rfl ?_
      refine z_iload_n hX (D_Model_isAs (i := 21) rfl) rfl ?_
      refine z_iload hX (D_Model_isAs (i := 22) rfl) rfl ?_
      refine z_cV3 hX (D_Model_isAs (i := 23) rfl) mi_Model_showsOf l_Model_223 rfl rfl (by decide) (by first | exact Nat.one_pos | assumption | omega) (by first | decide | omega) (Nat.le_of_ble_eq_true rfl) (d_showsOf hH hA hk ht hm ?_)
      refine z_aload_n hX (D_Model_isAs (i := 24) rfl) rfl ?_
      refine z_getc hX (D_Model_isAs (i := 25) rfl) f_Model_7 rfl (by decide) (by first | exact Nat.one_pos | assumption | omega) rfl ?_
      refine z_bipush (v := 6) hX (D_Model_isAs (i := 26) rfl) (by decide) ?_
      refine z_iload_n hX (D_Model_isAs (i := 27) rfl) rfl ?_
      refine z_imul hX (D_Model_isAs (i := 28) rfl) ?_
      refine z_iload hX (D_Model_isAs (i := 29) rfl) rfl ?_
      refine z_iadd hX (D_Model_isAs (i := 30) rfl) ?_
      refine z_iald (j := 6 * k2 + i) hX (D_Model_isAs (i := 31) rfl) rfl (by decide) (by first | exact Nat.one_pos | assumption | omega) (by decide) (by first | (simp only [nlit, nI_add, pk_mul]; done) | rfl) (by omega) ?_
      refine z_icmp_eq (tgt := 63) hX (D_Model_isAs (i := 32) rfl) (by decide) (fun hc => ?_) (fun hc => ?_)
      · first | refine z_inc1 hX (D_Model_isAs (i := 35) rfl) rfl (by decide) rfl ?_ | refine z_iinc hX (D_Model_isAs (i := 35) rfl) rfl rfl (by decide) rfl ?_
        refine z_goto (tgt := 3) hX (D_Model_isAs (i := 36) rfl) (by decide) ?_
        exact ih (i + 1) _ (by omega) (fun w hw => if e : w = i then by subst e; exact decide_eq_true hc else hinv w (by omega))
      · refine z_iconst (v := 0) hX (D_Model_isAs (i := 33) rfl) (by decide) ?_
        rw [alI_false hi6 (decide_eq_false hc)] at h
        exact z_zret hX hR (D_Model_isAs (i := 34) rfl) rfl (by first | exact Or.inl rfl | exact Or.inr rfl | assumption) (by assumption)
    have k0 : ¬ (g = true ∧ (i = 1 ∨ i = 3)) → ∀ v6 : Option zV, zW ι M_Model_isAs X 34 [some (zP 40 0), some (zI (nI k)), some (zI (nI t)), some (zI (nI k2)), some (zI (bI g)), some (zI (nI i)), v6] [] mem := by
      intro hn v6
      have e : mrN g i = i := by unfold mrN; rw [if_neg hn]
      refine z_iload hX (D_Model_isAs (i := 17) rfl) rfl ?_
      have := key v6
      rw [e] at this
      exact this
    have k1 : (g = true ∧ (i = 1 ∨ i = 3)) → ∀ v6 : Option zV, zW ι M_Model_isAs X 27 [some (zP 40 0), some (zI (nI k)), some (zI (nI t)), some (zI (nI k2)), some (zI (bI g)), some (zI (nI i)), v6] [] mem := by
      intro hn v6
      have e : mrN g i = 4 - i := by unfold mrN; rw [if_pos hn]
      refine z_iconst (v := 4) hX (D_Model_isAs (i := 13) rfl) (by decide) ?_
      refine z_iload hX (D_Model_isAs (i := 14) rfl) rfl ?_
      refine z_isub hX (D_Model_isAs (i := 15) rfl) ?_
      refine z_goto (tgt := 36) hX (D_Model_isAs (i := 16) rfl) (by decide) ?_
      have := key v6
      rw [e] at this
      rw [show (4 : Int32) - nI i = nI (4 - i) from pk_sub (a := 4) (by omega)]
      exact this
    refine z_iload hX (D_Model_isAs (i := 2) rfl) rfl ?_
    refine z_bipush (v := 6) hX (D_Model_isAs (i := 3) rfl) (by decide) ?_
    refine z_icmp_ge (tgt := 69) hX (D_Model_isAs (i := 4) rfl) (by decide) (fun hcc => absurd hcc (nI_ge (b := 6) hi6 (by decide))) (fun _ => ?_)
    refine z_iload hX (D_Model_isAs (i := 5) rfl) rfl ?_
    refine z_if_eq (tgt := 34) hX (D_Model_isAs (i := 6) rfl) (by decide) (fun hg => ?_) (fun hg => ?_)
    · skip
      exact k0 (fun z => by rw [z.1] at hg; exact absurd hg (by decide)) _
    · refine z_iload hX (D_Model_isAs (i := 7) rfl) rfl ?_
      refine z_iconst (v := 1) hX (D_Model_isAs (i := 8) rfl) (by decide) ?_
      refine z_icmp_eq (tgt := 27) hX (D_Model_isAs (i := 9) rfl) (by decide) (fun h1 => ?_) (fun h1 => ?_)
      · skip
        exact k1 ⟨bI_n.mp hg, Or.inl ((nI_eq (b := 1) (by omega) (by decide)).mp h1)⟩ _
      · refine z_iload hX (D_Model_isAs (i := 10) rfl) rfl ?_
        refine z_iconst (v := 3) hX (D_Model_isAs (i := 11) rfl) (by decide) ?_
        refine z_icmp_ne (tgt := 34) hX (D_Model_isAs (i := 12) rfl) (by decide) (fun h3 => ?_) (fun h3 => ?_)
        · skip
          refine k0 (fun z => ?_) _
          rcases z.2 with e | e
          · exact h1 (by rw [e]; rfl)
          · exact h3 (by rw [e]; rfl)
        · skip
          exact k1 ⟨bI_n.mp hg, Or.inr ((nI_eq (b := 3) (by omega) (by decide)).mp h3)⟩ _
theorem d_areAlike (hH : zHas ι pM) (hA : ArOK mem) {k k2 : Nat} {g : Bool} (hk : k < 8) (hk2 : k2 < 8) (h : Post (some (zI (bI (exI (fun t => alI (lkM (cv mem) k k2 t g) 6) 24)))) mem) : zC l ι M_Model_areAlike 3 [zP 40 0, zI (nI k), zI (nI k2), zI (bI g)] mem Post := by
  refine z_enter hH (by decide) (by simp [z_ent, M_Model_areAlike]) (fun X hXl hX hR => ?_)
  refine z_iconst (v := 0) hX (D_Model_areAlike (i := 0) rfl) (by decide) ?_
  refine z_istore hX (D_Model_areAlike (i := 1) rfl) (by decide) rfl ?_
  suffices H : ∀ (d i : Nat), i + d = 24 → (∀ w, w < i → alI (lkM (cv mem) k k2 w g) 6 = false) → zW ι M_Model_areAlike X 3 [some (zP 40 0), some (zI (nI k)), some (zI (nI k2)), some (zI (bI g)), some (zI (nI i))] [] mem from H 24 0 rfl (fun _ h => absurd h (Nat.not_lt_zero _))
  intro d
  induction d with
  | zero =>
    intro i hi hinv
    obtain rfl : i = 24 := by omega
    refine z_iload hX (D_Model_areAlike (i := 2) rfl) rfl ?_
    refine z_bipush (v := 24) hX (D_Model_areAlike (i := 3) rfl) (by decide) ?_
    refine z_icmp_ge (tgt := 30) hX (D_Model_areAlike (i := 4) rfl) (by decide) (fun _ => ?_) (fun hcc => absurd (Int32.le_refl _) hcc)
    refine z_iconst (v := 0) hX (D_Model_areAlike (i := 16) rfl) (by decide) ?_
    rw [exI_false.mpr hinv] at h
    exact z_zret hX hR (D_Model_areAlike (i := 17) rfl) rfl (by first | exact Or.inl rfl | exact Or.inr rfl | assumption) (by assumption)
  | succ d ih =>
    intro i hi hinv
    have hi6 : i < 24 := by omega
    refine z_iload hX (D_Model_areAlike (i := 2) rfl) rfl ?_
    refine z_bipush (v := 24) hX (D_Model_areAlike (i := 3) rfl) (by decide) ?_
    refine z_icmp_ge (tgt := 30) hX (D_Model_areAlike (i := 4) rfl) (by decide) (fun hcc => absurd hcc (nI_ge (b := 24) hi6 (by decide))) (fun _ => ?_)
    refine z_aload_n hX (D_Model_areAlike (i := 5) rfl) rfl ?_
    refine z_iload_n hX (D_Model_areAlike (i := 6) rfl) rfl ?_
    refine z_iload hX (D_Model_areAlike (i := 7) rfl) rfl ?_
    refine z_iload_n hX (D_Model_areAlike (i := 8) rfl) rfl ?_
    refine z_iload_n hX (D_Model_areAlike (i := 9) rfl) rfl ?_
    refine z_cV4 hX (D_Model_areAlike (i := 10) rfl) mi_Model_isAs l_Model_294 rfl rfl (by decide) (by first | exact Nat.one_pos | assumption | omega) (by first | decide | omega) (Nat.le_of_ble_eq_true rfl) (d_isAs hH hA hk hk2 hi6 ?_)
    refine z_if_eq (tgt := 24) hX (D_Model_areAlike (i := 11) rfl) (by decide) (fun hc => ?_) (fun hc => ?_)
    · first | refine z_inc1 hX (D_Model_areAlike (i := 14) rfl) rfl (by decide) rfl ?_ | refine z_iinc hX (D_Model_areAlike (i := 14) rfl) rfl rfl (by decide) rfl ?_
      refine z_goto (tgt := 3) hX (D_Model_areAlike (i := 15) rfl) (by decide) ?_
      exact ih (i + 1) (by omega) (fun w hw => if e : w = i then by subst e; exact bI_0.mp hc else hinv w (by omega))
    · refine z_iconst (v := 1) hX (D_Model_areAlike (i := 12) rfl) (by decide) ?_
      rw [exI_true.mpr ⟨i, hi6, bI_n.mp hc⟩] at h
      exact z_zret hX hR (D_Model_areAlike (i := 13) rfl) rfl (by first | exact Or.inl rfl | exact Or.inr rfl | assumption) (by assumption)
theorem d_alike (hH : zHas ι pM) (hA : ArOK mem) (hs : mem.1 40 0 1 = nI sz) (h8 : sz ≤ 8) (hno : (x < 0 ∨ ∃ j : Nat, j < 2 ^ 31 ∧ x = nI j ∧ (sz ≤ j / 10 ∨ sz ≤ j % 10)) → Post (some (zI (-1))) mem) (hok : ∀ a b, a < sz → b < sz → b < 10 → x = nI (10 * a + b) → Post (some (zI (if exI (fun t => alI (lkM (cv mem) a b t false) 6) 24 = true then 1 else if exI (fun t => alI (lkM (cv mem) a b t true) 6) 24 = true then 2 else 0))) mem) : zC l ι M_Model_alike 4 [zP 40 0, zI x] mem Post := by
  refine z_enter hH (by decide) (by simp [z_ent, M_Model_alike]) (fun X hXl hX hR => ?_)
  refine z_iload_n hX (D_Model_alike (i := 0) rfl) rfl ?_
  refine z_if_lt (tgt := 26) hX (D_Model_alike (i := 1) rfl) (by decide) (fun h1 => ?_) (fun h1 => ?_)
  · refine z_iconst (v := -1) hX (D_Model_alike (i := 14) rfl) (by decide) ?_
    exact z_iret hX hR (D_Model_alike (i := 15) rfl) rfl (hno (Or.inl h1))
  · skip
    obtain ⟨j, hj, rfl⟩ := nI_of h1
    refine z_aload_n hX (D_Model_alike (i := 2) rfl) rfl ?_
    refine z_iload_n hX (D_Model_alike (i := 3) rfl) rfl ?_
    refine z_bipush (v := 10) hX (D_Model_alike (i := 4) rfl) (by decide) ?_
    refine z_idiv hX (D_Model_alike (i := 5) rfl) (by decide) ?_
    rw [nlit, pk_div hj (by decide) (by decide)]
    refine z_cV1 hX (D_Model_alike (i := 6) rfl) mi_Model_isCube l_Model_106 rfl rfl (by decide) (by first | exact Nat.one_pos | assumption | omega) (by first | decide | omega) (Nat.le_of_ble_eq_true rfl) (d_isCube hH hs h8 ?_)
    rw [inN_nI' (by omega)]
    refine z_if_eq (tgt := 26) hX (D_Model_alike (i := 7) rfl) (by decide) (fun h2 => ?_) (fun h2 => ?_)
    · refine z_iconst (v := -1) hX (D_Model_alike (i := 14) rfl) (by decide) ?_
      exact z_iret hX hR (D_Model_alike (i := 15) rfl) rfl (hno (Or.inr ⟨j, hj, rfl, Or.inl (by have := of_decide_eq_false (bI_0.mp h2); omega)⟩))
    · refine z_aload_n hX (D_Model_alike (i := 8) rfl) rfl ?_
      refine z_iload_n hX (D_Model_alike (i := 9) rfl) rfl ?_
      refine z_bipush (v := 10) hX (D_Model_alike (i := 10) rfl) (by decide) ?_
      refine z_irem hX (D_Model_alike (i := 11) rfl) (by decide) ?_
      rw [nlit, pk_rem hj (by decide) (by decide)]
      refine z_cV1 hX (D_Model_alike (i := 12) rfl) mi_Model_isCube l_Model_106 rfl rfl (by decide) (by first | exact Nat.one_pos | assumption | omega) (by first | decide | omega) (Nat.le_of_ble_eq_true rfl) (d_isCube hH hs h8 ?_)
      rw [inN_nI' (by omega)]
      have a1 := of_decide_eq_true (bI_n.mp h2)
      refine z_if_ne (tgt := 28) hX (D_Model_alike (i := 13) rfl) (by decide) (fun h3 => ?_) (fun h3 => ?_)
      · skip
        have a2 := of_decide_eq_true (bI_n.mp h3)
        have hA1 : j / 10 < 8 := by omega
        have hB : j % 10 < 8 := by omega
        have hh := hok (j / 10) (j % 10) a1 a2 (by omega) (by rw [Nat.div_add_mod])
        refine z_aload_n hX (D_Model_alike (i := 16) rfl) rfl ?_
        refine z_iload_n hX (D_Model_alike (i := 17) rfl) rfl ?_
        refine z_bipush (v := 10) hX (D_Model_alike (i := 18) rfl) (by decide) ?_
        refine z_idiv hX (D_Model_alike (i := 19) rfl) (by decide) ?_
        rw [nlit, pk_div hj (by decide) (by decide)]
        refine z_iload_n hX (D_Model_alike (i := 20) rfl) rfl ?_
        refine z_bipush (v := 10) hX (D_Model_alike (i := 21) rfl) (by decide) ?_
        refine z_irem hX (D_Model_alike (i := 22) rfl) (by decide) ?_
        rw [nlit, pk_rem hj (by decide) (by decide)]
        refine z_iconst (v := 0) hX (D_Model_alike (i := 23) rfl) (by decide) ?_
        refine z_cV3 hX (D_Model_alike (i := 24) rfl) mi_Model_areAlike l_Model_298 rfl rfl (by decide) (by first | exact Nat.one_pos | assumption | omega) (by first | decide | omega) (Nat.le_of_ble_eq_true rfl) (d_areAlike (g := false) hH hA hA1 hB ?_)
        refine z_if_eq (tgt := 48) hX (D_Model_alike (i := 25) rfl) (by decide) (fun h4 => ?_) (fun h4 => ?_)
        · refine z_aload_n hX (D_Model_alike (i := 28) rfl) rfl ?_
          refine z_iload_n hX (D_Model_alike (i := 29) rfl) rfl ?_
          refine z_bipush (v := 10) hX (D_Model_alike (i := 30) rfl) (by decide) ?_
          rw [bI_0.mp h4] at hh
          refine z_idiv hX (D_Model_alike (i := 31) rfl) (by decide) ?_
          rw [nlit, pk_div hj (by decide) (by decide)]
          refine z_iload_n hX (D_Model_alike (i := 32) rfl) rfl ?_
          refine z_bipush (v := 10) hX (D_Model_alike (i := 33) rfl) (by decide) ?_
          refine z_irem hX (D_Model_alike (i := 34) rfl) (by decide) ?_
          rw [nlit, pk_rem hj (by decide) (by decide)]
          refine z_iconst (v := 1) hX (D_Model_alike (i := 35) rfl) (by decide) ?_
          refine z_cV3 hX (D_Model_alike (i := 36) rfl) mi_Model_areAlike l_Model_298 rfl rfl (by decide) (by first | exact Nat.one_pos | assumption | omega) (by first | decide | omega) (Nat.le_of_ble_eq_true rfl) (d_areAlike (g := true) hH hA hA1 hB ?_)
          refine z_if_eq (tgt := 68) hX (D_Model_alike (i := 37) rfl) (by decide) (fun h5 => ?_) (fun h5 => ?_)
          · refine z_iconst (v := 0) hX (D_Model_alike (i := 40) rfl) (by decide) ?_
            rw [bI_0.mp h5] at hh
            exact z_iret hX hR (D_Model_alike (i := 41) rfl) rfl hh
          · refine z_iconst (v := 2) hX (D_Model_alike (i := 38) rfl) (by decide) ?_
            refine z_goto (tgt := 69) hX (D_Model_alike (i := 39) rfl) (by decide) ?_
            rw [bI_n.mp h5] at hh
            exact z_iret hX hR (D_Model_alike (i := 41) rfl) rfl hh
        · refine z_iconst (v := 1) hX (D_Model_alike (i := 26) rfl) (by decide) ?_
          refine z_goto (tgt := 69) hX (D_Model_alike (i := 27) rfl) (by decide) ?_
          rw [bI_n.mp h4] at hh
          exact z_iret hX hR (D_Model_alike (i := 41) rfl) rfl hh
      · refine z_iconst (v := -1) hX (D_Model_alike (i := 14) rfl) (by decide) ?_
        exact z_iret hX hR (D_Model_alike (i := 15) rfl) rfl (hno (Or.inr ⟨j, hj, rfl, Or.inr (by have := of_decide_eq_false (bI_0.mp h3); omega)⟩))
theorem d_doesShow (hH : zHas ι pM) (hA : ArOK mem) {k t w : Nat} {c : Int32} (hk : k < 8) (ht : t < 24) (hw : w < 6) (h : Post (some (zI (bI (msC (cv mem) k t w c)))) mem) : zC l ι M_Model_doesShow 2 [zP 40 0, zI (nI k), zI (nI t), zI (nI w), zI c] mem Post := by
  refine z_enter hH (by decide) (by simp [z_ent, M_Model_doesShow]) (fun X hXl hX hR => ?_)
  refine z_aload_n hX (D_Model_doesShow (i := 0) rfl) rfl ?_
  refine z_iload_n hX (D_Model_doesShow (i := 1) rfl) rfl ?_
  refine z_iload_n hX (D_Model_doesShow (i := 2) rfl) rfl ?_
  refine z_iload_n hX (D_Model_doesShow (i := 3) rfl) rfl ?_
  refine z_cV3 hX (D_Model_doesShow (i := 4) rfl) mi_Model_showsOf l_Model_223 rfl rfl (by decide) (by first | exact Nat.one_pos | assumption | omega) (by first | decide | omega) (Nat.le_of_ble_eq_true rfl) (d_showsOf hH hA hk ht hw ?_)
  refine z_istore hX (D_Model_doesShow (i := 5) rfl) (by decide) rfl ?_
  refine z_iload hX (D_Model_doesShow (i := 6) rfl) rfl ?_
  refine z_bipush (v := 6) hX (D_Model_doesShow (i := 7) rfl) (by decide) ?_
  refine z_icmp_eq (tgt := 23) hX (D_Model_doesShow (i := 8) rfl) (by decide) (fun h1 => ?_) (fun h1 => ?_)
  · refine z_iconst (v := 1) hX (D_Model_doesShow (i := 12) rfl) (by decide) ?_
    refine z_goto (tgt := 28) hX (D_Model_doesShow (i := 13) rfl) (by decide) ?_
    rw [show msC (cv mem) k t w c = true from decide_eq_true (Or.inr h1)] at h
    exact z_zret hX hR (D_Model_doesShow (i := 15) rfl) rfl (by first | exact Or.inl rfl | exact Or.inr rfl | assumption) (by assumption)
  · refine z_iload hX (D_Model_doesShow (i := 9) rfl) rfl ?_
    refine z_iload hX (D_Model_doesShow (i := 10) rfl) rfl ?_
    refine z_icmp_ne (tgt := 27) hX (D_Model_doesShow (i := 11) rfl) (by decide) (fun h2 => ?_) (fun h2 => ?_)
    · refine z_iconst (v := 0) hX (D_Model_doesShow (i := 14) rfl) (by decide) ?_
      rw [show msC (cv mem) k t w c = false from decide_eq_false (fun z => z.elim h2 h1)] at h
      exact z_zret hX hR (D_Model_doesShow (i := 15) rfl) rfl (by first | exact Or.inl rfl | exact Or.inr rfl | assumption) (by assumption)
    · refine z_iconst (v := 1) hX (D_Model_doesShow (i := 12) rfl) (by decide) ?_
      refine z_goto (tgt := 28) hX (D_Model_doesShow (i := 13) rfl) (by decide) ?_
      rw [show msC (cv mem) k t w c = true from decide_eq_true (Or.inl h2)] at h
      exact z_zret hX hR (D_Model_doesShow (i := 15) rfl) rfl (by first | exact Or.inl rfl | exact Or.inr rfl | assumption) (by assumption)
theorem d_sightOf (hH : zHas ι pM) (hA : ArOK mem) {k : Nat} {c : Int32} (hk : k < 8) (h : Post (some (zI (mkI (tsC (cv mem) k c) 24))) mem) : zC l ι M_Model_sightOf 3 [zP 40 0, zI (nI k), zI c] mem Post := by
  refine z_enter hH (by decide) (by simp [z_ent, M_Model_sightOf]) (fun X hXl hX hR => ?_)
  refine z_iconst (v := 0) hX (D_Model_sightOf (i := 0) rfl) (by decide) ?_
  refine z_istore_n hX (D_Model_sightOf (i := 1) rfl) (by decide) rfl ?_
  refine z_iconst (v := 0) hX (D_Model_sightOf (i := 2) rfl) (by decide) ?_
  refine z_istore hX (D_Model_sightOf (i := 3) rfl) (by decide) rfl ?_
  suffices H : ∀ (d i : Nat), i + d = 24 → zW ι M_Model_sightOf X 5 [some (zP 40 0), some (zI (nI k)), some (zI c), some (zI (mkI (tsC (cv mem) k c) i)), some (zI (nI i))] [] mem from H 24 0 rfl
  intro d
  induction d with
  | zero =>
    intro i hi
    obtain rfl : i = 24 := by omega
    refine z_iload hX (D_Model_sightOf (i := 4) rfl) rfl ?_
    refine z_bipush (v := 24) hX (D_Model_sightOf (i := 5) rfl) (by decide) ?_
    refine z_icmp_ge (tgt := 73) hX (D_Model_sightOf (i := 6) rfl) (by decide) (fun _ => ?_) (fun hcc => absurd (Int32.le_refl _) hcc)
    refine z_iload_n hX (D_Model_sightOf (i := 44) rfl) rfl ?_
    exact z_iret hX hR (D_Model_sightOf (i := 45) rfl) rfl (by assumption)
  | succ d ih =>
    intro i hi
    have hi6 : i < 24 := by omega
    have no : tsC (cv mem) k c i = false → zW ι M_Model_sightOf X 67 [some (zP 40 0), some (zI (nI k)), some (zI c), some (zI (mkI (tsC (cv mem) k c) i)), some (zI (nI i))] [] mem := by
      intro hf
      have e : mkI (tsC (cv mem) k c) (i + 1) = mkI (tsC (cv mem) k c) i := by rw [mkI, hf]; rfl
      first | refine z_inc1 hX (D_Model_sightOf (i := 42) rfl) rfl (by decide) rfl ?_ | refine z_iinc hX (D_Model_sightOf (i := 42) rfl) rfl rfl (by decide) rfl ?_
      refine z_goto (tgt := 5) hX (D_Model_sightOf (i := 43) rfl) (by decide) ?_
      rw [← e]
      exact ih (i + 1) (by omega)
    refine z_iload hX (D_Model_sightOf (i := 4) rfl) rfl ?_
    refine z_bipush (v := 24) hX (D_Model_sightOf (i := 5) rfl) (by decide) ?_
    refine z_icmp_ge (tgt := 73) hX (D_Model_sightOf (i := 6) rfl) (by decide) (fun hcc => absurd hcc (nI_ge (b := 24) hi6 (by decide))) (fun _ => ?_)
    refine z_aload_n hX (D_Model_sightOf (i := 7) rfl) rfl ?_
    refine z_iload_n hX (D_Model_sightOf (i := 8) rfl) rfl ?_
    refine z_iload hX (D_Model_sightOf (i := 9) rfl) rfl ?_
    refine z_iconst (v := 4) hX (D_Model_sightOf (i := 10) rfl) (by decide) ?_
    refine z_iload_n hX (D_Model_sightOf (i := 11) rfl) rfl ?_
    refine z_bipush (v := 100) hX (D_Model_sightOf (i := 12) rfl) (by decide) ?_
    refine z_idiv hX (D_Model_sightOf (i := 13) rfl) (by decide) ?_
    refine z_cV4 hX (D_Model_sightOf (i := 14) rfl) mi_Model_doesShow l_Model_320 rfl rfl (by decide) (by first | exact Nat.one_pos | assumption | omega) (by first | decide | omega) (Nat.le_of_ble_eq_true rfl) (d_doesShow (w := 4) hH hA hk hi6 (by decide) ?_)
    refine z_if_eq (tgt := 67) hX (D_Model_sightOf (i := 15) rfl) (by decide) (fun hc => ?_) (fun hc => ?_)
    · skip
      exact no (by unfold tsC; rw [bI_0.mp hc]; rfl)
    · refine z_aload_n hX (D_Model_sightOf (i := 16) rfl) rfl ?_
      refine z_iload_n hX (D_Model_sightOf (i := 17) rfl) rfl ?_
      refine z_iload hX (D_Model_sightOf (i := 18) rfl) rfl ?_
      refine z_iconst (v := 0) hX (D_Model_sightOf (i := 19) rfl) (by decide) ?_
      refine z_iload_n hX (D_Model_sightOf (i := 20) rfl) rfl ?_
      refine z_bipush (v := 10) hX (D_Model_sightOf (i := 21) rfl) (by decide) ?_
      refine z_idiv hX (D_Model_sightOf (i := 22) rfl) (by decide) ?_
      refine z_bipush (v := 10) hX (D_Model_sightOf (i := 23) rfl) (by decide) ?_
      refine z_irem hX (D_Model_sightOf (i := 24) rfl) (by decide) ?_
      refine z_cV4 hX (D_Model_sightOf (i := 25) rfl) mi_Model_doesShow l_Model_320 rfl rfl (by decide) (by first | exact Nat.one_pos | assumption | omega) (by first | decide | omega) (Nat.le_of_ble_eq_true rfl) (d_doesShow (w := 0) hH hA hk hi6 (by decide) ?_)
      refine z_if_eq (tgt := 67) hX (D_Model_sightOf (i := 26) rfl) (by decide) (fun hc2 => ?_) (fun hc2 => ?_)
      · skip
        exact no (by unfold tsC; rw [bI_0.mp hc2]; simp)
      · refine z_aload_n hX (D_Model_sightOf (i := 27) rfl) rfl ?_
        refine z_iload_n hX (D_Model_sightOf (i := 28) rfl) rfl ?_
        refine z_iload hX (D_Model_sightOf (i := 29) rfl) rfl ?_
        refine z_iconst (v := 1) hX (D_Model_sightOf (i := 30) rfl) (by decide) ?_
        refine z_iload_n hX (D_Model_sightOf (i := 31) rfl) rfl ?_
        refine z_bipush (v := 10) hX (D_Model_sightOf (i := 32) rfl) (by decide) ?_
        refine z_irem hX (D_Model_sightOf (i := 33) rfl) (by decide) ?_
        refine z_cV4 hX (D_Model_sightOf (i := 34) rfl) mi_Model_doesShow l_Model_320 rfl rfl (by decide) (by first | exact Nat.one_pos | assumption | omega) (by first | decide | omega) (Nat.le_of_ble_eq_true rfl) (d_doesShow (w := 1) hH hA hk hi6 (by decide) ?_)
        refine z_if_eq (tgt := 67) hX (D_Model_sightOf (i := 35) rfl) (by decide) (fun hc3 => ?_) (fun hc3 => ?_)
        · skip
          exact no (by unfold tsC; rw [bI_0.mp hc3]; simp)
        · refine z_iload_n hX (D_Model_sightOf (i := 36) rfl) rfl ?_
          refine z_iconst (v := 1) hX (D_Model_sightOf (i := 37) rfl) (by decide) ?_
          refine z_iload hX (D_Model_sightOf (i := 38) rfl) rfl ?_
          refine z_ishl hX (D_Model_sightOf (i := 39) rfl) ?_
          refine z_ior hX (D_Model_sightOf (i := 40) rfl) ?_
          refine z_istore_n hX (D_Model_sightOf (i := 41) rfl) (by decide) rfl ?_
          first | refine z_inc1 hX (D_Model_sightOf (i := 42) rfl) rfl (by decide) rfl ?_ | refine z_iinc hX (D_Model_sightOf (i := 42) rfl) rfl rfl (by decide) rfl ?_
          refine z_goto (tgt := 5) hX (D_Model_sightOf (i := 43) rfl) (by decide) ?_
          have e : mkI (tsC (cv mem) k c) (i + 1) = mkI (tsC (cv mem) k c) i ||| ((1 : Int32) <<< (nI i &&& 31)) := by
            rw [mkI, if_pos]
            unfold tsC; rw [bI_n.mp hc, bI_n.mp hc2, bI_n.mp hc3]; rfl
          rw [← e]
          exact ih (i + 1) (by omega)
theorem d_sight (hH : zHas ι pM) (hA : ArOK mem) (hs : mem.1 40 0 1 = nI sz) (h8 : sz ≤ 8) (hno : (x < 0 ∨ (∃ j : Nat, j < 2 ^ 31 ∧ x = nI j ∧ siB j = false) ∨ (inN y sz = false ∧ ¬ y = -1)) → Post (some (zI (-1))) mem) (hok : ∀ j k, j < 2 ^ 31 → x = nI j → siB j = true → k < sz → y = nI k → Post (some (zI (mkI (tsC (cv mem) k (nI j)) 24))) mem) (hall : ∀ j, j < 2 ^ 31 → x = nI j → siB j = true → y = -1 → Post (some (zI (mkI (fun k => decide (¬ mkI (tsC (cv mem) k (nI j)) 24 = 0)) sz))) mem) : zC l ι M_Model_sight 4 [zP 40 0, zI x, zI y] mem Post := by
  refine z_enter hH (by decide) (by simp [z_ent, M_Model_sight]) (fun X hXl hX hR => ?_)
  refine z_iload_n hX (D_Model_sight (i := 0) rfl) rfl ?_
  refine z_if_lt (tgt := 50) hX (D_Model_sight (i := 1) rfl) (by decide) (fun h1 => ?_) (fun h1 => ?_)
  · refine z_iconst (v := -1) hX (D_Model_sight (i := 26) rfl) (by decide) ?_
    exact z_iret hX hR (D_Model_sight (i := 27) rfl) rfl (hno (Or.inl h1))
  · skip
    obtain ⟨j, hj, rfl⟩ := nI_of h1
    have bad : siB j = false → zW ι M_Model_sight X 50 [some (zP 40 0), some (zI (nI j)), some (zI y), none, none] [] mem := by
      intro hb
      refine z_iconst (v := -1) hX (D_Model_sight (i := 26) rfl) (by decide) ?_
      exact z_iret hX hR (D_Model_sight (i := 27) rfl) rfl (hno (Or.inr (Or.inl ⟨j, hj, rfl, hb⟩)))
    refine z_iload_n hX (D_Model_sight (i := 2) rfl) rfl ?_
    refine z_bipush (v := 100) hX (D_Model_sight (i := 3) rfl) (by decide) ?_
    refine z_idiv hX (D_Model_sight (i := 4) rfl) (by decide) ?_
    rw [nlit, pk_div hj (by decide) (by decide)]
    refine z_cS1 hX (D_Model_sight (i := 5) rfl) ms_Model_isColour l_Model_324 (by first | decide | omega) (Nat.le_of_ble_eq_true rfl) (d_isColour ?_)
    rw [inN_nI' (by omega)]
    refine z_if_eq (tgt := 50) hX (D_Model_sight (i := 6) rfl) (by decide) (fun h2 => ?_) (fun h2 => ?_)
    · skip
      exact bad (decide_eq_false (fun z => of_decide_eq_false (bI_0.mp h2) z.1))
    · refine z_iload_n hX (D_Model_sight (i := 7) rfl) rfl ?_
      refine z_bipush (v := 10) hX (D_Model_sight (i := 8) rfl) (by decide) ?_
      refine z_idiv hX (D_Model_sight (i := 9) rfl) (by decide) ?_
      rw [nlit, pk_div hj (by decide) (by decide)]
      refine z_bipush (v := 10) hX (D_Model_sight (i := 10) rfl) (by decide) ?_
      refine z_irem hX (D_Model_sight (i := 11) rfl) (by decide) ?_
      rw [nlit, pk_rem (by omega) (by decide) (by decide)]
      refine z_cS1 hX (D_Model_sight (i := 12) rfl) ms_Model_isColour l_Model_324 (by first | decide | omega) (Nat.le_of_ble_eq_true rfl) (d_isColour ?_)
      rw [inN_nI' (by omega)]
      refine z_if_eq (tgt := 50) hX (D_Model_sight (i := 13) rfl) (by decide) (fun h3 => ?_) (fun h3 => ?_)
      · skip
        exact bad (decide_eq_false (fun z => of_decide_eq_false (bI_0.mp h3) z.2.1))
      · refine z_iload_n hX (D_Model_sight (i := 14) rfl) rfl ?_
        refine z_bipush (v := 10) hX (D_Model_sight (i := 15) rfl) (by decide) ?_
        refine z_irem hX (D_Model_sight (i := 16) rfl) (by decide) ?_
        rw [nlit, pk_rem hj (by decide) (by decide)]
        refine z_cS1 hX (D_Model_sight (i := 17) rfl) ms_Model_isColour l_Model_324 (by first | decide | omega) (Nat.le_of_ble_eq_true rfl) (d_isColour ?_)
        rw [inN_nI' (by omega)]
        refine z_if_eq (tgt := 50) hX (D_Model_sight (i := 18) rfl) (by decide) (fun h4 => ?_) (fun h4 => ?_)
        · skip
          exact bad (decide_eq_false (fun z => of_decide_eq_false (bI_0.mp h4) z.2.2))
        · skip
          have ok : siB j = true := decide_eq_true ⟨of_decide_eq_true (bI_n.mp h2), of_decide_eq_true (bI_n.mp h3), of_decide_eq_true (bI_n.mp h4)⟩
          refine z_iload_n hX (D_Model_sight (i := 19) rfl) rfl ?_
          refine z_iconst (v := -1) hX (D_Model_sight (i := 20) rfl) (by decide) ?_
          refine z_icmp_eq (tgt := 52) hX (D_Model_sight (i := 21) rfl) (by decide) (fun h5 => ?_) (fun h5 => ?_)
          · skip
            have hh := hall j hj rfl ok h5
            refine z_iload_n hX (D_Model_sight (i := 28) rfl) rfl ?_
            refine z_if_lt (tgt := 63) hX (D_Model_sight (i := 29) rfl) (by decide) (fun _ => ?_) (fun hcc => absurd (by rw [h5]; decide) hcc)
            refine z_iconst (v := 0) hX (D_Model_sight (i := 35) rfl) (by decide) ?_
            refine z_istore_n hX (D_Model_sight (i := 36) rfl) (by decide) rfl ?_
            refine z_iconst (v := 0) hX (D_Model_sight (i := 37) rfl) (by decide) ?_
            refine z_istore hX (D_Model_sight (i := 38) rfl) (by decide) rfl ?_
            suffices H : ∀ (d i : Nat), i + d = sz → zW ι M_Model_sight X 68 [some (zP 40 0), some (zI (nI j)), some (zI y), some (zI (mkI (fun k => decide (¬ mkI (tsC (cv mem) k (nI j)) 24 = 0)) i)), some (zI (nI i))] [] mem from H sz 0 (by omega)
            intro d
            induction d with
            | zero =>
              intro i hi
              obtain rfl : i = sz := by omega
              refine z_iload hX (D_Model_sight (i := 39) rfl) rfl ?_
              refine z_aload_n hX (D_Model_sight (i := 40) rfl) rfl ?_
              refine z_geti hX (D_Model_sight (i := 41) rfl) f_Model_99 rfl (by decide) (by first | exact Nat.one_pos | assumption | omega) rfl ?_
              rw [hs]
              refine z_icmp_ge (tgt := 100) hX (D_Model_sight (i := 42) rfl) (by decide) (fun _ => ?_) (fun hcc => absurd (Int32.le_refl _) hcc)
              refine z_iload_n hX (D_Model_sight (i := 56) rfl) rfl ?_
              exact z_iret hX hR (D_Model_sight (i := 57) rfl) rfl hh
            | succ d ih =>
              intro i hi
              refine z_iload hX (D_Model_sight (i := 39) rfl) rfl ?_
              refine z_aload_n hX (D_Model_sight (i := 40) rfl) rfl ?_
              refine z_geti hX (D_Model_sight (i := 41) rfl) f_Model_99 rfl (by decide) (by first | exact Nat.one_pos | assumption | omega) rfl ?_
              rw [hs]
              refine z_icmp_ge (tgt := 100) hX (D_Model_sight (i := 42) rfl) (by decide) (fun hcc => absurd hcc (nI_ge (by omega) (by omega))) (fun _ => ?_)
              refine z_aload_n hX (D_Model_sight (i := 43) rfl) rfl ?_
              refine z_iload hX (D_Model_sight (i := 44) rfl) rfl ?_
              refine z_iload_n hX (D_Model_sight (i := 45) rfl) rfl ?_
              refine z_cV2 hX (D_Model_sight (i := 46) rfl) mi_Model_sightOf l_Model_327 rfl rfl (by decide) (by first | exact Nat.one_pos | assumption | omega) (by first | decide | omega) (Nat.le_of_ble_eq_true rfl) (d_sightOf hH hA (by omega) ?_)
              refine z_if_eq (tgt := 94) hX (D_Model_sight (i := 47) rfl) (by decide) (fun h7 => ?_) (fun h7 => ?_)
              · first | refine z_inc1 hX (D_Model_sight (i := 54) rfl) rfl (by decide) rfl ?_ | refine z_iinc hX (D_Model_sight (i := 54) rfl) rfl rfl (by decide) rfl ?_
                refine z_goto (tgt := 68) hX (D_Model_sight (i := 55) rfl) (by decide) ?_
                have e : mkI (fun k => decide (¬ mkI (tsC (cv mem) k (nI j)) 24 = 0)) (i + 1) = mkI (fun k => decide (¬ mkI (tsC (cv mem) k (nI j)) 24 = 0)) i := by
                  rw [mkI, if_neg]
                  simpa using h7
                rw [← e]
                exact ih (i + 1) (by omega)
              · refine z_iload_n hX (D_Model_sight (i := 48) rfl) rfl ?_
                refine z_iconst (v := 1) hX (D_Model_sight (i := 49) rfl) (by decide) ?_
                refine z_iload hX (D_Model_sight (i := 50) rfl) rfl ?_
                refine z_ishl hX (D_Model_sight (i := 51) rfl) ?_
                refine z_ior hX (D_Model_sight (i := 52) rfl) ?_
                refine z_istore_n hX (D_Model_sight (i := 53) rfl) (by decide) rfl ?_
                first | refine z_inc1 hX (D_Model_sight (i := 54) rfl) rfl (by decide) rfl ?_ | refine z_iinc hX (D_Model_sight (i := 54) rfl) rfl rfl (by decide) rfl ?_
                refine z_goto (tgt := 68) hX (D_Model_sight (i := 55) rfl) (by decide) ?_
                have e : mkI (fun k => decide (¬ mkI (tsC (cv mem) k (nI j)) 24 = 0)) (i + 1) = mkI (fun k => decide (¬ mkI (tsC (cv mem) k (nI j)) 24 = 0)) i ||| ((1 : Int32) <<< (nI i &&& 31)) := by
                  rw [mkI, if_pos (decide_eq_true h7)]
                rw [← e]
                exact ih (i + 1) (by omega)
          · refine z_aload_n hX (D_Model_sight (i := 22) rfl) rfl ?_
            refine z_iload_n hX (D_Model_sight (i := 23) rfl) rfl ?_
            refine z_cV1 hX (D_Model_sight (i := 24) rfl) mi_Model_isCube l_Model_106 rfl rfl (by decide) (by first | exact Nat.one_pos | assumption | omega) (by first | decide | omega) (Nat.le_of_ble_eq_true rfl) (d_isCube hH hs h8 ?_)
            refine z_if_ne (tgt := 52) hX (D_Model_sight (i := 25) rfl) (by decide) (fun h6 => ?_) (fun h6 => ?_)
            · skip
              obtain ⟨k, hk, rfl⟩ := inN_ex (bI_n.mp h6) (by omega)
              refine z_iload_n hX (D_Model_sight (i := 28) rfl) rfl ?_
              refine z_if_lt (tgt := 63) hX (D_Model_sight (i := 29) rfl) (by decide) (fun hcc => absurd hcc (nI_pos (by omega))) (fun _ => ?_)
              refine z_aload_n hX (D_Model_sight (i := 30) rfl) rfl ?_
              refine z_iload_n hX (D_Model_sight (i := 31) rfl) rfl ?_
              refine z_iload_n hX (D_Model_sight (i := 32) rfl) rfl ?_
              refine z_cV2 hX (D_Model_sight (i := 33) rfl) mi_Model_sightOf l_Model_327 rfl rfl (by decide) (by first | exact Nat.one_pos | assumption | omega) (by first | decide | omega) (Nat.le_of_ble_eq_true rfl) (d_sightOf hH hA (by omega) ?_)
              exact z_iret hX hR (D_Model_sight (i := 34) rfl) rfl (hok j k hj rfl ok hk rfl)
            · refine z_iconst (v := -1) hX (D_Model_sight (i := 26) rfl) (by decide) ?_
              exact z_iret hX hR (D_Model_sight (i := 27) rfl) rfl (hno (Or.inr (Or.inr ⟨bI_0.mp h6, h5⟩)))
theorem d_isOf (hH : zHas ι pM) {k f : Nat} {c : Int32} (hk : k < 8) (hf : f < 6) (h : Post (some (zI (bI (ofC (cv mem) k f c)))) mem) : zC l ι M_Model_isOf 0 [zP 40 0, zI (nI k), zI (nI f), zI c] mem Post := by
  refine z_enter hH (by decide) (by simp [z_ent, M_Model_isOf]) (fun X hXl hX hR => ?_)
  refine z_aload_n hX (D_Model_isOf (i := 0) rfl) rfl ?_
  refine z_getc hX (D_Model_isOf (i := 1) rfl) f_Model_7 rfl (by decide) (by first | exact Nat.one_pos | assumption | omega) rfl ?_
  refine z_bipush (v := 6) hX (D_Model_isOf (i := 2) rfl) (by decide) ?_
  refine z_iload_n hX (D_Model_isOf (i := 3) rfl) rfl ?_
  refine z_imul hX (D_Model_isOf (i := 4) rfl) ?_
  refine z_iload_n hX (D_Model_isOf (i := 5) rfl) rfl ?_
  refine z_iadd hX (D_Model_isOf (i := 6) rfl) ?_
  refine z_iald (j := 6 * k + f) hX (D_Model_isOf (i := 7) rfl) rfl (by decide) (by first | exact Nat.one_pos | assumption | omega) (by decide) (by first | (simp only [nlit, nI_add, pk_mul]; done) | rfl) (by omega) ?_
  refine z_iload_n hX (D_Model_isOf (i := 8) rfl) rfl ?_
  refine z_icmp_eq (tgt := 31) hX (D_Model_isOf (i := 9) rfl) (by decide) (fun h1 => ?_) (fun h1 => ?_)
  · refine z_iconst (v := 1) hX (D_Model_isOf (i := 20) rfl) (by decide) ?_
    refine z_goto (tgt := 36) hX (D_Model_isOf (i := 21) rfl) (by decide) ?_
    rw [show ofC (cv mem) k f c = true from decide_eq_true (Or.inl h1)] at h
    exact z_zret hX hR (D_Model_isOf (i := 23) rfl) rfl (by first | exact Or.inl rfl | exact Or.inr rfl | assumption) (by assumption)
  · refine z_aload_n hX (D_Model_isOf (i := 10) rfl) rfl ?_
    refine z_getc hX (D_Model_isOf (i := 11) rfl) f_Model_7 rfl (by decide) (by first | exact Nat.one_pos | assumption | omega) rfl ?_
    refine z_bipush (v := 6) hX (D_Model_isOf (i := 12) rfl) (by decide) ?_
    refine z_iload_n hX (D_Model_isOf (i := 13) rfl) rfl ?_
    refine z_imul hX (D_Model_isOf (i := 14) rfl) ?_
    refine z_iload_n hX (D_Model_isOf (i := 15) rfl) rfl ?_
    refine z_iadd hX (D_Model_isOf (i := 16) rfl) ?_
    refine z_iald (j := 6 * k + f) hX (D_Model_isOf (i := 17) rfl) rfl (by decide) (by first | exact Nat.one_pos | assumption | omega) (by decide) (by first | (simp only [nlit, nI_add, pk_mul]; done) | rfl) (by omega) ?_
    refine z_bipush (v := 6) hX (D_Model_isOf (i := 18) rfl) (by decide) ?_
    refine z_icmp_ne (tgt := 35) hX (D_Model_isOf (i := 19) rfl) (by decide) (fun h2 => ?_) (fun h2 => ?_)
    · refine z_iconst (v := 0) hX (D_Model_isOf (i := 22) rfl) (by decide) ?_
      rw [show ofC (cv mem) k f c = false from decide_eq_false (fun z => z.elim h1 h2)] at h
      exact z_zret hX hR (D_Model_isOf (i := 23) rfl) rfl (by first | exact Or.inl rfl | exact Or.inr rfl | assumption) (by assumption)
    · refine z_iconst (v := 1) hX (D_Model_isOf (i := 20) rfl) (by decide) ?_
      refine z_goto (tgt := 36) hX (D_Model_isOf (i := 21) rfl) (by decide) ?_
      rw [show ofC (cv mem) k f c = true from decide_eq_true (Or.inr h2)] at h
      exact z_zret hX hR (D_Model_isOf (i := 23) rfl) rfl (by first | exact Or.inl rfl | exact Or.inr rfl | assumption) (by assumption)
theorem cr3 (mem : zM) (k : Nat) (c : Int32) : alI (crC mem k c) 3 = (((ofC mem k 0 c || ofC mem k 2 c) && (ofC mem k 1 c || ofC mem k 3 c)) && (ofC mem k 4 c || ofC mem k 5 c)) := by
  have f0 : edN 0 = 0 := by decide
  have f1 : edN 1 = 1 := by decide
  have f2 : edN 2 = 4 := by decide
  have g0 : opN 0 = 2 := by decide +kernel
  have g1 : opN 1 = 3 := by decide +kernel
  have g4 : opN 4 = 5 := by decide +kernel
  simp only [alI, crC, f0, f1, f2, g0, g1, g4, Bool.true_and]
theorem d_isGreat (hH : zHas ι pM) {k : Nat} {c : Int32} (hk : k < 8) (h : Post (some (zI (bI (alI (crC (cv mem) k c) 3)))) mem) : zC l ι M_Model_isGreat 1 [zP 40 0, zI (nI k), zI c] mem Post := by
  rw [cr3] at h
  refine z_enter hH (by decide) (by simp [z_ent, M_Model_isGreat]) (fun X hXl hX hR => ?_)
  have no : (((ofC (cv mem) k 0 c || ofC (cv mem) k 2 c) && (ofC (cv mem) k 1 c || ofC (cv mem) k 3 c)) && (ofC (cv mem) k 4 c || ofC (cv mem) k 5 c)) = false → zW ι M_Model_isGreat X 64 [some (zP 40 0), some (zI (nI k)), some (zI c)] [] mem := by
    intro hn
    rw [hn] at h
    refine z_iconst (v := 0) hX (D_Model_isGreat (i := 38) rfl) (by decide) ?_
    exact z_zret hX hR (D_Model_isGreat (i := 39) rfl) rfl (by first | exact Or.inl rfl | exact Or.inr rfl | assumption) (by assumption)
  have p3 : (ofC (cv mem) k 0 c || ofC (cv mem) k 2 c) = true → (ofC (cv mem) k 1 c || ofC (cv mem) k 3 c) = true → zW ι M_Model_isGreat X 40 [some (zP 40 0), some (zI (nI k)), some (zI c)] [] mem := by
    intro q1 q2
    rw [q1, q2] at no h
    refine z_aload_n hX (D_Model_isGreat (i := 24) rfl) rfl ?_
    refine z_iload_n hX (D_Model_isGreat (i := 25) rfl) rfl ?_
    refine z_iconst (v := 4) hX (D_Model_isGreat (i := 26) rfl) (by decide) ?_
    refine z_iload_n hX (D_Model_isGreat (i := 27) rfl) rfl ?_
    refine z_cV3 hX (D_Model_isGreat (i := 28) rfl) mi_Model_isOf l_Model_339 rfl rfl (by decide) (by first | exact Nat.one_pos | assumption | omega) (by first | decide | omega) (Nat.le_of_ble_eq_true rfl) (d_isOf (f := 4) hH hk (by decide) ?_)
    refine z_if_ne (tgt := 60) hX (D_Model_isGreat (i := 29) rfl) (by decide) (fun h1 => ?_) (fun h1 => ?_)
    · refine z_iconst (v := 1) hX (D_Model_isGreat (i := 36) rfl) (by decide) ?_
      refine z_goto (tgt := 65) hX (D_Model_isGreat (i := 37) rfl) (by decide) ?_
      rw [bI_n.mp h1] at h
      exact z_zret hX hR (D_Model_isGreat (i := 39) rfl) rfl (by first | exact Or.inl rfl | exact Or.inr rfl | assumption) (by assumption)
    · refine z_aload_n hX (D_Model_isGreat (i := 30) rfl) rfl ?_
      refine z_iload_n hX (D_Model_isGreat (i := 31) rfl) rfl ?_
      refine z_iconst (v := 5) hX (D_Model_isGreat (i := 32) rfl) (by decide) ?_
      refine z_iload_n hX (D_Model_isGreat (i := 33) rfl) rfl ?_
      refine z_cV3 hX (D_Model_isGreat (i := 34) rfl) mi_Model_isOf l_Model_339 rfl rfl (by decide) (by first | exact Nat.one_pos | assumption | omega) (by first | decide | omega) (Nat.le_of_ble_eq_true rfl) (d_isOf (f := 5) hH hk (by decide) ?_)
      refine z_if_eq (tgt := 64) hX (D_Model_isGreat (i := 35) rfl) (by decide) (fun h2 => ?_) (fun h2 => ?_)
      · skip
        exact no (by rw [bI_0.mp h1, bI_0.mp h2]; rfl)
      · refine z_iconst (v := 1) hX (D_Model_isGreat (i := 36) rfl) (by decide) ?_
        refine z_goto (tgt := 65) hX (D_Model_isGreat (i := 37) rfl) (by decide) ?_
        rw [bI_n.mp h2] at h
        simp only [Bool.or_true, Bool.and_true] at h
        exact z_zret hX hR (D_Model_isGreat (i := 39) rfl) rfl (by first | exact Or.inl rfl | exact Or.inr rfl | assumption) (by assumption)
  have p2 : (ofC (cv mem) k 0 c || ofC (cv mem) k 2 c) = true → zW ι M_Model_isGreat X 20 [some (zP 40 0), some (zI (nI k)), some (zI c)] [] mem := by
    intro q1
    refine z_aload_n hX (D_Model_isGreat (i := 12) rfl) rfl ?_
    refine z_iload_n hX (D_Model_isGreat (i := 13) rfl) rfl ?_
    refine z_iconst (v := 1) hX (D_Model_isGreat (i := 14) rfl) (by decide) ?_
    refine z_iload_n hX (D_Model_isGreat (i := 15) rfl) rfl ?_
    refine z_cV3 hX (D_Model_isGreat (i := 16) rfl) mi_Model_isOf l_Model_339 rfl rfl (by decide) (by first | exact Nat.one_pos | assumption | omega) (by first | decide | omega) (Nat.le_of_ble_eq_true rfl) (d_isOf (f := 1) hH hk (by decide) ?_)
    refine z_if_ne (tgt := 40) hX (D_Model_isGreat (i := 17) rfl) (by decide) (fun h1 => ?_) (fun h1 => ?_)
    · skip
      exact p3 q1 (by rw [bI_n.mp h1]; rfl)
    · refine z_aload_n hX (D_Model_isGreat (i := 18) rfl) rfl ?_
      refine z_iload_n hX (D_Model_isGreat (i := 19) rfl) rfl ?_
      refine z_iconst (v := 3) hX (D_Model_isGreat (i := 20) rfl) (by decide) ?_
      refine z_iload_n hX (D_Model_isGreat (i := 21) rfl) rfl ?_
      refine z_cV3 hX (D_Model_isGreat (i := 22) rfl) mi_Model_isOf l_Model_339 rfl rfl (by decide) (by first | exact Nat.one_pos | assumption | omega) (by first | decide | omega) (Nat.le_of_ble_eq_true rfl) (d_isOf (f := 3) hH hk (by decide) ?_)
      refine z_if_eq (tgt := 64) hX (D_Model_isGreat (i := 23) rfl) (by decide) (fun h2 => ?_) (fun h2 => ?_)
      · skip
        exact no (by rw [bI_0.mp h1, bI_0.mp h2]; simp)
      · skip
        exact p3 q1 (by rw [bI_n.mp h2]; simp)
  refine z_aload_n hX (D_Model_isGreat (i := 0) rfl) rfl ?_
  refine z_iload_n hX (D_Model_isGreat (i := 1) rfl) rfl ?_
  refine z_iconst (v := 0) hX (D_Model_isGreat (i := 2) rfl) (by decide) ?_
  refine z_iload_n hX (D_Model_isGreat (i := 3) rfl) rfl ?_
  refine z_cV3 hX (D_Model_isGreat (i := 4) rfl) mi_Model_isOf l_Model_339 rfl rfl (by decide) (by first | exact Nat.one_pos | assumption | omega) (by first | decide | omega) (Nat.le_of_ble_eq_true rfl) (d_isOf (f := 0) hH hk (by decide) ?_)
  refine z_if_ne (tgt := 20) hX (D_Model_isGreat (i := 5) rfl) (by decide) (fun h1 => ?_) (fun h1 => ?_)
  · skip
    exact p2 (by rw [bI_n.mp h1]; rfl)
  · refine z_aload_n hX (D_Model_isGreat (i := 6) rfl) rfl ?_
    refine z_iload_n hX (D_Model_isGreat (i := 7) rfl) rfl ?_
    refine z_iconst (v := 2) hX (D_Model_isGreat (i := 8) rfl) (by decide) ?_
    refine z_iload_n hX (D_Model_isGreat (i := 9) rfl) rfl ?_
    refine z_cV3 hX (D_Model_isGreat (i := 10) rfl) mi_Model_isOf l_Model_339 rfl rfl (by decide) (by first | exact Nat.one_pos | assumption | omega) (by first | decide | omega) (Nat.le_of_ble_eq_true rfl) (d_isOf (f := 2) hH hk (by decide) ?_)
    refine z_if_eq (tgt := 64) hX (D_Model_isGreat (i := 11) rfl) (by decide) (fun h2 => ?_) (fun h2 => ?_)
    · skip
      exact no (by rw [bI_0.mp h1, bI_0.mp h2]; simp)
    · skip
      exact p2 (by rw [bI_n.mp h2]; simp)
theorem d_great (hH : zHas ι pM) (hs : mem.1 40 0 1 = nI sz) (h8 : sz ≤ 8) (hno : inN x 6 = false → Post (some (zI (-1))) mem) (hok : inN x 6 = true → Post (some (zI (mkI (fun k => alI (crC (cv mem) k x) 3) sz))) mem) : zC l ι M_Model_great 2 [zP 40 0, zI x] mem Post := by
  refine z_enter hH (by decide) (by simp [z_ent, M_Model_great]) (fun X hXl hX hR => ?_)
  refine z_iload_n hX (D_Model_great (i := 0) rfl) rfl ?_
  refine z_cS1 hX (D_Model_great (i := 1) rfl) ms_Model_isColour l_Model_324 (by first | decide | omega) (Nat.le_of_ble_eq_true rfl) (d_isColour ?_)
  refine z_if_ne (tgt := 9) hX (D_Model_great (i := 2) rfl) (by decide) (fun h1 => ?_) (fun h1 => ?_)
  · skip
    have hh := hok (bI_n.mp h1)
    refine z_iconst (v := 0) hX (D_Model_great (i := 5) rfl) (by decide) ?_
    refine z_istore_n hX (D_Model_great (i := 6) rfl) (by decide) rfl ?_
    refine z_iconst (v := 0) hX (D_Model_great (i := 7) rfl) (by decide) ?_
    refine z_istore_n hX (D_Model_great (i := 8) rfl) (by decide) rfl ?_
    suffices H : ∀ (d i : Nat), i + d = sz → zW ι M_Model_great X 13 [some (zP 40 0), some (zI x), some (zI (mkI (fun k => alI (crC (cv mem) k x) 3) i)), some (zI (nI i))] [] mem from H sz 0 (by omega)
    intro d
    induction d with
    | zero =>
      intro i hi
      obtain rfl : i = sz := by omega
      refine z_iload_n hX (D_Model_great (i := 9) rfl) rfl ?_
      refine z_aload_n hX (D_Model_great (i := 10) rfl) rfl ?_
      refine z_geti hX (D_Model_great (i := 11) rfl) f_Model_99 rfl (by decide) (by first | exact Nat.one_pos | assumption | omega) rfl ?_
      rw [hs]
      refine z_icmp_ge (tgt := 42) hX (D_Model_great (i := 12) rfl) (by decide) (fun _ => ?_) (fun hcc => absurd (Int32.le_refl _) hcc)
      refine z_iload_n hX (D_Model_great (i := 26) rfl) rfl ?_
      exact z_iret hX hR (D_Model_great (i := 27) rfl) rfl hh
    | succ d ih =>
      intro i hi
      refine z_iload_n hX (D_Model_great (i := 9) rfl) rfl ?_
      refine z_aload_n hX (D_Model_great (i := 10) rfl) rfl ?_
      refine z_geti hX (D_Model_great (i := 11) rfl) f_Model_99 rfl (by decide) (by first | exact Nat.one_pos | assumption | omega) rfl ?_
      rw [hs]
      refine z_icmp_ge (tgt := 42) hX (D_Model_great (i := 12) rfl) (by decide) (fun hcc => absurd hcc (nI_ge (by omega) (by omega))) (fun _ => ?_)
      refine z_aload_n hX (D_Model_great (i := 13) rfl) rfl ?_
      refine z_iload_n hX (D_Model_great (i := 14) rfl) rfl ?_
      refine z_iload_n hX (D_Model_great (i := 15) rfl) rfl ?_
      refine z_cV2 hX (D_Model_great (i := 16) rfl) mi_Model_isGreat l_Model_342 rfl rfl (by decide) (by first | exact Nat.one_pos | assumption | omega) (by first | decide | omega) (Nat.le_of_ble_eq_true rfl) (d_isGreat hH (by omega) ?_)
      refine z_if_eq (tgt := 36) hX (D_Model_great (i := 17) rfl) (by decide) (fun h3 => ?_) (fun h3 => ?_)
      · first | refine z_inc1 hX (D_Model_great (i := 24) rfl) rfl (by decide) rfl ?_ | refine z_iinc hX (D_Model_great (i := 24) rfl) rfl rfl (by decide) rfl ?_
        refine z_goto (tgt := 13) hX (D_Model_great (i := 25) rfl) (by decide) ?_
        have e : mkI (fun k => alI (crC (cv mem) k x) 3) (i + 1) = mkI (fun k => alI (crC (cv mem) k x) 3) i := by
          rw [mkI, if_neg]
          rw [bI_0.mp h3]; decide
        rw [← e]
        exact ih (i + 1) (by omega)
      · refine z_iload_n hX (D_Model_great (i := 18) rfl) rfl ?_
        refine z_iconst (v := 1) hX (D_Model_great (i := 19) rfl) (by decide) ?_
        refine z_iload_n hX (D_Model_great (i := 20) rfl) rfl ?_
        refine z_ishl hX (D_Model_great (i := 21) rfl) ?_
        refine z_ior hX (D_Model_great (i := 22) rfl) ?_
        refine z_istore_n hX (D_Model_great (i := 23) rfl) (by decide) rfl ?_
        first | refine z_inc1 hX (D_Model_great (i := 24) rfl) rfl (by decide) rfl ?_ | refine z_iinc hX (D_Model_great (i := 24) rfl) rfl rfl (by decide) rfl ?_
        refine z_goto (tgt := 13) hX (D_Model_great (i := 25) rfl) (by decide) ?_
        have e : mkI (fun k => alI (crC (cv mem) k x) 3) (i + 1) = mkI (fun k => alI (crC (cv mem) k x) 3) i ||| ((1 : Int32) <<< (nI i &&& 31)) := by
          rw [mkI, if_pos (bI_n.mp h3)]
        rw [← e]
        exact ih (i + 1) (by omega)
  · refine z_iconst (v := -1) hX (D_Model_great (i := 3) rfl) (by decide) ?_
    exact z_iret hX hR (D_Model_great (i := 4) rfl) rfl (hno (bI_0.mp h1))
end G2
end
