-- ===== PART A: goes FIRST, ahead of the names: the tables' words, and 'selects' of the private methods out of them =====
/-- a private method of a class that the tables say can be made, by its rows of tables_1 -/
def lw_okq (q : MethodName × Nat) : Prop := (q.1.cls ≠ "java/lang/invoke/MethodHandle" ∧ q.1.cls ≠ "java/lang/invoke/VarHandle") ∧ Cond.instantiable q.1.cls q.2 ∈ tables_1 ∧ Cond.privateMethod q.1 ∈ tables_1 ∧ Cond.instanceMethod q.1 ∈ tables_1
theorem lw_p0 : lw_okq (⟨"SolutionBoxes", "noteFreeLetters", "()V"⟩, 10) := ⟨⟨by decide +kernel, by decide +kernel⟩, List.mem_of_getElem? (i := 24) (by decide +kernel), List.mem_of_getElem? (i := 300) (by decide +kernel), List.mem_of_getElem? (i := 301) (by decide +kernel)⟩
theorem lw_p1 : lw_okq (⟨"SolutionBoxes$Reducer", "pairVanishes", "(LSolutionBoxes$TakenList;II)Z"⟩, 2) := ⟨⟨by decide +kernel, by decide +kernel⟩, List.mem_of_getElem? (i := 176) (by decide +kernel), List.mem_of_getElem? (i := 331) (by decide +kernel), List.mem_of_getElem? (i := 332) (by decide +kernel)⟩
theorem lw_p2 : lw_okq (⟨"SolutionBoxes$Reducer", "addMultiple", "(LSolutionBoxes$Polynomial;II)V"⟩, 2) := ⟨⟨by decide +kernel, by decide +kernel⟩, List.mem_of_getElem? (i := 176) (by decide +kernel), List.mem_of_getElem? (i := 336) (by decide +kernel), List.mem_of_getElem? (i := 337) (by decide +kernel)⟩
theorem lw_p3 : lw_okq (⟨"SolutionBoxes$Reducer", "reduce", "(LSolutionBoxes$TakenList;IZ)Z"⟩, 2) := ⟨⟨by decide +kernel, by decide +kernel⟩, List.mem_of_getElem? (i := 176) (by decide +kernel), List.mem_of_getElem? (i := 343) (by decide +kernel), List.mem_of_getElem? (i := 344) (by decide +kernel)⟩
theorem lw_p4 : lw_okq (⟨"SolutionBoxes$Reducer", "wipe", "(I)V"⟩, 2) := ⟨⟨by decide +kernel, by decide +kernel⟩, List.mem_of_getElem? (i := 176) (by decide +kernel), List.mem_of_getElem? (i := 355) (by decide +kernel), List.mem_of_getElem? (i := 356) (by decide +kernel)⟩
theorem lw_p5 : lw_okq (⟨"SolutionBoxes$Quotient", "noteLower", "(III)V"⟩, 12) := ⟨⟨by decide +kernel, by decide +kernel⟩, List.mem_of_getElem? (i := 193) (by decide +kernel), List.mem_of_getElem? (i := 383) (by decide +kernel), List.mem_of_getElem? (i := 384) (by decide +kernel)⟩
theorem lw_p6 : lw_okq (⟨"SolutionBoxes$Quotient", "setOne", "([I)V"⟩, 12) := ⟨⟨by decide +kernel, by decide +kernel⟩, List.mem_of_getElem? (i := 193) (by decide +kernel), List.mem_of_getElem? (i := 391) (by decide +kernel), List.mem_of_getElem? (i := 392) (by decide +kernel)⟩
theorem lw_p7 : lw_okq (⟨"SolutionBoxes$Span", "takeOff", "([II)V"⟩, 3) := ⟨⟨by decide +kernel, by decide +kernel⟩, List.mem_of_getElem? (i := 200) (by decide +kernel), List.mem_of_getElem? (i := 405) (by decide +kernel), List.mem_of_getElem? (i := 406) (by decide +kernel)⟩
theorem lw_p8 : lw_okq (⟨"SolutionBoxes$Span", "keep", "([II)V"⟩, 3) := ⟨⟨by decide +kernel, by decide +kernel⟩, List.mem_of_getElem? (i := 200) (by decide +kernel), List.mem_of_getElem? (i := 409) (by decide +kernel), List.mem_of_getElem? (i := 410) (by decide +kernel)⟩
theorem lw_p9 : lw_okq (⟨"SolutionBoxes$OneLetter", "settle", "(I)V"⟩, 2) := ⟨⟨by decide +kernel, by decide +kernel⟩, List.mem_of_getElem? (i := 131) (by decide +kernel), List.mem_of_getElem? (i := 420) (by decide +kernel), List.mem_of_getElem? (i := 421) (by decide +kernel)⟩
theorem lw_p10 : lw_okq (⟨"SolutionBoxes$Quotient", "multiply", "(I[I[I)V"⟩, 12) := ⟨⟨by decide +kernel, by decide +kernel⟩, List.mem_of_getElem? (i := 193) (by decide +kernel), List.mem_of_getElem? (i := 425) (by decide +kernel), List.mem_of_getElem? (i := 426) (by decide +kernel)⟩
theorem lw_p11 : lw_okq (⟨"SolutionBoxes$OneLetter", "square", "()V"⟩, 2) := ⟨⟨by decide +kernel, by decide +kernel⟩, List.mem_of_getElem? (i := 131) (by decide +kernel), List.mem_of_getElem? (i := 439) (by decide +kernel), List.mem_of_getElem? (i := 440) (by decide +kernel)⟩
theorem lw_p12 : lw_okq (⟨"SolutionBoxes$OneLetter", "divide", "(LSolutionBoxes$OneLetter;)V"⟩, 2) := ⟨⟨by decide +kernel, by decide +kernel⟩, List.mem_of_getElem? (i := 131) (by decide +kernel), List.mem_of_getElem? (i := 449) (by decide +kernel), List.mem_of_getElem? (i := 450) (by decide +kernel)⟩
theorem lw_p13 : lw_okq (⟨"SolutionBoxes$OneLetter", "multiplyByShifted", "(I)V"⟩, 2) := ⟨⟨by decide +kernel, by decide +kernel⟩, List.mem_of_getElem? (i := 131) (by decide +kernel), List.mem_of_getElem? (i := 453) (by decide +kernel), List.mem_of_getElem? (i := 454) (by decide +kernel)⟩
theorem lw_p14 : lw_okq (⟨"SolutionBoxes$Roots", "split", "(II)V"⟩, 4) := ⟨⟨by decide +kernel, by decide +kernel⟩, List.mem_of_getElem? (i := 124) (by decide +kernel), List.mem_of_getElem? (i := 475) (by decide +kernel), List.mem_of_getElem? (i := 476) (by decide +kernel)⟩
theorem lw_p15 : lw_okq (⟨"SolutionBoxes$Roots", "writeRoots", "([I)I"⟩, 4) := ⟨⟨by decide +kernel, by decide +kernel⟩, List.mem_of_getElem? (i := 124) (by decide +kernel), List.mem_of_getElem? (i := 483) (by decide +kernel), List.mem_of_getElem? (i := 484) (by decide +kernel)⟩
def lw_privs_1 : List (MethodName × Nat) := [(⟨"SolutionBoxes", "noteFreeLetters", "()V"⟩, 10), (⟨"SolutionBoxes$Reducer", "pairVanishes", "(LSolutionBoxes$TakenList;II)Z"⟩, 2), (⟨"SolutionBoxes$Reducer", "addMultiple", "(LSolutionBoxes$Polynomial;II)V"⟩, 2), (⟨"SolutionBoxes$Reducer", "reduce", "(LSolutionBoxes$TakenList;IZ)Z"⟩, 2), (⟨"SolutionBoxes$Reducer", "wipe", "(I)V"⟩, 2), (⟨"SolutionBoxes$Quotient", "noteLower", "(III)V"⟩, 12), (⟨"SolutionBoxes$Quotient", "setOne", "([I)V"⟩, 12), (⟨"SolutionBoxes$Span", "takeOff", "([II)V"⟩, 3), (⟨"SolutionBoxes$Span", "keep", "([II)V"⟩, 3), (⟨"SolutionBoxes$OneLetter", "settle", "(I)V"⟩, 2), (⟨"SolutionBoxes$Quotient", "multiply", "(I[I[I)V"⟩, 12), (⟨"SolutionBoxes$OneLetter", "square", "()V"⟩, 2), (⟨"SolutionBoxes$OneLetter", "divide", "(LSolutionBoxes$OneLetter;)V"⟩, 2), (⟨"SolutionBoxes$OneLetter", "multiplyByShifted", "(I)V"⟩, 2), (⟨"SolutionBoxes$Roots", "split", "(II)V"⟩, 4), (⟨"SolutionBoxes$Roots", "writeRoots", "([I)I"⟩, 4)]
theorem lw_r1 : ∀ q ∈ lw_privs_1, lw_okq q := List.forall_mem_cons.mpr ⟨lw_p0, List.forall_mem_cons.mpr ⟨lw_p1, List.forall_mem_cons.mpr ⟨lw_p2, List.forall_mem_cons.mpr ⟨lw_p3, List.forall_mem_cons.mpr ⟨lw_p4, List.forall_mem_cons.mpr ⟨lw_p5, List.forall_mem_cons.mpr ⟨lw_p6, List.forall_mem_cons.mpr ⟨lw_p7, List.forall_mem_cons.mpr ⟨lw_p8, List.forall_mem_cons.mpr ⟨lw_p9, List.forall_mem_cons.mpr ⟨lw_p10, List.forall_mem_cons.mpr ⟨lw_p11, List.forall_mem_cons.mpr ⟨lw_p12, List.forall_mem_cons.mpr ⟨lw_p13, List.forall_mem_cons.mpr ⟨lw_p14, List.forall_mem_cons.mpr ⟨lw_p15, fun _ h => absurd h List.not_mem_nil⟩⟩⟩⟩⟩⟩⟩⟩⟩⟩⟩⟩⟩⟩⟩⟩
theorem lw_p16 : lw_okq (⟨"SolutionBoxes$Solver", "findZeros", "(LSolutionBoxes$TakenList;)V"⟩, 11) := ⟨⟨by decide +kernel, by decide +kernel⟩, List.mem_of_getElem? (i := 118) (by decide +kernel), List.mem_of_getElem? (i := 487) (by decide +kernel), List.mem_of_getElem? (i := 488) (by decide +kernel)⟩
theorem lw_p17 : lw_okq (⟨"SolutionBoxes$Solver", "keepZero", "()V"⟩, 11) := ⟨⟨by decide +kernel, by decide +kernel⟩, List.mem_of_getElem? (i := 118) (by decide +kernel), List.mem_of_getElem? (i := 508) (by decide +kernel), List.mem_of_getElem? (i := 509) (by decide +kernel)⟩
theorem lw_p18 : lw_okq (⟨"SolutionBoxes$Quotient", "addMultiplesOfFactor", "()V"⟩, 12) := ⟨⟨by decide +kernel, by decide +kernel⟩, List.mem_of_getElem? (i := 193) (by decide +kernel), List.mem_of_getElem? (i := 520) (by decide +kernel), List.mem_of_getElem? (i := 521) (by decide +kernel)⟩
theorem lw_p19 : lw_okq (⟨"java/lang/Throwable", "fillInStackTrace", "(I)Ljava/lang/Throwable;"⟩, 6) := ⟨⟨by decide +kernel, by decide +kernel⟩, List.mem_of_getElem? (i := 590) (by decide +kernel), List.mem_of_getElem? (i := 588) (by decide +kernel), List.mem_of_getElem? (i := 589) (by decide +kernel)⟩
theorem lw_p20 : lw_okq (⟨"SolutionBoxes", "polynomialOf", "(I)LSolutionBoxes$Polynomial;"⟩, 10) := ⟨⟨by decide +kernel, by decide +kernel⟩, List.mem_of_getElem? (i := 24) (by decide +kernel), List.mem_of_getElem? (i := 630) (by decide +kernel), List.mem_of_getElem? (i := 631) (by decide +kernel)⟩
theorem lw_p21 : lw_okq (⟨"SolutionBoxes$Polynomial", "makeRoom", "(I)V"⟩, 3) := ⟨⟨by decide +kernel, by decide +kernel⟩, List.mem_of_getElem? (i := 40) (by decide +kernel), List.mem_of_getElem? (i := 697) (by decide +kernel), List.mem_of_getElem? (i := 698) (by decide +kernel)⟩
theorem lw_p22 : lw_okq (⟨"SolutionBoxes$Polynomial", "closeUp", "(I)V"⟩, 3) := ⟨⟨by decide +kernel, by decide +kernel⟩, List.mem_of_getElem? (i := 40) (by decide +kernel), List.mem_of_getElem? (i := 713) (by decide +kernel), List.mem_of_getElem? (i := 714) (by decide +kernel)⟩
theorem lw_p23 : lw_okq (⟨"SolutionBoxes", "known", "()LSolutionBoxes$Solver;"⟩, 10) := ⟨⟨by decide +kernel, by decide +kernel⟩, List.mem_of_getElem? (i := 24) (by decide +kernel), List.mem_of_getElem? (i := 740) (by decide +kernel), List.mem_of_getElem? (i := 741) (by decide +kernel)⟩
theorem lw_p24 : lw_okq (⟨"SolutionBoxes", "requireLetter", "(I)V"⟩, 10) := ⟨⟨by decide +kernel, by decide +kernel⟩, List.mem_of_getElem? (i := 24) (by decide +kernel), List.mem_of_getElem? (i := 766) (by decide +kernel), List.mem_of_getElem? (i := 767) (by decide +kernel)⟩
theorem lw_p25 : lw_okq (⟨"SolutionBoxesModel", "isPower", "(I)Z"⟩, 31) := ⟨⟨by decide +kernel, by decide +kernel⟩, List.mem_of_getElem? (i := 798) (by decide +kernel), List.mem_of_getElem? (i := 915) (by decide +kernel), List.mem_of_getElem? (i := 916) (by decide +kernel)⟩
theorem lw_p26 : lw_okq (⟨"SolutionBoxesModel", "lookForFree", "()V"⟩, 31) := ⟨⟨by decide +kernel, by decide +kernel⟩, List.mem_of_getElem? (i := 798) (by decide +kernel), List.mem_of_getElem? (i := 953) (by decide +kernel), List.mem_of_getElem? (i := 954) (by decide +kernel)⟩
theorem lw_p27 : lw_okq (⟨"SolutionBoxesModel", "hasOne", "()Z"⟩, 31) := ⟨⟨by decide +kernel, by decide +kernel⟩, List.mem_of_getElem? (i := 798) (by decide +kernel), List.mem_of_getElem? (i := 957) (by decide +kernel), List.mem_of_getElem? (i := 958) (by decide +kernel)⟩
theorem lw_p28 : lw_okq (⟨"SolutionBoxesModel", "isBasis", "()Z"⟩, 31) := ⟨⟨by decide +kernel, by decide +kernel⟩, List.mem_of_getElem? (i := 798) (by decide +kernel), List.mem_of_getElem? (i := 964) (by decide +kernel), List.mem_of_getElem? (i := 965) (by decide +kernel)⟩
theorem lw_p29 : lw_okq (⟨"SolutionBoxesModel", "meets", "(II)Z"⟩, 31) := ⟨⟨by decide +kernel, by decide +kernel⟩, List.mem_of_getElem? (i := 798) (by decide +kernel), List.mem_of_getElem? (i := 968) (by decide +kernel), List.mem_of_getElem? (i := 969) (by decide +kernel)⟩
theorem lw_p30 : lw_okq (⟨"SolutionBoxesModel", "empty", "()V"⟩, 31) := ⟨⟨by decide +kernel, by decide +kernel⟩, List.mem_of_getElem? (i := 798) (by decide +kernel), List.mem_of_getElem? (i := 975) (by decide +kernel), List.mem_of_getElem? (i := 976) (by decide +kernel)⟩
theorem lw_p31 : lw_okq (⟨"SolutionBoxesModel", "takeOff", "(III)V"⟩, 31) := ⟨⟨by decide +kernel, by decide +kernel⟩, List.mem_of_getElem? (i := 798) (by decide +kernel), List.mem_of_getElem? (i := 988) (by decide +kernel), List.mem_of_getElem? (i := 989) (by decide +kernel)⟩
def lw_privs_2 : List (MethodName × Nat) := [(⟨"SolutionBoxes$Solver", "findZeros", "(LSolutionBoxes$TakenList;)V"⟩, 11), (⟨"SolutionBoxes$Solver", "keepZero", "()V"⟩, 11), (⟨"SolutionBoxes$Quotient", "addMultiplesOfFactor", "()V"⟩, 12), (⟨"java/lang/Throwable", "fillInStackTrace", "(I)Ljava/lang/Throwable;"⟩, 6), (⟨"SolutionBoxes", "polynomialOf", "(I)LSolutionBoxes$Polynomial;"⟩, 10), (⟨"SolutionBoxes$Polynomial", "makeRoom", "(I)V"⟩, 3), (⟨"SolutionBoxes$Polynomial", "closeUp", "(I)V"⟩, 3), (⟨"SolutionBoxes", "known", "()LSolutionBoxes$Solver;"⟩, 10), (⟨"SolutionBoxes", "requireLetter", "(I)V"⟩, 10), (⟨"SolutionBoxesModel", "isPower", "(I)Z"⟩, 31), (⟨"SolutionBoxesModel", "lookForFree", "()V"⟩, 31), (⟨"SolutionBoxesModel", "hasOne", "()Z"⟩, 31), (⟨"SolutionBoxesModel", "isBasis", "()Z"⟩, 31), (⟨"SolutionBoxesModel", "meets", "(II)Z"⟩, 31), (⟨"SolutionBoxesModel", "empty", "()V"⟩, 31), (⟨"SolutionBoxesModel", "takeOff", "(III)V"⟩, 31)]
theorem lw_r2 : ∀ q ∈ lw_privs_2, lw_okq q := List.forall_mem_cons.mpr ⟨lw_p16, List.forall_mem_cons.mpr ⟨lw_p17, List.forall_mem_cons.mpr ⟨lw_p18, List.forall_mem_cons.mpr ⟨lw_p19, List.forall_mem_cons.mpr ⟨lw_p20, List.forall_mem_cons.mpr ⟨lw_p21, List.forall_mem_cons.mpr ⟨lw_p22, List.forall_mem_cons.mpr ⟨lw_p23, List.forall_mem_cons.mpr ⟨lw_p24, List.forall_mem_cons.mpr ⟨lw_p25, List.forall_mem_cons.mpr ⟨lw_p26, List.forall_mem_cons.mpr ⟨lw_p27, List.forall_mem_cons.mpr ⟨lw_p28, List.forall_mem_cons.mpr ⟨lw_p29, List.forall_mem_cons.mpr ⟨lw_p30, List.forall_mem_cons.mpr ⟨lw_p31, fun _ h => absurd h List.not_mem_nil⟩⟩⟩⟩⟩⟩⟩⟩⟩⟩⟩⟩⟩⟩⟩⟩
theorem lw_p32 : lw_okq (⟨"SolutionBoxesModel", "reduce", "()V"⟩, 31) := ⟨⟨by decide +kernel, by decide +kernel⟩, List.mem_of_getElem? (i := 798) (by decide +kernel), List.mem_of_getElem? (i := 992) (by decide +kernel), List.mem_of_getElem? (i := 993) (by decide +kernel)⟩
theorem lw_p33 : lw_okq (⟨"SolutionBoxesModel", "divider", "(III)I"⟩, 31) := ⟨⟨by decide +kernel, by decide +kernel⟩, List.mem_of_getElem? (i := 798) (by decide +kernel), List.mem_of_getElem? (i := 996) (by decide +kernel), List.mem_of_getElem? (i := 997) (by decide +kernel)⟩
theorem lw_p34 : lw_okq (⟨"SolutionBoxesModel", "isFinite", "()Z"⟩, 31) := ⟨⟨by decide +kernel, by decide +kernel⟩, List.mem_of_getElem? (i := 798) (by decide +kernel), List.mem_of_getElem? (i := 1000) (by decide +kernel), List.mem_of_getElem? (i := 1001) (by decide +kernel)⟩
theorem lw_p35 : lw_okq (⟨"SolutionBoxesModel", "findLeft", "()Z"⟩, 31) := ⟨⟨by decide +kernel, by decide +kernel⟩, List.mem_of_getElem? (i := 798) (by decide +kernel), List.mem_of_getElem? (i := 1004) (by decide +kernel), List.mem_of_getElem? (i := 1005) (by decide +kernel)⟩
theorem lw_p36 : lw_okq (⟨"SolutionBoxesModel", "makeTables", "()V"⟩, 31) := ⟨⟨by decide +kernel, by decide +kernel⟩, List.mem_of_getElem? (i := 798) (by decide +kernel), List.mem_of_getElem? (i := 1008) (by decide +kernel), List.mem_of_getElem? (i := 1009) (by decide +kernel)⟩
theorem lw_p37 : lw_okq (⟨"SolutionBoxesModel", "findLeast", "(I)V"⟩, 31) := ⟨⟨by decide +kernel, by decide +kernel⟩, List.mem_of_getElem? (i := 798) (by decide +kernel), List.mem_of_getElem? (i := 1012) (by decide +kernel), List.mem_of_getElem? (i := 1013) (by decide +kernel)⟩
theorem lw_p38 : lw_okq (⟨"SolutionBoxesModel", "takeRow", "(IIII)V"⟩, 31) := ⟨⟨by decide +kernel, by decide +kernel⟩, List.mem_of_getElem? (i := 798) (by decide +kernel), List.mem_of_getElem? (i := 1016) (by decide +kernel), List.mem_of_getElem? (i := 1017) (by decide +kernel)⟩
theorem lw_p39 : lw_okq (⟨"SolutionBoxesModel", "multiply", "(I)V"⟩, 31) := ⟨⟨by decide +kernel, by decide +kernel⟩, List.mem_of_getElem? (i := 798) (by decide +kernel), List.mem_of_getElem? (i := 1020) (by decide +kernel), List.mem_of_getElem? (i := 1021) (by decide +kernel)⟩
theorem lw_p40 : lw_okq (⟨"SolutionBoxesModel", "findRoots", "(I)V"⟩, 31) := ⟨⟨by decide +kernel, by decide +kernel⟩, List.mem_of_getElem? (i := 798) (by decide +kernel), List.mem_of_getElem? (i := 1027) (by decide +kernel), List.mem_of_getElem? (i := 1028) (by decide +kernel)⟩
theorem lw_p41 : lw_okq (⟨"SolutionBoxesModel", "leastAt", "(II)I"⟩, 31) := ⟨⟨by decide +kernel, by decide +kernel⟩, List.mem_of_getElem? (i := 798) (by decide +kernel), List.mem_of_getElem? (i := 1031) (by decide +kernel), List.mem_of_getElem? (i := 1032) (by decide +kernel)⟩
theorem lw_p42 : lw_okq (⟨"SolutionBoxesModel", "findZeros", "()V"⟩, 31) := ⟨⟨by decide +kernel, by decide +kernel⟩, List.mem_of_getElem? (i := 798) (by decide +kernel), List.mem_of_getElem? (i := 1035) (by decide +kernel), List.mem_of_getElem? (i := 1036) (by decide +kernel)⟩
theorem lw_p43 : lw_okq (⟨"SolutionBoxesModel", "rootOf", "(II)I"⟩, 31) := ⟨⟨by decide +kernel, by decide +kernel⟩, List.mem_of_getElem? (i := 798) (by decide +kernel), List.mem_of_getElem? (i := 1039) (by decide +kernel), List.mem_of_getElem? (i := 1040) (by decide +kernel)⟩
theorem lw_p44 : lw_okq (⟨"SolutionBoxesModel", "areAll", "(III)Z"⟩, 31) := ⟨⟨by decide +kernel, by decide +kernel⟩, List.mem_of_getElem? (i := 798) (by decide +kernel), List.mem_of_getElem? (i := 1043) (by decide +kernel), List.mem_of_getElem? (i := 1044) (by decide +kernel)⟩
theorem lw_p45 : lw_okq (⟨"SolutionBoxesModel", "countZeros", "()V"⟩, 31) := ⟨⟨by decide +kernel, by decide +kernel⟩, List.mem_of_getElem? (i := 798) (by decide +kernel), List.mem_of_getElem? (i := 1053) (by decide +kernel), List.mem_of_getElem? (i := 1054) (by decide +kernel)⟩
theorem lw_p46 : lw_okq (⟨"SolutionBoxesModel", "sixteenTimes", "(III)V"⟩, 31) := ⟨⟨by decide +kernel, by decide +kernel⟩, List.mem_of_getElem? (i := 798) (by decide +kernel), List.mem_of_getElem? (i := 1057) (by decide +kernel), List.mem_of_getElem? (i := 1058) (by decide +kernel)⟩
theorem lw_p47 : lw_okq (⟨"SolutionBoxesModel", "rank", "(I)I"⟩, 31) := ⟨⟨by decide +kernel, by decide +kernel⟩, List.mem_of_getElem? (i := 798) (by decide +kernel), List.mem_of_getElem? (i := 1061) (by decide +kernel), List.mem_of_getElem? (i := 1062) (by decide +kernel)⟩
def lw_privs_3 : List (MethodName × Nat) := [(⟨"SolutionBoxesModel", "reduce", "()V"⟩, 31), (⟨"SolutionBoxesModel", "divider", "(III)I"⟩, 31), (⟨"SolutionBoxesModel", "isFinite", "()Z"⟩, 31), (⟨"SolutionBoxesModel", "findLeft", "()Z"⟩, 31), (⟨"SolutionBoxesModel", "makeTables", "()V"⟩, 31), (⟨"SolutionBoxesModel", "findLeast", "(I)V"⟩, 31), (⟨"SolutionBoxesModel", "takeRow", "(IIII)V"⟩, 31), (⟨"SolutionBoxesModel", "multiply", "(I)V"⟩, 31), (⟨"SolutionBoxesModel", "findRoots", "(I)V"⟩, 31), (⟨"SolutionBoxesModel", "leastAt", "(II)I"⟩, 31), (⟨"SolutionBoxesModel", "findZeros", "()V"⟩, 31), (⟨"SolutionBoxesModel", "rootOf", "(II)I"⟩, 31), (⟨"SolutionBoxesModel", "areAll", "(III)Z"⟩, 31), (⟨"SolutionBoxesModel", "countZeros", "()V"⟩, 31), (⟨"SolutionBoxesModel", "sixteenTimes", "(III)V"⟩, 31), (⟨"SolutionBoxesModel", "rank", "(I)I"⟩, 31)]
theorem lw_r3 : ∀ q ∈ lw_privs_3, lw_okq q := List.forall_mem_cons.mpr ⟨lw_p32, List.forall_mem_cons.mpr ⟨lw_p33, List.forall_mem_cons.mpr ⟨lw_p34, List.forall_mem_cons.mpr ⟨lw_p35, List.forall_mem_cons.mpr ⟨lw_p36, List.forall_mem_cons.mpr ⟨lw_p37, List.forall_mem_cons.mpr ⟨lw_p38, List.forall_mem_cons.mpr ⟨lw_p39, List.forall_mem_cons.mpr ⟨lw_p40, List.forall_mem_cons.mpr ⟨lw_p41, List.forall_mem_cons.mpr ⟨lw_p42, List.forall_mem_cons.mpr ⟨lw_p43, List.forall_mem_cons.mpr ⟨lw_p44, List.forall_mem_cons.mpr ⟨lw_p45, List.forall_mem_cons.mpr ⟨lw_p46, List.forall_mem_cons.mpr ⟨lw_p47, fun _ h => absurd h List.not_mem_nil⟩⟩⟩⟩⟩⟩⟩⟩⟩⟩⟩⟩⟩⟩⟩⟩
theorem lw_p48 : lw_okq (⟨"SolutionBoxesModel", "isZero", "(I)Z"⟩, 31) := ⟨⟨by decide +kernel, by decide +kernel⟩, List.mem_of_getElem? (i := 798) (by decide +kernel), List.mem_of_getElem? (i := 1080) (by decide +kernel), List.mem_of_getElem? (i := 1081) (by decide +kernel)⟩
theorem lw_p49 : lw_okq (⟨"SolutionBoxesModel", "isLetter", "(I)Z"⟩, 31) := ⟨⟨by decide +kernel, by decide +kernel⟩, List.mem_of_getElem? (i := 798) (by decide +kernel), List.mem_of_getElem? (i := 1084) (by decide +kernel), List.mem_of_getElem? (i := 1085) (by decide +kernel)⟩
def lw_privs_4 : List (MethodName × Nat) := [(⟨"SolutionBoxesModel", "isZero", "(I)Z"⟩, 31), (⟨"SolutionBoxesModel", "isLetter", "(I)Z"⟩, 31)]
theorem lw_r4 : ∀ q ∈ lw_privs_4, lw_okq q := List.forall_mem_cons.mpr ⟨lw_p48, List.forall_mem_cons.mpr ⟨lw_p49, fun _ h => absurd h List.not_mem_nil⟩⟩
def lw_privs : List (MethodName × Nat) := lw_privs_1 ++ (lw_privs_2 ++ (lw_privs_3 ++ (lw_privs_4)))
def lw_tbl : List Cond := k2_sels lw_privs ++ tables_1
theorem lw_privs_ok : ∀ q ∈ lw_privs, lw_okq q := by
  show ∀ q ∈ lw_privs_1 ++ (lw_privs_2 ++ (lw_privs_3 ++ (lw_privs_4))), lw_okq q
  exact List.forall_mem_append.mpr ⟨lw_r1, List.forall_mem_append.mpr ⟨lw_r2, List.forall_mem_append.mpr ⟨lw_r3, lw_r4⟩⟩⟩
/-- the words that calls may hand on, of all the tables' -/
def gw : List Cond := lw_tbl.filter goodWord
theorem gw_of {w : Cond} (h : w ∈ lw_tbl) (g : goodWord w = true) : w ∈ gw := List.mem_filter.mpr ⟨h, g⟩
theorem gw_in {w : Cond} (h : w ∈ gw) : w ∈ lw_tbl := (List.mem_filter.mp h).1
theorem gw_s {w : Cond} (h : w ∈ k2_sels lw_privs) : w ∈ lw_tbl := List.mem_append_left _ h
theorem gw_1 {w : Cond} (h : w ∈ tables_1_1) : w ∈ lw_tbl := by
  show w ∈ k2_sels lw_privs ++ (tables_1_1 ++ (tables_1_2 ++ (tables_1_3 ++ (tables_1_4 ++ (tables_1_5)))))
  exact List.mem_append_right _ (List.mem_append_left _ h)
theorem gw_2 {w : Cond} (h : w ∈ tables_1_2) : w ∈ lw_tbl := by
  show w ∈ k2_sels lw_privs ++ (tables_1_1 ++ (tables_1_2 ++ (tables_1_3 ++ (tables_1_4 ++ (tables_1_5)))))
  exact List.mem_append_right _ (List.mem_append_right _ (List.mem_append_left _ h))
theorem gw_3 {w : Cond} (h : w ∈ tables_1_3) : w ∈ lw_tbl := by
  show w ∈ k2_sels lw_privs ++ (tables_1_1 ++ (tables_1_2 ++ (tables_1_3 ++ (tables_1_4 ++ (tables_1_5)))))
  exact List.mem_append_right _ (List.mem_append_right _ (List.mem_append_right _ (List.mem_append_left _ h)))
theorem gw_4 {w : Cond} (h : w ∈ tables_1_4) : w ∈ lw_tbl := by
  show w ∈ k2_sels lw_privs ++ (tables_1_1 ++ (tables_1_2 ++ (tables_1_3 ++ (tables_1_4 ++ (tables_1_5)))))
  exact List.mem_append_right _ (List.mem_append_right _ (List.mem_append_right _ (List.mem_append_right _ (List.mem_append_left _ h))))
theorem gw_5 {w : Cond} (h : w ∈ tables_1_5) : w ∈ lw_tbl := by
  show w ∈ k2_sels lw_privs ++ (tables_1_1 ++ (tables_1_2 ++ (tables_1_3 ++ (tables_1_4 ++ (tables_1_5)))))
  exact List.mem_append_right _ (List.mem_append_right _ (List.mem_append_right _ (List.mem_append_right _ (List.mem_append_right _ h))))
/-- a method's words: its code, then all that calls may hand on -/
def wd (y : MethodName) (b : ByteArray) (n : Nat) (r : Option FieldType) : List Cond := Cond.code y b n r :: gw
theorem wd_gw {y : MethodName} {b : ByteArray} {n : Nat} {r : Option FieldType} : GoodIn (wd y b n r) gw := fun w h => ⟨List.mem_cons_of_mem _ h, good_of_word (List.mem_filter.mp h).2⟩
theorem wd_good {y y' : MethodName} {b b' : ByteArray} {n n' : Nat} {r r' : Option FieldType} (h : Cond.code y' b' n' r' ∈ gw) : GoodIn (wd y b n r) (wd y' b' n' r') := fun w hw => (List.mem_cons.mp hw).elim (fun e => by rw [e]; exact wd_gw _ h) (fun h => wd_gw w h)
theorem wd_goodG {y' : MethodName} {b' : ByteArray} {n' : Nat} {r' : Option FieldType} (h : Cond.code y' b' n' r' ∈ gw) : GoodIn gw (wd y' b' n' r') := fun w hw => (List.mem_cons.mp hw).elim (fun e => by rw [e]; exact ⟨h, good_of_word (List.mem_filter.mp h).2⟩) (fun h => ⟨h, good_of_word (List.mem_filter.mp h).2⟩)
theorem wd_goodL {y' : MethodName} {b' : ByteArray} {n' : Nat} {r' : Option FieldType} (h : Cond.code y' b' n' r' ∈ gw) : GoodIn lw_tbl (wd y' b' n' r') := fun w hw => (List.mem_cons.mp hw).elim (fun e => by rw [e]; exact ⟨gw_in h, good_of_word (List.mem_filter.mp h).2⟩) (fun h => ⟨gw_in h, good_of_word (List.mem_filter.mp h).2⟩)
theorem q_0 : (Jvm.Cond.initialized "SolutionBoxesLaw") ∈ gw := gw_of (gw_1 (List.mem_of_getElem? (i := 0) rfl)) rfl
theorem q_1 : (Jvm.Cond.initialized "SolutionBoxes") ∈ gw := gw_of (gw_1 (List.mem_of_getElem? (i := 1) rfl)) rfl
theorem q_2 : (Jvm.Cond.initialized "SolutionBoxes$TakenList") ∈ gw := gw_of (gw_1 (List.mem_of_getElem? (i := 2) rfl)) rfl
theorem q_3 : (Jvm.Cond.initialized "SolutionBoxes$Polynomial") ∈ gw := gw_of (gw_1 (List.mem_of_getElem? (i := 3) rfl)) rfl
theorem q_4 : (Jvm.Cond.initialized "java/lang/Math") ∈ gw := gw_of (gw_1 (List.mem_of_getElem? (i := 4) rfl)) rfl
theorem q_5 : (Jvm.Cond.initialized "SolutionBoxesModel") ∈ gw := gw_of (gw_1 (List.mem_of_getElem? (i := 5) rfl)) rfl
theorem q_6 : (Jvm.Cond.initialized "java/lang/Throwable") ∈ gw := gw_of (gw_1 (List.mem_of_getElem? (i := 6) rfl)) rfl
theorem q_7 : (Jvm.Cond.initialized "java/lang/Exception") ∈ gw := gw_of (gw_1 (List.mem_of_getElem? (i := 7) rfl)) rfl
theorem q_8 : (Jvm.Cond.initialized "java/lang/RuntimeException") ∈ gw := gw_of (gw_1 (List.mem_of_getElem? (i := 8) rfl)) rfl
theorem q_9 : (Jvm.Cond.initialized "java/lang/IllegalStateException") ∈ gw := gw_of (gw_1 (List.mem_of_getElem? (i := 9) rfl)) rfl
theorem q_10 : (Jvm.Cond.initialized "java/lang/IndexOutOfBoundsException") ∈ gw := gw_of (gw_1 (List.mem_of_getElem? (i := 10) rfl)) rfl
theorem q_11 : (Jvm.Cond.initialized "SolutionBoxes$Power") ∈ gw := gw_of (gw_1 (List.mem_of_getElem? (i := 11) rfl)) rfl
theorem q_12 : (Jvm.Cond.initialized "java/lang/IllegalArgumentException") ∈ gw := gw_of (gw_1 (List.mem_of_getElem? (i := 12) rfl)) rfl
theorem q_13 : (Jvm.Cond.initialized "java/lang/ArithmeticException") ∈ gw := gw_of (gw_1 (List.mem_of_getElem? (i := 13) rfl)) rfl
theorem q_14 : (Jvm.Cond.initialized "java/util/Arrays") ∈ gw := gw_of (gw_1 (List.mem_of_getElem? (i := 14) rfl)) rfl
theorem q_15 : (Jvm.Cond.initialized "java/lang/System") ∈ gw := gw_of (gw_1 (List.mem_of_getElem? (i := 15) rfl)) rfl
theorem q_16 : (Jvm.Cond.initialized "SolutionBoxes$Solver") ∈ gw := gw_of (gw_1 (List.mem_of_getElem? (i := 16) rfl)) rfl
theorem q_17 : (Jvm.Cond.initialized "SolutionBoxes$Roots") ∈ gw := gw_of (gw_1 (List.mem_of_getElem? (i := 17) rfl)) rfl
theorem q_18 : (Jvm.Cond.initialized "SolutionBoxes$OneLetter") ∈ gw := gw_of (gw_1 (List.mem_of_getElem? (i := 18) rfl)) rfl
theorem q_19 : (Jvm.Cond.initialized "SolutionBoxes$Point") ∈ gw := gw_of (gw_1 (List.mem_of_getElem? (i := 19) rfl)) rfl
theorem q_20 : (Jvm.Cond.initialized "SolutionBoxes$Reducer") ∈ gw := gw_of (gw_1 (List.mem_of_getElem? (i := 20) rfl)) rfl
theorem q_21 : (Jvm.Cond.initialized "SolutionBoxes$Quotient") ∈ gw := gw_of (gw_1 (List.mem_of_getElem? (i := 21) rfl)) rfl
theorem q_22 : (Jvm.Cond.initialized "SolutionBoxes$Span") ∈ gw := gw_of (gw_1 (List.mem_of_getElem? (i := 22) rfl)) rfl
theorem q_23 : (Jvm.Cond.classLink "SolutionBoxesLaw" (8 : Nat) "SolutionBoxes") ∈ gw := gw_of (gw_1 (List.mem_of_getElem? (i := 23) rfl)) rfl
theorem q_24 : (Jvm.Cond.instantiable "SolutionBoxes" (10 : Nat)) ∈ gw := gw_of (gw_1 (List.mem_of_getElem? (i := 24) rfl)) rfl
theorem q_25 : (Jvm.Cond.methodLink "SolutionBoxesLaw" (55 : Nat) ({ cls := "SolutionBoxes", name := "<init>", desc := "(I)V" } : Jvm.MethodName)) ∈ gw := gw_of (gw_1 (List.mem_of_getElem? (i := 25) rfl)) rfl
theorem q_26 : (Jvm.Cond.instanceMethod ({ cls := "SolutionBoxes", name := "<init>", desc := "(I)V" } : Jvm.MethodName)) ∈ gw := gw_of (gw_1 (List.mem_of_getElem? (i := 26) rfl)) rfl
theorem q_27 : (Jvm.Cond.code ({ cls := "SolutionBoxes", name := "<init>", desc := "(I)V" } : Jvm.MethodName) prog_1_method_1_code (3 : Nat) (Option.none : Option Jvm.ClassFile.FieldType)) ∈ gw := gw_of (gw_1 (List.mem_of_getElem? (i := 27) rfl)) rfl
theorem q_28 : (Jvm.Cond.methodLink "SolutionBoxes" (1 : Nat) ({ cls := "java/lang/Object", name := "<init>", desc := "()V" } : Jvm.MethodName)) ∈ gw := gw_of (gw_1 (List.mem_of_getElem? (i := 28) rfl)) rfl
theorem q_29 : (Jvm.Cond.instanceMethod ({ cls := "java/lang/Object", name := "<init>", desc := "()V" } : Jvm.MethodName)) ∈ gw := gw_of (gw_1 (List.mem_of_getElem? (i := 29) rfl)) rfl
theorem q_30 : (Jvm.Cond.code ({ cls := "java/lang/Object", name := "<init>", desc := "()V" } : Jvm.MethodName) object_method_1_code (1 : Nat) (Option.none : Option Jvm.ClassFile.FieldType)) ∈ gw := gw_of (gw_1 (List.mem_of_getElem? (i := 30) rfl)) rfl
theorem q_31 : (Jvm.Cond.classLink "SolutionBoxes" (9 : Nat) "SolutionBoxes$Polynomial") ∈ gw := gw_of (gw_1 (List.mem_of_getElem? (i := 31) rfl)) rfl
theorem q_32 : (Jvm.Cond.arrayOver (Jvm.ClassFile.FieldType.object "SolutionBoxes$Polynomial")) ∈ lw_tbl := gw_1 (List.mem_of_getElem? (i := 32) rfl)
theorem q_33 : (Jvm.Cond.classLink "SolutionBoxes" (15 : Nat) "SolutionBoxes$TakenList") ∈ gw := gw_of (gw_1 (List.mem_of_getElem? (i := 33) rfl)) rfl
theorem q_34 : (Jvm.Cond.instantiable "SolutionBoxes$TakenList" (3 : Nat)) ∈ gw := gw_of (gw_1 (List.mem_of_getElem? (i := 34) rfl)) rfl
theorem q_35 : (Jvm.Cond.methodLink "SolutionBoxes" (17 : Nat) ({ cls := "SolutionBoxes$TakenList", name := "<init>", desc := "()V" } : Jvm.MethodName)) ∈ gw := gw_of (gw_1 (List.mem_of_getElem? (i := 35) rfl)) rfl
theorem q_36 : (Jvm.Cond.instanceMethod ({ cls := "SolutionBoxes$TakenList", name := "<init>", desc := "()V" } : Jvm.MethodName)) ∈ gw := gw_of (gw_1 (List.mem_of_getElem? (i := 36) rfl)) rfl
theorem q_37 : (Jvm.Cond.code ({ cls := "SolutionBoxes$TakenList", name := "<init>", desc := "()V" } : Jvm.MethodName) prog_11_method_1_code (2 : Nat) (Option.none : Option Jvm.ClassFile.FieldType)) ∈ gw := gw_of (gw_1 (List.mem_of_getElem? (i := 37) rfl)) rfl
theorem q_38 : (Jvm.Cond.methodLink "SolutionBoxes$TakenList" (3 : Nat) ({ cls := "java/lang/Object", name := "<init>", desc := "()V" } : Jvm.MethodName)) ∈ gw := gw_of (gw_1 (List.mem_of_getElem? (i := 38) rfl)) rfl
theorem q_39 : (Jvm.Cond.classLink "SolutionBoxes$TakenList" (9 : Nat) "SolutionBoxes$Polynomial") ∈ gw := gw_of (gw_1 (List.mem_of_getElem? (i := 39) rfl)) rfl
theorem q_40 : (Jvm.Cond.instantiable "SolutionBoxes$Polynomial" (3 : Nat)) ∈ gw := gw_of (gw_1 (List.mem_of_getElem? (i := 40) rfl)) rfl
theorem q_41 : (Jvm.Cond.methodLinkNest "SolutionBoxes$TakenList" (21 : Nat) ({ cls := "SolutionBoxes$Polynomial", name := "<init>", desc := "()V" } : Jvm.MethodName) "SolutionBoxes") ∈ lw_tbl := gw_1 (List.mem_of_getElem? (i := 41) rfl)
theorem q_42 : (Jvm.Cond.instanceMethod ({ cls := "SolutionBoxes$Polynomial", name := "<init>", desc := "()V" } : Jvm.MethodName)) ∈ gw := gw_of (gw_1 (List.mem_of_getElem? (i := 42) rfl)) rfl
theorem q_43 : (Jvm.Cond.code ({ cls := "SolutionBoxes$Polynomial", name := "<init>", desc := "()V" } : Jvm.MethodName) prog_4_method_1_code (1 : Nat) (Option.none : Option Jvm.ClassFile.FieldType)) ∈ gw := gw_of (gw_1 (List.mem_of_getElem? (i := 43) rfl)) rfl
theorem q_44 : (Jvm.Cond.methodLink "SolutionBoxes$Polynomial" (3 : Nat) ({ cls := "java/lang/Object", name := "<init>", desc := "()V" } : Jvm.MethodName)) ∈ gw := gw_of (gw_1 (List.mem_of_getElem? (i := 44) rfl)) rfl
theorem q_45 : (Jvm.Cond.fieldLink "SolutionBoxes$Polynomial" (9 : Nat) "SolutionBoxes$Polynomial" "keys" "[I") ∈ gw := gw_of (gw_1 (List.mem_of_getElem? (i := 45) rfl)) rfl
theorem q_46 : (Jvm.Cond.fieldLinkNest "SolutionBoxes$TakenList" (31 : Nat) "SolutionBoxes$Polynomial" "keys" "[I" "SolutionBoxes") ∈ lw_tbl := gw_1 (List.mem_of_getElem? (i := 46) rfl)
theorem q_47 : (Jvm.Cond.fieldLinkNest "SolutionBoxes$Reducer" (80 : Nat) "SolutionBoxes$Polynomial" "keys" "[I" "SolutionBoxes") ∈ lw_tbl := gw_1 (List.mem_of_getElem? (i := 47) rfl)
theorem q_48 : (Jvm.Cond.fieldLink "SolutionBoxes$Polynomial" (15 : Nat) "SolutionBoxes$Polynomial" "numbers" "[I") ∈ gw := gw_of (gw_1 (List.mem_of_getElem? (i := 48) rfl)) rfl
theorem q_49 : (Jvm.Cond.fieldLinkNest "SolutionBoxes$Reducer" (81 : Nat) "SolutionBoxes$Polynomial" "numbers" "[I" "SolutionBoxes") ∈ lw_tbl := gw_1 (List.mem_of_getElem? (i := 49) rfl)
theorem q_50 : (Jvm.Cond.fieldLinkNest "SolutionBoxes$TakenList" (22 : Nat) "SolutionBoxes$Polynomial" "size" "I" "SolutionBoxes") ∈ lw_tbl := gw_1 (List.mem_of_getElem? (i := 50) rfl)
theorem q_51 : (Jvm.Cond.fieldLink "SolutionBoxes$Polynomial" (18 : Nat) "SolutionBoxes$Polynomial" "size" "I") ∈ gw := gw_of (gw_1 (List.mem_of_getElem? (i := 51) rfl)) rfl
theorem q_52 : (Jvm.Cond.fieldLinkNest "SolutionBoxes$Reducer" (77 : Nat) "SolutionBoxes$Polynomial" "size" "I" "SolutionBoxes") ∈ lw_tbl := gw_1 (List.mem_of_getElem? (i := 52) rfl)
theorem q_53 : (Jvm.Cond.lays "SolutionBoxes$Polynomial" "SolutionBoxes$Polynomial" "keys" "[I") ∈ gw := gw_of (gw_1 (List.mem_of_getElem? (i := 53) rfl)) rfl
theorem q_55 : (Jvm.Cond.lays "SolutionBoxes$Polynomial" "SolutionBoxes$Polynomial" "numbers" "[I") ∈ gw := gw_of (gw_1 (List.mem_of_getElem? (i := 55) rfl)) rfl
theorem q_57 : (Jvm.Cond.lays "SolutionBoxes$Polynomial" "SolutionBoxes$Polynomial" "size" "I") ∈ gw := gw_of (gw_1 (List.mem_of_getElem? (i := 57) rfl)) rfl
theorem q_59 : (Jvm.Cond.superclass "SolutionBoxes$Polynomial" "java/lang/Object") ∈ lw_tbl := gw_1 (List.mem_of_getElem? (i := 59) rfl)
theorem q_60 : (Jvm.Cond.arrayClass Jvm.ClassFile.FieldType.int) ∈ gw := gw_of (gw_1 (List.mem_of_getElem? (i := 60) rfl)) rfl
theorem q_61 : (Jvm.Cond.fieldLink "SolutionBoxes$TakenList" (11 : Nat) "SolutionBoxes$TakenList" "members" "[LSolutionBoxes$Polynomial;") ∈ gw := gw_of (gw_1 (List.mem_of_getElem? (i := 61) rfl)) rfl
theorem q_62 : (Jvm.Cond.fieldLinkNest "SolutionBoxes$Reducer" (45 : Nat) "SolutionBoxes$TakenList" "members" "[LSolutionBoxes$Polynomial;" "SolutionBoxes") ∈ lw_tbl := gw_1 (List.mem_of_getElem? (i := 62) rfl)
theorem q_63 : (Jvm.Cond.fieldLink "SolutionBoxes$TakenList" (17 : Nat) "SolutionBoxes$TakenList" "heads" "[I") ∈ gw := gw_of (gw_1 (List.mem_of_getElem? (i := 63) rfl)) rfl
theorem q_64 : (Jvm.Cond.fieldLinkNest "SolutionBoxes$Reducer" (30 : Nat) "SolutionBoxes$TakenList" "heads" "[I" "SolutionBoxes") ∈ lw_tbl := gw_1 (List.mem_of_getElem? (i := 64) rfl)
theorem q_65 : (Jvm.Cond.fieldLinkNest "SolutionBoxes$Reducer" (24 : Nat) "SolutionBoxes$TakenList" "size" "I" "SolutionBoxes") ∈ lw_tbl := gw_1 (List.mem_of_getElem? (i := 65) rfl)
theorem q_66 : (Jvm.Cond.fieldLink "SolutionBoxes$TakenList" (26 : Nat) "SolutionBoxes$TakenList" "size" "I") ∈ gw := gw_of (gw_1 (List.mem_of_getElem? (i := 66) rfl)) rfl
theorem q_67 : (Jvm.Cond.fieldLinkNest "SolutionBoxes" (169 : Nat) "SolutionBoxes$TakenList" "size" "I" "SolutionBoxes") ∈ lw_tbl := gw_1 (List.mem_of_getElem? (i := 67) rfl)
theorem q_68 : (Jvm.Cond.laysFinal "SolutionBoxes$TakenList" "SolutionBoxes$TakenList" "members" "[LSolutionBoxes$Polynomial;") ∈ gw := gw_of (gw_1 (List.mem_of_getElem? (i := 68) rfl)) rfl
theorem q_70 : (Jvm.Cond.laysFinal "SolutionBoxes$TakenList" "SolutionBoxes$TakenList" "heads" "[I") ∈ gw := gw_of (gw_1 (List.mem_of_getElem? (i := 70) rfl)) rfl
theorem q_72 : (Jvm.Cond.lays "SolutionBoxes$TakenList" "SolutionBoxes$TakenList" "size" "I") ∈ gw := gw_of (gw_1 (List.mem_of_getElem? (i := 72) rfl)) rfl
theorem q_74 : (Jvm.Cond.superclass "SolutionBoxes$TakenList" "java/lang/Object") ∈ lw_tbl := gw_1 (List.mem_of_getElem? (i := 74) rfl)
theorem q_75 : (Jvm.Cond.methodLink "SolutionBoxes" (26 : Nat) ({ cls := "java/lang/Math", name := "min", desc := "(II)I" } : Jvm.MethodName)) ∈ gw := gw_of (gw_1 (List.mem_of_getElem? (i := 75) rfl)) rfl
theorem q_76 : (Jvm.Cond.static ({ cls := "java/lang/Math", name := "min", desc := "(II)I" } : Jvm.MethodName)) ∈ gw := gw_of (gw_1 (List.mem_of_getElem? (i := 76) rfl)) rfl
theorem q_77 : (Jvm.Cond.code ({ cls := "java/lang/Math", name := "min", desc := "(II)I" } : Jvm.MethodName) prog_20_method_69_code (2 : Nat) (Option.some Jvm.ClassFile.FieldType.int)) ∈ gw := gw_of (gw_1 (List.mem_of_getElem? (i := 77) rfl)) rfl
theorem q_78 : (Jvm.Cond.methodLink "SolutionBoxes" (32 : Nat) ({ cls := "java/lang/Math", name := "max", desc := "(II)I" } : Jvm.MethodName)) ∈ gw := gw_of (gw_1 (List.mem_of_getElem? (i := 78) rfl)) rfl
theorem q_79 : (Jvm.Cond.static ({ cls := "java/lang/Math", name := "max", desc := "(II)I" } : Jvm.MethodName)) ∈ gw := gw_of (gw_1 (List.mem_of_getElem? (i := 79) rfl)) rfl
theorem q_80 : (Jvm.Cond.code ({ cls := "java/lang/Math", name := "max", desc := "(II)I" } : Jvm.MethodName) prog_20_method_65_code (2 : Nat) (Option.some Jvm.ClassFile.FieldType.int)) ∈ gw := gw_of (gw_1 (List.mem_of_getElem? (i := 80) rfl)) rfl
theorem q_81 : (Jvm.Cond.methodLinkNest "SolutionBoxes" (39 : Nat) ({ cls := "SolutionBoxes$Polynomial", name := "<init>", desc := "()V" } : Jvm.MethodName) "SolutionBoxes") ∈ lw_tbl := gw_1 (List.mem_of_getElem? (i := 81) rfl)
theorem q_82 : (Jvm.Cond.fieldLink "SolutionBoxes" (35 : Nat) "SolutionBoxes" "letters" "I") ∈ gw := gw_of (gw_1 (List.mem_of_getElem? (i := 82) rfl)) rfl
theorem q_83 : (Jvm.Cond.fieldLink "SolutionBoxes" (11 : Nat) "SolutionBoxes" "polynomials" "[LSolutionBoxes$Polynomial;") ∈ gw := gw_of (gw_1 (List.mem_of_getElem? (i := 83) rfl)) rfl
theorem q_84 : (Jvm.Cond.fieldLink "SolutionBoxes" (18 : Nat) "SolutionBoxes" "list" "LSolutionBoxes$TakenList;") ∈ gw := gw_of (gw_1 (List.mem_of_getElem? (i := 84) rfl)) rfl
theorem q_85 : (Jvm.Cond.fieldLink "SolutionBoxes" (22 : Nat) "SolutionBoxes" "freeLetters" "[I") ∈ gw := gw_of (gw_1 (List.mem_of_getElem? (i := 85) rfl)) rfl
theorem q_86 : (Jvm.Cond.fieldLink "SolutionBoxes" (40 : Nat) "SolutionBoxes" "given" "I") ∈ gw := gw_of (gw_1 (List.mem_of_getElem? (i := 86) rfl)) rfl
theorem q_87 : (Jvm.Cond.fieldLink "SolutionBoxes" (84 : Nat) "SolutionBoxes" "taken" "I") ∈ gw := gw_of (gw_1 (List.mem_of_getElem? (i := 87) rfl)) rfl
theorem q_88 : (Jvm.Cond.fieldLink "SolutionBoxes" (166 : Nat) "SolutionBoxes" "freeCount" "I") ∈ gw := gw_of (gw_1 (List.mem_of_getElem? (i := 88) rfl)) rfl
theorem q_89 : (Jvm.Cond.fieldLink "SolutionBoxes" (91 : Nat) "SolutionBoxes" "answered" "Z") ∈ gw := gw_of (gw_1 (List.mem_of_getElem? (i := 89) rfl)) rfl
theorem q_90 : (Jvm.Cond.fieldLink "SolutionBoxes" (111 : Nat) "SolutionBoxes" "answer" "I") ∈ gw := gw_of (gw_1 (List.mem_of_getElem? (i := 90) rfl)) rfl
theorem q_91 : (Jvm.Cond.fieldLink "SolutionBoxes" (95 : Nat) "SolutionBoxes" "solver" "LSolutionBoxes$Solver;") ∈ gw := gw_of (gw_1 (List.mem_of_getElem? (i := 91) rfl)) rfl
theorem q_92 : (Jvm.Cond.laysFinal "SolutionBoxes" "SolutionBoxes" "letters" "I") ∈ gw := gw_of (gw_1 (List.mem_of_getElem? (i := 92) rfl)) rfl
theorem q_94 : (Jvm.Cond.laysFinal "SolutionBoxes" "SolutionBoxes" "polynomials" "[LSolutionBoxes$Polynomial;") ∈ gw := gw_of (gw_1 (List.mem_of_getElem? (i := 94) rfl)) rfl
theorem q_96 : (Jvm.Cond.laysFinal "SolutionBoxes" "SolutionBoxes" "list" "LSolutionBoxes$TakenList;") ∈ gw := gw_of (gw_1 (List.mem_of_getElem? (i := 96) rfl)) rfl
theorem q_98 : (Jvm.Cond.laysFinal "SolutionBoxes" "SolutionBoxes" "freeLetters" "[I") ∈ gw := gw_of (gw_1 (List.mem_of_getElem? (i := 98) rfl)) rfl
theorem q_100 : (Jvm.Cond.lays "SolutionBoxes" "SolutionBoxes" "given" "I") ∈ gw := gw_of (gw_1 (List.mem_of_getElem? (i := 100) rfl)) rfl
theorem q_102 : (Jvm.Cond.lays "SolutionBoxes" "SolutionBoxes" "taken" "I") ∈ gw := gw_of (gw_1 (List.mem_of_getElem? (i := 102) rfl)) rfl
theorem q_104 : (Jvm.Cond.lays "SolutionBoxes" "SolutionBoxes" "freeCount" "I") ∈ gw := gw_of (gw_1 (List.mem_of_getElem? (i := 104) rfl)) rfl
theorem q_106 : (Jvm.Cond.lays "SolutionBoxes" "SolutionBoxes" "answered" "Z") ∈ gw := gw_of (gw_1 (List.mem_of_getElem? (i := 106) rfl)) rfl
theorem q_108 : (Jvm.Cond.lays "SolutionBoxes" "SolutionBoxes" "answer" "I") ∈ gw := gw_of (gw_1 (List.mem_of_getElem? (i := 108) rfl)) rfl
theorem q_110 : (Jvm.Cond.lays "SolutionBoxes" "SolutionBoxes" "solver" "LSolutionBoxes$Solver;") ∈ gw := gw_of (gw_1 (List.mem_of_getElem? (i := 110) rfl)) rfl
theorem q_112 : (Jvm.Cond.superclass "SolutionBoxes" "java/lang/Object") ∈ lw_tbl := gw_1 (List.mem_of_getElem? (i := 112) rfl)
theorem q_113 : (Jvm.Cond.methodLink "SolutionBoxesLaw" (78 : Nat) ({ cls := "SolutionBoxes", name := "run", desc := "()I" } : Jvm.MethodName)) ∈ gw := gw_of (gw_1 (List.mem_of_getElem? (i := 113) rfl)) rfl
theorem q_114 : (Jvm.Cond.instanceMethod ({ cls := "SolutionBoxes", name := "run", desc := "()I" } : Jvm.MethodName)) ∈ gw := gw_of (gw_1 (List.mem_of_getElem? (i := 114) rfl)) rfl
theorem q_115 : (Jvm.Cond.selects "SolutionBoxes" ({ cls := "SolutionBoxes", name := "run", desc := "()I" } : Jvm.MethodName) ({ cls := "SolutionBoxes", name := "run", desc := "()I" } : Jvm.MethodName)) ∈ gw := gw_of (gw_1 (List.mem_of_getElem? (i := 115) rfl)) rfl
theorem q_116 : (Jvm.Cond.code ({ cls := "SolutionBoxes", name := "run", desc := "()I" } : Jvm.MethodName) prog_1_method_5_code (1 : Nat) (Option.some Jvm.ClassFile.FieldType.int)) ∈ gw := gw_of (gw_1 (List.mem_of_getElem? (i := 116) rfl)) rfl
theorem q_117 : (Jvm.Cond.classLink "SolutionBoxes" (99 : Nat) "SolutionBoxes$Solver") ∈ gw := gw_of (gw_1 (List.mem_of_getElem? (i := 117) rfl)) rfl
theorem q_118 : (Jvm.Cond.instantiable "SolutionBoxes$Solver" (11 : Nat)) ∈ gw := gw_of (gw_1 (List.mem_of_getElem? (i := 118) rfl)) rfl
theorem q_119 : (Jvm.Cond.methodLink "SolutionBoxes" (101 : Nat) ({ cls := "SolutionBoxes$Solver", name := "<init>", desc := "(I)V" } : Jvm.MethodName)) ∈ gw := gw_of (gw_1 (List.mem_of_getElem? (i := 119) rfl)) rfl
theorem q_120 : (Jvm.Cond.instanceMethod ({ cls := "SolutionBoxes$Solver", name := "<init>", desc := "(I)V" } : Jvm.MethodName)) ∈ gw := gw_of (gw_1 (List.mem_of_getElem? (i := 120) rfl)) rfl
theorem q_121 : (Jvm.Cond.code ({ cls := "SolutionBoxes$Solver", name := "<init>", desc := "(I)V" } : Jvm.MethodName) prog_9_method_1_code (3 : Nat) (Option.none : Option Jvm.ClassFile.FieldType)) ∈ gw := gw_of (gw_1 (List.mem_of_getElem? (i := 121) rfl)) rfl
theorem q_122 : (Jvm.Cond.methodLink "SolutionBoxes$Solver" (3 : Nat) ({ cls := "java/lang/Object", name := "<init>", desc := "()V" } : Jvm.MethodName)) ∈ gw := gw_of (gw_1 (List.mem_of_getElem? (i := 122) rfl)) rfl
theorem q_123 : (Jvm.Cond.classLink "SolutionBoxes$Solver" (9 : Nat) "SolutionBoxes$Roots") ∈ gw := gw_of (gw_1 (List.mem_of_getElem? (i := 123) rfl)) rfl
theorem q_124 : (Jvm.Cond.instantiable "SolutionBoxes$Roots" (4 : Nat)) ∈ gw := gw_of (gw_1 (List.mem_of_getElem? (i := 124) rfl)) rfl
theorem q_125 : (Jvm.Cond.methodLink "SolutionBoxes$Solver" (11 : Nat) ({ cls := "SolutionBoxes$Roots", name := "<init>", desc := "()V" } : Jvm.MethodName)) ∈ gw := gw_of (gw_1 (List.mem_of_getElem? (i := 125) rfl)) rfl
theorem q_126 : (Jvm.Cond.instanceMethod ({ cls := "SolutionBoxes$Roots", name := "<init>", desc := "()V" } : Jvm.MethodName)) ∈ gw := gw_of (gw_1 (List.mem_of_getElem? (i := 126) rfl)) rfl
theorem q_127 : (Jvm.Cond.code ({ cls := "SolutionBoxes$Roots", name := "<init>", desc := "()V" } : Jvm.MethodName) prog_8_method_1_code (2 : Nat) (Option.none : Option Jvm.ClassFile.FieldType)) ∈ gw := gw_of (gw_1 (List.mem_of_getElem? (i := 127) rfl)) rfl
theorem q_128 : (Jvm.Cond.methodLink "SolutionBoxes$Roots" (3 : Nat) ({ cls := "java/lang/Object", name := "<init>", desc := "()V" } : Jvm.MethodName)) ∈ gw := gw_of (gw_1 (List.mem_of_getElem? (i := 128) rfl)) rfl
theorem q_129 : (Jvm.Cond.classLink "SolutionBoxes$Roots" (9 : Nat) "SolutionBoxes$OneLetter") ∈ gw := gw_of (gw_1 (List.mem_of_getElem? (i := 129) rfl)) rfl
theorem q_130 : (Jvm.Cond.arrayOver (Jvm.ClassFile.FieldType.object "SolutionBoxes$OneLetter")) ∈ lw_tbl := gw_1 (List.mem_of_getElem? (i := 130) rfl)
theorem q_131 : (Jvm.Cond.instantiable "SolutionBoxes$OneLetter" (2 : Nat)) ∈ gw := gw_of (gw_1 (List.mem_of_getElem? (i := 131) rfl)) rfl
theorem q_132 : (Jvm.Cond.methodLinkNest "SolutionBoxes$Roots" (17 : Nat) ({ cls := "SolutionBoxes$OneLetter", name := "<init>", desc := "()V" } : Jvm.MethodName) "SolutionBoxes") ∈ lw_tbl := gw_1 (List.mem_of_getElem? (i := 132) rfl)
theorem q_133 : (Jvm.Cond.instanceMethod ({ cls := "SolutionBoxes$OneLetter", name := "<init>", desc := "()V" } : Jvm.MethodName)) ∈ gw := gw_of (gw_1 (List.mem_of_getElem? (i := 133) rfl)) rfl
theorem q_134 : (Jvm.Cond.code ({ cls := "SolutionBoxes$OneLetter", name := "<init>", desc := "()V" } : Jvm.MethodName) prog_2_method_1_code (1 : Nat) (Option.none : Option Jvm.ClassFile.FieldType)) ∈ gw := gw_of (gw_1 (List.mem_of_getElem? (i := 134) rfl)) rfl
theorem q_135 : (Jvm.Cond.methodLink "SolutionBoxes$OneLetter" (3 : Nat) ({ cls := "java/lang/Object", name := "<init>", desc := "()V" } : Jvm.MethodName)) ∈ gw := gw_of (gw_1 (List.mem_of_getElem? (i := 135) rfl)) rfl
theorem q_136 : (Jvm.Cond.fieldLink "SolutionBoxes$OneLetter" (9 : Nat) "SolutionBoxes$OneLetter" "numbers" "[I") ∈ gw := gw_of (gw_1 (List.mem_of_getElem? (i := 136) rfl)) rfl
theorem q_137 : (Jvm.Cond.fieldLinkNest "SolutionBoxes$Roots" (64 : Nat) "SolutionBoxes$OneLetter" "numbers" "[I" "SolutionBoxes") ∈ lw_tbl := gw_1 (List.mem_of_getElem? (i := 137) rfl)
theorem q_138 : (Jvm.Cond.fieldLink "SolutionBoxes$OneLetter" (15 : Nat) "SolutionBoxes$OneLetter" "degree" "I") ∈ gw := gw_of (gw_1 (List.mem_of_getElem? (i := 138) rfl)) rfl
theorem q_139 : (Jvm.Cond.fieldLinkNest "SolutionBoxes$Roots" (25 : Nat) "SolutionBoxes$OneLetter" "degree" "I" "SolutionBoxes") ∈ lw_tbl := gw_1 (List.mem_of_getElem? (i := 139) rfl)
theorem q_140 : (Jvm.Cond.laysFinal "SolutionBoxes$OneLetter" "SolutionBoxes$OneLetter" "numbers" "[I") ∈ gw := gw_of (gw_1 (List.mem_of_getElem? (i := 140) rfl)) rfl
theorem q_142 : (Jvm.Cond.lays "SolutionBoxes$OneLetter" "SolutionBoxes$OneLetter" "degree" "I") ∈ gw := gw_of (gw_1 (List.mem_of_getElem? (i := 142) rfl)) rfl
theorem q_144 : (Jvm.Cond.superclass "SolutionBoxes$OneLetter" "java/lang/Object") ∈ lw_tbl := gw_1 (List.mem_of_getElem? (i := 144) rfl)
theorem q_145 : (Jvm.Cond.fieldLink "SolutionBoxes$Roots" (11 : Nat) "SolutionBoxes$Roots" "factors" "[LSolutionBoxes$OneLetter;") ∈ gw := gw_of (gw_1 (List.mem_of_getElem? (i := 145) rfl)) rfl
theorem q_146 : (Jvm.Cond.fieldLink "SolutionBoxes$Roots" (45 : Nat) "SolutionBoxes$Roots" "factorCount" "I") ∈ gw := gw_of (gw_1 (List.mem_of_getElem? (i := 146) rfl)) rfl
theorem q_147 : (Jvm.Cond.fieldLink "SolutionBoxes$Roots" (18 : Nat) "SolutionBoxes$Roots" "one" "LSolutionBoxes$OneLetter;") ∈ gw := gw_of (gw_1 (List.mem_of_getElem? (i := 147) rfl)) rfl
theorem q_148 : (Jvm.Cond.fieldLink "SolutionBoxes$Roots" (22 : Nat) "SolutionBoxes$Roots" "other" "LSolutionBoxes$OneLetter;") ∈ gw := gw_of (gw_1 (List.mem_of_getElem? (i := 148) rfl)) rfl
theorem q_149 : (Jvm.Cond.laysFinal "SolutionBoxes$Roots" "SolutionBoxes$Roots" "factors" "[LSolutionBoxes$OneLetter;") ∈ gw := gw_of (gw_1 (List.mem_of_getElem? (i := 149) rfl)) rfl
theorem q_151 : (Jvm.Cond.lays "SolutionBoxes$Roots" "SolutionBoxes$Roots" "factorCount" "I") ∈ gw := gw_of (gw_1 (List.mem_of_getElem? (i := 151) rfl)) rfl
theorem q_153 : (Jvm.Cond.laysFinal "SolutionBoxes$Roots" "SolutionBoxes$Roots" "one" "LSolutionBoxes$OneLetter;") ∈ gw := gw_of (gw_1 (List.mem_of_getElem? (i := 153) rfl)) rfl
theorem q_155 : (Jvm.Cond.laysFinal "SolutionBoxes$Roots" "SolutionBoxes$Roots" "other" "LSolutionBoxes$OneLetter;") ∈ gw := gw_of (gw_1 (List.mem_of_getElem? (i := 155) rfl)) rfl
theorem q_157 : (Jvm.Cond.superclass "SolutionBoxes$Roots" "java/lang/Object") ∈ lw_tbl := gw_1 (List.mem_of_getElem? (i := 157) rfl)
theorem q_158 : (Jvm.Cond.classLink "SolutionBoxes$Solver" (18 : Nat) "SolutionBoxes$OneLetter") ∈ gw := gw_of (gw_1 (List.mem_of_getElem? (i := 158) rfl)) rfl
theorem q_159 : (Jvm.Cond.classLink "SolutionBoxes$Solver" (24 : Nat) "[[I") ∈ gw := gw_of (gw_1 (List.mem_of_getElem? (i := 159) rfl)) rfl
theorem q_160 : (Jvm.Cond.arrayOver (Jvm.ClassFile.FieldType.array Jvm.ClassFile.FieldType.int)) ∈ lw_tbl := gw_1 (List.mem_of_getElem? (i := 160) rfl)
theorem q_161 : (Jvm.Cond.classLink "SolutionBoxes$Solver" (39 : Nat) "SolutionBoxes$Point") ∈ gw := gw_of (gw_1 (List.mem_of_getElem? (i := 161) rfl)) rfl
theorem q_162 : (Jvm.Cond.instantiable "SolutionBoxes$Point" (2 : Nat)) ∈ gw := gw_of (gw_1 (List.mem_of_getElem? (i := 162) rfl)) rfl
theorem q_163 : (Jvm.Cond.methodLinkNest "SolutionBoxes$Solver" (41 : Nat) ({ cls := "SolutionBoxes$Point", name := "<init>", desc := "()V" } : Jvm.MethodName) "SolutionBoxes") ∈ lw_tbl := gw_1 (List.mem_of_getElem? (i := 163) rfl)
theorem q_164 : (Jvm.Cond.instanceMethod ({ cls := "SolutionBoxes$Point", name := "<init>", desc := "()V" } : Jvm.MethodName)) ∈ gw := gw_of (gw_1 (List.mem_of_getElem? (i := 164) rfl)) rfl
theorem q_165 : (Jvm.Cond.code ({ cls := "SolutionBoxes$Point", name := "<init>", desc := "()V" } : Jvm.MethodName) prog_3_method_1_code (1 : Nat) (Option.none : Option Jvm.ClassFile.FieldType)) ∈ gw := gw_of (gw_1 (List.mem_of_getElem? (i := 165) rfl)) rfl
theorem q_166 : (Jvm.Cond.methodLink "SolutionBoxes$Point" (3 : Nat) ({ cls := "java/lang/Object", name := "<init>", desc := "()V" } : Jvm.MethodName)) ∈ gw := gw_of (gw_1 (List.mem_of_getElem? (i := 166) rfl)) rfl
theorem q_167 : (Jvm.Cond.classLink "SolutionBoxes$Point" (15 : Nat) "[[I") ∈ gw := gw_of (gw_1 (List.mem_of_getElem? (i := 167) rfl)) rfl
theorem q_168 : (Jvm.Cond.fieldLink "SolutionBoxes$Point" (9 : Nat) "SolutionBoxes$Point" "numbers" "[I") ∈ gw := gw_of (gw_1 (List.mem_of_getElem? (i := 168) rfl)) rfl
theorem q_169 : (Jvm.Cond.fieldLink "SolutionBoxes$Point" (17 : Nat) "SolutionBoxes$Point" "powers" "[[I") ∈ gw := gw_of (gw_1 (List.mem_of_getElem? (i := 169) rfl)) rfl
theorem q_170 : (Jvm.Cond.laysFinal "SolutionBoxes$Point" "SolutionBoxes$Point" "numbers" "[I") ∈ gw := gw_of (gw_1 (List.mem_of_getElem? (i := 170) rfl)) rfl
theorem q_172 : (Jvm.Cond.laysFinal "SolutionBoxes$Point" "SolutionBoxes$Point" "powers" "[[I") ∈ gw := gw_of (gw_1 (List.mem_of_getElem? (i := 172) rfl)) rfl
theorem q_174 : (Jvm.Cond.superclass "SolutionBoxes$Point" "java/lang/Object") ∈ lw_tbl := gw_1 (List.mem_of_getElem? (i := 174) rfl)
theorem q_175 : (Jvm.Cond.classLink "SolutionBoxes$Solver" (50 : Nat) "SolutionBoxes$Reducer") ∈ gw := gw_of (gw_1 (List.mem_of_getElem? (i := 175) rfl)) rfl
theorem q_176 : (Jvm.Cond.instantiable "SolutionBoxes$Reducer" (2 : Nat)) ∈ gw := gw_of (gw_1 (List.mem_of_getElem? (i := 176) rfl)) rfl
theorem q_177 : (Jvm.Cond.methodLink "SolutionBoxes$Solver" (52 : Nat) ({ cls := "SolutionBoxes$Reducer", name := "<init>", desc := "(I)V" } : Jvm.MethodName)) ∈ gw := gw_of (gw_1 (List.mem_of_getElem? (i := 177) rfl)) rfl
theorem q_178 : (Jvm.Cond.instanceMethod ({ cls := "SolutionBoxes$Reducer", name := "<init>", desc := "(I)V" } : Jvm.MethodName)) ∈ gw := gw_of (gw_1 (List.mem_of_getElem? (i := 178) rfl)) rfl
theorem q_179 : (Jvm.Cond.code ({ cls := "SolutionBoxes$Reducer", name := "<init>", desc := "(I)V" } : Jvm.MethodName) prog_7_method_1_code (8 : Nat) (Option.none : Option Jvm.ClassFile.FieldType)) ∈ gw := gw_of (gw_1 (List.mem_of_getElem? (i := 179) rfl)) rfl
theorem q_180 : (Jvm.Cond.methodLink "SolutionBoxes$Reducer" (3 : Nat) ({ cls := "java/lang/Object", name := "<init>", desc := "()V" } : Jvm.MethodName)) ∈ gw := gw_of (gw_1 (List.mem_of_getElem? (i := 180) rfl)) rfl
theorem q_181 : (Jvm.Cond.methodLink "SolutionBoxes$Reducer" (18 : Nat) ({ cls := "SolutionBoxes$Power", name := "key", desc := "(III)I" } : Jvm.MethodName)) ∈ gw := gw_of (gw_1 (List.mem_of_getElem? (i := 181) rfl)) rfl
theorem q_182 : (Jvm.Cond.static ({ cls := "SolutionBoxes$Power", name := "key", desc := "(III)I" } : Jvm.MethodName)) ∈ gw := gw_of (gw_1 (List.mem_of_getElem? (i := 182) rfl)) rfl
theorem q_183 : (Jvm.Cond.code ({ cls := "SolutionBoxes$Power", name := "key", desc := "(III)I" } : Jvm.MethodName) prog_5_method_2_code (3 : Nat) (Option.some Jvm.ClassFile.FieldType.int)) ∈ gw := gw_of (gw_1 (List.mem_of_getElem? (i := 183) rfl)) rfl
theorem q_184 : (Jvm.Cond.fieldLink "SolutionBoxes$Reducer" (9 : Nat) "SolutionBoxes$Reducer" "row" "[I") ∈ gw := gw_of (gw_1 (List.mem_of_getElem? (i := 184) rfl)) rfl
theorem q_185 : (Jvm.Cond.fieldLink "SolutionBoxes$Reducer" (15 : Nat) "SolutionBoxes$Reducer" "keys" "[I") ∈ gw := gw_of (gw_1 (List.mem_of_getElem? (i := 185) rfl)) rfl
theorem q_186 : (Jvm.Cond.fieldLinkNest "SolutionBoxes$Quotient" (57 : Nat) "SolutionBoxes$Reducer" "keys" "[I" "SolutionBoxes") ∈ lw_tbl := gw_1 (List.mem_of_getElem? (i := 186) rfl)
theorem q_187 : (Jvm.Cond.laysFinal "SolutionBoxes$Reducer" "SolutionBoxes$Reducer" "row" "[I") ∈ gw := gw_of (gw_1 (List.mem_of_getElem? (i := 187) rfl)) rfl
theorem q_189 : (Jvm.Cond.laysFinal "SolutionBoxes$Reducer" "SolutionBoxes$Reducer" "keys" "[I") ∈ gw := gw_of (gw_1 (List.mem_of_getElem? (i := 189) rfl)) rfl
theorem q_191 : (Jvm.Cond.superclass "SolutionBoxes$Reducer" "java/lang/Object") ∈ lw_tbl := gw_1 (List.mem_of_getElem? (i := 191) rfl)
theorem q_192 : (Jvm.Cond.classLink "SolutionBoxes$Solver" (59 : Nat) "SolutionBoxes$Quotient") ∈ gw := gw_of (gw_1 (List.mem_of_getElem? (i := 192) rfl)) rfl
theorem q_193 : (Jvm.Cond.instantiable "SolutionBoxes$Quotient" (12 : Nat)) ∈ gw := gw_of (gw_1 (List.mem_of_getElem? (i := 193) rfl)) rfl
theorem q_194 : (Jvm.Cond.methodLink "SolutionBoxes$Solver" (61 : Nat) ({ cls := "SolutionBoxes$Quotient", name := "<init>", desc := "(I)V" } : Jvm.MethodName)) ∈ gw := gw_of (gw_1 (List.mem_of_getElem? (i := 194) rfl)) rfl
theorem q_195 : (Jvm.Cond.instanceMethod ({ cls := "SolutionBoxes$Quotient", name := "<init>", desc := "(I)V" } : Jvm.MethodName)) ∈ gw := gw_of (gw_1 (List.mem_of_getElem? (i := 195) rfl)) rfl
theorem q_196 : (Jvm.Cond.code ({ cls := "SolutionBoxes$Quotient", name := "<init>", desc := "(I)V" } : Jvm.MethodName) prog_6_method_1_code (2 : Nat) (Option.none : Option Jvm.ClassFile.FieldType)) ∈ gw := gw_of (gw_1 (List.mem_of_getElem? (i := 196) rfl)) rfl
theorem q_197 : (Jvm.Cond.methodLink "SolutionBoxes$Quotient" (3 : Nat) ({ cls := "java/lang/Object", name := "<init>", desc := "()V" } : Jvm.MethodName)) ∈ gw := gw_of (gw_1 (List.mem_of_getElem? (i := 197) rfl)) rfl
theorem q_198 : (Jvm.Cond.classLink "SolutionBoxes$Quotient" (15 : Nat) "[[I") ∈ gw := gw_of (gw_1 (List.mem_of_getElem? (i := 198) rfl)) rfl
theorem q_199 : (Jvm.Cond.classLink "SolutionBoxes$Quotient" (38 : Nat) "SolutionBoxes$Span") ∈ gw := gw_of (gw_1 (List.mem_of_getElem? (i := 199) rfl)) rfl
theorem q_200 : (Jvm.Cond.instantiable "SolutionBoxes$Span" (3 : Nat)) ∈ gw := gw_of (gw_1 (List.mem_of_getElem? (i := 200) rfl)) rfl
theorem q_201 : (Jvm.Cond.methodLink "SolutionBoxes$Quotient" (40 : Nat) ({ cls := "SolutionBoxes$Span", name := "<init>", desc := "(II)V" } : Jvm.MethodName)) ∈ gw := gw_of (gw_1 (List.mem_of_getElem? (i := 201) rfl)) rfl
theorem q_202 : (Jvm.Cond.instanceMethod ({ cls := "SolutionBoxes$Span", name := "<init>", desc := "(II)V" } : Jvm.MethodName)) ∈ gw := gw_of (gw_1 (List.mem_of_getElem? (i := 202) rfl)) rfl
theorem q_203 : (Jvm.Cond.code ({ cls := "SolutionBoxes$Span", name := "<init>", desc := "(II)V" } : Jvm.MethodName) prog_10_method_1_code (3 : Nat) (Option.none : Option Jvm.ClassFile.FieldType)) ∈ gw := gw_of (gw_1 (List.mem_of_getElem? (i := 203) rfl)) rfl
theorem q_204 : (Jvm.Cond.methodLink "SolutionBoxes$Span" (3 : Nat) ({ cls := "java/lang/Object", name := "<init>", desc := "()V" } : Jvm.MethodName)) ∈ gw := gw_of (gw_1 (List.mem_of_getElem? (i := 204) rfl)) rfl
theorem q_205 : (Jvm.Cond.classLink "SolutionBoxes$Span" (9 : Nat) "[[I") ∈ gw := gw_of (gw_1 (List.mem_of_getElem? (i := 205) rfl)) rfl
theorem q_206 : (Jvm.Cond.fieldLink "SolutionBoxes$Span" (11 : Nat) "SolutionBoxes$Span" "rows" "[[I") ∈ gw := gw_of (gw_1 (List.mem_of_getElem? (i := 206) rfl)) rfl
theorem q_207 : (Jvm.Cond.fieldLink "SolutionBoxes$Span" (16 : Nat) "SolutionBoxes$Span" "pivots" "[I") ∈ gw := gw_of (gw_1 (List.mem_of_getElem? (i := 207) rfl)) rfl
theorem q_208 : (Jvm.Cond.fieldLink "SolutionBoxes$Span" (20 : Nat) "SolutionBoxes$Span" "size" "I") ∈ gw := gw_of (gw_1 (List.mem_of_getElem? (i := 208) rfl)) rfl
theorem q_209 : (Jvm.Cond.fieldLinkNest "SolutionBoxes$Quotient" (94 : Nat) "SolutionBoxes$Span" "size" "I" "SolutionBoxes") ∈ lw_tbl := gw_1 (List.mem_of_getElem? (i := 209) rfl)
theorem q_210 : (Jvm.Cond.laysFinal "SolutionBoxes$Span" "SolutionBoxes$Span" "rows" "[[I") ∈ gw := gw_of (gw_1 (List.mem_of_getElem? (i := 210) rfl)) rfl
theorem q_212 : (Jvm.Cond.laysFinal "SolutionBoxes$Span" "SolutionBoxes$Span" "pivots" "[I") ∈ gw := gw_of (gw_1 (List.mem_of_getElem? (i := 212) rfl)) rfl
theorem q_214 : (Jvm.Cond.lays "SolutionBoxes$Span" "SolutionBoxes$Span" "size" "I") ∈ gw := gw_of (gw_1 (List.mem_of_getElem? (i := 214) rfl)) rfl
theorem q_216 : (Jvm.Cond.superclass "SolutionBoxes$Span" "java/lang/Object") ∈ lw_tbl := gw_1 (List.mem_of_getElem? (i := 216) rfl)
theorem q_217 : (Jvm.Cond.fieldLink "SolutionBoxes$Quotient" (50 : Nat) "SolutionBoxes$Quotient" "letters" "I") ∈ gw := gw_of (gw_1 (List.mem_of_getElem? (i := 217) rfl)) rfl
theorem q_218 : (Jvm.Cond.fieldLink "SolutionBoxes$Quotient" (9 : Nat) "SolutionBoxes$Quotient" "keys" "[I") ∈ gw := gw_of (gw_1 (List.mem_of_getElem? (i := 218) rfl)) rfl
theorem q_219 : (Jvm.Cond.fieldLinkNest "SolutionBoxes$Reducer" (68 : Nat) "SolutionBoxes$Quotient" "keys" "[I" "SolutionBoxes") ∈ lw_tbl := gw_1 (List.mem_of_getElem? (i := 219) rfl)
theorem q_220 : (Jvm.Cond.fieldLinkNest "SolutionBoxes" (127 : Nat) "SolutionBoxes$Quotient" "keys" "[I" "SolutionBoxes") ∈ lw_tbl := gw_1 (List.mem_of_getElem? (i := 220) rfl)
theorem q_221 : (Jvm.Cond.fieldLink "SolutionBoxes$Quotient" (54 : Nat) "SolutionBoxes$Quotient" "size" "I") ∈ gw := gw_of (gw_1 (List.mem_of_getElem? (i := 221) rfl)) rfl
theorem q_222 : (Jvm.Cond.fieldLinkNest "SolutionBoxes$Reducer" (65 : Nat) "SolutionBoxes$Quotient" "size" "I" "SolutionBoxes") ∈ lw_tbl := gw_1 (List.mem_of_getElem? (i := 222) rfl)
theorem q_223 : (Jvm.Cond.fieldLinkNest "SolutionBoxes" (122 : Nat) "SolutionBoxes$Quotient" "size" "I" "SolutionBoxes") ∈ lw_tbl := gw_1 (List.mem_of_getElem? (i := 223) rfl)
theorem q_224 : (Jvm.Cond.fieldLink "SolutionBoxes$Quotient" (17 : Nat) "SolutionBoxes$Quotient" "products" "[[I") ∈ gw := gw_of (gw_1 (List.mem_of_getElem? (i := 224) rfl)) rfl
theorem q_225 : (Jvm.Cond.fieldLink "SolutionBoxes$Quotient" (20 : Nat) "SolutionBoxes$Quotient" "lower" "[I") ∈ gw := gw_of (gw_1 (List.mem_of_getElem? (i := 225) rfl)) rfl
theorem q_226 : (Jvm.Cond.fieldLink "SolutionBoxes$Quotient" (23 : Nat) "SolutionBoxes$Quotient" "lowerLetter" "[I") ∈ gw := gw_of (gw_1 (List.mem_of_getElem? (i := 226) rfl)) rfl
theorem q_227 : (Jvm.Cond.fieldLink "SolutionBoxes$Quotient" (26 : Nat) "SolutionBoxes$Quotient" "multiples" "[[I") ∈ gw := gw_of (gw_1 (List.mem_of_getElem? (i := 227) rfl)) rfl
theorem q_228 : (Jvm.Cond.fieldLink "SolutionBoxes$Quotient" (29 : Nat) "SolutionBoxes$Quotient" "factor" "[I") ∈ gw := gw_of (gw_1 (List.mem_of_getElem? (i := 228) rfl)) rfl
theorem q_229 : (Jvm.Cond.fieldLink "SolutionBoxes$Quotient" (32 : Nat) "SolutionBoxes$Quotient" "next" "[I") ∈ gw := gw_of (gw_1 (List.mem_of_getElem? (i := 229) rfl)) rfl
theorem q_230 : (Jvm.Cond.fieldLink "SolutionBoxes$Quotient" (35 : Nat) "SolutionBoxes$Quotient" "relation" "[I") ∈ gw := gw_of (gw_1 (List.mem_of_getElem? (i := 230) rfl)) rfl
theorem q_231 : (Jvm.Cond.fieldLink "SolutionBoxes$Quotient" (43 : Nat) "SolutionBoxes$Quotient" "relations" "LSolutionBoxes$Span;") ∈ gw := gw_of (gw_1 (List.mem_of_getElem? (i := 231) rfl)) rfl
theorem q_232 : (Jvm.Cond.fieldLink "SolutionBoxes$Quotient" (47 : Nat) "SolutionBoxes$Quotient" "ideal" "LSolutionBoxes$Span;") ∈ gw := gw_of (gw_1 (List.mem_of_getElem? (i := 232) rfl)) rfl
theorem q_233 : (Jvm.Cond.laysFinal "SolutionBoxes$Quotient" "SolutionBoxes$Quotient" "letters" "I") ∈ gw := gw_of (gw_1 (List.mem_of_getElem? (i := 233) rfl)) rfl
theorem q_235 : (Jvm.Cond.laysFinal "SolutionBoxes$Quotient" "SolutionBoxes$Quotient" "keys" "[I") ∈ gw := gw_of (gw_1 (List.mem_of_getElem? (i := 235) rfl)) rfl
theorem q_237 : (Jvm.Cond.lays "SolutionBoxes$Quotient" "SolutionBoxes$Quotient" "size" "I") ∈ gw := gw_of (gw_1 (List.mem_of_getElem? (i := 237) rfl)) rfl
theorem q_239 : (Jvm.Cond.laysFinal "SolutionBoxes$Quotient" "SolutionBoxes$Quotient" "products" "[[I") ∈ gw := gw_of (gw_1 (List.mem_of_getElem? (i := 239) rfl)) rfl
theorem q_241 : (Jvm.Cond.laysFinal "SolutionBoxes$Quotient" "SolutionBoxes$Quotient" "lower" "[I") ∈ gw := gw_of (gw_2 (List.mem_of_getElem? (i := 1) rfl)) rfl
theorem q_243 : (Jvm.Cond.laysFinal "SolutionBoxes$Quotient" "SolutionBoxes$Quotient" "lowerLetter" "[I") ∈ gw := gw_of (gw_2 (List.mem_of_getElem? (i := 3) rfl)) rfl
theorem q_245 : (Jvm.Cond.laysFinal "SolutionBoxes$Quotient" "SolutionBoxes$Quotient" "multiples" "[[I") ∈ gw := gw_of (gw_2 (List.mem_of_getElem? (i := 5) rfl)) rfl
theorem q_247 : (Jvm.Cond.laysFinal "SolutionBoxes$Quotient" "SolutionBoxes$Quotient" "factor" "[I") ∈ gw := gw_of (gw_2 (List.mem_of_getElem? (i := 7) rfl)) rfl
theorem q_249 : (Jvm.Cond.laysFinal "SolutionBoxes$Quotient" "SolutionBoxes$Quotient" "next" "[I") ∈ gw := gw_of (gw_2 (List.mem_of_getElem? (i := 9) rfl)) rfl
theorem q_251 : (Jvm.Cond.laysFinal "SolutionBoxes$Quotient" "SolutionBoxes$Quotient" "relation" "[I") ∈ gw := gw_of (gw_2 (List.mem_of_getElem? (i := 11) rfl)) rfl
theorem q_253 : (Jvm.Cond.laysFinal "SolutionBoxes$Quotient" "SolutionBoxes$Quotient" "relations" "LSolutionBoxes$Span;") ∈ gw := gw_of (gw_2 (List.mem_of_getElem? (i := 13) rfl)) rfl
theorem q_255 : (Jvm.Cond.laysFinal "SolutionBoxes$Quotient" "SolutionBoxes$Quotient" "ideal" "LSolutionBoxes$Span;") ∈ gw := gw_of (gw_2 (List.mem_of_getElem? (i := 15) rfl)) rfl
theorem q_257 : (Jvm.Cond.superclass "SolutionBoxes$Quotient" "java/lang/Object") ∈ lw_tbl := gw_2 (List.mem_of_getElem? (i := 17) rfl)
theorem q_258 : (Jvm.Cond.methodLinkNest "SolutionBoxes$Solver" (66 : Nat) ({ cls := "SolutionBoxes$OneLetter", name := "<init>", desc := "()V" } : Jvm.MethodName) "SolutionBoxes") ∈ lw_tbl := gw_2 (List.mem_of_getElem? (i := 18) rfl)
theorem q_259 : (Jvm.Cond.fieldLink "SolutionBoxes$Solver" (46 : Nat) "SolutionBoxes$Solver" "letters" "I") ∈ gw := gw_of (gw_2 (List.mem_of_getElem? (i := 19) rfl)) rfl
theorem q_260 : (Jvm.Cond.fieldLink "SolutionBoxes$Solver" (55 : Nat) "SolutionBoxes$Solver" "reducer" "LSolutionBoxes$Reducer;") ∈ gw := gw_of (gw_2 (List.mem_of_getElem? (i := 20) rfl)) rfl
theorem q_261 : (Jvm.Cond.fieldLink "SolutionBoxes$Solver" (62 : Nat) "SolutionBoxes$Solver" "quotient" "LSolutionBoxes$Quotient;") ∈ gw := gw_of (gw_2 (List.mem_of_getElem? (i := 21) rfl)) rfl
theorem q_262 : (Jvm.Cond.fieldLinkNest "SolutionBoxes" (118 : Nat) "SolutionBoxes$Solver" "quotient" "LSolutionBoxes$Quotient;" "SolutionBoxes") ∈ lw_tbl := gw_2 (List.mem_of_getElem? (i := 22) rfl)
theorem q_263 : (Jvm.Cond.fieldLink "SolutionBoxes$Solver" (12 : Nat) "SolutionBoxes$Solver" "finder" "LSolutionBoxes$Roots;") ∈ gw := gw_of (gw_2 (List.mem_of_getElem? (i := 23) rfl)) rfl
theorem q_264 : (Jvm.Cond.fieldLink "SolutionBoxes$Solver" (20 : Nat) "SolutionBoxes$Solver" "least" "[LSolutionBoxes$OneLetter;") ∈ gw := gw_of (gw_2 (List.mem_of_getElem? (i := 24) rfl)) rfl
theorem q_265 : (Jvm.Cond.fieldLinkNest "SolutionBoxes" (143 : Nat) "SolutionBoxes$Solver" "least" "[LSolutionBoxes$OneLetter;" "SolutionBoxes") ∈ lw_tbl := gw_2 (List.mem_of_getElem? (i := 25) rfl)
theorem q_266 : (Jvm.Cond.fieldLink "SolutionBoxes$Solver" (26 : Nat) "SolutionBoxes$Solver" "roots" "[[I") ∈ gw := gw_of (gw_2 (List.mem_of_getElem? (i := 26) rfl)) rfl
theorem q_267 : (Jvm.Cond.fieldLink "SolutionBoxes$Solver" (29 : Nat) "SolutionBoxes$Solver" "rootCounts" "[I") ∈ gw := gw_of (gw_2 (List.mem_of_getElem? (i := 27) rfl)) rfl
theorem q_268 : (Jvm.Cond.fieldLink "SolutionBoxes$Solver" (33 : Nat) "SolutionBoxes$Solver" "zeros" "[[I") ∈ gw := gw_of (gw_2 (List.mem_of_getElem? (i := 28) rfl)) rfl
theorem q_269 : (Jvm.Cond.fieldLinkNest "SolutionBoxes" (184 : Nat) "SolutionBoxes$Solver" "zeros" "[[I" "SolutionBoxes") ∈ lw_tbl := gw_2 (List.mem_of_getElem? (i := 29) rfl)
theorem q_270 : (Jvm.Cond.fieldLink "SolutionBoxes$Solver" (36 : Nat) "SolutionBoxes$Solver" "multiplicities" "[I") ∈ gw := gw_of (gw_2 (List.mem_of_getElem? (i := 30) rfl)) rfl
theorem q_271 : (Jvm.Cond.fieldLinkNest "SolutionBoxes" (140 : Nat) "SolutionBoxes$Solver" "multiplicities" "[I" "SolutionBoxes") ∈ lw_tbl := gw_2 (List.mem_of_getElem? (i := 31) rfl)
theorem q_272 : (Jvm.Cond.fieldLink "SolutionBoxes$Solver" (67 : Nat) "SolutionBoxes$Solver" "zeroCount" "I") ∈ gw := gw_of (gw_2 (List.mem_of_getElem? (i := 32) rfl)) rfl
theorem q_273 : (Jvm.Cond.fieldLinkNest "SolutionBoxes" (179 : Nat) "SolutionBoxes$Solver" "zeroCount" "I" "SolutionBoxes") ∈ lw_tbl := gw_2 (List.mem_of_getElem? (i := 33) rfl)
theorem q_274 : (Jvm.Cond.fieldLink "SolutionBoxes$Solver" (42 : Nat) "SolutionBoxes$Solver" "point" "LSolutionBoxes$Point;") ∈ gw := gw_of (gw_2 (List.mem_of_getElem? (i := 34) rfl)) rfl
theorem q_275 : (Jvm.Cond.fieldLinkNest "SolutionBoxes" (152 : Nat) "SolutionBoxes$Solver" "point" "LSolutionBoxes$Point;" "SolutionBoxes") ∈ lw_tbl := gw_2 (List.mem_of_getElem? (i := 35) rfl)
theorem q_276 : (Jvm.Cond.laysFinal "SolutionBoxes$Solver" "SolutionBoxes$Solver" "letters" "I") ∈ gw := gw_of (gw_2 (List.mem_of_getElem? (i := 36) rfl)) rfl
theorem q_278 : (Jvm.Cond.laysFinal "SolutionBoxes$Solver" "SolutionBoxes$Solver" "reducer" "LSolutionBoxes$Reducer;") ∈ gw := gw_of (gw_2 (List.mem_of_getElem? (i := 38) rfl)) rfl
theorem q_280 : (Jvm.Cond.laysFinal "SolutionBoxes$Solver" "SolutionBoxes$Solver" "quotient" "LSolutionBoxes$Quotient;") ∈ gw := gw_of (gw_2 (List.mem_of_getElem? (i := 40) rfl)) rfl
theorem q_282 : (Jvm.Cond.laysFinal "SolutionBoxes$Solver" "SolutionBoxes$Solver" "finder" "LSolutionBoxes$Roots;") ∈ gw := gw_of (gw_2 (List.mem_of_getElem? (i := 42) rfl)) rfl
theorem q_284 : (Jvm.Cond.laysFinal "SolutionBoxes$Solver" "SolutionBoxes$Solver" "least" "[LSolutionBoxes$OneLetter;") ∈ gw := gw_of (gw_2 (List.mem_of_getElem? (i := 44) rfl)) rfl
theorem q_286 : (Jvm.Cond.laysFinal "SolutionBoxes$Solver" "SolutionBoxes$Solver" "roots" "[[I") ∈ gw := gw_of (gw_2 (List.mem_of_getElem? (i := 46) rfl)) rfl
theorem q_288 : (Jvm.Cond.laysFinal "SolutionBoxes$Solver" "SolutionBoxes$Solver" "rootCounts" "[I") ∈ gw := gw_of (gw_2 (List.mem_of_getElem? (i := 48) rfl)) rfl
theorem q_290 : (Jvm.Cond.laysFinal "SolutionBoxes$Solver" "SolutionBoxes$Solver" "zeros" "[[I") ∈ gw := gw_of (gw_2 (List.mem_of_getElem? (i := 50) rfl)) rfl
theorem q_292 : (Jvm.Cond.laysFinal "SolutionBoxes$Solver" "SolutionBoxes$Solver" "multiplicities" "[I") ∈ gw := gw_of (gw_2 (List.mem_of_getElem? (i := 52) rfl)) rfl
theorem q_294 : (Jvm.Cond.lays "SolutionBoxes$Solver" "SolutionBoxes$Solver" "zeroCount" "I") ∈ gw := gw_of (gw_2 (List.mem_of_getElem? (i := 54) rfl)) rfl
theorem q_296 : (Jvm.Cond.laysFinal "SolutionBoxes$Solver" "SolutionBoxes$Solver" "point" "LSolutionBoxes$Point;") ∈ gw := gw_of (gw_2 (List.mem_of_getElem? (i := 56) rfl)) rfl
theorem q_298 : (Jvm.Cond.superclass "SolutionBoxes$Solver" "java/lang/Object") ∈ lw_tbl := gw_2 (List.mem_of_getElem? (i := 58) rfl)
theorem q_299 : (Jvm.Cond.methodLink "SolutionBoxes" (104 : Nat) ({ cls := "SolutionBoxes", name := "noteFreeLetters", desc := "()V" } : Jvm.MethodName)) ∈ gw := gw_of (gw_2 (List.mem_of_getElem? (i := 59) rfl)) rfl
theorem q_300 : (Jvm.Cond.privateMethod ({ cls := "SolutionBoxes", name := "noteFreeLetters", desc := "()V" } : Jvm.MethodName)) ∈ lw_tbl := gw_2 (List.mem_of_getElem? (i := 60) rfl)
theorem q_301 : (Jvm.Cond.instanceMethod ({ cls := "SolutionBoxes", name := "noteFreeLetters", desc := "()V" } : Jvm.MethodName)) ∈ gw := gw_of (gw_2 (List.mem_of_getElem? (i := 61) rfl)) rfl
theorem q_302 : (Jvm.Cond.code ({ cls := "SolutionBoxes", name := "noteFreeLetters", desc := "()V" } : Jvm.MethodName) prog_1_method_19_code (2 : Nat) (Option.none : Option Jvm.ClassFile.FieldType)) ∈ gw := gw_of (gw_2 (List.mem_of_getElem? (i := 62) rfl)) rfl
theorem q_303 : (Jvm.Cond.methodLink "SolutionBoxes" (188 : Nat) ({ cls := "SolutionBoxes$TakenList", name := "bounds", desc := "(I)Z" } : Jvm.MethodName)) ∈ gw := gw_of (gw_2 (List.mem_of_getElem? (i := 63) rfl)) rfl
theorem q_304 : (Jvm.Cond.instanceMethod ({ cls := "SolutionBoxes$TakenList", name := "bounds", desc := "(I)Z" } : Jvm.MethodName)) ∈ gw := gw_of (gw_2 (List.mem_of_getElem? (i := 64) rfl)) rfl
theorem q_305 : (Jvm.Cond.selects "SolutionBoxes$TakenList" ({ cls := "SolutionBoxes$TakenList", name := "bounds", desc := "(I)Z" } : Jvm.MethodName) ({ cls := "SolutionBoxes$TakenList", name := "bounds", desc := "(I)Z" } : Jvm.MethodName)) ∈ gw := gw_of (gw_2 (List.mem_of_getElem? (i := 65) rfl)) rfl
theorem q_306 : (Jvm.Cond.code ({ cls := "SolutionBoxes$TakenList", name := "bounds", desc := "(I)Z" } : Jvm.MethodName) prog_11_method_4_code (3 : Nat) (Option.some Jvm.ClassFile.FieldType.boolean)) ∈ gw := gw_of (gw_2 (List.mem_of_getElem? (i := 66) rfl)) rfl
theorem q_307 : (Jvm.Cond.methodLink "SolutionBoxes$TakenList" (40 : Nat) ({ cls := "SolutionBoxes$Power", name := "exponent", desc := "(II)I" } : Jvm.MethodName)) ∈ gw := gw_of (gw_2 (List.mem_of_getElem? (i := 67) rfl)) rfl
theorem q_308 : (Jvm.Cond.static ({ cls := "SolutionBoxes$Power", name := "exponent", desc := "(II)I" } : Jvm.MethodName)) ∈ gw := gw_of (gw_2 (List.mem_of_getElem? (i := 68) rfl)) rfl
theorem q_309 : (Jvm.Cond.code ({ cls := "SolutionBoxes$Power", name := "exponent", desc := "(II)I" } : Jvm.MethodName) prog_5_method_4_code (4 : Nat) (Option.some Jvm.ClassFile.FieldType.int)) ∈ gw := gw_of (gw_2 (List.mem_of_getElem? (i := 69) rfl)) rfl
theorem q_310 : (Jvm.Cond.methodLink "SolutionBoxes$TakenList" (44 : Nat) ({ cls := "SolutionBoxes$Power", name := "degree", desc := "(I)I" } : Jvm.MethodName)) ∈ gw := gw_of (gw_2 (List.mem_of_getElem? (i := 70) rfl)) rfl
theorem q_311 : (Jvm.Cond.static ({ cls := "SolutionBoxes$Power", name := "degree", desc := "(I)I" } : Jvm.MethodName)) ∈ gw := gw_of (gw_2 (List.mem_of_getElem? (i := 71) rfl)) rfl
theorem q_312 : (Jvm.Cond.code ({ cls := "SolutionBoxes$Power", name := "degree", desc := "(I)I" } : Jvm.MethodName) prog_5_method_3_code (1 : Nat) (Option.some Jvm.ClassFile.FieldType.int)) ∈ gw := gw_of (gw_2 (List.mem_of_getElem? (i := 72) rfl)) rfl
theorem q_313 : (Jvm.Cond.methodLink "SolutionBoxes" (107 : Nat) ({ cls := "SolutionBoxes$Solver", name := "solve", desc := "(LSolutionBoxes$TakenList;)I" } : Jvm.MethodName)) ∈ gw := gw_of (gw_2 (List.mem_of_getElem? (i := 73) rfl)) rfl
theorem q_314 : (Jvm.Cond.instanceMethod ({ cls := "SolutionBoxes$Solver", name := "solve", desc := "(LSolutionBoxes$TakenList;)I" } : Jvm.MethodName)) ∈ gw := gw_of (gw_2 (List.mem_of_getElem? (i := 74) rfl)) rfl
theorem q_315 : (Jvm.Cond.selects "SolutionBoxes$Solver" ({ cls := "SolutionBoxes$Solver", name := "solve", desc := "(LSolutionBoxes$TakenList;)I" } : Jvm.MethodName) ({ cls := "SolutionBoxes$Solver", name := "solve", desc := "(LSolutionBoxes$TakenList;)I" } : Jvm.MethodName)) ∈ gw := gw_of (gw_2 (List.mem_of_getElem? (i := 75) rfl)) rfl
theorem q_316 : (Jvm.Cond.code ({ cls := "SolutionBoxes$Solver", name := "solve", desc := "(LSolutionBoxes$TakenList;)I" } : Jvm.MethodName) prog_9_method_2_code (3 : Nat) (Option.some Jvm.ClassFile.FieldType.int)) ∈ gw := gw_of (gw_2 (List.mem_of_getElem? (i := 76) rfl)) rfl
theorem q_317 : (Jvm.Cond.methodLink "SolutionBoxes$Solver" (70 : Nat) ({ cls := "SolutionBoxes$Reducer", name := "isBasis", desc := "(LSolutionBoxes$TakenList;)Z" } : Jvm.MethodName)) ∈ gw := gw_of (gw_2 (List.mem_of_getElem? (i := 77) rfl)) rfl
theorem q_318 : (Jvm.Cond.instanceMethod ({ cls := "SolutionBoxes$Reducer", name := "isBasis", desc := "(LSolutionBoxes$TakenList;)Z" } : Jvm.MethodName)) ∈ gw := gw_of (gw_2 (List.mem_of_getElem? (i := 78) rfl)) rfl
theorem q_319 : (Jvm.Cond.selects "SolutionBoxes$Reducer" ({ cls := "SolutionBoxes$Reducer", name := "isBasis", desc := "(LSolutionBoxes$TakenList;)Z" } : Jvm.MethodName) ({ cls := "SolutionBoxes$Reducer", name := "isBasis", desc := "(LSolutionBoxes$TakenList;)Z" } : Jvm.MethodName)) ∈ gw := gw_of (gw_2 (List.mem_of_getElem? (i := 79) rfl)) rfl
theorem q_320 : (Jvm.Cond.code ({ cls := "SolutionBoxes$Reducer", name := "isBasis", desc := "(LSolutionBoxes$TakenList;)Z" } : Jvm.MethodName) prog_7_method_2_code (4 : Nat) (Option.some Jvm.ClassFile.FieldType.boolean)) ∈ gw := gw_of (gw_2 (List.mem_of_getElem? (i := 80) rfl)) rfl
theorem q_321 : (Jvm.Cond.methodLink "SolutionBoxes$Reducer" (33 : Nat) ({ cls := "SolutionBoxes$Power", name := "shareLetter", desc := "(II)Z" } : Jvm.MethodName)) ∈ gw := gw_of (gw_2 (List.mem_of_getElem? (i := 81) rfl)) rfl
theorem q_322 : (Jvm.Cond.static ({ cls := "SolutionBoxes$Power", name := "shareLetter", desc := "(II)Z" } : Jvm.MethodName)) ∈ gw := gw_of (gw_2 (List.mem_of_getElem? (i := 82) rfl)) rfl
theorem q_323 : (Jvm.Cond.code ({ cls := "SolutionBoxes$Power", name := "shareLetter", desc := "(II)Z" } : Jvm.MethodName) prog_5_method_9_code (2 : Nat) (Option.some Jvm.ClassFile.FieldType.boolean)) ∈ gw := gw_of (gw_2 (List.mem_of_getElem? (i := 83) rfl)) rfl
theorem q_324 : (Jvm.Cond.methodLink "SolutionBoxes$Power" (24 : Nat) ({ cls := "SolutionBoxes$Power", name := "leastMultiple", desc := "(II)I" } : Jvm.MethodName)) ∈ gw := gw_of (gw_2 (List.mem_of_getElem? (i := 84) rfl)) rfl
theorem q_325 : (Jvm.Cond.static ({ cls := "SolutionBoxes$Power", name := "leastMultiple", desc := "(II)I" } : Jvm.MethodName)) ∈ gw := gw_of (gw_2 (List.mem_of_getElem? (i := 85) rfl)) rfl
theorem q_326 : (Jvm.Cond.code ({ cls := "SolutionBoxes$Power", name := "leastMultiple", desc := "(II)I" } : Jvm.MethodName) prog_5_method_8_code (2 : Nat) (Option.some Jvm.ClassFile.FieldType.int)) ∈ gw := gw_of (gw_2 (List.mem_of_getElem? (i := 86) rfl)) rfl
theorem q_327 : (Jvm.Cond.methodLink "SolutionBoxes$Power" (15 : Nat) ({ cls := "SolutionBoxes$Power", name := "exponent", desc := "(II)I" } : Jvm.MethodName)) ∈ gw := gw_of (gw_2 (List.mem_of_getElem? (i := 87) rfl)) rfl
theorem q_328 : (Jvm.Cond.methodLink "SolutionBoxes$Power" (19 : Nat) ({ cls := "java/lang/Math", name := "max", desc := "(II)I" } : Jvm.MethodName)) ∈ gw := gw_of (gw_2 (List.mem_of_getElem? (i := 88) rfl)) rfl
theorem q_329 : (Jvm.Cond.methodLink "SolutionBoxes$Power" (11 : Nat) ({ cls := "SolutionBoxes$Power", name := "key", desc := "(III)I" } : Jvm.MethodName)) ∈ gw := gw_of (gw_2 (List.mem_of_getElem? (i := 89) rfl)) rfl
theorem q_330 : (Jvm.Cond.methodLink "SolutionBoxes$Reducer" (37 : Nat) ({ cls := "SolutionBoxes$Reducer", name := "pairVanishes", desc := "(LSolutionBoxes$TakenList;II)Z" } : Jvm.MethodName)) ∈ gw := gw_of (gw_2 (List.mem_of_getElem? (i := 90) rfl)) rfl
theorem q_331 : (Jvm.Cond.privateMethod ({ cls := "SolutionBoxes$Reducer", name := "pairVanishes", desc := "(LSolutionBoxes$TakenList;II)Z" } : Jvm.MethodName)) ∈ lw_tbl := gw_2 (List.mem_of_getElem? (i := 91) rfl)
theorem q_332 : (Jvm.Cond.instanceMethod ({ cls := "SolutionBoxes$Reducer", name := "pairVanishes", desc := "(LSolutionBoxes$TakenList;II)Z" } : Jvm.MethodName)) ∈ gw := gw_of (gw_2 (List.mem_of_getElem? (i := 92) rfl)) rfl
theorem q_333 : (Jvm.Cond.code ({ cls := "SolutionBoxes$Reducer", name := "pairVanishes", desc := "(LSolutionBoxes$TakenList;II)Z" } : Jvm.MethodName) prog_7_method_3_code (7 : Nat) (Option.some Jvm.ClassFile.FieldType.boolean)) ∈ gw := gw_of (gw_2 (List.mem_of_getElem? (i := 93) rfl)) rfl
theorem q_334 : (Jvm.Cond.methodLink "SolutionBoxes$Reducer" (41 : Nat) ({ cls := "SolutionBoxes$Power", name := "leastMultiple", desc := "(II)I" } : Jvm.MethodName)) ∈ gw := gw_of (gw_2 (List.mem_of_getElem? (i := 94) rfl)) rfl
theorem q_335 : (Jvm.Cond.methodLink "SolutionBoxes$Reducer" (49 : Nat) ({ cls := "SolutionBoxes$Reducer", name := "addMultiple", desc := "(LSolutionBoxes$Polynomial;II)V" } : Jvm.MethodName)) ∈ gw := gw_of (gw_2 (List.mem_of_getElem? (i := 95) rfl)) rfl
theorem q_336 : (Jvm.Cond.privateMethod ({ cls := "SolutionBoxes$Reducer", name := "addMultiple", desc := "(LSolutionBoxes$Polynomial;II)V" } : Jvm.MethodName)) ∈ lw_tbl := gw_2 (List.mem_of_getElem? (i := 96) rfl)
theorem q_337 : (Jvm.Cond.instanceMethod ({ cls := "SolutionBoxes$Reducer", name := "addMultiple", desc := "(LSolutionBoxes$Polynomial;II)V" } : Jvm.MethodName)) ∈ gw := gw_of (gw_2 (List.mem_of_getElem? (i := 97) rfl)) rfl
theorem q_338 : (Jvm.Cond.code ({ cls := "SolutionBoxes$Reducer", name := "addMultiple", desc := "(LSolutionBoxes$Polynomial;II)V" } : Jvm.MethodName) prog_7_method_6_code (6 : Nat) (Option.none : Option Jvm.ClassFile.FieldType)) ∈ gw := gw_of (gw_2 (List.mem_of_getElem? (i := 98) rfl)) rfl
theorem q_339 : (Jvm.Cond.methodLink "SolutionBoxes$Reducer" (53 : Nat) ({ cls := "SolutionBoxes$Power", name := "place", desc := "(I)I" } : Jvm.MethodName)) ∈ gw := gw_of (gw_2 (List.mem_of_getElem? (i := 99) rfl)) rfl
theorem q_340 : (Jvm.Cond.static ({ cls := "SolutionBoxes$Power", name := "place", desc := "(I)I" } : Jvm.MethodName)) ∈ gw := gw_of (gw_2 (List.mem_of_getElem? (i := 100) rfl)) rfl
theorem q_341 : (Jvm.Cond.code ({ cls := "SolutionBoxes$Power", name := "place", desc := "(I)I" } : Jvm.MethodName) prog_5_method_11_code (4 : Nat) (Option.some Jvm.ClassFile.FieldType.int)) ∈ gw := gw_of (gw_2 (List.mem_of_getElem? (i := 101) rfl)) rfl
theorem q_342 : (Jvm.Cond.methodLink "SolutionBoxes$Reducer" (57 : Nat) ({ cls := "SolutionBoxes$Reducer", name := "reduce", desc := "(LSolutionBoxes$TakenList;IZ)Z" } : Jvm.MethodName)) ∈ gw := gw_of (gw_2 (List.mem_of_getElem? (i := 102) rfl)) rfl
theorem q_343 : (Jvm.Cond.privateMethod ({ cls := "SolutionBoxes$Reducer", name := "reduce", desc := "(LSolutionBoxes$TakenList;IZ)Z" } : Jvm.MethodName)) ∈ lw_tbl := gw_2 (List.mem_of_getElem? (i := 103) rfl)
theorem q_344 : (Jvm.Cond.instanceMethod ({ cls := "SolutionBoxes$Reducer", name := "reduce", desc := "(LSolutionBoxes$TakenList;IZ)Z" } : Jvm.MethodName)) ∈ gw := gw_of (gw_2 (List.mem_of_getElem? (i := 104) rfl)) rfl
theorem q_345 : (Jvm.Cond.code ({ cls := "SolutionBoxes$Reducer", name := "reduce", desc := "(LSolutionBoxes$TakenList;IZ)Z" } : Jvm.MethodName) prog_7_method_5_code (8 : Nat) (Option.some Jvm.ClassFile.FieldType.boolean)) ∈ gw := gw_of (gw_2 (List.mem_of_getElem? (i := 105) rfl)) rfl
theorem q_346 : (Jvm.Cond.methodLink "SolutionBoxes$Reducer" (69 : Nat) ({ cls := "java/lang/Math", name := "min", desc := "(II)I" } : Jvm.MethodName)) ∈ gw := gw_of (gw_2 (List.mem_of_getElem? (i := 106) rfl)) rfl
theorem q_347 : (Jvm.Cond.methodLink "SolutionBoxes$Reducer" (74 : Nat) ({ cls := "SolutionBoxes$TakenList", name := "firstDividing", desc := "(I)I" } : Jvm.MethodName)) ∈ gw := gw_of (gw_2 (List.mem_of_getElem? (i := 107) rfl)) rfl
theorem q_348 : (Jvm.Cond.instanceMethod ({ cls := "SolutionBoxes$TakenList", name := "firstDividing", desc := "(I)I" } : Jvm.MethodName)) ∈ gw := gw_of (gw_2 (List.mem_of_getElem? (i := 108) rfl)) rfl
theorem q_349 : (Jvm.Cond.selects "SolutionBoxes$TakenList" ({ cls := "SolutionBoxes$TakenList", name := "firstDividing", desc := "(I)I" } : Jvm.MethodName) ({ cls := "SolutionBoxes$TakenList", name := "firstDividing", desc := "(I)I" } : Jvm.MethodName)) ∈ gw := gw_of (gw_2 (List.mem_of_getElem? (i := 109) rfl)) rfl
theorem q_350 : (Jvm.Cond.code ({ cls := "SolutionBoxes$TakenList", name := "firstDividing", desc := "(I)I" } : Jvm.MethodName) prog_11_method_3_code (3 : Nat) (Option.some Jvm.ClassFile.FieldType.int)) ∈ gw := gw_of (gw_2 (List.mem_of_getElem? (i := 110) rfl)) rfl
theorem q_351 : (Jvm.Cond.methodLink "SolutionBoxes$TakenList" (34 : Nat) ({ cls := "SolutionBoxes$Power", name := "divides", desc := "(II)Z" } : Jvm.MethodName)) ∈ gw := gw_of (gw_2 (List.mem_of_getElem? (i := 111) rfl)) rfl
theorem q_352 : (Jvm.Cond.static ({ cls := "SolutionBoxes$Power", name := "divides", desc := "(II)Z" } : Jvm.MethodName)) ∈ gw := gw_of (gw_2 (List.mem_of_getElem? (i := 112) rfl)) rfl
theorem q_353 : (Jvm.Cond.code ({ cls := "SolutionBoxes$Power", name := "divides", desc := "(II)Z" } : Jvm.MethodName) prog_5_method_7_code (5 : Nat) (Option.some Jvm.ClassFile.FieldType.boolean)) ∈ gw := gw_of (gw_2 (List.mem_of_getElem? (i := 113) rfl)) rfl
theorem q_354 : (Jvm.Cond.methodLink "SolutionBoxes$Reducer" (61 : Nat) ({ cls := "SolutionBoxes$Reducer", name := "wipe", desc := "(I)V" } : Jvm.MethodName)) ∈ gw := gw_of (gw_2 (List.mem_of_getElem? (i := 114) rfl)) rfl
theorem q_355 : (Jvm.Cond.privateMethod ({ cls := "SolutionBoxes$Reducer", name := "wipe", desc := "(I)V" } : Jvm.MethodName)) ∈ lw_tbl := gw_2 (List.mem_of_getElem? (i := 115) rfl)
theorem q_356 : (Jvm.Cond.instanceMethod ({ cls := "SolutionBoxes$Reducer", name := "wipe", desc := "(I)V" } : Jvm.MethodName)) ∈ gw := gw_of (gw_2 (List.mem_of_getElem? (i := 116) rfl)) rfl
theorem q_357 : (Jvm.Cond.code ({ cls := "SolutionBoxes$Reducer", name := "wipe", desc := "(I)V" } : Jvm.MethodName) prog_7_method_7_code (3 : Nat) (Option.none : Option Jvm.ClassFile.FieldType)) ∈ gw := gw_of (gw_2 (List.mem_of_getElem? (i := 117) rfl)) rfl
theorem q_358 : (Jvm.Cond.methodLink "SolutionBoxes$Solver" (74 : Nat) ({ cls := "SolutionBoxes$TakenList", name := "isFinite", desc := "(I)Z" } : Jvm.MethodName)) ∈ gw := gw_of (gw_2 (List.mem_of_getElem? (i := 118) rfl)) rfl
theorem q_359 : (Jvm.Cond.instanceMethod ({ cls := "SolutionBoxes$TakenList", name := "isFinite", desc := "(I)Z" } : Jvm.MethodName)) ∈ gw := gw_of (gw_2 (List.mem_of_getElem? (i := 119) rfl)) rfl
theorem q_360 : (Jvm.Cond.selects "SolutionBoxes$TakenList" ({ cls := "SolutionBoxes$TakenList", name := "isFinite", desc := "(I)Z" } : Jvm.MethodName) ({ cls := "SolutionBoxes$TakenList", name := "isFinite", desc := "(I)Z" } : Jvm.MethodName)) ∈ gw := gw_of (gw_2 (List.mem_of_getElem? (i := 120) rfl)) rfl
theorem q_361 : (Jvm.Cond.code ({ cls := "SolutionBoxes$TakenList", name := "isFinite", desc := "(I)Z" } : Jvm.MethodName) prog_11_method_5_code (3 : Nat) (Option.some Jvm.ClassFile.FieldType.boolean)) ∈ gw := gw_of (gw_2 (List.mem_of_getElem? (i := 121) rfl)) rfl
theorem q_362 : (Jvm.Cond.methodLink "SolutionBoxes$TakenList" (48 : Nat) ({ cls := "SolutionBoxes$TakenList", name := "bounds", desc := "(I)Z" } : Jvm.MethodName)) ∈ gw := gw_of (gw_2 (List.mem_of_getElem? (i := 122) rfl)) rfl
theorem q_363 : (Jvm.Cond.methodLink "SolutionBoxes$Solver" (80 : Nat) ({ cls := "SolutionBoxes$Quotient", name := "collect", desc := "(LSolutionBoxes$TakenList;LSolutionBoxes$Reducer;)Z" } : Jvm.MethodName)) ∈ gw := gw_of (gw_2 (List.mem_of_getElem? (i := 123) rfl)) rfl
theorem q_364 : (Jvm.Cond.instanceMethod ({ cls := "SolutionBoxes$Quotient", name := "collect", desc := "(LSolutionBoxes$TakenList;LSolutionBoxes$Reducer;)Z" } : Jvm.MethodName)) ∈ gw := gw_of (gw_2 (List.mem_of_getElem? (i := 124) rfl)) rfl
theorem q_365 : (Jvm.Cond.selects "SolutionBoxes$Quotient" ({ cls := "SolutionBoxes$Quotient", name := "collect", desc := "(LSolutionBoxes$TakenList;LSolutionBoxes$Reducer;)Z" } : Jvm.MethodName) ({ cls := "SolutionBoxes$Quotient", name := "collect", desc := "(LSolutionBoxes$TakenList;LSolutionBoxes$Reducer;)Z" } : Jvm.MethodName)) ∈ gw := gw_of (gw_2 (List.mem_of_getElem? (i := 125) rfl)) rfl
theorem q_366 : (Jvm.Cond.code ({ cls := "SolutionBoxes$Quotient", name := "collect", desc := "(LSolutionBoxes$TakenList;LSolutionBoxes$Reducer;)Z" } : Jvm.MethodName) prog_6_method_2_code (6 : Nat) (Option.some Jvm.ClassFile.FieldType.boolean)) ∈ gw := gw_of (gw_2 (List.mem_of_getElem? (i := 126) rfl)) rfl
theorem q_367 : (Jvm.Cond.methodLink "SolutionBoxes$Quotient" (60 : Nat) ({ cls := "SolutionBoxes$Power", name := "degree", desc := "(I)I" } : Jvm.MethodName)) ∈ gw := gw_of (gw_2 (List.mem_of_getElem? (i := 127) rfl)) rfl
theorem q_368 : (Jvm.Cond.methodLink "SolutionBoxes$Quotient" (66 : Nat) ({ cls := "SolutionBoxes$Power", name := "isOf", desc := "(II)Z" } : Jvm.MethodName)) ∈ gw := gw_of (gw_2 (List.mem_of_getElem? (i := 128) rfl)) rfl
theorem q_369 : (Jvm.Cond.static ({ cls := "SolutionBoxes$Power", name := "isOf", desc := "(II)Z" } : Jvm.MethodName)) ∈ gw := gw_of (gw_2 (List.mem_of_getElem? (i := 129) rfl)) rfl
theorem q_370 : (Jvm.Cond.code ({ cls := "SolutionBoxes$Power", name := "isOf", desc := "(II)Z" } : Jvm.MethodName) prog_5_method_10_code (2 : Nat) (Option.some Jvm.ClassFile.FieldType.boolean)) ∈ gw := gw_of (gw_2 (List.mem_of_getElem? (i := 130) rfl)) rfl
theorem q_371 : (Jvm.Cond.methodLink "SolutionBoxes$Quotient" (70 : Nat) ({ cls := "SolutionBoxes$TakenList", name := "firstDividing", desc := "(I)I" } : Jvm.MethodName)) ∈ gw := gw_of (gw_2 (List.mem_of_getElem? (i := 131) rfl)) rfl
theorem q_372 : (Jvm.Cond.methodLink "SolutionBoxes$Solver" (84 : Nat) ({ cls := "SolutionBoxes$Quotient", name := "findProducts", desc := "(LSolutionBoxes$TakenList;LSolutionBoxes$Reducer;)V" } : Jvm.MethodName)) ∈ gw := gw_of (gw_2 (List.mem_of_getElem? (i := 132) rfl)) rfl
theorem q_373 : (Jvm.Cond.instanceMethod ({ cls := "SolutionBoxes$Quotient", name := "findProducts", desc := "(LSolutionBoxes$TakenList;LSolutionBoxes$Reducer;)V" } : Jvm.MethodName)) ∈ gw := gw_of (gw_2 (List.mem_of_getElem? (i := 133) rfl)) rfl
theorem q_374 : (Jvm.Cond.selects "SolutionBoxes$Quotient" ({ cls := "SolutionBoxes$Quotient", name := "findProducts", desc := "(LSolutionBoxes$TakenList;LSolutionBoxes$Reducer;)V" } : Jvm.MethodName) ({ cls := "SolutionBoxes$Quotient", name := "findProducts", desc := "(LSolutionBoxes$TakenList;LSolutionBoxes$Reducer;)V" } : Jvm.MethodName)) ∈ gw := gw_of (gw_2 (List.mem_of_getElem? (i := 134) rfl)) rfl
theorem q_375 : (Jvm.Cond.code ({ cls := "SolutionBoxes$Quotient", name := "findProducts", desc := "(LSolutionBoxes$TakenList;LSolutionBoxes$Reducer;)V" } : Jvm.MethodName) prog_6_method_3_code (6 : Nat) (Option.none : Option Jvm.ClassFile.FieldType)) ∈ gw := gw_of (gw_2 (List.mem_of_getElem? (i := 135) rfl)) rfl
theorem q_376 : (Jvm.Cond.fieldLink "SolutionBoxes$Quotient" (75 : Nat) "SolutionBoxes$Power" "LETTER_KEYS" "[I") ∈ gw := gw_of (gw_2 (List.mem_of_getElem? (i := 136) rfl)) rfl
theorem q_377 : (Jvm.Cond.laysStatic "SolutionBoxes$Power" "LETTER_KEYS" "[I") ∈ lw_tbl := gw_2 (List.mem_of_getElem? (i := 137) rfl)
theorem q_378 : (Jvm.Cond.methodLink "SolutionBoxes$Quotient" (78 : Nat) ({ cls := "SolutionBoxes$Reducer", name := "writeReduced", desc := "(LSolutionBoxes$TakenList;ILSolutionBoxes$Quotient;[I)V" } : Jvm.MethodName)) ∈ gw := gw_of (gw_2 (List.mem_of_getElem? (i := 138) rfl)) rfl
theorem q_379 : (Jvm.Cond.instanceMethod ({ cls := "SolutionBoxes$Reducer", name := "writeReduced", desc := "(LSolutionBoxes$TakenList;ILSolutionBoxes$Quotient;[I)V" } : Jvm.MethodName)) ∈ gw := gw_of (gw_2 (List.mem_of_getElem? (i := 139) rfl)) rfl
theorem q_380 : (Jvm.Cond.selects "SolutionBoxes$Reducer" ({ cls := "SolutionBoxes$Reducer", name := "writeReduced", desc := "(LSolutionBoxes$TakenList;ILSolutionBoxes$Quotient;[I)V" } : Jvm.MethodName) ({ cls := "SolutionBoxes$Reducer", name := "writeReduced", desc := "(LSolutionBoxes$TakenList;ILSolutionBoxes$Quotient;[I)V" } : Jvm.MethodName)) ∈ gw := gw_of (gw_2 (List.mem_of_getElem? (i := 140) rfl)) rfl
theorem q_381 : (Jvm.Cond.code ({ cls := "SolutionBoxes$Reducer", name := "writeReduced", desc := "(LSolutionBoxes$TakenList;ILSolutionBoxes$Quotient;[I)V" } : Jvm.MethodName) prog_7_method_4_code (8 : Nat) (Option.none : Option Jvm.ClassFile.FieldType)) ∈ gw := gw_of (gw_2 (List.mem_of_getElem? (i := 141) rfl)) rfl
theorem q_382 : (Jvm.Cond.methodLink "SolutionBoxes$Quotient" (82 : Nat) ({ cls := "SolutionBoxes$Quotient", name := "noteLower", desc := "(III)V" } : Jvm.MethodName)) ∈ gw := gw_of (gw_2 (List.mem_of_getElem? (i := 142) rfl)) rfl
theorem q_383 : (Jvm.Cond.privateMethod ({ cls := "SolutionBoxes$Quotient", name := "noteLower", desc := "(III)V" } : Jvm.MethodName)) ∈ lw_tbl := gw_2 (List.mem_of_getElem? (i := 143) rfl)
theorem q_384 : (Jvm.Cond.instanceMethod ({ cls := "SolutionBoxes$Quotient", name := "noteLower", desc := "(III)V" } : Jvm.MethodName)) ∈ gw := gw_of (gw_2 (List.mem_of_getElem? (i := 144) rfl)) rfl
theorem q_385 : (Jvm.Cond.code ({ cls := "SolutionBoxes$Quotient", name := "noteLower", desc := "(III)V" } : Jvm.MethodName) prog_6_method_4_code (5 : Nat) (Option.none : Option Jvm.ClassFile.FieldType)) ∈ gw := gw_of (gw_2 (List.mem_of_getElem? (i := 145) rfl)) rfl
theorem q_386 : (Jvm.Cond.methodLink "SolutionBoxes$Solver" (88 : Nat) ({ cls := "SolutionBoxes$Quotient", name := "findLeast", desc := "(ILSolutionBoxes$OneLetter;)V" } : Jvm.MethodName)) ∈ gw := gw_of (gw_2 (List.mem_of_getElem? (i := 146) rfl)) rfl
theorem q_387 : (Jvm.Cond.instanceMethod ({ cls := "SolutionBoxes$Quotient", name := "findLeast", desc := "(ILSolutionBoxes$OneLetter;)V" } : Jvm.MethodName)) ∈ gw := gw_of (gw_2 (List.mem_of_getElem? (i := 147) rfl)) rfl
theorem q_388 : (Jvm.Cond.selects "SolutionBoxes$Quotient" ({ cls := "SolutionBoxes$Quotient", name := "findLeast", desc := "(ILSolutionBoxes$OneLetter;)V" } : Jvm.MethodName) ({ cls := "SolutionBoxes$Quotient", name := "findLeast", desc := "(ILSolutionBoxes$OneLetter;)V" } : Jvm.MethodName)) ∈ gw := gw_of (gw_2 (List.mem_of_getElem? (i := 148) rfl)) rfl
theorem q_389 : (Jvm.Cond.code ({ cls := "SolutionBoxes$Quotient", name := "findLeast", desc := "(ILSolutionBoxes$OneLetter;)V" } : Jvm.MethodName) prog_6_method_7_code (4 : Nat) (Option.none : Option Jvm.ClassFile.FieldType)) ∈ gw := gw_of (gw_2 (List.mem_of_getElem? (i := 149) rfl)) rfl
theorem q_390 : (Jvm.Cond.methodLink "SolutionBoxes$Quotient" (95 : Nat) ({ cls := "SolutionBoxes$Quotient", name := "setOne", desc := "([I)V" } : Jvm.MethodName)) ∈ gw := gw_of (gw_2 (List.mem_of_getElem? (i := 150) rfl)) rfl
theorem q_391 : (Jvm.Cond.privateMethod ({ cls := "SolutionBoxes$Quotient", name := "setOne", desc := "([I)V" } : Jvm.MethodName)) ∈ lw_tbl := gw_2 (List.mem_of_getElem? (i := 151) rfl)
theorem q_392 : (Jvm.Cond.instanceMethod ({ cls := "SolutionBoxes$Quotient", name := "setOne", desc := "([I)V" } : Jvm.MethodName)) ∈ gw := gw_of (gw_2 (List.mem_of_getElem? (i := 152) rfl)) rfl
theorem q_393 : (Jvm.Cond.code ({ cls := "SolutionBoxes$Quotient", name := "setOne", desc := "([I)V" } : Jvm.MethodName) prog_6_method_6_code (2 : Nat) (Option.none : Option Jvm.ClassFile.FieldType)) ∈ gw := gw_of (gw_2 (List.mem_of_getElem? (i := 153) rfl)) rfl
theorem q_394 : (Jvm.Cond.methodLink "SolutionBoxes$Quotient" (88 : Nat) ({ cls := "java/util/Arrays", name := "fill", desc := "([II)V" } : Jvm.MethodName)) ∈ gw := gw_of (gw_2 (List.mem_of_getElem? (i := 154) rfl)) rfl
theorem q_395 : (Jvm.Cond.static ({ cls := "java/util/Arrays", name := "fill", desc := "([II)V" } : Jvm.MethodName)) ∈ gw := gw_of (gw_2 (List.mem_of_getElem? (i := 155) rfl)) rfl
theorem q_396 : (Jvm.Cond.code ({ cls := "java/util/Arrays", name := "fill", desc := "([II)V" } : Jvm.MethodName) prog_25_method_103_code (4 : Nat) (Option.none : Option Jvm.ClassFile.FieldType)) ∈ gw := gw_of (gw_2 (List.mem_of_getElem? (i := 156) rfl)) rfl
theorem q_397 : (Jvm.Cond.methodLink "SolutionBoxes$Quotient" (99 : Nat) ({ cls := "java/lang/System", name := "arraycopy", desc := "(Ljava/lang/Object;ILjava/lang/Object;II)V" } : Jvm.MethodName)) ∈ gw := gw_of (gw_2 (List.mem_of_getElem? (i := 157) rfl)) rfl
theorem q_398 : (Jvm.Cond.static ({ cls := "java/lang/System", name := "arraycopy", desc := "(Ljava/lang/Object;ILjava/lang/Object;II)V" } : Jvm.MethodName)) ∈ gw := gw_of (gw_2 (List.mem_of_getElem? (i := 158) rfl)) rfl
theorem q_399 : (Jvm.Cond.native ({ cls := "java/lang/System", name := "arraycopy", desc := "(Ljava/lang/Object;ILjava/lang/Object;II)V" } : Jvm.MethodName)) ∈ lw_tbl := gw_2 (List.mem_of_getElem? (i := 159) rfl)
theorem q_400 : (Jvm.Cond.methodLink "SolutionBoxes$Quotient" (105 : Nat) ({ cls := "SolutionBoxes$Span", name := "add", desc := "([II)Z" } : Jvm.MethodName)) ∈ gw := gw_of (gw_2 (List.mem_of_getElem? (i := 160) rfl)) rfl
theorem q_401 : (Jvm.Cond.instanceMethod ({ cls := "SolutionBoxes$Span", name := "add", desc := "([II)Z" } : Jvm.MethodName)) ∈ gw := gw_of (gw_2 (List.mem_of_getElem? (i := 161) rfl)) rfl
theorem q_402 : (Jvm.Cond.selects "SolutionBoxes$Span" ({ cls := "SolutionBoxes$Span", name := "add", desc := "([II)Z" } : Jvm.MethodName) ({ cls := "SolutionBoxes$Span", name := "add", desc := "([II)Z" } : Jvm.MethodName)) ∈ gw := gw_of (gw_2 (List.mem_of_getElem? (i := 162) rfl)) rfl
theorem q_403 : (Jvm.Cond.code ({ cls := "SolutionBoxes$Span", name := "add", desc := "([II)Z" } : Jvm.MethodName) prog_10_method_2_code (4 : Nat) (Option.some Jvm.ClassFile.FieldType.boolean)) ∈ gw := gw_of (gw_2 (List.mem_of_getElem? (i := 163) rfl)) rfl
theorem q_404 : (Jvm.Cond.methodLink "SolutionBoxes$Span" (24 : Nat) ({ cls := "SolutionBoxes$Span", name := "takeOff", desc := "([II)V" } : Jvm.MethodName)) ∈ gw := gw_of (gw_2 (List.mem_of_getElem? (i := 164) rfl)) rfl
theorem q_405 : (Jvm.Cond.privateMethod ({ cls := "SolutionBoxes$Span", name := "takeOff", desc := "([II)V" } : Jvm.MethodName)) ∈ lw_tbl := gw_2 (List.mem_of_getElem? (i := 165) rfl)
theorem q_406 : (Jvm.Cond.instanceMethod ({ cls := "SolutionBoxes$Span", name := "takeOff", desc := "([II)V" } : Jvm.MethodName)) ∈ gw := gw_of (gw_2 (List.mem_of_getElem? (i := 166) rfl)) rfl
theorem q_407 : (Jvm.Cond.code ({ cls := "SolutionBoxes$Span", name := "takeOff", desc := "([II)V" } : Jvm.MethodName) prog_10_method_3_code (6 : Nat) (Option.none : Option Jvm.ClassFile.FieldType)) ∈ gw := gw_of (gw_2 (List.mem_of_getElem? (i := 167) rfl)) rfl
theorem q_408 : (Jvm.Cond.methodLink "SolutionBoxes$Span" (28 : Nat) ({ cls := "SolutionBoxes$Span", name := "keep", desc := "([II)V" } : Jvm.MethodName)) ∈ gw := gw_of (gw_2 (List.mem_of_getElem? (i := 168) rfl)) rfl
theorem q_409 : (Jvm.Cond.privateMethod ({ cls := "SolutionBoxes$Span", name := "keep", desc := "([II)V" } : Jvm.MethodName)) ∈ lw_tbl := gw_2 (List.mem_of_getElem? (i := 169) rfl)
theorem q_410 : (Jvm.Cond.instanceMethod ({ cls := "SolutionBoxes$Span", name := "keep", desc := "([II)V" } : Jvm.MethodName)) ∈ gw := gw_of (gw_2 (List.mem_of_getElem? (i := 170) rfl)) rfl
theorem q_411 : (Jvm.Cond.code ({ cls := "SolutionBoxes$Span", name := "keep", desc := "([II)V" } : Jvm.MethodName) prog_10_method_4_code (6 : Nat) (Option.none : Option Jvm.ClassFile.FieldType)) ∈ gw := gw_of (gw_2 (List.mem_of_getElem? (i := 171) rfl)) rfl
theorem q_412 : (Jvm.Cond.methodLinkNest "SolutionBoxes$Span" (31 : Nat) ({ cls := "SolutionBoxes", name := "inverse", desc := "(I)I" } : Jvm.MethodName) "SolutionBoxes") ∈ lw_tbl := gw_2 (List.mem_of_getElem? (i := 172) rfl)
theorem q_413 : (Jvm.Cond.static ({ cls := "SolutionBoxes", name := "inverse", desc := "(I)I" } : Jvm.MethodName)) ∈ gw := gw_of (gw_2 (List.mem_of_getElem? (i := 173) rfl)) rfl
theorem q_414 : (Jvm.Cond.code ({ cls := "SolutionBoxes", name := "inverse", desc := "(I)I" } : Jvm.MethodName) prog_1_method_21_code (4 : Nat) (Option.some Jvm.ClassFile.FieldType.int)) ∈ gw := gw_of (gw_2 (List.mem_of_getElem? (i := 174) rfl)) rfl
theorem q_415 : (Jvm.Cond.methodLink "SolutionBoxes$Quotient" (109 : Nat) ({ cls := "SolutionBoxes$OneLetter", name := "assign", desc := "([III)V" } : Jvm.MethodName)) ∈ gw := gw_of (gw_2 (List.mem_of_getElem? (i := 175) rfl)) rfl
theorem q_416 : (Jvm.Cond.instanceMethod ({ cls := "SolutionBoxes$OneLetter", name := "assign", desc := "([III)V" } : Jvm.MethodName)) ∈ gw := gw_of (gw_2 (List.mem_of_getElem? (i := 176) rfl)) rfl
theorem q_417 : (Jvm.Cond.selects "SolutionBoxes$OneLetter" ({ cls := "SolutionBoxes$OneLetter", name := "assign", desc := "([III)V" } : Jvm.MethodName) ({ cls := "SolutionBoxes$OneLetter", name := "assign", desc := "([III)V" } : Jvm.MethodName)) ∈ gw := gw_of (gw_2 (List.mem_of_getElem? (i := 177) rfl)) rfl
theorem q_418 : (Jvm.Cond.code ({ cls := "SolutionBoxes$OneLetter", name := "assign", desc := "([III)V" } : Jvm.MethodName) prog_2_method_3_code (5 : Nat) (Option.none : Option Jvm.ClassFile.FieldType)) ∈ gw := gw_of (gw_2 (List.mem_of_getElem? (i := 178) rfl)) rfl
theorem q_419 : (Jvm.Cond.methodLink "SolutionBoxes$OneLetter" (19 : Nat) ({ cls := "SolutionBoxes$OneLetter", name := "settle", desc := "(I)V" } : Jvm.MethodName)) ∈ gw := gw_of (gw_2 (List.mem_of_getElem? (i := 179) rfl)) rfl
theorem q_420 : (Jvm.Cond.privateMethod ({ cls := "SolutionBoxes$OneLetter", name := "settle", desc := "(I)V" } : Jvm.MethodName)) ∈ lw_tbl := gw_2 (List.mem_of_getElem? (i := 180) rfl)
theorem q_421 : (Jvm.Cond.instanceMethod ({ cls := "SolutionBoxes$OneLetter", name := "settle", desc := "(I)V" } : Jvm.MethodName)) ∈ gw := gw_of (gw_2 (List.mem_of_getElem? (i := 181) rfl)) rfl
theorem q_422 : (Jvm.Cond.code ({ cls := "SolutionBoxes$OneLetter", name := "settle", desc := "(I)V" } : Jvm.MethodName) prog_2_method_5_code (2 : Nat) (Option.none : Option Jvm.ClassFile.FieldType)) ∈ gw := gw_of (gw_2 (List.mem_of_getElem? (i := 182) rfl)) rfl
theorem q_423 : (Jvm.Cond.methodLink "SolutionBoxes$OneLetter" (29 : Nat) ({ cls := "java/lang/Math", name := "min", desc := "(II)I" } : Jvm.MethodName)) ∈ gw := gw_of (gw_2 (List.mem_of_getElem? (i := 183) rfl)) rfl
theorem q_424 : (Jvm.Cond.methodLink "SolutionBoxes$Quotient" (115 : Nat) ({ cls := "SolutionBoxes$Quotient", name := "multiply", desc := "(I[I[I)V" } : Jvm.MethodName)) ∈ gw := gw_of (gw_2 (List.mem_of_getElem? (i := 184) rfl)) rfl
theorem q_425 : (Jvm.Cond.privateMethod ({ cls := "SolutionBoxes$Quotient", name := "multiply", desc := "(I[I[I)V" } : Jvm.MethodName)) ∈ lw_tbl := gw_2 (List.mem_of_getElem? (i := 185) rfl)
theorem q_426 : (Jvm.Cond.instanceMethod ({ cls := "SolutionBoxes$Quotient", name := "multiply", desc := "(I[I[I)V" } : Jvm.MethodName)) ∈ gw := gw_of (gw_2 (List.mem_of_getElem? (i := 186) rfl)) rfl
theorem q_427 : (Jvm.Cond.code ({ cls := "SolutionBoxes$Quotient", name := "multiply", desc := "(I[I[I)V" } : Jvm.MethodName) prog_6_method_5_code (8 : Nat) (Option.none : Option Jvm.ClassFile.FieldType)) ∈ gw := gw_of (gw_2 (List.mem_of_getElem? (i := 187) rfl)) rfl
theorem q_428 : (Jvm.Cond.constantLong "SolutionBoxes$Quotient" (86 : Nat) (32003 : Int64)) ∈ gw := gw_of (gw_2 (List.mem_of_getElem? (i := 188) rfl)) rfl
theorem q_429 : (Jvm.Cond.methodLink "SolutionBoxes$Solver" (92 : Nat) ({ cls := "SolutionBoxes$Roots", name := "find", desc := "(LSolutionBoxes$OneLetter;[I)I" } : Jvm.MethodName)) ∈ gw := gw_of (gw_2 (List.mem_of_getElem? (i := 189) rfl)) rfl
theorem q_430 : (Jvm.Cond.instanceMethod ({ cls := "SolutionBoxes$Roots", name := "find", desc := "(LSolutionBoxes$OneLetter;[I)I" } : Jvm.MethodName)) ∈ gw := gw_of (gw_2 (List.mem_of_getElem? (i := 190) rfl)) rfl
theorem q_431 : (Jvm.Cond.selects "SolutionBoxes$Roots" ({ cls := "SolutionBoxes$Roots", name := "find", desc := "(LSolutionBoxes$OneLetter;[I)I" } : Jvm.MethodName) ({ cls := "SolutionBoxes$Roots", name := "find", desc := "(LSolutionBoxes$OneLetter;[I)I" } : Jvm.MethodName)) ∈ gw := gw_of (gw_2 (List.mem_of_getElem? (i := 191) rfl)) rfl
theorem q_432 : (Jvm.Cond.code ({ cls := "SolutionBoxes$Roots", name := "find", desc := "(LSolutionBoxes$OneLetter;[I)I" } : Jvm.MethodName) prog_8_method_2_code (7 : Nat) (Option.some Jvm.ClassFile.FieldType.int)) ∈ gw := gw_of (gw_2 (List.mem_of_getElem? (i := 192) rfl)) rfl
theorem q_433 : (Jvm.Cond.methodLink "SolutionBoxes$Roots" (29 : Nat) ({ cls := "SolutionBoxes$OneLetter", name := "becomePower", desc := "(IILSolutionBoxes$OneLetter;)V" } : Jvm.MethodName)) ∈ gw := gw_of (gw_2 (List.mem_of_getElem? (i := 193) rfl)) rfl
theorem q_434 : (Jvm.Cond.instanceMethod ({ cls := "SolutionBoxes$OneLetter", name := "becomePower", desc := "(IILSolutionBoxes$OneLetter;)V" } : Jvm.MethodName)) ∈ gw := gw_of (gw_2 (List.mem_of_getElem? (i := 194) rfl)) rfl
theorem q_435 : (Jvm.Cond.selects "SolutionBoxes$OneLetter" ({ cls := "SolutionBoxes$OneLetter", name := "becomePower", desc := "(IILSolutionBoxes$OneLetter;)V" } : Jvm.MethodName) ({ cls := "SolutionBoxes$OneLetter", name := "becomePower", desc := "(IILSolutionBoxes$OneLetter;)V" } : Jvm.MethodName)) ∈ gw := gw_of (gw_2 (List.mem_of_getElem? (i := 195) rfl)) rfl
theorem q_436 : (Jvm.Cond.code ({ cls := "SolutionBoxes$OneLetter", name := "becomePower", desc := "(IILSolutionBoxes$OneLetter;)V" } : Jvm.MethodName) prog_2_method_11_code (5 : Nat) (Option.none : Option Jvm.ClassFile.FieldType)) ∈ gw := gw_of (gw_2 (List.mem_of_getElem? (i := 196) rfl)) rfl
theorem q_437 : (Jvm.Cond.methodLink "SolutionBoxes$OneLetter" (46 : Nat) ({ cls := "java/util/Arrays", name := "fill", desc := "([II)V" } : Jvm.MethodName)) ∈ gw := gw_of (gw_2 (List.mem_of_getElem? (i := 197) rfl)) rfl
theorem q_438 : (Jvm.Cond.methodLink "SolutionBoxes$OneLetter" (52 : Nat) ({ cls := "SolutionBoxes$OneLetter", name := "square", desc := "()V" } : Jvm.MethodName)) ∈ gw := gw_of (gw_2 (List.mem_of_getElem? (i := 198) rfl)) rfl
theorem q_439 : (Jvm.Cond.privateMethod ({ cls := "SolutionBoxes$OneLetter", name := "square", desc := "()V" } : Jvm.MethodName)) ∈ lw_tbl := gw_2 (List.mem_of_getElem? (i := 199) rfl)
theorem q_440 : (Jvm.Cond.instanceMethod ({ cls := "SolutionBoxes$OneLetter", name := "square", desc := "()V" } : Jvm.MethodName)) ∈ gw := gw_of (gw_2 (List.mem_of_getElem? (i := 200) rfl)) rfl
theorem q_441 : (Jvm.Cond.code ({ cls := "SolutionBoxes$OneLetter", name := "square", desc := "()V" } : Jvm.MethodName) prog_2_method_12_code (5 : Nat) (Option.none : Option Jvm.ClassFile.FieldType)) ∈ gw := gw_of (gw_2 (List.mem_of_getElem? (i := 201) rfl)) rfl
theorem q_442 : (Jvm.Cond.methodLink "SolutionBoxes$OneLetter" (35 : Nat) ({ cls := "java/lang/Math", name := "max", desc := "(II)I" } : Jvm.MethodName)) ∈ gw := gw_of (gw_2 (List.mem_of_getElem? (i := 202) rfl)) rfl
theorem q_443 : (Jvm.Cond.constantLong "SolutionBoxes$OneLetter" (61 : Nat) (32003 : Int64)) ∈ gw := gw_of (gw_2 (List.mem_of_getElem? (i := 203) rfl)) rfl
theorem q_444 : (Jvm.Cond.methodLink "SolutionBoxes$OneLetter" (55 : Nat) ({ cls := "SolutionBoxes$OneLetter", name := "becomeRemainder", desc := "(LSolutionBoxes$OneLetter;)V" } : Jvm.MethodName)) ∈ gw := gw_of (gw_2 (List.mem_of_getElem? (i := 204) rfl)) rfl
theorem q_445 : (Jvm.Cond.instanceMethod ({ cls := "SolutionBoxes$OneLetter", name := "becomeRemainder", desc := "(LSolutionBoxes$OneLetter;)V" } : Jvm.MethodName)) ∈ gw := gw_of (gw_2 (List.mem_of_getElem? (i := 205) rfl)) rfl
theorem q_446 : (Jvm.Cond.selects "SolutionBoxes$OneLetter" ({ cls := "SolutionBoxes$OneLetter", name := "becomeRemainder", desc := "(LSolutionBoxes$OneLetter;)V" } : Jvm.MethodName) ({ cls := "SolutionBoxes$OneLetter", name := "becomeRemainder", desc := "(LSolutionBoxes$OneLetter;)V" } : Jvm.MethodName)) ∈ gw := gw_of (gw_2 (List.mem_of_getElem? (i := 206) rfl)) rfl
theorem q_447 : (Jvm.Cond.code ({ cls := "SolutionBoxes$OneLetter", name := "becomeRemainder", desc := "(LSolutionBoxes$OneLetter;)V" } : Jvm.MethodName) prog_2_method_9_code (3 : Nat) (Option.none : Option Jvm.ClassFile.FieldType)) ∈ gw := gw_of (gw_2 (List.mem_of_getElem? (i := 207) rfl)) rfl
theorem q_448 : (Jvm.Cond.methodLink "SolutionBoxes$OneLetter" (42 : Nat) ({ cls := "SolutionBoxes$OneLetter", name := "divide", desc := "(LSolutionBoxes$OneLetter;)V" } : Jvm.MethodName)) ∈ gw := gw_of (gw_2 (List.mem_of_getElem? (i := 208) rfl)) rfl
theorem q_449 : (Jvm.Cond.privateMethod ({ cls := "SolutionBoxes$OneLetter", name := "divide", desc := "(LSolutionBoxes$OneLetter;)V" } : Jvm.MethodName)) ∈ lw_tbl := gw_2 (List.mem_of_getElem? (i := 209) rfl)
theorem q_450 : (Jvm.Cond.instanceMethod ({ cls := "SolutionBoxes$OneLetter", name := "divide", desc := "(LSolutionBoxes$OneLetter;)V" } : Jvm.MethodName)) ∈ gw := gw_of (gw_2 (List.mem_of_getElem? (i := 210) rfl)) rfl
theorem q_451 : (Jvm.Cond.code ({ cls := "SolutionBoxes$OneLetter", name := "divide", desc := "(LSolutionBoxes$OneLetter;)V" } : Jvm.MethodName) prog_2_method_8_code (5 : Nat) (Option.none : Option Jvm.ClassFile.FieldType)) ∈ gw := gw_of (gw_2 (List.mem_of_getElem? (i := 211) rfl)) rfl
theorem q_452 : (Jvm.Cond.methodLink "SolutionBoxes$OneLetter" (58 : Nat) ({ cls := "SolutionBoxes$OneLetter", name := "multiplyByShifted", desc := "(I)V" } : Jvm.MethodName)) ∈ gw := gw_of (gw_2 (List.mem_of_getElem? (i := 212) rfl)) rfl
theorem q_453 : (Jvm.Cond.privateMethod ({ cls := "SolutionBoxes$OneLetter", name := "multiplyByShifted", desc := "(I)V" } : Jvm.MethodName)) ∈ lw_tbl := gw_2 (List.mem_of_getElem? (i := 213) rfl)
theorem q_454 : (Jvm.Cond.instanceMethod ({ cls := "SolutionBoxes$OneLetter", name := "multiplyByShifted", desc := "(I)V" } : Jvm.MethodName)) ∈ gw := gw_of (gw_2 (List.mem_of_getElem? (i := 214) rfl)) rfl
theorem q_455 : (Jvm.Cond.code ({ cls := "SolutionBoxes$OneLetter", name := "multiplyByShifted", desc := "(I)V" } : Jvm.MethodName) prog_2_method_13_code (3 : Nat) (Option.none : Option Jvm.ClassFile.FieldType)) ∈ gw := gw_of (gw_2 (List.mem_of_getElem? (i := 215) rfl)) rfl
theorem q_456 : (Jvm.Cond.methodLink "SolutionBoxes$Roots" (33 : Nat) ({ cls := "SolutionBoxes$OneLetter", name := "addTo", desc := "(II)V" } : Jvm.MethodName)) ∈ gw := gw_of (gw_2 (List.mem_of_getElem? (i := 216) rfl)) rfl
theorem q_457 : (Jvm.Cond.instanceMethod ({ cls := "SolutionBoxes$OneLetter", name := "addTo", desc := "(II)V" } : Jvm.MethodName)) ∈ gw := gw_of (gw_2 (List.mem_of_getElem? (i := 217) rfl)) rfl
theorem q_458 : (Jvm.Cond.selects "SolutionBoxes$OneLetter" ({ cls := "SolutionBoxes$OneLetter", name := "addTo", desc := "(II)V" } : Jvm.MethodName) ({ cls := "SolutionBoxes$OneLetter", name := "addTo", desc := "(II)V" } : Jvm.MethodName)) ∈ gw := gw_of (gw_2 (List.mem_of_getElem? (i := 218) rfl)) rfl
theorem q_459 : (Jvm.Cond.code ({ cls := "SolutionBoxes$OneLetter", name := "addTo", desc := "(II)V" } : Jvm.MethodName) prog_2_method_6_code (3 : Nat) (Option.none : Option Jvm.ClassFile.FieldType)) ∈ gw := gw_of (gw_2 (List.mem_of_getElem? (i := 219) rfl)) rfl
theorem q_460 : (Jvm.Cond.methodLink "SolutionBoxes$Roots" (37 : Nat) ({ cls := "SolutionBoxes$OneLetter", name := "copy", desc := "(LSolutionBoxes$OneLetter;)V" } : Jvm.MethodName)) ∈ gw := gw_of (gw_2 (List.mem_of_getElem? (i := 220) rfl)) rfl
theorem q_461 : (Jvm.Cond.instanceMethod ({ cls := "SolutionBoxes$OneLetter", name := "copy", desc := "(LSolutionBoxes$OneLetter;)V" } : Jvm.MethodName)) ∈ gw := gw_of (gw_2 (List.mem_of_getElem? (i := 221) rfl)) rfl
theorem q_462 : (Jvm.Cond.selects "SolutionBoxes$OneLetter" ({ cls := "SolutionBoxes$OneLetter", name := "copy", desc := "(LSolutionBoxes$OneLetter;)V" } : Jvm.MethodName) ({ cls := "SolutionBoxes$OneLetter", name := "copy", desc := "(LSolutionBoxes$OneLetter;)V" } : Jvm.MethodName)) ∈ gw := gw_of (gw_2 (List.mem_of_getElem? (i := 222) rfl)) rfl
theorem q_463 : (Jvm.Cond.code ({ cls := "SolutionBoxes$OneLetter", name := "copy", desc := "(LSolutionBoxes$OneLetter;)V" } : Jvm.MethodName) prog_2_method_4_code (2 : Nat) (Option.none : Option Jvm.ClassFile.FieldType)) ∈ gw := gw_of (gw_2 (List.mem_of_getElem? (i := 223) rfl)) rfl
theorem q_464 : (Jvm.Cond.methodLink "SolutionBoxes$OneLetter" (23 : Nat) ({ cls := "java/lang/System", name := "arraycopy", desc := "(Ljava/lang/Object;ILjava/lang/Object;II)V" } : Jvm.MethodName)) ∈ gw := gw_of (gw_2 (List.mem_of_getElem? (i := 224) rfl)) rfl
theorem q_465 : (Jvm.Cond.methodLink "SolutionBoxes$Roots" (41 : Nat) ({ cls := "SolutionBoxes$Roots", name := "commonDivisor", desc := "(LSolutionBoxes$OneLetter;LSolutionBoxes$OneLetter;)LSolutionBoxes$OneLetter;" } : Jvm.MethodName)) ∈ gw := gw_of (gw_2 (List.mem_of_getElem? (i := 225) rfl)) rfl
theorem q_466 : (Jvm.Cond.static ({ cls := "SolutionBoxes$Roots", name := "commonDivisor", desc := "(LSolutionBoxes$OneLetter;LSolutionBoxes$OneLetter;)LSolutionBoxes$OneLetter;" } : Jvm.MethodName)) ∈ gw := gw_of (gw_2 (List.mem_of_getElem? (i := 226) rfl)) rfl
theorem q_467 : (Jvm.Cond.code ({ cls := "SolutionBoxes$Roots", name := "commonDivisor", desc := "(LSolutionBoxes$OneLetter;LSolutionBoxes$OneLetter;)LSolutionBoxes$OneLetter;" } : Jvm.MethodName) prog_8_method_4_code (6 : Nat) (Option.some (Jvm.ClassFile.FieldType.object "SolutionBoxes$OneLetter"))) ∈ gw := gw_of (gw_2 (List.mem_of_getElem? (i := 227) rfl)) rfl
theorem q_468 : (Jvm.Cond.methodLink "SolutionBoxes$Roots" (58 : Nat) ({ cls := "SolutionBoxes$OneLetter", name := "makeMonic", desc := "()V" } : Jvm.MethodName)) ∈ gw := gw_of (gw_2 (List.mem_of_getElem? (i := 228) rfl)) rfl
theorem q_469 : (Jvm.Cond.instanceMethod ({ cls := "SolutionBoxes$OneLetter", name := "makeMonic", desc := "()V" } : Jvm.MethodName)) ∈ gw := gw_of (gw_2 (List.mem_of_getElem? (i := 229) rfl)) rfl
theorem q_470 : (Jvm.Cond.selects "SolutionBoxes$OneLetter" ({ cls := "SolutionBoxes$OneLetter", name := "makeMonic", desc := "()V" } : Jvm.MethodName) ({ cls := "SolutionBoxes$OneLetter", name := "makeMonic", desc := "()V" } : Jvm.MethodName)) ∈ gw := gw_of (gw_2 (List.mem_of_getElem? (i := 230) rfl)) rfl
theorem q_471 : (Jvm.Cond.code ({ cls := "SolutionBoxes$OneLetter", name := "makeMonic", desc := "()V" } : Jvm.MethodName) prog_2_method_7_code (3 : Nat) (Option.none : Option Jvm.ClassFile.FieldType)) ∈ gw := gw_of (gw_2 (List.mem_of_getElem? (i := 231) rfl)) rfl
theorem q_472 : (Jvm.Cond.methodLinkNest "SolutionBoxes$OneLetter" (38 : Nat) ({ cls := "SolutionBoxes", name := "inverse", desc := "(I)I" } : Jvm.MethodName) "SolutionBoxes") ∈ lw_tbl := gw_2 (List.mem_of_getElem? (i := 232) rfl)
theorem q_473 : (Jvm.Cond.methodLink "SolutionBoxes$Roots" (61 : Nat) ({ cls := "SolutionBoxes$OneLetter", name := "becomeRemainder", desc := "(LSolutionBoxes$OneLetter;)V" } : Jvm.MethodName)) ∈ gw := gw_of (gw_2 (List.mem_of_getElem? (i := 233) rfl)) rfl
theorem q_474 : (Jvm.Cond.methodLink "SolutionBoxes$Roots" (48 : Nat) ({ cls := "SolutionBoxes$Roots", name := "split", desc := "(II)V" } : Jvm.MethodName)) ∈ gw := gw_of (gw_2 (List.mem_of_getElem? (i := 234) rfl)) rfl
theorem q_475 : (Jvm.Cond.privateMethod ({ cls := "SolutionBoxes$Roots", name := "split", desc := "(II)V" } : Jvm.MethodName)) ∈ lw_tbl := gw_2 (List.mem_of_getElem? (i := 235) rfl)
theorem q_476 : (Jvm.Cond.instanceMethod ({ cls := "SolutionBoxes$Roots", name := "split", desc := "(II)V" } : Jvm.MethodName)) ∈ gw := gw_of (gw_2 (List.mem_of_getElem? (i := 236) rfl)) rfl
theorem q_477 : (Jvm.Cond.code ({ cls := "SolutionBoxes$Roots", name := "split", desc := "(II)V" } : Jvm.MethodName) prog_8_method_3_code (5 : Nat) (Option.none : Option Jvm.ClassFile.FieldType)) ∈ gw := gw_of (gw_2 (List.mem_of_getElem? (i := 237) rfl)) rfl
theorem q_478 : (Jvm.Cond.methodLink "SolutionBoxes$Roots" (55 : Nat) ({ cls := "SolutionBoxes$OneLetter", name := "becomeQuotient", desc := "(LSolutionBoxes$OneLetter;)V" } : Jvm.MethodName)) ∈ gw := gw_of (gw_2 (List.mem_of_getElem? (i := 238) rfl)) rfl
theorem q_479 : (Jvm.Cond.instanceMethod ({ cls := "SolutionBoxes$OneLetter", name := "becomeQuotient", desc := "(LSolutionBoxes$OneLetter;)V" } : Jvm.MethodName)) ∈ gw := gw_of (gw_2 (List.mem_of_getElem? (i := 239) rfl)) rfl
theorem q_480 : (Jvm.Cond.selects "SolutionBoxes$OneLetter" ({ cls := "SolutionBoxes$OneLetter", name := "becomeQuotient", desc := "(LSolutionBoxes$OneLetter;)V" } : Jvm.MethodName) ({ cls := "SolutionBoxes$OneLetter", name := "becomeQuotient", desc := "(LSolutionBoxes$OneLetter;)V" } : Jvm.MethodName)) ∈ gw := gw_of (gw_3 (List.mem_of_getElem? (i := 0) rfl)) rfl
theorem q_481 : (Jvm.Cond.code ({ cls := "SolutionBoxes$OneLetter", name := "becomeQuotient", desc := "(LSolutionBoxes$OneLetter;)V" } : Jvm.MethodName) prog_2_method_10_code (4 : Nat) (Option.none : Option Jvm.ClassFile.FieldType)) ∈ gw := gw_of (gw_3 (List.mem_of_getElem? (i := 1) rfl)) rfl
theorem q_482 : (Jvm.Cond.methodLink "SolutionBoxes$Roots" (51 : Nat) ({ cls := "SolutionBoxes$Roots", name := "writeRoots", desc := "([I)I" } : Jvm.MethodName)) ∈ gw := gw_of (gw_3 (List.mem_of_getElem? (i := 2) rfl)) rfl
theorem q_483 : (Jvm.Cond.privateMethod ({ cls := "SolutionBoxes$Roots", name := "writeRoots", desc := "([I)I" } : Jvm.MethodName)) ∈ lw_tbl := gw_3 (List.mem_of_getElem? (i := 3) rfl)
theorem q_484 : (Jvm.Cond.instanceMethod ({ cls := "SolutionBoxes$Roots", name := "writeRoots", desc := "([I)I" } : Jvm.MethodName)) ∈ gw := gw_of (gw_3 (List.mem_of_getElem? (i := 4) rfl)) rfl
theorem q_485 : (Jvm.Cond.code ({ cls := "SolutionBoxes$Roots", name := "writeRoots", desc := "([I)I" } : Jvm.MethodName) prog_8_method_5_code (6 : Nat) (Option.some Jvm.ClassFile.FieldType.int)) ∈ gw := gw_of (gw_3 (List.mem_of_getElem? (i := 5) rfl)) rfl
theorem q_486 : (Jvm.Cond.methodLink "SolutionBoxes$Solver" (96 : Nat) ({ cls := "SolutionBoxes$Solver", name := "findZeros", desc := "(LSolutionBoxes$TakenList;)V" } : Jvm.MethodName)) ∈ gw := gw_of (gw_3 (List.mem_of_getElem? (i := 6) rfl)) rfl
theorem q_487 : (Jvm.Cond.privateMethod ({ cls := "SolutionBoxes$Solver", name := "findZeros", desc := "(LSolutionBoxes$TakenList;)V" } : Jvm.MethodName)) ∈ lw_tbl := gw_3 (List.mem_of_getElem? (i := 7) rfl)
theorem q_488 : (Jvm.Cond.instanceMethod ({ cls := "SolutionBoxes$Solver", name := "findZeros", desc := "(LSolutionBoxes$TakenList;)V" } : Jvm.MethodName)) ∈ gw := gw_of (gw_3 (List.mem_of_getElem? (i := 8) rfl)) rfl
theorem q_489 : (Jvm.Cond.code ({ cls := "SolutionBoxes$Solver", name := "findZeros", desc := "(LSolutionBoxes$TakenList;)V" } : Jvm.MethodName) prog_9_method_3_code (5 : Nat) (Option.none : Option Jvm.ClassFile.FieldType)) ∈ gw := gw_of (gw_3 (List.mem_of_getElem? (i := 9) rfl)) rfl
theorem q_490 : (Jvm.Cond.methodLink "SolutionBoxes$Solver" (104 : Nat) ({ cls := "SolutionBoxes$Point", name := "move", desc := "(II)V" } : Jvm.MethodName)) ∈ gw := gw_of (gw_3 (List.mem_of_getElem? (i := 10) rfl)) rfl
theorem q_491 : (Jvm.Cond.instanceMethod ({ cls := "SolutionBoxes$Point", name := "move", desc := "(II)V" } : Jvm.MethodName)) ∈ gw := gw_of (gw_3 (List.mem_of_getElem? (i := 11) rfl)) rfl
theorem q_492 : (Jvm.Cond.selects "SolutionBoxes$Point" ({ cls := "SolutionBoxes$Point", name := "move", desc := "(II)V" } : Jvm.MethodName) ({ cls := "SolutionBoxes$Point", name := "move", desc := "(II)V" } : Jvm.MethodName)) ∈ gw := gw_of (gw_3 (List.mem_of_getElem? (i := 12) rfl)) rfl
theorem q_493 : (Jvm.Cond.code ({ cls := "SolutionBoxes$Point", name := "move", desc := "(II)V" } : Jvm.MethodName) prog_3_method_2_code (4 : Nat) (Option.none : Option Jvm.ClassFile.FieldType)) ∈ gw := gw_of (gw_3 (List.mem_of_getElem? (i := 13) rfl)) rfl
theorem q_494 : (Jvm.Cond.methodLink "SolutionBoxes$Solver" (108 : Nat) ({ cls := "SolutionBoxes$TakenList", name := "vanishesAt", desc := "(LSolutionBoxes$Point;)Z" } : Jvm.MethodName)) ∈ gw := gw_of (gw_3 (List.mem_of_getElem? (i := 14) rfl)) rfl
theorem q_495 : (Jvm.Cond.instanceMethod ({ cls := "SolutionBoxes$TakenList", name := "vanishesAt", desc := "(LSolutionBoxes$Point;)Z" } : Jvm.MethodName)) ∈ gw := gw_of (gw_3 (List.mem_of_getElem? (i := 15) rfl)) rfl
theorem q_496 : (Jvm.Cond.selects "SolutionBoxes$TakenList" ({ cls := "SolutionBoxes$TakenList", name := "vanishesAt", desc := "(LSolutionBoxes$Point;)Z" } : Jvm.MethodName) ({ cls := "SolutionBoxes$TakenList", name := "vanishesAt", desc := "(LSolutionBoxes$Point;)Z" } : Jvm.MethodName)) ∈ gw := gw_of (gw_3 (List.mem_of_getElem? (i := 16) rfl)) rfl
theorem q_497 : (Jvm.Cond.code ({ cls := "SolutionBoxes$TakenList", name := "vanishesAt", desc := "(LSolutionBoxes$Point;)Z" } : Jvm.MethodName) prog_11_method_6_code (3 : Nat) (Option.some Jvm.ClassFile.FieldType.boolean)) ∈ gw := gw_of (gw_3 (List.mem_of_getElem? (i := 17) rfl)) rfl
theorem q_498 : (Jvm.Cond.methodLink "SolutionBoxes$TakenList" (52 : Nat) ({ cls := "SolutionBoxes$Polynomial", name := "valueAt", desc := "(LSolutionBoxes$Point;)I" } : Jvm.MethodName)) ∈ gw := gw_of (gw_3 (List.mem_of_getElem? (i := 18) rfl)) rfl
theorem q_499 : (Jvm.Cond.instanceMethod ({ cls := "SolutionBoxes$Polynomial", name := "valueAt", desc := "(LSolutionBoxes$Point;)I" } : Jvm.MethodName)) ∈ gw := gw_of (gw_3 (List.mem_of_getElem? (i := 19) rfl)) rfl
theorem q_500 : (Jvm.Cond.selects "SolutionBoxes$Polynomial" ({ cls := "SolutionBoxes$Polynomial", name := "valueAt", desc := "(LSolutionBoxes$Point;)I" } : Jvm.MethodName) ({ cls := "SolutionBoxes$Polynomial", name := "valueAt", desc := "(LSolutionBoxes$Point;)I" } : Jvm.MethodName)) ∈ gw := gw_of (gw_3 (List.mem_of_getElem? (i := 20) rfl)) rfl
theorem q_501 : (Jvm.Cond.code ({ cls := "SolutionBoxes$Polynomial", name := "valueAt", desc := "(LSolutionBoxes$Point;)I" } : Jvm.MethodName) prog_4_method_7_code (4 : Nat) (Option.some Jvm.ClassFile.FieldType.int)) ∈ gw := gw_of (gw_3 (List.mem_of_getElem? (i := 21) rfl)) rfl
theorem q_502 : (Jvm.Cond.methodLink "SolutionBoxes$Polynomial" (39 : Nat) ({ cls := "SolutionBoxes$Point", name := "powerValue", desc := "(I)I" } : Jvm.MethodName)) ∈ gw := gw_of (gw_3 (List.mem_of_getElem? (i := 22) rfl)) rfl
theorem q_503 : (Jvm.Cond.instanceMethod ({ cls := "SolutionBoxes$Point", name := "powerValue", desc := "(I)I" } : Jvm.MethodName)) ∈ gw := gw_of (gw_3 (List.mem_of_getElem? (i := 23) rfl)) rfl
theorem q_504 : (Jvm.Cond.selects "SolutionBoxes$Point" ({ cls := "SolutionBoxes$Point", name := "powerValue", desc := "(I)I" } : Jvm.MethodName) ({ cls := "SolutionBoxes$Point", name := "powerValue", desc := "(I)I" } : Jvm.MethodName)) ∈ gw := gw_of (gw_3 (List.mem_of_getElem? (i := 24) rfl)) rfl
theorem q_505 : (Jvm.Cond.code ({ cls := "SolutionBoxes$Point", name := "powerValue", desc := "(I)I" } : Jvm.MethodName) prog_3_method_4_code (5 : Nat) (Option.some Jvm.ClassFile.FieldType.int)) ∈ gw := gw_of (gw_3 (List.mem_of_getElem? (i := 25) rfl)) rfl
theorem q_506 : (Jvm.Cond.methodLink "SolutionBoxes$Point" (20 : Nat) ({ cls := "SolutionBoxes$Power", name := "exponent", desc := "(II)I" } : Jvm.MethodName)) ∈ gw := gw_of (gw_3 (List.mem_of_getElem? (i := 26) rfl)) rfl
theorem q_507 : (Jvm.Cond.methodLink "SolutionBoxes$Solver" (112 : Nat) ({ cls := "SolutionBoxes$Solver", name := "keepZero", desc := "()V" } : Jvm.MethodName)) ∈ gw := gw_of (gw_3 (List.mem_of_getElem? (i := 27) rfl)) rfl
theorem q_508 : (Jvm.Cond.privateMethod ({ cls := "SolutionBoxes$Solver", name := "keepZero", desc := "()V" } : Jvm.MethodName)) ∈ lw_tbl := gw_3 (List.mem_of_getElem? (i := 28) rfl)
theorem q_509 : (Jvm.Cond.instanceMethod ({ cls := "SolutionBoxes$Solver", name := "keepZero", desc := "()V" } : Jvm.MethodName)) ∈ gw := gw_of (gw_3 (List.mem_of_getElem? (i := 29) rfl)) rfl
theorem q_510 : (Jvm.Cond.code ({ cls := "SolutionBoxes$Solver", name := "keepZero", desc := "()V" } : Jvm.MethodName) prog_9_method_4_code (2 : Nat) (Option.none : Option Jvm.ClassFile.FieldType)) ∈ gw := gw_of (gw_3 (List.mem_of_getElem? (i := 30) rfl)) rfl
theorem q_511 : (Jvm.Cond.methodLink "SolutionBoxes$Solver" (115 : Nat) ({ cls := "SolutionBoxes$Point", name := "number", desc := "(I)I" } : Jvm.MethodName)) ∈ gw := gw_of (gw_3 (List.mem_of_getElem? (i := 31) rfl)) rfl
theorem q_512 : (Jvm.Cond.instanceMethod ({ cls := "SolutionBoxes$Point", name := "number", desc := "(I)I" } : Jvm.MethodName)) ∈ gw := gw_of (gw_3 (List.mem_of_getElem? (i := 32) rfl)) rfl
theorem q_513 : (Jvm.Cond.selects "SolutionBoxes$Point" ({ cls := "SolutionBoxes$Point", name := "number", desc := "(I)I" } : Jvm.MethodName) ({ cls := "SolutionBoxes$Point", name := "number", desc := "(I)I" } : Jvm.MethodName)) ∈ gw := gw_of (gw_3 (List.mem_of_getElem? (i := 33) rfl)) rfl
theorem q_514 : (Jvm.Cond.code ({ cls := "SolutionBoxes$Point", name := "number", desc := "(I)I" } : Jvm.MethodName) prog_3_method_3_code (2 : Nat) (Option.some Jvm.ClassFile.FieldType.int)) ∈ gw := gw_of (gw_3 (List.mem_of_getElem? (i := 34) rfl)) rfl
theorem q_515 : (Jvm.Cond.methodLink "SolutionBoxes$Solver" (100 : Nat) ({ cls := "SolutionBoxes$Quotient", name := "multiplicityAt", desc := "([I)I" } : Jvm.MethodName)) ∈ gw := gw_of (gw_3 (List.mem_of_getElem? (i := 35) rfl)) rfl
theorem q_516 : (Jvm.Cond.instanceMethod ({ cls := "SolutionBoxes$Quotient", name := "multiplicityAt", desc := "([I)I" } : Jvm.MethodName)) ∈ gw := gw_of (gw_3 (List.mem_of_getElem? (i := 36) rfl)) rfl
theorem q_517 : (Jvm.Cond.selects "SolutionBoxes$Quotient" ({ cls := "SolutionBoxes$Quotient", name := "multiplicityAt", desc := "([I)I" } : Jvm.MethodName) ({ cls := "SolutionBoxes$Quotient", name := "multiplicityAt", desc := "([I)I" } : Jvm.MethodName)) ∈ gw := gw_of (gw_3 (List.mem_of_getElem? (i := 37) rfl)) rfl
theorem q_518 : (Jvm.Cond.code ({ cls := "SolutionBoxes$Quotient", name := "multiplicityAt", desc := "([I)I" } : Jvm.MethodName) prog_6_method_8_code (5 : Nat) (Option.some Jvm.ClassFile.FieldType.int)) ∈ gw := gw_of (gw_3 (List.mem_of_getElem? (i := 38) rfl)) rfl
theorem q_519 : (Jvm.Cond.methodLink "SolutionBoxes$Quotient" (119 : Nat) ({ cls := "SolutionBoxes$Quotient", name := "addMultiplesOfFactor", desc := "()V" } : Jvm.MethodName)) ∈ gw := gw_of (gw_3 (List.mem_of_getElem? (i := 39) rfl)) rfl
theorem q_520 : (Jvm.Cond.privateMethod ({ cls := "SolutionBoxes$Quotient", name := "addMultiplesOfFactor", desc := "()V" } : Jvm.MethodName)) ∈ lw_tbl := gw_3 (List.mem_of_getElem? (i := 40) rfl)
theorem q_521 : (Jvm.Cond.instanceMethod ({ cls := "SolutionBoxes$Quotient", name := "addMultiplesOfFactor", desc := "()V" } : Jvm.MethodName)) ∈ gw := gw_of (gw_3 (List.mem_of_getElem? (i := 41) rfl)) rfl
theorem q_522 : (Jvm.Cond.code ({ cls := "SolutionBoxes$Quotient", name := "addMultiplesOfFactor", desc := "()V" } : Jvm.MethodName) prog_6_method_9_code (2 : Nat) (Option.none : Option Jvm.ClassFile.FieldType)) ∈ gw := gw_of (gw_3 (List.mem_of_getElem? (i := 42) rfl)) rfl
theorem q_523 : (Jvm.Cond.methodLink "SolutionBoxesLaw" (101 : Nat) ({ cls := "SolutionBoxes", name := "free", desc := "(I)I" } : Jvm.MethodName)) ∈ gw := gw_of (gw_3 (List.mem_of_getElem? (i := 43) rfl)) rfl
theorem q_524 : (Jvm.Cond.instanceMethod ({ cls := "SolutionBoxes", name := "free", desc := "(I)I" } : Jvm.MethodName)) ∈ gw := gw_of (gw_3 (List.mem_of_getElem? (i := 44) rfl)) rfl
theorem q_525 : (Jvm.Cond.selects "SolutionBoxes" ({ cls := "SolutionBoxes", name := "free", desc := "(I)I" } : Jvm.MethodName) ({ cls := "SolutionBoxes", name := "free", desc := "(I)I" } : Jvm.MethodName)) ∈ gw := gw_of (gw_3 (List.mem_of_getElem? (i := 45) rfl)) rfl
theorem q_526 : (Jvm.Cond.code ({ cls := "SolutionBoxes", name := "free", desc := "(I)I" } : Jvm.MethodName) prog_1_method_12_code (2 : Nat) (Option.some Jvm.ClassFile.FieldType.int)) ∈ gw := gw_of (gw_3 (List.mem_of_getElem? (i := 46) rfl)) rfl
theorem q_527 : (Jvm.Cond.methodLink "SolutionBoxesLaw" (105 : Nat) ({ cls := "SolutionBoxes", name := "clear", desc := "()V" } : Jvm.MethodName)) ∈ gw := gw_of (gw_3 (List.mem_of_getElem? (i := 47) rfl)) rfl
theorem q_528 : (Jvm.Cond.instanceMethod ({ cls := "SolutionBoxes", name := "clear", desc := "()V" } : Jvm.MethodName)) ∈ gw := gw_of (gw_3 (List.mem_of_getElem? (i := 48) rfl)) rfl
theorem q_529 : (Jvm.Cond.selects "SolutionBoxes" ({ cls := "SolutionBoxes", name := "clear", desc := "()V" } : Jvm.MethodName) ({ cls := "SolutionBoxes", name := "clear", desc := "()V" } : Jvm.MethodName)) ∈ gw := gw_of (gw_3 (List.mem_of_getElem? (i := 49) rfl)) rfl
theorem q_530 : (Jvm.Cond.code ({ cls := "SolutionBoxes", name := "clear", desc := "()V" } : Jvm.MethodName) prog_1_method_13_code (2 : Nat) (Option.none : Option Jvm.ClassFile.FieldType)) ∈ gw := gw_of (gw_3 (List.mem_of_getElem? (i := 50) rfl)) rfl
theorem q_531 : (Jvm.Cond.methodLink "SolutionBoxes" (50 : Nat) ({ cls := "SolutionBoxes$Polynomial", name := "setZero", desc := "()V" } : Jvm.MethodName)) ∈ gw := gw_of (gw_3 (List.mem_of_getElem? (i := 51) rfl)) rfl
theorem q_532 : (Jvm.Cond.instanceMethod ({ cls := "SolutionBoxes$Polynomial", name := "setZero", desc := "()V" } : Jvm.MethodName)) ∈ gw := gw_of (gw_3 (List.mem_of_getElem? (i := 52) rfl)) rfl
theorem q_533 : (Jvm.Cond.selects "SolutionBoxes$Polynomial" ({ cls := "SolutionBoxes$Polynomial", name := "setZero", desc := "()V" } : Jvm.MethodName) ({ cls := "SolutionBoxes$Polynomial", name := "setZero", desc := "()V" } : Jvm.MethodName)) ∈ gw := gw_of (gw_3 (List.mem_of_getElem? (i := 53) rfl)) rfl
theorem q_534 : (Jvm.Cond.code ({ cls := "SolutionBoxes$Polynomial", name := "setZero", desc := "()V" } : Jvm.MethodName) prog_4_method_2_code (1 : Nat) (Option.none : Option Jvm.ClassFile.FieldType)) ∈ gw := gw_of (gw_3 (List.mem_of_getElem? (i := 54) rfl)) rfl
theorem q_535 : (Jvm.Cond.methodLink "SolutionBoxesLaw" (109 : Nat) ({ cls := "SolutionBoxes", name := "count", desc := "(I)I" } : Jvm.MethodName)) ∈ gw := gw_of (gw_3 (List.mem_of_getElem? (i := 55) rfl)) rfl
theorem q_536 : (Jvm.Cond.instanceMethod ({ cls := "SolutionBoxes", name := "count", desc := "(I)I" } : Jvm.MethodName)) ∈ gw := gw_of (gw_3 (List.mem_of_getElem? (i := 56) rfl)) rfl
theorem q_537 : (Jvm.Cond.selects "SolutionBoxes" ({ cls := "SolutionBoxes", name := "count", desc := "(I)I" } : Jvm.MethodName) ({ cls := "SolutionBoxes", name := "count", desc := "(I)I" } : Jvm.MethodName)) ∈ gw := gw_of (gw_3 (List.mem_of_getElem? (i := 57) rfl)) rfl
theorem q_538 : (Jvm.Cond.code ({ cls := "SolutionBoxes", name := "count", desc := "(I)I" } : Jvm.MethodName) prog_1_method_14_code (2 : Nat) (Option.some Jvm.ClassFile.FieldType.int)) ∈ gw := gw_of (gw_3 (List.mem_of_getElem? (i := 58) rfl)) rfl
theorem q_539 : (Jvm.Cond.methodLink "SolutionBoxesLaw" (49 : Nat) ({ cls := "SolutionBoxesLaw", name := "cell", desc := "([II)I" } : Jvm.MethodName)) ∈ gw := gw_of (gw_3 (List.mem_of_getElem? (i := 59) rfl)) rfl
theorem q_540 : (Jvm.Cond.static ({ cls := "SolutionBoxesLaw", name := "cell", desc := "([II)I" } : Jvm.MethodName)) ∈ gw := gw_of (gw_3 (List.mem_of_getElem? (i := 60) rfl)) rfl
theorem q_541 : (Jvm.Cond.code ({ cls := "SolutionBoxesLaw", name := "cell", desc := "([II)I" } : Jvm.MethodName) method_2_code (2 : Nat) (Option.some Jvm.ClassFile.FieldType.int)) ∈ gw := gw_of (gw_3 (List.mem_of_getElem? (i := 61) rfl)) rfl
theorem q_542 : (Jvm.Cond.methodLink "SolutionBoxesLaw" (61 : Nat) ({ cls := "SolutionBoxesLaw", name := "poly", desc := "(LSolutionBoxes;[J)I" } : Jvm.MethodName)) ∈ gw := gw_of (gw_3 (List.mem_of_getElem? (i := 62) rfl)) rfl
theorem q_543 : (Jvm.Cond.static ({ cls := "SolutionBoxesLaw", name := "poly", desc := "(LSolutionBoxes;[J)I" } : Jvm.MethodName)) ∈ gw := gw_of (gw_3 (List.mem_of_getElem? (i := 63) rfl)) rfl
theorem q_544 : (Jvm.Cond.codeWith ({ cls := "SolutionBoxesLaw", name := "poly", desc := "(LSolutionBoxes;[J)I" } : Jvm.MethodName) method_3_code (3 : Nat) (Option.some Jvm.ClassFile.FieldType.int) [((0 : Nat), (8 : Nat), (11 : Nat), (13 : Nat))]) ∈ lw_tbl := gw_3 (List.mem_of_getElem? (i := 64) rfl)
theorem q_545 : (Jvm.Cond.classLink "SolutionBoxesLaw" (13 : Nat) "java/lang/IllegalStateException") ∈ gw := gw_of (gw_3 (List.mem_of_getElem? (i := 65) rfl)) rfl
theorem q_546 : (Jvm.Cond.methodLink "SolutionBoxesLaw" (7 : Nat) ({ cls := "SolutionBoxes", name := "poly", desc := "()I" } : Jvm.MethodName)) ∈ gw := gw_of (gw_3 (List.mem_of_getElem? (i := 66) rfl)) rfl
theorem q_547 : (Jvm.Cond.instanceMethod ({ cls := "SolutionBoxes", name := "poly", desc := "()I" } : Jvm.MethodName)) ∈ gw := gw_of (gw_3 (List.mem_of_getElem? (i := 67) rfl)) rfl
theorem q_548 : (Jvm.Cond.selects "SolutionBoxes" ({ cls := "SolutionBoxes", name := "poly", desc := "()I" } : Jvm.MethodName) ({ cls := "SolutionBoxes", name := "poly", desc := "()I" } : Jvm.MethodName)) ∈ gw := gw_of (gw_3 (List.mem_of_getElem? (i := 68) rfl)) rfl
theorem q_549 : (Jvm.Cond.code ({ cls := "SolutionBoxes", name := "poly", desc := "()I" } : Jvm.MethodName) prog_1_method_2_code (1 : Nat) (Option.some Jvm.ClassFile.FieldType.int)) ∈ gw := gw_of (gw_3 (List.mem_of_getElem? (i := 69) rfl)) rfl
theorem q_550 : (Jvm.Cond.classLink "SolutionBoxes" (43 : Nat) "java/lang/IllegalStateException") ∈ gw := gw_of (gw_3 (List.mem_of_getElem? (i := 70) rfl)) rfl
theorem q_551 : (Jvm.Cond.instantiable "java/lang/IllegalStateException" (6 : Nat)) ∈ gw := gw_of (gw_3 (List.mem_of_getElem? (i := 71) rfl)) rfl
theorem q_552 : (Jvm.Cond.castable "java/lang/IllegalStateException" "java/lang/IllegalStateException") ∈ lw_tbl := gw_3 (List.mem_of_getElem? (i := 72) rfl)
theorem q_553 : (Jvm.Cond.declares ({ cls := "java/lang/RuntimeException", name := "<init>", desc := "()V" } : Jvm.MethodName)) ∈ lw_tbl := gw_3 (List.mem_of_getElem? (i := 73) rfl)
theorem q_554 : (Jvm.Cond.declares ({ cls := "java/lang/RuntimeException", name := "<init>", desc := "(Ljava/lang/String;)V" } : Jvm.MethodName)) ∈ lw_tbl := gw_3 (List.mem_of_getElem? (i := 74) rfl)
theorem q_555 : (Jvm.Cond.declares ({ cls := "java/lang/Exception", name := "<init>", desc := "()V" } : Jvm.MethodName)) ∈ lw_tbl := gw_3 (List.mem_of_getElem? (i := 75) rfl)
theorem q_556 : (Jvm.Cond.declares ({ cls := "java/lang/Exception", name := "<init>", desc := "(Ljava/lang/String;)V" } : Jvm.MethodName)) ∈ lw_tbl := gw_3 (List.mem_of_getElem? (i := 76) rfl)
theorem q_557 : (Jvm.Cond.declares ({ cls := "java/lang/Throwable", name := "<init>", desc := "()V" } : Jvm.MethodName)) ∈ lw_tbl := gw_3 (List.mem_of_getElem? (i := 77) rfl)
theorem q_558 : (Jvm.Cond.declares ({ cls := "java/lang/Throwable", name := "<init>", desc := "(Ljava/lang/String;)V" } : Jvm.MethodName)) ∈ lw_tbl := gw_3 (List.mem_of_getElem? (i := 78) rfl)
theorem q_559 : (Jvm.Cond.selects "java/lang/IllegalStateException" ({ cls := "java/lang/Throwable", name := "fillInStackTrace", desc := "(I)Ljava/lang/Throwable;" } : Jvm.MethodName) ({ cls := "java/lang/Throwable", name := "fillInStackTrace", desc := "(I)Ljava/lang/Throwable;" } : Jvm.MethodName)) ∈ gw := gw_of (gw_3 (List.mem_of_getElem? (i := 79) rfl)) rfl
theorem q_560 : (Jvm.Cond.selects "java/lang/IllegalStateException" ({ cls := "java/lang/Throwable", name := "fillInStackTrace", desc := "()Ljava/lang/Throwable;" } : Jvm.MethodName) ({ cls := "java/lang/Throwable", name := "fillInStackTrace", desc := "()Ljava/lang/Throwable;" } : Jvm.MethodName)) ∈ gw := gw_of (gw_3 (List.mem_of_getElem? (i := 80) rfl)) rfl
theorem q_561 : (Jvm.Cond.lays "java/lang/IllegalStateException" "java/lang/Throwable" "cause" "Ljava/lang/Throwable;") ∈ gw := gw_of (gw_3 (List.mem_of_getElem? (i := 81) rfl)) rfl
theorem q_562 : (Jvm.Cond.lays "java/lang/Throwable" "java/lang/Throwable" "cause" "Ljava/lang/Throwable;") ∈ gw := gw_of (gw_3 (List.mem_of_getElem? (i := 82) rfl)) rfl
theorem q_563 : (Jvm.Cond.lays "java/lang/IllegalStateException" "java/lang/Throwable" "stackTrace" "[Ljava/lang/StackTraceElement;") ∈ gw := gw_of (gw_3 (List.mem_of_getElem? (i := 83) rfl)) rfl
theorem q_564 : (Jvm.Cond.lays "java/lang/Throwable" "java/lang/Throwable" "stackTrace" "[Ljava/lang/StackTraceElement;") ∈ gw := gw_of (gw_3 (List.mem_of_getElem? (i := 84) rfl)) rfl
theorem q_565 : (Jvm.Cond.lays "java/lang/IllegalStateException" "java/lang/Throwable" "suppressedExceptions" "Ljava/util/List;") ∈ gw := gw_of (gw_3 (List.mem_of_getElem? (i := 85) rfl)) rfl
theorem q_566 : (Jvm.Cond.lays "java/lang/Throwable" "java/lang/Throwable" "suppressedExceptions" "Ljava/util/List;") ∈ gw := gw_of (gw_3 (List.mem_of_getElem? (i := 86) rfl)) rfl
theorem q_567 : (Jvm.Cond.lays "java/lang/IllegalStateException" "java/lang/Throwable" "detailMessage" "Ljava/lang/String;") ∈ gw := gw_of (gw_3 (List.mem_of_getElem? (i := 87) rfl)) rfl
theorem q_568 : (Jvm.Cond.lays "java/lang/Throwable" "java/lang/Throwable" "detailMessage" "Ljava/lang/String;") ∈ gw := gw_of (gw_3 (List.mem_of_getElem? (i := 88) rfl)) rfl
theorem q_569 : (Jvm.Cond.lays "java/lang/IllegalStateException" "java/lang/Throwable" "backtrace" "Ljava/lang/Object;") ∈ gw := gw_of (gw_3 (List.mem_of_getElem? (i := 89) rfl)) rfl
theorem q_570 : (Jvm.Cond.lays "java/lang/Throwable" "java/lang/Throwable" "backtrace" "Ljava/lang/Object;") ∈ gw := gw_of (gw_3 (List.mem_of_getElem? (i := 90) rfl)) rfl
theorem q_571 : (Jvm.Cond.fieldLink "java/lang/Throwable" (198 : Nat) "java/lang/Throwable" "backtrace" "Ljava/lang/Object;") ∈ gw := gw_of (gw_3 (List.mem_of_getElem? (i := 91) rfl)) rfl
theorem q_572 : (Jvm.Cond.superclass "java/lang/Throwable" "java/lang/Object") ∈ lw_tbl := gw_3 (List.mem_of_getElem? (i := 92) rfl)
theorem q_573 : (Jvm.Cond.instanceMethod ({ cls := "java/lang/Throwable", name := "<init>", desc := "()V" } : Jvm.MethodName)) ∈ gw := gw_of (gw_3 (List.mem_of_getElem? (i := 93) rfl)) rfl
theorem q_574 : (Jvm.Cond.code ({ cls := "java/lang/Throwable", name := "<init>", desc := "()V" } : Jvm.MethodName) prog_24_method_1_code (1 : Nat) (Option.none : Option Jvm.ClassFile.FieldType)) ∈ gw := gw_of (gw_3 (List.mem_of_getElem? (i := 94) rfl)) rfl
theorem q_575 : (Jvm.Cond.methodLink "java/lang/Throwable" (1 : Nat) ({ cls := "java/lang/Object", name := "<init>", desc := "()V" } : Jvm.MethodName)) ∈ gw := gw_of (gw_3 (List.mem_of_getElem? (i := 95) rfl)) rfl
theorem q_576 : (Jvm.Cond.fieldLink "java/lang/Throwable" (13 : Nat) "java/lang/Throwable" "UNASSIGNED_STACK" "[Ljava/lang/StackTraceElement;") ∈ gw := gw_of (gw_3 (List.mem_of_getElem? (i := 96) rfl)) rfl
theorem q_577 : (Jvm.Cond.laysStatic "java/lang/Throwable" "UNASSIGNED_STACK" "[Ljava/lang/StackTraceElement;") ∈ lw_tbl := gw_3 (List.mem_of_getElem? (i := 97) rfl)
theorem q_578 : (Jvm.Cond.fieldLink "java/lang/Throwable" (20 : Nat) "java/lang/Throwable" "SUPPRESSED_SENTINEL" "Ljava/util/List;") ∈ gw := gw_of (gw_3 (List.mem_of_getElem? (i := 98) rfl)) rfl
theorem q_579 : (Jvm.Cond.laysStatic "java/lang/Throwable" "SUPPRESSED_SENTINEL" "Ljava/util/List;") ∈ lw_tbl := gw_3 (List.mem_of_getElem? (i := 99) rfl)
theorem q_580 : (Jvm.Cond.methodLink "java/lang/Throwable" (27 : Nat) ({ cls := "java/lang/Throwable", name := "fillInStackTrace", desc := "()Ljava/lang/Throwable;" } : Jvm.MethodName)) ∈ gw := gw_of (gw_3 (List.mem_of_getElem? (i := 100) rfl)) rfl
theorem q_581 : (Jvm.Cond.instanceMethod ({ cls := "java/lang/Throwable", name := "fillInStackTrace", desc := "()Ljava/lang/Throwable;" } : Jvm.MethodName)) ∈ gw := gw_of (gw_3 (List.mem_of_getElem? (i := 101) rfl)) rfl
theorem q_582 : (Jvm.Cond.sameMethod "java/lang/Throwable" "java/lang/Throwable" "fillInStackTrace" "()Ljava/lang/Throwable;") ∈ lw_tbl := gw_3 (List.mem_of_getElem? (i := 102) rfl)
theorem q_583 : (Jvm.Cond.selects "java/lang/ArithmeticException" ({ cls := "java/lang/Throwable", name := "fillInStackTrace", desc := "()Ljava/lang/Throwable;" } : Jvm.MethodName) ({ cls := "java/lang/Throwable", name := "fillInStackTrace", desc := "()Ljava/lang/Throwable;" } : Jvm.MethodName)) ∈ gw := gw_of (gw_3 (List.mem_of_getElem? (i := 103) rfl)) rfl
theorem q_584 : (Jvm.Cond.selects "java/lang/IllegalArgumentException" ({ cls := "java/lang/Throwable", name := "fillInStackTrace", desc := "()Ljava/lang/Throwable;" } : Jvm.MethodName) ({ cls := "java/lang/Throwable", name := "fillInStackTrace", desc := "()Ljava/lang/Throwable;" } : Jvm.MethodName)) ∈ gw := gw_of (gw_3 (List.mem_of_getElem? (i := 104) rfl)) rfl
theorem q_585 : (Jvm.Cond.selects "java/lang/IndexOutOfBoundsException" ({ cls := "java/lang/Throwable", name := "fillInStackTrace", desc := "()Ljava/lang/Throwable;" } : Jvm.MethodName) ({ cls := "java/lang/Throwable", name := "fillInStackTrace", desc := "()Ljava/lang/Throwable;" } : Jvm.MethodName)) ∈ gw := gw_of (gw_3 (List.mem_of_getElem? (i := 105) rfl)) rfl
theorem q_586 : (Jvm.Cond.codeSync ({ cls := "java/lang/Throwable", name := "fillInStackTrace", desc := "()Ljava/lang/Throwable;" } : Jvm.MethodName) prog_24_method_18_code (1 : Nat) (Option.some (Jvm.ClassFile.FieldType.object "java/lang/Throwable"))) ∈ lw_tbl := gw_3 (List.mem_of_getElem? (i := 106) rfl)
theorem q_587 : (Jvm.Cond.methodLink "java/lang/Throwable" (202 : Nat) ({ cls := "java/lang/Throwable", name := "fillInStackTrace", desc := "(I)Ljava/lang/Throwable;" } : Jvm.MethodName)) ∈ gw := gw_of (gw_3 (List.mem_of_getElem? (i := 107) rfl)) rfl
theorem q_588 : (Jvm.Cond.privateMethod ({ cls := "java/lang/Throwable", name := "fillInStackTrace", desc := "(I)Ljava/lang/Throwable;" } : Jvm.MethodName)) ∈ lw_tbl := gw_3 (List.mem_of_getElem? (i := 108) rfl)
theorem q_589 : (Jvm.Cond.instanceMethod ({ cls := "java/lang/Throwable", name := "fillInStackTrace", desc := "(I)Ljava/lang/Throwable;" } : Jvm.MethodName)) ∈ gw := gw_of (gw_3 (List.mem_of_getElem? (i := 109) rfl)) rfl
theorem q_590 : (Jvm.Cond.instantiable "java/lang/Throwable" (6 : Nat)) ∈ gw := gw_of (gw_3 (List.mem_of_getElem? (i := 110) rfl)) rfl
theorem q_591 : (Jvm.Cond.native ({ cls := "java/lang/Throwable", name := "fillInStackTrace", desc := "(I)Ljava/lang/Throwable;" } : Jvm.MethodName)) ∈ lw_tbl := gw_3 (List.mem_of_getElem? (i := 111) rfl)
theorem q_592 : (Jvm.Cond.stringRef "SolutionBoxes" (45 : Nat) "40 polynomials were given") ∈ lw_tbl := gw_3 (List.mem_of_getElem? (i := 112) rfl)
theorem q_593 : (Jvm.Cond.methodLink "SolutionBoxes" (47 : Nat) ({ cls := "java/lang/IllegalStateException", name := "<init>", desc := "(Ljava/lang/String;)V" } : Jvm.MethodName)) ∈ gw := gw_of (gw_3 (List.mem_of_getElem? (i := 113) rfl)) rfl
theorem q_594 : (Jvm.Cond.instanceMethod ({ cls := "java/lang/IllegalStateException", name := "<init>", desc := "(Ljava/lang/String;)V" } : Jvm.MethodName)) ∈ gw := gw_of (gw_3 (List.mem_of_getElem? (i := 114) rfl)) rfl
theorem q_595 : (Jvm.Cond.code ({ cls := "java/lang/IllegalStateException", name := "<init>", desc := "(Ljava/lang/String;)V" } : Jvm.MethodName) prog_18_method_2_code (2 : Nat) (Option.none : Option Jvm.ClassFile.FieldType)) ∈ gw := gw_of (gw_3 (List.mem_of_getElem? (i := 115) rfl)) rfl
theorem q_596 : (Jvm.Cond.methodLink "java/lang/IllegalStateException" (7 : Nat) ({ cls := "java/lang/RuntimeException", name := "<init>", desc := "(Ljava/lang/String;)V" } : Jvm.MethodName)) ∈ gw := gw_of (gw_3 (List.mem_of_getElem? (i := 116) rfl)) rfl
theorem q_597 : (Jvm.Cond.instanceMethod ({ cls := "java/lang/RuntimeException", name := "<init>", desc := "(Ljava/lang/String;)V" } : Jvm.MethodName)) ∈ gw := gw_of (gw_3 (List.mem_of_getElem? (i := 117) rfl)) rfl
theorem q_598 : (Jvm.Cond.code ({ cls := "java/lang/RuntimeException", name := "<init>", desc := "(Ljava/lang/String;)V" } : Jvm.MethodName) prog_21_method_2_code (2 : Nat) (Option.none : Option Jvm.ClassFile.FieldType)) ∈ gw := gw_of (gw_3 (List.mem_of_getElem? (i := 118) rfl)) rfl
theorem q_599 : (Jvm.Cond.methodLink "java/lang/RuntimeException" (7 : Nat) ({ cls := "java/lang/Exception", name := "<init>", desc := "(Ljava/lang/String;)V" } : Jvm.MethodName)) ∈ gw := gw_of (gw_3 (List.mem_of_getElem? (i := 119) rfl)) rfl
theorem q_600 : (Jvm.Cond.instanceMethod ({ cls := "java/lang/Exception", name := "<init>", desc := "(Ljava/lang/String;)V" } : Jvm.MethodName)) ∈ gw := gw_of (gw_3 (List.mem_of_getElem? (i := 120) rfl)) rfl
theorem q_601 : (Jvm.Cond.code ({ cls := "java/lang/Exception", name := "<init>", desc := "(Ljava/lang/String;)V" } : Jvm.MethodName) prog_16_method_2_code (2 : Nat) (Option.none : Option Jvm.ClassFile.FieldType)) ∈ gw := gw_of (gw_3 (List.mem_of_getElem? (i := 121) rfl)) rfl
theorem q_602 : (Jvm.Cond.methodLink "java/lang/Exception" (7 : Nat) ({ cls := "java/lang/Throwable", name := "<init>", desc := "(Ljava/lang/String;)V" } : Jvm.MethodName)) ∈ gw := gw_of (gw_3 (List.mem_of_getElem? (i := 122) rfl)) rfl
theorem q_603 : (Jvm.Cond.instanceMethod ({ cls := "java/lang/Throwable", name := "<init>", desc := "(Ljava/lang/String;)V" } : Jvm.MethodName)) ∈ gw := gw_of (gw_3 (List.mem_of_getElem? (i := 123) rfl)) rfl
theorem q_604 : (Jvm.Cond.code ({ cls := "java/lang/Throwable", name := "<init>", desc := "(Ljava/lang/String;)V" } : Jvm.MethodName) prog_24_method_2_code (2 : Nat) (Option.none : Option Jvm.ClassFile.FieldType)) ∈ gw := gw_of (gw_3 (List.mem_of_getElem? (i := 124) rfl)) rfl
theorem q_605 : (Jvm.Cond.fieldLink "java/lang/Throwable" (198 : Nat) "java/lang/Throwable" "backtrace" "Ljava/lang/Object;") ∈ gw := gw_of (gw_3 (List.mem_of_getElem? (i := 125) rfl)) rfl
theorem q_606 : (Jvm.Cond.fieldLink "java/lang/Throwable" (31 : Nat) "java/lang/Throwable" "detailMessage" "Ljava/lang/String;") ∈ gw := gw_of (gw_3 (List.mem_of_getElem? (i := 126) rfl)) rfl
theorem q_607 : (Jvm.Cond.fieldLink "java/lang/Throwable" (7 : Nat) "java/lang/Throwable" "cause" "Ljava/lang/Throwable;") ∈ gw := gw_of (gw_3 (List.mem_of_getElem? (i := 127) rfl)) rfl
theorem q_608 : (Jvm.Cond.fieldLink "java/lang/Throwable" (17 : Nat) "java/lang/Throwable" "stackTrace" "[Ljava/lang/StackTraceElement;") ∈ gw := gw_of (gw_3 (List.mem_of_getElem? (i := 128) rfl)) rfl
theorem q_609 : (Jvm.Cond.fieldLink "java/lang/Throwable" (24 : Nat) "java/lang/Throwable" "suppressedExceptions" "Ljava/util/List;") ∈ gw := gw_of (gw_3 (List.mem_of_getElem? (i := 129) rfl)) rfl
theorem q_614 : (Jvm.Cond.lays "java/lang/IllegalStateException" "java/lang/Throwable" "depth" "I") ∈ gw := gw_of (gw_3 (List.mem_of_getElem? (i := 134) rfl)) rfl
theorem q_617 : (Jvm.Cond.superclass "java/lang/IllegalStateException" "java/lang/RuntimeException") ∈ lw_tbl := gw_3 (List.mem_of_getElem? (i := 137) rfl)
theorem q_618 : (Jvm.Cond.arrayClass Jvm.ClassFile.FieldType.byte) ∈ gw := gw_of (gw_3 (List.mem_of_getElem? (i := 138) rfl)) rfl
theorem q_619 : (Jvm.Cond.methodLink "SolutionBoxesLaw" (70 : Nat) ({ cls := "SolutionBoxesLaw", name := "term", desc := "(LSolutionBoxes;IJJI[J)I" } : Jvm.MethodName)) ∈ gw := gw_of (gw_3 (List.mem_of_getElem? (i := 139) rfl)) rfl
theorem q_620 : (Jvm.Cond.static ({ cls := "SolutionBoxesLaw", name := "term", desc := "(LSolutionBoxes;IJJI[J)I" } : Jvm.MethodName)) ∈ gw := gw_of (gw_3 (List.mem_of_getElem? (i := 140) rfl)) rfl
theorem q_621 : (Jvm.Cond.codeWith ({ cls := "SolutionBoxesLaw", name := "term", desc := "(LSolutionBoxes;IJJI[J)I" } : Jvm.MethodName) method_4_code (9 : Nat) (Option.some Jvm.ClassFile.FieldType.int) [((0 : Nat), (22 : Nat), (25 : Nat), (19 : Nat)), ((0 : Nat), (22 : Nat), (29 : Nat), (21 : Nat)), ((0 : Nat), (22 : Nat), (33 : Nat), (23 : Nat))]) ∈ lw_tbl := gw_3 (List.mem_of_getElem? (i := 141) rfl)
theorem q_622 : (Jvm.Cond.classLink "SolutionBoxesLaw" (19 : Nat) "java/lang/IndexOutOfBoundsException") ∈ gw := gw_of (gw_3 (List.mem_of_getElem? (i := 142) rfl)) rfl
theorem q_623 : (Jvm.Cond.classLink "SolutionBoxesLaw" (21 : Nat) "java/lang/IllegalArgumentException") ∈ gw := gw_of (gw_3 (List.mem_of_getElem? (i := 143) rfl)) rfl
theorem q_624 : (Jvm.Cond.classLink "SolutionBoxesLaw" (23 : Nat) "java/lang/ArithmeticException") ∈ gw := gw_of (gw_3 (List.mem_of_getElem? (i := 144) rfl)) rfl
theorem q_625 : (Jvm.Cond.methodLink "SolutionBoxesLaw" (15 : Nat) ({ cls := "SolutionBoxes", name := "term", desc := "(IJJI)Z" } : Jvm.MethodName)) ∈ gw := gw_of (gw_3 (List.mem_of_getElem? (i := 145) rfl)) rfl
theorem q_626 : (Jvm.Cond.instanceMethod ({ cls := "SolutionBoxes", name := "term", desc := "(IJJI)Z" } : Jvm.MethodName)) ∈ gw := gw_of (gw_3 (List.mem_of_getElem? (i := 146) rfl)) rfl
theorem q_627 : (Jvm.Cond.selects "SolutionBoxes" ({ cls := "SolutionBoxes", name := "term", desc := "(IJJI)Z" } : Jvm.MethodName) ({ cls := "SolutionBoxes", name := "term", desc := "(IJJI)Z" } : Jvm.MethodName)) ∈ gw := gw_of (gw_3 (List.mem_of_getElem? (i := 147) rfl)) rfl
theorem q_628 : (Jvm.Cond.code ({ cls := "SolutionBoxes", name := "term", desc := "(IJJI)Z" } : Jvm.MethodName) prog_1_method_3_code (10 : Nat) (Option.some Jvm.ClassFile.FieldType.boolean)) ∈ gw := gw_of (gw_3 (List.mem_of_getElem? (i := 148) rfl)) rfl
theorem q_629 : (Jvm.Cond.methodLink "SolutionBoxes" (53 : Nat) ({ cls := "SolutionBoxes", name := "polynomialOf", desc := "(I)LSolutionBoxes$Polynomial;" } : Jvm.MethodName)) ∈ gw := gw_of (gw_3 (List.mem_of_getElem? (i := 149) rfl)) rfl
theorem q_630 : (Jvm.Cond.privateMethod ({ cls := "SolutionBoxes", name := "polynomialOf", desc := "(I)LSolutionBoxes$Polynomial;" } : Jvm.MethodName)) ∈ lw_tbl := gw_3 (List.mem_of_getElem? (i := 150) rfl)
theorem q_631 : (Jvm.Cond.instanceMethod ({ cls := "SolutionBoxes", name := "polynomialOf", desc := "(I)LSolutionBoxes$Polynomial;" } : Jvm.MethodName)) ∈ gw := gw_of (gw_3 (List.mem_of_getElem? (i := 151) rfl)) rfl
theorem q_632 : (Jvm.Cond.code ({ cls := "SolutionBoxes", name := "polynomialOf", desc := "(I)LSolutionBoxes$Polynomial;" } : Jvm.MethodName) prog_1_method_15_code (2 : Nat) (Option.some (Jvm.ClassFile.FieldType.object "SolutionBoxes$Polynomial"))) ∈ gw := gw_of (gw_3 (List.mem_of_getElem? (i := 152) rfl)) rfl
theorem q_633 : (Jvm.Cond.classLink "SolutionBoxes" (170 : Nat) "java/lang/IndexOutOfBoundsException") ∈ gw := gw_of (gw_3 (List.mem_of_getElem? (i := 153) rfl)) rfl
theorem q_634 : (Jvm.Cond.instantiable "java/lang/IndexOutOfBoundsException" (6 : Nat)) ∈ gw := gw_of (gw_3 (List.mem_of_getElem? (i := 154) rfl)) rfl
theorem q_635 : (Jvm.Cond.castable "java/lang/IndexOutOfBoundsException" "java/lang/IndexOutOfBoundsException") ∈ lw_tbl := gw_3 (List.mem_of_getElem? (i := 155) rfl)
theorem q_636 : (Jvm.Cond.selects "java/lang/IndexOutOfBoundsException" ({ cls := "java/lang/Throwable", name := "fillInStackTrace", desc := "(I)Ljava/lang/Throwable;" } : Jvm.MethodName) ({ cls := "java/lang/Throwable", name := "fillInStackTrace", desc := "(I)Ljava/lang/Throwable;" } : Jvm.MethodName)) ∈ gw := gw_of (gw_3 (List.mem_of_getElem? (i := 156) rfl)) rfl
theorem q_637 : (Jvm.Cond.lays "java/lang/IndexOutOfBoundsException" "java/lang/Throwable" "cause" "Ljava/lang/Throwable;") ∈ gw := gw_of (gw_3 (List.mem_of_getElem? (i := 157) rfl)) rfl
theorem q_638 : (Jvm.Cond.lays "java/lang/IndexOutOfBoundsException" "java/lang/Throwable" "stackTrace" "[Ljava/lang/StackTraceElement;") ∈ gw := gw_of (gw_3 (List.mem_of_getElem? (i := 158) rfl)) rfl
theorem q_639 : (Jvm.Cond.lays "java/lang/IndexOutOfBoundsException" "java/lang/Throwable" "suppressedExceptions" "Ljava/util/List;") ∈ gw := gw_of (gw_3 (List.mem_of_getElem? (i := 159) rfl)) rfl
theorem q_640 : (Jvm.Cond.lays "java/lang/IndexOutOfBoundsException" "java/lang/Throwable" "detailMessage" "Ljava/lang/String;") ∈ gw := gw_of (gw_3 (List.mem_of_getElem? (i := 160) rfl)) rfl
theorem q_641 : (Jvm.Cond.lays "java/lang/IndexOutOfBoundsException" "java/lang/Throwable" "backtrace" "Ljava/lang/Object;") ∈ gw := gw_of (gw_3 (List.mem_of_getElem? (i := 161) rfl)) rfl
theorem q_642 : (Jvm.Cond.stringRef "SolutionBoxes" (172 : Nat) "no such polynomial") ∈ lw_tbl := gw_3 (List.mem_of_getElem? (i := 162) rfl)
theorem q_643 : (Jvm.Cond.methodLink "SolutionBoxes" (174 : Nat) ({ cls := "java/lang/IndexOutOfBoundsException", name := "<init>", desc := "(Ljava/lang/String;)V" } : Jvm.MethodName)) ∈ gw := gw_of (gw_3 (List.mem_of_getElem? (i := 163) rfl)) rfl
theorem q_644 : (Jvm.Cond.instanceMethod ({ cls := "java/lang/IndexOutOfBoundsException", name := "<init>", desc := "(Ljava/lang/String;)V" } : Jvm.MethodName)) ∈ gw := gw_of (gw_3 (List.mem_of_getElem? (i := 164) rfl)) rfl
theorem q_645 : (Jvm.Cond.code ({ cls := "java/lang/IndexOutOfBoundsException", name := "<init>", desc := "(Ljava/lang/String;)V" } : Jvm.MethodName) prog_19_method_2_code (2 : Nat) (Option.none : Option Jvm.ClassFile.FieldType)) ∈ gw := gw_of (gw_3 (List.mem_of_getElem? (i := 165) rfl)) rfl
theorem q_646 : (Jvm.Cond.methodLink "java/lang/IndexOutOfBoundsException" (7 : Nat) ({ cls := "java/lang/RuntimeException", name := "<init>", desc := "(Ljava/lang/String;)V" } : Jvm.MethodName)) ∈ gw := gw_of (gw_3 (List.mem_of_getElem? (i := 166) rfl)) rfl
theorem q_647 : (Jvm.Cond.lays "java/lang/IndexOutOfBoundsException" "java/lang/Throwable" "depth" "I") ∈ gw := gw_of (gw_3 (List.mem_of_getElem? (i := 167) rfl)) rfl
theorem q_648 : (Jvm.Cond.superclass "java/lang/IndexOutOfBoundsException" "java/lang/RuntimeException") ∈ lw_tbl := gw_3 (List.mem_of_getElem? (i := 168) rfl)
theorem q_649 : (Jvm.Cond.methodLink "SolutionBoxes" (57 : Nat) ({ cls := "SolutionBoxes$Power", name := "keyOf", desc := "(II)I" } : Jvm.MethodName)) ∈ gw := gw_of (gw_3 (List.mem_of_getElem? (i := 169) rfl)) rfl
theorem q_650 : (Jvm.Cond.static ({ cls := "SolutionBoxes$Power", name := "keyOf", desc := "(II)I" } : Jvm.MethodName)) ∈ gw := gw_of (gw_3 (List.mem_of_getElem? (i := 170) rfl)) rfl
theorem q_651 : (Jvm.Cond.code ({ cls := "SolutionBoxes$Power", name := "keyOf", desc := "(II)I" } : Jvm.MethodName) prog_5_method_5_code (6 : Nat) (Option.some Jvm.ClassFile.FieldType.int)) ∈ gw := gw_of (gw_3 (List.mem_of_getElem? (i := 171) rfl)) rfl
theorem q_652 : (Jvm.Cond.classLink "SolutionBoxes" (62 : Nat) "java/lang/IllegalArgumentException") ∈ gw := gw_of (gw_3 (List.mem_of_getElem? (i := 172) rfl)) rfl
theorem q_653 : (Jvm.Cond.instantiable "java/lang/IllegalArgumentException" (6 : Nat)) ∈ gw := gw_of (gw_3 (List.mem_of_getElem? (i := 173) rfl)) rfl
theorem q_654 : (Jvm.Cond.castable "java/lang/IllegalArgumentException" "java/lang/IllegalArgumentException") ∈ lw_tbl := gw_3 (List.mem_of_getElem? (i := 174) rfl)
theorem q_655 : (Jvm.Cond.selects "java/lang/IllegalArgumentException" ({ cls := "java/lang/Throwable", name := "fillInStackTrace", desc := "(I)Ljava/lang/Throwable;" } : Jvm.MethodName) ({ cls := "java/lang/Throwable", name := "fillInStackTrace", desc := "(I)Ljava/lang/Throwable;" } : Jvm.MethodName)) ∈ gw := gw_of (gw_3 (List.mem_of_getElem? (i := 175) rfl)) rfl
theorem q_656 : (Jvm.Cond.lays "java/lang/IllegalArgumentException" "java/lang/Throwable" "cause" "Ljava/lang/Throwable;") ∈ gw := gw_of (gw_3 (List.mem_of_getElem? (i := 176) rfl)) rfl
theorem q_657 : (Jvm.Cond.lays "java/lang/IllegalArgumentException" "java/lang/Throwable" "stackTrace" "[Ljava/lang/StackTraceElement;") ∈ gw := gw_of (gw_3 (List.mem_of_getElem? (i := 177) rfl)) rfl
theorem q_658 : (Jvm.Cond.lays "java/lang/IllegalArgumentException" "java/lang/Throwable" "suppressedExceptions" "Ljava/util/List;") ∈ gw := gw_of (gw_3 (List.mem_of_getElem? (i := 178) rfl)) rfl
theorem q_659 : (Jvm.Cond.lays "java/lang/IllegalArgumentException" "java/lang/Throwable" "detailMessage" "Ljava/lang/String;") ∈ gw := gw_of (gw_3 (List.mem_of_getElem? (i := 179) rfl)) rfl
theorem q_660 : (Jvm.Cond.lays "java/lang/IllegalArgumentException" "java/lang/Throwable" "backtrace" "Ljava/lang/Object;") ∈ gw := gw_of (gw_3 (List.mem_of_getElem? (i := 180) rfl)) rfl
theorem q_661 : (Jvm.Cond.stringRef "SolutionBoxes" (64 : Nat) "no such power") ∈ lw_tbl := gw_3 (List.mem_of_getElem? (i := 181) rfl)
theorem q_662 : (Jvm.Cond.methodLink "SolutionBoxes" (66 : Nat) ({ cls := "java/lang/IllegalArgumentException", name := "<init>", desc := "(Ljava/lang/String;)V" } : Jvm.MethodName)) ∈ gw := gw_of (gw_3 (List.mem_of_getElem? (i := 182) rfl)) rfl
theorem q_663 : (Jvm.Cond.instanceMethod ({ cls := "java/lang/IllegalArgumentException", name := "<init>", desc := "(Ljava/lang/String;)V" } : Jvm.MethodName)) ∈ gw := gw_of (gw_3 (List.mem_of_getElem? (i := 183) rfl)) rfl
theorem q_664 : (Jvm.Cond.code ({ cls := "java/lang/IllegalArgumentException", name := "<init>", desc := "(Ljava/lang/String;)V" } : Jvm.MethodName) prog_17_method_2_code (2 : Nat) (Option.none : Option Jvm.ClassFile.FieldType)) ∈ gw := gw_of (gw_3 (List.mem_of_getElem? (i := 184) rfl)) rfl
theorem q_665 : (Jvm.Cond.methodLink "java/lang/IllegalArgumentException" (7 : Nat) ({ cls := "java/lang/RuntimeException", name := "<init>", desc := "(Ljava/lang/String;)V" } : Jvm.MethodName)) ∈ gw := gw_of (gw_3 (List.mem_of_getElem? (i := 185) rfl)) rfl
theorem q_666 : (Jvm.Cond.lays "java/lang/IllegalArgumentException" "java/lang/Throwable" "depth" "I") ∈ gw := gw_of (gw_3 (List.mem_of_getElem? (i := 186) rfl)) rfl
theorem q_667 : (Jvm.Cond.superclass "java/lang/IllegalArgumentException" "java/lang/RuntimeException") ∈ lw_tbl := gw_3 (List.mem_of_getElem? (i := 187) rfl)
theorem q_668 : (Jvm.Cond.methodLink "SolutionBoxes" (67 : Nat) ({ cls := "SolutionBoxes", name := "numberOf", desc := "(J)I" } : Jvm.MethodName)) ∈ gw := gw_of (gw_3 (List.mem_of_getElem? (i := 188) rfl)) rfl
theorem q_669 : (Jvm.Cond.static ({ cls := "SolutionBoxes", name := "numberOf", desc := "(J)I" } : Jvm.MethodName)) ∈ gw := gw_of (gw_3 (List.mem_of_getElem? (i := 189) rfl)) rfl
theorem q_670 : (Jvm.Cond.code ({ cls := "SolutionBoxes", name := "numberOf", desc := "(J)I" } : Jvm.MethodName) prog_1_method_20_code (2 : Nat) (Option.some Jvm.ClassFile.FieldType.int)) ∈ gw := gw_of (gw_3 (List.mem_of_getElem? (i := 190) rfl)) rfl
theorem q_671 : (Jvm.Cond.constantLong "SolutionBoxes" (192 : Nat) (32003 : Int64)) ∈ gw := gw_of (gw_3 (List.mem_of_getElem? (i := 191) rfl)) rfl
theorem q_672 : (Jvm.Cond.methodLink "SolutionBoxes" (194 : Nat) ({ cls := "java/lang/Math", name := "floorMod", desc := "(JJ)J" } : Jvm.MethodName)) ∈ gw := gw_of (gw_3 (List.mem_of_getElem? (i := 192) rfl)) rfl
theorem q_673 : (Jvm.Cond.static ({ cls := "java/lang/Math", name := "floorMod", desc := "(JJ)J" } : Jvm.MethodName)) ∈ gw := gw_of (gw_3 (List.mem_of_getElem? (i := 193) rfl)) rfl
theorem q_674 : (Jvm.Cond.code ({ cls := "java/lang/Math", name := "floorMod", desc := "(JJ)J" } : Jvm.MethodName) prog_20_method_52_code (6 : Nat) (Option.some Jvm.ClassFile.FieldType.long)) ∈ gw := gw_of (gw_3 (List.mem_of_getElem? (i := 194) rfl)) rfl
theorem q_675 : (Jvm.Cond.classLink "SolutionBoxes" (71 : Nat) "java/lang/ArithmeticException") ∈ gw := gw_of (gw_3 (List.mem_of_getElem? (i := 195) rfl)) rfl
theorem q_676 : (Jvm.Cond.instantiable "java/lang/ArithmeticException" (6 : Nat)) ∈ gw := gw_of (gw_3 (List.mem_of_getElem? (i := 196) rfl)) rfl
theorem q_677 : (Jvm.Cond.castable "java/lang/ArithmeticException" "java/lang/ArithmeticException") ∈ lw_tbl := gw_3 (List.mem_of_getElem? (i := 197) rfl)
theorem q_678 : (Jvm.Cond.selects "java/lang/ArithmeticException" ({ cls := "java/lang/Throwable", name := "fillInStackTrace", desc := "(I)Ljava/lang/Throwable;" } : Jvm.MethodName) ({ cls := "java/lang/Throwable", name := "fillInStackTrace", desc := "(I)Ljava/lang/Throwable;" } : Jvm.MethodName)) ∈ gw := gw_of (gw_3 (List.mem_of_getElem? (i := 198) rfl)) rfl
theorem q_679 : (Jvm.Cond.lays "java/lang/ArithmeticException" "java/lang/Throwable" "cause" "Ljava/lang/Throwable;") ∈ gw := gw_of (gw_3 (List.mem_of_getElem? (i := 199) rfl)) rfl
theorem q_680 : (Jvm.Cond.lays "java/lang/ArithmeticException" "java/lang/Throwable" "stackTrace" "[Ljava/lang/StackTraceElement;") ∈ gw := gw_of (gw_3 (List.mem_of_getElem? (i := 200) rfl)) rfl
theorem q_681 : (Jvm.Cond.lays "java/lang/ArithmeticException" "java/lang/Throwable" "suppressedExceptions" "Ljava/util/List;") ∈ gw := gw_of (gw_3 (List.mem_of_getElem? (i := 201) rfl)) rfl
theorem q_682 : (Jvm.Cond.lays "java/lang/ArithmeticException" "java/lang/Throwable" "detailMessage" "Ljava/lang/String;") ∈ gw := gw_of (gw_3 (List.mem_of_getElem? (i := 202) rfl)) rfl
theorem q_683 : (Jvm.Cond.lays "java/lang/ArithmeticException" "java/lang/Throwable" "backtrace" "Ljava/lang/Object;") ∈ gw := gw_of (gw_3 (List.mem_of_getElem? (i := 203) rfl)) rfl
theorem q_684 : (Jvm.Cond.stringRef "SolutionBoxes" (73 : Nat) "below is 0 modulo 32003") ∈ lw_tbl := gw_3 (List.mem_of_getElem? (i := 204) rfl)
theorem q_685 : (Jvm.Cond.methodLink "SolutionBoxes" (75 : Nat) ({ cls := "java/lang/ArithmeticException", name := "<init>", desc := "(Ljava/lang/String;)V" } : Jvm.MethodName)) ∈ gw := gw_of (gw_3 (List.mem_of_getElem? (i := 205) rfl)) rfl
theorem q_686 : (Jvm.Cond.instanceMethod ({ cls := "java/lang/ArithmeticException", name := "<init>", desc := "(Ljava/lang/String;)V" } : Jvm.MethodName)) ∈ gw := gw_of (gw_3 (List.mem_of_getElem? (i := 206) rfl)) rfl
theorem q_687 : (Jvm.Cond.code ({ cls := "java/lang/ArithmeticException", name := "<init>", desc := "(Ljava/lang/String;)V" } : Jvm.MethodName) prog_14_method_2_code (2 : Nat) (Option.none : Option Jvm.ClassFile.FieldType)) ∈ gw := gw_of (gw_3 (List.mem_of_getElem? (i := 207) rfl)) rfl
theorem q_688 : (Jvm.Cond.methodLink "java/lang/ArithmeticException" (7 : Nat) ({ cls := "java/lang/RuntimeException", name := "<init>", desc := "(Ljava/lang/String;)V" } : Jvm.MethodName)) ∈ gw := gw_of (gw_3 (List.mem_of_getElem? (i := 208) rfl)) rfl
theorem q_689 : (Jvm.Cond.lays "java/lang/ArithmeticException" "java/lang/Throwable" "depth" "I") ∈ gw := gw_of (gw_3 (List.mem_of_getElem? (i := 209) rfl)) rfl
theorem q_690 : (Jvm.Cond.superclass "java/lang/ArithmeticException" "java/lang/RuntimeException") ∈ lw_tbl := gw_3 (List.mem_of_getElem? (i := 210) rfl)
theorem q_691 : (Jvm.Cond.methodLink "SolutionBoxes" (76 : Nat) ({ cls := "SolutionBoxes", name := "inverse", desc := "(I)I" } : Jvm.MethodName)) ∈ gw := gw_of (gw_3 (List.mem_of_getElem? (i := 211) rfl)) rfl
theorem q_692 : (Jvm.Cond.methodLink "SolutionBoxes" (80 : Nat) ({ cls := "SolutionBoxes$Polynomial", name := "put", desc := "(II)Z" } : Jvm.MethodName)) ∈ gw := gw_of (gw_3 (List.mem_of_getElem? (i := 212) rfl)) rfl
theorem q_693 : (Jvm.Cond.instanceMethod ({ cls := "SolutionBoxes$Polynomial", name := "put", desc := "(II)Z" } : Jvm.MethodName)) ∈ gw := gw_of (gw_3 (List.mem_of_getElem? (i := 213) rfl)) rfl
theorem q_694 : (Jvm.Cond.selects "SolutionBoxes$Polynomial" ({ cls := "SolutionBoxes$Polynomial", name := "put", desc := "(II)Z" } : Jvm.MethodName) ({ cls := "SolutionBoxes$Polynomial", name := "put", desc := "(II)Z" } : Jvm.MethodName)) ∈ gw := gw_of (gw_3 (List.mem_of_getElem? (i := 214) rfl)) rfl
theorem q_695 : (Jvm.Cond.code ({ cls := "SolutionBoxes$Polynomial", name := "put", desc := "(II)Z" } : Jvm.MethodName) prog_4_method_3_code (6 : Nat) (Option.some Jvm.ClassFile.FieldType.boolean)) ∈ gw := gw_of (gw_3 (List.mem_of_getElem? (i := 215) rfl)) rfl
theorem q_696 : (Jvm.Cond.methodLink "SolutionBoxes$Polynomial" (22 : Nat) ({ cls := "SolutionBoxes$Polynomial", name := "makeRoom", desc := "(I)V" } : Jvm.MethodName)) ∈ gw := gw_of (gw_3 (List.mem_of_getElem? (i := 216) rfl)) rfl
theorem q_697 : (Jvm.Cond.privateMethod ({ cls := "SolutionBoxes$Polynomial", name := "makeRoom", desc := "(I)V" } : Jvm.MethodName)) ∈ lw_tbl := gw_3 (List.mem_of_getElem? (i := 217) rfl)
theorem q_698 : (Jvm.Cond.instanceMethod ({ cls := "SolutionBoxes$Polynomial", name := "makeRoom", desc := "(I)V" } : Jvm.MethodName)) ∈ gw := gw_of (gw_3 (List.mem_of_getElem? (i := 218) rfl)) rfl
theorem q_699 : (Jvm.Cond.code ({ cls := "SolutionBoxes$Polynomial", name := "makeRoom", desc := "(I)V" } : Jvm.MethodName) prog_4_method_4_code (3 : Nat) (Option.none : Option Jvm.ClassFile.FieldType)) ∈ gw := gw_of (gw_3 (List.mem_of_getElem? (i := 219) rfl)) rfl
theorem q_700 : (Jvm.Cond.methodLink "SolutionBoxes$Polynomial" (29 : Nat) ({ cls := "java/util/Arrays", name := "copyOf", desc := "([II)[I" } : Jvm.MethodName)) ∈ gw := gw_of (gw_3 (List.mem_of_getElem? (i := 220) rfl)) rfl
theorem q_701 : (Jvm.Cond.static ({ cls := "java/util/Arrays", name := "copyOf", desc := "([II)[I" } : Jvm.MethodName)) ∈ gw := gw_of (gw_3 (List.mem_of_getElem? (i := 221) rfl)) rfl
theorem q_702 : (Jvm.Cond.code ({ cls := "java/util/Arrays", name := "copyOf", desc := "([II)[I" } : Jvm.MethodName) prog_25_method_123_code (3 : Nat) (Option.some (Jvm.ClassFile.FieldType.array Jvm.ClassFile.FieldType.int))) ∈ gw := gw_of (gw_3 (List.mem_of_getElem? (i := 222) rfl)) rfl
theorem q_703 : (Jvm.Cond.methodLink "java/util/Arrays" (316 : Nat) ({ cls := "[I", name := "clone", desc := "()Ljava/lang/Object;" } : Jvm.MethodName)) ∈ gw := gw_of (gw_3 (List.mem_of_getElem? (i := 223) rfl)) rfl
theorem q_704 : (Jvm.Cond.sameMethod "[I" "java/lang/Object" "clone" "()Ljava/lang/Object;") ∈ lw_tbl := gw_3 (List.mem_of_getElem? (i := 224) rfl)
theorem q_705 : (Jvm.Cond.native ({ cls := "java/lang/Object", name := "clone", desc := "()Ljava/lang/Object;" } : Jvm.MethodName)) ∈ lw_tbl := gw_3 (List.mem_of_getElem? (i := 225) rfl)
theorem q_706 : (Jvm.Cond.instanceMethod ({ cls := "java/lang/Object", name := "clone", desc := "()Ljava/lang/Object;" } : Jvm.MethodName)) ∈ gw := gw_of (gw_3 (List.mem_of_getElem? (i := 226) rfl)) rfl
theorem q_707 : (Jvm.Cond.selects "[I" ({ cls := "[I", name := "clone", desc := "()Ljava/lang/Object;" } : Jvm.MethodName) ({ cls := "java/lang/Object", name := "clone", desc := "()Ljava/lang/Object;" } : Jvm.MethodName)) ∈ gw := gw_of (gw_3 (List.mem_of_getElem? (i := 227) rfl)) rfl
theorem q_708 : (Jvm.Cond.castable "[I" "java/lang/Cloneable") ∈ lw_tbl := gw_3 (List.mem_of_getElem? (i := 228) rfl)
theorem q_709 : (Jvm.Cond.classLink "java/util/Arrays" (317 : Nat) "[I") ∈ gw := gw_of (gw_3 (List.mem_of_getElem? (i := 229) rfl)) rfl
theorem q_710 : (Jvm.Cond.methodLink "java/util/Arrays" (304 : Nat) ({ cls := "java/lang/Math", name := "min", desc := "(II)I" } : Jvm.MethodName)) ∈ gw := gw_of (gw_3 (List.mem_of_getElem? (i := 230) rfl)) rfl
theorem q_711 : (Jvm.Cond.methodLink "java/util/Arrays" (150 : Nat) ({ cls := "java/lang/System", name := "arraycopy", desc := "(Ljava/lang/Object;ILjava/lang/Object;II)V" } : Jvm.MethodName)) ∈ gw := gw_of (gw_3 (List.mem_of_getElem? (i := 231) rfl)) rfl
theorem q_712 : (Jvm.Cond.methodLink "SolutionBoxes$Polynomial" (26 : Nat) ({ cls := "SolutionBoxes$Polynomial", name := "closeUp", desc := "(I)V" } : Jvm.MethodName)) ∈ gw := gw_of (gw_3 (List.mem_of_getElem? (i := 232) rfl)) rfl
theorem q_713 : (Jvm.Cond.privateMethod ({ cls := "SolutionBoxes$Polynomial", name := "closeUp", desc := "(I)V" } : Jvm.MethodName)) ∈ lw_tbl := gw_3 (List.mem_of_getElem? (i := 233) rfl)
theorem q_714 : (Jvm.Cond.instanceMethod ({ cls := "SolutionBoxes$Polynomial", name := "closeUp", desc := "(I)V" } : Jvm.MethodName)) ∈ gw := gw_of (gw_3 (List.mem_of_getElem? (i := 234) rfl)) rfl
theorem q_715 : (Jvm.Cond.code ({ cls := "SolutionBoxes$Polynomial", name := "closeUp", desc := "(I)V" } : Jvm.MethodName) prog_4_method_5_code (3 : Nat) (Option.none : Option Jvm.ClassFile.FieldType)) ∈ gw := gw_of (gw_3 (List.mem_of_getElem? (i := 235) rfl)) rfl
theorem q_716 : (Jvm.Cond.methodLink "SolutionBoxesLaw" (74 : Nat) ({ cls := "SolutionBoxesLaw", name := "take", desc := "(LSolutionBoxes;I[J)I" } : Jvm.MethodName)) ∈ gw := gw_of (gw_3 (List.mem_of_getElem? (i := 236) rfl)) rfl
theorem q_717 : (Jvm.Cond.static ({ cls := "SolutionBoxesLaw", name := "take", desc := "(LSolutionBoxes;I[J)I" } : Jvm.MethodName)) ∈ gw := gw_of (gw_3 (List.mem_of_getElem? (i := 237) rfl)) rfl
theorem q_718 : (Jvm.Cond.codeWith ({ cls := "SolutionBoxesLaw", name := "take", desc := "(LSolutionBoxes;I[J)I" } : Jvm.MethodName) method_5_code (4 : Nat) (Option.some Jvm.ClassFile.FieldType.int) [((0 : Nat), (16 : Nat), (19 : Nat), (19 : Nat))]) ∈ lw_tbl := gw_3 (List.mem_of_getElem? (i := 238) rfl)
theorem q_719 : (Jvm.Cond.methodLink "SolutionBoxesLaw" (25 : Nat) ({ cls := "SolutionBoxes", name := "take", desc := "(I)Z" } : Jvm.MethodName)) ∈ gw := gw_of (gw_3 (List.mem_of_getElem? (i := 239) rfl)) rfl
theorem q_720 : (Jvm.Cond.instanceMethod ({ cls := "SolutionBoxes", name := "take", desc := "(I)Z" } : Jvm.MethodName)) ∈ gw := gw_of (gw_4 (List.mem_of_getElem? (i := 0) rfl)) rfl
theorem q_721 : (Jvm.Cond.selects "SolutionBoxes" ({ cls := "SolutionBoxes", name := "take", desc := "(I)Z" } : Jvm.MethodName) ({ cls := "SolutionBoxes", name := "take", desc := "(I)Z" } : Jvm.MethodName)) ∈ gw := gw_of (gw_4 (List.mem_of_getElem? (i := 1) rfl)) rfl
theorem q_722 : (Jvm.Cond.code ({ cls := "SolutionBoxes", name := "take", desc := "(I)Z" } : Jvm.MethodName) prog_1_method_4_code (3 : Nat) (Option.some Jvm.ClassFile.FieldType.boolean)) ∈ gw := gw_of (gw_4 (List.mem_of_getElem? (i := 2) rfl)) rfl
theorem q_723 : (Jvm.Cond.methodLink "SolutionBoxes" (87 : Nat) ({ cls := "SolutionBoxes$TakenList", name := "add", desc := "(LSolutionBoxes$Polynomial;)V" } : Jvm.MethodName)) ∈ gw := gw_of (gw_4 (List.mem_of_getElem? (i := 3) rfl)) rfl
theorem q_724 : (Jvm.Cond.instanceMethod ({ cls := "SolutionBoxes$TakenList", name := "add", desc := "(LSolutionBoxes$Polynomial;)V" } : Jvm.MethodName)) ∈ gw := gw_of (gw_4 (List.mem_of_getElem? (i := 4) rfl)) rfl
theorem q_725 : (Jvm.Cond.selects "SolutionBoxes$TakenList" ({ cls := "SolutionBoxes$TakenList", name := "add", desc := "(LSolutionBoxes$Polynomial;)V" } : Jvm.MethodName) ({ cls := "SolutionBoxes$TakenList", name := "add", desc := "(LSolutionBoxes$Polynomial;)V" } : Jvm.MethodName)) ∈ gw := gw_of (gw_4 (List.mem_of_getElem? (i := 5) rfl)) rfl
theorem q_726 : (Jvm.Cond.code ({ cls := "SolutionBoxes$TakenList", name := "add", desc := "(LSolutionBoxes$Polynomial;)V" } : Jvm.MethodName) prog_11_method_2_code (2 : Nat) (Option.none : Option Jvm.ClassFile.FieldType)) ∈ gw := gw_of (gw_4 (List.mem_of_getElem? (i := 6) rfl)) rfl
theorem q_727 : (Jvm.Cond.methodLink "SolutionBoxes$TakenList" (27 : Nat) ({ cls := "SolutionBoxes$Polynomial", name := "becomeMonic", desc := "(LSolutionBoxes$Polynomial;)V" } : Jvm.MethodName)) ∈ gw := gw_of (gw_4 (List.mem_of_getElem? (i := 7) rfl)) rfl
theorem q_728 : (Jvm.Cond.instanceMethod ({ cls := "SolutionBoxes$Polynomial", name := "becomeMonic", desc := "(LSolutionBoxes$Polynomial;)V" } : Jvm.MethodName)) ∈ gw := gw_of (gw_4 (List.mem_of_getElem? (i := 8) rfl)) rfl
theorem q_729 : (Jvm.Cond.selects "SolutionBoxes$Polynomial" ({ cls := "SolutionBoxes$Polynomial", name := "becomeMonic", desc := "(LSolutionBoxes$Polynomial;)V" } : Jvm.MethodName) ({ cls := "SolutionBoxes$Polynomial", name := "becomeMonic", desc := "(LSolutionBoxes$Polynomial;)V" } : Jvm.MethodName)) ∈ gw := gw_of (gw_4 (List.mem_of_getElem? (i := 9) rfl)) rfl
theorem q_730 : (Jvm.Cond.code ({ cls := "SolutionBoxes$Polynomial", name := "becomeMonic", desc := "(LSolutionBoxes$Polynomial;)V" } : Jvm.MethodName) prog_4_method_6_code (4 : Nat) (Option.none : Option Jvm.ClassFile.FieldType)) ∈ gw := gw_of (gw_4 (List.mem_of_getElem? (i := 10) rfl)) rfl
theorem q_731 : (Jvm.Cond.methodLinkNest "SolutionBoxes$Polynomial" (35 : Nat) ({ cls := "SolutionBoxes", name := "inverse", desc := "(I)I" } : Jvm.MethodName) "SolutionBoxes") ∈ lw_tbl := gw_4 (List.mem_of_getElem? (i := 11) rfl)
theorem q_732 : (Jvm.Cond.methodLink "SolutionBoxesLaw" (82 : Nat) ({ cls := "SolutionBoxesLaw", name := "total", desc := "(LSolutionBoxes;[J)I" } : Jvm.MethodName)) ∈ gw := gw_of (gw_4 (List.mem_of_getElem? (i := 12) rfl)) rfl
theorem q_733 : (Jvm.Cond.static ({ cls := "SolutionBoxesLaw", name := "total", desc := "(LSolutionBoxes;[J)I" } : Jvm.MethodName)) ∈ gw := gw_of (gw_4 (List.mem_of_getElem? (i := 13) rfl)) rfl
theorem q_734 : (Jvm.Cond.codeWith ({ cls := "SolutionBoxesLaw", name := "total", desc := "(LSolutionBoxes;[J)I" } : Jvm.MethodName) method_6_code (3 : Nat) (Option.some Jvm.ClassFile.FieldType.int) [((0 : Nat), (8 : Nat), (11 : Nat), (13 : Nat))]) ∈ lw_tbl := gw_4 (List.mem_of_getElem? (i := 14) rfl)
theorem q_735 : (Jvm.Cond.methodLink "SolutionBoxesLaw" (29 : Nat) ({ cls := "SolutionBoxes", name := "total", desc := "()I" } : Jvm.MethodName)) ∈ gw := gw_of (gw_4 (List.mem_of_getElem? (i := 15) rfl)) rfl
theorem q_736 : (Jvm.Cond.instanceMethod ({ cls := "SolutionBoxes", name := "total", desc := "()I" } : Jvm.MethodName)) ∈ gw := gw_of (gw_4 (List.mem_of_getElem? (i := 16) rfl)) rfl
theorem q_737 : (Jvm.Cond.selects "SolutionBoxes" ({ cls := "SolutionBoxes", name := "total", desc := "()I" } : Jvm.MethodName) ({ cls := "SolutionBoxes", name := "total", desc := "()I" } : Jvm.MethodName)) ∈ gw := gw_of (gw_4 (List.mem_of_getElem? (i := 17) rfl)) rfl
theorem q_738 : (Jvm.Cond.code ({ cls := "SolutionBoxes", name := "total", desc := "()I" } : Jvm.MethodName) prog_1_method_6_code (1 : Nat) (Option.some Jvm.ClassFile.FieldType.int)) ∈ gw := gw_of (gw_4 (List.mem_of_getElem? (i := 18) rfl)) rfl
theorem q_739 : (Jvm.Cond.methodLink "SolutionBoxes" (114 : Nat) ({ cls := "SolutionBoxes", name := "known", desc := "()LSolutionBoxes$Solver;" } : Jvm.MethodName)) ∈ gw := gw_of (gw_4 (List.mem_of_getElem? (i := 19) rfl)) rfl
theorem q_740 : (Jvm.Cond.privateMethod ({ cls := "SolutionBoxes", name := "known", desc := "()LSolutionBoxes$Solver;" } : Jvm.MethodName)) ∈ lw_tbl := gw_4 (List.mem_of_getElem? (i := 20) rfl)
theorem q_741 : (Jvm.Cond.instanceMethod ({ cls := "SolutionBoxes", name := "known", desc := "()LSolutionBoxes$Solver;" } : Jvm.MethodName)) ∈ gw := gw_of (gw_4 (List.mem_of_getElem? (i := 21) rfl)) rfl
theorem q_742 : (Jvm.Cond.code ({ cls := "SolutionBoxes", name := "known", desc := "()LSolutionBoxes$Solver;" } : Jvm.MethodName) prog_1_method_17_code (1 : Nat) (Option.some (Jvm.ClassFile.FieldType.object "SolutionBoxes$Solver"))) ∈ gw := gw_of (gw_4 (List.mem_of_getElem? (i := 22) rfl)) rfl
theorem q_743 : (Jvm.Cond.stringRef "SolutionBoxes" (177 : Nat) "zeros aren't known") ∈ lw_tbl := gw_4 (List.mem_of_getElem? (i := 23) rfl)
theorem q_744 : (Jvm.Cond.methodLink "SolutionBoxesLaw" (85 : Nat) ({ cls := "SolutionBoxesLaw", name := "left", desc := "(LSolutionBoxes;I[J)I" } : Jvm.MethodName)) ∈ gw := gw_of (gw_4 (List.mem_of_getElem? (i := 24) rfl)) rfl
theorem q_745 : (Jvm.Cond.static ({ cls := "SolutionBoxesLaw", name := "left", desc := "(LSolutionBoxes;I[J)I" } : Jvm.MethodName)) ∈ gw := gw_of (gw_4 (List.mem_of_getElem? (i := 25) rfl)) rfl
theorem q_746 : (Jvm.Cond.codeWith ({ cls := "SolutionBoxesLaw", name := "left", desc := "(LSolutionBoxes;I[J)I" } : Jvm.MethodName) method_7_code (4 : Nat) (Option.some Jvm.ClassFile.FieldType.int) [((0 : Nat), (9 : Nat), (12 : Nat), (13 : Nat))]) ∈ lw_tbl := gw_4 (List.mem_of_getElem? (i := 26) rfl)
theorem q_747 : (Jvm.Cond.methodLink "SolutionBoxesLaw" (32 : Nat) ({ cls := "SolutionBoxes", name := "left", desc := "(I)I" } : Jvm.MethodName)) ∈ gw := gw_of (gw_4 (List.mem_of_getElem? (i := 27) rfl)) rfl
theorem q_748 : (Jvm.Cond.instanceMethod ({ cls := "SolutionBoxes", name := "left", desc := "(I)I" } : Jvm.MethodName)) ∈ gw := gw_of (gw_4 (List.mem_of_getElem? (i := 28) rfl)) rfl
theorem q_749 : (Jvm.Cond.selects "SolutionBoxes" ({ cls := "SolutionBoxes", name := "left", desc := "(I)I" } : Jvm.MethodName) ({ cls := "SolutionBoxes", name := "left", desc := "(I)I" } : Jvm.MethodName)) ∈ gw := gw_of (gw_4 (List.mem_of_getElem? (i := 29) rfl)) rfl
theorem q_750 : (Jvm.Cond.code ({ cls := "SolutionBoxes", name := "left", desc := "(I)I" } : Jvm.MethodName) prog_1_method_7_code (3 : Nat) (Option.some Jvm.ClassFile.FieldType.int)) ∈ gw := gw_of (gw_4 (List.mem_of_getElem? (i := 30) rfl)) rfl
theorem q_751 : (Jvm.Cond.methodLink "SolutionBoxes" (130 : Nat) ({ cls := "SolutionBoxes$Power", name := "written", desc := "(I)I" } : Jvm.MethodName)) ∈ gw := gw_of (gw_4 (List.mem_of_getElem? (i := 31) rfl)) rfl
theorem q_752 : (Jvm.Cond.static ({ cls := "SolutionBoxes$Power", name := "written", desc := "(I)I" } : Jvm.MethodName)) ∈ gw := gw_of (gw_4 (List.mem_of_getElem? (i := 32) rfl)) rfl
theorem q_753 : (Jvm.Cond.code ({ cls := "SolutionBoxes$Power", name := "written", desc := "(I)I" } : Jvm.MethodName) prog_5_method_6_code (1 : Nat) (Option.some Jvm.ClassFile.FieldType.int)) ∈ gw := gw_of (gw_4 (List.mem_of_getElem? (i := 33) rfl)) rfl
theorem q_754 : (Jvm.Cond.methodLink "SolutionBoxesLaw" (88 : Nat) ({ cls := "SolutionBoxesLaw", name := "at", desc := "(LSolutionBoxes;II[J)I" } : Jvm.MethodName)) ∈ gw := gw_of (gw_4 (List.mem_of_getElem? (i := 34) rfl)) rfl
theorem q_755 : (Jvm.Cond.static ({ cls := "SolutionBoxesLaw", name := "at", desc := "(LSolutionBoxes;II[J)I" } : Jvm.MethodName)) ∈ gw := gw_of (gw_4 (List.mem_of_getElem? (i := 35) rfl)) rfl
theorem q_756 : (Jvm.Cond.codeWith ({ cls := "SolutionBoxesLaw", name := "at", desc := "(LSolutionBoxes;II[J)I" } : Jvm.MethodName) method_8_code (5 : Nat) (Option.some Jvm.ClassFile.FieldType.int) [((0 : Nat), (10 : Nat), (13 : Nat), (13 : Nat)), ((0 : Nat), (10 : Nat), (17 : Nat), (19 : Nat)), ((0 : Nat), (10 : Nat), (21 : Nat), (21 : Nat))]) ∈ lw_tbl := gw_4 (List.mem_of_getElem? (i := 36) rfl)
theorem q_757 : (Jvm.Cond.methodLink "SolutionBoxesLaw" (36 : Nat) ({ cls := "SolutionBoxes", name := "at", desc := "(II)I" } : Jvm.MethodName)) ∈ gw := gw_of (gw_4 (List.mem_of_getElem? (i := 37) rfl)) rfl
theorem q_758 : (Jvm.Cond.instanceMethod ({ cls := "SolutionBoxes", name := "at", desc := "(II)I" } : Jvm.MethodName)) ∈ gw := gw_of (gw_4 (List.mem_of_getElem? (i := 38) rfl)) rfl
theorem q_759 : (Jvm.Cond.selects "SolutionBoxes" ({ cls := "SolutionBoxes", name := "at", desc := "(II)I" } : Jvm.MethodName) ({ cls := "SolutionBoxes", name := "at", desc := "(II)I" } : Jvm.MethodName)) ∈ gw := gw_of (gw_4 (List.mem_of_getElem? (i := 39) rfl)) rfl
theorem q_760 : (Jvm.Cond.code ({ cls := "SolutionBoxes", name := "at", desc := "(II)I" } : Jvm.MethodName) prog_1_method_8_code (4 : Nat) (Option.some Jvm.ClassFile.FieldType.int)) ∈ gw := gw_of (gw_4 (List.mem_of_getElem? (i := 40) rfl)) rfl
theorem q_761 : (Jvm.Cond.methodLink "SolutionBoxes" (133 : Nat) ({ cls := "SolutionBoxes", name := "zeroOf", desc := "(LSolutionBoxes$Solver;I)[I" } : Jvm.MethodName)) ∈ gw := gw_of (gw_4 (List.mem_of_getElem? (i := 41) rfl)) rfl
theorem q_762 : (Jvm.Cond.static ({ cls := "SolutionBoxes", name := "zeroOf", desc := "(LSolutionBoxes$Solver;I)[I" } : Jvm.MethodName)) ∈ gw := gw_of (gw_4 (List.mem_of_getElem? (i := 42) rfl)) rfl
theorem q_763 : (Jvm.Cond.code ({ cls := "SolutionBoxes", name := "zeroOf", desc := "(LSolutionBoxes$Solver;I)[I" } : Jvm.MethodName) prog_1_method_18_code (2 : Nat) (Option.some (Jvm.ClassFile.FieldType.array Jvm.ClassFile.FieldType.int))) ∈ gw := gw_of (gw_4 (List.mem_of_getElem? (i := 43) rfl)) rfl
theorem q_764 : (Jvm.Cond.stringRef "SolutionBoxes" (182 : Nat) "no such zero") ∈ lw_tbl := gw_4 (List.mem_of_getElem? (i := 44) rfl)
theorem q_765 : (Jvm.Cond.methodLink "SolutionBoxes" (137 : Nat) ({ cls := "SolutionBoxes", name := "requireLetter", desc := "(I)V" } : Jvm.MethodName)) ∈ gw := gw_of (gw_4 (List.mem_of_getElem? (i := 45) rfl)) rfl
theorem q_766 : (Jvm.Cond.privateMethod ({ cls := "SolutionBoxes", name := "requireLetter", desc := "(I)V" } : Jvm.MethodName)) ∈ lw_tbl := gw_4 (List.mem_of_getElem? (i := 46) rfl)
theorem q_767 : (Jvm.Cond.instanceMethod ({ cls := "SolutionBoxes", name := "requireLetter", desc := "(I)V" } : Jvm.MethodName)) ∈ gw := gw_of (gw_4 (List.mem_of_getElem? (i := 47) rfl)) rfl
theorem q_768 : (Jvm.Cond.code ({ cls := "SolutionBoxes", name := "requireLetter", desc := "(I)V" } : Jvm.MethodName) prog_1_method_16_code (2 : Nat) (Option.none : Option Jvm.ClassFile.FieldType)) ∈ gw := gw_of (gw_4 (List.mem_of_getElem? (i := 48) rfl)) rfl
theorem q_769 : (Jvm.Cond.stringRef "SolutionBoxes" (175 : Nat) "no such letter") ∈ lw_tbl := gw_4 (List.mem_of_getElem? (i := 49) rfl)
theorem q_770 : (Jvm.Cond.methodLink "SolutionBoxesLaw" (92 : Nat) ({ cls := "SolutionBoxesLaw", name := "multiplicity", desc := "(LSolutionBoxes;I[J)I" } : Jvm.MethodName)) ∈ gw := gw_of (gw_4 (List.mem_of_getElem? (i := 50) rfl)) rfl
theorem q_771 : (Jvm.Cond.static ({ cls := "SolutionBoxesLaw", name := "multiplicity", desc := "(LSolutionBoxes;I[J)I" } : Jvm.MethodName)) ∈ gw := gw_of (gw_4 (List.mem_of_getElem? (i := 51) rfl)) rfl
theorem q_772 : (Jvm.Cond.codeWith ({ cls := "SolutionBoxesLaw", name := "multiplicity", desc := "(LSolutionBoxes;I[J)I" } : Jvm.MethodName) method_9_code (4 : Nat) (Option.some Jvm.ClassFile.FieldType.int) [((0 : Nat), (9 : Nat), (12 : Nat), (13 : Nat)), ((0 : Nat), (9 : Nat), (15 : Nat), (19 : Nat))]) ∈ lw_tbl := gw_4 (List.mem_of_getElem? (i := 52) rfl)
theorem q_773 : (Jvm.Cond.methodLink "SolutionBoxesLaw" (40 : Nat) ({ cls := "SolutionBoxes", name := "multiplicity", desc := "(I)I" } : Jvm.MethodName)) ∈ gw := gw_of (gw_4 (List.mem_of_getElem? (i := 53) rfl)) rfl
theorem q_774 : (Jvm.Cond.instanceMethod ({ cls := "SolutionBoxes", name := "multiplicity", desc := "(I)I" } : Jvm.MethodName)) ∈ gw := gw_of (gw_4 (List.mem_of_getElem? (i := 54) rfl)) rfl
theorem q_775 : (Jvm.Cond.selects "SolutionBoxes" ({ cls := "SolutionBoxes", name := "multiplicity", desc := "(I)I" } : Jvm.MethodName) ({ cls := "SolutionBoxes", name := "multiplicity", desc := "(I)I" } : Jvm.MethodName)) ∈ gw := gw_of (gw_4 (List.mem_of_getElem? (i := 55) rfl)) rfl
theorem q_776 : (Jvm.Cond.code ({ cls := "SolutionBoxes", name := "multiplicity", desc := "(I)I" } : Jvm.MethodName) prog_1_method_9_code (3 : Nat) (Option.some Jvm.ClassFile.FieldType.int)) ∈ gw := gw_of (gw_4 (List.mem_of_getElem? (i := 56) rfl)) rfl
theorem q_777 : (Jvm.Cond.methodLink "SolutionBoxesLaw" (95 : Nat) ({ cls := "SolutionBoxesLaw", name := "minimal", desc := "(LSolutionBoxes;II[J)I" } : Jvm.MethodName)) ∈ gw := gw_of (gw_4 (List.mem_of_getElem? (i := 57) rfl)) rfl
theorem q_778 : (Jvm.Cond.static ({ cls := "SolutionBoxesLaw", name := "minimal", desc := "(LSolutionBoxes;II[J)I" } : Jvm.MethodName)) ∈ gw := gw_of (gw_4 (List.mem_of_getElem? (i := 58) rfl)) rfl
theorem q_779 : (Jvm.Cond.codeWith ({ cls := "SolutionBoxesLaw", name := "minimal", desc := "(LSolutionBoxes;II[J)I" } : Jvm.MethodName) method_10_code (5 : Nat) (Option.some Jvm.ClassFile.FieldType.int) [((0 : Nat), (10 : Nat), (13 : Nat), (13 : Nat)), ((0 : Nat), (10 : Nat), (17 : Nat), (21 : Nat))]) ∈ lw_tbl := gw_4 (List.mem_of_getElem? (i := 59) rfl)
theorem q_780 : (Jvm.Cond.methodLink "SolutionBoxesLaw" (43 : Nat) ({ cls := "SolutionBoxes", name := "minimal", desc := "(II)I" } : Jvm.MethodName)) ∈ gw := gw_of (gw_4 (List.mem_of_getElem? (i := 60) rfl)) rfl
theorem q_781 : (Jvm.Cond.instanceMethod ({ cls := "SolutionBoxes", name := "minimal", desc := "(II)I" } : Jvm.MethodName)) ∈ gw := gw_of (gw_4 (List.mem_of_getElem? (i := 61) rfl)) rfl
theorem q_782 : (Jvm.Cond.selects "SolutionBoxes" ({ cls := "SolutionBoxes", name := "minimal", desc := "(II)I" } : Jvm.MethodName) ({ cls := "SolutionBoxes", name := "minimal", desc := "(II)I" } : Jvm.MethodName)) ∈ gw := gw_of (gw_4 (List.mem_of_getElem? (i := 62) rfl)) rfl
theorem q_783 : (Jvm.Cond.code ({ cls := "SolutionBoxes", name := "minimal", desc := "(II)I" } : Jvm.MethodName) prog_1_method_10_code (4 : Nat) (Option.some Jvm.ClassFile.FieldType.int)) ∈ gw := gw_of (gw_4 (List.mem_of_getElem? (i := 63) rfl)) rfl
theorem q_784 : (Jvm.Cond.methodLink "SolutionBoxes" (147 : Nat) ({ cls := "SolutionBoxes$OneLetter", name := "numberAt", desc := "(I)I" } : Jvm.MethodName)) ∈ gw := gw_of (gw_4 (List.mem_of_getElem? (i := 64) rfl)) rfl
theorem q_785 : (Jvm.Cond.instanceMethod ({ cls := "SolutionBoxes$OneLetter", name := "numberAt", desc := "(I)I" } : Jvm.MethodName)) ∈ gw := gw_of (gw_4 (List.mem_of_getElem? (i := 65) rfl)) rfl
theorem q_786 : (Jvm.Cond.selects "SolutionBoxes$OneLetter" ({ cls := "SolutionBoxes$OneLetter", name := "numberAt", desc := "(I)I" } : Jvm.MethodName) ({ cls := "SolutionBoxes$OneLetter", name := "numberAt", desc := "(I)I" } : Jvm.MethodName)) ∈ gw := gw_of (gw_4 (List.mem_of_getElem? (i := 66) rfl)) rfl
theorem q_787 : (Jvm.Cond.code ({ cls := "SolutionBoxes$OneLetter", name := "numberAt", desc := "(I)I" } : Jvm.MethodName) prog_2_method_2_code (2 : Nat) (Option.some Jvm.ClassFile.FieldType.int)) ∈ gw := gw_of (gw_4 (List.mem_of_getElem? (i := 67) rfl)) rfl
theorem q_788 : (Jvm.Cond.methodLink "SolutionBoxesLaw" (98 : Nat) ({ cls := "SolutionBoxesLaw", name := "value", desc := "(LSolutionBoxes;II[J)I" } : Jvm.MethodName)) ∈ gw := gw_of (gw_4 (List.mem_of_getElem? (i := 68) rfl)) rfl
theorem q_789 : (Jvm.Cond.static ({ cls := "SolutionBoxesLaw", name := "value", desc := "(LSolutionBoxes;II[J)I" } : Jvm.MethodName)) ∈ gw := gw_of (gw_4 (List.mem_of_getElem? (i := 69) rfl)) rfl
theorem q_790 : (Jvm.Cond.codeWith ({ cls := "SolutionBoxesLaw", name := "value", desc := "(LSolutionBoxes;II[J)I" } : Jvm.MethodName) method_11_code (5 : Nat) (Option.some Jvm.ClassFile.FieldType.int) [((0 : Nat), (10 : Nat), (13 : Nat), (13 : Nat)), ((0 : Nat), (10 : Nat), (17 : Nat), (19 : Nat))]) ∈ lw_tbl := gw_4 (List.mem_of_getElem? (i := 70) rfl)
theorem q_791 : (Jvm.Cond.methodLink "SolutionBoxesLaw" (46 : Nat) ({ cls := "SolutionBoxes", name := "value", desc := "(II)I" } : Jvm.MethodName)) ∈ gw := gw_of (gw_4 (List.mem_of_getElem? (i := 71) rfl)) rfl
theorem q_792 : (Jvm.Cond.instanceMethod ({ cls := "SolutionBoxes", name := "value", desc := "(II)I" } : Jvm.MethodName)) ∈ gw := gw_of (gw_4 (List.mem_of_getElem? (i := 72) rfl)) rfl
theorem q_793 : (Jvm.Cond.selects "SolutionBoxes" ({ cls := "SolutionBoxes", name := "value", desc := "(II)I" } : Jvm.MethodName) ({ cls := "SolutionBoxes", name := "value", desc := "(II)I" } : Jvm.MethodName)) ∈ gw := gw_of (gw_4 (List.mem_of_getElem? (i := 73) rfl)) rfl
theorem q_794 : (Jvm.Cond.code ({ cls := "SolutionBoxes", name := "value", desc := "(II)I" } : Jvm.MethodName) prog_1_method_11_code (7 : Nat) (Option.some Jvm.ClassFile.FieldType.int)) ∈ gw := gw_of (gw_4 (List.mem_of_getElem? (i := 74) rfl)) rfl
theorem q_795 : (Jvm.Cond.methodLink "SolutionBoxes" (156 : Nat) ({ cls := "SolutionBoxes$Point", name := "move", desc := "(II)V" } : Jvm.MethodName)) ∈ gw := gw_of (gw_4 (List.mem_of_getElem? (i := 75) rfl)) rfl
theorem q_796 : (Jvm.Cond.methodLink "SolutionBoxes" (162 : Nat) ({ cls := "SolutionBoxes$Polynomial", name := "valueAt", desc := "(LSolutionBoxes$Point;)I" } : Jvm.MethodName)) ∈ gw := gw_of (gw_4 (List.mem_of_getElem? (i := 76) rfl)) rfl
theorem q_797 : (Jvm.Cond.classLink "SolutionBoxesLaw" (58 : Nat) "SolutionBoxesModel") ∈ gw := gw_of (gw_4 (List.mem_of_getElem? (i := 77) rfl)) rfl
theorem q_798 : (Jvm.Cond.instantiable "SolutionBoxesModel" (31 : Nat)) ∈ gw := gw_of (gw_4 (List.mem_of_getElem? (i := 78) rfl)) rfl
theorem q_799 : (Jvm.Cond.methodLink "SolutionBoxesLaw" (60 : Nat) ({ cls := "SolutionBoxesModel", name := "<init>", desc := "(I)V" } : Jvm.MethodName)) ∈ gw := gw_of (gw_4 (List.mem_of_getElem? (i := 79) rfl)) rfl
theorem q_800 : (Jvm.Cond.instanceMethod ({ cls := "SolutionBoxesModel", name := "<init>", desc := "(I)V" } : Jvm.MethodName)) ∈ gw := gw_of (gw_4 (List.mem_of_getElem? (i := 80) rfl)) rfl
theorem q_801 : (Jvm.Cond.code ({ cls := "SolutionBoxesModel", name := "<init>", desc := "(I)V" } : Jvm.MethodName) prog_13_method_1_code (2 : Nat) (Option.none : Option Jvm.ClassFile.FieldType)) ∈ gw := gw_of (gw_4 (List.mem_of_getElem? (i := 81) rfl)) rfl
theorem q_802 : (Jvm.Cond.methodLink "SolutionBoxesModel" (1 : Nat) ({ cls := "java/lang/Object", name := "<init>", desc := "()V" } : Jvm.MethodName)) ∈ gw := gw_of (gw_4 (List.mem_of_getElem? (i := 82) rfl)) rfl
theorem q_803 : (Jvm.Cond.constant "SolutionBoxesModel" (7 : Nat) (40000 : Int32)) ∈ gw := gw_of (gw_4 (List.mem_of_getElem? (i := 83) rfl)) rfl
theorem q_804 : (Jvm.Cond.fieldLink "SolutionBoxesModel" (78 : Nat) "SolutionBoxesModel" "letters" "I") ∈ gw := gw_of (gw_4 (List.mem_of_getElem? (i := 84) rfl)) rfl
theorem q_805 : (Jvm.Cond.fieldLink "SolutionBoxesModel" (91 : Nat) "SolutionBoxesModel" "given" "I") ∈ gw := gw_of (gw_4 (List.mem_of_getElem? (i := 85) rfl)) rfl
theorem q_806 : (Jvm.Cond.fieldLink "SolutionBoxesModel" (118 : Nat) "SolutionBoxesModel" "taken" "I") ∈ gw := gw_of (gw_4 (List.mem_of_getElem? (i := 86) rfl)) rfl
theorem q_807 : (Jvm.Cond.fieldLink "SolutionBoxesModel" (82 : Nat) "SolutionBoxesModel" "thrown" "I") ∈ gw := gw_of (gw_4 (List.mem_of_getElem? (i := 87) rfl)) rfl
theorem q_808 : (Jvm.Cond.fieldLink "SolutionBoxesModel" (8 : Nat) "SolutionBoxesModel" "poly" "[I") ∈ gw := gw_of (gw_4 (List.mem_of_getElem? (i := 88) rfl)) rfl
theorem q_809 : (Jvm.Cond.fieldLink "SolutionBoxesModel" (125 : Nat) "SolutionBoxesModel" "list" "I") ∈ gw := gw_of (gw_4 (List.mem_of_getElem? (i := 89) rfl)) rfl
theorem q_810 : (Jvm.Cond.fieldLink "SolutionBoxesModel" (14 : Nat) "SolutionBoxesModel" "terms" "[I") ∈ gw := gw_of (gw_4 (List.mem_of_getElem? (i := 90) rfl)) rfl
theorem q_811 : (Jvm.Cond.fieldLink "SolutionBoxesModel" (17 : Nat) "SolutionBoxesModel" "termPower" "[I") ∈ gw := gw_of (gw_4 (List.mem_of_getElem? (i := 91) rfl)) rfl
theorem q_812 : (Jvm.Cond.fieldLink "SolutionBoxesModel" (20 : Nat) "SolutionBoxesModel" "termNumber" "[I") ∈ gw := gw_of (gw_4 (List.mem_of_getElem? (i := 92) rfl)) rfl
theorem q_813 : (Jvm.Cond.fieldLink "SolutionBoxesModel" (23 : Nat) "SolutionBoxesModel" "head" "[I") ∈ gw := gw_of (gw_4 (List.mem_of_getElem? (i := 93) rfl)) rfl
theorem q_814 : (Jvm.Cond.fieldLink "SolutionBoxesModel" (26 : Nat) "SolutionBoxesModel" "headInverse" "[I") ∈ gw := gw_of (gw_4 (List.mem_of_getElem? (i := 94) rfl)) rfl
theorem q_815 : (Jvm.Cond.fieldLink "SolutionBoxesModel" (29 : Nat) "SolutionBoxesModel" "cube" "[I") ∈ gw := gw_of (gw_4 (List.mem_of_getElem? (i := 95) rfl)) rfl
theorem q_816 : (Jvm.Cond.fieldLink "SolutionBoxesModel" (121 : Nat) "SolutionBoxesModel" "known" "Z") ∈ gw := gw_of (gw_4 (List.mem_of_getElem? (i := 96) rfl)) rfl
theorem q_817 : (Jvm.Cond.fieldLink "SolutionBoxesModel" (132 : Nat) "SolutionBoxesModel" "asked" "Z") ∈ gw := gw_of (gw_4 (List.mem_of_getElem? (i := 97) rfl)) rfl
theorem q_818 : (Jvm.Cond.fieldLink "SolutionBoxesModel" (171 : Nat) "SolutionBoxesModel" "size" "I") ∈ gw := gw_of (gw_4 (List.mem_of_getElem? (i := 98) rfl)) rfl
theorem q_819 : (Jvm.Cond.fieldLink "SolutionBoxesModel" (32 : Nat) "SolutionBoxesModel" "left" "[I") ∈ gw := gw_of (gw_4 (List.mem_of_getElem? (i := 99) rfl)) rfl
theorem q_820 : (Jvm.Cond.fieldLink "SolutionBoxesModel" (35 : Nat) "SolutionBoxesModel" "table" "[I") ∈ gw := gw_of (gw_4 (List.mem_of_getElem? (i := 100) rfl)) rfl
theorem q_821 : (Jvm.Cond.fieldLink "SolutionBoxesModel" (38 : Nat) "SolutionBoxesModel" "leastDegree" "[I") ∈ gw := gw_of (gw_4 (List.mem_of_getElem? (i := 101) rfl)) rfl
theorem q_822 : (Jvm.Cond.fieldLink "SolutionBoxesModel" (41 : Nat) "SolutionBoxesModel" "least" "[I") ∈ gw := gw_of (gw_4 (List.mem_of_getElem? (i := 102) rfl)) rfl
theorem q_823 : (Jvm.Cond.fieldLink "SolutionBoxesModel" (44 : Nat) "SolutionBoxesModel" "rootMany" "[I") ∈ gw := gw_of (gw_4 (List.mem_of_getElem? (i := 103) rfl)) rfl
theorem q_824 : (Jvm.Cond.fieldLink "SolutionBoxesModel" (47 : Nat) "SolutionBoxesModel" "root" "[I") ∈ gw := gw_of (gw_4 (List.mem_of_getElem? (i := 104) rfl)) rfl
theorem q_825 : (Jvm.Cond.fieldLink "SolutionBoxesModel" (195 : Nat) "SolutionBoxesModel" "zeros" "I") ∈ gw := gw_of (gw_4 (List.mem_of_getElem? (i := 105) rfl)) rfl
theorem q_826 : (Jvm.Cond.fieldLink "SolutionBoxesModel" (50 : Nat) "SolutionBoxesModel" "zero" "[I") ∈ gw := gw_of (gw_4 (List.mem_of_getElem? (i := 106) rfl)) rfl
theorem q_827 : (Jvm.Cond.fieldLink "SolutionBoxesModel" (53 : Nat) "SolutionBoxesModel" "often" "[I") ∈ gw := gw_of (gw_4 (List.mem_of_getElem? (i := 107) rfl)) rfl
theorem q_828 : (Jvm.Cond.fieldLink "SolutionBoxesModel" (56 : Nat) "SolutionBoxesModel" "isFree" "[Z") ∈ gw := gw_of (gw_4 (List.mem_of_getElem? (i := 108) rfl)) rfl
theorem q_829 : (Jvm.Cond.fieldLink "SolutionBoxesModel" (60 : Nat) "SolutionBoxesModel" "vector" "[I") ∈ gw := gw_of (gw_4 (List.mem_of_getElem? (i := 109) rfl)) rfl
theorem q_830 : (Jvm.Cond.fieldLink "SolutionBoxesModel" (63 : Nat) "SolutionBoxesModel" "other" "[I") ∈ gw := gw_of (gw_4 (List.mem_of_getElem? (i := 110) rfl)) rfl
theorem q_831 : (Jvm.Cond.fieldLink "SolutionBoxesModel" (66 : Nat) "SolutionBoxesModel" "rows" "[I") ∈ gw := gw_of (gw_4 (List.mem_of_getElem? (i := 111) rfl)) rfl
theorem q_832 : (Jvm.Cond.fieldLink "SolutionBoxesModel" (69 : Nat) "SolutionBoxesModel" "pivot" "[I") ∈ gw := gw_of (gw_4 (List.mem_of_getElem? (i := 112) rfl)) rfl
theorem q_833 : (Jvm.Cond.fieldLink "SolutionBoxesModel" (72 : Nat) "SolutionBoxesModel" "square" "[I") ∈ gw := gw_of (gw_4 (List.mem_of_getElem? (i := 113) rfl)) rfl
theorem q_834 : (Jvm.Cond.fieldLink "SolutionBoxesModel" (75 : Nat) "SolutionBoxesModel" "result" "[I") ∈ gw := gw_of (gw_4 (List.mem_of_getElem? (i := 114) rfl)) rfl
theorem q_835 : (Jvm.Cond.laysFinal "SolutionBoxesModel" "SolutionBoxesModel" "letters" "I") ∈ gw := gw_of (gw_4 (List.mem_of_getElem? (i := 115) rfl)) rfl
theorem q_837 : (Jvm.Cond.lays "SolutionBoxesModel" "SolutionBoxesModel" "given" "I") ∈ gw := gw_of (gw_4 (List.mem_of_getElem? (i := 117) rfl)) rfl
theorem q_839 : (Jvm.Cond.lays "SolutionBoxesModel" "SolutionBoxesModel" "taken" "I") ∈ gw := gw_of (gw_4 (List.mem_of_getElem? (i := 119) rfl)) rfl
theorem q_841 : (Jvm.Cond.lays "SolutionBoxesModel" "SolutionBoxesModel" "thrown" "I") ∈ gw := gw_of (gw_4 (List.mem_of_getElem? (i := 121) rfl)) rfl
theorem q_843 : (Jvm.Cond.laysFinal "SolutionBoxesModel" "SolutionBoxesModel" "poly" "[I") ∈ gw := gw_of (gw_4 (List.mem_of_getElem? (i := 123) rfl)) rfl
theorem q_845 : (Jvm.Cond.lays "SolutionBoxesModel" "SolutionBoxesModel" "list" "I") ∈ gw := gw_of (gw_4 (List.mem_of_getElem? (i := 125) rfl)) rfl
theorem q_847 : (Jvm.Cond.laysFinal "SolutionBoxesModel" "SolutionBoxesModel" "terms" "[I") ∈ gw := gw_of (gw_4 (List.mem_of_getElem? (i := 127) rfl)) rfl
theorem q_849 : (Jvm.Cond.laysFinal "SolutionBoxesModel" "SolutionBoxesModel" "termPower" "[I") ∈ gw := gw_of (gw_4 (List.mem_of_getElem? (i := 129) rfl)) rfl
theorem q_851 : (Jvm.Cond.laysFinal "SolutionBoxesModel" "SolutionBoxesModel" "termNumber" "[I") ∈ gw := gw_of (gw_4 (List.mem_of_getElem? (i := 131) rfl)) rfl
theorem q_853 : (Jvm.Cond.laysFinal "SolutionBoxesModel" "SolutionBoxesModel" "head" "[I") ∈ gw := gw_of (gw_4 (List.mem_of_getElem? (i := 133) rfl)) rfl
theorem q_855 : (Jvm.Cond.laysFinal "SolutionBoxesModel" "SolutionBoxesModel" "headInverse" "[I") ∈ gw := gw_of (gw_4 (List.mem_of_getElem? (i := 135) rfl)) rfl
theorem q_857 : (Jvm.Cond.laysFinal "SolutionBoxesModel" "SolutionBoxesModel" "cube" "[I") ∈ gw := gw_of (gw_4 (List.mem_of_getElem? (i := 137) rfl)) rfl
theorem q_859 : (Jvm.Cond.lays "SolutionBoxesModel" "SolutionBoxesModel" "known" "Z") ∈ gw := gw_of (gw_4 (List.mem_of_getElem? (i := 139) rfl)) rfl
theorem q_861 : (Jvm.Cond.lays "SolutionBoxesModel" "SolutionBoxesModel" "asked" "Z") ∈ gw := gw_of (gw_4 (List.mem_of_getElem? (i := 141) rfl)) rfl
theorem q_863 : (Jvm.Cond.lays "SolutionBoxesModel" "SolutionBoxesModel" "size" "I") ∈ gw := gw_of (gw_4 (List.mem_of_getElem? (i := 143) rfl)) rfl
theorem q_865 : (Jvm.Cond.laysFinal "SolutionBoxesModel" "SolutionBoxesModel" "left" "[I") ∈ gw := gw_of (gw_4 (List.mem_of_getElem? (i := 145) rfl)) rfl
theorem q_867 : (Jvm.Cond.laysFinal "SolutionBoxesModel" "SolutionBoxesModel" "table" "[I") ∈ gw := gw_of (gw_4 (List.mem_of_getElem? (i := 147) rfl)) rfl
theorem q_869 : (Jvm.Cond.laysFinal "SolutionBoxesModel" "SolutionBoxesModel" "leastDegree" "[I") ∈ gw := gw_of (gw_4 (List.mem_of_getElem? (i := 149) rfl)) rfl
theorem q_871 : (Jvm.Cond.laysFinal "SolutionBoxesModel" "SolutionBoxesModel" "least" "[I") ∈ gw := gw_of (gw_4 (List.mem_of_getElem? (i := 151) rfl)) rfl
theorem q_873 : (Jvm.Cond.laysFinal "SolutionBoxesModel" "SolutionBoxesModel" "rootMany" "[I") ∈ gw := gw_of (gw_4 (List.mem_of_getElem? (i := 153) rfl)) rfl
theorem q_875 : (Jvm.Cond.laysFinal "SolutionBoxesModel" "SolutionBoxesModel" "root" "[I") ∈ gw := gw_of (gw_4 (List.mem_of_getElem? (i := 155) rfl)) rfl
theorem q_877 : (Jvm.Cond.lays "SolutionBoxesModel" "SolutionBoxesModel" "zeros" "I") ∈ gw := gw_of (gw_4 (List.mem_of_getElem? (i := 157) rfl)) rfl
theorem q_879 : (Jvm.Cond.laysFinal "SolutionBoxesModel" "SolutionBoxesModel" "zero" "[I") ∈ gw := gw_of (gw_4 (List.mem_of_getElem? (i := 159) rfl)) rfl
theorem q_881 : (Jvm.Cond.laysFinal "SolutionBoxesModel" "SolutionBoxesModel" "often" "[I") ∈ gw := gw_of (gw_4 (List.mem_of_getElem? (i := 161) rfl)) rfl
theorem q_883 : (Jvm.Cond.laysFinal "SolutionBoxesModel" "SolutionBoxesModel" "isFree" "[Z") ∈ gw := gw_of (gw_4 (List.mem_of_getElem? (i := 163) rfl)) rfl
theorem q_885 : (Jvm.Cond.laysFinal "SolutionBoxesModel" "SolutionBoxesModel" "vector" "[I") ∈ gw := gw_of (gw_4 (List.mem_of_getElem? (i := 165) rfl)) rfl
theorem q_887 : (Jvm.Cond.laysFinal "SolutionBoxesModel" "SolutionBoxesModel" "other" "[I") ∈ gw := gw_of (gw_4 (List.mem_of_getElem? (i := 167) rfl)) rfl
theorem q_889 : (Jvm.Cond.laysFinal "SolutionBoxesModel" "SolutionBoxesModel" "rows" "[I") ∈ gw := gw_of (gw_4 (List.mem_of_getElem? (i := 169) rfl)) rfl
theorem q_891 : (Jvm.Cond.laysFinal "SolutionBoxesModel" "SolutionBoxesModel" "pivot" "[I") ∈ gw := gw_of (gw_4 (List.mem_of_getElem? (i := 171) rfl)) rfl
theorem q_893 : (Jvm.Cond.laysFinal "SolutionBoxesModel" "SolutionBoxesModel" "square" "[I") ∈ gw := gw_of (gw_4 (List.mem_of_getElem? (i := 173) rfl)) rfl
theorem q_895 : (Jvm.Cond.laysFinal "SolutionBoxesModel" "SolutionBoxesModel" "result" "[I") ∈ gw := gw_of (gw_4 (List.mem_of_getElem? (i := 175) rfl)) rfl
theorem q_897 : (Jvm.Cond.superclass "SolutionBoxesModel" "java/lang/Object") ∈ lw_tbl := gw_4 (List.mem_of_getElem? (i := 177) rfl)
theorem q_898 : (Jvm.Cond.arrayClass Jvm.ClassFile.FieldType.boolean) ∈ gw := gw_of (gw_4 (List.mem_of_getElem? (i := 178) rfl)) rfl
theorem q_899 : (Jvm.Cond.methodLink "SolutionBoxesLaw" (65 : Nat) ({ cls := "SolutionBoxesModel", name := "thrown", desc := "()I" } : Jvm.MethodName)) ∈ gw := gw_of (gw_4 (List.mem_of_getElem? (i := 179) rfl)) rfl
theorem q_900 : (Jvm.Cond.instanceMethod ({ cls := "SolutionBoxesModel", name := "thrown", desc := "()I" } : Jvm.MethodName)) ∈ gw := gw_of (gw_4 (List.mem_of_getElem? (i := 180) rfl)) rfl
theorem q_901 : (Jvm.Cond.selects "SolutionBoxesModel" ({ cls := "SolutionBoxesModel", name := "thrown", desc := "()I" } : Jvm.MethodName) ({ cls := "SolutionBoxesModel", name := "thrown", desc := "()I" } : Jvm.MethodName)) ∈ gw := gw_of (gw_4 (List.mem_of_getElem? (i := 181) rfl)) rfl
theorem q_902 : (Jvm.Cond.code ({ cls := "SolutionBoxesModel", name := "thrown", desc := "()I" } : Jvm.MethodName) prog_13_method_2_code (1 : Nat) (Option.some Jvm.ClassFile.FieldType.int)) ∈ gw := gw_of (gw_4 (List.mem_of_getElem? (i := 182) rfl)) rfl
theorem q_903 : (Jvm.Cond.methodLink "SolutionBoxesLaw" (64 : Nat) ({ cls := "SolutionBoxesModel", name := "poly", desc := "()I" } : Jvm.MethodName)) ∈ gw := gw_of (gw_4 (List.mem_of_getElem? (i := 183) rfl)) rfl
theorem q_904 : (Jvm.Cond.instanceMethod ({ cls := "SolutionBoxesModel", name := "poly", desc := "()I" } : Jvm.MethodName)) ∈ gw := gw_of (gw_4 (List.mem_of_getElem? (i := 184) rfl)) rfl
theorem q_905 : (Jvm.Cond.selects "SolutionBoxesModel" ({ cls := "SolutionBoxesModel", name := "poly", desc := "()I" } : Jvm.MethodName) ({ cls := "SolutionBoxesModel", name := "poly", desc := "()I" } : Jvm.MethodName)) ∈ gw := gw_of (gw_4 (List.mem_of_getElem? (i := 185) rfl)) rfl
theorem q_906 : (Jvm.Cond.code ({ cls := "SolutionBoxesModel", name := "poly", desc := "()I" } : Jvm.MethodName) prog_13_method_9_code (2 : Nat) (Option.some Jvm.ClassFile.FieldType.int)) ∈ gw := gw_of (gw_4 (List.mem_of_getElem? (i := 186) rfl)) rfl
theorem q_907 : (Jvm.Cond.methodLink "SolutionBoxesLaw" (73 : Nat) ({ cls := "SolutionBoxesModel", name := "term", desc := "(IJJI)Z" } : Jvm.MethodName)) ∈ gw := gw_of (gw_4 (List.mem_of_getElem? (i := 187) rfl)) rfl
theorem q_908 : (Jvm.Cond.instanceMethod ({ cls := "SolutionBoxesModel", name := "term", desc := "(IJJI)Z" } : Jvm.MethodName)) ∈ gw := gw_of (gw_4 (List.mem_of_getElem? (i := 188) rfl)) rfl
theorem q_909 : (Jvm.Cond.selects "SolutionBoxesModel" ({ cls := "SolutionBoxesModel", name := "term", desc := "(IJJI)Z" } : Jvm.MethodName) ({ cls := "SolutionBoxesModel", name := "term", desc := "(IJJI)Z" } : Jvm.MethodName)) ∈ gw := gw_of (gw_4 (List.mem_of_getElem? (i := 189) rfl)) rfl
theorem q_910 : (Jvm.Cond.code ({ cls := "SolutionBoxesModel", name := "term", desc := "(IJJI)Z" } : Jvm.MethodName) prog_13_method_16_code (10 : Nat) (Option.some Jvm.ClassFile.FieldType.boolean)) ∈ gw := gw_of (gw_4 (List.mem_of_getElem? (i := 190) rfl)) rfl
theorem q_911 : (Jvm.Cond.methodLink "SolutionBoxesModel" (101 : Nat) ({ cls := "SolutionBoxesModel", name := "isPoly", desc := "(I)Z" } : Jvm.MethodName)) ∈ gw := gw_of (gw_4 (List.mem_of_getElem? (i := 191) rfl)) rfl
theorem q_912 : (Jvm.Cond.static ({ cls := "SolutionBoxesModel", name := "isPoly", desc := "(I)Z" } : Jvm.MethodName)) ∈ gw := gw_of (gw_4 (List.mem_of_getElem? (i := 192) rfl)) rfl
theorem q_913 : (Jvm.Cond.code ({ cls := "SolutionBoxesModel", name := "isPoly", desc := "(I)Z" } : Jvm.MethodName) prog_13_method_8_code (1 : Nat) (Option.some Jvm.ClassFile.FieldType.boolean)) ∈ gw := gw_of (gw_4 (List.mem_of_getElem? (i := 193) rfl)) rfl
theorem q_914 : (Jvm.Cond.methodLink "SolutionBoxesModel" (105 : Nat) ({ cls := "SolutionBoxesModel", name := "isPower", desc := "(I)Z" } : Jvm.MethodName)) ∈ gw := gw_of (gw_4 (List.mem_of_getElem? (i := 194) rfl)) rfl
theorem q_915 : (Jvm.Cond.privateMethod ({ cls := "SolutionBoxesModel", name := "isPower", desc := "(I)Z" } : Jvm.MethodName)) ∈ lw_tbl := gw_4 (List.mem_of_getElem? (i := 195) rfl)
theorem q_916 : (Jvm.Cond.instanceMethod ({ cls := "SolutionBoxesModel", name := "isPower", desc := "(I)Z" } : Jvm.MethodName)) ∈ gw := gw_of (gw_4 (List.mem_of_getElem? (i := 196) rfl)) rfl
theorem q_917 : (Jvm.Cond.code ({ cls := "SolutionBoxesModel", name := "isPower", desc := "(I)Z" } : Jvm.MethodName) prog_13_method_10_code (3 : Nat) (Option.some Jvm.ClassFile.FieldType.boolean)) ∈ gw := gw_of (gw_4 (List.mem_of_getElem? (i := 197) rfl)) rfl
theorem q_918 : (Jvm.Cond.methodLink "SolutionBoxesModel" (108 : Nat) ({ cls := "SolutionBoxesModel", name := "residue", desc := "(J)I" } : Jvm.MethodName)) ∈ gw := gw_of (gw_4 (List.mem_of_getElem? (i := 198) rfl)) rfl
theorem q_919 : (Jvm.Cond.static ({ cls := "SolutionBoxesModel", name := "residue", desc := "(J)I" } : Jvm.MethodName)) ∈ gw := gw_of (gw_4 (List.mem_of_getElem? (i := 199) rfl)) rfl
theorem q_920 : (Jvm.Cond.code ({ cls := "SolutionBoxesModel", name := "residue", desc := "(J)I" } : Jvm.MethodName) prog_13_method_7_code (3 : Nat) (Option.some Jvm.ClassFile.FieldType.int)) ∈ gw := gw_of (gw_4 (List.mem_of_getElem? (i := 200) rfl)) rfl
theorem q_921 : (Jvm.Cond.constantLong "SolutionBoxesModel" (85 : Nat) (32003 : Int64)) ∈ gw := gw_of (gw_4 (List.mem_of_getElem? (i := 201) rfl)) rfl
theorem q_922 : (Jvm.Cond.methodLink "SolutionBoxesModel" (112 : Nat) ({ cls := "SolutionBoxesModel", name := "inverse", desc := "(I)I" } : Jvm.MethodName)) ∈ gw := gw_of (gw_4 (List.mem_of_getElem? (i := 202) rfl)) rfl
theorem q_923 : (Jvm.Cond.static ({ cls := "SolutionBoxesModel", name := "inverse", desc := "(I)I" } : Jvm.MethodName)) ∈ gw := gw_of (gw_4 (List.mem_of_getElem? (i := 203) rfl)) rfl
theorem q_924 : (Jvm.Cond.code ({ cls := "SolutionBoxesModel", name := "inverse", desc := "(I)I" } : Jvm.MethodName) prog_13_method_6_code (4 : Nat) (Option.some Jvm.ClassFile.FieldType.int)) ∈ gw := gw_of (gw_4 (List.mem_of_getElem? (i := 204) rfl)) rfl
theorem q_925 : (Jvm.Cond.methodLink "SolutionBoxesModel" (87 : Nat) ({ cls := "SolutionBoxesModel", name := "times", desc := "(II)I" } : Jvm.MethodName)) ∈ gw := gw_of (gw_4 (List.mem_of_getElem? (i := 205) rfl)) rfl
theorem q_926 : (Jvm.Cond.static ({ cls := "SolutionBoxesModel", name := "times", desc := "(II)I" } : Jvm.MethodName)) ∈ gw := gw_of (gw_4 (List.mem_of_getElem? (i := 206) rfl)) rfl
theorem q_927 : (Jvm.Cond.code ({ cls := "SolutionBoxesModel", name := "times", desc := "(II)I" } : Jvm.MethodName) prog_13_method_3_code (2 : Nat) (Option.some Jvm.ClassFile.FieldType.int)) ∈ gw := gw_of (gw_4 (List.mem_of_getElem? (i := 207) rfl)) rfl
theorem q_928 : (Jvm.Cond.methodLink "SolutionBoxesModel" (115 : Nat) ({ cls := "SolutionBoxesModel", name := "placeOf", desc := "(I)I" } : Jvm.MethodName)) ∈ gw := gw_of (gw_4 (List.mem_of_getElem? (i := 208) rfl)) rfl
theorem q_929 : (Jvm.Cond.static ({ cls := "SolutionBoxesModel", name := "placeOf", desc := "(I)I" } : Jvm.MethodName)) ∈ gw := gw_of (gw_4 (List.mem_of_getElem? (i := 209) rfl)) rfl
theorem q_930 : (Jvm.Cond.code ({ cls := "SolutionBoxesModel", name := "placeOf", desc := "(I)I" } : Jvm.MethodName) prog_13_method_11_code (1 : Nat) (Option.some Jvm.ClassFile.FieldType.int)) ∈ gw := gw_of (gw_4 (List.mem_of_getElem? (i := 210) rfl)) rfl
theorem q_931 : (Jvm.Cond.methodLink "SolutionBoxesLaw" (77 : Nat) ({ cls := "SolutionBoxesModel", name := "take", desc := "(I)Z" } : Jvm.MethodName)) ∈ gw := gw_of (gw_4 (List.mem_of_getElem? (i := 211) rfl)) rfl
theorem q_932 : (Jvm.Cond.instanceMethod ({ cls := "SolutionBoxesModel", name := "take", desc := "(I)Z" } : Jvm.MethodName)) ∈ gw := gw_of (gw_4 (List.mem_of_getElem? (i := 212) rfl)) rfl
theorem q_933 : (Jvm.Cond.selects "SolutionBoxesModel" ({ cls := "SolutionBoxesModel", name := "take", desc := "(I)Z" } : Jvm.MethodName) ({ cls := "SolutionBoxesModel", name := "take", desc := "(I)Z" } : Jvm.MethodName)) ∈ gw := gw_of (gw_4 (List.mem_of_getElem? (i := 213) rfl)) rfl
theorem q_934 : (Jvm.Cond.code ({ cls := "SolutionBoxesModel", name := "take", desc := "(I)Z" } : Jvm.MethodName) prog_13_method_17_code (6 : Nat) (Option.some Jvm.ClassFile.FieldType.boolean)) ∈ gw := gw_of (gw_4 (List.mem_of_getElem? (i := 214) rfl)) rfl
theorem q_935 : (Jvm.Cond.methodLink "SolutionBoxesModel" (128 : Nat) ({ cls := "SolutionBoxesModel", name := "isAbove", desc := "(II)Z" } : Jvm.MethodName)) ∈ gw := gw_of (gw_4 (List.mem_of_getElem? (i := 215) rfl)) rfl
theorem q_936 : (Jvm.Cond.static ({ cls := "SolutionBoxesModel", name := "isAbove", desc := "(II)Z" } : Jvm.MethodName)) ∈ gw := gw_of (gw_4 (List.mem_of_getElem? (i := 216) rfl)) rfl
theorem q_937 : (Jvm.Cond.code ({ cls := "SolutionBoxesModel", name := "isAbove", desc := "(II)Z" } : Jvm.MethodName) prog_13_method_15_code (3 : Nat) (Option.some Jvm.ClassFile.FieldType.boolean)) ∈ gw := gw_of (gw_4 (List.mem_of_getElem? (i := 217) rfl)) rfl
theorem q_938 : (Jvm.Cond.methodLink "SolutionBoxesModel" (97 : Nat) ({ cls := "SolutionBoxesModel", name := "degree", desc := "(I)I" } : Jvm.MethodName)) ∈ gw := gw_of (gw_4 (List.mem_of_getElem? (i := 218) rfl)) rfl
theorem q_939 : (Jvm.Cond.static ({ cls := "SolutionBoxesModel", name := "degree", desc := "(I)I" } : Jvm.MethodName)) ∈ gw := gw_of (gw_4 (List.mem_of_getElem? (i := 219) rfl)) rfl
theorem q_940 : (Jvm.Cond.code ({ cls := "SolutionBoxesModel", name := "degree", desc := "(I)I" } : Jvm.MethodName) prog_13_method_14_code (1 : Nat) (Option.some Jvm.ClassFile.FieldType.int)) ∈ gw := gw_of (gw_4 (List.mem_of_getElem? (i := 220) rfl)) rfl
theorem q_941 : (Jvm.Cond.methodLink "SolutionBoxesModel" (94 : Nat) ({ cls := "SolutionBoxesModel", name := "expo", desc := "(II)I" } : Jvm.MethodName)) ∈ gw := gw_of (gw_4 (List.mem_of_getElem? (i := 221) rfl)) rfl
theorem q_942 : (Jvm.Cond.static ({ cls := "SolutionBoxesModel", name := "expo", desc := "(II)I" } : Jvm.MethodName)) ∈ gw := gw_of (gw_4 (List.mem_of_getElem? (i := 222) rfl)) rfl
theorem q_943 : (Jvm.Cond.code ({ cls := "SolutionBoxesModel", name := "expo", desc := "(II)I" } : Jvm.MethodName) prog_13_method_13_code (2 : Nat) (Option.some Jvm.ClassFile.FieldType.int)) ∈ gw := gw_of (gw_4 (List.mem_of_getElem? (i := 223) rfl)) rfl
theorem q_944 : (Jvm.Cond.methodLink "SolutionBoxesLaw" (108 : Nat) ({ cls := "SolutionBoxesModel", name := "clear", desc := "()V" } : Jvm.MethodName)) ∈ gw := gw_of (gw_4 (List.mem_of_getElem? (i := 224) rfl)) rfl
theorem q_945 : (Jvm.Cond.instanceMethod ({ cls := "SolutionBoxesModel", name := "clear", desc := "()V" } : Jvm.MethodName)) ∈ gw := gw_of (gw_4 (List.mem_of_getElem? (i := 225) rfl)) rfl
theorem q_946 : (Jvm.Cond.selects "SolutionBoxesModel" ({ cls := "SolutionBoxesModel", name := "clear", desc := "()V" } : Jvm.MethodName) ({ cls := "SolutionBoxesModel", name := "clear", desc := "()V" } : Jvm.MethodName)) ∈ gw := gw_of (gw_4 (List.mem_of_getElem? (i := 226) rfl)) rfl
theorem q_947 : (Jvm.Cond.code ({ cls := "SolutionBoxesModel", name := "clear", desc := "()V" } : Jvm.MethodName) prog_13_method_18_code (2 : Nat) (Option.none : Option Jvm.ClassFile.FieldType)) ∈ gw := gw_of (gw_4 (List.mem_of_getElem? (i := 227) rfl)) rfl
theorem q_948 : (Jvm.Cond.methodLink "SolutionBoxesLaw" (81 : Nat) ({ cls := "SolutionBoxesModel", name := "run", desc := "()I" } : Jvm.MethodName)) ∈ gw := gw_of (gw_4 (List.mem_of_getElem? (i := 228) rfl)) rfl
theorem q_949 : (Jvm.Cond.instanceMethod ({ cls := "SolutionBoxesModel", name := "run", desc := "()I" } : Jvm.MethodName)) ∈ gw := gw_of (gw_4 (List.mem_of_getElem? (i := 229) rfl)) rfl
theorem q_950 : (Jvm.Cond.selects "SolutionBoxesModel" ({ cls := "SolutionBoxesModel", name := "run", desc := "()I" } : Jvm.MethodName) ({ cls := "SolutionBoxesModel", name := "run", desc := "()I" } : Jvm.MethodName)) ∈ gw := gw_of (gw_4 (List.mem_of_getElem? (i := 230) rfl)) rfl
theorem q_951 : (Jvm.Cond.code ({ cls := "SolutionBoxesModel", name := "run", desc := "()I" } : Jvm.MethodName) prog_13_method_47_code (2 : Nat) (Option.some Jvm.ClassFile.FieldType.int)) ∈ gw := gw_of (gw_4 (List.mem_of_getElem? (i := 231) rfl)) rfl
theorem q_952 : (Jvm.Cond.methodLink "SolutionBoxesModel" (211 : Nat) ({ cls := "SolutionBoxesModel", name := "lookForFree", desc := "()V" } : Jvm.MethodName)) ∈ gw := gw_of (gw_4 (List.mem_of_getElem? (i := 232) rfl)) rfl
theorem q_953 : (Jvm.Cond.privateMethod ({ cls := "SolutionBoxesModel", name := "lookForFree", desc := "()V" } : Jvm.MethodName)) ∈ lw_tbl := gw_4 (List.mem_of_getElem? (i := 233) rfl)
theorem q_954 : (Jvm.Cond.instanceMethod ({ cls := "SolutionBoxesModel", name := "lookForFree", desc := "()V" } : Jvm.MethodName)) ∈ gw := gw_of (gw_4 (List.mem_of_getElem? (i := 234) rfl)) rfl
theorem q_955 : (Jvm.Cond.code ({ cls := "SolutionBoxesModel", name := "lookForFree", desc := "()V" } : Jvm.MethodName) prog_13_method_30_code (3 : Nat) (Option.none : Option Jvm.ClassFile.FieldType)) ∈ gw := gw_of (gw_4 (List.mem_of_getElem? (i := 235) rfl)) rfl
theorem q_956 : (Jvm.Cond.methodLink "SolutionBoxesModel" (164 : Nat) ({ cls := "SolutionBoxesModel", name := "hasOne", desc := "()Z" } : Jvm.MethodName)) ∈ gw := gw_of (gw_4 (List.mem_of_getElem? (i := 236) rfl)) rfl
theorem q_957 : (Jvm.Cond.privateMethod ({ cls := "SolutionBoxesModel", name := "hasOne", desc := "()Z" } : Jvm.MethodName)) ∈ lw_tbl := gw_4 (List.mem_of_getElem? (i := 237) rfl)
theorem q_958 : (Jvm.Cond.instanceMethod ({ cls := "SolutionBoxesModel", name := "hasOne", desc := "()Z" } : Jvm.MethodName)) ∈ gw := gw_of (gw_4 (List.mem_of_getElem? (i := 238) rfl)) rfl
theorem q_959 : (Jvm.Cond.code ({ cls := "SolutionBoxesModel", name := "hasOne", desc := "()Z" } : Jvm.MethodName) prog_13_method_28_code (2 : Nat) (Option.some Jvm.ClassFile.FieldType.boolean)) ∈ gw := gw_of (gw_4 (List.mem_of_getElem? (i := 239) rfl)) rfl
theorem q_960 : (Jvm.Cond.methodLink "SolutionBoxesModel" (168 : Nat) ({ cls := "SolutionBoxesModel", name := "isAlone", desc := "(II)Z" } : Jvm.MethodName)) ∈ gw := gw_of (gw_5 (List.mem_of_getElem? (i := 0) rfl)) rfl
theorem q_961 : (Jvm.Cond.static ({ cls := "SolutionBoxesModel", name := "isAlone", desc := "(II)Z" } : Jvm.MethodName)) ∈ gw := gw_of (gw_5 (List.mem_of_getElem? (i := 1) rfl)) rfl
theorem q_962 : (Jvm.Cond.code ({ cls := "SolutionBoxesModel", name := "isAlone", desc := "(II)Z" } : Jvm.MethodName) prog_13_method_29_code (2 : Nat) (Option.some Jvm.ClassFile.FieldType.boolean)) ∈ gw := gw_of (gw_5 (List.mem_of_getElem? (i := 2) rfl)) rfl
theorem q_963 : (Jvm.Cond.methodLink "SolutionBoxesModel" (214 : Nat) ({ cls := "SolutionBoxesModel", name := "isBasis", desc := "()Z" } : Jvm.MethodName)) ∈ gw := gw_of (gw_5 (List.mem_of_getElem? (i := 3) rfl)) rfl
theorem q_964 : (Jvm.Cond.privateMethod ({ cls := "SolutionBoxesModel", name := "isBasis", desc := "()Z" } : Jvm.MethodName)) ∈ lw_tbl := gw_5 (List.mem_of_getElem? (i := 4) rfl)
theorem q_965 : (Jvm.Cond.instanceMethod ({ cls := "SolutionBoxesModel", name := "isBasis", desc := "()Z" } : Jvm.MethodName)) ∈ gw := gw_of (gw_5 (List.mem_of_getElem? (i := 5) rfl)) rfl
theorem q_966 : (Jvm.Cond.code ({ cls := "SolutionBoxesModel", name := "isBasis", desc := "()Z" } : Jvm.MethodName) prog_13_method_27_code (3 : Nat) (Option.some Jvm.ClassFile.FieldType.boolean)) ∈ gw := gw_of (gw_5 (List.mem_of_getElem? (i := 6) rfl)) rfl
theorem q_967 : (Jvm.Cond.methodLink "SolutionBoxesModel" (161 : Nat) ({ cls := "SolutionBoxesModel", name := "meets", desc := "(II)Z" } : Jvm.MethodName)) ∈ gw := gw_of (gw_5 (List.mem_of_getElem? (i := 7) rfl)) rfl
theorem q_968 : (Jvm.Cond.privateMethod ({ cls := "SolutionBoxesModel", name := "meets", desc := "(II)Z" } : Jvm.MethodName)) ∈ lw_tbl := gw_5 (List.mem_of_getElem? (i := 8) rfl)
theorem q_969 : (Jvm.Cond.instanceMethod ({ cls := "SolutionBoxesModel", name := "meets", desc := "(II)Z" } : Jvm.MethodName)) ∈ gw := gw_of (gw_5 (List.mem_of_getElem? (i := 9) rfl)) rfl
theorem q_970 : (Jvm.Cond.code ({ cls := "SolutionBoxesModel", name := "meets", desc := "(II)Z" } : Jvm.MethodName) prog_13_method_26_code (9 : Nat) (Option.some Jvm.ClassFile.FieldType.boolean)) ∈ gw := gw_of (gw_5 (List.mem_of_getElem? (i := 10) rfl)) rfl
theorem q_971 : (Jvm.Cond.methodLink "SolutionBoxesModel" (152 : Nat) ({ cls := "SolutionBoxesModel", name := "greater", desc := "(II)I" } : Jvm.MethodName)) ∈ gw := gw_of (gw_5 (List.mem_of_getElem? (i := 11) rfl)) rfl
theorem q_972 : (Jvm.Cond.static ({ cls := "SolutionBoxesModel", name := "greater", desc := "(II)I" } : Jvm.MethodName)) ∈ gw := gw_of (gw_5 (List.mem_of_getElem? (i := 12) rfl)) rfl
theorem q_973 : (Jvm.Cond.code ({ cls := "SolutionBoxesModel", name := "greater", desc := "(II)I" } : Jvm.MethodName) prog_13_method_25_code (2 : Nat) (Option.some Jvm.ClassFile.FieldType.int)) ∈ gw := gw_of (gw_5 (List.mem_of_getElem? (i := 13) rfl)) rfl
theorem q_974 : (Jvm.Cond.methodLink "SolutionBoxesModel" (155 : Nat) ({ cls := "SolutionBoxesModel", name := "empty", desc := "()V" } : Jvm.MethodName)) ∈ gw := gw_of (gw_5 (List.mem_of_getElem? (i := 14) rfl)) rfl
theorem q_975 : (Jvm.Cond.privateMethod ({ cls := "SolutionBoxesModel", name := "empty", desc := "()V" } : Jvm.MethodName)) ∈ lw_tbl := gw_5 (List.mem_of_getElem? (i := 15) rfl)
theorem q_976 : (Jvm.Cond.instanceMethod ({ cls := "SolutionBoxesModel", name := "empty", desc := "()V" } : Jvm.MethodName)) ∈ gw := gw_of (gw_5 (List.mem_of_getElem? (i := 16) rfl)) rfl
theorem q_977 : (Jvm.Cond.code ({ cls := "SolutionBoxesModel", name := "empty", desc := "()V" } : Jvm.MethodName) prog_13_method_21_code (2 : Nat) (Option.none : Option Jvm.ClassFile.FieldType)) ∈ gw := gw_of (gw_5 (List.mem_of_getElem? (i := 17) rfl)) rfl
theorem q_978 : (Jvm.Cond.methodLink "SolutionBoxesModel" (142 : Nat) ({ cls := "SolutionBoxesModel", name := "less", desc := "(II)I" } : Jvm.MethodName)) ∈ gw := gw_of (gw_5 (List.mem_of_getElem? (i := 18) rfl)) rfl
theorem q_979 : (Jvm.Cond.static ({ cls := "SolutionBoxesModel", name := "less", desc := "(II)I" } : Jvm.MethodName)) ∈ gw := gw_of (gw_5 (List.mem_of_getElem? (i := 19) rfl)) rfl
theorem q_980 : (Jvm.Cond.code ({ cls := "SolutionBoxesModel", name := "less", desc := "(II)I" } : Jvm.MethodName) prog_13_method_4_code (2 : Nat) (Option.some Jvm.ClassFile.FieldType.int)) ∈ gw := gw_of (gw_5 (List.mem_of_getElem? (i := 20) rfl)) rfl
theorem q_981 : (Jvm.Cond.methodLink "SolutionBoxesModel" (139 : Nat) ({ cls := "SolutionBoxesModel", name := "cellOf", desc := "(I)I" } : Jvm.MethodName)) ∈ gw := gw_of (gw_5 (List.mem_of_getElem? (i := 21) rfl)) rfl
theorem q_982 : (Jvm.Cond.static ({ cls := "SolutionBoxesModel", name := "cellOf", desc := "(I)I" } : Jvm.MethodName)) ∈ gw := gw_of (gw_5 (List.mem_of_getElem? (i := 22) rfl)) rfl
theorem q_983 : (Jvm.Cond.code ({ cls := "SolutionBoxesModel", name := "cellOf", desc := "(I)I" } : Jvm.MethodName) prog_13_method_20_code (1 : Nat) (Option.some Jvm.ClassFile.FieldType.int)) ∈ gw := gw_of (gw_5 (List.mem_of_getElem? (i := 23) rfl)) rfl
theorem q_984 : (Jvm.Cond.methodLink "SolutionBoxesModel" (135 : Nat) ({ cls := "SolutionBoxesModel", name := "cell", desc := "(III)I" } : Jvm.MethodName)) ∈ gw := gw_of (gw_5 (List.mem_of_getElem? (i := 24) rfl)) rfl
theorem q_985 : (Jvm.Cond.static ({ cls := "SolutionBoxesModel", name := "cell", desc := "(III)I" } : Jvm.MethodName)) ∈ gw := gw_of (gw_5 (List.mem_of_getElem? (i := 25) rfl)) rfl
theorem q_986 : (Jvm.Cond.code ({ cls := "SolutionBoxesModel", name := "cell", desc := "(III)I" } : Jvm.MethodName) prog_13_method_19_code (3 : Nat) (Option.some Jvm.ClassFile.FieldType.int)) ∈ gw := gw_of (gw_5 (List.mem_of_getElem? (i := 26) rfl)) rfl
theorem q_987 : (Jvm.Cond.methodLink "SolutionBoxesModel" (148 : Nat) ({ cls := "SolutionBoxesModel", name := "takeOff", desc := "(III)V" } : Jvm.MethodName)) ∈ gw := gw_of (gw_5 (List.mem_of_getElem? (i := 27) rfl)) rfl
theorem q_988 : (Jvm.Cond.privateMethod ({ cls := "SolutionBoxesModel", name := "takeOff", desc := "(III)V" } : Jvm.MethodName)) ∈ lw_tbl := gw_5 (List.mem_of_getElem? (i := 28) rfl)
theorem q_989 : (Jvm.Cond.instanceMethod ({ cls := "SolutionBoxesModel", name := "takeOff", desc := "(III)V" } : Jvm.MethodName)) ∈ gw := gw_of (gw_5 (List.mem_of_getElem? (i := 29) rfl)) rfl
theorem q_990 : (Jvm.Cond.code ({ cls := "SolutionBoxesModel", name := "takeOff", desc := "(III)V" } : Jvm.MethodName) prog_13_method_22_code (6 : Nat) (Option.none : Option Jvm.ClassFile.FieldType)) ∈ gw := gw_of (gw_5 (List.mem_of_getElem? (i := 30) rfl)) rfl
theorem q_991 : (Jvm.Cond.methodLink "SolutionBoxesModel" (158 : Nat) ({ cls := "SolutionBoxesModel", name := "reduce", desc := "()V" } : Jvm.MethodName)) ∈ gw := gw_of (gw_5 (List.mem_of_getElem? (i := 31) rfl)) rfl
theorem q_992 : (Jvm.Cond.privateMethod ({ cls := "SolutionBoxesModel", name := "reduce", desc := "()V" } : Jvm.MethodName)) ∈ lw_tbl := gw_5 (List.mem_of_getElem? (i := 32) rfl)
theorem q_993 : (Jvm.Cond.instanceMethod ({ cls := "SolutionBoxesModel", name := "reduce", desc := "()V" } : Jvm.MethodName)) ∈ gw := gw_of (gw_5 (List.mem_of_getElem? (i := 33) rfl)) rfl
theorem q_994 : (Jvm.Cond.code ({ cls := "SolutionBoxesModel", name := "reduce", desc := "()V" } : Jvm.MethodName) prog_13_method_24_code (6 : Nat) (Option.none : Option Jvm.ClassFile.FieldType)) ∈ gw := gw_of (gw_5 (List.mem_of_getElem? (i := 34) rfl)) rfl
theorem q_995 : (Jvm.Cond.methodLink "SolutionBoxesModel" (145 : Nat) ({ cls := "SolutionBoxesModel", name := "divider", desc := "(III)I" } : Jvm.MethodName)) ∈ gw := gw_of (gw_5 (List.mem_of_getElem? (i := 35) rfl)) rfl
theorem q_996 : (Jvm.Cond.privateMethod ({ cls := "SolutionBoxesModel", name := "divider", desc := "(III)I" } : Jvm.MethodName)) ∈ lw_tbl := gw_5 (List.mem_of_getElem? (i := 36) rfl)
theorem q_997 : (Jvm.Cond.instanceMethod ({ cls := "SolutionBoxesModel", name := "divider", desc := "(III)I" } : Jvm.MethodName)) ∈ gw := gw_of (gw_5 (List.mem_of_getElem? (i := 37) rfl)) rfl
theorem q_998 : (Jvm.Cond.code ({ cls := "SolutionBoxesModel", name := "divider", desc := "(III)I" } : Jvm.MethodName) prog_13_method_23_code (5 : Nat) (Option.some Jvm.ClassFile.FieldType.int)) ∈ gw := gw_of (gw_5 (List.mem_of_getElem? (i := 38) rfl)) rfl
theorem q_999 : (Jvm.Cond.methodLink "SolutionBoxesModel" (217 : Nat) ({ cls := "SolutionBoxesModel", name := "isFinite", desc := "()Z" } : Jvm.MethodName)) ∈ gw := gw_of (gw_5 (List.mem_of_getElem? (i := 39) rfl)) rfl
theorem q_1000 : (Jvm.Cond.privateMethod ({ cls := "SolutionBoxesModel", name := "isFinite", desc := "()Z" } : Jvm.MethodName)) ∈ lw_tbl := gw_5 (List.mem_of_getElem? (i := 40) rfl)
theorem q_1001 : (Jvm.Cond.instanceMethod ({ cls := "SolutionBoxesModel", name := "isFinite", desc := "()Z" } : Jvm.MethodName)) ∈ gw := gw_of (gw_5 (List.mem_of_getElem? (i := 41) rfl)) rfl
theorem q_1002 : (Jvm.Cond.code ({ cls := "SolutionBoxesModel", name := "isFinite", desc := "()Z" } : Jvm.MethodName) prog_13_method_31_code (2 : Nat) (Option.some Jvm.ClassFile.FieldType.boolean)) ∈ gw := gw_of (gw_5 (List.mem_of_getElem? (i := 42) rfl)) rfl
theorem q_1003 : (Jvm.Cond.methodLink "SolutionBoxesModel" (220 : Nat) ({ cls := "SolutionBoxesModel", name := "findLeft", desc := "()Z" } : Jvm.MethodName)) ∈ gw := gw_of (gw_5 (List.mem_of_getElem? (i := 43) rfl)) rfl
theorem q_1004 : (Jvm.Cond.privateMethod ({ cls := "SolutionBoxesModel", name := "findLeft", desc := "()Z" } : Jvm.MethodName)) ∈ lw_tbl := gw_5 (List.mem_of_getElem? (i := 44) rfl)
theorem q_1005 : (Jvm.Cond.instanceMethod ({ cls := "SolutionBoxesModel", name := "findLeft", desc := "()Z" } : Jvm.MethodName)) ∈ gw := gw_of (gw_5 (List.mem_of_getElem? (i := 45) rfl)) rfl
theorem q_1006 : (Jvm.Cond.code ({ cls := "SolutionBoxesModel", name := "findLeft", desc := "()Z" } : Jvm.MethodName) prog_13_method_32_code (6 : Nat) (Option.some Jvm.ClassFile.FieldType.boolean)) ∈ gw := gw_of (gw_5 (List.mem_of_getElem? (i := 46) rfl)) rfl
theorem q_1007 : (Jvm.Cond.methodLink "SolutionBoxesModel" (223 : Nat) ({ cls := "SolutionBoxesModel", name := "makeTables", desc := "()V" } : Jvm.MethodName)) ∈ gw := gw_of (gw_5 (List.mem_of_getElem? (i := 47) rfl)) rfl
theorem q_1008 : (Jvm.Cond.privateMethod ({ cls := "SolutionBoxesModel", name := "makeTables", desc := "()V" } : Jvm.MethodName)) ∈ lw_tbl := gw_5 (List.mem_of_getElem? (i := 48) rfl)
theorem q_1009 : (Jvm.Cond.instanceMethod ({ cls := "SolutionBoxesModel", name := "makeTables", desc := "()V" } : Jvm.MethodName)) ∈ gw := gw_of (gw_5 (List.mem_of_getElem? (i := 49) rfl)) rfl
theorem q_1010 : (Jvm.Cond.code ({ cls := "SolutionBoxesModel", name := "makeTables", desc := "()V" } : Jvm.MethodName) prog_13_method_33_code (4 : Nat) (Option.none : Option Jvm.ClassFile.FieldType)) ∈ gw := gw_of (gw_5 (List.mem_of_getElem? (i := 50) rfl)) rfl
theorem q_1011 : (Jvm.Cond.methodLink "SolutionBoxesModel" (226 : Nat) ({ cls := "SolutionBoxesModel", name := "findLeast", desc := "(I)V" } : Jvm.MethodName)) ∈ gw := gw_of (gw_5 (List.mem_of_getElem? (i := 51) rfl)) rfl
theorem q_1012 : (Jvm.Cond.privateMethod ({ cls := "SolutionBoxesModel", name := "findLeast", desc := "(I)V" } : Jvm.MethodName)) ∈ lw_tbl := gw_5 (List.mem_of_getElem? (i := 52) rfl)
theorem q_1013 : (Jvm.Cond.instanceMethod ({ cls := "SolutionBoxesModel", name := "findLeast", desc := "(I)V" } : Jvm.MethodName)) ∈ gw := gw_of (gw_5 (List.mem_of_getElem? (i := 53) rfl)) rfl
theorem q_1014 : (Jvm.Cond.code ({ cls := "SolutionBoxesModel", name := "findLeast", desc := "(I)V" } : Jvm.MethodName) prog_13_method_35_code (8 : Nat) (Option.none : Option Jvm.ClassFile.FieldType)) ∈ gw := gw_of (gw_5 (List.mem_of_getElem? (i := 54) rfl)) rfl
theorem q_1015 : (Jvm.Cond.methodLink "SolutionBoxesModel" (177 : Nat) ({ cls := "SolutionBoxesModel", name := "takeRow", desc := "(IIII)V" } : Jvm.MethodName)) ∈ gw := gw_of (gw_5 (List.mem_of_getElem? (i := 55) rfl)) rfl
theorem q_1016 : (Jvm.Cond.privateMethod ({ cls := "SolutionBoxesModel", name := "takeRow", desc := "(IIII)V" } : Jvm.MethodName)) ∈ lw_tbl := gw_5 (List.mem_of_getElem? (i := 56) rfl)
theorem q_1017 : (Jvm.Cond.instanceMethod ({ cls := "SolutionBoxesModel", name := "takeRow", desc := "(IIII)V" } : Jvm.MethodName)) ∈ gw := gw_of (gw_5 (List.mem_of_getElem? (i := 57) rfl)) rfl
theorem q_1018 : (Jvm.Cond.code ({ cls := "SolutionBoxesModel", name := "takeRow", desc := "(IIII)V" } : Jvm.MethodName) prog_13_method_36_code (8 : Nat) (Option.none : Option Jvm.ClassFile.FieldType)) ∈ gw := gw_of (gw_5 (List.mem_of_getElem? (i := 58) rfl)) rfl
theorem q_1019 : (Jvm.Cond.methodLink "SolutionBoxesModel" (181 : Nat) ({ cls := "SolutionBoxesModel", name := "multiply", desc := "(I)V" } : Jvm.MethodName)) ∈ gw := gw_of (gw_5 (List.mem_of_getElem? (i := 59) rfl)) rfl
theorem q_1020 : (Jvm.Cond.privateMethod ({ cls := "SolutionBoxesModel", name := "multiply", desc := "(I)V" } : Jvm.MethodName)) ∈ lw_tbl := gw_5 (List.mem_of_getElem? (i := 60) rfl)
theorem q_1021 : (Jvm.Cond.instanceMethod ({ cls := "SolutionBoxesModel", name := "multiply", desc := "(I)V" } : Jvm.MethodName)) ∈ gw := gw_of (gw_5 (List.mem_of_getElem? (i := 61) rfl)) rfl
theorem q_1022 : (Jvm.Cond.code ({ cls := "SolutionBoxesModel", name := "multiply", desc := "(I)V" } : Jvm.MethodName) prog_13_method_34_code (5 : Nat) (Option.none : Option Jvm.ClassFile.FieldType)) ∈ gw := gw_of (gw_5 (List.mem_of_getElem? (i := 62) rfl)) rfl
theorem q_1023 : (Jvm.Cond.methodLink "SolutionBoxesModel" (174 : Nat) ({ cls := "SolutionBoxesModel", name := "plus", desc := "(II)I" } : Jvm.MethodName)) ∈ gw := gw_of (gw_5 (List.mem_of_getElem? (i := 63) rfl)) rfl
theorem q_1024 : (Jvm.Cond.static ({ cls := "SolutionBoxesModel", name := "plus", desc := "(II)I" } : Jvm.MethodName)) ∈ gw := gw_of (gw_5 (List.mem_of_getElem? (i := 64) rfl)) rfl
theorem q_1025 : (Jvm.Cond.code ({ cls := "SolutionBoxesModel", name := "plus", desc := "(II)I" } : Jvm.MethodName) prog_13_method_5_code (2 : Nat) (Option.some Jvm.ClassFile.FieldType.int)) ∈ gw := gw_of (gw_5 (List.mem_of_getElem? (i := 65) rfl)) rfl
theorem q_1026 : (Jvm.Cond.methodLink "SolutionBoxesModel" (229 : Nat) ({ cls := "SolutionBoxesModel", name := "findRoots", desc := "(I)V" } : Jvm.MethodName)) ∈ gw := gw_of (gw_5 (List.mem_of_getElem? (i := 66) rfl)) rfl
theorem q_1027 : (Jvm.Cond.privateMethod ({ cls := "SolutionBoxesModel", name := "findRoots", desc := "(I)V" } : Jvm.MethodName)) ∈ lw_tbl := gw_5 (List.mem_of_getElem? (i := 67) rfl)
theorem q_1028 : (Jvm.Cond.instanceMethod ({ cls := "SolutionBoxesModel", name := "findRoots", desc := "(I)V" } : Jvm.MethodName)) ∈ gw := gw_of (gw_5 (List.mem_of_getElem? (i := 68) rfl)) rfl
theorem q_1029 : (Jvm.Cond.code ({ cls := "SolutionBoxesModel", name := "findRoots", desc := "(I)V" } : Jvm.MethodName) prog_13_method_38_code (3 : Nat) (Option.none : Option Jvm.ClassFile.FieldType)) ∈ gw := gw_of (gw_5 (List.mem_of_getElem? (i := 69) rfl)) rfl
theorem q_1030 : (Jvm.Cond.methodLink "SolutionBoxesModel" (185 : Nat) ({ cls := "SolutionBoxesModel", name := "leastAt", desc := "(II)I" } : Jvm.MethodName)) ∈ gw := gw_of (gw_5 (List.mem_of_getElem? (i := 70) rfl)) rfl
theorem q_1031 : (Jvm.Cond.privateMethod ({ cls := "SolutionBoxesModel", name := "leastAt", desc := "(II)I" } : Jvm.MethodName)) ∈ lw_tbl := gw_5 (List.mem_of_getElem? (i := 71) rfl)
theorem q_1032 : (Jvm.Cond.instanceMethod ({ cls := "SolutionBoxesModel", name := "leastAt", desc := "(II)I" } : Jvm.MethodName)) ∈ gw := gw_of (gw_5 (List.mem_of_getElem? (i := 72) rfl)) rfl
theorem q_1033 : (Jvm.Cond.code ({ cls := "SolutionBoxesModel", name := "leastAt", desc := "(II)I" } : Jvm.MethodName) prog_13_method_37_code (5 : Nat) (Option.some Jvm.ClassFile.FieldType.int)) ∈ gw := gw_of (gw_5 (List.mem_of_getElem? (i := 73) rfl)) rfl
theorem q_1034 : (Jvm.Cond.methodLink "SolutionBoxesModel" (232 : Nat) ({ cls := "SolutionBoxesModel", name := "findZeros", desc := "()V" } : Jvm.MethodName)) ∈ gw := gw_of (gw_5 (List.mem_of_getElem? (i := 74) rfl)) rfl
theorem q_1035 : (Jvm.Cond.privateMethod ({ cls := "SolutionBoxesModel", name := "findZeros", desc := "()V" } : Jvm.MethodName)) ∈ lw_tbl := gw_5 (List.mem_of_getElem? (i := 75) rfl)
theorem q_1036 : (Jvm.Cond.instanceMethod ({ cls := "SolutionBoxesModel", name := "findZeros", desc := "()V" } : Jvm.MethodName)) ∈ gw := gw_of (gw_5 (List.mem_of_getElem? (i := 76) rfl)) rfl
theorem q_1037 : (Jvm.Cond.code ({ cls := "SolutionBoxesModel", name := "findZeros", desc := "()V" } : Jvm.MethodName) prog_13_method_43_code (6 : Nat) (Option.none : Option Jvm.ClassFile.FieldType)) ∈ gw := gw_of (gw_5 (List.mem_of_getElem? (i := 77) rfl)) rfl
theorem q_1038 : (Jvm.Cond.methodLink "SolutionBoxesModel" (198 : Nat) ({ cls := "SolutionBoxesModel", name := "rootOf", desc := "(II)I" } : Jvm.MethodName)) ∈ gw := gw_of (gw_5 (List.mem_of_getElem? (i := 78) rfl)) rfl
theorem q_1039 : (Jvm.Cond.privateMethod ({ cls := "SolutionBoxesModel", name := "rootOf", desc := "(II)I" } : Jvm.MethodName)) ∈ lw_tbl := gw_5 (List.mem_of_getElem? (i := 79) rfl)
theorem q_1040 : (Jvm.Cond.instanceMethod ({ cls := "SolutionBoxesModel", name := "rootOf", desc := "(II)I" } : Jvm.MethodName)) ∈ gw := gw_of (gw_5 (List.mem_of_getElem? (i := 80) rfl)) rfl
theorem q_1041 : (Jvm.Cond.code ({ cls := "SolutionBoxesModel", name := "rootOf", desc := "(II)I" } : Jvm.MethodName) prog_13_method_42_code (3 : Nat) (Option.some Jvm.ClassFile.FieldType.int)) ∈ gw := gw_of (gw_5 (List.mem_of_getElem? (i := 81) rfl)) rfl
theorem q_1042 : (Jvm.Cond.methodLink "SolutionBoxesModel" (201 : Nat) ({ cls := "SolutionBoxesModel", name := "areAll", desc := "(III)Z" } : Jvm.MethodName)) ∈ gw := gw_of (gw_5 (List.mem_of_getElem? (i := 82) rfl)) rfl
theorem q_1043 : (Jvm.Cond.privateMethod ({ cls := "SolutionBoxesModel", name := "areAll", desc := "(III)Z" } : Jvm.MethodName)) ∈ lw_tbl := gw_5 (List.mem_of_getElem? (i := 83) rfl)
theorem q_1044 : (Jvm.Cond.instanceMethod ({ cls := "SolutionBoxesModel", name := "areAll", desc := "(III)Z" } : Jvm.MethodName)) ∈ gw := gw_of (gw_5 (List.mem_of_getElem? (i := 84) rfl)) rfl
theorem q_1045 : (Jvm.Cond.code ({ cls := "SolutionBoxesModel", name := "areAll", desc := "(III)Z" } : Jvm.MethodName) prog_13_method_41_code (7 : Nat) (Option.some Jvm.ClassFile.FieldType.boolean)) ∈ gw := gw_of (gw_5 (List.mem_of_getElem? (i := 85) rfl)) rfl
theorem q_1046 : (Jvm.Cond.methodLink "SolutionBoxesModel" (191 : Nat) ({ cls := "SolutionBoxesModel", name := "worth", desc := "(IIII)I" } : Jvm.MethodName)) ∈ gw := gw_of (gw_5 (List.mem_of_getElem? (i := 86) rfl)) rfl
theorem q_1047 : (Jvm.Cond.static ({ cls := "SolutionBoxesModel", name := "worth", desc := "(IIII)I" } : Jvm.MethodName)) ∈ gw := gw_of (gw_5 (List.mem_of_getElem? (i := 87) rfl)) rfl
theorem q_1048 : (Jvm.Cond.code ({ cls := "SolutionBoxesModel", name := "worth", desc := "(IIII)I" } : Jvm.MethodName) prog_13_method_40_code (4 : Nat) (Option.some Jvm.ClassFile.FieldType.int)) ∈ gw := gw_of (gw_5 (List.mem_of_getElem? (i := 88) rfl)) rfl
theorem q_1049 : (Jvm.Cond.methodLink "SolutionBoxesModel" (188 : Nat) ({ cls := "SolutionBoxesModel", name := "power", desc := "(II)I" } : Jvm.MethodName)) ∈ gw := gw_of (gw_5 (List.mem_of_getElem? (i := 89) rfl)) rfl
theorem q_1050 : (Jvm.Cond.static ({ cls := "SolutionBoxesModel", name := "power", desc := "(II)I" } : Jvm.MethodName)) ∈ gw := gw_of (gw_5 (List.mem_of_getElem? (i := 90) rfl)) rfl
theorem q_1051 : (Jvm.Cond.code ({ cls := "SolutionBoxesModel", name := "power", desc := "(II)I" } : Jvm.MethodName) prog_13_method_39_code (4 : Nat) (Option.some Jvm.ClassFile.FieldType.int)) ∈ gw := gw_of (gw_5 (List.mem_of_getElem? (i := 91) rfl)) rfl
theorem q_1052 : (Jvm.Cond.methodLink "SolutionBoxesModel" (235 : Nat) ({ cls := "SolutionBoxesModel", name := "countZeros", desc := "()V" } : Jvm.MethodName)) ∈ gw := gw_of (gw_5 (List.mem_of_getElem? (i := 92) rfl)) rfl
theorem q_1053 : (Jvm.Cond.privateMethod ({ cls := "SolutionBoxesModel", name := "countZeros", desc := "()V" } : Jvm.MethodName)) ∈ lw_tbl := gw_5 (List.mem_of_getElem? (i := 93) rfl)
theorem q_1054 : (Jvm.Cond.instanceMethod ({ cls := "SolutionBoxesModel", name := "countZeros", desc := "()V" } : Jvm.MethodName)) ∈ gw := gw_of (gw_5 (List.mem_of_getElem? (i := 94) rfl)) rfl
theorem q_1055 : (Jvm.Cond.code ({ cls := "SolutionBoxesModel", name := "countZeros", desc := "()V" } : Jvm.MethodName) prog_13_method_46_code (3 : Nat) (Option.none : Option Jvm.ClassFile.FieldType)) ∈ gw := gw_of (gw_5 (List.mem_of_getElem? (i := 95) rfl)) rfl
theorem q_1056 : (Jvm.Cond.methodLink "SolutionBoxesModel" (205 : Nat) ({ cls := "SolutionBoxesModel", name := "sixteenTimes", desc := "(III)V" } : Jvm.MethodName)) ∈ gw := gw_of (gw_5 (List.mem_of_getElem? (i := 96) rfl)) rfl
theorem q_1057 : (Jvm.Cond.privateMethod ({ cls := "SolutionBoxesModel", name := "sixteenTimes", desc := "(III)V" } : Jvm.MethodName)) ∈ lw_tbl := gw_5 (List.mem_of_getElem? (i := 97) rfl)
theorem q_1058 : (Jvm.Cond.instanceMethod ({ cls := "SolutionBoxesModel", name := "sixteenTimes", desc := "(III)V" } : Jvm.MethodName)) ∈ gw := gw_of (gw_5 (List.mem_of_getElem? (i := 98) rfl)) rfl
theorem q_1059 : (Jvm.Cond.code ({ cls := "SolutionBoxesModel", name := "sixteenTimes", desc := "(III)V" } : Jvm.MethodName) prog_13_method_44_code (9 : Nat) (Option.none : Option Jvm.ClassFile.FieldType)) ∈ gw := gw_of (gw_5 (List.mem_of_getElem? (i := 99) rfl)) rfl
theorem q_1060 : (Jvm.Cond.methodLink "SolutionBoxesModel" (208 : Nat) ({ cls := "SolutionBoxesModel", name := "rank", desc := "(I)I" } : Jvm.MethodName)) ∈ gw := gw_of (gw_5 (List.mem_of_getElem? (i := 100) rfl)) rfl
theorem q_1061 : (Jvm.Cond.privateMethod ({ cls := "SolutionBoxesModel", name := "rank", desc := "(I)I" } : Jvm.MethodName)) ∈ lw_tbl := gw_5 (List.mem_of_getElem? (i := 101) rfl)
theorem q_1062 : (Jvm.Cond.instanceMethod ({ cls := "SolutionBoxesModel", name := "rank", desc := "(I)I" } : Jvm.MethodName)) ∈ gw := gw_of (gw_5 (List.mem_of_getElem? (i := 102) rfl)) rfl
theorem q_1063 : (Jvm.Cond.code ({ cls := "SolutionBoxesModel", name := "rank", desc := "(I)I" } : Jvm.MethodName) prog_13_method_45_code (7 : Nat) (Option.some Jvm.ClassFile.FieldType.int)) ∈ gw := gw_of (gw_5 (List.mem_of_getElem? (i := 103) rfl)) rfl
theorem q_1064 : (Jvm.Cond.methodLink "SolutionBoxesLaw" (84 : Nat) ({ cls := "SolutionBoxesModel", name := "total", desc := "()I" } : Jvm.MethodName)) ∈ gw := gw_of (gw_5 (List.mem_of_getElem? (i := 104) rfl)) rfl
theorem q_1065 : (Jvm.Cond.instanceMethod ({ cls := "SolutionBoxesModel", name := "total", desc := "()I" } : Jvm.MethodName)) ∈ gw := gw_of (gw_5 (List.mem_of_getElem? (i := 105) rfl)) rfl
theorem q_1066 : (Jvm.Cond.selects "SolutionBoxesModel" ({ cls := "SolutionBoxesModel", name := "total", desc := "()I" } : Jvm.MethodName) ({ cls := "SolutionBoxesModel", name := "total", desc := "()I" } : Jvm.MethodName)) ∈ gw := gw_of (gw_5 (List.mem_of_getElem? (i := 106) rfl)) rfl
theorem q_1067 : (Jvm.Cond.code ({ cls := "SolutionBoxesModel", name := "total", desc := "()I" } : Jvm.MethodName) prog_13_method_48_code (1 : Nat) (Option.some Jvm.ClassFile.FieldType.int)) ∈ gw := gw_of (gw_5 (List.mem_of_getElem? (i := 107) rfl)) rfl
theorem q_1068 : (Jvm.Cond.methodLink "SolutionBoxesLaw" (87 : Nat) ({ cls := "SolutionBoxesModel", name := "left", desc := "(I)I" } : Jvm.MethodName)) ∈ gw := gw_of (gw_5 (List.mem_of_getElem? (i := 108) rfl)) rfl
theorem q_1069 : (Jvm.Cond.instanceMethod ({ cls := "SolutionBoxesModel", name := "left", desc := "(I)I" } : Jvm.MethodName)) ∈ gw := gw_of (gw_5 (List.mem_of_getElem? (i := 109) rfl)) rfl
theorem q_1070 : (Jvm.Cond.selects "SolutionBoxesModel" ({ cls := "SolutionBoxesModel", name := "left", desc := "(I)I" } : Jvm.MethodName) ({ cls := "SolutionBoxesModel", name := "left", desc := "(I)I" } : Jvm.MethodName)) ∈ gw := gw_of (gw_5 (List.mem_of_getElem? (i := 110) rfl)) rfl
theorem q_1071 : (Jvm.Cond.code ({ cls := "SolutionBoxesModel", name := "left", desc := "(I)I" } : Jvm.MethodName) prog_13_method_49_code (2 : Nat) (Option.some Jvm.ClassFile.FieldType.int)) ∈ gw := gw_of (gw_5 (List.mem_of_getElem? (i := 111) rfl)) rfl
theorem q_1072 : (Jvm.Cond.methodLink "SolutionBoxesModel" (238 : Nat) ({ cls := "SolutionBoxesModel", name := "powerAt", desc := "(I)I" } : Jvm.MethodName)) ∈ gw := gw_of (gw_5 (List.mem_of_getElem? (i := 112) rfl)) rfl
theorem q_1073 : (Jvm.Cond.static ({ cls := "SolutionBoxesModel", name := "powerAt", desc := "(I)I" } : Jvm.MethodName)) ∈ gw := gw_of (gw_5 (List.mem_of_getElem? (i := 113) rfl)) rfl
theorem q_1074 : (Jvm.Cond.code ({ cls := "SolutionBoxesModel", name := "powerAt", desc := "(I)I" } : Jvm.MethodName) prog_13_method_12_code (1 : Nat) (Option.some Jvm.ClassFile.FieldType.int)) ∈ gw := gw_of (gw_5 (List.mem_of_getElem? (i := 114) rfl)) rfl
theorem q_1075 : (Jvm.Cond.methodLink "SolutionBoxesLaw" (91 : Nat) ({ cls := "SolutionBoxesModel", name := "at", desc := "(II)I" } : Jvm.MethodName)) ∈ gw := gw_of (gw_5 (List.mem_of_getElem? (i := 115) rfl)) rfl
theorem q_1076 : (Jvm.Cond.instanceMethod ({ cls := "SolutionBoxesModel", name := "at", desc := "(II)I" } : Jvm.MethodName)) ∈ gw := gw_of (gw_5 (List.mem_of_getElem? (i := 116) rfl)) rfl
theorem q_1077 : (Jvm.Cond.selects "SolutionBoxesModel" ({ cls := "SolutionBoxesModel", name := "at", desc := "(II)I" } : Jvm.MethodName) ({ cls := "SolutionBoxesModel", name := "at", desc := "(II)I" } : Jvm.MethodName)) ∈ gw := gw_of (gw_5 (List.mem_of_getElem? (i := 117) rfl)) rfl
theorem q_1078 : (Jvm.Cond.code ({ cls := "SolutionBoxesModel", name := "at", desc := "(II)I" } : Jvm.MethodName) prog_13_method_52_code (3 : Nat) (Option.some Jvm.ClassFile.FieldType.int)) ∈ gw := gw_of (gw_5 (List.mem_of_getElem? (i := 118) rfl)) rfl
theorem q_1079 : (Jvm.Cond.methodLink "SolutionBoxesModel" (241 : Nat) ({ cls := "SolutionBoxesModel", name := "isZero", desc := "(I)Z" } : Jvm.MethodName)) ∈ gw := gw_of (gw_5 (List.mem_of_getElem? (i := 119) rfl)) rfl
theorem q_1080 : (Jvm.Cond.privateMethod ({ cls := "SolutionBoxesModel", name := "isZero", desc := "(I)Z" } : Jvm.MethodName)) ∈ lw_tbl := gw_5 (List.mem_of_getElem? (i := 120) rfl)
theorem q_1081 : (Jvm.Cond.instanceMethod ({ cls := "SolutionBoxesModel", name := "isZero", desc := "(I)Z" } : Jvm.MethodName)) ∈ gw := gw_of (gw_5 (List.mem_of_getElem? (i := 121) rfl)) rfl
theorem q_1082 : (Jvm.Cond.code ({ cls := "SolutionBoxesModel", name := "isZero", desc := "(I)Z" } : Jvm.MethodName) prog_13_method_50_code (2 : Nat) (Option.some Jvm.ClassFile.FieldType.boolean)) ∈ gw := gw_of (gw_5 (List.mem_of_getElem? (i := 122) rfl)) rfl
theorem q_1083 : (Jvm.Cond.methodLink "SolutionBoxesModel" (244 : Nat) ({ cls := "SolutionBoxesModel", name := "isLetter", desc := "(I)Z" } : Jvm.MethodName)) ∈ gw := gw_of (gw_5 (List.mem_of_getElem? (i := 123) rfl)) rfl
theorem q_1084 : (Jvm.Cond.privateMethod ({ cls := "SolutionBoxesModel", name := "isLetter", desc := "(I)Z" } : Jvm.MethodName)) ∈ lw_tbl := gw_5 (List.mem_of_getElem? (i := 124) rfl)
theorem q_1085 : (Jvm.Cond.instanceMethod ({ cls := "SolutionBoxesModel", name := "isLetter", desc := "(I)Z" } : Jvm.MethodName)) ∈ gw := gw_of (gw_5 (List.mem_of_getElem? (i := 125) rfl)) rfl
theorem q_1086 : (Jvm.Cond.code ({ cls := "SolutionBoxesModel", name := "isLetter", desc := "(I)Z" } : Jvm.MethodName) prog_13_method_51_code (2 : Nat) (Option.some Jvm.ClassFile.FieldType.boolean)) ∈ gw := gw_of (gw_5 (List.mem_of_getElem? (i := 126) rfl)) rfl
theorem q_1087 : (Jvm.Cond.methodLink "SolutionBoxesLaw" (94 : Nat) ({ cls := "SolutionBoxesModel", name := "multiplicity", desc := "(I)I" } : Jvm.MethodName)) ∈ gw := gw_of (gw_5 (List.mem_of_getElem? (i := 127) rfl)) rfl
theorem q_1088 : (Jvm.Cond.instanceMethod ({ cls := "SolutionBoxesModel", name := "multiplicity", desc := "(I)I" } : Jvm.MethodName)) ∈ gw := gw_of (gw_5 (List.mem_of_getElem? (i := 128) rfl)) rfl
theorem q_1089 : (Jvm.Cond.selects "SolutionBoxesModel" ({ cls := "SolutionBoxesModel", name := "multiplicity", desc := "(I)I" } : Jvm.MethodName) ({ cls := "SolutionBoxesModel", name := "multiplicity", desc := "(I)I" } : Jvm.MethodName)) ∈ gw := gw_of (gw_5 (List.mem_of_getElem? (i := 129) rfl)) rfl
theorem q_1090 : (Jvm.Cond.code ({ cls := "SolutionBoxesModel", name := "multiplicity", desc := "(I)I" } : Jvm.MethodName) prog_13_method_53_code (2 : Nat) (Option.some Jvm.ClassFile.FieldType.int)) ∈ gw := gw_of (gw_5 (List.mem_of_getElem? (i := 130) rfl)) rfl
theorem q_1091 : (Jvm.Cond.methodLink "SolutionBoxesLaw" (97 : Nat) ({ cls := "SolutionBoxesModel", name := "minimal", desc := "(II)I" } : Jvm.MethodName)) ∈ gw := gw_of (gw_5 (List.mem_of_getElem? (i := 131) rfl)) rfl
theorem q_1092 : (Jvm.Cond.instanceMethod ({ cls := "SolutionBoxesModel", name := "minimal", desc := "(II)I" } : Jvm.MethodName)) ∈ gw := gw_of (gw_5 (List.mem_of_getElem? (i := 132) rfl)) rfl
theorem q_1093 : (Jvm.Cond.selects "SolutionBoxesModel" ({ cls := "SolutionBoxesModel", name := "minimal", desc := "(II)I" } : Jvm.MethodName) ({ cls := "SolutionBoxesModel", name := "minimal", desc := "(II)I" } : Jvm.MethodName)) ∈ gw := gw_of (gw_5 (List.mem_of_getElem? (i := 133) rfl)) rfl
theorem q_1094 : (Jvm.Cond.code ({ cls := "SolutionBoxesModel", name := "minimal", desc := "(II)I" } : Jvm.MethodName) prog_13_method_54_code (3 : Nat) (Option.some Jvm.ClassFile.FieldType.int)) ∈ gw := gw_of (gw_5 (List.mem_of_getElem? (i := 134) rfl)) rfl
theorem q_1095 : (Jvm.Cond.methodLink "SolutionBoxesLaw" (100 : Nat) ({ cls := "SolutionBoxesModel", name := "value", desc := "(II)I" } : Jvm.MethodName)) ∈ gw := gw_of (gw_5 (List.mem_of_getElem? (i := 135) rfl)) rfl
theorem q_1096 : (Jvm.Cond.instanceMethod ({ cls := "SolutionBoxesModel", name := "value", desc := "(II)I" } : Jvm.MethodName)) ∈ gw := gw_of (gw_5 (List.mem_of_getElem? (i := 136) rfl)) rfl
theorem q_1097 : (Jvm.Cond.selects "SolutionBoxesModel" ({ cls := "SolutionBoxesModel", name := "value", desc := "(II)I" } : Jvm.MethodName) ({ cls := "SolutionBoxesModel", name := "value", desc := "(II)I" } : Jvm.MethodName)) ∈ gw := gw_of (gw_5 (List.mem_of_getElem? (i := 137) rfl)) rfl
theorem q_1098 : (Jvm.Cond.code ({ cls := "SolutionBoxesModel", name := "value", desc := "(II)I" } : Jvm.MethodName) prog_13_method_55_code (6 : Nat) (Option.some Jvm.ClassFile.FieldType.int)) ∈ gw := gw_of (gw_5 (List.mem_of_getElem? (i := 138) rfl)) rfl
theorem q_1099 : (Jvm.Cond.methodLink "SolutionBoxesLaw" (104 : Nat) ({ cls := "SolutionBoxesModel", name := "free", desc := "(I)I" } : Jvm.MethodName)) ∈ gw := gw_of (gw_5 (List.mem_of_getElem? (i := 139) rfl)) rfl
theorem q_1100 : (Jvm.Cond.instanceMethod ({ cls := "SolutionBoxesModel", name := "free", desc := "(I)I" } : Jvm.MethodName)) ∈ gw := gw_of (gw_5 (List.mem_of_getElem? (i := 140) rfl)) rfl
theorem q_1101 : (Jvm.Cond.selects "SolutionBoxesModel" ({ cls := "SolutionBoxesModel", name := "free", desc := "(I)I" } : Jvm.MethodName) ({ cls := "SolutionBoxesModel", name := "free", desc := "(I)I" } : Jvm.MethodName)) ∈ gw := gw_of (gw_5 (List.mem_of_getElem? (i := 141) rfl)) rfl
theorem q_1102 : (Jvm.Cond.code ({ cls := "SolutionBoxesModel", name := "free", desc := "(I)I" } : Jvm.MethodName) prog_13_method_56_code (4 : Nat) (Option.some Jvm.ClassFile.FieldType.int)) ∈ gw := gw_of (gw_5 (List.mem_of_getElem? (i := 142) rfl)) rfl
theorem q_1103 : (Jvm.Cond.methodLink "SolutionBoxesLaw" (112 : Nat) ({ cls := "SolutionBoxesModel", name := "count", desc := "(I)I" } : Jvm.MethodName)) ∈ gw := gw_of (gw_5 (List.mem_of_getElem? (i := 143) rfl)) rfl
theorem q_1104 : (Jvm.Cond.instanceMethod ({ cls := "SolutionBoxesModel", name := "count", desc := "(I)I" } : Jvm.MethodName)) ∈ gw := gw_of (gw_5 (List.mem_of_getElem? (i := 144) rfl)) rfl
theorem q_1105 : (Jvm.Cond.selects "SolutionBoxesModel" ({ cls := "SolutionBoxesModel", name := "count", desc := "(I)I" } : Jvm.MethodName) ({ cls := "SolutionBoxesModel", name := "count", desc := "(I)I" } : Jvm.MethodName)) ∈ gw := gw_of (gw_5 (List.mem_of_getElem? (i := 145) rfl)) rfl
theorem q_1106 : (Jvm.Cond.code ({ cls := "SolutionBoxesModel", name := "count", desc := "(I)I" } : Jvm.MethodName) prog_13_method_57_code (2 : Nat) (Option.some Jvm.ClassFile.FieldType.int)) ∈ gw := gw_of (gw_5 (List.mem_of_getElem? (i := 146) rfl)) rfl
theorem q_1107 : (Jvm.Cond.constantLong "SolutionBoxesLaw" (68 : Nat) (4294967295 : Int64)) ∈ gw := gw_of (gw_5 (List.mem_of_getElem? (i := 147) rfl)) rfl
theorem q_1108 : (Jvm.Cond.arrayClass Jvm.ClassFile.FieldType.long) ∈ gw := gw_of (gw_5 (List.mem_of_getElem? (i := 148) rfl)) rfl
theorem q_1109 : (Jvm.Cond.sameMethod "java/lang/Throwable" "java/lang/Throwable" "fillInStackTrace" "(I)Ljava/lang/Throwable;") ∈ lw_tbl := gw_5 (List.mem_of_getElem? (i := 149) rfl)
theorem qs_0 : Cond.selects "SolutionBoxes" ⟨"SolutionBoxes", "noteFreeLetters", "()V"⟩ ⟨"SolutionBoxes", "noteFreeLetters", "()V"⟩ ∈ gw := gw_of (gw_s (List.mem_of_getElem? (i := 0) rfl)) rfl
theorem qs_1 : Cond.selects "SolutionBoxes$Reducer" ⟨"SolutionBoxes$Reducer", "pairVanishes", "(LSolutionBoxes$TakenList;II)Z"⟩ ⟨"SolutionBoxes$Reducer", "pairVanishes", "(LSolutionBoxes$TakenList;II)Z"⟩ ∈ gw := gw_of (gw_s (List.mem_of_getElem? (i := 1) rfl)) rfl
theorem qs_2 : Cond.selects "SolutionBoxes$Reducer" ⟨"SolutionBoxes$Reducer", "addMultiple", "(LSolutionBoxes$Polynomial;II)V"⟩ ⟨"SolutionBoxes$Reducer", "addMultiple", "(LSolutionBoxes$Polynomial;II)V"⟩ ∈ gw := gw_of (gw_s (List.mem_of_getElem? (i := 2) rfl)) rfl
theorem qs_3 : Cond.selects "SolutionBoxes$Reducer" ⟨"SolutionBoxes$Reducer", "reduce", "(LSolutionBoxes$TakenList;IZ)Z"⟩ ⟨"SolutionBoxes$Reducer", "reduce", "(LSolutionBoxes$TakenList;IZ)Z"⟩ ∈ gw := gw_of (gw_s (List.mem_of_getElem? (i := 3) rfl)) rfl
theorem qs_4 : Cond.selects "SolutionBoxes$Reducer" ⟨"SolutionBoxes$Reducer", "wipe", "(I)V"⟩ ⟨"SolutionBoxes$Reducer", "wipe", "(I)V"⟩ ∈ gw := gw_of (gw_s (List.mem_of_getElem? (i := 4) rfl)) rfl
theorem qs_5 : Cond.selects "SolutionBoxes$Quotient" ⟨"SolutionBoxes$Quotient", "noteLower", "(III)V"⟩ ⟨"SolutionBoxes$Quotient", "noteLower", "(III)V"⟩ ∈ gw := gw_of (gw_s (List.mem_of_getElem? (i := 5) rfl)) rfl
theorem qs_6 : Cond.selects "SolutionBoxes$Quotient" ⟨"SolutionBoxes$Quotient", "setOne", "([I)V"⟩ ⟨"SolutionBoxes$Quotient", "setOne", "([I)V"⟩ ∈ gw := gw_of (gw_s (List.mem_of_getElem? (i := 6) rfl)) rfl
theorem qs_7 : Cond.selects "SolutionBoxes$Span" ⟨"SolutionBoxes$Span", "takeOff", "([II)V"⟩ ⟨"SolutionBoxes$Span", "takeOff", "([II)V"⟩ ∈ gw := gw_of (gw_s (List.mem_of_getElem? (i := 7) rfl)) rfl
theorem qs_8 : Cond.selects "SolutionBoxes$Span" ⟨"SolutionBoxes$Span", "keep", "([II)V"⟩ ⟨"SolutionBoxes$Span", "keep", "([II)V"⟩ ∈ gw := gw_of (gw_s (List.mem_of_getElem? (i := 8) rfl)) rfl
theorem qs_9 : Cond.selects "SolutionBoxes$OneLetter" ⟨"SolutionBoxes$OneLetter", "settle", "(I)V"⟩ ⟨"SolutionBoxes$OneLetter", "settle", "(I)V"⟩ ∈ gw := gw_of (gw_s (List.mem_of_getElem? (i := 9) rfl)) rfl
theorem qs_10 : Cond.selects "SolutionBoxes$Quotient" ⟨"SolutionBoxes$Quotient", "multiply", "(I[I[I)V"⟩ ⟨"SolutionBoxes$Quotient", "multiply", "(I[I[I)V"⟩ ∈ gw := gw_of (gw_s (List.mem_of_getElem? (i := 10) rfl)) rfl
theorem qs_11 : Cond.selects "SolutionBoxes$OneLetter" ⟨"SolutionBoxes$OneLetter", "square", "()V"⟩ ⟨"SolutionBoxes$OneLetter", "square", "()V"⟩ ∈ gw := gw_of (gw_s (List.mem_of_getElem? (i := 11) rfl)) rfl
theorem qs_12 : Cond.selects "SolutionBoxes$OneLetter" ⟨"SolutionBoxes$OneLetter", "divide", "(LSolutionBoxes$OneLetter;)V"⟩ ⟨"SolutionBoxes$OneLetter", "divide", "(LSolutionBoxes$OneLetter;)V"⟩ ∈ gw := gw_of (gw_s (List.mem_of_getElem? (i := 12) rfl)) rfl
theorem qs_13 : Cond.selects "SolutionBoxes$OneLetter" ⟨"SolutionBoxes$OneLetter", "multiplyByShifted", "(I)V"⟩ ⟨"SolutionBoxes$OneLetter", "multiplyByShifted", "(I)V"⟩ ∈ gw := gw_of (gw_s (List.mem_of_getElem? (i := 13) rfl)) rfl
theorem qs_14 : Cond.selects "SolutionBoxes$Roots" ⟨"SolutionBoxes$Roots", "split", "(II)V"⟩ ⟨"SolutionBoxes$Roots", "split", "(II)V"⟩ ∈ gw := gw_of (gw_s (List.mem_of_getElem? (i := 14) rfl)) rfl
theorem qs_15 : Cond.selects "SolutionBoxes$Roots" ⟨"SolutionBoxes$Roots", "writeRoots", "([I)I"⟩ ⟨"SolutionBoxes$Roots", "writeRoots", "([I)I"⟩ ∈ gw := gw_of (gw_s (List.mem_of_getElem? (i := 15) rfl)) rfl
theorem qs_16 : Cond.selects "SolutionBoxes$Solver" ⟨"SolutionBoxes$Solver", "findZeros", "(LSolutionBoxes$TakenList;)V"⟩ ⟨"SolutionBoxes$Solver", "findZeros", "(LSolutionBoxes$TakenList;)V"⟩ ∈ gw := gw_of (gw_s (List.mem_of_getElem? (i := 16) rfl)) rfl
theorem qs_17 : Cond.selects "SolutionBoxes$Solver" ⟨"SolutionBoxes$Solver", "keepZero", "()V"⟩ ⟨"SolutionBoxes$Solver", "keepZero", "()V"⟩ ∈ gw := gw_of (gw_s (List.mem_of_getElem? (i := 17) rfl)) rfl
theorem qs_18 : Cond.selects "SolutionBoxes$Quotient" ⟨"SolutionBoxes$Quotient", "addMultiplesOfFactor", "()V"⟩ ⟨"SolutionBoxes$Quotient", "addMultiplesOfFactor", "()V"⟩ ∈ gw := gw_of (gw_s (List.mem_of_getElem? (i := 18) rfl)) rfl
theorem qs_19 : Cond.selects "java/lang/Throwable" ⟨"java/lang/Throwable", "fillInStackTrace", "(I)Ljava/lang/Throwable;"⟩ ⟨"java/lang/Throwable", "fillInStackTrace", "(I)Ljava/lang/Throwable;"⟩ ∈ gw := gw_of (gw_s (List.mem_of_getElem? (i := 19) rfl)) rfl
theorem qs_20 : Cond.selects "SolutionBoxes" ⟨"SolutionBoxes", "polynomialOf", "(I)LSolutionBoxes$Polynomial;"⟩ ⟨"SolutionBoxes", "polynomialOf", "(I)LSolutionBoxes$Polynomial;"⟩ ∈ gw := gw_of (gw_s (List.mem_of_getElem? (i := 20) rfl)) rfl
theorem qs_21 : Cond.selects "SolutionBoxes$Polynomial" ⟨"SolutionBoxes$Polynomial", "makeRoom", "(I)V"⟩ ⟨"SolutionBoxes$Polynomial", "makeRoom", "(I)V"⟩ ∈ gw := gw_of (gw_s (List.mem_of_getElem? (i := 21) rfl)) rfl
theorem qs_22 : Cond.selects "SolutionBoxes$Polynomial" ⟨"SolutionBoxes$Polynomial", "closeUp", "(I)V"⟩ ⟨"SolutionBoxes$Polynomial", "closeUp", "(I)V"⟩ ∈ gw := gw_of (gw_s (List.mem_of_getElem? (i := 22) rfl)) rfl
theorem qs_23 : Cond.selects "SolutionBoxes" ⟨"SolutionBoxes", "known", "()LSolutionBoxes$Solver;"⟩ ⟨"SolutionBoxes", "known", "()LSolutionBoxes$Solver;"⟩ ∈ gw := gw_of (gw_s (List.mem_of_getElem? (i := 23) rfl)) rfl
theorem qs_24 : Cond.selects "SolutionBoxes" ⟨"SolutionBoxes", "requireLetter", "(I)V"⟩ ⟨"SolutionBoxes", "requireLetter", "(I)V"⟩ ∈ gw := gw_of (gw_s (List.mem_of_getElem? (i := 24) rfl)) rfl
theorem qs_25 : Cond.selects "SolutionBoxesModel" ⟨"SolutionBoxesModel", "isPower", "(I)Z"⟩ ⟨"SolutionBoxesModel", "isPower", "(I)Z"⟩ ∈ gw := gw_of (gw_s (List.mem_of_getElem? (i := 25) rfl)) rfl
theorem qs_26 : Cond.selects "SolutionBoxesModel" ⟨"SolutionBoxesModel", "lookForFree", "()V"⟩ ⟨"SolutionBoxesModel", "lookForFree", "()V"⟩ ∈ gw := gw_of (gw_s (List.mem_of_getElem? (i := 26) rfl)) rfl
theorem qs_27 : Cond.selects "SolutionBoxesModel" ⟨"SolutionBoxesModel", "hasOne", "()Z"⟩ ⟨"SolutionBoxesModel", "hasOne", "()Z"⟩ ∈ gw := gw_of (gw_s (List.mem_of_getElem? (i := 27) rfl)) rfl
theorem qs_28 : Cond.selects "SolutionBoxesModel" ⟨"SolutionBoxesModel", "isBasis", "()Z"⟩ ⟨"SolutionBoxesModel", "isBasis", "()Z"⟩ ∈ gw := gw_of (gw_s (List.mem_of_getElem? (i := 28) rfl)) rfl
theorem qs_29 : Cond.selects "SolutionBoxesModel" ⟨"SolutionBoxesModel", "meets", "(II)Z"⟩ ⟨"SolutionBoxesModel", "meets", "(II)Z"⟩ ∈ gw := gw_of (gw_s (List.mem_of_getElem? (i := 29) rfl)) rfl
theorem qs_30 : Cond.selects "SolutionBoxesModel" ⟨"SolutionBoxesModel", "empty", "()V"⟩ ⟨"SolutionBoxesModel", "empty", "()V"⟩ ∈ gw := gw_of (gw_s (List.mem_of_getElem? (i := 30) rfl)) rfl
theorem qs_31 : Cond.selects "SolutionBoxesModel" ⟨"SolutionBoxesModel", "takeOff", "(III)V"⟩ ⟨"SolutionBoxesModel", "takeOff", "(III)V"⟩ ∈ gw := gw_of (gw_s (List.mem_of_getElem? (i := 31) rfl)) rfl
theorem qs_32 : Cond.selects "SolutionBoxesModel" ⟨"SolutionBoxesModel", "reduce", "()V"⟩ ⟨"SolutionBoxesModel", "reduce", "()V"⟩ ∈ gw := gw_of (gw_s (List.mem_of_getElem? (i := 32) rfl)) rfl
theorem qs_33 : Cond.selects "SolutionBoxesModel" ⟨"SolutionBoxesModel", "divider", "(III)I"⟩ ⟨"SolutionBoxesModel", "divider", "(III)I"⟩ ∈ gw := gw_of (gw_s (List.mem_of_getElem? (i := 33) rfl)) rfl
theorem qs_34 : Cond.selects "SolutionBoxesModel" ⟨"SolutionBoxesModel", "isFinite", "()Z"⟩ ⟨"SolutionBoxesModel", "isFinite", "()Z"⟩ ∈ gw := gw_of (gw_s (List.mem_of_getElem? (i := 34) rfl)) rfl
theorem qs_35 : Cond.selects "SolutionBoxesModel" ⟨"SolutionBoxesModel", "findLeft", "()Z"⟩ ⟨"SolutionBoxesModel", "findLeft", "()Z"⟩ ∈ gw := gw_of (gw_s (List.mem_of_getElem? (i := 35) rfl)) rfl
theorem qs_36 : Cond.selects "SolutionBoxesModel" ⟨"SolutionBoxesModel", "makeTables", "()V"⟩ ⟨"SolutionBoxesModel", "makeTables", "()V"⟩ ∈ gw := gw_of (gw_s (List.mem_of_getElem? (i := 36) rfl)) rfl
theorem qs_37 : Cond.selects "SolutionBoxesModel" ⟨"SolutionBoxesModel", "findLeast", "(I)V"⟩ ⟨"SolutionBoxesModel", "findLeast", "(I)V"⟩ ∈ gw := gw_of (gw_s (List.mem_of_getElem? (i := 37) rfl)) rfl
theorem qs_38 : Cond.selects "SolutionBoxesModel" ⟨"SolutionBoxesModel", "takeRow", "(IIII)V"⟩ ⟨"SolutionBoxesModel", "takeRow", "(IIII)V"⟩ ∈ gw := gw_of (gw_s (List.mem_of_getElem? (i := 38) rfl)) rfl
theorem qs_39 : Cond.selects "SolutionBoxesModel" ⟨"SolutionBoxesModel", "multiply", "(I)V"⟩ ⟨"SolutionBoxesModel", "multiply", "(I)V"⟩ ∈ gw := gw_of (gw_s (List.mem_of_getElem? (i := 39) rfl)) rfl
theorem qs_40 : Cond.selects "SolutionBoxesModel" ⟨"SolutionBoxesModel", "findRoots", "(I)V"⟩ ⟨"SolutionBoxesModel", "findRoots", "(I)V"⟩ ∈ gw := gw_of (gw_s (List.mem_of_getElem? (i := 40) rfl)) rfl
theorem qs_41 : Cond.selects "SolutionBoxesModel" ⟨"SolutionBoxesModel", "leastAt", "(II)I"⟩ ⟨"SolutionBoxesModel", "leastAt", "(II)I"⟩ ∈ gw := gw_of (gw_s (List.mem_of_getElem? (i := 41) rfl)) rfl
theorem qs_42 : Cond.selects "SolutionBoxesModel" ⟨"SolutionBoxesModel", "findZeros", "()V"⟩ ⟨"SolutionBoxesModel", "findZeros", "()V"⟩ ∈ gw := gw_of (gw_s (List.mem_of_getElem? (i := 42) rfl)) rfl
theorem qs_43 : Cond.selects "SolutionBoxesModel" ⟨"SolutionBoxesModel", "rootOf", "(II)I"⟩ ⟨"SolutionBoxesModel", "rootOf", "(II)I"⟩ ∈ gw := gw_of (gw_s (List.mem_of_getElem? (i := 43) rfl)) rfl
theorem qs_44 : Cond.selects "SolutionBoxesModel" ⟨"SolutionBoxesModel", "areAll", "(III)Z"⟩ ⟨"SolutionBoxesModel", "areAll", "(III)Z"⟩ ∈ gw := gw_of (gw_s (List.mem_of_getElem? (i := 44) rfl)) rfl
theorem qs_45 : Cond.selects "SolutionBoxesModel" ⟨"SolutionBoxesModel", "countZeros", "()V"⟩ ⟨"SolutionBoxesModel", "countZeros", "()V"⟩ ∈ gw := gw_of (gw_s (List.mem_of_getElem? (i := 45) rfl)) rfl
theorem qs_46 : Cond.selects "SolutionBoxesModel" ⟨"SolutionBoxesModel", "sixteenTimes", "(III)V"⟩ ⟨"SolutionBoxesModel", "sixteenTimes", "(III)V"⟩ ∈ gw := gw_of (gw_s (List.mem_of_getElem? (i := 46) rfl)) rfl
theorem qs_47 : Cond.selects "SolutionBoxesModel" ⟨"SolutionBoxesModel", "rank", "(I)I"⟩ ⟨"SolutionBoxesModel", "rank", "(I)I"⟩ ∈ gw := gw_of (gw_s (List.mem_of_getElem? (i := 47) rfl)) rfl
theorem qs_48 : Cond.selects "SolutionBoxesModel" ⟨"SolutionBoxesModel", "isZero", "(I)Z"⟩ ⟨"SolutionBoxesModel", "isZero", "(I)Z"⟩ ∈ gw := gw_of (gw_s (List.mem_of_getElem? (i := 48) rfl)) rfl
theorem qs_49 : Cond.selects "SolutionBoxesModel" ⟨"SolutionBoxesModel", "isLetter", "(I)Z"⟩ ⟨"SolutionBoxesModel", "isLetter", "(I)Z"⟩ ∈ gw := gw_of (gw_s (List.mem_of_getElem? (i := 49) rfl)) rfl
def R_B : String := "SolutionBoxes"
def F_B : u_T := fun k => match k with
  | 0 => ("SolutionBoxes", "letters", "I", true)
  | 1 => ("SolutionBoxes", "polynomials", "[LSolutionBoxes$Polynomial;", true)
  | 2 => ("SolutionBoxes", "list", "LSolutionBoxes$TakenList;", true)
  | 3 => ("SolutionBoxes", "freeLetters", "[I", true)
  | 4 => ("SolutionBoxes", "given", "I", false)
  | 5 => ("SolutionBoxes", "taken", "I", false)
  | 6 => ("SolutionBoxes", "freeCount", "I", false)
  | 7 => ("SolutionBoxes", "answered", "Z", false)
  | 8 => ("SolutionBoxes", "answer", "I", false)
  | _ => ("SolutionBoxes", "solver", "LSolutionBoxes$Solver;", false)
def t_B : Nat → FieldType := fun k => match k with
  | 0 => .int
  | 1 => .array (.object "SolutionBoxes$Polynomial")
  | 2 => .object "SolutionBoxes$TakenList"
  | 3 => .array .int
  | 4 => .int
  | 5 => .int
  | 6 => .int
  | 7 => .boolean
  | 8 => .int
  | _ => .object "SolutionBoxes$Solver"
theorem n_B : ∀ a, a < 10 → ∀ b, b < 10 → a ≠ b → (F_B a).2.1 ≠ (F_B b).2.1 := by decide +kernel
theorem t_B_ok : ∀ k, k < 10 → parseFieldDescriptor (F_B k).2.2.1 = some (t_B k) := by decide +kernel
theorem i_B : ∀ w ∈ u_ws R_B F_B 10, w ∈ gw := by
  intro w hw
  obtain ⟨k, hk, rfl⟩ := List.mem_map.mp hw
  have hk := List.mem_range.mp hk
  match k, hk with
  | 0, _ => exact q_92
  | 1, _ => exact q_94
  | 2, _ => exact q_96
  | 3, _ => exact q_98
  | 4, _ => exact q_100
  | 5, _ => exact q_102
  | 6, _ => exact q_104
  | 7, _ => exact q_106
  | 8, _ => exact q_108
  | 9, _ => exact q_110
  | k + 10, h => exact absurd h (by omega)
def R_O : String := "SolutionBoxes$OneLetter"
def F_O : u_T := fun k => match k with
  | 0 => ("SolutionBoxes$OneLetter", "numbers", "[I", true)
  | _ => ("SolutionBoxes$OneLetter", "degree", "I", false)
def t_O : Nat → FieldType := fun k => match k with
  | 0 => .array .int
  | _ => .int
theorem n_O : ∀ a, a < 2 → ∀ b, b < 2 → a ≠ b → (F_O a).2.1 ≠ (F_O b).2.1 := by decide +kernel
theorem t_O_ok : ∀ k, k < 2 → parseFieldDescriptor (F_O k).2.2.1 = some (t_O k) := by decide +kernel
theorem i_O : ∀ w ∈ u_ws R_O F_O 2, w ∈ gw := by
  intro w hw
  obtain ⟨k, hk, rfl⟩ := List.mem_map.mp hw
  have hk := List.mem_range.mp hk
  match k, hk with
  | 0, _ => exact q_140
  | 1, _ => exact q_142
  | k + 2, h => exact absurd h (by omega)
def R_P : String := "SolutionBoxes$Point"
def F_P : u_T := fun k => match k with
  | 0 => ("SolutionBoxes$Point", "numbers", "[I", true)
  | _ => ("SolutionBoxes$Point", "powers", "[[I", true)
def t_P : Nat → FieldType := fun k => match k with
  | 0 => .array .int
  | _ => .array (.array .int)
theorem n_P : ∀ a, a < 2 → ∀ b, b < 2 → a ≠ b → (F_P a).2.1 ≠ (F_P b).2.1 := by decide +kernel
theorem t_P_ok : ∀ k, k < 2 → parseFieldDescriptor (F_P k).2.2.1 = some (t_P k) := by decide +kernel
theorem i_P : ∀ w ∈ u_ws R_P F_P 2, w ∈ gw := by
  intro w hw
  obtain ⟨k, hk, rfl⟩ := List.mem_map.mp hw
  have hk := List.mem_range.mp hk
  match k, hk with
  | 0, _ => exact q_170
  | 1, _ => exact q_172
  | k + 2, h => exact absurd h (by omega)
def R_Y : String := "SolutionBoxes$Polynomial"
def F_Y : u_T := fun k => match k with
  | 0 => ("SolutionBoxes$Polynomial", "keys", "[I", false)
  | 1 => ("SolutionBoxes$Polynomial", "numbers", "[I", false)
  | _ => ("SolutionBoxes$Polynomial", "size", "I", false)
def t_Y : Nat → FieldType := fun k => match k with
  | 0 => .array .int
  | 1 => .array .int
  | _ => .int
theorem n_Y : ∀ a, a < 3 → ∀ b, b < 3 → a ≠ b → (F_Y a).2.1 ≠ (F_Y b).2.1 := by decide +kernel
theorem t_Y_ok : ∀ k, k < 3 → parseFieldDescriptor (F_Y k).2.2.1 = some (t_Y k) := by decide +kernel
theorem i_Y : ∀ w ∈ u_ws R_Y F_Y 3, w ∈ gw := by
  intro w hw
  obtain ⟨k, hk, rfl⟩ := List.mem_map.mp hw
  have hk := List.mem_range.mp hk
  match k, hk with
  | 0, _ => exact q_53
  | 1, _ => exact q_55
  | 2, _ => exact q_57
  | k + 3, h => exact absurd h (by omega)
def R_Q : String := "SolutionBoxes$Quotient"
def F_Q : u_T := fun k => match k with
  | 0 => ("SolutionBoxes$Quotient", "letters", "I", true)
  | 1 => ("SolutionBoxes$Quotient", "keys", "[I", true)
  | 2 => ("SolutionBoxes$Quotient", "size", "I", false)
  | 3 => ("SolutionBoxes$Quotient", "products", "[[I", true)
  | 4 => ("SolutionBoxes$Quotient", "lower", "[I", true)
  | 5 => ("SolutionBoxes$Quotient", "lowerLetter", "[I", true)
  | 6 => ("SolutionBoxes$Quotient", "multiples", "[[I", true)
  | 7 => ("SolutionBoxes$Quotient", "factor", "[I", true)
  | 8 => ("SolutionBoxes$Quotient", "next", "[I", true)
  | 9 => ("SolutionBoxes$Quotient", "relation", "[I", true)
  | 10 => ("SolutionBoxes$Quotient", "relations", "LSolutionBoxes$Span;", true)
  | _ => ("SolutionBoxes$Quotient", "ideal", "LSolutionBoxes$Span;", true)
def t_Q : Nat → FieldType := fun k => match k with
  | 0 => .int
  | 1 => .array .int
  | 2 => .int
  | 3 => .array (.array .int)
  | 4 => .array .int
  | 5 => .array .int
  | 6 => .array (.array .int)
  | 7 => .array .int
  | 8 => .array .int
  | 9 => .array .int
  | 10 => .object "SolutionBoxes$Span"
  | _ => .object "SolutionBoxes$Span"
theorem n_Q : ∀ a, a < 12 → ∀ b, b < 12 → a ≠ b → (F_Q a).2.1 ≠ (F_Q b).2.1 := by decide +kernel
theorem t_Q_ok : ∀ k, k < 12 → parseFieldDescriptor (F_Q k).2.2.1 = some (t_Q k) := by decide +kernel
theorem i_Q : ∀ w ∈ u_ws R_Q F_Q 12, w ∈ gw := by
  intro w hw
  obtain ⟨k, hk, rfl⟩ := List.mem_map.mp hw
  have hk := List.mem_range.mp hk
  match k, hk with
  | 0, _ => exact q_233
  | 1, _ => exact q_235
  | 2, _ => exact q_237
  | 3, _ => exact q_239
  | 4, _ => exact q_241
  | 5, _ => exact q_243
  | 6, _ => exact q_245
  | 7, _ => exact q_247
  | 8, _ => exact q_249
  | 9, _ => exact q_251
  | 10, _ => exact q_253
  | 11, _ => exact q_255
  | k + 12, h => exact absurd h (by omega)
def R_D : String := "SolutionBoxes$Reducer"
def F_D : u_T := fun k => match k with
  | 0 => ("SolutionBoxes$Reducer", "row", "[I", true)
  | _ => ("SolutionBoxes$Reducer", "keys", "[I", true)
def t_D : Nat → FieldType := fun k => match k with
  | 0 => .array .int
  | _ => .array .int
theorem n_D : ∀ a, a < 2 → ∀ b, b < 2 → a ≠ b → (F_D a).2.1 ≠ (F_D b).2.1 := by decide +kernel
theorem t_D_ok : ∀ k, k < 2 → parseFieldDescriptor (F_D k).2.2.1 = some (t_D k) := by decide +kernel
theorem i_D : ∀ w ∈ u_ws R_D F_D 2, w ∈ gw := by
  intro w hw
  obtain ⟨k, hk, rfl⟩ := List.mem_map.mp hw
  have hk := List.mem_range.mp hk
  match k, hk with
  | 0, _ => exact q_187
  | 1, _ => exact q_189
  | k + 2, h => exact absurd h (by omega)
def R_Z : String := "SolutionBoxes$Roots"
def F_Z : u_T := fun k => match k with
  | 0 => ("SolutionBoxes$Roots", "factors", "[LSolutionBoxes$OneLetter;", true)
  | 1 => ("SolutionBoxes$Roots", "factorCount", "I", false)
  | 2 => ("SolutionBoxes$Roots", "one", "LSolutionBoxes$OneLetter;", true)
  | _ => ("SolutionBoxes$Roots", "other", "LSolutionBoxes$OneLetter;", true)
def t_Z : Nat → FieldType := fun k => match k with
  | 0 => .array (.object "SolutionBoxes$OneLetter")
  | 1 => .int
  | 2 => .object "SolutionBoxes$OneLetter"
  | _ => .object "SolutionBoxes$OneLetter"
theorem n_Z : ∀ a, a < 4 → ∀ b, b < 4 → a ≠ b → (F_Z a).2.1 ≠ (F_Z b).2.1 := by decide +kernel
theorem t_Z_ok : ∀ k, k < 4 → parseFieldDescriptor (F_Z k).2.2.1 = some (t_Z k) := by decide +kernel
theorem i_Z : ∀ w ∈ u_ws R_Z F_Z 4, w ∈ gw := by
  intro w hw
  obtain ⟨k, hk, rfl⟩ := List.mem_map.mp hw
  have hk := List.mem_range.mp hk
  match k, hk with
  | 0, _ => exact q_149
  | 1, _ => exact q_151
  | 2, _ => exact q_153
  | 3, _ => exact q_155
  | k + 4, h => exact absurd h (by omega)
def R_V : String := "SolutionBoxes$Solver"
def F_V : u_T := fun k => match k with
  | 0 => ("SolutionBoxes$Solver", "letters", "I", true)
  | 1 => ("SolutionBoxes$Solver", "reducer", "LSolutionBoxes$Reducer;", true)
  | 2 => ("SolutionBoxes$Solver", "quotient", "LSolutionBoxes$Quotient;", true)
  | 3 => ("SolutionBoxes$Solver", "finder", "LSolutionBoxes$Roots;", true)
  | 4 => ("SolutionBoxes$Solver", "least", "[LSolutionBoxes$OneLetter;", true)
  | 5 => ("SolutionBoxes$Solver", "roots", "[[I", true)
  | 6 => ("SolutionBoxes$Solver", "rootCounts", "[I", true)
  | 7 => ("SolutionBoxes$Solver", "zeros", "[[I", true)
  | 8 => ("SolutionBoxes$Solver", "multiplicities", "[I", true)
  | 9 => ("SolutionBoxes$Solver", "zeroCount", "I", false)
  | _ => ("SolutionBoxes$Solver", "point", "LSolutionBoxes$Point;", true)
def t_V : Nat → FieldType := fun k => match k with
  | 0 => .int
  | 1 => .object "SolutionBoxes$Reducer"
  | 2 => .object "SolutionBoxes$Quotient"
  | 3 => .object "SolutionBoxes$Roots"
  | 4 => .array (.object "SolutionBoxes$OneLetter")
  | 5 => .array (.array .int)
  | 6 => .array .int
  | 7 => .array (.array .int)
  | 8 => .array .int
  | 9 => .int
  | _ => .object "SolutionBoxes$Point"
theorem n_V : ∀ a, a < 11 → ∀ b, b < 11 → a ≠ b → (F_V a).2.1 ≠ (F_V b).2.1 := by decide +kernel
theorem t_V_ok : ∀ k, k < 11 → parseFieldDescriptor (F_V k).2.2.1 = some (t_V k) := by decide +kernel
theorem i_V : ∀ w ∈ u_ws R_V F_V 11, w ∈ gw := by
  intro w hw
  obtain ⟨k, hk, rfl⟩ := List.mem_map.mp hw
  have hk := List.mem_range.mp hk
  match k, hk with
  | 0, _ => exact q_276
  | 1, _ => exact q_278
  | 2, _ => exact q_280
  | 3, _ => exact q_282
  | 4, _ => exact q_284
  | 5, _ => exact q_286
  | 6, _ => exact q_288
  | 7, _ => exact q_290
  | 8, _ => exact q_292
  | 9, _ => exact q_294
  | 10, _ => exact q_296
  | k + 11, h => exact absurd h (by omega)
def R_N : String := "SolutionBoxes$Span"
def F_N : u_T := fun k => match k with
  | 0 => ("SolutionBoxes$Span", "rows", "[[I", true)
  | 1 => ("SolutionBoxes$Span", "pivots", "[I", true)
  | _ => ("SolutionBoxes$Span", "size", "I", false)
def t_N : Nat → FieldType := fun k => match k with
  | 0 => .array (.array .int)
  | 1 => .array .int
  | _ => .int
theorem n_N : ∀ a, a < 3 → ∀ b, b < 3 → a ≠ b → (F_N a).2.1 ≠ (F_N b).2.1 := by decide +kernel
theorem t_N_ok : ∀ k, k < 3 → parseFieldDescriptor (F_N k).2.2.1 = some (t_N k) := by decide +kernel
theorem i_N : ∀ w ∈ u_ws R_N F_N 3, w ∈ gw := by
  intro w hw
  obtain ⟨k, hk, rfl⟩ := List.mem_map.mp hw
  have hk := List.mem_range.mp hk
  match k, hk with
  | 0, _ => exact q_210
  | 1, _ => exact q_212
  | 2, _ => exact q_214
  | k + 3, h => exact absurd h (by omega)
def R_K : String := "SolutionBoxes$TakenList"
def F_K : u_T := fun k => match k with
  | 0 => ("SolutionBoxes$TakenList", "members", "[LSolutionBoxes$Polynomial;", true)
  | 1 => ("SolutionBoxes$TakenList", "heads", "[I", true)
  | _ => ("SolutionBoxes$TakenList", "size", "I", false)
def t_K : Nat → FieldType := fun k => match k with
  | 0 => .array (.object "SolutionBoxes$Polynomial")
  | 1 => .array .int
  | _ => .int
theorem n_K : ∀ a, a < 3 → ∀ b, b < 3 → a ≠ b → (F_K a).2.1 ≠ (F_K b).2.1 := by decide +kernel
theorem t_K_ok : ∀ k, k < 3 → parseFieldDescriptor (F_K k).2.2.1 = some (t_K k) := by decide +kernel
theorem i_K : ∀ w ∈ u_ws R_K F_K 3, w ∈ gw := by
  intro w hw
  obtain ⟨k, hk, rfl⟩ := List.mem_map.mp hw
  have hk := List.mem_range.mp hk
  match k, hk with
  | 0, _ => exact q_68
  | 1, _ => exact q_70
  | 2, _ => exact q_72
  | k + 3, h => exact absurd h (by omega)
def R_M : String := "SolutionBoxesModel"
def F_M : u_T := fun k => match k with
  | 0 => ("SolutionBoxesModel", "letters", "I", true)
  | 1 => ("SolutionBoxesModel", "given", "I", false)
  | 2 => ("SolutionBoxesModel", "taken", "I", false)
  | 3 => ("SolutionBoxesModel", "thrown", "I", false)
  | 4 => ("SolutionBoxesModel", "poly", "[I", true)
  | 5 => ("SolutionBoxesModel", "list", "I", false)
  | 6 => ("SolutionBoxesModel", "terms", "[I", true)
  | 7 => ("SolutionBoxesModel", "termPower", "[I", true)
  | 8 => ("SolutionBoxesModel", "termNumber", "[I", true)
  | 9 => ("SolutionBoxesModel", "head", "[I", true)
  | 10 => ("SolutionBoxesModel", "headInverse", "[I", true)
  | 11 => ("SolutionBoxesModel", "cube", "[I", true)
  | 12 => ("SolutionBoxesModel", "known", "Z", false)
  | 13 => ("SolutionBoxesModel", "asked", "Z", false)
  | 14 => ("SolutionBoxesModel", "size", "I", false)
  | 15 => ("SolutionBoxesModel", "left", "[I", true)
  | 16 => ("SolutionBoxesModel", "table", "[I", true)
  | 17 => ("SolutionBoxesModel", "leastDegree", "[I", true)
  | 18 => ("SolutionBoxesModel", "least", "[I", true)
  | 19 => ("SolutionBoxesModel", "rootMany", "[I", true)
  | 20 => ("SolutionBoxesModel", "root", "[I", true)
  | 21 => ("SolutionBoxesModel", "zeros", "I", false)
  | 22 => ("SolutionBoxesModel", "zero", "[I", true)
  | 23 => ("SolutionBoxesModel", "often", "[I", true)
  | 24 => ("SolutionBoxesModel", "isFree", "[Z", true)
  | 25 => ("SolutionBoxesModel", "vector", "[I", true)
  | 26 => ("SolutionBoxesModel", "other", "[I", true)
  | 27 => ("SolutionBoxesModel", "rows", "[I", true)
  | 28 => ("SolutionBoxesModel", "pivot", "[I", true)
  | 29 => ("SolutionBoxesModel", "square", "[I", true)
  | _ => ("SolutionBoxesModel", "result", "[I", true)
def t_M : Nat → FieldType := fun k => match k with
  | 0 => .int
  | 1 => .int
  | 2 => .int
  | 3 => .int
  | 4 => .array .int
  | 5 => .int
  | 6 => .array .int
  | 7 => .array .int
  | 8 => .array .int
  | 9 => .array .int
  | 10 => .array .int
  | 11 => .array .int
  | 12 => .boolean
  | 13 => .boolean
  | 14 => .int
  | 15 => .array .int
  | 16 => .array .int
  | 17 => .array .int
  | 18 => .array .int
  | 19 => .array .int
  | 20 => .array .int
  | 21 => .int
  | 22 => .array .int
  | 23 => .array .int
  | 24 => .array .boolean
  | 25 => .array .int
  | 26 => .array .int
  | 27 => .array .int
  | 28 => .array .int
  | 29 => .array .int
  | _ => .array .int
theorem n_M : ∀ a, a < 31 → ∀ b, b < 31 → a ≠ b → (F_M a).2.1 ≠ (F_M b).2.1 := by decide +kernel
theorem t_M_ok : ∀ k, k < 31 → parseFieldDescriptor (F_M k).2.2.1 = some (t_M k) := by decide +kernel
theorem i_M : ∀ w ∈ u_ws R_M F_M 31, w ∈ gw := by
  intro w hw
  obtain ⟨k, hk, rfl⟩ := List.mem_map.mp hw
  have hk := List.mem_range.mp hk
  match k, hk with
  | 0, _ => exact q_835
  | 1, _ => exact q_837
  | 2, _ => exact q_839
  | 3, _ => exact q_841
  | 4, _ => exact q_843
  | 5, _ => exact q_845
  | 6, _ => exact q_847
  | 7, _ => exact q_849
  | 8, _ => exact q_851
  | 9, _ => exact q_853
  | 10, _ => exact q_855
  | 11, _ => exact q_857
  | 12, _ => exact q_859
  | 13, _ => exact q_861
  | 14, _ => exact q_863
  | 15, _ => exact q_865
  | 16, _ => exact q_867
  | 17, _ => exact q_869
  | 18, _ => exact q_871
  | 19, _ => exact q_873
  | 20, _ => exact q_875
  | 21, _ => exact q_877
  | 22, _ => exact q_879
  | 23, _ => exact q_881
  | 24, _ => exact q_883
  | 25, _ => exact q_885
  | 26, _ => exact q_887
  | 27, _ => exact q_889
  | 28, _ => exact q_891
  | 29, _ => exact q_893
  | 30, _ => exact q_895
  | k + 31, h => exact absurd h (by omega)
def R_W : String := "SolutionBoxes$Power"
def R_L : String := "SolutionBoxesLaw"
def R_A : String := "java/util/Arrays"
def R_X : String := "java/lang/Math"
abbrev classes : List vw_C := [(R_B, F_B, 10), (R_O, F_O, 2), (R_P, F_P, 2), (R_Y, F_Y, 3), (R_Q, F_Q, 12), (R_D, F_D, 2), (R_Z, F_Z, 4), (R_V, F_V, 11), (R_N, F_N, 3), (R_K, F_K, 3), (R_M, F_M, 31)]
abbrev b_B_init : ByteArray := prog_1_method_1_code
def y_B_init : MethodName := ⟨R_B, "<init>", "(I)V"⟩
abbrev w_B_init : List Cond := wd y_B_init b_B_init 3 (Option.none : Option Jvm.ClassFile.FieldType)
abbrev b_K_init : ByteArray := prog_11_method_1_code
def y_K_init : MethodName := ⟨R_K, "<init>", "()V"⟩
abbrev w_K_init : List Cond := wd y_K_init b_K_init 2 (Option.none : Option Jvm.ClassFile.FieldType)
abbrev b_Y_init : ByteArray := prog_4_method_1_code
def y_Y_init : MethodName := ⟨R_Y, "<init>", "()V"⟩
abbrev w_Y_init : List Cond := wd y_Y_init b_Y_init 1 (Option.none : Option Jvm.ClassFile.FieldType)
abbrev b_X_min : ByteArray := prog_20_method_69_code
def y_X_min : MethodName := ⟨R_X, "min", "(II)I"⟩
abbrev w_X_min : List Cond := wd y_X_min b_X_min 2 ((Option.some Jvm.ClassFile.FieldType.int))
abbrev b_X_max : ByteArray := prog_20_method_65_code
def y_X_max : MethodName := ⟨R_X, "max", "(II)I"⟩
abbrev w_X_max : List Cond := wd y_X_max b_X_max 2 ((Option.some Jvm.ClassFile.FieldType.int))
abbrev b_B_run : ByteArray := prog_1_method_5_code
def y_B_run : MethodName := ⟨R_B, "run", "()I"⟩
abbrev w_B_run : List Cond := wd y_B_run b_B_run 1 ((Option.some Jvm.ClassFile.FieldType.int))
abbrev b_V_init : ByteArray := prog_9_method_1_code
def y_V_init : MethodName := ⟨R_V, "<init>", "(I)V"⟩
abbrev w_V_init : List Cond := wd y_V_init b_V_init 3 (Option.none : Option Jvm.ClassFile.FieldType)
abbrev b_Z_init : ByteArray := prog_8_method_1_code
def y_Z_init : MethodName := ⟨R_Z, "<init>", "()V"⟩
abbrev w_Z_init : List Cond := wd y_Z_init b_Z_init 2 (Option.none : Option Jvm.ClassFile.FieldType)
abbrev b_O_init : ByteArray := prog_2_method_1_code
def y_O_init : MethodName := ⟨R_O, "<init>", "()V"⟩
abbrev w_O_init : List Cond := wd y_O_init b_O_init 1 (Option.none : Option Jvm.ClassFile.FieldType)
abbrev b_P_init : ByteArray := prog_3_method_1_code
def y_P_init : MethodName := ⟨R_P, "<init>", "()V"⟩
abbrev w_P_init : List Cond := wd y_P_init b_P_init 1 (Option.none : Option Jvm.ClassFile.FieldType)
abbrev b_D_init : ByteArray := prog_7_method_1_code
def y_D_init : MethodName := ⟨R_D, "<init>", "(I)V"⟩
abbrev w_D_init : List Cond := wd y_D_init b_D_init 8 (Option.none : Option Jvm.ClassFile.FieldType)
abbrev b_W_key : ByteArray := prog_5_method_2_code
def y_W_key : MethodName := ⟨R_W, "key", "(III)I"⟩
abbrev w_W_key : List Cond := wd y_W_key b_W_key 3 ((Option.some Jvm.ClassFile.FieldType.int))
abbrev b_Q_init : ByteArray := prog_6_method_1_code
def y_Q_init : MethodName := ⟨R_Q, "<init>", "(I)V"⟩
abbrev w_Q_init : List Cond := wd y_Q_init b_Q_init 2 (Option.none : Option Jvm.ClassFile.FieldType)
abbrev b_N_init : ByteArray := prog_10_method_1_code
def y_N_init : MethodName := ⟨R_N, "<init>", "(II)V"⟩
abbrev w_N_init : List Cond := wd y_N_init b_N_init 3 (Option.none : Option Jvm.ClassFile.FieldType)
abbrev b_B_noteFreeLetters : ByteArray := prog_1_method_19_code
def y_B_noteFreeLetters : MethodName := ⟨R_B, "noteFreeLetters", "()V"⟩
abbrev w_B_noteFreeLetters : List Cond := wd y_B_noteFreeLetters b_B_noteFreeLetters 2 (Option.none : Option Jvm.ClassFile.FieldType)
abbrev b_K_bounds : ByteArray := prog_11_method_4_code
def y_K_bounds : MethodName := ⟨R_K, "bounds", "(I)Z"⟩
abbrev w_K_bounds : List Cond := wd y_K_bounds b_K_bounds 3 ((Option.some Jvm.ClassFile.FieldType.boolean))
abbrev b_W_exponent : ByteArray := prog_5_method_4_code
def y_W_exponent : MethodName := ⟨R_W, "exponent", "(II)I"⟩
abbrev w_W_exponent : List Cond := wd y_W_exponent b_W_exponent 4 ((Option.some Jvm.ClassFile.FieldType.int))
abbrev b_W_degree : ByteArray := prog_5_method_3_code
def y_W_degree : MethodName := ⟨R_W, "degree", "(I)I"⟩
abbrev w_W_degree : List Cond := wd y_W_degree b_W_degree 1 ((Option.some Jvm.ClassFile.FieldType.int))
abbrev b_V_solve : ByteArray := prog_9_method_2_code
def y_V_solve : MethodName := ⟨R_V, "solve", "(LSolutionBoxes$TakenList;)I"⟩
abbrev w_V_solve : List Cond := wd y_V_solve b_V_solve 3 ((Option.some Jvm.ClassFile.FieldType.int))
abbrev b_D_isBasis : ByteArray := prog_7_method_2_code
def y_D_isBasis : MethodName := ⟨R_D, "isBasis", "(LSolutionBoxes$TakenList;)Z"⟩
abbrev w_D_isBasis : List Cond := wd y_D_isBasis b_D_isBasis 4 ((Option.some Jvm.ClassFile.FieldType.boolean))
abbrev b_W_shareLetter : ByteArray := prog_5_method_9_code
def y_W_shareLetter : MethodName := ⟨R_W, "shareLetter", "(II)Z"⟩
abbrev w_W_shareLetter : List Cond := wd y_W_shareLetter b_W_shareLetter 2 ((Option.some Jvm.ClassFile.FieldType.boolean))
abbrev b_W_leastMultiple : ByteArray := prog_5_method_8_code
def y_W_leastMultiple : MethodName := ⟨R_W, "leastMultiple", "(II)I"⟩
abbrev w_W_leastMultiple : List Cond := wd y_W_leastMultiple b_W_leastMultiple 2 ((Option.some Jvm.ClassFile.FieldType.int))
abbrev b_D_pairVanishes : ByteArray := prog_7_method_3_code
def y_D_pairVanishes : MethodName := ⟨R_D, "pairVanishes", "(LSolutionBoxes$TakenList;II)Z"⟩
abbrev w_D_pairVanishes : List Cond := wd y_D_pairVanishes b_D_pairVanishes 7 ((Option.some Jvm.ClassFile.FieldType.boolean))
abbrev b_D_addMultiple : ByteArray := prog_7_method_6_code
def y_D_addMultiple : MethodName := ⟨R_D, "addMultiple", "(LSolutionBoxes$Polynomial;II)V"⟩
abbrev w_D_addMultiple : List Cond := wd y_D_addMultiple b_D_addMultiple 6 (Option.none : Option Jvm.ClassFile.FieldType)
abbrev b_W_place : ByteArray := prog_5_method_11_code
def y_W_place : MethodName := ⟨R_W, "place", "(I)I"⟩
abbrev w_W_place : List Cond := wd y_W_place b_W_place 4 ((Option.some Jvm.ClassFile.FieldType.int))
abbrev b_D_reduce : ByteArray := prog_7_method_5_code
def y_D_reduce : MethodName := ⟨R_D, "reduce", "(LSolutionBoxes$TakenList;IZ)Z"⟩
abbrev w_D_reduce : List Cond := wd y_D_reduce b_D_reduce 8 ((Option.some Jvm.ClassFile.FieldType.boolean))
abbrev b_K_firstDividing : ByteArray := prog_11_method_3_code
def y_K_firstDividing : MethodName := ⟨R_K, "firstDividing", "(I)I"⟩
abbrev w_K_firstDividing : List Cond := wd y_K_firstDividing b_K_firstDividing 3 ((Option.some Jvm.ClassFile.FieldType.int))
abbrev b_W_divides : ByteArray := prog_5_method_7_code
def y_W_divides : MethodName := ⟨R_W, "divides", "(II)Z"⟩
abbrev w_W_divides : List Cond := wd y_W_divides b_W_divides 5 ((Option.some Jvm.ClassFile.FieldType.boolean))
abbrev b_D_wipe : ByteArray := prog_7_method_7_code
def y_D_wipe : MethodName := ⟨R_D, "wipe", "(I)V"⟩
abbrev w_D_wipe : List Cond := wd y_D_wipe b_D_wipe 3 (Option.none : Option Jvm.ClassFile.FieldType)
abbrev b_K_isFinite : ByteArray := prog_11_method_5_code
def y_K_isFinite : MethodName := ⟨R_K, "isFinite", "(I)Z"⟩
abbrev w_K_isFinite : List Cond := wd y_K_isFinite b_K_isFinite 3 ((Option.some Jvm.ClassFile.FieldType.boolean))
abbrev b_Q_collect : ByteArray := prog_6_method_2_code
def y_Q_collect : MethodName := ⟨R_Q, "collect", "(LSolutionBoxes$TakenList;LSolutionBoxes$Reducer;)Z"⟩
abbrev w_Q_collect : List Cond := wd y_Q_collect b_Q_collect 6 ((Option.some Jvm.ClassFile.FieldType.boolean))
abbrev b_W_isOf : ByteArray := prog_5_method_10_code
def y_W_isOf : MethodName := ⟨R_W, "isOf", "(II)Z"⟩
abbrev w_W_isOf : List Cond := wd y_W_isOf b_W_isOf 2 ((Option.some Jvm.ClassFile.FieldType.boolean))
abbrev b_Q_findProducts : ByteArray := prog_6_method_3_code
def y_Q_findProducts : MethodName := ⟨R_Q, "findProducts", "(LSolutionBoxes$TakenList;LSolutionBoxes$Reducer;)V"⟩
abbrev w_Q_findProducts : List Cond := wd y_Q_findProducts b_Q_findProducts 6 (Option.none : Option Jvm.ClassFile.FieldType)
abbrev b_D_writeReduced : ByteArray := prog_7_method_4_code
def y_D_writeReduced : MethodName := ⟨R_D, "writeReduced", "(LSolutionBoxes$TakenList;ILSolutionBoxes$Quotient;[I)V"⟩
abbrev w_D_writeReduced : List Cond := wd y_D_writeReduced b_D_writeReduced 8 (Option.none : Option Jvm.ClassFile.FieldType)
abbrev b_Q_noteLower : ByteArray := prog_6_method_4_code
def y_Q_noteLower : MethodName := ⟨R_Q, "noteLower", "(III)V"⟩
abbrev w_Q_noteLower : List Cond := wd y_Q_noteLower b_Q_noteLower 5 (Option.none : Option Jvm.ClassFile.FieldType)
abbrev b_Q_findLeast : ByteArray := prog_6_method_7_code
def y_Q_findLeast : MethodName := ⟨R_Q, "findLeast", "(ILSolutionBoxes$OneLetter;)V"⟩
abbrev w_Q_findLeast : List Cond := wd y_Q_findLeast b_Q_findLeast 4 (Option.none : Option Jvm.ClassFile.FieldType)
abbrev b_Q_setOne : ByteArray := prog_6_method_6_code
def y_Q_setOne : MethodName := ⟨R_Q, "setOne", "([I)V"⟩
abbrev w_Q_setOne : List Cond := wd y_Q_setOne b_Q_setOne 2 (Option.none : Option Jvm.ClassFile.FieldType)
abbrev b_A_fill : ByteArray := prog_25_method_103_code
def y_A_fill : MethodName := ⟨R_A, "fill", "([II)V"⟩
abbrev w_A_fill : List Cond := wd y_A_fill b_A_fill 4 (Option.none : Option Jvm.ClassFile.FieldType)
abbrev b_N_add : ByteArray := prog_10_method_2_code
def y_N_add : MethodName := ⟨R_N, "add", "([II)Z"⟩
abbrev w_N_add : List Cond := wd y_N_add b_N_add 4 ((Option.some Jvm.ClassFile.FieldType.boolean))
abbrev b_N_takeOff : ByteArray := prog_10_method_3_code
def y_N_takeOff : MethodName := ⟨R_N, "takeOff", "([II)V"⟩
abbrev w_N_takeOff : List Cond := wd y_N_takeOff b_N_takeOff 6 (Option.none : Option Jvm.ClassFile.FieldType)
abbrev b_N_keep : ByteArray := prog_10_method_4_code
def y_N_keep : MethodName := ⟨R_N, "keep", "([II)V"⟩
abbrev w_N_keep : List Cond := wd y_N_keep b_N_keep 6 (Option.none : Option Jvm.ClassFile.FieldType)
abbrev b_B_inverse : ByteArray := prog_1_method_21_code
def y_B_inverse : MethodName := ⟨R_B, "inverse", "(I)I"⟩
abbrev w_B_inverse : List Cond := wd y_B_inverse b_B_inverse 4 ((Option.some Jvm.ClassFile.FieldType.int))
abbrev b_O_assign : ByteArray := prog_2_method_3_code
def y_O_assign : MethodName := ⟨R_O, "assign", "([III)V"⟩
abbrev w_O_assign : List Cond := wd y_O_assign b_O_assign 5 (Option.none : Option Jvm.ClassFile.FieldType)
abbrev b_O_settle : ByteArray := prog_2_method_5_code
def y_O_settle : MethodName := ⟨R_O, "settle", "(I)V"⟩
abbrev w_O_settle : List Cond := wd y_O_settle b_O_settle 2 (Option.none : Option Jvm.ClassFile.FieldType)
abbrev b_Q_multiply : ByteArray := prog_6_method_5_code
def y_Q_multiply : MethodName := ⟨R_Q, "multiply", "(I[I[I)V"⟩
abbrev w_Q_multiply : List Cond := wd y_Q_multiply b_Q_multiply 8 (Option.none : Option Jvm.ClassFile.FieldType)
abbrev b_Z_find : ByteArray := prog_8_method_2_code
def y_Z_find : MethodName := ⟨R_Z, "find", "(LSolutionBoxes$OneLetter;[I)I"⟩
abbrev w_Z_find : List Cond := wd y_Z_find b_Z_find 7 ((Option.some Jvm.ClassFile.FieldType.int))
abbrev b_O_becomePower : ByteArray := prog_2_method_11_code
def y_O_becomePower : MethodName := ⟨R_O, "becomePower", "(IILSolutionBoxes$OneLetter;)V"⟩
abbrev w_O_becomePower : List Cond := wd y_O_becomePower b_O_becomePower 5 (Option.none : Option Jvm.ClassFile.FieldType)
abbrev b_O_square : ByteArray := prog_2_method_12_code
def y_O_square : MethodName := ⟨R_O, "square", "()V"⟩
abbrev w_O_square : List Cond := wd y_O_square b_O_square 5 (Option.none : Option Jvm.ClassFile.FieldType)
abbrev b_O_becomeRemainder : ByteArray := prog_2_method_9_code
def y_O_becomeRemainder : MethodName := ⟨R_O, "becomeRemainder", "(LSolutionBoxes$OneLetter;)V"⟩
abbrev w_O_becomeRemainder : List Cond := wd y_O_becomeRemainder b_O_becomeRemainder 3 (Option.none : Option Jvm.ClassFile.FieldType)
abbrev b_O_divide : ByteArray := prog_2_method_8_code
def y_O_divide : MethodName := ⟨R_O, "divide", "(LSolutionBoxes$OneLetter;)V"⟩
abbrev w_O_divide : List Cond := wd y_O_divide b_O_divide 5 (Option.none : Option Jvm.ClassFile.FieldType)
abbrev b_O_multiplyByShifted : ByteArray := prog_2_method_13_code
def y_O_multiplyByShifted : MethodName := ⟨R_O, "multiplyByShifted", "(I)V"⟩
abbrev w_O_multiplyByShifted : List Cond := wd y_O_multiplyByShifted b_O_multiplyByShifted 3 (Option.none : Option Jvm.ClassFile.FieldType)
abbrev b_O_addTo : ByteArray := prog_2_method_6_code
def y_O_addTo : MethodName := ⟨R_O, "addTo", "(II)V"⟩
abbrev w_O_addTo : List Cond := wd y_O_addTo b_O_addTo 3 (Option.none : Option Jvm.ClassFile.FieldType)
abbrev b_O_copy : ByteArray := prog_2_method_4_code
def y_O_copy : MethodName := ⟨R_O, "copy", "(LSolutionBoxes$OneLetter;)V"⟩
abbrev w_O_copy : List Cond := wd y_O_copy b_O_copy 2 (Option.none : Option Jvm.ClassFile.FieldType)
abbrev b_Z_commonDivisor : ByteArray := prog_8_method_4_code
def y_Z_commonDivisor : MethodName := ⟨R_Z, "commonDivisor", "(LSolutionBoxes$OneLetter;LSolutionBoxes$OneLetter;)LSolutionBoxes$OneLetter;"⟩
abbrev w_Z_commonDivisor : List Cond := wd y_Z_commonDivisor b_Z_commonDivisor 6 ((Option.some (Jvm.ClassFile.FieldType.object "SolutionBoxes$OneLetter")))
abbrev b_O_makeMonic : ByteArray := prog_2_method_7_code
def y_O_makeMonic : MethodName := ⟨R_O, "makeMonic", "()V"⟩
abbrev w_O_makeMonic : List Cond := wd y_O_makeMonic b_O_makeMonic 3 (Option.none : Option Jvm.ClassFile.FieldType)
abbrev b_Z_split : ByteArray := prog_8_method_3_code
def y_Z_split : MethodName := ⟨R_Z, "split", "(II)V"⟩
abbrev w_Z_split : List Cond := wd y_Z_split b_Z_split 5 (Option.none : Option Jvm.ClassFile.FieldType)
abbrev b_O_becomeQuotient : ByteArray := prog_2_method_10_code
def y_O_becomeQuotient : MethodName := ⟨R_O, "becomeQuotient", "(LSolutionBoxes$OneLetter;)V"⟩
abbrev w_O_becomeQuotient : List Cond := wd y_O_becomeQuotient b_O_becomeQuotient 4 (Option.none : Option Jvm.ClassFile.FieldType)
abbrev b_Z_writeRoots : ByteArray := prog_8_method_5_code
def y_Z_writeRoots : MethodName := ⟨R_Z, "writeRoots", "([I)I"⟩
abbrev w_Z_writeRoots : List Cond := wd y_Z_writeRoots b_Z_writeRoots 6 ((Option.some Jvm.ClassFile.FieldType.int))
abbrev b_V_findZeros : ByteArray := prog_9_method_3_code
def y_V_findZeros : MethodName := ⟨R_V, "findZeros", "(LSolutionBoxes$TakenList;)V"⟩
abbrev w_V_findZeros : List Cond := wd y_V_findZeros b_V_findZeros 5 (Option.none : Option Jvm.ClassFile.FieldType)
abbrev b_P_move : ByteArray := prog_3_method_2_code
def y_P_move : MethodName := ⟨R_P, "move", "(II)V"⟩
abbrev w_P_move : List Cond := wd y_P_move b_P_move 4 (Option.none : Option Jvm.ClassFile.FieldType)
abbrev b_K_vanishesAt : ByteArray := prog_11_method_6_code
def y_K_vanishesAt : MethodName := ⟨R_K, "vanishesAt", "(LSolutionBoxes$Point;)Z"⟩
abbrev w_K_vanishesAt : List Cond := wd y_K_vanishesAt b_K_vanishesAt 3 ((Option.some Jvm.ClassFile.FieldType.boolean))
abbrev b_Y_valueAt : ByteArray := prog_4_method_7_code
def y_Y_valueAt : MethodName := ⟨R_Y, "valueAt", "(LSolutionBoxes$Point;)I"⟩
abbrev w_Y_valueAt : List Cond := wd y_Y_valueAt b_Y_valueAt 4 ((Option.some Jvm.ClassFile.FieldType.int))
abbrev b_P_powerValue : ByteArray := prog_3_method_4_code
def y_P_powerValue : MethodName := ⟨R_P, "powerValue", "(I)I"⟩
abbrev w_P_powerValue : List Cond := wd y_P_powerValue b_P_powerValue 5 ((Option.some Jvm.ClassFile.FieldType.int))
abbrev b_V_keepZero : ByteArray := prog_9_method_4_code
def y_V_keepZero : MethodName := ⟨R_V, "keepZero", "()V"⟩
abbrev w_V_keepZero : List Cond := wd y_V_keepZero b_V_keepZero 2 (Option.none : Option Jvm.ClassFile.FieldType)
abbrev b_P_number : ByteArray := prog_3_method_3_code
def y_P_number : MethodName := ⟨R_P, "number", "(I)I"⟩
abbrev w_P_number : List Cond := wd y_P_number b_P_number 2 ((Option.some Jvm.ClassFile.FieldType.int))
abbrev b_Q_multiplicityAt : ByteArray := prog_6_method_8_code
def y_Q_multiplicityAt : MethodName := ⟨R_Q, "multiplicityAt", "([I)I"⟩
abbrev w_Q_multiplicityAt : List Cond := wd y_Q_multiplicityAt b_Q_multiplicityAt 5 ((Option.some Jvm.ClassFile.FieldType.int))
abbrev b_Q_addMultiplesOfFactor : ByteArray := prog_6_method_9_code
def y_Q_addMultiplesOfFactor : MethodName := ⟨R_Q, "addMultiplesOfFactor", "()V"⟩
abbrev w_Q_addMultiplesOfFactor : List Cond := wd y_Q_addMultiplesOfFactor b_Q_addMultiplesOfFactor 2 (Option.none : Option Jvm.ClassFile.FieldType)
abbrev b_B_free : ByteArray := prog_1_method_12_code
def y_B_free : MethodName := ⟨R_B, "free", "(I)I"⟩
abbrev w_B_free : List Cond := wd y_B_free b_B_free 2 ((Option.some Jvm.ClassFile.FieldType.int))
abbrev b_B_clear : ByteArray := prog_1_method_13_code
def y_B_clear : MethodName := ⟨R_B, "clear", "()V"⟩
abbrev w_B_clear : List Cond := wd y_B_clear b_B_clear 2 (Option.none : Option Jvm.ClassFile.FieldType)
abbrev b_Y_setZero : ByteArray := prog_4_method_2_code
def y_Y_setZero : MethodName := ⟨R_Y, "setZero", "()V"⟩
abbrev w_Y_setZero : List Cond := wd y_Y_setZero b_Y_setZero 1 (Option.none : Option Jvm.ClassFile.FieldType)
abbrev b_B_count : ByteArray := prog_1_method_14_code
def y_B_count : MethodName := ⟨R_B, "count", "(I)I"⟩
abbrev w_B_count : List Cond := wd y_B_count b_B_count 2 ((Option.some Jvm.ClassFile.FieldType.int))
abbrev b_L_cell : ByteArray := method_2_code
def y_L_cell : MethodName := ⟨R_L, "cell", "([II)I"⟩
abbrev w_L_cell : List Cond := wd y_L_cell b_L_cell 2 ((Option.some Jvm.ClassFile.FieldType.int))
abbrev b_L_poly : ByteArray := method_3_code
def y_L_poly : MethodName := ⟨R_L, "poly", "(LSolutionBoxes;[J)I"⟩
abbrev b_B_poly : ByteArray := prog_1_method_2_code
def y_B_poly : MethodName := ⟨R_B, "poly", "()I"⟩
abbrev w_B_poly : List Cond := wd y_B_poly b_B_poly 1 ((Option.some Jvm.ClassFile.FieldType.int))
abbrev b_L_term : ByteArray := method_4_code
def y_L_term : MethodName := ⟨R_L, "term", "(LSolutionBoxes;IJJI[J)I"⟩
abbrev b_B_term : ByteArray := prog_1_method_3_code
def y_B_term : MethodName := ⟨R_B, "term", "(IJJI)Z"⟩
abbrev w_B_term : List Cond := wd y_B_term b_B_term 10 ((Option.some Jvm.ClassFile.FieldType.boolean))
abbrev b_B_polynomialOf : ByteArray := prog_1_method_15_code
def y_B_polynomialOf : MethodName := ⟨R_B, "polynomialOf", "(I)LSolutionBoxes$Polynomial;"⟩
abbrev w_B_polynomialOf : List Cond := wd y_B_polynomialOf b_B_polynomialOf 2 ((Option.some (Jvm.ClassFile.FieldType.object "SolutionBoxes$Polynomial")))
abbrev b_W_keyOf : ByteArray := prog_5_method_5_code
def y_W_keyOf : MethodName := ⟨R_W, "keyOf", "(II)I"⟩
abbrev w_W_keyOf : List Cond := wd y_W_keyOf b_W_keyOf 6 ((Option.some Jvm.ClassFile.FieldType.int))
abbrev b_B_numberOf : ByteArray := prog_1_method_20_code
def y_B_numberOf : MethodName := ⟨R_B, "numberOf", "(J)I"⟩
abbrev w_B_numberOf : List Cond := wd y_B_numberOf b_B_numberOf 2 ((Option.some Jvm.ClassFile.FieldType.int))
abbrev b_X_floorMod : ByteArray := prog_20_method_52_code
def y_X_floorMod : MethodName := ⟨R_X, "floorMod", "(JJ)J"⟩
abbrev w_X_floorMod : List Cond := wd y_X_floorMod b_X_floorMod 6 ((Option.some Jvm.ClassFile.FieldType.long))
abbrev b_Y_put : ByteArray := prog_4_method_3_code
def y_Y_put : MethodName := ⟨R_Y, "put", "(II)Z"⟩
abbrev w_Y_put : List Cond := wd y_Y_put b_Y_put 6 ((Option.some Jvm.ClassFile.FieldType.boolean))
abbrev b_Y_makeRoom : ByteArray := prog_4_method_4_code
def y_Y_makeRoom : MethodName := ⟨R_Y, "makeRoom", "(I)V"⟩
abbrev w_Y_makeRoom : List Cond := wd y_Y_makeRoom b_Y_makeRoom 3 (Option.none : Option Jvm.ClassFile.FieldType)
abbrev b_A_copyOf : ByteArray := prog_25_method_123_code
def y_A_copyOf : MethodName := ⟨R_A, "copyOf", "([II)[I"⟩
abbrev w_A_copyOf : List Cond := wd y_A_copyOf b_A_copyOf 3 ((Option.some (Jvm.ClassFile.FieldType.array Jvm.ClassFile.FieldType.int)))
abbrev b_Y_closeUp : ByteArray := prog_4_method_5_code
def y_Y_closeUp : MethodName := ⟨R_Y, "closeUp", "(I)V"⟩
abbrev w_Y_closeUp : List Cond := wd y_Y_closeUp b_Y_closeUp 3 (Option.none : Option Jvm.ClassFile.FieldType)
abbrev b_L_take : ByteArray := method_5_code
def y_L_take : MethodName := ⟨R_L, "take", "(LSolutionBoxes;I[J)I"⟩
abbrev b_B_take : ByteArray := prog_1_method_4_code
def y_B_take : MethodName := ⟨R_B, "take", "(I)Z"⟩
abbrev w_B_take : List Cond := wd y_B_take b_B_take 3 ((Option.some Jvm.ClassFile.FieldType.boolean))
abbrev b_K_add : ByteArray := prog_11_method_2_code
def y_K_add : MethodName := ⟨R_K, "add", "(LSolutionBoxes$Polynomial;)V"⟩
abbrev w_K_add : List Cond := wd y_K_add b_K_add 2 (Option.none : Option Jvm.ClassFile.FieldType)
abbrev b_Y_becomeMonic : ByteArray := prog_4_method_6_code
def y_Y_becomeMonic : MethodName := ⟨R_Y, "becomeMonic", "(LSolutionBoxes$Polynomial;)V"⟩
abbrev w_Y_becomeMonic : List Cond := wd y_Y_becomeMonic b_Y_becomeMonic 4 (Option.none : Option Jvm.ClassFile.FieldType)
abbrev b_L_total : ByteArray := method_6_code
def y_L_total : MethodName := ⟨R_L, "total", "(LSolutionBoxes;[J)I"⟩
abbrev b_B_total : ByteArray := prog_1_method_6_code
def y_B_total : MethodName := ⟨R_B, "total", "()I"⟩
abbrev w_B_total : List Cond := wd y_B_total b_B_total 1 ((Option.some Jvm.ClassFile.FieldType.int))
abbrev b_B_known : ByteArray := prog_1_method_17_code
def y_B_known : MethodName := ⟨R_B, "known", "()LSolutionBoxes$Solver;"⟩
abbrev w_B_known : List Cond := wd y_B_known b_B_known 1 ((Option.some (Jvm.ClassFile.FieldType.object "SolutionBoxes$Solver")))
abbrev b_L_left : ByteArray := method_7_code
def y_L_left : MethodName := ⟨R_L, "left", "(LSolutionBoxes;I[J)I"⟩
abbrev b_B_left : ByteArray := prog_1_method_7_code
def y_B_left : MethodName := ⟨R_B, "left", "(I)I"⟩
abbrev w_B_left : List Cond := wd y_B_left b_B_left 3 ((Option.some Jvm.ClassFile.FieldType.int))
abbrev b_W_written : ByteArray := prog_5_method_6_code
def y_W_written : MethodName := ⟨R_W, "written", "(I)I"⟩
abbrev w_W_written : List Cond := wd y_W_written b_W_written 1 ((Option.some Jvm.ClassFile.FieldType.int))
abbrev b_L_at : ByteArray := method_8_code
def y_L_at : MethodName := ⟨R_L, "at", "(LSolutionBoxes;II[J)I"⟩
abbrev b_B_at : ByteArray := prog_1_method_8_code
def y_B_at : MethodName := ⟨R_B, "at", "(II)I"⟩
abbrev w_B_at : List Cond := wd y_B_at b_B_at 4 ((Option.some Jvm.ClassFile.FieldType.int))
abbrev b_B_zeroOf : ByteArray := prog_1_method_18_code
def y_B_zeroOf : MethodName := ⟨R_B, "zeroOf", "(LSolutionBoxes$Solver;I)[I"⟩
abbrev w_B_zeroOf : List Cond := wd y_B_zeroOf b_B_zeroOf 2 ((Option.some (Jvm.ClassFile.FieldType.array Jvm.ClassFile.FieldType.int)))
abbrev b_B_requireLetter : ByteArray := prog_1_method_16_code
def y_B_requireLetter : MethodName := ⟨R_B, "requireLetter", "(I)V"⟩
abbrev w_B_requireLetter : List Cond := wd y_B_requireLetter b_B_requireLetter 2 (Option.none : Option Jvm.ClassFile.FieldType)
abbrev b_L_multiplicity : ByteArray := method_9_code
def y_L_multiplicity : MethodName := ⟨R_L, "multiplicity", "(LSolutionBoxes;I[J)I"⟩
abbrev b_B_multiplicity : ByteArray := prog_1_method_9_code
def y_B_multiplicity : MethodName := ⟨R_B, "multiplicity", "(I)I"⟩
abbrev w_B_multiplicity : List Cond := wd y_B_multiplicity b_B_multiplicity 3 ((Option.some Jvm.ClassFile.FieldType.int))
abbrev b_L_minimal : ByteArray := method_10_code
def y_L_minimal : MethodName := ⟨R_L, "minimal", "(LSolutionBoxes;II[J)I"⟩
abbrev b_B_minimal : ByteArray := prog_1_method_10_code
def y_B_minimal : MethodName := ⟨R_B, "minimal", "(II)I"⟩
abbrev w_B_minimal : List Cond := wd y_B_minimal b_B_minimal 4 ((Option.some Jvm.ClassFile.FieldType.int))
abbrev b_O_numberAt : ByteArray := prog_2_method_2_code
def y_O_numberAt : MethodName := ⟨R_O, "numberAt", "(I)I"⟩
abbrev w_O_numberAt : List Cond := wd y_O_numberAt b_O_numberAt 2 ((Option.some Jvm.ClassFile.FieldType.int))
abbrev b_L_value : ByteArray := method_11_code
def y_L_value : MethodName := ⟨R_L, "value", "(LSolutionBoxes;II[J)I"⟩
abbrev b_B_value : ByteArray := prog_1_method_11_code
def y_B_value : MethodName := ⟨R_B, "value", "(II)I"⟩
abbrev w_B_value : List Cond := wd y_B_value b_B_value 7 ((Option.some Jvm.ClassFile.FieldType.int))
abbrev b_M_init : ByteArray := prog_13_method_1_code
def y_M_init : MethodName := ⟨R_M, "<init>", "(I)V"⟩
abbrev w_M_init : List Cond := wd y_M_init b_M_init 2 (Option.none : Option Jvm.ClassFile.FieldType)
abbrev b_M_thrown : ByteArray := prog_13_method_2_code
def y_M_thrown : MethodName := ⟨R_M, "thrown", "()I"⟩
abbrev w_M_thrown : List Cond := wd y_M_thrown b_M_thrown 1 ((Option.some Jvm.ClassFile.FieldType.int))
abbrev b_M_poly : ByteArray := prog_13_method_9_code
def y_M_poly : MethodName := ⟨R_M, "poly", "()I"⟩
abbrev w_M_poly : List Cond := wd y_M_poly b_M_poly 2 ((Option.some Jvm.ClassFile.FieldType.int))
abbrev b_M_term : ByteArray := prog_13_method_16_code
def y_M_term : MethodName := ⟨R_M, "term", "(IJJI)Z"⟩
abbrev w_M_term : List Cond := wd y_M_term b_M_term 10 ((Option.some Jvm.ClassFile.FieldType.boolean))
abbrev b_M_isPoly : ByteArray := prog_13_method_8_code
def y_M_isPoly : MethodName := ⟨R_M, "isPoly", "(I)Z"⟩
abbrev w_M_isPoly : List Cond := wd y_M_isPoly b_M_isPoly 1 ((Option.some Jvm.ClassFile.FieldType.boolean))
abbrev b_M_isPower : ByteArray := prog_13_method_10_code
def y_M_isPower : MethodName := ⟨R_M, "isPower", "(I)Z"⟩
abbrev w_M_isPower : List Cond := wd y_M_isPower b_M_isPower 3 ((Option.some Jvm.ClassFile.FieldType.boolean))
abbrev b_M_residue : ByteArray := prog_13_method_7_code
def y_M_residue : MethodName := ⟨R_M, "residue", "(J)I"⟩
abbrev w_M_residue : List Cond := wd y_M_residue b_M_residue 3 ((Option.some Jvm.ClassFile.FieldType.int))
abbrev b_M_inverse : ByteArray := prog_13_method_6_code
def y_M_inverse : MethodName := ⟨R_M, "inverse", "(I)I"⟩
abbrev w_M_inverse : List Cond := wd y_M_inverse b_M_inverse 4 ((Option.some Jvm.ClassFile.FieldType.int))
abbrev b_M_times : ByteArray := prog_13_method_3_code
def y_M_times : MethodName := ⟨R_M, "times", "(II)I"⟩
abbrev w_M_times : List Cond := wd y_M_times b_M_times 2 ((Option.some Jvm.ClassFile.FieldType.int))
abbrev b_M_placeOf : ByteArray := prog_13_method_11_code
def y_M_placeOf : MethodName := ⟨R_M, "placeOf", "(I)I"⟩
abbrev w_M_placeOf : List Cond := wd y_M_placeOf b_M_placeOf 1 ((Option.some Jvm.ClassFile.FieldType.int))
abbrev b_M_take : ByteArray := prog_13_method_17_code
def y_M_take : MethodName := ⟨R_M, "take", "(I)Z"⟩
abbrev w_M_take : List Cond := wd y_M_take b_M_take 6 ((Option.some Jvm.ClassFile.FieldType.boolean))
abbrev b_M_isAbove : ByteArray := prog_13_method_15_code
def y_M_isAbove : MethodName := ⟨R_M, "isAbove", "(II)Z"⟩
abbrev w_M_isAbove : List Cond := wd y_M_isAbove b_M_isAbove 3 ((Option.some Jvm.ClassFile.FieldType.boolean))
abbrev b_M_degree : ByteArray := prog_13_method_14_code
def y_M_degree : MethodName := ⟨R_M, "degree", "(I)I"⟩
abbrev w_M_degree : List Cond := wd y_M_degree b_M_degree 1 ((Option.some Jvm.ClassFile.FieldType.int))
abbrev b_M_expo : ByteArray := prog_13_method_13_code
def y_M_expo : MethodName := ⟨R_M, "expo", "(II)I"⟩
abbrev w_M_expo : List Cond := wd y_M_expo b_M_expo 2 ((Option.some Jvm.ClassFile.FieldType.int))
abbrev b_M_clear : ByteArray := prog_13_method_18_code
def y_M_clear : MethodName := ⟨R_M, "clear", "()V"⟩
abbrev w_M_clear : List Cond := wd y_M_clear b_M_clear 2 (Option.none : Option Jvm.ClassFile.FieldType)
abbrev b_M_run : ByteArray := prog_13_method_47_code
def y_M_run : MethodName := ⟨R_M, "run", "()I"⟩
abbrev w_M_run : List Cond := wd y_M_run b_M_run 2 ((Option.some Jvm.ClassFile.FieldType.int))
abbrev b_M_lookForFree : ByteArray := prog_13_method_30_code
def y_M_lookForFree : MethodName := ⟨R_M, "lookForFree", "()V"⟩
abbrev w_M_lookForFree : List Cond := wd y_M_lookForFree b_M_lookForFree 3 (Option.none : Option Jvm.ClassFile.FieldType)
abbrev b_M_hasOne : ByteArray := prog_13_method_28_code
def y_M_hasOne : MethodName := ⟨R_M, "hasOne", "()Z"⟩
abbrev w_M_hasOne : List Cond := wd y_M_hasOne b_M_hasOne 2 ((Option.some Jvm.ClassFile.FieldType.boolean))
abbrev b_M_isAlone : ByteArray := prog_13_method_29_code
def y_M_isAlone : MethodName := ⟨R_M, "isAlone", "(II)Z"⟩
abbrev w_M_isAlone : List Cond := wd y_M_isAlone b_M_isAlone 2 ((Option.some Jvm.ClassFile.FieldType.boolean))
abbrev b_M_isBasis : ByteArray := prog_13_method_27_code
def y_M_isBasis : MethodName := ⟨R_M, "isBasis", "()Z"⟩
abbrev w_M_isBasis : List Cond := wd y_M_isBasis b_M_isBasis 3 ((Option.some Jvm.ClassFile.FieldType.boolean))
abbrev b_M_meets : ByteArray := prog_13_method_26_code
def y_M_meets : MethodName := ⟨R_M, "meets", "(II)Z"⟩
abbrev w_M_meets : List Cond := wd y_M_meets b_M_meets 9 ((Option.some Jvm.ClassFile.FieldType.boolean))
abbrev b_M_greater : ByteArray := prog_13_method_25_code
def y_M_greater : MethodName := ⟨R_M, "greater", "(II)I"⟩
abbrev w_M_greater : List Cond := wd y_M_greater b_M_greater 2 ((Option.some Jvm.ClassFile.FieldType.int))
abbrev b_M_empty : ByteArray := prog_13_method_21_code
def y_M_empty : MethodName := ⟨R_M, "empty", "()V"⟩
abbrev w_M_empty : List Cond := wd y_M_empty b_M_empty 2 (Option.none : Option Jvm.ClassFile.FieldType)
abbrev b_M_less : ByteArray := prog_13_method_4_code
def y_M_less : MethodName := ⟨R_M, "less", "(II)I"⟩
abbrev w_M_less : List Cond := wd y_M_less b_M_less 2 ((Option.some Jvm.ClassFile.FieldType.int))
abbrev b_M_cellOf : ByteArray := prog_13_method_20_code
def y_M_cellOf : MethodName := ⟨R_M, "cellOf", "(I)I"⟩
abbrev w_M_cellOf : List Cond := wd y_M_cellOf b_M_cellOf 1 ((Option.some Jvm.ClassFile.FieldType.int))
abbrev b_M_cell : ByteArray := prog_13_method_19_code
def y_M_cell : MethodName := ⟨R_M, "cell", "(III)I"⟩
abbrev w_M_cell : List Cond := wd y_M_cell b_M_cell 3 ((Option.some Jvm.ClassFile.FieldType.int))
abbrev b_M_takeOff : ByteArray := prog_13_method_22_code
def y_M_takeOff : MethodName := ⟨R_M, "takeOff", "(III)V"⟩
abbrev w_M_takeOff : List Cond := wd y_M_takeOff b_M_takeOff 6 (Option.none : Option Jvm.ClassFile.FieldType)
abbrev b_M_reduce : ByteArray := prog_13_method_24_code
def y_M_reduce : MethodName := ⟨R_M, "reduce", "()V"⟩
abbrev w_M_reduce : List Cond := wd y_M_reduce b_M_reduce 6 (Option.none : Option Jvm.ClassFile.FieldType)
abbrev b_M_divider : ByteArray := prog_13_method_23_code
def y_M_divider : MethodName := ⟨R_M, "divider", "(III)I"⟩
abbrev w_M_divider : List Cond := wd y_M_divider b_M_divider 5 ((Option.some Jvm.ClassFile.FieldType.int))
abbrev b_M_isFinite : ByteArray := prog_13_method_31_code
def y_M_isFinite : MethodName := ⟨R_M, "isFinite", "()Z"⟩
abbrev w_M_isFinite : List Cond := wd y_M_isFinite b_M_isFinite 2 ((Option.some Jvm.ClassFile.FieldType.boolean))
abbrev b_M_findLeft : ByteArray := prog_13_method_32_code
def y_M_findLeft : MethodName := ⟨R_M, "findLeft", "()Z"⟩
abbrev w_M_findLeft : List Cond := wd y_M_findLeft b_M_findLeft 6 ((Option.some Jvm.ClassFile.FieldType.boolean))
abbrev b_M_makeTables : ByteArray := prog_13_method_33_code
def y_M_makeTables : MethodName := ⟨R_M, "makeTables", "()V"⟩
abbrev w_M_makeTables : List Cond := wd y_M_makeTables b_M_makeTables 4 (Option.none : Option Jvm.ClassFile.FieldType)
abbrev b_M_findLeast : ByteArray := prog_13_method_35_code
def y_M_findLeast : MethodName := ⟨R_M, "findLeast", "(I)V"⟩
abbrev w_M_findLeast : List Cond := wd y_M_findLeast b_M_findLeast 8 (Option.none : Option Jvm.ClassFile.FieldType)
abbrev b_M_takeRow : ByteArray := prog_13_method_36_code
def y_M_takeRow : MethodName := ⟨R_M, "takeRow", "(IIII)V"⟩
abbrev w_M_takeRow : List Cond := wd y_M_takeRow b_M_takeRow 8 (Option.none : Option Jvm.ClassFile.FieldType)
abbrev b_M_multiply : ByteArray := prog_13_method_34_code
def y_M_multiply : MethodName := ⟨R_M, "multiply", "(I)V"⟩
abbrev w_M_multiply : List Cond := wd y_M_multiply b_M_multiply 5 (Option.none : Option Jvm.ClassFile.FieldType)
abbrev b_M_plus : ByteArray := prog_13_method_5_code
def y_M_plus : MethodName := ⟨R_M, "plus", "(II)I"⟩
abbrev w_M_plus : List Cond := wd y_M_plus b_M_plus 2 ((Option.some Jvm.ClassFile.FieldType.int))
abbrev b_M_findRoots : ByteArray := prog_13_method_38_code
def y_M_findRoots : MethodName := ⟨R_M, "findRoots", "(I)V"⟩
abbrev w_M_findRoots : List Cond := wd y_M_findRoots b_M_findRoots 3 (Option.none : Option Jvm.ClassFile.FieldType)
abbrev b_M_leastAt : ByteArray := prog_13_method_37_code
def y_M_leastAt : MethodName := ⟨R_M, "leastAt", "(II)I"⟩
abbrev w_M_leastAt : List Cond := wd y_M_leastAt b_M_leastAt 5 ((Option.some Jvm.ClassFile.FieldType.int))
abbrev b_M_findZeros : ByteArray := prog_13_method_43_code
def y_M_findZeros : MethodName := ⟨R_M, "findZeros", "()V"⟩
abbrev w_M_findZeros : List Cond := wd y_M_findZeros b_M_findZeros 6 (Option.none : Option Jvm.ClassFile.FieldType)
abbrev b_M_rootOf : ByteArray := prog_13_method_42_code
def y_M_rootOf : MethodName := ⟨R_M, "rootOf", "(II)I"⟩
abbrev w_M_rootOf : List Cond := wd y_M_rootOf b_M_rootOf 3 ((Option.some Jvm.ClassFile.FieldType.int))
abbrev b_M_areAll : ByteArray := prog_13_method_41_code
def y_M_areAll : MethodName := ⟨R_M, "areAll", "(III)Z"⟩
abbrev w_M_areAll : List Cond := wd y_M_areAll b_M_areAll 7 ((Option.some Jvm.ClassFile.FieldType.boolean))
abbrev b_M_worth : ByteArray := prog_13_method_40_code
def y_M_worth : MethodName := ⟨R_M, "worth", "(IIII)I"⟩
abbrev w_M_worth : List Cond := wd y_M_worth b_M_worth 4 ((Option.some Jvm.ClassFile.FieldType.int))
abbrev b_M_power : ByteArray := prog_13_method_39_code
def y_M_power : MethodName := ⟨R_M, "power", "(II)I"⟩
abbrev w_M_power : List Cond := wd y_M_power b_M_power 4 ((Option.some Jvm.ClassFile.FieldType.int))
abbrev b_M_countZeros : ByteArray := prog_13_method_46_code
def y_M_countZeros : MethodName := ⟨R_M, "countZeros", "()V"⟩
abbrev w_M_countZeros : List Cond := wd y_M_countZeros b_M_countZeros 3 (Option.none : Option Jvm.ClassFile.FieldType)
abbrev b_M_sixteenTimes : ByteArray := prog_13_method_44_code
def y_M_sixteenTimes : MethodName := ⟨R_M, "sixteenTimes", "(III)V"⟩
abbrev w_M_sixteenTimes : List Cond := wd y_M_sixteenTimes b_M_sixteenTimes 9 (Option.none : Option Jvm.ClassFile.FieldType)
abbrev b_M_rank : ByteArray := prog_13_method_45_code
def y_M_rank : MethodName := ⟨R_M, "rank", "(I)I"⟩
abbrev w_M_rank : List Cond := wd y_M_rank b_M_rank 7 ((Option.some Jvm.ClassFile.FieldType.int))
abbrev b_M_total : ByteArray := prog_13_method_48_code
def y_M_total : MethodName := ⟨R_M, "total", "()I"⟩
abbrev w_M_total : List Cond := wd y_M_total b_M_total 1 ((Option.some Jvm.ClassFile.FieldType.int))
abbrev b_M_left : ByteArray := prog_13_method_49_code
def y_M_left : MethodName := ⟨R_M, "left", "(I)I"⟩
abbrev w_M_left : List Cond := wd y_M_left b_M_left 2 ((Option.some Jvm.ClassFile.FieldType.int))
abbrev b_M_powerAt : ByteArray := prog_13_method_12_code
def y_M_powerAt : MethodName := ⟨R_M, "powerAt", "(I)I"⟩
abbrev w_M_powerAt : List Cond := wd y_M_powerAt b_M_powerAt 1 ((Option.some Jvm.ClassFile.FieldType.int))
abbrev b_M_at : ByteArray := prog_13_method_52_code
def y_M_at : MethodName := ⟨R_M, "at", "(II)I"⟩
abbrev w_M_at : List Cond := wd y_M_at b_M_at 3 ((Option.some Jvm.ClassFile.FieldType.int))
abbrev b_M_isZero : ByteArray := prog_13_method_50_code
def y_M_isZero : MethodName := ⟨R_M, "isZero", "(I)Z"⟩
abbrev w_M_isZero : List Cond := wd y_M_isZero b_M_isZero 2 ((Option.some Jvm.ClassFile.FieldType.boolean))
abbrev b_M_isLetter : ByteArray := prog_13_method_51_code
def y_M_isLetter : MethodName := ⟨R_M, "isLetter", "(I)Z"⟩
abbrev w_M_isLetter : List Cond := wd y_M_isLetter b_M_isLetter 2 ((Option.some Jvm.ClassFile.FieldType.boolean))
abbrev b_M_multiplicity : ByteArray := prog_13_method_53_code
def y_M_multiplicity : MethodName := ⟨R_M, "multiplicity", "(I)I"⟩
abbrev w_M_multiplicity : List Cond := wd y_M_multiplicity b_M_multiplicity 2 ((Option.some Jvm.ClassFile.FieldType.int))
abbrev b_M_minimal : ByteArray := prog_13_method_54_code
def y_M_minimal : MethodName := ⟨R_M, "minimal", "(II)I"⟩
abbrev w_M_minimal : List Cond := wd y_M_minimal b_M_minimal 3 ((Option.some Jvm.ClassFile.FieldType.int))
abbrev b_M_value : ByteArray := prog_13_method_55_code
def y_M_value : MethodName := ⟨R_M, "value", "(II)I"⟩
abbrev w_M_value : List Cond := wd y_M_value b_M_value 6 ((Option.some Jvm.ClassFile.FieldType.int))
abbrev b_M_free : ByteArray := prog_13_method_56_code
def y_M_free : MethodName := ⟨R_M, "free", "(I)I"⟩
abbrev w_M_free : List Cond := wd y_M_free b_M_free 4 ((Option.some Jvm.ClassFile.FieldType.int))
abbrev b_M_count : ByteArray := prog_13_method_57_code
def y_M_count : MethodName := ⟨R_M, "count", "(I)I"⟩
abbrev w_M_count : List Cond := wd y_M_count b_M_count 2 ((Option.some Jvm.ClassFile.FieldType.int))
