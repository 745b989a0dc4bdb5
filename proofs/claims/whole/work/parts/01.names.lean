-- ===== PART A: goes FIRST, ahead of the names: the tables' words, and 'selects' of the private methods out of them =====
/-- a private method of a class that the tables say can be made, by its rows of tables_1 -/
def lw_okq (q : MethodName × Nat) : Prop := (q.1.cls ≠ "java/lang/invoke/MethodHandle" ∧ q.1.cls ≠ "java/lang/invoke/VarHandle") ∧ Cond.instantiable q.1.cls q.2 ∈ tables_1 ∧ Cond.privateMethod q.1 ∈ tables_1 ∧ Cond.instanceMethod q.1 ∈ tables_1
theorem lw_p0 : lw_okq (⟨"ProofLine$Reader", "beginTerm", "()V"⟩, 17) := ⟨⟨by decide +kernel, by decide +kernel⟩, List.mem_of_getElem? (i := 151) (by decide +kernel), List.mem_of_getElem? (i := 329) (by decide +kernel), List.mem_of_getElem? (i := 330) (by decide +kernel)⟩
theorem lw_p1 : lw_okq (⟨"ProofLine$Reader", "take", "(CI)Z"⟩, 17) := ⟨⟨by decide +kernel, by decide +kernel⟩, List.mem_of_getElem? (i := 151) (by decide +kernel), List.mem_of_getElem? (i := 333) (by decide +kernel), List.mem_of_getElem? (i := 334) (by decide +kernel)⟩
theorem lw_p2 : lw_okq (⟨"ProofLine$Reader", "takeLetter", "(CI)Z"⟩, 17) := ⟨⟨by decide +kernel, by decide +kernel⟩, List.mem_of_getElem? (i := 151) (by decide +kernel), List.mem_of_getElem? (i := 337) (by decide +kernel), List.mem_of_getElem? (i := 338) (by decide +kernel)⟩
theorem lw_p3 : lw_okq (⟨"ProofLine$Reader", "takeColon", "(CI)Z"⟩, 17) := ⟨⟨by decide +kernel, by decide +kernel⟩, List.mem_of_getElem? (i := 151) (by decide +kernel), List.mem_of_getElem? (i := 348) (by decide +kernel), List.mem_of_getElem? (i := 349) (by decide +kernel)⟩
theorem lw_p4 : lw_okq (⟨"ProofLine$Reader", "open", "(CI)V"⟩, 17) := ⟨⟨by decide +kernel, by decide +kernel⟩, List.mem_of_getElem? (i := 151) (by decide +kernel), List.mem_of_getElem? (i := 352) (by decide +kernel), List.mem_of_getElem? (i := 353) (by decide +kernel)⟩
theorem lw_p5 : lw_okq (⟨"ProofLine$Reader", "addToken", "(II)V"⟩, 17) := ⟨⟨by decide +kernel, by decide +kernel⟩, List.mem_of_getElem? (i := 151) (by decide +kernel), List.mem_of_getElem? (i := 356) (by decide +kernel), List.mem_of_getElem? (i := 357) (by decide +kernel)⟩
theorem lw_p6 : lw_okq (⟨"ProofLine$Reader", "insertPair", "(I)V"⟩, 17) := ⟨⟨by decide +kernel, by decide +kernel⟩, List.mem_of_getElem? (i := 151) (by decide +kernel), List.mem_of_getElem? (i := 364) (by decide +kernel), List.mem_of_getElem? (i := 365) (by decide +kernel)⟩
theorem lw_p7 : lw_okq (⟨"ProofLine$Reader", "bind", "(C)V"⟩, 17) := ⟨⟨by decide +kernel, by decide +kernel⟩, List.mem_of_getElem? (i := 151) (by decide +kernel), List.mem_of_getElem? (i := 371) (by decide +kernel), List.mem_of_getElem? (i := 372) (by decide +kernel)⟩
theorem lw_p8 : lw_okq (⟨"ProofLine$Reader", "close", "()V"⟩, 17) := ⟨⟨by decide +kernel, by decide +kernel⟩, List.mem_of_getElem? (i := 151) (by decide +kernel), List.mem_of_getElem? (i := 375) (by decide +kernel), List.mem_of_getElem? (i := 376) (by decide +kernel)⟩
theorem lw_p9 : lw_okq (⟨"ProofLine$Reader", "joinAtom", "(I)V"⟩, 17) := ⟨⟨by decide +kernel, by decide +kernel⟩, List.mem_of_getElem? (i := 151) (by decide +kernel), List.mem_of_getElem? (i := 379) (by decide +kernel), List.mem_of_getElem? (i := 380) (by decide +kernel)⟩
theorem lw_p10 : lw_okq (⟨"ProofLine$Reader", "takeDigit", "(II)Z"⟩, 17) := ⟨⟨by decide +kernel, by decide +kernel⟩, List.mem_of_getElem? (i := 151) (by decide +kernel), List.mem_of_getElem? (i := 386) (by decide +kernel), List.mem_of_getElem? (i := 387) (by decide +kernel)⟩
theorem lw_p11 : lw_okq (⟨"ProofLine$Reader", "addAtom", "(II)V"⟩, 17) := ⟨⟨by decide +kernel, by decide +kernel⟩, List.mem_of_getElem? (i := 151) (by decide +kernel), List.mem_of_getElem? (i := 390) (by decide +kernel), List.mem_of_getElem? (i := 391) (by decide +kernel)⟩
theorem lw_p12 : lw_okq (⟨"ProofLine$Reader", "takeAtom", "(CI)Z"⟩, 17) := ⟨⟨by decide +kernel, by decide +kernel⟩, List.mem_of_getElem? (i := 151) (by decide +kernel), List.mem_of_getElem? (i := 398) (by decide +kernel), List.mem_of_getElem? (i := 399) (by decide +kernel)⟩
theorem lw_p13 : lw_okq (⟨"ProofLine$Reader", "tokenOf", "(C)I"⟩, 17) := ⟨⟨by decide +kernel, by decide +kernel⟩, List.mem_of_getElem? (i := 151) (by decide +kernel), List.mem_of_getElem? (i := 402) (by decide +kernel), List.mem_of_getElem? (i := 403) (by decide +kernel)⟩
theorem lw_p14 : lw_okq (⟨"ProofLine$Reader", "boundToken", "(C)I"⟩, 17) := ⟨⟨by decide +kernel, by decide +kernel⟩, List.mem_of_getElem? (i := 151) (by decide +kernel), List.mem_of_getElem? (i := 406) (by decide +kernel), List.mem_of_getElem? (i := 407) (by decide +kernel)⟩
theorem lw_p15 : lw_okq (⟨"ProofLine$Typist", "typeOf", "(II)Z"⟩, 10) := ⟨⟨by decide +kernel, by decide +kernel⟩, List.mem_of_getElem? (i := 232) (by decide +kernel), List.mem_of_getElem? (i := 417) (by decide +kernel), List.mem_of_getElem? (i := 418) (by decide +kernel)⟩
def lw_privs_1 : List (MethodName × Nat) := [(⟨"ProofLine$Reader", "beginTerm", "()V"⟩, 17), (⟨"ProofLine$Reader", "take", "(CI)Z"⟩, 17), (⟨"ProofLine$Reader", "takeLetter", "(CI)Z"⟩, 17), (⟨"ProofLine$Reader", "takeColon", "(CI)Z"⟩, 17), (⟨"ProofLine$Reader", "open", "(CI)V"⟩, 17), (⟨"ProofLine$Reader", "addToken", "(II)V"⟩, 17), (⟨"ProofLine$Reader", "insertPair", "(I)V"⟩, 17), (⟨"ProofLine$Reader", "bind", "(C)V"⟩, 17), (⟨"ProofLine$Reader", "close", "()V"⟩, 17), (⟨"ProofLine$Reader", "joinAtom", "(I)V"⟩, 17), (⟨"ProofLine$Reader", "takeDigit", "(II)Z"⟩, 17), (⟨"ProofLine$Reader", "addAtom", "(II)V"⟩, 17), (⟨"ProofLine$Reader", "takeAtom", "(CI)Z"⟩, 17), (⟨"ProofLine$Reader", "tokenOf", "(C)I"⟩, 17), (⟨"ProofLine$Reader", "boundToken", "(C)I"⟩, 17), (⟨"ProofLine$Typist", "typeOf", "(II)Z"⟩, 10)]
theorem lw_r1 : ∀ q ∈ lw_privs_1, lw_okq q := List.forall_mem_cons.mpr ⟨lw_p0, List.forall_mem_cons.mpr ⟨lw_p1, List.forall_mem_cons.mpr ⟨lw_p2, List.forall_mem_cons.mpr ⟨lw_p3, List.forall_mem_cons.mpr ⟨lw_p4, List.forall_mem_cons.mpr ⟨lw_p5, List.forall_mem_cons.mpr ⟨lw_p6, List.forall_mem_cons.mpr ⟨lw_p7, List.forall_mem_cons.mpr ⟨lw_p8, List.forall_mem_cons.mpr ⟨lw_p9, List.forall_mem_cons.mpr ⟨lw_p10, List.forall_mem_cons.mpr ⟨lw_p11, List.forall_mem_cons.mpr ⟨lw_p12, List.forall_mem_cons.mpr ⟨lw_p13, List.forall_mem_cons.mpr ⟨lw_p14, List.forall_mem_cons.mpr ⟨lw_p15, fun _ h => absurd h List.not_mem_nil⟩⟩⟩⟩⟩⟩⟩⟩⟩⟩⟩⟩⟩⟩⟩⟩
theorem lw_p16 : lw_okq (⟨"ProofLine$Typist", "fail", "(II)Z"⟩, 10) := ⟨⟨by decide +kernel, by decide +kernel⟩, List.mem_of_getElem? (i := 232) (by decide +kernel), List.mem_of_getElem? (i := 421) (by decide +kernel), List.mem_of_getElem? (i := 422) (by decide +kernel)⟩
theorem lw_p17 : lw_okq (⟨"ProofLine$Typist", "typeOfApplication", "(II)Z"⟩, 10) := ⟨⟨by decide +kernel, by decide +kernel⟩, List.mem_of_getElem? (i := 232) (by decide +kernel), List.mem_of_getElem? (i := 427) (by decide +kernel), List.mem_of_getElem? (i := 428) (by decide +kernel)⟩
theorem lw_p18 : lw_okq (⟨"ProofLine$Typist", "applyTo", "(II)Z"⟩, 10) := ⟨⟨by decide +kernel, by decide +kernel⟩, List.mem_of_getElem? (i := 232) (by decide +kernel), List.mem_of_getElem? (i := 431) (by decide +kernel), List.mem_of_getElem? (i := 432) (by decide +kernel)⟩
theorem lw_p19 : lw_okq (⟨"ProofLine$Reducer", "takeStep", "(LProofLine$Row;I)V"⟩, 3) := ⟨⟨by decide +kernel, by decide +kernel⟩, List.mem_of_getElem? (i := 214) (by decide +kernel), List.mem_of_getElem? (i := 461) (by decide +kernel), List.mem_of_getElem? (i := 462) (by decide +kernel)⟩
theorem lw_p20 : lw_okq (⟨"ProofLine$Reducer", "addRecursion", "(LProofLine$Row;I)V"⟩, 3) := ⟨⟨by decide +kernel, by decide +kernel⟩, List.mem_of_getElem? (i := 214) (by decide +kernel), List.mem_of_getElem? (i := 508) (by decide +kernel), List.mem_of_getElem? (i := 509) (by decide +kernel)⟩
theorem lw_p21 : lw_okq (⟨"ProofLine$Typist", "typeOfFunction", "(II)Z"⟩, 10) := ⟨⟨by decide +kernel, by decide +kernel⟩, List.mem_of_getElem? (i := 232) (by decide +kernel), List.mem_of_getElem? (i := 527) (by decide +kernel), List.mem_of_getElem? (i := 528) (by decide +kernel)⟩
theorem lw_p22 : lw_okq (⟨"ProofLine$Typist", "sortOf", "(II)Z"⟩, 10) := ⟨⟨by decide +kernel, by decide +kernel⟩, List.mem_of_getElem? (i := 232) (by decide +kernel), List.mem_of_getElem? (i := 531) (by decide +kernel), List.mem_of_getElem? (i := 532) (by decide +kernel)⟩
theorem lw_p23 : lw_okq (⟨"ProofLine$Typist", "enter", "(I)V"⟩, 10) := ⟨⟨by decide +kernel, by decide +kernel⟩, List.mem_of_getElem? (i := 232) (by decide +kernel), List.mem_of_getElem? (i := 539) (by decide +kernel), List.mem_of_getElem? (i := 540) (by decide +kernel)⟩
theorem lw_p24 : lw_okq (⟨"ProofLine$Typist", "leave", "()V"⟩, 10) := ⟨⟨by decide +kernel, by decide +kernel⟩, List.mem_of_getElem? (i := 232) (by decide +kernel), List.mem_of_getElem? (i := 543) (by decide +kernel), List.mem_of_getElem? (i := 544) (by decide +kernel)⟩
theorem lw_p25 : lw_okq (⟨"ProofLine$Typist", "typeOfProduct", "(II)Z"⟩, 10) := ⟨⟨by decide +kernel, by decide +kernel⟩, List.mem_of_getElem? (i := 232) (by decide +kernel), List.mem_of_getElem? (i := 549) (by decide +kernel), List.mem_of_getElem? (i := 550) (by decide +kernel)⟩
theorem lw_p26 : lw_okq (⟨"ProofLine$Typist", "setTypeOfAtom", "(ILProofLine$Row;)V"⟩, 10) := ⟨⟨by decide +kernel, by decide +kernel⟩, List.mem_of_getElem? (i := 232) (by decide +kernel), List.mem_of_getElem? (i := 553) (by decide +kernel), List.mem_of_getElem? (i := 554) (by decide +kernel)⟩
theorem lw_p27 : lw_okq (⟨"ProofLine$Writer", "write", "(LProofLine$Row;III)V"⟩, 4) := ⟨⟨by decide +kernel, by decide +kernel⟩, List.mem_of_getElem? (i := 125) (by decide +kernel), List.mem_of_getElem? (i := 571) (by decide +kernel), List.mem_of_getElem? (i := 572) (by decide +kernel)⟩
theorem lw_p28 : lw_okq (⟨"ProofLine$Writer", "putNumber", "(I)V"⟩, 4) := ⟨⟨by decide +kernel, by decide +kernel⟩, List.mem_of_getElem? (i := 125) (by decide +kernel), List.mem_of_getElem? (i := 580) (by decide +kernel), List.mem_of_getElem? (i := 581) (by decide +kernel)⟩
theorem lw_p29 : lw_okq (⟨"ProofLine$Writer", "put", "(C)V"⟩, 4) := ⟨⟨by decide +kernel, by decide +kernel⟩, List.mem_of_getElem? (i := 125) (by decide +kernel), List.mem_of_getElem? (i := 584) (by decide +kernel), List.mem_of_getElem? (i := 585) (by decide +kernel)⟩
theorem lw_p30 : lw_okq (⟨"ProofLine$Writer", "writePart", "(LProofLine$Row;IIIZ)V"⟩, 4) := ⟨⟨by decide +kernel, by decide +kernel⟩, List.mem_of_getElem? (i := 125) (by decide +kernel), List.mem_of_getElem? (i := 591) (by decide +kernel), List.mem_of_getElem? (i := 592) (by decide +kernel)⟩
theorem lw_p31 : lw_okq (⟨"ProofLine$Writer", "writeBinder", "(LProofLine$Row;III)V"⟩, 4) := ⟨⟨by decide +kernel, by decide +kernel⟩, List.mem_of_getElem? (i := 125) (by decide +kernel), List.mem_of_getElem? (i := 595) (by decide +kernel), List.mem_of_getElem? (i := 596) (by decide +kernel)⟩
def lw_privs_2 : List (MethodName × Nat) := [(⟨"ProofLine$Typist", "fail", "(II)Z"⟩, 10), (⟨"ProofLine$Typist", "typeOfApplication", "(II)Z"⟩, 10), (⟨"ProofLine$Typist", "applyTo", "(II)Z"⟩, 10), (⟨"ProofLine$Reducer", "takeStep", "(LProofLine$Row;I)V"⟩, 3), (⟨"ProofLine$Reducer", "addRecursion", "(LProofLine$Row;I)V"⟩, 3), (⟨"ProofLine$Typist", "typeOfFunction", "(II)Z"⟩, 10), (⟨"ProofLine$Typist", "sortOf", "(II)Z"⟩, 10), (⟨"ProofLine$Typist", "enter", "(I)V"⟩, 10), (⟨"ProofLine$Typist", "leave", "()V"⟩, 10), (⟨"ProofLine$Typist", "typeOfProduct", "(II)Z"⟩, 10), (⟨"ProofLine$Typist", "setTypeOfAtom", "(ILProofLine$Row;)V"⟩, 10), (⟨"ProofLine$Writer", "write", "(LProofLine$Row;III)V"⟩, 4), (⟨"ProofLine$Writer", "putNumber", "(I)V"⟩, 4), (⟨"ProofLine$Writer", "put", "(C)V"⟩, 4), (⟨"ProofLine$Writer", "writePart", "(LProofLine$Row;IIIZ)V"⟩, 4), (⟨"ProofLine$Writer", "writeBinder", "(LProofLine$Row;III)V"⟩, 4)]
theorem lw_r2 : ∀ q ∈ lw_privs_2, lw_okq q := List.forall_mem_cons.mpr ⟨lw_p16, List.forall_mem_cons.mpr ⟨lw_p17, List.forall_mem_cons.mpr ⟨lw_p18, List.forall_mem_cons.mpr ⟨lw_p19, List.forall_mem_cons.mpr ⟨lw_p20, List.forall_mem_cons.mpr ⟨lw_p21, List.forall_mem_cons.mpr ⟨lw_p22, List.forall_mem_cons.mpr ⟨lw_p23, List.forall_mem_cons.mpr ⟨lw_p24, List.forall_mem_cons.mpr ⟨lw_p25, List.forall_mem_cons.mpr ⟨lw_p26, List.forall_mem_cons.mpr ⟨lw_p27, List.forall_mem_cons.mpr ⟨lw_p28, List.forall_mem_cons.mpr ⟨lw_p29, List.forall_mem_cons.mpr ⟨lw_p30, List.forall_mem_cons.mpr ⟨lw_p31, fun _ h => absurd h List.not_mem_nil⟩⟩⟩⟩⟩⟩⟩⟩⟩⟩⟩⟩⟩⟩⟩⟩
theorem lw_p32 : lw_okq (⟨"ProofLine$Writer", "usesLetter", "(LProofLine$Row;I)Z"⟩, 4) := ⟨⟨by decide +kernel, by decide +kernel⟩, List.mem_of_getElem? (i := 125) (by decide +kernel), List.mem_of_getElem? (i := 599) (by decide +kernel), List.mem_of_getElem? (i := 600) (by decide +kernel)⟩
theorem lw_p33 : lw_okq (⟨"ProofLine", "takeLineTo", "(LProofLine$Row;)V"⟩, 11) := ⟨⟨by decide +kernel, by decide +kernel⟩, List.mem_of_getElem? (i := 20) (by decide +kernel), List.mem_of_getElem? (i := 620) (by decide +kernel), List.mem_of_getElem? (i := 621) (by decide +kernel)⟩
theorem lw_p34 : lw_okq (⟨"java/lang/Throwable", "fillInStackTrace", "(I)Ljava/lang/Throwable;"⟩, 6) := ⟨⟨by decide +kernel, by decide +kernel⟩, List.mem_of_getElem? (i := 686) (by decide +kernel), List.mem_of_getElem? (i := 684) (by decide +kernel), List.mem_of_getElem? (i := 685) (by decide +kernel)⟩
theorem lw_p35 : lw_okq (⟨"ProofLine", "append", "(I)V"⟩, 11) := ⟨⟨by decide +kernel, by decide +kernel⟩, List.mem_of_getElem? (i := 20) (by decide +kernel), List.mem_of_getElem? (i := 711) (by decide +kernel), List.mem_of_getElem? (i := 712) (by decide +kernel)⟩
theorem lw_p36 : lw_okq (⟨"ProofLineModel", "put", "(II)V"⟩, 45) := ⟨⟨by decide +kernel, by decide +kernel⟩, List.mem_of_getElem? (i := 753) (by decide +kernel), List.mem_of_getElem? (i := 904) (by decide +kernel), List.mem_of_getElem? (i := 905) (by decide +kernel)⟩
theorem lw_p37 : lw_okq (⟨"ProofLineModel", "refused", "(I)Z"⟩, 45) := ⟨⟨by decide +kernel, by decide +kernel⟩, List.mem_of_getElem? (i := 753) (by decide +kernel), List.mem_of_getElem? (i := 908) (by decide +kernel), List.mem_of_getElem? (i := 909) (by decide +kernel)⟩
theorem lw_p38 : lw_okq (⟨"ProofLineModel", "look", "()I"⟩, 45) := ⟨⟨by decide +kernel, by decide +kernel⟩, List.mem_of_getElem? (i := 753) (by decide +kernel), List.mem_of_getElem? (i := 920) (by decide +kernel), List.mem_of_getElem? (i := 921) (by decide +kernel)⟩
theorem lw_p39 : lw_okq (⟨"ProofLineModel", "read", "()I"⟩, 45) := ⟨⟨by decide +kernel, by decide +kernel⟩, List.mem_of_getElem? (i := 753) (by decide +kernel), List.mem_of_getElem? (i := 924) (by decide +kernel), List.mem_of_getElem? (i := 925) (by decide +kernel)⟩
theorem lw_p40 : lw_okq (⟨"ProofLineModel", "skip", "(I)I"⟩, 45) := ⟨⟨by decide +kernel, by decide +kernel⟩, List.mem_of_getElem? (i := 753) (by decide +kernel), List.mem_of_getElem? (i := 928) (by decide +kernel), List.mem_of_getElem? (i := 929) (by decide +kernel)⟩
theorem lw_p41 : lw_okq (⟨"ProofLineModel", "charAt", "(I)C"⟩, 45) := ⟨⟨by decide +kernel, by decide +kernel⟩, List.mem_of_getElem? (i := 753) (by decide +kernel), List.mem_of_getElem? (i := 932) (by decide +kernel), List.mem_of_getElem? (i := 933) (by decide +kernel)⟩
theorem lw_p42 : lw_okq (⟨"ProofLineModel", "stop", "(II)I"⟩, 45) := ⟨⟨by decide +kernel, by decide +kernel⟩, List.mem_of_getElem? (i := 753) (by decide +kernel), List.mem_of_getElem? (i := 939) (by decide +kernel), List.mem_of_getElem? (i := 940) (by decide +kernel)⟩
theorem lw_p43 : lw_okq (⟨"ProofLineModel", "openUp", "(IIIII)V"⟩, 45) := ⟨⟨by decide +kernel, by decide +kernel⟩, List.mem_of_getElem? (i := 753) (by decide +kernel), List.mem_of_getElem? (i := 943) (by decide +kernel), List.mem_of_getElem? (i := 944) (by decide +kernel)⟩
theorem lw_p44 : lw_okq (⟨"ProofLineModel", "boundAt", "(I)I"⟩, 45) := ⟨⟨by decide +kernel, by decide +kernel⟩, List.mem_of_getElem? (i := 753) (by decide +kernel), List.mem_of_getElem? (i := 950) (by decide +kernel), List.mem_of_getElem? (i := 951) (by decide +kernel)⟩
theorem lw_p45 : lw_okq (⟨"ProofLineModel", "addPart", "(IIII)I"⟩, 45) := ⟨⟨by decide +kernel, by decide +kernel⟩, List.mem_of_getElem? (i := 753) (by decide +kernel), List.mem_of_getElem? (i := 954) (by decide +kernel), List.mem_of_getElem? (i := 955) (by decide +kernel)⟩
theorem lw_p46 : lw_okq (⟨"ProofLineModel", "join", "(II)I"⟩, 45) := ⟨⟨by decide +kernel, by decide +kernel⟩, List.mem_of_getElem? (i := 753) (by decide +kernel), List.mem_of_getElem? (i := 958) (by decide +kernel), List.mem_of_getElem? (i := 959) (by decide +kernel)⟩
theorem lw_p47 : lw_okq (⟨"ProofLineModel", "bind", "(I)V"⟩, 45) := ⟨⟨by decide +kernel, by decide +kernel⟩, List.mem_of_getElem? (i := 753) (by decide +kernel), List.mem_of_getElem? (i := 962) (by decide +kernel), List.mem_of_getElem? (i := 963) (by decide +kernel)⟩
def lw_privs_3 : List (MethodName × Nat) := [(⟨"ProofLine$Writer", "usesLetter", "(LProofLine$Row;I)Z"⟩, 4), (⟨"ProofLine", "takeLineTo", "(LProofLine$Row;)V"⟩, 11), (⟨"java/lang/Throwable", "fillInStackTrace", "(I)Ljava/lang/Throwable;"⟩, 6), (⟨"ProofLine", "append", "(I)V"⟩, 11), (⟨"ProofLineModel", "put", "(II)V"⟩, 45), (⟨"ProofLineModel", "refused", "(I)Z"⟩, 45), (⟨"ProofLineModel", "look", "()I"⟩, 45), (⟨"ProofLineModel", "read", "()I"⟩, 45), (⟨"ProofLineModel", "skip", "(I)I"⟩, 45), (⟨"ProofLineModel", "charAt", "(I)C"⟩, 45), (⟨"ProofLineModel", "stop", "(II)I"⟩, 45), (⟨"ProofLineModel", "openUp", "(IIIII)V"⟩, 45), (⟨"ProofLineModel", "boundAt", "(I)I"⟩, 45), (⟨"ProofLineModel", "addPart", "(IIII)I"⟩, 45), (⟨"ProofLineModel", "join", "(II)I"⟩, 45), (⟨"ProofLineModel", "bind", "(I)V"⟩, 45)]
theorem lw_r3 : ∀ q ∈ lw_privs_3, lw_okq q := List.forall_mem_cons.mpr ⟨lw_p32, List.forall_mem_cons.mpr ⟨lw_p33, List.forall_mem_cons.mpr ⟨lw_p34, List.forall_mem_cons.mpr ⟨lw_p35, List.forall_mem_cons.mpr ⟨lw_p36, List.forall_mem_cons.mpr ⟨lw_p37, List.forall_mem_cons.mpr ⟨lw_p38, List.forall_mem_cons.mpr ⟨lw_p39, List.forall_mem_cons.mpr ⟨lw_p40, List.forall_mem_cons.mpr ⟨lw_p41, List.forall_mem_cons.mpr ⟨lw_p42, List.forall_mem_cons.mpr ⟨lw_p43, List.forall_mem_cons.mpr ⟨lw_p44, List.forall_mem_cons.mpr ⟨lw_p45, List.forall_mem_cons.mpr ⟨lw_p46, List.forall_mem_cons.mpr ⟨lw_p47, fun _ h => absurd h List.not_mem_nil⟩⟩⟩⟩⟩⟩⟩⟩⟩⟩⟩⟩⟩⟩⟩⟩
theorem lw_p48 : lw_okq (⟨"ProofLineModel", "find", "()I"⟩, 45) := ⟨⟨by decide +kernel, by decide +kernel⟩, List.mem_of_getElem? (i := 753) (by decide +kernel), List.mem_of_getElem? (i := 966) (by decide +kernel), List.mem_of_getElem? (i := 967) (by decide +kernel)⟩
theorem lw_p49 : lw_okq (⟨"ProofLineModel", "push", "(I)V"⟩, 45) := ⟨⟨by decide +kernel, by decide +kernel⟩, List.mem_of_getElem? (i := 753) (by decide +kernel), List.mem_of_getElem? (i := 970) (by decide +kernel), List.mem_of_getElem? (i := 971) (by decide +kernel)⟩
theorem lw_p50 : lw_okq (⟨"ProofLineModel", "atomType", "(I)V"⟩, 45) := ⟨⟨by decide +kernel, by decide +kernel⟩, List.mem_of_getElem? (i := 753) (by decide +kernel), List.mem_of_getElem? (i := 977) (by decide +kernel), List.mem_of_getElem? (i := 978) (by decide +kernel)⟩
theorem lw_p51 : lw_okq (⟨"ProofLineModel", "load", "([III)V"⟩, 45) := ⟨⟨by decide +kernel, by decide +kernel⟩, List.mem_of_getElem? (i := 753) (by decide +kernel), List.mem_of_getElem? (i := 981) (by decide +kernel), List.mem_of_getElem? (i := 982) (by decide +kernel)⟩
theorem lw_p52 : lw_okq (⟨"ProofLineModel", "lift", "([III)V"⟩, 45) := ⟨⟨by decide +kernel, by decide +kernel⟩, List.mem_of_getElem? (i := 753) (by decide +kernel), List.mem_of_getElem? (i := 985) (by decide +kernel), List.mem_of_getElem? (i := 986) (by decide +kernel)⟩
theorem lw_p53 : lw_okq (⟨"ProofLineModel", "measure", "([III)V"⟩, 45) := ⟨⟨by decide +kernel, by decide +kernel⟩, List.mem_of_getElem? (i := 753) (by decide +kernel), List.mem_of_getElem? (i := 989) (by decide +kernel), List.mem_of_getElem? (i := 990) (by decide +kernel)⟩
theorem lw_p54 : lw_okq (⟨"ProofLineModel", "setRow", "(I)V"⟩, 45) := ⟨⟨by decide +kernel, by decide +kernel⟩, List.mem_of_getElem? (i := 753) (by decide +kernel), List.mem_of_getElem? (i := 996) (by decide +kernel), List.mem_of_getElem? (i := 997) (by decide +kernel)⟩
theorem lw_p55 : lw_okq (⟨"ProofLineModel", "applied", "(I)V"⟩, 45) := ⟨⟨by decide +kernel, by decide +kernel⟩, List.mem_of_getElem? (i := 753) (by decide +kernel), List.mem_of_getElem? (i := 1000) (by decide +kernel), List.mem_of_getElem? (i := 1001) (by decide +kernel)⟩
theorem lw_p56 : lw_okq (⟨"ProofLineModel", "settle", "()I"⟩, 45) := ⟨⟨by decide +kernel, by decide +kernel⟩, List.mem_of_getElem? (i := 753) (by decide +kernel), List.mem_of_getElem? (i := 1004) (by decide +kernel), List.mem_of_getElem? (i := 1005) (by decide +kernel)⟩
theorem lw_p57 : lw_okq (⟨"ProofLineModel", "step", "(I)Z"⟩, 45) := ⟨⟨by decide +kernel, by decide +kernel⟩, List.mem_of_getElem? (i := 753) (by decide +kernel), List.mem_of_getElem? (i := 1008) (by decide +kernel), List.mem_of_getElem? (i := 1009) (by decide +kernel)⟩
theorem lw_p58 : lw_okq (⟨"ProofLineModel", "copyOther", "(II)V"⟩, 45) := ⟨⟨by decide +kernel, by decide +kernel⟩, List.mem_of_getElem? (i := 753) (by decide +kernel), List.mem_of_getElem? (i := 1012) (by decide +kernel), List.mem_of_getElem? (i := 1013) (by decide +kernel)⟩
theorem lw_p59 : lw_okq (⟨"ProofLineModel", "takeArg", "(II)V"⟩, 45) := ⟨⟨by decide +kernel, by decide +kernel⟩, List.mem_of_getElem? (i := 753) (by decide +kernel), List.mem_of_getElem? (i := 1016) (by decide +kernel), List.mem_of_getElem? (i := 1017) (by decide +kernel)⟩
theorem lw_p60 : lw_okq (⟨"ProofLineModel", "replaced", "(II)V"⟩, 45) := ⟨⟨by decide +kernel, by decide +kernel⟩, List.mem_of_getElem? (i := 753) (by decide +kernel), List.mem_of_getElem? (i := 1020) (by decide +kernel), List.mem_of_getElem? (i := 1021) (by decide +kernel)⟩
theorem lw_p61 : lw_okq (⟨"ProofLineModel", "addArgument", "(I)V"⟩, 45) := ⟨⟨by decide +kernel, by decide +kernel⟩, List.mem_of_getElem? (i := 753) (by decide +kernel), List.mem_of_getElem? (i := 1024) (by decide +kernel), List.mem_of_getElem? (i := 1025) (by decide +kernel)⟩
theorem lw_p62 : lw_okq (⟨"ProofLineModel", "given", "(I)V"⟩, 45) := ⟨⟨by decide +kernel, by decide +kernel⟩, List.mem_of_getElem? (i := 753) (by decide +kernel), List.mem_of_getElem? (i := 1028) (by decide +kernel), List.mem_of_getElem? (i := 1029) (by decide +kernel)⟩
theorem lw_p63 : lw_okq (⟨"ProofLineModel", "layOut", "(I)V"⟩, 45) := ⟨⟨by decide +kernel, by decide +kernel⟩, List.mem_of_getElem? (i := 753) (by decide +kernel), List.mem_of_getElem? (i := 1032) (by decide +kernel), List.mem_of_getElem? (i := 1033) (by decide +kernel)⟩
def lw_privs_4 : List (MethodName × Nat) := [(⟨"ProofLineModel", "find", "()I"⟩, 45), (⟨"ProofLineModel", "push", "(I)V"⟩, 45), (⟨"ProofLineModel", "atomType", "(I)V"⟩, 45), (⟨"ProofLineModel", "load", "([III)V"⟩, 45), (⟨"ProofLineModel", "lift", "([III)V"⟩, 45), (⟨"ProofLineModel", "measure", "([III)V"⟩, 45), (⟨"ProofLineModel", "setRow", "(I)V"⟩, 45), (⟨"ProofLineModel", "applied", "(I)V"⟩, 45), (⟨"ProofLineModel", "settle", "()I"⟩, 45), (⟨"ProofLineModel", "step", "(I)Z"⟩, 45), (⟨"ProofLineModel", "copyOther", "(II)V"⟩, 45), (⟨"ProofLineModel", "takeArg", "(II)V"⟩, 45), (⟨"ProofLineModel", "replaced", "(II)V"⟩, 45), (⟨"ProofLineModel", "addArgument", "(I)V"⟩, 45), (⟨"ProofLineModel", "given", "(I)V"⟩, 45), (⟨"ProofLineModel", "layOut", "(I)V"⟩, 45)]
theorem lw_r4 : ∀ q ∈ lw_privs_4, lw_okq q := List.forall_mem_cons.mpr ⟨lw_p48, List.forall_mem_cons.mpr ⟨lw_p49, List.forall_mem_cons.mpr ⟨lw_p50, List.forall_mem_cons.mpr ⟨lw_p51, List.forall_mem_cons.mpr ⟨lw_p52, List.forall_mem_cons.mpr ⟨lw_p53, List.forall_mem_cons.mpr ⟨lw_p54, List.forall_mem_cons.mpr ⟨lw_p55, List.forall_mem_cons.mpr ⟨lw_p56, List.forall_mem_cons.mpr ⟨lw_p57, List.forall_mem_cons.mpr ⟨lw_p58, List.forall_mem_cons.mpr ⟨lw_p59, List.forall_mem_cons.mpr ⟨lw_p60, List.forall_mem_cons.mpr ⟨lw_p61, List.forall_mem_cons.mpr ⟨lw_p62, List.forall_mem_cons.mpr ⟨lw_p63, fun _ h => absurd h List.not_mem_nil⟩⟩⟩⟩⟩⟩⟩⟩⟩⟩⟩⟩⟩⟩⟩⟩
theorem lw_p64 : lw_okq (⟨"ProofLineModel", "sort", "(I)I"⟩, 45) := ⟨⟨by decide +kernel, by decide +kernel⟩, List.mem_of_getElem? (i := 753) (by decide +kernel), List.mem_of_getElem? (i := 1036) (by decide +kernel), List.mem_of_getElem? (i := 1037) (by decide +kernel)⟩
theorem lw_p65 : lw_okq (⟨"ProofLineModel", "bound", "(I)V"⟩, 45) := ⟨⟨by decide +kernel, by decide +kernel⟩, List.mem_of_getElem? (i := 753) (by decide +kernel), List.mem_of_getElem? (i := 1040) (by decide +kernel), List.mem_of_getElem? (i := 1041) (by decide +kernel)⟩
theorem lw_p66 : lw_okq (⟨"ProofLineModel", "tell", "()V"⟩, 45) := ⟨⟨by decide +kernel, by decide +kernel⟩, List.mem_of_getElem? (i := 753) (by decide +kernel), List.mem_of_getElem? (i := 1048) (by decide +kernel), List.mem_of_getElem? (i := 1049) (by decide +kernel)⟩
theorem lw_p67 : lw_okq (⟨"ProofLineModel", "later", "(II)V"⟩, 45) := ⟨⟨by decide +kernel, by decide +kernel⟩, List.mem_of_getElem? (i := 753) (by decide +kernel), List.mem_of_getElem? (i := 1052) (by decide +kernel), List.mem_of_getElem? (i := 1053) (by decide +kernel)⟩
theorem lw_p68 : lw_okq (⟨"ProofLineModel", "write", "(C)V"⟩, 45) := ⟨⟨by decide +kernel, by decide +kernel⟩, List.mem_of_getElem? (i := 753) (by decide +kernel), List.mem_of_getElem? (i := 1056) (by decide +kernel), List.mem_of_getElem? (i := 1057) (by decide +kernel)⟩
theorem lw_p69 : lw_okq (⟨"ProofLineModel", "tellPart", "(II)V"⟩, 45) := ⟨⟨by decide +kernel, by decide +kernel⟩, List.mem_of_getElem? (i := 753) (by decide +kernel), List.mem_of_getElem? (i := 1060) (by decide +kernel), List.mem_of_getElem? (i := 1061) (by decide +kernel)⟩
theorem lw_p70 : lw_okq (⟨"ProofLineModel", "numberAt", "(I)I"⟩, 45) := ⟨⟨by decide +kernel, by decide +kernel⟩, List.mem_of_getElem? (i := 753) (by decide +kernel), List.mem_of_getElem? (i := 1064) (by decide +kernel), List.mem_of_getElem? (i := 1065) (by decide +kernel)⟩
theorem lw_p71 : lw_okq (⟨"ProofLineModel", "laterTerm", "(IIZ)V"⟩, 45) := ⟨⟨by decide +kernel, by decide +kernel⟩, List.mem_of_getElem? (i := 753) (by decide +kernel), List.mem_of_getElem? (i := 1068) (by decide +kernel), List.mem_of_getElem? (i := 1069) (by decide +kernel)⟩
theorem lw_p72 : lw_okq (⟨"ProofLineModel", "laterSign", "(C)V"⟩, 45) := ⟨⟨by decide +kernel, by decide +kernel⟩, List.mem_of_getElem? (i := 753) (by decide +kernel), List.mem_of_getElem? (i := 1072) (by decide +kernel), List.mem_of_getElem? (i := 1073) (by decide +kernel)⟩
theorem lw_p73 : lw_okq (⟨"ProofLineModel", "isUsed", "(II)Z"⟩, 45) := ⟨⟨by decide +kernel, by decide +kernel⟩, List.mem_of_getElem? (i := 753) (by decide +kernel), List.mem_of_getElem? (i := 1076) (by decide +kernel), List.mem_of_getElem? (i := 1077) (by decide +kernel)⟩
theorem lw_p74 : lw_okq (⟨"ProofLineModel", "has", "(I)Z"⟩, 45) := ⟨⟨by decide +kernel, by decide +kernel⟩, List.mem_of_getElem? (i := 753) (by decide +kernel), List.mem_of_getElem? (i := 1088) (by decide +kernel), List.mem_of_getElem? (i := 1089) (by decide +kernel)⟩
def lw_privs_5 : List (MethodName × Nat) := [(⟨"ProofLineModel", "sort", "(I)I"⟩, 45), (⟨"ProofLineModel", "bound", "(I)V"⟩, 45), (⟨"ProofLineModel", "tell", "()V"⟩, 45), (⟨"ProofLineModel", "later", "(II)V"⟩, 45), (⟨"ProofLineModel", "write", "(C)V"⟩, 45), (⟨"ProofLineModel", "tellPart", "(II)V"⟩, 45), (⟨"ProofLineModel", "numberAt", "(I)I"⟩, 45), (⟨"ProofLineModel", "laterTerm", "(IIZ)V"⟩, 45), (⟨"ProofLineModel", "laterSign", "(C)V"⟩, 45), (⟨"ProofLineModel", "isUsed", "(II)Z"⟩, 45), (⟨"ProofLineModel", "has", "(I)Z"⟩, 45)]
theorem lw_r5 : ∀ q ∈ lw_privs_5, lw_okq q := List.forall_mem_cons.mpr ⟨lw_p64, List.forall_mem_cons.mpr ⟨lw_p65, List.forall_mem_cons.mpr ⟨lw_p66, List.forall_mem_cons.mpr ⟨lw_p67, List.forall_mem_cons.mpr ⟨lw_p68, List.forall_mem_cons.mpr ⟨lw_p69, List.forall_mem_cons.mpr ⟨lw_p70, List.forall_mem_cons.mpr ⟨lw_p71, List.forall_mem_cons.mpr ⟨lw_p72, List.forall_mem_cons.mpr ⟨lw_p73, List.forall_mem_cons.mpr ⟨lw_p74, fun _ h => absurd h List.not_mem_nil⟩⟩⟩⟩⟩⟩⟩⟩⟩⟩⟩
def lw_privs : List (MethodName × Nat) := lw_privs_1 ++ (lw_privs_2 ++ (lw_privs_3 ++ (lw_privs_4 ++ (lw_privs_5))))
def lw_tbl : List Cond := k2_sels lw_privs ++ tables_1
theorem lw_privs_ok : ∀ q ∈ lw_privs, lw_okq q := by
  show ∀ q ∈ lw_privs_1 ++ (lw_privs_2 ++ (lw_privs_3 ++ (lw_privs_4 ++ (lw_privs_5)))), lw_okq q
  exact List.forall_mem_append.mpr ⟨lw_r1, List.forall_mem_append.mpr ⟨lw_r2, List.forall_mem_append.mpr ⟨lw_r3, List.forall_mem_append.mpr ⟨lw_r4, lw_r5⟩⟩⟩⟩
def am_T0 : u_T := fun k => match k with
  | 0 => ("ProofLine$Row", "code", "[I", true)
  | 1 => ("ProofLine$Row", "size", "I", false)
  | _ => ("ProofLine$Row", "over", "Z", false)
def am_ty0 : Nat → FieldType := fun k => match k with
  | 0 => .array .int
  | 1 => .int
  | _ => .boolean
def am_T1 : u_T := fun k => match k with
  | 0 => ("ProofLine$Walk", "awaited", "[I", true)
  | 1 => ("ProofLine$Walk", "top", "I", false)
  | _ => ("ProofLine$Walk", "depth", "I", false)
def am_ty1 : Nat → FieldType := fun k => match k with
  | 0 => .array .int
  | 1 => .int
  | _ => .int
def am_T2 : u_T := fun k => match k with
  | 0 => ("ProofLine$Fault", "code", "I", false)
  | _ => ("ProofLine$Fault", "place", "I", false)
def am_ty2 : Nat → FieldType := fun k => match k with
  | 0 => .int
  | _ => .int
def am_T3 : u_T := fun k => match k with
  | 0 => ("ProofLine$Names", "terms", "[LProofLine$Row;", true)
  | 1 => ("ProofLine$Names", "types", "[LProofLine$Row;", true)
  | 2 => ("ProofLine$Names", "told", "[Z", true)
  | _ => ("ProofLine$Names", "howMany", "I", false)
def am_ty3 : Nat → FieldType := fun k => match k with
  | 0 => .array (.object "ProofLine$Row")
  | 1 => .array (.object "ProofLine$Row")
  | 2 => .array .boolean
  | _ => .int
def am_T4 : u_T := fun k => match k with
  | 0 => ("ProofLine$Copier", "inPart", "LProofLine$Walk;", true)
  | _ => ("ProofLine$Copier", "inBody", "LProofLine$Walk;", true)
def am_ty4 : Nat → FieldType := fun k => match k with
  | 0 => .object "ProofLine$Walk"
  | _ => .object "ProofLine$Walk"
def am_T5 : u_T := fun k => match k with
  | 0 => ("ProofLine$Reader", "names", "LProofLine$Names;", true)
  | 1 => ("ProofLine$Reader", "fault", "LProofLine$Fault;", true)
  | 2 => ("ProofLine$Reader", "tokens", "LProofLine$Row;", true)
  | 3 => ("ProofLine$Reader", "places", "[I", true)
  | 4 => ("ProofLine$Reader", "bound", "[C", true)
  | 5 => ("ProofLine$Reader", "boundCount", "I", false)
  | 6 => ("ProofLine$Reader", "state", "I", false)
  | 7 => ("ProofLine$Reader", "rowStart", "I", false)
  | 8 => ("ProofLine$Reader", "loneDigit", "I", false)
  | 9 => ("ProofLine$Reader", "letter", "C", false)
  | 10 => ("ProofLine$Reader", "closing", "[C", true)
  | 11 => ("ProofLine$Reader", "openLetter", "[C", true)
  | 12 => ("ProofLine$Reader", "openPlace", "[I", true)
  | 13 => ("ProofLine$Reader", "openStart", "[I", true)
  | 14 => ("ProofLine$Reader", "outerRow", "[I", true)
  | 15 => ("ProofLine$Reader", "outerBound", "[I", true)
  | _ => ("ProofLine$Reader", "openCount", "I", false)
def am_ty5 : Nat → FieldType := fun k => match k with
  | 0 => .object "ProofLine$Names"
  | 1 => .object "ProofLine$Fault"
  | 2 => .object "ProofLine$Row"
  | 3 => .array .int
  | 4 => .array .char
  | 5 => .int
  | 6 => .int
  | 7 => .int
  | 8 => .int
  | 9 => .char
  | 10 => .array .char
  | 11 => .array .char
  | 12 => .array .int
  | 13 => .array .int
  | 14 => .array .int
  | 15 => .array .int
  | _ => .int
def am_T6 : u_T := fun k => match k with
  | 0 => ("ProofLine$Reducer", "names", "LProofLine$Names;", true)
  | 1 => ("ProofLine$Reducer", "copier", "LProofLine$Copier;", true)
  | _ => ("ProofLine$Reducer", "next", "LProofLine$Row;", true)
def am_ty6 : Nat → FieldType := fun k => match k with
  | 0 => .object "ProofLine$Names"
  | 1 => .object "ProofLine$Copier"
  | _ => .object "ProofLine$Row"
def am_T7 : u_T := fun k => match k with
  | 0 => ("ProofLine$Typist", "reader", "LProofLine$Reader;", true)
  | 1 => ("ProofLine$Typist", "tokens", "LProofLine$Row;", true)
  | 2 => ("ProofLine$Typist", "names", "LProofLine$Names;", true)
  | 3 => ("ProofLine$Typist", "reducer", "LProofLine$Reducer;", true)
  | 4 => ("ProofLine$Typist", "copier", "LProofLine$Copier;", true)
  | 5 => ("ProofLine$Typist", "fault", "LProofLine$Fault;", true)
  | 6 => ("ProofLine$Typist", "types", "[LProofLine$Row;", true)
  | 7 => ("ProofLine$Typist", "result", "LProofLine$Row;", true)
  | 8 => ("ProofLine$Typist", "domains", "[I", true)
  | _ => ("ProofLine$Typist", "domainCount", "I", false)
def am_ty7 : Nat → FieldType := fun k => match k with
  | 0 => .object "ProofLine$Reader"
  | 1 => .object "ProofLine$Row"
  | 2 => .object "ProofLine$Names"
  | 3 => .object "ProofLine$Reducer"
  | 4 => .object "ProofLine$Copier"
  | 5 => .object "ProofLine$Fault"
  | 6 => .array (.object "ProofLine$Row")
  | 7 => .object "ProofLine$Row"
  | 8 => .array .int
  | _ => .int
def am_T8 : u_T := fun k => match k with
  | 0 => ("ProofLine$Writer", "text", "[C", true)
  | 1 => ("ProofLine$Writer", "length", "I", false)
  | 2 => ("ProofLine$Writer", "size", "I", false)
  | _ => ("ProofLine$Writer", "walk", "LProofLine$Walk;", true)
def am_ty8 : Nat → FieldType := fun k => match k with
  | 0 => .array .char
  | 1 => .int
  | 2 => .int
  | _ => .object "ProofLine$Walk"
def am_T9 : u_T := fun k => match k with
  | 0 => ("ProofLine", "line", "[C", true)
  | 1 => ("ProofLine", "lineLength", "I", false)
  | 2 => ("ProofLine", "fault", "LProofLine$Fault;", true)
  | 3 => ("ProofLine", "copier", "LProofLine$Copier;", true)
  | 4 => ("ProofLine", "names", "LProofLine$Names;", true)
  | 5 => ("ProofLine", "reader", "LProofLine$Reader;", true)
  | 6 => ("ProofLine", "reducer", "LProofLine$Reducer;", true)
  | 7 => ("ProofLine", "typist", "LProofLine$Typist;", true)
  | 8 => ("ProofLine", "writer", "LProofLine$Writer;", true)
  | 9 => ("ProofLine", "work", "LProofLine$Row;", true)
  | _ => ("ProofLine", "second", "LProofLine$Row;", true)
def am_ty9 : Nat → FieldType := fun k => match k with
  | 0 => .array .char
  | 1 => .int
  | 2 => .object "ProofLine$Fault"
  | 3 => .object "ProofLine$Copier"
  | 4 => .object "ProofLine$Names"
  | 5 => .object "ProofLine$Reader"
  | 6 => .object "ProofLine$Reducer"
  | 7 => .object "ProofLine$Typist"
  | 8 => .object "ProofLine$Writer"
  | 9 => .object "ProofLine$Row"
  | _ => .object "ProofLine$Row"
def am_T10 : u_T := fun k => match k with
  | 0 => ("ProofLineModel", "recType", "[I", true)
  | 1 => ("ProofLineModel", "refusal", "I", false)
  | 2 => ("ProofLineModel", "line", "[C", true)
  | 3 => ("ProofLineModel", "lineSize", "I", false)
  | 4 => ("ProofLineModel", "faultPlace", "I", false)
  | 5 => ("ProofLineModel", "out", "[C", true)
  | 6 => ("ProofLineModel", "outSize", "I", false)
  | 7 => ("ProofLineModel", "written", "I", false)
  | 8 => ("ProofLineModel", "termOf", "[I", true)
  | 9 => ("ProofLineModel", "termSize", "[I", true)
  | 10 => ("ProofLineModel", "typeOf", "[I", true)
  | 11 => ("ProofLineModel", "typeSize", "[I", true)
  | 12 => ("ProofLineModel", "parts", "I", false)
  | 13 => ("ProofLineModel", "sign", "[I", true)
  | 14 => ("ProofLineModel", "one", "[I", true)
  | 15 => ("ProofLineModel", "two", "[I", true)
  | 16 => ("ProofLineModel", "place", "[I", true)
  | 17 => ("ProofLineModel", "top", "I", false)
  | 18 => ("ProofLineModel", "open", "I", false)
  | 19 => ("ProofLineModel", "openKind", "[I", true)
  | 20 => ("ProofLineModel", "openPart", "[I", true)
  | 21 => ("ProofLineModel", "openPlace", "[I", true)
  | 22 => ("ProofLineModel", "openSign", "[I", true)
  | 23 => ("ProofLineModel", "openLetter", "[I", true)
  | 24 => ("ProofLineModel", "scope", "I", false)
  | 25 => ("ProofLineModel", "letters", "[I", true)
  | 26 => ("ProofLineModel", "row", "[I", true)
  | 27 => ("ProofLineModel", "size", "I", false)
  | 28 => ("ProofLineModel", "other", "[I", true)
  | 29 => ("ProofLineModel", "otherSize", "I", false)
  | 30 => ("ProofLineModel", "depths", "[I", true)
  | 31 => ("ProofLineModel", "own", "[I", true)
  | 32 => ("ProofLineModel", "arg", "[I", true)
  | 33 => ("ProofLineModel", "argSize", "I", false)
  | 34 => ("ProofLineModel", "pile", "I", false)
  | 35 => ("ProofLineModel", "pilePart", "[I", true)
  | 36 => ("ProofLineModel", "pileStage", "[I", true)
  | 37 => ("ProofLineModel", "pileType", "[I", true)
  | 38 => ("ProofLineModel", "letterType", "[I", true)
  | 39 => ("ProofLineModel", "letterSize", "[I", true)
  | 40 => ("ProofLineModel", "fault", "I", false)
  | 41 => ("ProofLineModel", "todo", "[I", true)
  | 42 => ("ProofLineModel", "todoDepth", "[I", true)
  | 43 => ("ProofLineModel", "todos", "I", false)
  | _ => ("ProofLineModel", "spare", "[I", true)
def am_ty10 : Nat → FieldType := fun k => match k with
  | 0 => .array .int
  | 1 => .int
  | 2 => .array .char
  | 3 => .int
  | 4 => .int
  | 5 => .array .char
  | 6 => .int
  | 7 => .int
  | 8 => .array .int
  | 9 => .array .int
  | 10 => .array .int
  | 11 => .array .int
  | 12 => .int
  | 13 => .array .int
  | 14 => .array .int
  | 15 => .array .int
  | 16 => .array .int
  | 17 => .int
  | 18 => .int
  | 19 => .array .int
  | 20 => .array .int
  | 21 => .array .int
  | 22 => .array .int
  | 23 => .array .int
  | 24 => .int
  | 25 => .array .int
  | 26 => .array .int
  | 27 => .int
  | 28 => .array .int
  | 29 => .int
  | 30 => .array .int
  | 31 => .array .int
  | 32 => .array .int
  | 33 => .int
  | 34 => .int
  | 35 => .array .int
  | 36 => .array .int
  | 37 => .array .int
  | 38 => .array .int
  | 39 => .array .int
  | 40 => .int
  | 41 => .array .int
  | 42 => .array .int
  | 43 => .int
  | _ => .array .int
def am_cl : List vw_C := [("ProofLine$Row", am_T0, 3), ("ProofLine$Walk", am_T1, 3), ("ProofLine$Fault", am_T2, 2), ("ProofLine$Names", am_T3, 4), ("ProofLine$Copier", am_T4, 2), ("ProofLine$Reader", am_T5, 17), ("ProofLine$Reducer", am_T6, 3), ("ProofLine$Typist", am_T7, 10), ("ProofLine$Writer", am_T8, 4), ("ProofLine", am_T9, 11), ("ProofLineModel", am_T10, 45)]
def am_tyL : List (Nat → FieldType) := [am_ty0, am_ty1, am_ty2, am_ty3, am_ty4, am_ty5, am_ty6, am_ty7, am_ty8, am_ty9, am_ty10]
def am_dfs : List (List Value) := [[.null, .int 0, .int 0], [.null, .int 0, .int 0], [.int 0, .int 0], [.null, .null, .null, .int 0], [.null, .null], [.null, .null, .null, .null, .null, .int 0, .int 0, .int 0, .int 0, .int 0, .null, .null, .null, .null, .null, .null, .int 0], [.null, .null, .null], [.null, .null, .null, .null, .null, .null, .null, .null, .null, .int 0], [.null, .int 0, .int 0, .null], [.null, .int 0, .null, .null, .null, .null, .null, .null, .null, .null, .null], [.null, .int 0, .null, .int 0, .int 0, .null, .int 0, .int 0, .null, .null, .null, .null, .int 0, .null, .null, .null, .null, .int 0, .int 0, .null, .null, .null, .null, .null, .int 0, .null, .null, .int 0, .null, .int 0, .null, .null, .null, .int 0, .int 0, .null, .null, .null, .null, .null, .int 0, .null, .null, .int 0, .null]]
def am_own : List String := ["ProofLine$Row", "ProofLine$Walk", "ProofLine$Fault", "ProofLine$Names", "ProofLine$Copier", "ProofLine$Reader", "ProofLine$Reducer", "ProofLine$Typist", "ProofLine$Writer", "ProofLine", "ProofLineModel", "ProofLineLaw", "java/lang/Math"]
def am_cwH : List (List Nat) := [[174, 176, 178], [135, 137, 139], [112, 114], [190, 192, 194, 196], [145, 147], [253, 255, 257, 259, 261, 263, 265, 267, 269, 271, 273, 275, 277, 279, 281, 283, 285], [299, 301, 303], [324, 326, 328, 330, 332, 334, 336, 338, 340, 342], [214, 216, 218, 220], [356, 358, 360, 362, 364, 366, 368, 370, 372, 374, 376], [879, 881, 883, 885, 887, 889, 891, 893, 895, 897, 899, 901, 903, 905, 907, 909, 911, 913, 915, 917, 919, 921, 923, 925, 927, 929, 931, 933, 935, 937, 939, 941, 943, 945, 947, 949, 951, 953, 955, 957, 959, 961, 963, 965, 967]]
def am_TB : List Cond := lw_tbl.filter goodWord
/-- the words of private members of nest mates: these hold as long as the tables only warm -/
def am_isN (w : Cond) : Bool := match w with
  | .fieldLinkNest _ _ _ _ _ _ => true
  | .methodLinkNest _ _ _ _ => true
  | .arrayOver (.object _) => true
  | .declares _ => true
  | .castable _ _ => true
  | _ => false
def am_NB : List Cond := lw_tbl.filter am_isN
def am_recL : List Int32 := [2, 2, 5, 3, 2, 0, 50, 6, 2, 2, 5, 2, 0, 52, 50, 0, 53, 0, 7, 51, 2, 5, 0, 53, 50]
def am_rec (j : Nat) : Int32 := am_recL.getD j 0
def am_rowC : Nat := 0
def am_rowN : String := "ProofLine$Row"
def am_recO : String := "ProofLine"
def am_recF : String := "RECURSION_TYPE"
theorem am_rowOk : ∃ (T : u_T) (N : Nat), am_cl[am_rowC]? = some (am_rowN, T, N) := ⟨am_T0, 3, rfl⟩
