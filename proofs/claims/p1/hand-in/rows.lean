section
-- ===== PART A: goes FIRST, ahead of the names: the tables' words, and 'selects' of the private methods out of them =====
/-- a private method of a class that the tables say can be made, by its rows of tables_1 -/
def lw_okq (q : MethodName × Nat) : Prop := (q.1.cls ≠ "java/lang/invoke/MethodHandle" ∧ q.1.cls ≠ "java/lang/invoke/VarHandle") ∧ Cond.instantiable q.1.cls q.2 ∈ tables_1 ∧ Cond.privateMethod q.1 ∈ tables_1 ∧ Cond.instanceMethod q.1 ∈ tables_1
theorem lw_p0 : lw_okq (⟨"PepperTables$Told", "beginFormula", "()V"⟩, 19) := ⟨⟨by decide +kernel, by decide +kernel⟩, List.mem_of_getElem? (i := 34) (by decide +kernel), List.mem_of_getElem? (i := 40) (by decide +kernel), List.mem_of_getElem? (i := 41) (by decide +kernel)⟩
theorem lw_p1 : lw_okq (⟨"PepperTables$Reader", "step", "()V"⟩, 11) := ⟨⟨by decide +kernel, by decide +kernel⟩, List.mem_of_getElem? (i := 28) (by decide +kernel), List.mem_of_getElem? (i := 459) (by decide +kernel), List.mem_of_getElem? (i := 460) (by decide +kernel)⟩
theorem lw_p2 : lw_okq (⟨"PepperTables$Reader", "stepWord", "()V"⟩, 11) := ⟨⟨by decide +kernel, by decide +kernel⟩, List.mem_of_getElem? (i := 28) (by decide +kernel), List.mem_of_getElem? (i := 463) (by decide +kernel), List.mem_of_getElem? (i := 464) (by decide +kernel)⟩
theorem lw_p3 : lw_okq (⟨"PepperTables$Reader", "stepNumber", "()V"⟩, 11) := ⟨⟨by decide +kernel, by decide +kernel⟩, List.mem_of_getElem? (i := 28) (by decide +kernel), List.mem_of_getElem? (i := 467) (by decide +kernel), List.mem_of_getElem? (i := 468) (by decide +kernel)⟩
theorem lw_p4 : lw_okq (⟨"PepperTables$Reader", "readLine", "()V"⟩, 11) := ⟨⟨by decide +kernel, by decide +kernel⟩, List.mem_of_getElem? (i := 28) (by decide +kernel), List.mem_of_getElem? (i := 531) (by decide +kernel), List.mem_of_getElem? (i := 532) (by decide +kernel)⟩
theorem lw_p5 : lw_okq (⟨"PepperTables$Reader", "readPerson", "()V"⟩, 11) := ⟨⟨by decide +kernel, by decide +kernel⟩, List.mem_of_getElem? (i := 28) (by decide +kernel), List.mem_of_getElem? (i := 535) (by decide +kernel), List.mem_of_getElem? (i := 536) (by decide +kernel)⟩
theorem lw_p6 : lw_okq (⟨"PepperTables$Reader", "refuse", "()V"⟩, 11) := ⟨⟨by decide +kernel, by decide +kernel⟩, List.mem_of_getElem? (i := 28) (by decide +kernel), List.mem_of_getElem? (i := 539) (by decide +kernel), List.mem_of_getElem? (i := 540) (by decide +kernel)⟩
theorem lw_p7 : lw_okq (⟨"PepperTables$Reader", "fail", "(I)V"⟩, 11) := ⟨⟨by decide +kernel, by decide +kernel⟩, List.mem_of_getElem? (i := 28) (by decide +kernel), List.mem_of_getElem? (i := 543) (by decide +kernel), List.mem_of_getElem? (i := 544) (by decide +kernel)⟩
theorem lw_p8 : lw_okq (⟨"PepperTables$Reader", "takeNewName", "([JI)V"⟩, 11) := ⟨⟨by decide +kernel, by decide +kernel⟩, List.mem_of_getElem? (i := 28) (by decide +kernel), List.mem_of_getElem? (i := 547) (by decide +kernel), List.mem_of_getElem? (i := 548) (by decide +kernel)⟩
theorem lw_p9 : lw_okq (⟨"PepperTables$Reader", "indexOfName", "([JI)I"⟩, 11) := ⟨⟨by decide +kernel, by decide +kernel⟩, List.mem_of_getElem? (i := 28) (by decide +kernel), List.mem_of_getElem? (i := 551) (by decide +kernel), List.mem_of_getElem? (i := 552) (by decide +kernel)⟩
theorem lw_p10 : lw_okq (⟨"PepperTables$Reader", "takeNumber", "(II)I"⟩, 11) := ⟨⟨by decide +kernel, by decide +kernel⟩, List.mem_of_getElem? (i := 28) (by decide +kernel), List.mem_of_getElem? (i := 555) (by decide +kernel), List.mem_of_getElem? (i := 556) (by decide +kernel)⟩
theorem lw_p11 : lw_okq (⟨"PepperTables$Reader", "readSack", "()V"⟩, 11) := ⟨⟨by decide +kernel, by decide +kernel⟩, List.mem_of_getElem? (i := 28) (by decide +kernel), List.mem_of_getElem? (i := 559) (by decide +kernel), List.mem_of_getElem? (i := 560) (by decide +kernel)⟩
theorem lw_p12 : lw_okq (⟨"PepperTables$Reader", "readThing", "()V"⟩, 11) := ⟨⟨by decide +kernel, by decide +kernel⟩, List.mem_of_getElem? (i := 28) (by decide +kernel), List.mem_of_getElem? (i := 563) (by decide +kernel), List.mem_of_getElem? (i := 564) (by decide +kernel)⟩
theorem lw_p13 : lw_okq (⟨"PepperTables$Reader", "take", "(I)V"⟩, 11) := ⟨⟨by decide +kernel, by decide +kernel⟩, List.mem_of_getElem? (i := 28) (by decide +kernel), List.mem_of_getElem? (i := 567) (by decide +kernel), List.mem_of_getElem? (i := 568) (by decide +kernel)⟩
theorem lw_p14 : lw_okq (⟨"PepperTables$Reader", "takeKnownName", "([JII)I"⟩, 11) := ⟨⟨by decide +kernel, by decide +kernel⟩, List.mem_of_getElem? (i := 28) (by decide +kernel), List.mem_of_getElem? (i := 571) (by decide +kernel), List.mem_of_getElem? (i := 572) (by decide +kernel)⟩
theorem lw_p15 : lw_okq (⟨"PepperTables$Reader", "readFormula", "()V"⟩, 11) := ⟨⟨by decide +kernel, by decide +kernel⟩, List.mem_of_getElem? (i := 28) (by decide +kernel), List.mem_of_getElem? (i := 575) (by decide +kernel), List.mem_of_getElem? (i := 576) (by decide +kernel)⟩
def lw_privs_1 : List (MethodName × Nat) := [(⟨"PepperTables$Told", "beginFormula", "()V"⟩, 19), (⟨"PepperTables$Reader", "step", "()V"⟩, 11), (⟨"PepperTables$Reader", "stepWord", "()V"⟩, 11), (⟨"PepperTables$Reader", "stepNumber", "()V"⟩, 11), (⟨"PepperTables$Reader", "readLine", "()V"⟩, 11), (⟨"PepperTables$Reader", "readPerson", "()V"⟩, 11), (⟨"PepperTables$Reader", "refuse", "()V"⟩, 11), (⟨"PepperTables$Reader", "fail", "(I)V"⟩, 11), (⟨"PepperTables$Reader", "takeNewName", "([JI)V"⟩, 11), (⟨"PepperTables$Reader", "indexOfName", "([JI)I"⟩, 11), (⟨"PepperTables$Reader", "takeNumber", "(II)I"⟩, 11), (⟨"PepperTables$Reader", "readSack", "()V"⟩, 11), (⟨"PepperTables$Reader", "readThing", "()V"⟩, 11), (⟨"PepperTables$Reader", "take", "(I)V"⟩, 11), (⟨"PepperTables$Reader", "takeKnownName", "([JII)I"⟩, 11), (⟨"PepperTables$Reader", "readFormula", "()V"⟩, 11)]
theorem lw_r1 : ∀ q ∈ lw_privs_1, lw_okq q := List.forall_mem_cons.mpr ⟨lw_p0, List.forall_mem_cons.mpr ⟨lw_p1, List.forall_mem_cons.mpr ⟨lw_p2, List.forall_mem_cons.mpr ⟨lw_p3, List.forall_mem_cons.mpr ⟨lw_p4, List.forall_mem_cons.mpr ⟨lw_p5, List.forall_mem_cons.mpr ⟨lw_p6, List.forall_mem_cons.mpr ⟨lw_p7, List.forall_mem_cons.mpr ⟨lw_p8, List.forall_mem_cons.mpr ⟨lw_p9, List.forall_mem_cons.mpr ⟨lw_p10, List.forall_mem_cons.mpr ⟨lw_p11, List.forall_mem_cons.mpr ⟨lw_p12, List.forall_mem_cons.mpr ⟨lw_p13, List.forall_mem_cons.mpr ⟨lw_p14, List.forall_mem_cons.mpr ⟨lw_p15, fun _ h => absurd h List.not_mem_nil⟩⟩⟩⟩⟩⟩⟩⟩⟩⟩⟩⟩⟩⟩⟩⟩
theorem lw_p16 : lw_okq (⟨"PepperTables$Reader", "readEither", "(I)V"⟩, 11) := ⟨⟨by decide +kernel, by decide +kernel⟩, List.mem_of_getElem? (i := 28) (by decide +kernel), List.mem_of_getElem? (i := 579) (by decide +kernel), List.mem_of_getElem? (i := 580) (by decide +kernel)⟩
theorem lw_p17 : lw_okq (⟨"PepperTables$Reader", "readBoth", "(I)V"⟩, 11) := ⟨⟨by decide +kernel, by decide +kernel⟩, List.mem_of_getElem? (i := 28) (by decide +kernel), List.mem_of_getElem? (i := 583) (by decide +kernel), List.mem_of_getElem? (i := 584) (by decide +kernel)⟩
theorem lw_p18 : lw_okq (⟨"PepperTables$Reader", "readOne", "(I)V"⟩, 11) := ⟨⟨by decide +kernel, by decide +kernel⟩, List.mem_of_getElem? (i := 28) (by decide +kernel), List.mem_of_getElem? (i := 587) (by decide +kernel), List.mem_of_getElem? (i := 588) (by decide +kernel)⟩
theorem lw_p19 : lw_okq (⟨"PepperTables$Reader", "write", "(I)V"⟩, 11) := ⟨⟨by decide +kernel, by decide +kernel⟩, List.mem_of_getElem? (i := 28) (by decide +kernel), List.mem_of_getElem? (i := 591) (by decide +kernel), List.mem_of_getElem? (i := 592) (by decide +kernel)⟩
theorem lw_p20 : lw_okq (⟨"PepperTables$Reader", "readSum", "(I)V"⟩, 11) := ⟨⟨by decide +kernel, by decide +kernel⟩, List.mem_of_getElem? (i := 28) (by decide +kernel), List.mem_of_getElem? (i := 595) (by decide +kernel), List.mem_of_getElem? (i := 596) (by decide +kernel)⟩
theorem lw_p21 : lw_okq (⟨"PepperTables$Reader", "readTerm", "(I)V"⟩, 11) := ⟨⟨by decide +kernel, by decide +kernel⟩, List.mem_of_getElem? (i := 28) (by decide +kernel), List.mem_of_getElem? (i := 599) (by decide +kernel), List.mem_of_getElem? (i := 600) (by decide +kernel)⟩
theorem lw_p22 : lw_okq (⟨"PepperTables$Reader", "readUnit", "(I)V"⟩, 11) := ⟨⟨by decide +kernel, by decide +kernel⟩, List.mem_of_getElem? (i := 28) (by decide +kernel), List.mem_of_getElem? (i := 603) (by decide +kernel), List.mem_of_getElem? (i := 604) (by decide +kernel)⟩
theorem lw_p23 : lw_okq (⟨"PepperTables$Reader", "readSneeze", "()V"⟩, 11) := ⟨⟨by decide +kernel, by decide +kernel⟩, List.mem_of_getElem? (i := 28) (by decide +kernel), List.mem_of_getElem? (i := 607) (by decide +kernel), List.mem_of_getElem? (i := 608) (by decide +kernel)⟩
theorem lw_p24 : lw_okq (⟨"PepperTables$Reader", "readDraw", "()V"⟩, 11) := ⟨⟨by decide +kernel, by decide +kernel⟩, List.mem_of_getElem? (i := 28) (by decide +kernel), List.mem_of_getElem? (i := 611) (by decide +kernel), List.mem_of_getElem? (i := 612) (by decide +kernel)⟩
theorem lw_p25 : lw_okq (⟨"PepperTables", "isPerson", "(I)Z"⟩, 12) := ⟨⟨by decide +kernel, by decide +kernel⟩, List.mem_of_getElem? (i := 20) (by decide +kernel), List.mem_of_getElem? (i := 646) (by decide +kernel), List.mem_of_getElem? (i := 647) (by decide +kernel)⟩
theorem lw_p26 : lw_okq (⟨"PepperTables", "isThing", "(I)Z"⟩, 12) := ⟨⟨by decide +kernel, by decide +kernel⟩, List.mem_of_getElem? (i := 20) (by decide +kernel), List.mem_of_getElem? (i := 670) (by decide +kernel), List.mem_of_getElem? (i := 671) (by decide +kernel)⟩
theorem lw_p27 : lw_okq (⟨"PepperTables", "isSack", "(I)Z"⟩, 12) := ⟨⟨by decide +kernel, by decide +kernel⟩, List.mem_of_getElem? (i := 20) (by decide +kernel), List.mem_of_getElem? (i := 678) (by decide +kernel), List.mem_of_getElem? (i := 679) (by decide +kernel)⟩
theorem lw_p28 : lw_okq (⟨"PepperTables$Mill", "operand", "(I)I"⟩, 3) := ⟨⟨by decide +kernel, by decide +kernel⟩, List.mem_of_getElem? (i := 274) (by decide +kernel), List.mem_of_getElem? (i := 725) (by decide +kernel), List.mem_of_getElem? (i := 726) (by decide +kernel)⟩
theorem lw_p29 : lw_okq (⟨"PepperTables", "isSitting", "(I)Z"⟩, 12) := ⟨⟨by decide +kernel, by decide +kernel⟩, List.mem_of_getElem? (i := 20) (by decide +kernel), List.mem_of_getElem? (i := 736) (by decide +kernel), List.mem_of_getElem? (i := 737) (by decide +kernel)⟩
theorem lw_p30 : lw_okq (⟨"PepperTables", "isKept", "(I)Z"⟩, 12) := ⟨⟨by decide +kernel, by decide +kernel⟩, List.mem_of_getElem? (i := 20) (by decide +kernel), List.mem_of_getElem? (i := 764) (by decide +kernel), List.mem_of_getElem? (i := 765) (by decide +kernel)⟩
theorem lw_p31 : lw_okq (⟨"PepperTables", "sneezed", "()I"⟩, 12) := ⟨⟨by decide +kernel, by decide +kernel⟩, List.mem_of_getElem? (i := 20) (by decide +kernel), List.mem_of_getElem? (i := 772) (by decide +kernel), List.mem_of_getElem? (i := 773) (by decide +kernel)⟩
def lw_privs_2 : List (MethodName × Nat) := [(⟨"PepperTables$Reader", "readEither", "(I)V"⟩, 11), (⟨"PepperTables$Reader", "readBoth", "(I)V"⟩, 11), (⟨"PepperTables$Reader", "readOne", "(I)V"⟩, 11), (⟨"PepperTables$Reader", "write", "(I)V"⟩, 11), (⟨"PepperTables$Reader", "readSum", "(I)V"⟩, 11), (⟨"PepperTables$Reader", "readTerm", "(I)V"⟩, 11), (⟨"PepperTables$Reader", "readUnit", "(I)V"⟩, 11), (⟨"PepperTables$Reader", "readSneeze", "()V"⟩, 11), (⟨"PepperTables$Reader", "readDraw", "()V"⟩, 11), (⟨"PepperTables", "isPerson", "(I)Z"⟩, 12), (⟨"PepperTables", "isThing", "(I)Z"⟩, 12), (⟨"PepperTables", "isSack", "(I)Z"⟩, 12), (⟨"PepperTables$Mill", "operand", "(I)I"⟩, 3), (⟨"PepperTables", "isSitting", "(I)Z"⟩, 12), (⟨"PepperTables", "isKept", "(I)Z"⟩, 12), (⟨"PepperTables", "sneezed", "()I"⟩, 12)]
theorem lw_r2 : ∀ q ∈ lw_privs_2, lw_okq q := List.forall_mem_cons.mpr ⟨lw_p16, List.forall_mem_cons.mpr ⟨lw_p17, List.forall_mem_cons.mpr ⟨lw_p18, List.forall_mem_cons.mpr ⟨lw_p19, List.forall_mem_cons.mpr ⟨lw_p20, List.forall_mem_cons.mpr ⟨lw_p21, List.forall_mem_cons.mpr ⟨lw_p22, List.forall_mem_cons.mpr ⟨lw_p23, List.forall_mem_cons.mpr ⟨lw_p24, List.forall_mem_cons.mpr ⟨lw_p25, List.forall_mem_cons.mpr ⟨lw_p26, List.forall_mem_cons.mpr ⟨lw_p27, List.forall_mem_cons.mpr ⟨lw_p28, List.forall_mem_cons.mpr ⟨lw_p29, List.forall_mem_cons.mpr ⟨lw_p30, List.forall_mem_cons.mpr ⟨lw_p31, fun _ h => absurd h List.not_mem_nil⟩⟩⟩⟩⟩⟩⟩⟩⟩⟩⟩⟩⟩⟩⟩⟩
theorem lw_p32 : lw_okq (⟨"PepperTables", "scoreGrindings", "(I)V"⟩, 12) := ⟨⟨by decide +kernel, by decide +kernel⟩, List.mem_of_getElem? (i := 20) (by decide +kernel), List.mem_of_getElem? (i := 844) (by decide +kernel), List.mem_of_getElem? (i := 845) (by decide +kernel)⟩
theorem lw_p33 : lw_okq (⟨"PepperTables", "scoreOfRow", "(II)I"⟩, 12) := ⟨⟨by decide +kernel, by decide +kernel⟩, List.mem_of_getElem? (i := 20) (by decide +kernel), List.mem_of_getElem? (i := 852) (by decide +kernel), List.mem_of_getElem? (i := 853) (by decide +kernel)⟩
theorem lw_p34 : lw_okq (⟨"PepperTables", "layRow", "(II)V"⟩, 12) := ⟨⟨by decide +kernel, by decide +kernel⟩, List.mem_of_getElem? (i := 20) (by decide +kernel), List.mem_of_getElem? (i := 856) (by decide +kernel), List.mem_of_getElem? (i := 857) (by decide +kernel)⟩
theorem lw_p35 : lw_okq (⟨"PepperTables", "saidIfExchanged", "(III)I"⟩, 12) := ⟨⟨by decide +kernel, by decide +kernel⟩, List.mem_of_getElem? (i := 20) (by decide +kernel), List.mem_of_getElem? (i := 907) (by decide +kernel), List.mem_of_getElem? (i := 908) (by decide +kernel)⟩
theorem lw_p36 : lw_okq (⟨"PepperTables", "reckonGains", "(II)V"⟩, 12) := ⟨⟨by decide +kernel, by decide +kernel⟩, List.mem_of_getElem? (i := 20) (by decide +kernel), List.mem_of_getElem? (i := 923) (by decide +kernel), List.mem_of_getElem? (i := 924) (by decide +kernel)⟩
theorem lw_p37 : lw_okq (⟨"PepperTables", "gainOf", "(II)I"⟩, 12) := ⟨⟨by decide +kernel, by decide +kernel⟩, List.mem_of_getElem? (i := 20) (by decide +kernel), List.mem_of_getElem? (i := 927) (by decide +kernel), List.mem_of_getElem? (i := 928) (by decide +kernel)⟩
theorem lw_p38 : lw_okq (⟨"PepperTables$Lying", "goFurther", "(II)V"⟩, 5) := ⟨⟨by decide +kernel, by decide +kernel⟩, List.mem_of_getElem? (i := 325) (by decide +kernel), List.mem_of_getElem? (i := 943) (by decide +kernel), List.mem_of_getElem? (i := 944) (by decide +kernel)⟩
theorem lw_p39 : lw_okq (⟨"PepperTables", "hottestKeeper", "(I)I"⟩, 12) := ⟨⟨by decide +kernel, by decide +kernel⟩, List.mem_of_getElem? (i := 20) (by decide +kernel), List.mem_of_getElem? (i := 973) (by decide +kernel), List.mem_of_getElem? (i := 974) (by decide +kernel)⟩
theorem lw_p40 : lw_okq (⟨"PepperTables$Hearsay", "reckon", "(LPepperTables$Told;LPepperTables$Mill;)V"⟩, 13) := ⟨⟨by decide +kernel, by decide +kernel⟩, List.mem_of_getElem? (i := 348) (by decide +kernel), List.mem_of_getElem? (i := 1041) (by decide +kernel), List.mem_of_getElem? (i := 1042) (by decide +kernel)⟩
theorem lw_p41 : lw_okq (⟨"PepperTables$Hearsay", "agrees", "(II)Z"⟩, 13) := ⟨⟨by decide +kernel, by decide +kernel⟩, List.mem_of_getElem? (i := 348) (by decide +kernel), List.mem_of_getElem? (i := 1052) (by decide +kernel), List.mem_of_getElem? (i := 1053) (by decide +kernel)⟩
theorem lw_p42 : lw_okq (⟨"PepperTablesModel", "clearBank", "()V"⟩, 65) := ⟨⟨by decide +kernel, by decide +kernel⟩, List.mem_of_getElem? (i := 1095) (by decide +kernel), List.mem_of_getElem? (i := 1101) (by decide +kernel), List.mem_of_getElem? (i := 1102) (by decide +kernel)⟩
theorem lw_p43 : lw_okq (⟨"PepperTablesModel", "startAnew", "()V"⟩, 65) := ⟨⟨by decide +kernel, by decide +kernel⟩, List.mem_of_getElem? (i := 1095) (by decide +kernel), List.mem_of_getElem? (i := 1105) (by decide +kernel), List.mem_of_getElem? (i := 1106) (by decide +kernel)⟩
theorem lw_p44 : lw_okq (⟨"PepperTablesModel", "layTold", "()V"⟩, 65) := ⟨⟨by decide +kernel, by decide +kernel⟩, List.mem_of_getElem? (i := 1095) (by decide +kernel), List.mem_of_getElem? (i := 1109) (by decide +kernel), List.mem_of_getElem? (i := 1110) (by decide +kernel)⟩
theorem lw_p45 : lw_okq (⟨"PepperTablesModel", "many", "()I"⟩, 65) := ⟨⟨by decide +kernel, by decide +kernel⟩, List.mem_of_getElem? (i := 1095) (by decide +kernel), List.mem_of_getElem? (i := 1113) (by decide +kernel), List.mem_of_getElem? (i := 1114) (by decide +kernel)⟩
theorem lw_p46 : lw_okq (⟨"PepperTablesModel", "goOn", "()V"⟩, 65) := ⟨⟨by decide +kernel, by decide +kernel⟩, List.mem_of_getElem? (i := 1095) (by decide +kernel), List.mem_of_getElem? (i := 1317) (by decide +kernel), List.mem_of_getElem? (i := 1318) (by decide +kernel)⟩
theorem lw_p47 : lw_okq (⟨"PepperTablesModel", "sign", "(I)I"⟩, 65) := ⟨⟨by decide +kernel, by decide +kernel⟩, List.mem_of_getElem? (i := 1095) (by decide +kernel), List.mem_of_getElem? (i := 1321) (by decide +kernel), List.mem_of_getElem? (i := 1322) (by decide +kernel)⟩
def lw_privs_3 : List (MethodName × Nat) := [(⟨"PepperTables", "scoreGrindings", "(I)V"⟩, 12), (⟨"PepperTables", "scoreOfRow", "(II)I"⟩, 12), (⟨"PepperTables", "layRow", "(II)V"⟩, 12), (⟨"PepperTables", "saidIfExchanged", "(III)I"⟩, 12), (⟨"PepperTables", "reckonGains", "(II)V"⟩, 12), (⟨"PepperTables", "gainOf", "(II)I"⟩, 12), (⟨"PepperTables$Lying", "goFurther", "(II)V"⟩, 5), (⟨"PepperTables", "hottestKeeper", "(I)I"⟩, 12), (⟨"PepperTables$Hearsay", "reckon", "(LPepperTables$Told;LPepperTables$Mill;)V"⟩, 13), (⟨"PepperTables$Hearsay", "agrees", "(II)Z"⟩, 13), (⟨"PepperTablesModel", "clearBank", "()V"⟩, 65), (⟨"PepperTablesModel", "startAnew", "()V"⟩, 65), (⟨"PepperTablesModel", "layTold", "()V"⟩, 65), (⟨"PepperTablesModel", "many", "()I"⟩, 65), (⟨"PepperTablesModel", "goOn", "()V"⟩, 65), (⟨"PepperTablesModel", "sign", "(I)I"⟩, 65)]
theorem lw_r3 : ∀ q ∈ lw_privs_3, lw_okq q := List.forall_mem_cons.mpr ⟨lw_p32, List.forall_mem_cons.mpr ⟨lw_p33, List.forall_mem_cons.mpr ⟨lw_p34, List.forall_mem_cons.mpr ⟨lw_p35, List.forall_mem_cons.mpr ⟨lw_p36, List.forall_mem_cons.mpr ⟨lw_p37, List.forall_mem_cons.mpr ⟨lw_p38, List.forall_mem_cons.mpr ⟨lw_p39, List.forall_mem_cons.mpr ⟨lw_p40, List.forall_mem_cons.mpr ⟨lw_p41, List.forall_mem_cons.mpr ⟨lw_p42, List.forall_mem_cons.mpr ⟨lw_p43, List.forall_mem_cons.mpr ⟨lw_p44, List.forall_mem_cons.mpr ⟨lw_p45, List.forall_mem_cons.mpr ⟨lw_p46, List.forall_mem_cons.mpr ⟨lw_p47, fun _ h => absurd h List.not_mem_nil⟩⟩⟩⟩⟩⟩⟩⟩⟩⟩⟩⟩⟩⟩⟩⟩
theorem lw_p48 : lw_okq (⟨"PepperTablesModel", "isGood", "()Z"⟩, 65) := ⟨⟨by decide +kernel, by decide +kernel⟩, List.mem_of_getElem? (i := 1095) (by decide +kernel), List.mem_of_getElem? (i := 1355) (by decide +kernel), List.mem_of_getElem? (i := 1356) (by decide +kernel)⟩
theorem lw_p49 : lw_okq (⟨"PepperTablesModel", "readLine", "()V"⟩, 65) := ⟨⟨by decide +kernel, by decide +kernel⟩, List.mem_of_getElem? (i := 1095) (by decide +kernel), List.mem_of_getElem? (i := 1359) (by decide +kernel), List.mem_of_getElem? (i := 1360) (by decide +kernel)⟩
theorem lw_p50 : lw_okq (⟨"PepperTablesModel", "isFull", "()Z"⟩, 65) := ⟨⟨by decide +kernel, by decide +kernel⟩, List.mem_of_getElem? (i := 1095) (by decide +kernel), List.mem_of_getElem? (i := 1363) (by decide +kernel), List.mem_of_getElem? (i := 1364) (by decide +kernel)⟩
theorem lw_p51 : lw_okq (⟨"PepperTablesModel", "isWord", "(J)Z"⟩, 65) := ⟨⟨by decide +kernel, by decide +kernel⟩, List.mem_of_getElem? (i := 1095) (by decide +kernel), List.mem_of_getElem? (i := 1367) (by decide +kernel), List.mem_of_getElem? (i := 1368) (by decide +kernel)⟩
theorem lw_p52 : lw_okq (⟨"PepperTablesModel", "misplaced", "()V"⟩, 65) := ⟨⟨by decide +kernel, by decide +kernel⟩, List.mem_of_getElem? (i := 1095) (by decide +kernel), List.mem_of_getElem? (i := 1374) (by decide +kernel), List.mem_of_getElem? (i := 1375) (by decide +kernel)⟩
theorem lw_p53 : lw_okq (⟨"PepperTablesModel", "fails", "(II)V"⟩, 65) := ⟨⟨by decide +kernel, by decide +kernel⟩, List.mem_of_getElem? (i := 1095) (by decide +kernel), List.mem_of_getElem? (i := 1378) (by decide +kernel), List.mem_of_getElem? (i := 1379) (by decide +kernel)⟩
theorem lw_p54 : lw_okq (⟨"PepperTablesModel", "personHere", "()I"⟩, 65) := ⟨⟨by decide +kernel, by decide +kernel⟩, List.mem_of_getElem? (i := 1095) (by decide +kernel), List.mem_of_getElem? (i := 1382) (by decide +kernel), List.mem_of_getElem? (i := 1383) (by decide +kernel)⟩
theorem lw_p55 : lw_okq (⟨"PepperTablesModel", "here", "([JII)I"⟩, 65) := ⟨⟨by decide +kernel, by decide +kernel⟩, List.mem_of_getElem? (i := 1095) (by decide +kernel), List.mem_of_getElem? (i := 1386) (by decide +kernel), List.mem_of_getElem? (i := 1387) (by decide +kernel)⟩
theorem lw_p56 : lw_okq (⟨"PepperTablesModel", "fresh", "(I)J"⟩, 65) := ⟨⟨by decide +kernel, by decide +kernel⟩, List.mem_of_getElem? (i := 1095) (by decide +kernel), List.mem_of_getElem? (i := 1390) (by decide +kernel), List.mem_of_getElem? (i := 1391) (by decide +kernel)⟩
theorem lw_p57 : lw_okq (⟨"PepperTablesModel", "afterWord", "(JII)I"⟩, 65) := ⟨⟨by decide +kernel, by decide +kernel⟩, List.mem_of_getElem? (i := 1095) (by decide +kernel), List.mem_of_getElem? (i := 1394) (by decide +kernel), List.mem_of_getElem? (i := 1395) (by decide +kernel)⟩
theorem lw_p58 : lw_okq (⟨"PepperTablesModel", "must", "(Z)V"⟩, 65) := ⟨⟨by decide +kernel, by decide +kernel⟩, List.mem_of_getElem? (i := 1095) (by decide +kernel), List.mem_of_getElem? (i := 1398) (by decide +kernel), List.mem_of_getElem? (i := 1399) (by decide +kernel)⟩
theorem lw_p59 : lw_okq (⟨"PepperTablesModel", "numeral", "(II)I"⟩, 65) := ⟨⟨by decide +kernel, by decide +kernel⟩, List.mem_of_getElem? (i := 1095) (by decide +kernel), List.mem_of_getElem? (i := 1402) (by decide +kernel), List.mem_of_getElem? (i := 1403) (by decide +kernel)⟩
theorem lw_p60 : lw_okq (⟨"PepperTablesModel", "sackHere", "()I"⟩, 65) := ⟨⟨by decide +kernel, by decide +kernel⟩, List.mem_of_getElem? (i := 1095) (by decide +kernel), List.mem_of_getElem? (i := 1406) (by decide +kernel), List.mem_of_getElem? (i := 1407) (by decide +kernel)⟩
theorem lw_p61 : lw_okq (⟨"PepperTablesModel", "readThing", "()V"⟩, 65) := ⟨⟨by decide +kernel, by decide +kernel⟩, List.mem_of_getElem? (i := 1095) (by decide +kernel), List.mem_of_getElem? (i := 1410) (by decide +kernel), List.mem_of_getElem? (i := 1411) (by decide +kernel)⟩
theorem lw_p62 : lw_okq (⟨"PepperTablesModel", "known", "(I)I"⟩, 65) := ⟨⟨by decide +kernel, by decide +kernel⟩, List.mem_of_getElem? (i := 1095) (by decide +kernel), List.mem_of_getElem? (i := 1414) (by decide +kernel), List.mem_of_getElem? (i := 1415) (by decide +kernel)⟩
theorem lw_p63 : lw_okq (⟨"PepperTablesModel", "readRule", "()V"⟩, 65) := ⟨⟨by decide +kernel, by decide +kernel⟩, List.mem_of_getElem? (i := 1095) (by decide +kernel), List.mem_of_getElem? (i := 1418) (by decide +kernel), List.mem_of_getElem? (i := 1419) (by decide +kernel)⟩
def lw_privs_4 : List (MethodName × Nat) := [(⟨"PepperTablesModel", "isGood", "()Z"⟩, 65), (⟨"PepperTablesModel", "readLine", "()V"⟩, 65), (⟨"PepperTablesModel", "isFull", "()Z"⟩, 65), (⟨"PepperTablesModel", "isWord", "(J)Z"⟩, 65), (⟨"PepperTablesModel", "misplaced", "()V"⟩, 65), (⟨"PepperTablesModel", "fails", "(II)V"⟩, 65), (⟨"PepperTablesModel", "personHere", "()I"⟩, 65), (⟨"PepperTablesModel", "here", "([JII)I"⟩, 65), (⟨"PepperTablesModel", "fresh", "(I)J"⟩, 65), (⟨"PepperTablesModel", "afterWord", "(JII)I"⟩, 65), (⟨"PepperTablesModel", "must", "(Z)V"⟩, 65), (⟨"PepperTablesModel", "numeral", "(II)I"⟩, 65), (⟨"PepperTablesModel", "sackHere", "()I"⟩, 65), (⟨"PepperTablesModel", "readThing", "()V"⟩, 65), (⟨"PepperTablesModel", "known", "(I)I"⟩, 65), (⟨"PepperTablesModel", "readRule", "()V"⟩, 65)]
theorem lw_r4 : ∀ q ∈ lw_privs_4, lw_okq q := List.forall_mem_cons.mpr ⟨lw_p48, List.forall_mem_cons.mpr ⟨lw_p49, List.forall_mem_cons.mpr ⟨lw_p50, List.forall_mem_cons.mpr ⟨lw_p51, List.forall_mem_cons.mpr ⟨lw_p52, List.forall_mem_cons.mpr ⟨lw_p53, List.forall_mem_cons.mpr ⟨lw_p54, List.forall_mem_cons.mpr ⟨lw_p55, List.forall_mem_cons.mpr ⟨lw_p56, List.forall_mem_cons.mpr ⟨lw_p57, List.forall_mem_cons.mpr ⟨lw_p58, List.forall_mem_cons.mpr ⟨lw_p59, List.forall_mem_cons.mpr ⟨lw_p60, List.forall_mem_cons.mpr ⟨lw_p61, List.forall_mem_cons.mpr ⟨lw_p62, List.forall_mem_cons.mpr ⟨lw_p63, fun _ h => absurd h List.not_mem_nil⟩⟩⟩⟩⟩⟩⟩⟩⟩⟩⟩⟩⟩⟩⟩⟩
theorem lw_p64 : lw_okq (⟨"PepperTablesModel", "e", "()V"⟩, 65) := ⟨⟨by decide +kernel, by decide +kernel⟩, List.mem_of_getElem? (i := 1095) (by decide +kernel), List.mem_of_getElem? (i := 1422) (by decide +kernel), List.mem_of_getElem? (i := 1423) (by decide +kernel)⟩
theorem lw_p65 : lw_okq (⟨"PepperTablesModel", "pushE", "(II)V"⟩, 65) := ⟨⟨by decide +kernel, by decide +kernel⟩, List.mem_of_getElem? (i := 1095) (by decide +kernel), List.mem_of_getElem? (i := 1426) (by decide +kernel), List.mem_of_getElem? (i := 1427) (by decide +kernel)⟩
theorem lw_p66 : lw_okq (⟨"PepperTablesModel", "unit", "()Z"⟩, 65) := ⟨⟨by decide +kernel, by decide +kernel⟩, List.mem_of_getElem? (i := 1095) (by decide +kernel), List.mem_of_getElem? (i := 1430) (by decide +kernel), List.mem_of_getElem? (i := 1431) (by decide +kernel)⟩
theorem lw_p67 : lw_okq (⟨"PepperTablesModel", "isSignHere", "(I)Z"⟩, 65) := ⟨⟨by decide +kernel, by decide +kernel⟩, List.mem_of_getElem? (i := 1095) (by decide +kernel), List.mem_of_getElem? (i := 1434) (by decide +kernel), List.mem_of_getElem? (i := 1435) (by decide +kernel)⟩
theorem lw_p68 : lw_okq (⟨"PepperTablesModel", "wordHere", "()I"⟩, 65) := ⟨⟨by decide +kernel, by decide +kernel⟩, List.mem_of_getElem? (i := 1095) (by decide +kernel), List.mem_of_getElem? (i := 1438) (by decide +kernel), List.mem_of_getElem? (i := 1439) (by decide +kernel)⟩
theorem lw_p69 : lw_okq (⟨"PepperTablesModel", "emit", "(II)V"⟩, 65) := ⟨⟨by decide +kernel, by decide +kernel⟩, List.mem_of_getElem? (i := 1095) (by decide +kernel), List.mem_of_getElem? (i := 1442) (by decide +kernel), List.mem_of_getElem? (i := 1443) (by decide +kernel)⟩
theorem lw_p70 : lw_okq (⟨"PepperTablesModel", "behindUnit", "()Z"⟩, 65) := ⟨⟨by decide +kernel, by decide +kernel⟩, List.mem_of_getElem? (i := 1095) (by decide +kernel), List.mem_of_getElem? (i := 1446) (by decide +kernel), List.mem_of_getElem? (i := 1447) (by decide +kernel)⟩
theorem lw_p71 : lw_okq (⟨"PepperTablesModel", "rankHere", "()I"⟩, 65) := ⟨⟨by decide +kernel, by decide +kernel⟩, List.mem_of_getElem? (i := 1095) (by decide +kernel), List.mem_of_getElem? (i := 1450) (by decide +kernel), List.mem_of_getElem? (i := 1451) (by decide +kernel)⟩
theorem lw_p72 : lw_okq (⟨"PepperTablesModel", "isCompared", "()Z"⟩, 65) := ⟨⟨by decide +kernel, by decide +kernel⟩, List.mem_of_getElem? (i := 1095) (by decide +kernel), List.mem_of_getElem? (i := 1454) (by decide +kernel), List.mem_of_getElem? (i := 1455) (by decide +kernel)⟩
theorem lw_p73 : lw_okq (⟨"PepperTablesModel", "isPerson", "(I)Z"⟩, 65) := ⟨⟨by decide +kernel, by decide +kernel⟩, List.mem_of_getElem? (i := 1095) (by decide +kernel), List.mem_of_getElem? (i := 1466) (by decide +kernel), List.mem_of_getElem? (i := 1467) (by decide +kernel)⟩
theorem lw_p74 : lw_okq (⟨"PepperTablesModel", "folk", "()I"⟩, 65) := ⟨⟨by decide +kernel, by decide +kernel⟩, List.mem_of_getElem? (i := 1095) (by decide +kernel), List.mem_of_getElem? (i := 1470) (by decide +kernel), List.mem_of_getElem? (i := 1471) (by decide +kernel)⟩
theorem lw_p75 : lw_okq (⟨"PepperTablesModel", "byOf", "(I)I"⟩, 65) := ⟨⟨by decide +kernel, by decide +kernel⟩, List.mem_of_getElem? (i := 1095) (by decide +kernel), List.mem_of_getElem? (i := 1477) (by decide +kernel), List.mem_of_getElem? (i := 1478) (by decide +kernel)⟩
theorem lw_p76 : lw_okq (⟨"PepperTablesModel", "fromOf", "(I)I"⟩, 65) := ⟨⟨by decide +kernel, by decide +kernel⟩, List.mem_of_getElem? (i := 1095) (by decide +kernel), List.mem_of_getElem? (i := 1481) (by decide +kernel), List.mem_of_getElem? (i := 1482) (by decide +kernel)⟩
theorem lw_p77 : lw_okq (⟨"PepperTablesModel", "keptNow", "()I"⟩, 65) := ⟨⟨by decide +kernel, by decide +kernel⟩, List.mem_of_getElem? (i := 1095) (by decide +kernel), List.mem_of_getElem? (i := 1485) (by decide +kernel), List.mem_of_getElem? (i := 1486) (by decide +kernel)⟩
theorem lw_p78 : lw_okq (⟨"PepperTablesModel", "toOf", "(I)I"⟩, 65) := ⟨⟨by decide +kernel, by decide +kernel⟩, List.mem_of_getElem? (i := 1095) (by decide +kernel), List.mem_of_getElem? (i := 1489) (by decide +kernel), List.mem_of_getElem? (i := 1490) (by decide +kernel)⟩
theorem lw_p79 : lw_okq (⟨"PepperTablesModel", "whomOf", "(I)I"⟩, 65) := ⟨⟨by decide +kernel, by decide +kernel⟩, List.mem_of_getElem? (i := 1095) (by decide +kernel), List.mem_of_getElem? (i := 1493) (by decide +kernel), List.mem_of_getElem? (i := 1494) (by decide +kernel)⟩
def lw_privs_5 : List (MethodName × Nat) := [(⟨"PepperTablesModel", "e", "()V"⟩, 65), (⟨"PepperTablesModel", "pushE", "(II)V"⟩, 65), (⟨"PepperTablesModel", "unit", "()Z"⟩, 65), (⟨"PepperTablesModel", "isSignHere", "(I)Z"⟩, 65), (⟨"PepperTablesModel", "wordHere", "()I"⟩, 65), (⟨"PepperTablesModel", "emit", "(II)V"⟩, 65), (⟨"PepperTablesModel", "behindUnit", "()Z"⟩, 65), (⟨"PepperTablesModel", "rankHere", "()I"⟩, 65), (⟨"PepperTablesModel", "isCompared", "()Z"⟩, 65), (⟨"PepperTablesModel", "isPerson", "(I)Z"⟩, 65), (⟨"PepperTablesModel", "folk", "()I"⟩, 65), (⟨"PepperTablesModel", "byOf", "(I)I"⟩, 65), (⟨"PepperTablesModel", "fromOf", "(I)I"⟩, 65), (⟨"PepperTablesModel", "keptNow", "()I"⟩, 65), (⟨"PepperTablesModel", "toOf", "(I)I"⟩, 65), (⟨"PepperTablesModel", "whomOf", "(I)I"⟩, 65)]
theorem lw_r5 : ∀ q ∈ lw_privs_5, lw_okq q := List.forall_mem_cons.mpr ⟨lw_p64, List.forall_mem_cons.mpr ⟨lw_p65, List.forall_mem_cons.mpr ⟨lw_p66, List.forall_mem_cons.mpr ⟨lw_p67, List.forall_mem_cons.mpr ⟨lw_p68, List.forall_mem_cons.mpr ⟨lw_p69, List.forall_mem_cons.mpr ⟨lw_p70, List.forall_mem_cons.mpr ⟨lw_p71, List.forall_mem_cons.mpr ⟨lw_p72, List.forall_mem_cons.mpr ⟨lw_p73, List.forall_mem_cons.mpr ⟨lw_p74, List.forall_mem_cons.mpr ⟨lw_p75, List.forall_mem_cons.mpr ⟨lw_p76, List.forall_mem_cons.mpr ⟨lw_p77, List.forall_mem_cons.mpr ⟨lw_p78, List.forall_mem_cons.mpr ⟨lw_p79, fun _ h => absurd h List.not_mem_nil⟩⟩⟩⟩⟩⟩⟩⟩⟩⟩⟩⟩⟩⟩⟩⟩
theorem lw_p80 : lw_okq (⟨"PepperTablesModel", "isThing", "(I)Z"⟩, 65) := ⟨⟨by decide +kernel, by decide +kernel⟩, List.mem_of_getElem? (i := 1095) (by decide +kernel), List.mem_of_getElem? (i := 1501) (by decide +kernel), List.mem_of_getElem? (i := 1502) (by decide +kernel)⟩
theorem lw_p81 : lw_okq (⟨"PepperTablesModel", "hotOf", "(I)I"⟩, 65) := ⟨⟨by decide +kernel, by decide +kernel⟩, List.mem_of_getElem? (i := 1095) (by decide +kernel), List.mem_of_getElem? (i := 1505) (by decide +kernel), List.mem_of_getElem? (i := 1506) (by decide +kernel)⟩
theorem lw_p82 : lw_okq (⟨"PepperTablesModel", "isSack", "(I)Z"⟩, 65) := ⟨⟨by decide +kernel, by decide +kernel⟩, List.mem_of_getElem? (i := 1095) (by decide +kernel), List.mem_of_getElem? (i := 1513) (by decide +kernel), List.mem_of_getElem? (i := 1514) (by decide +kernel)⟩
theorem lw_p83 : lw_okq (⟨"PepperTablesModel", "bags", "()I"⟩, 65) := ⟨⟨by decide +kernel, by decide +kernel⟩, List.mem_of_getElem? (i := 1095) (by decide +kernel), List.mem_of_getElem? (i := 1517) (by decide +kernel), List.mem_of_getElem? (i := 1518) (by decide +kernel)⟩
theorem lw_p84 : lw_okq (⟨"PepperTablesModel", "inOf", "(I)I"⟩, 65) := ⟨⟨by decide +kernel, by decide +kernel⟩, List.mem_of_getElem? (i := 1095) (by decide +kernel), List.mem_of_getElem? (i := 1521) (by decide +kernel), List.mem_of_getElem? (i := 1522) (by decide +kernel)⟩
theorem lw_p85 : lw_okq (⟨"PepperTablesModel", "isStill", "(I)Z"⟩, 65) := ⟨⟨by decide +kernel, by decide +kernel⟩, List.mem_of_getElem? (i := 1095) (by decide +kernel), List.mem_of_getElem? (i := 1525) (by decide +kernel), List.mem_of_getElem? (i := 1526) (by decide +kernel)⟩
theorem lw_p86 : lw_okq (⟨"PepperTablesModel", "heatOf", "(I)I"⟩, 65) := ⟨⟨by decide +kernel, by decide +kernel⟩, List.mem_of_getElem? (i := 1095) (by decide +kernel), List.mem_of_getElem? (i := 1529) (by decide +kernel), List.mem_of_getElem? (i := 1530) (by decide +kernel)⟩
theorem lw_p87 : lw_okq (⟨"PepperTablesModel", "wouldOf", "(I)I"⟩, 65) := ⟨⟨by decide +kernel, by decide +kernel⟩, List.mem_of_getElem? (i := 1095) (by decide +kernel), List.mem_of_getElem? (i := 1537) (by decide +kernel), List.mem_of_getElem? (i := 1538) (by decide +kernel)⟩
theorem lw_p88 : lw_okq (⟨"PepperTablesModel", "isLetOut", "(II)Z"⟩, 65) := ⟨⟨by decide +kernel, by decide +kernel⟩, List.mem_of_getElem? (i := 1095) (by decide +kernel), List.mem_of_getElem? (i := 1541) (by decide +kernel), List.mem_of_getElem? (i := 1542) (by decide +kernel)⟩
theorem lw_p89 : lw_okq (⟨"PepperTablesModel", "doBothSit", "(I)Z"⟩, 65) := ⟨⟨by decide +kernel, by decide +kernel⟩, List.mem_of_getElem? (i := 1095) (by decide +kernel), List.mem_of_getElem? (i := 1545) (by decide +kernel), List.mem_of_getElem? (i := 1546) (by decide +kernel)⟩
theorem lw_p90 : lw_okq (⟨"PepperTablesModel", "comes", "()I"⟩, 65) := ⟨⟨by decide +kernel, by decide +kernel⟩, List.mem_of_getElem? (i := 1095) (by decide +kernel), List.mem_of_getElem? (i := 1549) (by decide +kernel), List.mem_of_getElem? (i := 1550) (by decide +kernel)⟩
theorem lw_p91 : lw_okq (⟨"PepperTablesModel", "asked", "(II)I"⟩, 65) := ⟨⟨by decide +kernel, by decide +kernel⟩, List.mem_of_getElem? (i := 1095) (by decide +kernel), List.mem_of_getElem? (i := 1553) (by decide +kernel), List.mem_of_getElem? (i := 1554) (by decide +kernel)⟩
theorem lw_p92 : lw_okq (⟨"PepperTablesModel", "allSacks", "()I"⟩, 65) := ⟨⟨by decide +kernel, by decide +kernel⟩, List.mem_of_getElem? (i := 1095) (by decide +kernel), List.mem_of_getElem? (i := 1587) (by decide +kernel), List.mem_of_getElem? (i := 1588) (by decide +kernel)⟩
theorem lw_p93 : lw_okq (⟨"PepperTablesModel", "saidBy", "(I)I"⟩, 65) := ⟨⟨by decide +kernel, by decide +kernel⟩, List.mem_of_getElem? (i := 1095) (by decide +kernel), List.mem_of_getElem? (i := 1591) (by decide +kernel), List.mem_of_getElem? (i := 1592) (by decide +kernel)⟩
theorem lw_p94 : lw_okq (⟨"PepperTablesModel", "sneezed", "()I"⟩, 65) := ⟨⟨by decide +kernel, by decide +kernel⟩, List.mem_of_getElem? (i := 1095) (by decide +kernel), List.mem_of_getElem? (i := 1607) (by decide +kernel), List.mem_of_getElem? (i := 1608) (by decide +kernel)⟩
theorem lw_p95 : lw_okq (⟨"PepperTablesModel", "keepAct", "()V"⟩, 65) := ⟨⟨by decide +kernel, by decide +kernel⟩, List.mem_of_getElem? (i := 1095) (by decide +kernel), List.mem_of_getElem? (i := 1623) (by decide +kernel), List.mem_of_getElem? (i := 1624) (by decide +kernel)⟩
def lw_privs_6 : List (MethodName × Nat) := [(⟨"PepperTablesModel", "isThing", "(I)Z"⟩, 65), (⟨"PepperTablesModel", "hotOf", "(I)I"⟩, 65), (⟨"PepperTablesModel", "isSack", "(I)Z"⟩, 65), (⟨"PepperTablesModel", "bags", "()I"⟩, 65), (⟨"PepperTablesModel", "inOf", "(I)I"⟩, 65), (⟨"PepperTablesModel", "isStill", "(I)Z"⟩, 65), (⟨"PepperTablesModel", "heatOf", "(I)I"⟩, 65), (⟨"PepperTablesModel", "wouldOf", "(I)I"⟩, 65), (⟨"PepperTablesModel", "isLetOut", "(II)Z"⟩, 65), (⟨"PepperTablesModel", "doBothSit", "(I)Z"⟩, 65), (⟨"PepperTablesModel", "comes", "()I"⟩, 65), (⟨"PepperTablesModel", "asked", "(II)I"⟩, 65), (⟨"PepperTablesModel", "allSacks", "()I"⟩, 65), (⟨"PepperTablesModel", "saidBy", "(I)I"⟩, 65), (⟨"PepperTablesModel", "sneezed", "()I"⟩, 65), (⟨"PepperTablesModel", "keepAct", "()V"⟩, 65)]
theorem lw_r6 : ∀ q ∈ lw_privs_6, lw_okq q := List.forall_mem_cons.mpr ⟨lw_p80, List.forall_mem_cons.mpr ⟨lw_p81, List.forall_mem_cons.mpr ⟨lw_p82, List.forall_mem_cons.mpr ⟨lw_p83, List.forall_mem_cons.mpr ⟨lw_p84, List.forall_mem_cons.mpr ⟨lw_p85, List.forall_mem_cons.mpr ⟨lw_p86, List.forall_mem_cons.mpr ⟨lw_p87, List.forall_mem_cons.mpr ⟨lw_p88, List.forall_mem_cons.mpr ⟨lw_p89, List.forall_mem_cons.mpr ⟨lw_p90, List.forall_mem_cons.mpr ⟨lw_p91, List.forall_mem_cons.mpr ⟨lw_p92, List.forall_mem_cons.mpr ⟨lw_p93, List.forall_mem_cons.mpr ⟨lw_p94, List.forall_mem_cons.mpr ⟨lw_p95, fun _ h => absurd h List.not_mem_nil⟩⟩⟩⟩⟩⟩⟩⟩⟩⟩⟩⟩⟩⟩⟩⟩
theorem lw_p96 : lw_okq (⟨"PepperTablesModel", "goGrind", "(I)I"⟩, 65) := ⟨⟨by decide +kernel, by decide +kernel⟩, List.mem_of_getElem? (i := 1095) (by decide +kernel), List.mem_of_getElem? (i := 1635) (by decide +kernel), List.mem_of_getElem? (i := 1636) (by decide +kernel)⟩
theorem lw_p97 : lw_okq (⟨"PepperTablesModel", "swapAll", "()V"⟩, 65) := ⟨⟨by decide +kernel, by decide +kernel⟩, List.mem_of_getElem? (i := 1095) (by decide +kernel), List.mem_of_getElem? (i := 1651) (by decide +kernel), List.mem_of_getElem? (i := 1652) (by decide +kernel)⟩
theorem lw_p98 : lw_okq (⟨"PepperTablesModel", "wouldWith", "(II)I"⟩, 65) := ⟨⟨by decide +kernel, by decide +kernel⟩, List.mem_of_getElem? (i := 1095) (by decide +kernel), List.mem_of_getElem? (i := 1667) (by decide +kernel), List.mem_of_getElem? (i := 1668) (by decide +kernel)⟩
theorem lw_p99 : lw_okq (⟨"PepperTablesModel", "saidWith", "(I)I"⟩, 65) := ⟨⟨by decide +kernel, by decide +kernel⟩, List.mem_of_getElem? (i := 1095) (by decide +kernel), List.mem_of_getElem? (i := 1675) (by decide +kernel), List.mem_of_getElem? (i := 1676) (by decide +kernel)⟩
theorem lw_p100 : lw_okq (⟨"PepperTablesModel", "worthTo", "(II)I"⟩, 65) := ⟨⟨by decide +kernel, by decide +kernel⟩, List.mem_of_getElem? (i := 1095) (by decide +kernel), List.mem_of_getElem? (i := 1703) (by decide +kernel), List.mem_of_getElem? (i := 1704) (by decide +kernel)⟩
theorem lw_p101 : lw_okq (⟨"PepperTablesModel", "keepNow", "()V"⟩, 65) := ⟨⟨by decide +kernel, by decide +kernel⟩, List.mem_of_getElem? (i := 1095) (by decide +kernel), List.mem_of_getElem? (i := 1714) (by decide +kernel), List.mem_of_getElem? (i := 1715) (by decide +kernel)⟩
theorem lw_p102 : lw_okq (⟨"PepperTablesModel", "inRow", "(III)I"⟩, 65) := ⟨⟨by decide +kernel, by decide +kernel⟩, List.mem_of_getElem? (i := 1095) (by decide +kernel), List.mem_of_getElem? (i := 1718) (by decide +kernel), List.mem_of_getElem? (i := 1719) (by decide +kernel)⟩
theorem lw_p103 : lw_okq (⟨"PepperTablesModel", "bringBack", "()V"⟩, 65) := ⟨⟨by decide +kernel, by decide +kernel⟩, List.mem_of_getElem? (i := 1095) (by decide +kernel), List.mem_of_getElem? (i := 1722) (by decide +kernel), List.mem_of_getElem? (i := 1723) (by decide +kernel)⟩
theorem lw_p104 : lw_okq (⟨"PepperTablesModel", "canChange", "(II)Z"⟩, 65) := ⟨⟨by decide +kernel, by decide +kernel⟩, List.mem_of_getElem? (i := 1095) (by decide +kernel), List.mem_of_getElem? (i := 1742) (by decide +kernel), List.mem_of_getElem? (i := 1743) (by decide +kernel)⟩
theorem lw_p105 : lw_okq (⟨"PepperTablesModel", "isLine", "(II)Z"⟩, 65) := ⟨⟨by decide +kernel, by decide +kernel⟩, List.mem_of_getElem? (i := 1095) (by decide +kernel), List.mem_of_getElem? (i := 1758) (by decide +kernel), List.mem_of_getElem? (i := 1759) (by decide +kernel)⟩
theorem lw_p106 : lw_okq (⟨"PepperTablesModel", "inOrder", "(III)I"⟩, 65) := ⟨⟨by decide +kernel, by decide +kernel⟩, List.mem_of_getElem? (i := 1095) (by decide +kernel), List.mem_of_getElem? (i := 1762) (by decide +kernel), List.mem_of_getElem? (i := 1763) (by decide +kernel)⟩
theorem lw_p107 : lw_okq (⟨"PepperTablesModel", "doesKeep", "(II)Z"⟩, 65) := ⟨⟨by decide +kernel, by decide +kernel⟩, List.mem_of_getElem? (i := 1095) (by decide +kernel), List.mem_of_getElem? (i := 1766) (by decide +kernel), List.mem_of_getElem? (i := 1767) (by decide +kernel)⟩
theorem lw_p108 : lw_okq (⟨"PepperTablesModel", "layRows", "(I)V"⟩, 65) := ⟨⟨by decide +kernel, by decide +kernel⟩, List.mem_of_getElem? (i := 1095) (by decide +kernel), List.mem_of_getElem? (i := 1802) (by decide +kernel), List.mem_of_getElem? (i := 1803) (by decide +kernel)⟩
theorem lw_p109 : lw_okq (⟨"PepperTablesModel", "layMany", "()V"⟩, 65) := ⟨⟨by decide +kernel, by decide +kernel⟩, List.mem_of_getElem? (i := 1095) (by decide +kernel), List.mem_of_getElem? (i := 1806) (by decide +kernel), List.mem_of_getElem? (i := 1807) (by decide +kernel)⟩
theorem lw_p110 : lw_okq (⟨"PepperTablesModel", "hidden", "()I"⟩, 65) := ⟨⟨by decide +kernel, by decide +kernel⟩, List.mem_of_getElem? (i := 1095) (by decide +kernel), List.mem_of_getElem? (i := 1810) (by decide +kernel), List.mem_of_getElem? (i := 1811) (by decide +kernel)⟩
theorem lw_p111 : lw_okq (⟨"PepperTablesModel", "sackIn", "(II)I"⟩, 65) := ⟨⟨by decide +kernel, by decide +kernel⟩, List.mem_of_getElem? (i := 1095) (by decide +kernel), List.mem_of_getElem? (i := 1814) (by decide +kernel), List.mem_of_getElem? (i := 1815) (by decide +kernel)⟩
def lw_privs_7 : List (MethodName × Nat) := [(⟨"PepperTablesModel", "goGrind", "(I)I"⟩, 65), (⟨"PepperTablesModel", "swapAll", "()V"⟩, 65), (⟨"PepperTablesModel", "wouldWith", "(II)I"⟩, 65), (⟨"PepperTablesModel", "saidWith", "(I)I"⟩, 65), (⟨"PepperTablesModel", "worthTo", "(II)I"⟩, 65), (⟨"PepperTablesModel", "keepNow", "()V"⟩, 65), (⟨"PepperTablesModel", "inRow", "(III)I"⟩, 65), (⟨"PepperTablesModel", "bringBack", "()V"⟩, 65), (⟨"PepperTablesModel", "canChange", "(II)Z"⟩, 65), (⟨"PepperTablesModel", "isLine", "(II)Z"⟩, 65), (⟨"PepperTablesModel", "inOrder", "(III)I"⟩, 65), (⟨"PepperTablesModel", "doesKeep", "(II)Z"⟩, 65), (⟨"PepperTablesModel", "layRows", "(I)V"⟩, 65), (⟨"PepperTablesModel", "layMany", "()V"⟩, 65), (⟨"PepperTablesModel", "hidden", "()I"⟩, 65), (⟨"PepperTablesModel", "sackIn", "(II)I"⟩, 65)]
theorem lw_r7 : ∀ q ∈ lw_privs_7, lw_okq q := List.forall_mem_cons.mpr ⟨lw_p96, List.forall_mem_cons.mpr ⟨lw_p97, List.forall_mem_cons.mpr ⟨lw_p98, List.forall_mem_cons.mpr ⟨lw_p99, List.forall_mem_cons.mpr ⟨lw_p100, List.forall_mem_cons.mpr ⟨lw_p101, List.forall_mem_cons.mpr ⟨lw_p102, List.forall_mem_cons.mpr ⟨lw_p103, List.forall_mem_cons.mpr ⟨lw_p104, List.forall_mem_cons.mpr ⟨lw_p105, List.forall_mem_cons.mpr ⟨lw_p106, List.forall_mem_cons.mpr ⟨lw_p107, List.forall_mem_cons.mpr ⟨lw_p108, List.forall_mem_cons.mpr ⟨lw_p109, List.forall_mem_cons.mpr ⟨lw_p110, List.forall_mem_cons.mpr ⟨lw_p111, fun _ h => absurd h List.not_mem_nil⟩⟩⟩⟩⟩⟩⟩⟩⟩⟩⟩⟩⟩⟩⟩⟩
theorem lw_p112 : lw_okq (⟨"PepperTablesModel", "allRows", "()I"⟩, 65) := ⟨⟨by decide +kernel, by decide +kernel⟩, List.mem_of_getElem? (i := 1095) (by decide +kernel), List.mem_of_getElem? (i := 1818) (by decide +kernel), List.mem_of_getElem? (i := 1819) (by decide +kernel)⟩
theorem lw_p113 : lw_okq (⟨"PepperTablesModel", "doesFit", "(II)Z"⟩, 65) := ⟨⟨by decide +kernel, by decide +kernel⟩, List.mem_of_getElem? (i := 1095) (by decide +kernel), List.mem_of_getElem? (i := 1822) (by decide +kernel), List.mem_of_getElem? (i := 1823) (by decide +kernel)⟩
theorem lw_p114 : lw_okq (⟨"PepperTablesModel", "mostBy", "(II)I"⟩, 65) := ⟨⟨by decide +kernel, by decide +kernel⟩, List.mem_of_getElem? (i := 1095) (by decide +kernel), List.mem_of_getElem? (i := 1834) (by decide +kernel), List.mem_of_getElem? (i := 1835) (by decide +kernel)⟩
def lw_privs_8 : List (MethodName × Nat) := [(⟨"PepperTablesModel", "allRows", "()I"⟩, 65), (⟨"PepperTablesModel", "doesFit", "(II)Z"⟩, 65), (⟨"PepperTablesModel", "mostBy", "(II)I"⟩, 65)]
theorem lw_r8 : ∀ q ∈ lw_privs_8, lw_okq q := List.forall_mem_cons.mpr ⟨lw_p112, List.forall_mem_cons.mpr ⟨lw_p113, List.forall_mem_cons.mpr ⟨lw_p114, fun _ h => absurd h List.not_mem_nil⟩⟩⟩
def lw_privs : List (MethodName × Nat) := lw_privs_1 ++ (lw_privs_2 ++ (lw_privs_3 ++ (lw_privs_4 ++ (lw_privs_5 ++ (lw_privs_6 ++ (lw_privs_7 ++ (lw_privs_8)))))))
def lw_tbl : List Cond := k2_sels lw_privs ++ tables_1
theorem lw_privs_ok : ∀ q ∈ lw_privs, lw_okq q := by
  show ∀ q ∈ lw_privs_1 ++ (lw_privs_2 ++ (lw_privs_3 ++ (lw_privs_4 ++ (lw_privs_5 ++ (lw_privs_6 ++ (lw_privs_7 ++ (lw_privs_8))))))), lw_okq q
  exact List.forall_mem_append.mpr ⟨lw_r1, List.forall_mem_append.mpr ⟨lw_r2, List.forall_mem_append.mpr ⟨lw_r3, List.forall_mem_append.mpr ⟨lw_r4, List.forall_mem_append.mpr ⟨lw_r5, List.forall_mem_append.mpr ⟨lw_r6, List.forall_mem_append.mpr ⟨lw_r7, lw_r8⟩⟩⟩⟩⟩⟩⟩
end
section
theorem goodIn_r {big : List Cond} (ws : List Cond) (ps : List Nat) (hp : ws = ps.filterMap (fun i => big[i]?)) (h : ws.all goodWord = true) : GoodIn big ws := by
  intro w hw
  have h1 := List.all_eq_true.mp h w hw
  rw [hp] at hw
  obtain ⟨i, -, hi⟩ := List.mem_filterMap.mp hw
  have hm : w ∈ big := by first | exact List.mem_of_getElem? hi | exact List.getElem?_mem hi
  exact ⟨hm, good_of_word h1⟩
theorem goodIn_app {big a b : List Cond} (ha : GoodIn big a) (hb : GoodIn big b) : GoodIn big (a ++ b) := fun w h => (List.mem_append.mp h).elim (ha w) (hb w)
theorem goodIn_ca {big a b : List Cond} {c : Cond} (ha : GoodIn big (c :: a)) (hb : GoodIn big b) : GoodIn big (c :: (a ++ b)) := fun w h => (List.mem_cons.mp h).elim (fun e => ha w (List.mem_cons.mpr (Or.inl e))) (fun h => (List.mem_append.mp h).elim (fun h => ha w (List.mem_cons.mpr (Or.inr h))) (hb w))
theorem goodIn_sub {big ws : List Cond} (hm : ∀ w ∈ ws, w ∈ big) (h : ws.all goodWord = true) : GoodIn big ws := fun w hw => ⟨hm w hw, good_of_word (List.all_eq_true.mp h w hw)⟩
def RX0 : String := "PepperTables$Acts"
def TX0 : u_T := fun k => match k with
  | 0 => ("PepperTables$Acts", "undoable", "I", false)
  | 1 => ("PepperTables$Acts", "redoable", "I", false)
  | 2 => ("PepperTables$Acts", "row", "I", false)
  | _ => ("PepperTables$Acts", "rows", "[I", true)
def tyX0 : Nat → FieldType := fun k => match k with
  | 0 => .int
  | 1 => .int
  | 2 => .int
  | _ => .array .int
theorem nmX0 : ∀ a, a < 4 → ∀ b, b < 4 → a ≠ b → (TX0 a).2.1 ≠ (TX0 b).2.1 := by decide +kernel
theorem tyX0_ok : ∀ k, k < 4 → parseFieldDescriptor (TX0 k).2.2.1 = some (tyX0 k) := by decide +kernel
theorem ee_dcX0 : ∀ k, k < 4 → (TX0 k).1 = RX0 := by decide +kernel
def RX1 : String := "PepperTables$Boxes"
def TX1 : u_T := fun k => match k with
  | 0 => ("PepperTables$Boxes", "rows", "[I", true)
  | _ => ("PepperTables$Boxes", "filled", "[Z", true)
def tyX1 : Nat → FieldType := fun k => match k with
  | 0 => .array .int
  | _ => .array .boolean
theorem nmX1 : ∀ a, a < 2 → ∀ b, b < 2 → a ≠ b → (TX1 a).2.1 ≠ (TX1 b).2.1 := by decide +kernel
theorem tyX1_ok : ∀ k, k < 2 → parseFieldDescriptor (TX1 k).2.2.1 = some (tyX1 k) := by decide +kernel
theorem ee_dcX1 : ∀ k, k < 2 → (TX1 k).1 = RX1 := by decide +kernel
def RX2 : String := "PepperTables$Hearsay"
def TX2 : u_T := fun k => match k with
  | 0 => ("PepperTables$Hearsay", "count", "I", false)
  | 1 => ("PepperTables$Hearsay", "time", "I", false)
  | 2 => ("PepperTables$Hearsay", "isReckoned", "Z", false)
  | 3 => ("PepperTables$Hearsay", "rowCount", "I", false)
  | 4 => ("PepperTables$Hearsay", "sacks", "[I", true)
  | 5 => ("PepperTables$Hearsay", "many", "[I", true)
  | 6 => ("PepperTables$Hearsay", "is", "[Z", true)
  | 7 => ("PepperTables$Hearsay", "toldAt", "[I", true)
  | 8 => ("PepperTables$Hearsay", "untoldAt", "[I", true)
  | 9 => ("PepperTables$Hearsay", "outs", "[I", true)
  | 10 => ("PepperTables$Hearsay", "isLeft", "[Z", true)
  | 11 => ("PepperTables$Hearsay", "tally", "[I", true)
  | _ => ("PepperTables$Hearsay", "scene", "LPepperTables$State;", true)
def tyX2 : Nat → FieldType := fun k => match k with
  | 0 => .int
  | 1 => .int
  | 2 => .boolean
  | 3 => .int
  | 4 => .array .int
  | 5 => .array .int
  | 6 => .array .boolean
  | 7 => .array .int
  | 8 => .array .int
  | 9 => .array .int
  | 10 => .array .boolean
  | 11 => .array .int
  | _ => .object "PepperTables$State"
theorem nmX2 : ∀ a, a < 13 → ∀ b, b < 13 → a ≠ b → (TX2 a).2.1 ≠ (TX2 b).2.1 := by decide +kernel
theorem tyX2_ok : ∀ k, k < 13 → parseFieldDescriptor (TX2 k).2.2.1 = some (tyX2 k) := by decide +kernel
theorem ee_dcX2 : ∀ k, k < 13 → (TX2 k).1 = RX2 := by decide +kernel
def RX3 : String := "PepperTables$Lying"
def TX3 : u_T := fun k => match k with
  | 0 => ("PepperTables$Lying", "count", "I", false)
  | 1 => ("PepperTables$Lying", "numbers", "[I", true)
  | 2 => ("PepperTables$Lying", "path", "[I", true)
  | 3 => ("PepperTables$Lying", "listeners", "[I", true)
  | _ => ("PepperTables$Lying", "people", "I", false)
def tyX3 : Nat → FieldType := fun k => match k with
  | 0 => .int
  | 1 => .array .int
  | 2 => .array .int
  | 3 => .array .int
  | _ => .int
theorem nmX3 : ∀ a, a < 5 → ∀ b, b < 5 → a ≠ b → (TX3 a).2.1 ≠ (TX3 b).2.1 := by decide +kernel
theorem tyX3_ok : ∀ k, k < 5 → parseFieldDescriptor (TX3 k).2.2.1 = some (tyX3 k) := by decide +kernel
theorem ee_dcX3 : ∀ k, k < 5 → (TX3 k).1 = RX3 := by decide +kernel
def RX4 : String := "PepperTables$Mill"
def TX4 : u_T := fun k => match k with
  | 0 => ("PepperTables$Mill", "inputs", "[I", true)
  | 1 => ("PepperTables$Mill", "stack", "[I", true)
  | _ => ("PepperTables$Mill", "passingBySize", "[I", true)
def tyX4 : Nat → FieldType := fun k => match k with
  | 0 => .array .int
  | 1 => .array .int
  | _ => .array .int
theorem nmX4 : ∀ a, a < 3 → ∀ b, b < 3 → a ≠ b → (TX4 a).2.1 ≠ (TX4 b).2.1 := by decide +kernel
theorem tyX4_ok : ∀ k, k < 3 → parseFieldDescriptor (TX4 k).2.2.1 = some (tyX4 k) := by decide +kernel
theorem ee_dcX4 : ∀ k, k < 3 → (TX4 k).1 = RX4 := by decide +kernel
def RX5 : String := "PepperTables$Reader"
def TX5 : u_T := fun k => match k with
  | 0 => ("PepperTables$Reader", "length", "I", false)
  | 1 => ("PepperTables$Reader", "fault", "I", false)
  | 2 => ("PepperTables$Reader", "faultPlace", "I", false)
  | 3 => ("PepperTables$Reader", "target", "LPepperTables$Told;", false)
  | 4 => ("PepperTables$Reader", "text", "[I", true)
  | 5 => ("PepperTables$Reader", "words", "[J", true)
  | 6 => ("PepperTables$Reader", "at", "I", false)
  | 7 => ("PepperTables$Reader", "kind", "I", false)
  | 8 => ("PepperTables$Reader", "place", "I", false)
  | 9 => ("PepperTables$Reader", "number", "I", false)
  | _ => ("PepperTables$Reader", "name", "J", false)
def tyX5 : Nat → FieldType := fun k => match k with
  | 0 => .int
  | 1 => .int
  | 2 => .int
  | 3 => .object "PepperTables$Told"
  | 4 => .array .int
  | 5 => .array .long
  | 6 => .int
  | 7 => .int
  | 8 => .int
  | 9 => .int
  | _ => .long
theorem nmX5 : ∀ a, a < 11 → ∀ b, b < 11 → a ≠ b → (TX5 a).2.1 ≠ (TX5 b).2.1 := by decide +kernel
theorem tyX5_ok : ∀ k, k < 11 → parseFieldDescriptor (TX5 k).2.2.1 = some (tyX5 k) := by decide +kernel
theorem ee_dcX5 : ∀ k, k < 11 → (TX5 k).1 = RX5 := by decide +kernel
def RX6 : String := "PepperTables$State"
def TX6 : u_T := fun k => match k with
  | 0 => ("PepperTables$State", "sits", "I", false)
  | 1 => ("PepperTables$State", "said", "I", false)
  | 2 => ("PepperTables$State", "course", "I", false)
  | 3 => ("PepperTables$State", "seed", "I", false)
  | 4 => ("PepperTables$State", "where", "[I", true)
  | _ => ("PepperTables$State", "ground", "[I", true)
def tyX6 : Nat → FieldType := fun k => match k with
  | 0 => .int
  | 1 => .int
  | 2 => .int
  | 3 => .int
  | 4 => .array .int
  | _ => .array .int
theorem nmX6 : ∀ a, a < 6 → ∀ b, b < 6 → a ≠ b → (TX6 a).2.1 ≠ (TX6 b).2.1 := by decide +kernel
theorem tyX6_ok : ∀ k, k < 6 → parseFieldDescriptor (TX6 k).2.2.1 = some (tyX6 k) := by decide +kernel
theorem ee_dcX6 : ∀ k, k < 6 → (TX6 k).1 = RX6 := by decide +kernel
def RX7 : String := "PepperTables$Told"
def TX7 : u_T := fun k => match k with
  | 0 => ("PepperTables$Told", "people", "I", false)
  | 1 => ("PepperTables$Told", "sacks", "I", false)
  | 2 => ("PepperTables$Told", "things", "I", false)
  | 3 => ("PepperTables$Told", "units", "I", false)
  | 4 => ("PepperTables$Told", "sneeze", "I", false)
  | 5 => ("PepperTables$Told", "draw", "I", false)
  | 6 => ("PepperTables$Told", "codeLength", "I", false)
  | 7 => ("PepperTables$Told", "hasFormula", "Z", false)
  | 8 => ("PepperTables$Told", "hasSneeze", "Z", false)
  | 9 => ("PepperTables$Told", "hasDraw", "Z", false)
  | 10 => ("PepperTables$Told", "shy", "[I", true)
  | 11 => ("PepperTables$Told", "by", "[I", true)
  | 12 => ("PepperTables$Told", "to", "[I", true)
  | 13 => ("PepperTables$Told", "hot", "[I", true)
  | 14 => ("PepperTables$Told", "in", "[I", true)
  | 15 => ("PepperTables$Told", "code", "[I", true)
  | 16 => ("PepperTables$Told", "personNames", "[J", true)
  | 17 => ("PepperTables$Told", "sackNames", "[J", true)
  | _ => ("PepperTables$Told", "thingNames", "[J", true)
def tyX7 : Nat → FieldType := fun k => match k with
  | 0 => .int
  | 1 => .int
  | 2 => .int
  | 3 => .int
  | 4 => .int
  | 5 => .int
  | 6 => .int
  | 7 => .boolean
  | 8 => .boolean
  | 9 => .boolean
  | 10 => .array .int
  | 11 => .array .int
  | 12 => .array .int
  | 13 => .array .int
  | 14 => .array .int
  | 15 => .array .int
  | 16 => .array .long
  | 17 => .array .long
  | _ => .array .long
theorem nmX7 : ∀ a, a < 19 → ∀ b, b < 19 → a ≠ b → (TX7 a).2.1 ≠ (TX7 b).2.1 := by decide +kernel
theorem tyX7_ok : ∀ k, k < 19 → parseFieldDescriptor (TX7 k).2.2.1 = some (tyX7 k) := by decide +kernel
theorem ee_dcX7 : ∀ k, k < 19 → (TX7 k).1 = RX7 := by decide +kernel
def RX8 : String := "PepperTables"
def TX8 : u_T := fun k => match k with
  | 0 => ("PepperTables", "reader", "LPepperTables$Reader;", true)
  | 1 => ("PepperTables", "told", "LPepperTables$Told;", false)
  | 2 => ("PepperTables", "now", "LPepperTables$State;", true)
  | 3 => ("PepperTables", "trial", "LPepperTables$State;", true)
  | 4 => ("PepperTables", "mill", "LPepperTables$Mill;", true)
  | 5 => ("PepperTables", "acts", "LPepperTables$Acts;", true)
  | 6 => ("PepperTables", "boxes", "LPepperTables$Boxes;", true)
  | 7 => ("PepperTables", "lying", "LPepperTables$Lying;", true)
  | 8 => ("PepperTables", "hearsay", "LPepperTables$Hearsay;", true)
  | 9 => ("PepperTables", "scores", "[I", true)
  | 10 => ("PepperTables", "firstGains", "[I", true)
  | _ => ("PepperTables", "otherGains", "[I", true)
def tyX8 : Nat → FieldType := fun k => match k with
  | 0 => .object "PepperTables$Reader"
  | 1 => .object "PepperTables$Told"
  | 2 => .object "PepperTables$State"
  | 3 => .object "PepperTables$State"
  | 4 => .object "PepperTables$Mill"
  | 5 => .object "PepperTables$Acts"
  | 6 => .object "PepperTables$Boxes"
  | 7 => .object "PepperTables$Lying"
  | 8 => .object "PepperTables$Hearsay"
  | 9 => .array .int
  | 10 => .array .int
  | _ => .array .int
theorem nmX8 : ∀ a, a < 12 → ∀ b, b < 12 → a ≠ b → (TX8 a).2.1 ≠ (TX8 b).2.1 := by decide +kernel
theorem tyX8_ok : ∀ k, k < 12 → parseFieldDescriptor (TX8 k).2.2.1 = some (tyX8 k) := by decide +kernel
theorem ee_dcX8 : ∀ k, k < 12 → (TX8 k).1 = RX8 := by decide +kernel
def RX9 : String := "PepperTablesModel"
def TX9 : u_T := fun k => match k with
  | 0 => ("PepperTablesModel", "tape", "[B", true)
  | 1 => ("PepperTablesModel", "text", "[B", true)
  | 2 => ("PepperTablesModel", "taped", "I", false)
  | 3 => ("PepperTablesModel", "size", "I", false)
  | 4 => ("PepperTablesModel", "faultKind", "I", false)
  | 5 => ("PepperTablesModel", "faultPlace", "I", false)
  | 6 => ("PepperTablesModel", "at", "I", false)
  | 7 => ("PepperTablesModel", "end", "I", false)
  | 8 => ("PepperTablesModel", "token", "I", false)
  | 9 => ("PepperTablesModel", "number", "I", false)
  | 10 => ("PepperTablesModel", "name", "J", false)
  | 11 => ("PepperTablesModel", "people", "[I", true)
  | 12 => ("PepperTablesModel", "sacks", "[I", true)
  | 13 => ("PepperTablesModel", "things", "[I", true)
  | 14 => ("PepperTablesModel", "units", "[I", true)
  | 15 => ("PepperTablesModel", "sneeze", "[I", true)
  | 16 => ("PepperTablesModel", "draw", "[I", true)
  | 17 => ("PepperTablesModel", "told", "[I", true)
  | 18 => ("PepperTablesModel", "shy", "[I", true)
  | 19 => ("PepperTablesModel", "from", "[I", true)
  | 20 => ("PepperTablesModel", "whom", "[I", true)
  | 21 => ("PepperTablesModel", "hot", "[I", true)
  | 22 => ("PepperTablesModel", "inSack", "[I", true)
  | 23 => ("PepperTablesModel", "ruleFrom", "[I", true)
  | 24 => ("PepperTablesModel", "ruleTo", "[I", true)
  | 25 => ("PepperTablesModel", "pName", "[J", true)
  | 26 => ("PepperTablesModel", "sName", "[J", true)
  | 27 => ("PepperTablesModel", "tName", "[J", true)
  | 28 => ("PepperTablesModel", "code", "[I", true)
  | 29 => ("PepperTablesModel", "codeNumber", "[I", true)
  | 30 => ("PepperTablesModel", "eWhat", "[I", true)
  | 31 => ("PepperTablesModel", "eSign", "[I", true)
  | 32 => ("PepperTablesModel", "pile", "[I", true)
  | 33 => ("PepperTablesModel", "bank", "I", false)
  | 34 => ("PepperTablesModel", "rb", "I", false)
  | 35 => ("PepperTablesModel", "codes", "I", false)
  | 36 => ("PepperTablesModel", "within", "I", false)
  | 37 => ("PepperTablesModel", "piled", "I", false)
  | 38 => ("PepperTablesModel", "unitsInRule", "I", false)
  | 39 => ("PepperTablesModel", "askThing", "I", false)
  | 40 => ("PepperTablesModel", "askSack", "I", false)
  | 41 => ("PepperTablesModel", "askShy", "I", false)
  | 42 => ("PepperTablesModel", "all", "[I", true)
  | 43 => ("PepperTablesModel", "thoughtThing", "I", false)
  | 44 => ("PepperTablesModel", "thoughtShy", "I", false)
  | 45 => ("PepperTablesModel", "was", "[I", true)
  | 46 => ("PepperTablesModel", "acts", "I", false)
  | 47 => ("PepperTablesModel", "undone", "I", false)
  | 48 => ("PepperTablesModel", "kept", "[I", true)
  | 49 => ("PepperTablesModel", "laidRow", "[I", true)
  | 50 => ("PepperTablesModel", "laid", "I", false)
  | 51 => ("PepperTablesModel", "feasts", "[I", true)
  | 52 => ("PepperTablesModel", "manyBy", "[I", true)
  | 53 => ("PepperTablesModel", "sSack", "[I", true)
  | 54 => ("PepperTablesModel", "sMany", "[I", true)
  | 55 => ("PepperTablesModel", "sIs", "[I", true)
  | 56 => ("PepperTablesModel", "sTold", "[I", true)
  | 57 => ("PepperTablesModel", "sUntold", "[I", true)
  | 58 => ("PepperTablesModel", "parts", "[I", true)
  | 59 => ("PepperTablesModel", "byMany", "[I", true)
  | 60 => ("PepperTablesModel", "heards", "I", false)
  | 61 => ("PepperTablesModel", "time", "I", false)
  | 62 => ("PepperTablesModel", "fitting", "I", false)
  | 63 => ("PepperTablesModel", "boxAll", "[I", true)
  | _ => ("PepperTablesModel", "isBoxed", "[Z", true)
def tyX9 : Nat → FieldType := fun k => match k with
  | 0 => .array .byte
  | 1 => .array .byte
  | 2 => .int
  | 3 => .int
  | 4 => .int
  | 5 => .int
  | 6 => .int
  | 7 => .int
  | 8 => .int
  | 9 => .int
  | 10 => .long
  | 11 => .array .int
  | 12 => .array .int
  | 13 => .array .int
  | 14 => .array .int
  | 15 => .array .int
  | 16 => .array .int
  | 17 => .array .int
  | 18 => .array .int
  | 19 => .array .int
  | 20 => .array .int
  | 21 => .array .int
  | 22 => .array .int
  | 23 => .array .int
  | 24 => .array .int
  | 25 => .array .long
  | 26 => .array .long
  | 27 => .array .long
  | 28 => .array .int
  | 29 => .array .int
  | 30 => .array .int
  | 31 => .array .int
  | 32 => .array .int
  | 33 => .int
  | 34 => .int
  | 35 => .int
  | 36 => .int
  | 37 => .int
  | 38 => .int
  | 39 => .int
  | 40 => .int
  | 41 => .int
  | 42 => .array .int
  | 43 => .int
  | 44 => .int
  | 45 => .array .int
  | 46 => .int
  | 47 => .int
  | 48 => .array .int
  | 49 => .array .int
  | 50 => .int
  | 51 => .array .int
  | 52 => .array .int
  | 53 => .array .int
  | 54 => .array .int
  | 55 => .array .int
  | 56 => .array .int
  | 57 => .array .int
  | 58 => .array .int
  | 59 => .array .int
  | 60 => .int
  | 61 => .int
  | 62 => .int
  | 63 => .array .int
  | _ => .array .boolean
theorem nmX9 : ∀ a, a < 65 → ∀ b, b < 65 → a ≠ b → (TX9 a).2.1 ≠ (TX9 b).2.1 := by decide +kernel
theorem tyX9_ok : ∀ k, k < 65 → parseFieldDescriptor (TX9 k).2.2.1 = some (tyX9 k) := by decide +kernel
theorem ee_dcX9 : ∀ k, k < 65 → (TX9 k).1 = RX9 := by decide +kernel
abbrev vwCl : List vw_C := [(RX0, TX0, 4), (RX1, TX1, 2), (RX2, TX2, 13), (RX3, TX3, 5), (RX4, TX4, 3), (RX5, TX5, 11), (RX6, TX6, 6), (RX7, TX7, 19), (RX8, TX8, 12), (RX9, TX9, 65)]
/-- the words that a callee may keep -/
def ee_tbl : List Cond := lw_tbl.filter goodWord
def ee_own : List String := [RX0, RX1, RX2, RX3, RX4, RX5, RX6, RX7, RX8, RX9, "PepperTablesLaw", "java/lang/Integer", "java/lang/String", "java/lang/StringLatin1", "jdk/internal/util/Preconditions"]
def ee_at (i : Nat) (w : Cond) : Bool := decide (lw_tbl[i]? = some w) && goodWord w
theorem ee_at.mem {i : Nat} {w : Cond} (h : ee_at i w = true) : w ∈ ee_tbl := by
  have h := Bool.and_eq_true_iff.mp h
  exact List.mem_filter.mpr ⟨List.mem_of_getElem? (of_decide_eq_true h.1), h.2⟩
def ee_atL (i : Nat) (w : Cond) : Bool := decide (lw_tbl[i]? = some w)
theorem ee_atL.mem {i : Nat} {w : Cond} (h : ee_atL i w = true) : w ∈ lw_tbl := List.mem_of_getElem? (of_decide_eq_true h)
theorem ee_tbl_good : ∀ w ∈ ee_tbl, goodWord w = true := fun w h => (List.mem_filter.mp h).2
theorem ee_tbl_lw : ∀ w ∈ ee_tbl, w ∈ lw_tbl := fun w h => (List.mem_filter.mp h).1
theorem ee_wsX0 : u_ws RX0 TX0 4 = [416, 418, 420, 422].filterMap (fun i => lw_tbl[i]?) ∧ (u_ws RX0 TX0 4).all goodWord = true := by decide +kernel
theorem ee_wsX1 : u_ws RX1 TX1 2 = [433, 435].filterMap (fun i => lw_tbl[i]?) ∧ (u_ws RX1 TX1 2).all goodWord = true := by decide +kernel
theorem ee_wsX2 : u_ws RX2 TX2 13 = [485, 487, 489, 491, 493, 495, 497, 499, 501, 503, 505, 507, 509].filterMap (fun i => lw_tbl[i]?) ∧ (u_ws RX2 TX2 13).all goodWord = true := by decide +kernel
theorem ee_wsX3 : u_ws RX3 TX3 5 = [451, 453, 455, 457, 459].filterMap (fun i => lw_tbl[i]?) ∧ (u_ws RX3 TX3 5).all goodWord = true := by decide +kernel
theorem ee_wsX4 : u_ws RX4 TX4 3 = [397, 399, 401].filterMap (fun i => lw_tbl[i]?) ∧ (u_ws RX4 TX4 3).all goodWord = true := by decide +kernel
theorem ee_wsX5 : u_ws RX5 TX5 11 = [326, 328, 330, 332, 334, 336, 338, 340, 342, 344, 346].filterMap (fun i => lw_tbl[i]?) ∧ (u_ws RX5 TX5 11).all goodWord = true := by decide +kernel
theorem ee_wsX6 : u_ws RX6 TX6 6 = [375, 377, 379, 381, 383, 385].filterMap (fun i => lw_tbl[i]?) ∧ (u_ws RX6 TX6 6).all goodWord = true := by decide +kernel
theorem ee_wsX7 : u_ws RX7 TX7 19 = [220, 222, 224, 226, 228, 230, 232, 234, 236, 238, 240, 242, 244, 246, 248, 250, 252, 254, 256].filterMap (fun i => lw_tbl[i]?) ∧ (u_ws RX7 TX7 19).all goodWord = true := by decide +kernel
theorem ee_wsX8 : u_ws RX8 TX8 12 = [524, 526, 528, 530, 532, 534, 536, 538, 540, 542, 544, 546].filterMap (fun i => lw_tbl[i]?) ∧ (u_ws RX8 TX8 12).all goodWord = true := by decide +kernel
theorem ee_wsX9 : u_ws RX9 TX9 65 = [1296, 1298, 1300, 1302, 1304, 1306, 1308, 1310, 1312, 1314, 1316, 1318, 1320, 1322, 1324, 1326, 1328, 1330, 1332, 1334, 1336, 1338, 1340, 1342, 1344, 1346, 1348, 1350, 1352, 1354, 1356, 1358, 1360, 1362, 1364, 1366, 1368, 1370, 1372, 1374, 1376, 1378, 1380, 1382, 1384, 1386, 1388, 1390, 1392, 1394, 1396, 1398, 1400, 1402, 1404, 1406, 1408, 1410, 1412, 1414, 1416, 1418, 1420, 1422, 1424].filterMap (fun i => lw_tbl[i]?) ∧ (u_ws RX9 TX9 65).all goodWord = true := by decide +kernel
theorem ee_in_of {ws : List Cond} {ps : List Nat} (h : ws = ps.filterMap (fun i => lw_tbl[i]?) ∧ ws.all goodWord = true) : ∀ w ∈ ws, w ∈ ee_tbl := fun w hw => by
  have hg := List.all_eq_true.mp h.2 w hw
  rw [h.1] at hw
  obtain ⟨i, -, hi⟩ := List.mem_filterMap.mp hw
  exact List.mem_filter.mpr ⟨List.mem_of_getElem? hi, hg⟩
/-- what the tables say of a kind -/
def ee_Kd (q : vw_C) : Prop := (∀ w ∈ u_ws q.1 q.2.1 q.2.2, w ∈ ee_tbl) ∧ (∀ a, a < q.2.2 → ∀ b, b < q.2.2 → a ≠ b → (q.2.1 a).2.1 ≠ (q.2.1 b).2.1) ∧ ∃ ty : Nat → FieldType, ∀ k, k < q.2.2 → (parseFieldDescriptor (q.2.1 k).2.2.1 = some (ty k) ∧ (q.2.1 k).1 = q.1)
theorem ee_kd : ∀ (k : Nat) (q : vw_C), vwCl[k]? = some q → ee_Kd q := by
  intro k q h
  match k, h with
  | 0, h => cases h; exact ⟨ee_in_of ee_wsX0, nmX0, tyX0, fun k hk => ⟨tyX0_ok k hk, ee_dcX0 k hk⟩⟩
  | 1, h => cases h; exact ⟨ee_in_of ee_wsX1, nmX1, tyX1, fun k hk => ⟨tyX1_ok k hk, ee_dcX1 k hk⟩⟩
  | 2, h => cases h; exact ⟨ee_in_of ee_wsX2, nmX2, tyX2, fun k hk => ⟨tyX2_ok k hk, ee_dcX2 k hk⟩⟩
  | 3, h => cases h; exact ⟨ee_in_of ee_wsX3, nmX3, tyX3, fun k hk => ⟨tyX3_ok k hk, ee_dcX3 k hk⟩⟩
  | 4, h => cases h; exact ⟨ee_in_of ee_wsX4, nmX4, tyX4, fun k hk => ⟨tyX4_ok k hk, ee_dcX4 k hk⟩⟩
  | 5, h => cases h; exact ⟨ee_in_of ee_wsX5, nmX5, tyX5, fun k hk => ⟨tyX5_ok k hk, ee_dcX5 k hk⟩⟩
  | 6, h => cases h; exact ⟨ee_in_of ee_wsX6, nmX6, tyX6, fun k hk => ⟨tyX6_ok k hk, ee_dcX6 k hk⟩⟩
  | 7, h => cases h; exact ⟨ee_in_of ee_wsX7, nmX7, tyX7, fun k hk => ⟨tyX7_ok k hk, ee_dcX7 k hk⟩⟩
  | 8, h => cases h; exact ⟨ee_in_of ee_wsX8, nmX8, tyX8, fun k hk => ⟨tyX8_ok k hk, ee_dcX8 k hk⟩⟩
  | 9, h => cases h; exact ⟨ee_in_of ee_wsX9, nmX9, tyX9, fun k hk => ⟨tyX9_ok k hk, ee_dcX9 k hk⟩⟩
  | k + 10, h => simp [vwCl] at h
theorem ee_okn : ∀ (k : Nat) (q : vw_C), vwCl[k]? = some q → ee_own[k]? = some q.1 := by
  intro k q h
  match k, h with
  | 0, h => cases h; rfl
  | 1, h => cases h; rfl
  | 2, h => cases h; rfl
  | 3, h => cases h; rfl
  | 4, h => cases h; rfl
  | 5, h => cases h; rfl
  | 6, h => cases h; rfl
  | 7, h => cases h; rfl
  | 8, h => cases h; rfl
  | 9, h => cases h; rfl
  | k + 10, h => simp [vwCl] at h
theorem ee_inst : ∀ (k : Nat) (q : vw_C), vwCl[k]? = some q → Cond.instantiable q.1 q.2.2 ∈ ee_tbl := by
  intro k q h
  match k, h with
  | 0, h => cases h; exact ee_at.mem (i := 405) (by decide +kernel)
  | 1, h => cases h; exact ee_at.mem (i := 426) (by decide +kernel)
  | 2, h => cases h; exact ee_at.mem (i := 463) (by decide +kernel)
  | 3, h => cases h; exact ee_at.mem (i := 440) (by decide +kernel)
  | 4, h => cases h; exact ee_at.mem (i := 389) (by decide +kernel)
  | 5, h => cases h; exact ee_at.mem (i := 143) (by decide +kernel)
  | 6, h => cases h; exact ee_at.mem (i := 353) (by decide +kernel)
  | 7, h => cases h; exact ee_at.mem (i := 149) (by decide +kernel)
  | 8, h => cases h; exact ee_at.mem (i := 135) (by decide +kernel)
  | 9, h => cases h; exact ee_at.mem (i := 1210) (by decide +kernel)
  | k + 10, h => simp [vwCl] at h
def ee_len : List Nat := [89, 11]
def ee_byt : List (List Int32) := [[112, 101, 114, 115, 111, 110, 32, 115, 97, 99, 107, 32, 116, 104, 105, 110, 103, 32, 115, 97, 105, 100, 32, 115, 110, 101, 101, 122, 101, 32, 100, 114, 97, 119, 32, 98, 121, 32, 116, 111, 32, 105, 110, 32, 111, 114, 32, 97, 110, 100, 32, 110, 111, 116, 32, 104, 111, 116, 32, 115, 104, 121, 32, 103, 117, 101, 115, 116, 115, 32, 103, 114, 111, 117, 110, 100, 32, 104, 101, 97, 116, 32, 99, 111, 117, 114, 115, 101, 32], [59, 40, 41, 60, 62, 61, 43, 45, 42, 47, 37]]
def ee_six : List Nat := [30, 73]
def ee_stx : List String := ["person sack thing said sneeze draw by to in or and not hot shy guests ground heat course ", ";()<>=+-*/%"]
end
section
/-! a symbolic walker over the machine: values, cells, states, and what they stand for -/
/-- of each symbol: its bounds, and (if known) that it is another one plus a number -/
abbrev ee_iv : Type := List (Int × Int × Option (Nat × Int32))
/-- a cell: an object (its kind's number, its fields), or an array (its kind: 0 int, 1 byte, 2 boolean, 3 long; its length; bounds of its elements, but for those that are named) -/
abbrev ee_cell : Type := (Nat × List Value) ⊕ (Nat × Nat × Int × Int × List (Nat × Value))
abbrev ee_w : Type := List ee_cell
/-- pc, locals, stack, cells, symbols, cells and slots made so far, values kept for the callers -/
abbrev ee_st : Type := Nat × List (Nat × Value) × List Value × ee_w × ee_iv × Nat × Nat × List Value
abbrev ee_out : Type := Option Value × ee_w × ee_iv × Nat × Nat × List Value
def ee_all {α β : Type} (R : α → β → Prop) : List α → List β → Prop
  | [], [] => True
  | a :: l, b :: k => R a b ∧ ee_all R l k
  | _, _ => False
theorem ee_all.imp {α β : Type} {R S : α → β → Prop} (h : ∀ a b, R a b → S a b) : ∀ {l : List α} {k : List β}, ee_all R l k → ee_all S l k
  | [], [], _ => trivial
  | a :: l, b :: k, q => ⟨h a b q.1, ee_all.imp h q.2⟩
  | [], _ :: _, q => q.elim
  | _ :: _, [], q => q.elim
theorem ee_all.len {α β : Type} {R : α → β → Prop} : ∀ {l : List α} {k : List β}, ee_all R l k → l.length = k.length
  | [], [], _ => rfl
  | a :: l, b :: k, q => by rw [List.length_cons, List.length_cons, ee_all.len q.2]
  | [], _ :: _, q => q.elim
  | _ :: _, [], q => q.elim
theorem ee_all.get {α β : Type} {R : α → β → Prop} : ∀ {l : List α} {k : List β} {i : Nat} {a : α}, ee_all R l k → l[i]? = some a → ∃ b, k[i]? = some b ∧ R a b
  | [], [], i, a, _, h => by simp at h
  | x :: l, y :: k, 0, a, q, h => by
    rw [List.getElem?_cons_zero] at h
    cases h
    exact ⟨y, List.getElem?_cons_zero, q.1⟩
  | x :: l, y :: k, i + 1, a, q, h => by
    rw [List.getElem?_cons_succ] at h
    obtain ⟨b, h1, h2⟩ := ee_all.get q.2 h
    exact ⟨b, by rw [List.getElem?_cons_succ]; exact h1, h2⟩
  | [], _ :: _, _, _, q, _ => q.elim
  | _ :: _, [], _, _, q, _ => q.elim
theorem ee_all.set {α β : Type} {R : α → β → Prop} {a : α} {b : β} (hab : R a b) : ∀ {l : List α} {k : List β} {i : Nat}, ee_all R l k → ee_all R (l.set i a) (k.set i b)
  | [], [], _, _ => trivial
  | x :: l, y :: k, 0, q => ⟨hab, q.2⟩
  | x :: l, y :: k, i + 1, q => ⟨q.1, ee_all.set hab q.2⟩
  | [], _ :: _, _, q => q.elim
  | _ :: _, [], _, q => q.elim
theorem ee_all.app {α β : Type} {R : α → β → Prop} : ∀ {l l2 : List α} {k k2 : List β}, ee_all R l k → ee_all R l2 k2 → ee_all R (l ++ l2) (k ++ k2)
  | [], _, [], _, _, h => h
  | a :: l, _, b :: k, _, q, h => ⟨q.1, ee_all.app q.2 h⟩
  | [], _, _ :: _, _, q, _ => q.elim
  | _ :: _, _, [], _, q, _ => q.elim
theorem ee_all.split {α β : Type} {R : α → β → Prop} : ∀ {l l2 : List α} {k : List β}, ee_all R (l ++ l2) k → ∃ k1 k2, k = k1 ++ k2 ∧ ee_all R l k1 ∧ ee_all R l2 k2
  | [], _, k, h => ⟨[], k, rfl, trivial, h⟩
  | a :: l, l2, [], h => h.elim
  | a :: l, l2, b :: k, h => by
    obtain ⟨k1, k2, e, h1, h2⟩ := ee_all.split (l := l) (l2 := l2) (k := k) h.2
    exact ⟨b :: k1, k2, by rw [e]; rfl, ⟨h.1, h1⟩, h2⟩
theorem ee_all.split2 {α β : Type} {R : α → β → Prop} : ∀ {l : List α} {k1 k2 : List β}, ee_all R l (k1 ++ k2) → ee_all R (l.take k1.length) k1 ∧ ee_all R (l.drop k1.length) k2
  | l, [], k2, h => ⟨by simp [ee_all], by simpa using h⟩
  | [], b :: k1, k2, h => h.elim
  | a :: l, b :: k1, k2, h => by
    obtain ⟨h1, h2⟩ := ee_all.split2 (l := l) (k1 := k1) (k2 := k2) h.2
    exact ⟨⟨h.1, by simpa using h1⟩, by simpa using h2⟩
theorem ee_all.filter {α β : Type} {R : α → β → Prop} {p : α → Bool} {q : β → Bool} (h : ∀ a b, R a b → p a = q b) : ∀ {l : List α} {k : List β}, ee_all R l k → ee_all R (l.filter p) (k.filter q)
  | [], [], _ => trivial
  | a :: l, b :: k, z => by
    have ih := ee_all.filter h z.2
    have e := h a b z.1
    cases hp : p a with
    | true =>
      rw [List.filter_cons_of_pos hp, List.filter_cons_of_pos (by rw [← e]; exact hp)]
      exact ⟨z.1, ih⟩
    | false =>
      rw [List.filter_cons_of_neg (by rw [hp]; simp), List.filter_cons_of_neg (by rw [← e, hp]; simp)]
      exact ih
  | [], _ :: _, z => z.elim
  | _ :: _, [], z => z.elim
theorem ee_all.rev {α β : Type} {R : α → β → Prop} : ∀ {l : List α} {k : List β}, ee_all R l k → ee_all R l.reverse k.reverse
  | [], [], _ => trivial
  | a :: l, b :: k, q => by
    rw [List.reverse_cons, List.reverse_cons]
    exact ee_all.app (ee_all.rev q.2) ⟨q.1, trivial⟩
  | [], _ :: _, q => q.elim
  | _ :: _, [], q => q.elim
/-- what a symbolic value stands for: numbers of the symbols, addresses of the cells, addresses of what lies outside -/
def ee_v (ns : List Int32) (as : List Nat) (ex : Nat → Nat) (x v : Value) : Prop := match x with
  | .int c => v = .int c
  | .retAddr k => ∃ z, ns[k]? = some z ∧ v = .int z
  | .ref k => if k < 1000000 then ∃ a, as[k]? = some a ∧ v = .ref a else v = .ref (ex k)
  | .null => v = .null
  | .long _ => ∃ z, v = .long z
  | .float _ => v = .null ∨ ∃ a, v = .ref a
  | .double _ => False
theorem ee_get_app {α : Type} {l r : List α} {k : Nat} {a : α} (h : l[k]? = some a) : (l ++ r)[k]? = some a := by
  rw [List.getElem?_append_left (List.getElem?_eq_some_iff.mp h).1]
  exact h
theorem ee_v.mono {ns : List Int32} {as : List Nat} {ex : Nat → Nat} {x v : Value} (n2 : List Int32) (a2 : List Nat) (h : ee_v ns as ex x v) : ee_v (ns ++ n2) (as ++ a2) ex x v := by
  cases x with
  | int c => exact h
  | retAddr k =>
    obtain ⟨z, h1, h2⟩ := h
    exact ⟨z, ee_get_app h1, h2⟩
  | ref k =>
    unfold ee_v at h ⊢
    by_cases hk : k < 1000000
    · simp only [hk, if_true] at h ⊢
      obtain ⟨a, h1, h2⟩ := h
      exact ⟨a, ee_get_app h1, h2⟩
    · simp only [hk, if_false] at h ⊢
      exact h
  | null => exact h
  | long z => exact h
  | float z => exact h
  | double z => exact h
def ee_cat (x : Value) : Nat := match x with
  | .long _ => 2
  | _ => 1
theorem ee_v.cat {ns : List Int32} {as : List Nat} {ex : Nat → Nat} {x v : Value} (h : ee_v ns as ex x v) : v.category = ee_cat x := by
  cases x with
  | int c => rw [show v = .int c from h]; rfl
  | retAddr k =>
    obtain ⟨z, h1, h2⟩ := h
    rw [h2]; rfl
  | ref k =>
    unfold ee_v at h
    by_cases hk : k < 1000000
    · simp only [hk, if_true] at h
      obtain ⟨a, h1, h2⟩ := h
      rw [h2]; rfl
    · simp only [hk, if_false] at h
      rw [h]; rfl
  | null => rw [show v = .null from h]; rfl
  | long z =>
    obtain ⟨z, h2⟩ := h
    rw [h2]; rfl
  | float z =>
    rcases h with h | ⟨a, h⟩ <;> (rw [h]; rfl)
  | double z => exact h.elim
/-- what an array's element is -/
def ee_el (ns : List Int32) (as : List Nat) (ex : Nat → Nat) (lo hi : Int) (ov : List (Nat × Value)) (j : Nat) (z : Int32) : Prop := match ov.lookup j with
  | some x => ee_v ns as ex x (.int z)
  | none => lo ≤ z.toInt ∧ z.toInt ≤ hi
theorem ee_el.mono {ns : List Int32} {as : List Nat} {ex : Nat → Nat} {lo hi : Int} {ov : List (Nat × Value)} {j : Nat} {z : Int32} (n2 : List Int32) (a2 : List Nat) (h : ee_el ns as ex lo hi ov j z) : ee_el (ns ++ n2) (as ++ a2) ex lo hi ov j z := by
  unfold ee_el at h ⊢
  cases hl : ov.lookup j with
  | none => rw [hl] at h; exact h
  | some x => rw [hl] at h; exact ee_v.mono n2 a2 h
def ee_c (ns : List Int32) (as : List Nat) (ex : Nat → Nat) (dA : Nat → ClassId) (x : ee_cell) (e : va_E) : Prop := match x with
  | .inl (ci, fs) => ∃ vs, e = .inr (ci, vs) ∧ ee_all (ee_v ns as ex) fs vs
  | .inr (t, n, lo, hi, ov) => if t = 3 then ∃ f : Nat → Int64, e = .inl (dA 3, n, .inr (.inl f)) else t < 3 ∧ ∃ f : Nat → Int32, e = .inl (dA t, n, .inl f) ∧ ∀ j, j < n → ee_el ns as ex lo hi ov j (f j)
theorem ee_c.mono {ns : List Int32} {as : List Nat} {ex : Nat → Nat} {dA : Nat → ClassId} {x : ee_cell} {e : va_E} (n2 : List Int32) (a2 : List Nat) (h : ee_c ns as ex dA x e) : ee_c (ns ++ n2) (as ++ a2) ex dA x e := by
  match x, h with
  | .inl (ci, fs), ⟨vs, h1, h2⟩ => exact ⟨vs, h1, h2.imp (fun a b q => ee_v.mono n2 a2 q)⟩
  | .inr (t, n, lo, hi, ov), h =>
    unfold ee_c at h ⊢
    by_cases ht : t = 3
    · simp only [ht, if_true] at h ⊢
      exact h
    · simp only [ht, if_false] at h ⊢
      obtain ⟨h0, f, h1, h2⟩ := h
      exact ⟨h0, f, h1, fun j hj => (h2 j hj).mono n2 a2⟩
/-- the cells -/
def ee_wr (ns : List Int32) (as : List Nat) (ex : Nat → Nat) (dA : Nat → ClassId) (w : ee_w) (ws : va_W) : Prop := as = ws.map (fun q => q.1) ∧ ee_all (fun x q => ee_c ns as ex dA x q.2) w ws
/-- the symbols -/
def ee_ok (ns : List Int32) (iv : ee_iv) : Prop := iv.length = ns.length ∧ ∀ (k : Nat) (q : Int × Int × Option (Nat × Int32)), iv[k]? = some q → ∃ z, ns[k]? = some z ∧ q.1 ≤ z.toInt ∧ z.toInt ≤ q.2.1 ∧ ∀ j d, q.2.2 = some (j, d) → ∃ y, ns[j]? = some y ∧ z = y + d
theorem ee_ok.push {ns : List Int32} {iv : ee_iv} (h : ee_ok ns iv) {z : Int32} {lo hi : Int} {o : Option (Nat × Int32)} (h1 : lo ≤ z.toInt) (h2 : z.toInt ≤ hi) (h3 : ∀ j d, o = some (j, d) → ∃ y, ns[j]? = some y ∧ z = y + d) : ee_ok (ns ++ [z]) (iv ++ [(lo, hi, o)]) := by
  refine ⟨by rw [List.length_append, List.length_append, h.1]; rfl, fun k q hk => ?_⟩
  by_cases hl : k < iv.length
  · rw [List.getElem?_append_left hl] at hk
    obtain ⟨y, g1, g2, g3, g4⟩ := h.2 k q hk
    refine ⟨y, ee_get_app g1, g2, g3, fun j d hj => ?_⟩
    obtain ⟨x, f1, f2⟩ := g4 j d hj
    exact ⟨x, ee_get_app f1, f2⟩
  · rw [List.getElem?_append_right (by omega)] at hk
    have hz : k - iv.length < 1 := (List.getElem?_eq_some_iff.mp hk).1
    have hk0 : k = iv.length := by omega
    subst hk0
    rw [Nat.sub_self] at hk
    cases hk
    refine ⟨z, by rw [h.1, List.getElem?_append_right (Nat.le_refl _), Nat.sub_self]; rfl, h1, h2, fun j d hj => ?_⟩
    obtain ⟨x, f1, f2⟩ := h3 j d hj
    exact ⟨x, ee_get_app f1, f2⟩
theorem ee_ok.last {ns : List Int32} {iv : ee_iv} (h : ee_ok ns iv) (z : Int32) : (ns ++ [z])[iv.length]? = some z := by
  rw [h.1, List.getElem?_append_right (Nat.le_refl _), Nat.sub_self]; rfl
/-- an int's bounds -/
def ee_it (iv : ee_iv) (x : Value) : Option (Int × Int) := match x with
  | .int c => some (c.toInt, c.toInt)
  | .retAddr k => match iv[k]? with
    | some q => some (q.1, q.2.1)
    | none => none
  | _ => none
theorem ee_it.int {ns : List Int32} {as : List Nat} {ex : Nat → Nat} {iv : ee_iv} {x v : Value} {a b : Int} (hk : ee_ok ns iv) (h : ee_v ns as ex x v) (hi : ee_it iv x = some (a, b)) : ∃ z : Int32, v = .int z ∧ a ≤ z.toInt ∧ z.toInt ≤ b := by
  cases x with
  | int c =>
    cases hi
    exact ⟨c, h, Int.le_refl _, Int.le_refl _⟩
  | retAddr k =>
    obtain ⟨z, h1, h2⟩ := h
    simp only [ee_it] at hi
    cases hq : iv[k]? with
    | none => rw [hq] at hi; cases hi
    | some q =>
      rw [hq] at hi
      cases hi
      obtain ⟨y, g1, g2, g3, -⟩ := hk.2 k q hq
      rw [h1] at g1
      cases g1
      exact ⟨z, h2, g2, g3⟩
  | _ => cases hi
/-- an int that is known -/
def ee_cn (iv : ee_iv) (x : Value) : Option Int32 := match x with
  | .int c => some c
  | .retAddr k => match iv[k]? with
    | some q => if q.1 = q.2.1 then some (Int32.ofInt q.1) else none
    | none => none
  | _ => none
theorem ee_cn.int {ns : List Int32} {as : List Nat} {ex : Nat → Nat} {iv : ee_iv} {x v : Value} {c : Int32} (hk : ee_ok ns iv) (h : ee_v ns as ex x v) (hi : ee_cn iv x = some c) : v = .int c := by
  cases x with
  | int d =>
    cases hi
    exact h
  | retAddr k =>
    obtain ⟨z, h1, h2⟩ := h
    simp only [ee_cn] at hi
    cases hq : iv[k]? with
    | none => rw [hq] at hi; cases hi
    | some q =>
      rw [hq] at hi
      obtain ⟨y, g1, g2, g3, -⟩ := hk.2 k q hq
      rw [h1] at g1
      cases g1
      by_cases e : q.1 = q.2.1
      · simp only [e, if_true] at hi
        cases hi
        rw [h2, ← show z.toInt = q.2.1 by omega, Int32.ofInt_toInt]
      · simp only [e, if_false] at hi
        cases hi
  | _ => cases hi
/-- closer bounds -/
def ee_put (iv : ee_iv) (x : Value) (lo hi : Int) : ee_iv := match x with
  | .retAddr k => match iv[k]? with
    | some q => iv.set k (lo, hi, q.2.2)
    | none => iv
  | _ => iv
theorem ee_put.ok {ns : List Int32} {as : List Nat} {ex : Nat → Nat} {iv : ee_iv} {x : Value} {z : Int32} {lo hi : Int} (hk : ee_ok ns iv) (h : ee_v ns as ex x (.int z)) (h1 : lo ≤ z.toInt) (h2 : z.toInt ≤ hi) : ee_ok ns (ee_put iv x lo hi) := by
  cases x with
  | retAddr k =>
    obtain ⟨y, g1, g2⟩ := h
    cases g2
    simp only [ee_put]
    cases hq : iv[k]? with
    | none => exact hk
    | some q =>
      refine ⟨by rw [List.length_set]; exact hk.1, fun i r hr => ?_⟩
      by_cases hi : i = k
      · subst hi
        rw [List.getElem?_set_self (List.getElem?_eq_some_iff.mp hq).1] at hr
        cases hr
        obtain ⟨y, f1, -, -, f4⟩ := hk.2 i q hq
        rw [g1] at f1
        cases f1
        exact ⟨z, g1, h1, h2, f4⟩
      · rw [List.getElem?_set_ne (Ne.symm hi)] at hr
        exact hk.2 i r hr
  | _ => exact hk
def ee_mx (a b : Int) : Int := if a ≤ b then b else a
def ee_mn (a b : Int) : Int := if a ≤ b then a else b
theorem ee_mx_le {a b c : Int} (h1 : a ≤ c) (h2 : b ≤ c) : ee_mx a b ≤ c := by unfold ee_mx; split <;> assumption
theorem ee_le_mn {a b c : Int} (h1 : c ≤ a) (h2 : c ≤ b) : c ≤ ee_mn a b := by unfold ee_mn; split <;> assumption
/-- what the answer of a comparison says of both bounds; none: it cannot be -/
def ee_rf (c : ClassFile.Cond) (iv : ee_iv) (x y : Value) (a b d e : Int) : List ee_iv := match c with
  | .eq => if ee_mx a d ≤ ee_mn b e then [ee_put (ee_put iv x (ee_mx a d) (ee_mn b e)) y (ee_mx a d) (ee_mn b e)] else []
  | .ne => if x = y then [] else if d = e then
      (if a = d then (if b = d then [] else [ee_put iv x (a + 1) b]) else if b = d then [ee_put iv x a (b - 1)] else if a < d ∧ d < b then [ee_put iv x a (d - 1), ee_put iv x (d + 1) b] else [iv])
    else [iv]
  | .lt => if x = y then [] else if a ≤ ee_mn b (e - 1) ∧ ee_mx d (a + 1) ≤ e then [ee_put (ee_put iv x a (ee_mn b (e - 1))) y (ee_mx d (a + 1)) e] else []
  | .ge => if ee_mx a d ≤ b ∧ d ≤ ee_mn e b then [ee_put (ee_put iv x (ee_mx a d) b) y d (ee_mn e b)] else []
  | .gt => if x = y then [] else if d ≤ ee_mn e (b - 1) ∧ ee_mx a (d + 1) ≤ b then [ee_put (ee_put iv y d (ee_mn e (b - 1))) x (ee_mx a (d + 1)) b] else []
  | .le => if ee_mx d a ≤ e ∧ a ≤ ee_mn b e then [ee_put (ee_put iv y (ee_mx d a) e) x a (ee_mn b e)] else []
def ee_cd (c : ClassFile.Cond) (x y : Int) : Prop := match c with
  | .eq => x = y
  | .ne => x ≠ y
  | .lt => x < y
  | .ge => y ≤ x
  | .gt => y < x
  | .le => x ≤ y
theorem ee_v.one {ns : List Int32} {as : List Nat} {ex : Nat → Nat} {x : Value} {z y : Int32} (h : ee_v ns as ex x (.int z)) (h2 : ee_v ns as ex x (.int y)) : z = y := by
  cases x with
  | int c =>
    have e1 : Value.int z = Value.int c := h
    have e2 : Value.int y = Value.int c := h2
    cases e1; cases e2; rfl
  | retAddr k =>
    obtain ⟨q, g1, g2⟩ := h
    obtain ⟨r, g3, g4⟩ := h2
    rw [g1] at g3
    cases g3; cases g2; cases g4; rfl
  | ref k =>
    unfold ee_v at h
    by_cases hk : k < 1000000
    · simp only [hk, if_true] at h
      obtain ⟨a, h1, h2⟩ := h
      cases h2
    · simp only [hk, if_false] at h
      cases h
  | null => cases (show Value.int z = Value.null from h)
  | long q =>
    obtain ⟨q, h⟩ := h
    cases h
  | float q =>
    rcases h with h | ⟨a, h⟩ <;> cases h
  | double q => exact h.elim
theorem ee_rf.ok {ns : List Int32} {as : List Nat} {ex : Nat → Nat} {iv : ee_iv} {x y : Value} {p q : Int32} {a b d e : Int} {c : ClassFile.Cond} (hk : ee_ok ns iv) (hx : ee_v ns as ex x (.int p)) (hy : ee_v ns as ex y (.int q)) (h1 : a ≤ p.toInt) (h2 : p.toInt ≤ b) (h3 : d ≤ q.toInt) (h4 : q.toInt ≤ e) (hc : ee_cd c p.toInt q.toInt) : ∃ iv', iv' ∈ ee_rf c iv x y a b d e ∧ ee_ok ns iv' := by
  have same : x = y → p.toInt = q.toInt := fun h => by subst h; rw [ee_v.one hx hy]
  have mx : ∀ u v r : Int, u ≤ r → v ≤ r → ee_mx u v ≤ r := fun u v r => ee_mx_le
  have mn : ∀ u v r : Int, r ≤ u → r ≤ v → r ≤ ee_mn u v := fun u v r => ee_le_mn
  have one : ∀ {z : ee_iv}, ee_ok ns z → ∃ iv', iv' ∈ [z] ∧ ee_ok ns iv' := fun {z} h => ⟨z, List.mem_cons_self, h⟩
  cases c with
  | eq =>
    have hc : p.toInt = q.toInt := hc
    have e1 := mx a d p.toInt h1 (by omega)
    have e2 := mn b e p.toInt h2 (by omega)
    simp only [ee_rf]
    rw [if_pos (by omega)]
    exact one (ee_put.ok (ee_put.ok hk hx e1 e2) hy (by omega) (by omega))
  | ne =>
    have hc : p.toInt ≠ q.toInt := hc
    simp only [ee_rf]
    rw [if_neg (fun h => hc (same h))]
    by_cases e1 : d = e
    · rw [if_pos e1]
      by_cases e2 : a = d
      · rw [if_pos e2]
        by_cases e3 : b = d
        · exact absurd (by omega) hc
        · rw [if_neg e3]
          exact one (ee_put.ok hk hx (by omega) h2)
      · rw [if_neg e2]
        by_cases e3 : b = d
        · rw [if_pos e3]
          exact one (ee_put.ok hk hx h1 (by omega))
        · rw [if_neg e3]
          by_cases e4 : a < d ∧ d < b
          · rw [if_pos e4]
            by_cases e5 : p.toInt < d
            · exact ⟨_, List.mem_cons_self, ee_put.ok hk hx h1 (by omega)⟩
            · exact ⟨_, List.mem_cons_of_mem _ List.mem_cons_self, ee_put.ok hk hx (by omega) h2⟩
          · rw [if_neg e4]
            exact one hk
    · rw [if_neg e1]
      exact one hk
  | lt =>
    have hc : p.toInt < q.toInt := hc
    have e1 := mn b (e - 1) p.toInt h2 (by omega)
    have e2 := mx d (a + 1) q.toInt h3 (by omega)
    simp only [ee_rf]
    rw [if_neg (fun h => by have := same h; omega), if_pos ⟨by omega, by omega⟩]
    exact one (ee_put.ok (ee_put.ok hk hx h1 e1) hy e2 h4)
  | ge =>
    have hc : q.toInt ≤ p.toInt := hc
    have e1 := mx a d p.toInt h1 (by omega)
    have e2 := mn e b q.toInt h4 (by omega)
    simp only [ee_rf]
    rw [if_pos ⟨by omega, by omega⟩]
    exact one (ee_put.ok (ee_put.ok hk hx e1 h2) hy h3 e2)
  | gt =>
    have hc : q.toInt < p.toInt := hc
    have e1 := mn e (b - 1) q.toInt h4 (by omega)
    have e2 := mx a (d + 1) p.toInt h1 (by omega)
    simp only [ee_rf]
    rw [if_neg (fun h => by have := same h; omega), if_pos ⟨by omega, by omega⟩]
    exact one (ee_put.ok (ee_put.ok hk hy h3 e1) hx e2 h2)
  | le =>
    have hc : p.toInt ≤ q.toInt := hc
    have e1 := mx d a q.toInt h3 (by omega)
    have e2 := mn b e p.toInt h2 (by omega)
    simp only [ee_rf]
    rw [if_pos ⟨by omega, by omega⟩]
    exact one (ee_put.ok (ee_put.ok hk hy e1 h4) hx h1 e2)
end
section
/-! the links of the code, each by its place in the tables -/
abbrev ee_en : Type := Nat × ClassFile.Instr × Nat × Nat × Nat × Nat × Int
def ee_FL : List (Nat × Nat × Nat × Nat × Nat × Nat) := [(8, 10, 8, 0, 512, 3), (8, 19, 8, 1, 513, 3), (8, 26, 8, 2, 514, 3), (8, 30, 8, 3, 515, 3), (8, 36, 8, 4, 516, 3), (8, 43, 8, 5, 517, 3), (8, 50, 8, 6, 518, 3), (8, 57, 8, 7, 519, 3), (8, 64, 8, 8, 520, 3), (8, 68, 8, 9, 521, 3), (8, 72, 8, 10, 522, 3), (8, 75, 8, 11, 523, 3), (8, 107, 7, 2, 171, 0), (8, 236, 7, 0, 163, 0), (8, 233, 7, 1, 168, 0), (8, 123, 6, 0, 360, 0), (8, 137, 6, 1, 363, 0), (8, 189, 6, 2, 366, 0), (8, 192, 6, 3, 368, 0), (8, 325, 0, 0, 411, 0), (8, 328, 0, 1, 413, 0), (8, 331, 2, 0, 471, 0), (8, 332, 2, 1, 473, 0), (8, 78, 5, 0, 311, 0), (8, 335, 7, 3, 177, 0), (8, 103, 3, 0, 446, 0), (8, 195, 7, 4, 180, 0), (8, 152, 6, 4, 371, 3), (8, 110, 5, 1, 314, 0), (8, 113, 5, 2, 316, 0), (8, 165, 6, 5, 374, 3), (8, 120, 7, 10, 194, 3), (8, 143, 7, 11, 198, 3), (8, 149, 7, 13, 205, 3), (8, 90, 5, 3, 318, 3), (8, 146, 7, 12, 202, 3), (0, 11, 0, 3, 415, 3), (0, 15, 0, 0, 410, 0), (0, 19, 0, 1, 412, 0), (0, 22, 0, 2, 414, 0), (1, 11, 1, 0, 431, 3), (1, 17, 1, 1, 432, 3), (2, 11, 2, 4, 476, 3), (2, 15, 2, 5, 477, 3), (2, 18, 2, 6, 478, 3), (2, 22, 2, 7, 479, 3), (2, 25, 2, 8, 480, 3), (2, 28, 2, 9, 481, 3), (2, 31, 2, 10, 482, 3), (2, 34, 2, 11, 483, 3), (2, 40, 2, 12, 484, 3), (2, 44, 2, 0, 470, 0), (2, 48, 2, 2, 474, 1), (2, 52, 2, 1, 472, 0), (2, 56, 7, 2, 172, 0), (2, 65, 2, 3, 475, 0), (3, 9, 3, 1, 447, 3), (3, 15, 3, 2, 448, 3), (3, 18, 3, 3, 449, 3), (3, 21, 3, 0, 445, 0), (3, 30, 3, 4, 450, 0), (3, 25, 7, 0, 159, 0), (4, 9, 4, 0, 394, 3), (4, 15, 4, 1, 395, 3), (4, 18, 4, 2, 396, 3), (4, 42, 7, 1, 165, 0), (5, 9, 5, 2, 315, 0), (5, 18, 5, 3, 317, 3), (5, 22, 5, 4, 319, 3), (5, 26, 5, 5, 320, 3), (5, 44, 5, 0, 312, 0), (5, 49, 5, 1, 313, 0), (5, 52, 5, 6, 321, 0), (5, 58, 5, 7, 322, 0), (5, 64, 5, 8, 323, 0), (6, 9, 6, 4, 369, 3), (6, 15, 6, 5, 372, 3), (6, 18, 6, 0, 358, 0), (6, 22, 6, 1, 361, 0), (6, 25, 6, 2, 364, 0), (6, 28, 7, 5, 181, 0), (6, 33, 6, 3, 367, 0), (6, 36, 7, 2, 170, 0), (6, 39, 7, 14, 209, 3), (7, 9, 7, 10, 193, 3), (7, 15, 7, 11, 197, 3), (7, 18, 7, 12, 201, 3), (7, 21, 7, 13, 204, 3), (7, 24, 7, 14, 208, 3), (7, 27, 7, 15, 211, 3), (7, 30, 7, 16, 214, 3), (7, 34, 7, 17, 216, 3), (7, 37, 7, 18, 218, 3), (7, 50, 7, 2, 169, 0), (7, 72, 7, 6, 184, 0), (7, 43, 7, 0, 158, 0), (7, 47, 7, 1, 164, 0), (7, 53, 7, 3, 175, 0), (7, 56, 7, 4, 178, 0), (7, 59, 7, 5, 182, 0), (7, 62, 7, 7, 187, 1), (7, 66, 7, 8, 189, 1), (7, 69, 7, 9, 191, 1), (9, 7, 9, 0, 1231, 3), (9, 13, 9, 1, 1232, 3), (9, 16, 9, 5, 1236, 0), (9, 20, 9, 11, 1242, 3), (9, 24, 9, 12, 1243, 3), (9, 27, 9, 13, 1244, 3), (9, 30, 9, 14, 1245, 3), (9, 33, 9, 15, 1246, 3), (9, 36, 9, 16, 1247, 3), (9, 39, 9, 17, 1248, 3), (9, 42, 9, 18, 1249, 3), (9, 45, 9, 19, 1250, 3), (9, 48, 9, 20, 1251, 3), (9, 51, 9, 21, 1252, 3), (9, 54, 9, 22, 1253, 3), (9, 57, 9, 23, 1254, 3), (9, 60, 9, 24, 1255, 3), (9, 63, 9, 25, 1256, 3), (9, 67, 9, 26, 1257, 3), (9, 70, 9, 27, 1258, 3), (9, 73, 9, 28, 1259, 3), (9, 76, 9, 29, 1260, 3), (9, 79, 9, 30, 1261, 3), (9, 82, 9, 31, 1262, 3), (9, 85, 9, 32, 1263, 3), (9, 88, 9, 42, 1273, 3), (9, 91, 9, 43, 1274, 0), (9, 94, 9, 45, 1276, 3), (9, 97, 9, 48, 1279, 3), (9, 100, 9, 49, 1280, 3), (9, 103, 9, 51, 1282, 3), (9, 106, 9, 52, 1283, 3), (9, 109, 9, 53, 1284, 3), (9, 112, 9, 54, 1285, 3), (9, 115, 9, 55, 1286, 3), (9, 118, 9, 56, 1287, 3), (9, 121, 9, 57, 1288, 3), (9, 124, 9, 58, 1289, 3), (9, 127, 9, 59, 1290, 3), (9, 130, 9, 63, 1294, 3), (9, 133, 9, 64, 1295, 3), (9, 374, 9, 46, 1277, 0), (9, 377, 9, 47, 1278, 0), (9, 380, 9, 60, 1291, 0), (9, 482, 9, 61, 1292, 0), (9, 250, 9, 2, 1233, 0), (9, 253, 9, 33, 1264, 0), (9, 383, 9, 50, 1281, 0), (9, 492, 9, 62, 1293, 0), (9, 244, 9, 34, 1265, 0), (9, 247, 9, 35, 1266, 0), (9, 146, 9, 4, 1235, 0), (9, 185, 9, 7, 1238, 0), (9, 188, 9, 6, 1237, 0), (9, 143, 9, 3, 1234, 0), (9, 195, 9, 8, 1239, 0), (9, 202, 9, 10, 1241, 2), (9, 213, 9, 9, 1240, 0), (9, 398, 9, 44, 1275, 0)]
def ee_SL : List (Nat × Nat × Nat × Nat) := [(12, 9, 1, 1972), (12, 15, 0, 1973)]
def ee_ZL : List (Nat × Nat × Nat × Nat) := [(12, 1053, 1, 286), (12, 38, 0, 270)]
def ee_KL : List (Nat × Nat × Int × Nat) := [(2, 55, 100000, 1146), (9, 485, 100000, 1911), (11, 265, 1431655765, 815), (11, 266, 858993459, 816), (11, 267, 252645135, 817)]
def ee_LL : List (Nat × Nat × Int64 × Nat) := [(5, 42, 256, 310)]
def ee_NL : List (Nat × Nat × Nat × Nat × Nat × Nat) := [(8, 7, 5, 142, 143, 117), (8, 16, 7, 350, 149, 118), (8, 23, 6, 352, 353, 123), (8, 33, 4, 388, 389, 124), (8, 40, 0, 404, 405, 125), (8, 47, 1, 425, 426, 126), (8, 54, 3, 439, 440, 127), (8, 61, 2, 462, 463, 128), (2, 37, 6, 468, 353, 123), (5, 15, 7, 148, 149, 118), (10, 7, 8, 134, 135, 116), (10, 10, 9, 1209, 1210, 129)]
def ee_CL : List (Nat × Nat × Nat × Nat × Nat × Nat × Nat × Nat × Nat) := [(8, 9, 83, 2, 0, 144, 145, 0, 117), (8, 18, 91, 2, 0, 351, 151, 0, 118), (8, 25, 87, 2, 0, 354, 355, 0, 123), (8, 35, 81, 2, 0, 390, 391, 0, 124), (8, 42, 63, 2, 0, 406, 407, 0, 125), (8, 49, 68, 2, 0, 427, 428, 0, 126), (8, 56, 77, 2, 0, 441, 442, 0, 127), (8, 63, 72, 2, 0, 464, 465, 0, 128), (8, 126, 89, 0, 1, 764, 765, 766, 123), (8, 162, 95, 0, 1, 800, 801, 802, 118), (8, 186, 25, 0, 1, 878, 880, 30, 116), (8, 155, 27, 0, 1, 792, 794, 27, 116), (8, 209, 24, 1, 1, 914, 915, 0, 116), (8, 307, 75, 0, 3, 1151, 1152, 1153, 128), (8, 322, 71, 0, 2, 1200, 1201, 1202, 126), (8, 97, 64, 0, 1, 733, 734, 735, 125), (8, 178, 183, 1, 1, 859, 813, 0, 133), (8, 198, 52, 0, 0, 886, 888, 31, 116), (8, 175, 65, 0, 1, 854, 855, 856, 125), (8, 256, 82, 0, 2, 994, 995, 996, 124), (8, 116, 26, 0, 1, 760, 762, 25, 116), (8, 82, 84, 0, 1, 553, 554, 555, 117), (8, 318, 69, 0, 2, 1191, 1192, 1193, 126), (8, 140, 28, 0, 1, 784, 786, 26, 116), (8, 304, 74, 0, 1, 1142, 1143, 1144, 128), (8, 294, 80, 0, 1, 1118, 1119, 1120, 127), (8, 281, 79, 0, 2, 1049, 1050, 1051, 127), (8, 212, 92, 0, 0, 917, 769, 770, 118), (8, 260, 96, 0, 1, 1010, 819, 820, 118), (8, 291, 7, 1, 2, 1111, 1112, 0, 116), (8, 206, 67, 0, 1, 906, 907, 908, 125), (8, 86, 85, 0, 0, 565, 566, 567, 117), (8, 93, 88, 0, 1, 729, 730, 731, 123), (8, 101, 70, 0, 0, 744, 745, 746, 126), (8, 106, 73, 0, 0, 748, 749, 750, 128), (8, 202, 66, 0, 1, 894, 895, 896, 125), (8, 301, 76, 0, 1, 1134, 1135, 1136, 128), (0, 25, 90, 0, 2, 737, 738, 739, 123), (1, 21, 90, 0, 2, 1195, 738, 739, 123), (2, 39, 87, 2, 0, 469, 355, 0, 123), (3, 35, 78, 0, 2, 1057, 1059, 38, 127), (5, 17, 91, 2, 0, 150, 151, 0, 118), (5, 32, 188, 0, 0, 262, 263, 264, 119), (5, 38, 184, 0, 1, 272, 273, 274, 119), (5, 46, 94, 0, 0, 569, 570, 571, 118), (5, 55, 86, 0, 0, 573, 575, 1, 117), (6, 48, 92, 0, 0, 768, 769, 770, 118), (7, 40, 93, 0, 0, 154, 156, 0, 118), (10, 9, 0, 2, 0, 136, 137, 0, 116), (10, 12, 98, 2, 0, 1211, 1212, 0, 129), (10, 13, 14, 0, 5, 549, 550, 551, 116), (10, 17, 118, 0, 5, 1964, 1965, 1966, 129), (10, 18, 10, 0, 1, 557, 558, 559, 116), (10, 22, 114, 0, 1, 1968, 1969, 1970, 129), (10, 23, 55, 0, 0, 561, 562, 563, 116), (10, 27, 175, 0, 0, 1427, 1428, 1429, 129), (10, 28, 12, 0, 1, 752, 753, 754, 116), (10, 31, 116, 0, 1, 1572, 1573, 1574, 129), (10, 32, 39, 0, 2, 756, 757, 758, 116), (10, 36, 154, 0, 2, 1576, 1577, 1578, 129), (10, 37, 59, 0, 2, 780, 781, 782, 116), (10, 40, 179, 0, 2, 1611, 1612, 1613, 129), (10, 41, 47, 0, 2, 788, 789, 790, 116), (10, 44, 163, 0, 2, 1623, 1624, 1625, 129), (10, 45, 62, 0, 1, 804, 805, 806, 116), (10, 48, 182, 0, 1, 1647, 1648, 1649, 129), (10, 49, 51, 0, 1, 846, 847, 848, 116), (10, 52, 170, 0, 1, 1733, 1734, 1735, 129), (10, 53, 43, 0, 1, 860, 861, 862, 116), (10, 56, 159, 0, 1, 1741, 1742, 1743, 129), (10, 57, 17, 0, 1, 864, 865, 866, 116), (10, 60, 123, 0, 1, 1745, 1746, 1747, 129), (10, 61, 40, 0, 2, 874, 875, 876, 116), (10, 64, 155, 0, 2, 1753, 1754, 1755, 129), (10, 65, 8, 0, 0, 882, 883, 884, 116), (10, 68, 111, 0, 0, 1757, 1758, 1759, 129), (10, 69, 60, 0, 0, 890, 891, 892, 116), (10, 73, 180, 0, 0, 1761, 1762, 1763, 129), (10, 74, 42, 0, 0, 902, 903, 904, 116), (10, 77, 158, 0, 0, 1769, 1770, 1771, 129), (10, 78, 58, 0, 3, 910, 911, 912, 116), (10, 82, 178, 0, 3, 1777, 1778, 1779, 129), (10, 83, 44, 0, 2, 954, 955, 956, 116), (10, 86, 160, 0, 2, 1821, 1822, 1823, 129), (10, 87, 34, 0, 0, 937, 938, 939, 116), (10, 90, 149, 0, 0, 1785, 1786, 1787, 129), (10, 91, 15, 0, 1, 978, 979, 980, 116), (10, 94, 119, 0, 1, 1840, 1841, 1842, 129), (10, 95, 49, 0, 2, 942, 943, 944, 116), (10, 98, 167, 0, 2, 1793, 1794, 1795, 129), (10, 99, 19, 0, 2, 1002, 1003, 1004, 116), (10, 102, 127, 0, 2, 1844, 1845, 1846, 129), (10, 103, 38, 0, 0, 1025, 1026, 1027, 116), (10, 106, 153, 0, 0, 1725, 1726, 1727, 129), (10, 107, 16, 0, 1, 1029, 1030, 1031, 116), (10, 110, 121, 0, 1, 1805, 1806, 1807, 129), (10, 111, 13, 0, 2, 1033, 1034, 1035, 116), (10, 114, 117, 0, 2, 1813, 1814, 1815, 129), (10, 115, 50, 0, 1, 1006, 1007, 1008, 116), (10, 118, 168, 0, 1, 1864, 1865, 1866, 129), (10, 119, 33, 0, 0, 1045, 1046, 1047, 116), (10, 122, 147, 0, 0, 1868, 1869, 1870, 129), (10, 123, 23, 0, 1, 1062, 1063, 1064, 116), (10, 126, 131, 0, 1, 1809, 1810, 1811, 129), (10, 127, 5, 0, 2, 1013, 1014, 1015, 116), (10, 130, 107, 0, 2, 1848, 1849, 1850, 129), (10, 131, 11, 0, 1, 1017, 1018, 1019, 116), (10, 134, 115, 0, 1, 1852, 1853, 1854, 129), (10, 135, 2, 0, 1, 982, 983, 984, 116), (10, 138, 100, 0, 1, 1860, 1861, 1862, 129), (10, 139, 46, 0, 2, 1066, 1067, 1068, 116), (10, 142, 162, 0, 2, 1888, 1889, 1890, 129), (10, 143, 29, 0, 2, 1071, 1072, 1073, 116), (10, 146, 139, 0, 2, 1677, 1678, 1679, 129), (10, 147, 9, 0, 0, 1075, 1076, 1077, 116), (10, 150, 113, 0, 0, 1681, 1682, 1683, 129), (10, 151, 53, 0, 1, 946, 947, 948, 116), (10, 154, 172, 0, 1, 1797, 1798, 1799, 129), (10, 155, 54, 0, 1, 950, 951, 952, 116), (10, 158, 173, 0, 1, 1801, 1802, 1803, 129), (10, 159, 21, 0, 0, 986, 987, 988, 116), (10, 162, 129, 0, 0, 1693, 1694, 1695, 129), (10, 163, 56, 0, 0, 990, 991, 992, 116), (10, 166, 176, 0, 0, 1697, 1698, 1699, 129), (10, 167, 20, 0, 0, 1091, 1092, 1093, 116), (10, 170, 128, 0, 0, 1689, 1690, 1691, 129), (10, 171, 6, 0, 0, 1079, 1080, 1081, 116), (10, 174, 110, 0, 0, 1685, 1686, 1687, 129), (10, 175, 41, 0, 0, 1083, 1084, 1085, 116), (10, 178, 157, 0, 0, 1884, 1885, 1886, 129), (10, 179, 35, 0, 0, 1095, 1096, 1097, 116), (10, 182, 150, 0, 0, 1713, 1714, 1715, 129), (10, 183, 48, 0, 0, 1099, 1100, 1101, 116), (10, 186, 166, 0, 0, 1709, 1710, 1711, 129), (10, 187, 31, 0, 2, 998, 999, 1000, 116), (10, 190, 142, 0, 2, 1729, 1730, 1731, 129), (10, 191, 36, 0, 0, 1103, 1104, 1105, 116), (10, 194, 151, 0, 0, 1717, 1718, 1719, 129), (10, 195, 37, 0, 2, 1107, 1108, 1109, 116), (10, 198, 152, 0, 2, 1892, 1893, 1894, 129), (10, 199, 32, 0, 1, 1114, 1115, 1116, 116), (10, 202, 146, 0, 1, 1773, 1774, 1775, 129), (10, 203, 18, 0, 3, 1122, 1123, 1124, 116), (10, 207, 124, 0, 3, 1899, 1900, 1901, 129), (10, 208, 61, 0, 1, 1130, 1131, 1132, 116), (10, 212, 181, 0, 1, 1903, 1904, 1905, 129), (10, 213, 30, 0, 1, 1138, 1139, 1140, 116), (10, 216, 141, 0, 1, 1907, 1908, 1909, 129), (10, 217, 45, 0, 1, 1147, 1148, 1149, 116), (10, 220, 161, 0, 1, 1912, 1913, 1914, 129), (10, 221, 57, 0, 2, 1170, 1171, 1172, 116), (10, 224, 177, 0, 2, 1940, 1941, 1942, 129), (10, 225, 3, 0, 2, 1178, 1179, 1180, 116), (10, 228, 103, 0, 2, 1944, 1945, 1946, 129), (10, 229, 22, 0, 1, 1187, 1188, 1189, 116), (10, 232, 130, 0, 1, 1952, 1953, 1954, 129), (10, 233, 4, 0, 1, 1196, 1197, 1198, 116), (10, 236, 104, 0, 1, 1956, 1957, 1958, 129), (10, 237, 1, 0, 1, 1205, 1206, 1207, 116), (10, 240, 99, 0, 1, 1960, 1961, 1962, 129), (9, 137, 109, 0, 0, 1215, 1217, 42, 129), (9, 140, 174, 0, 0, 1219, 1221, 43, 129), (9, 368, 148, 0, 0, 1227, 1229, 45, 129), (9, 358, 120, 0, 0, 1584, 1586, 74, 129), (9, 365, 105, 0, 0, 1631, 1633, 83, 129), (9, 416, 140, 0, 0, 1599, 1601, 77, 129), (9, 348, 125, 0, 1, 1643, 1645, 86, 129), (9, 422, 136, 0, 1, 1615, 1617, 80, 129), (9, 458, 138, 0, 0, 1828, 1830, 101, 129), (9, 464, 108, 0, 0, 1836, 1838, 103, 129), (9, 486, 126, 0, 0, 1924, 1926, 110, 129), (9, 455, 156, 1, 2, 1825, 1826, 0, 129), (9, 361, 133, 1, 3, 1588, 1589, 0, 129), (9, 504, 144, 0, 1, 1916, 1918, 108, 129), (9, 425, 135, 0, 1, 1627, 1629, 82, 129), (9, 339, 106, 1, 1, 1671, 1672, 0, 129), (9, 437, 137, 0, 0, 1737, 1739, 95, 129), (9, 434, 171, 0, 0, 1721, 1723, 94, 129), (9, 428, 102, 0, 0, 1701, 1703, 92, 129), (9, 431, 164, 0, 1, 1705, 1707, 93, 129), (9, 410, 134, 0, 1, 1580, 1582, 73, 129), (9, 449, 165, 0, 1, 1789, 1791, 99, 129), (9, 191, 169, 0, 1, 1435, 1437, 47, 129), (9, 371, 145, 0, 0, 1223, 1225, 44, 129), (9, 495, 143, 0, 0, 1920, 1922, 109, 129), (9, 498, 101, 0, 0, 1932, 1934, 112, 129), (9, 479, 112, 1, 2, 1896, 1897, 0, 129), (9, 227, 122, 0, 0, 1431, 1433, 46, 129), (9, 223, 132, 0, 0, 1469, 1471, 48, 129), (12, 492, 187, 0, 0, 276, 277, 278, 119), (12, 495, 189, 1, 2, 280, 281, 0, 120), (12, 1059, 190, 1, 3, 288, 289, 0, 121), (12, 335, 186, 0, 0, 266, 267, 268, 119), (13, 9, 185, 1, 2, 283, 284, 0, 119)]
def ee_OL : List (Nat × Nat × Nat) := [(8, 1, 139), (0, 3, 409), (1, 3, 430), (2, 5, 467), (3, 3, 444), (4, 3, 393), (5, 3, 147), (6, 3, 357), (7, 3, 153), (9, 1, 1214)]
def ee_AL : List (Nat × Nat × Nat) := [(3, 39, 1061), (6, 42, 741)]
def ee_XL : List (Nat × Nat × Nat × Nat) := [(0, 29, 3, 858)]
def ee_ow (i : Nat) : String := ee_own.getD i ""
def ee_tc (ty : FieldType) : Nat := match ty with
  | .int => 0
  | .boolean => 1
  | .long => 2
  | .object _ => 3
  | .array _ => 3
  | _ => 9
theorem ee_FLok : ∀ q ∈ ee_FL, ∃ r : vw_C, vwCl[q.2.2.1]? = some r ∧ q.2.2.2.1 < r.2.2 ∧ Cond.fieldLink (ee_ow q.1) q.2.1 (r.2.1 q.2.2.2.1).1 (r.2.1 q.2.2.2.1).2.1 (r.2.1 q.2.2.2.1).2.2.1 ∈ ee_tbl ∧ ∃ ty, parseFieldDescriptor (r.2.1 q.2.2.2.1).2.2.1 = some ty ∧ ee_tc ty = q.2.2.2.2.2 := by
  intro q hq
  have h : ee_FL.all (fun q => match vwCl[q.2.2.1]? with
    | some r => decide (q.2.2.2.1 < r.2.2) && (ee_at q.2.2.2.2.1 (.fieldLink (ee_ow q.1) q.2.1 (r.2.1 q.2.2.2.1).1 (r.2.1 q.2.2.2.1).2.1 (r.2.1 q.2.2.2.1).2.2.1) && (match parseFieldDescriptor (r.2.1 q.2.2.2.1).2.2.1 with
      | some ty => decide (ee_tc ty = q.2.2.2.2.2)
      | none => false))
    | none => false) = true := by decide +kernel
  have h := List.all_eq_true.mp h q hq
  cases hr : vwCl[q.2.2.1]? with
  | none => rw [hr] at h; cases h
  | some r =>
    rw [hr] at h
    have h := Bool.and_eq_true_iff.mp h
    have h2 := Bool.and_eq_true_iff.mp h.2
    refine ⟨r, rfl, of_decide_eq_true h.1, ee_at.mem h2.1, ?_⟩
    cases hp : parseFieldDescriptor (r.2.1 q.2.2.2.1).2.2.1 with
    | none => have h3 := h2.2; rw [hp] at h3; cases h3
    | some ty => have h3 := h2.2; rw [hp] at h3; exact ⟨ty, rfl, of_decide_eq_true h3⟩
def ee_sf (i : Nat) : String × String := if i = 0 then ("coder", "B") else ("value", "[B")
theorem ee_SLok : ∀ q ∈ ee_SL, Cond.fieldLink (ee_ow q.1) q.2.1 "java/lang/String" (ee_sf q.2.2.1).1 (ee_sf q.2.2.1).2 ∈ ee_tbl := by
  intro q hq
  have h : ee_SL.all (fun q => ee_at q.2.2.2 (.fieldLink (ee_ow q.1) q.2.1 "java/lang/String" (ee_sf q.2.2.1).1 (ee_sf q.2.2.1).2)) = true := by decide +kernel
  exact ee_at.mem (List.all_eq_true.mp h q hq)
def ee_zf (i : Nat) : String × String × String := if i = 0 then ("java/lang/String", "COMPACT_STRINGS", "Z") else ("jdk/internal/util/Preconditions", "SIOOBE_FORMATTER", "Ljava/util/function/BiFunction;")
theorem ee_ZLok : ∀ q ∈ ee_ZL, Cond.fieldLink (ee_ow q.1) q.2.1 (ee_zf q.2.2.1).1 (ee_zf q.2.2.1).2.1 (ee_zf q.2.2.1).2.2 ∈ ee_tbl := by
  intro q hq
  have h : ee_ZL.all (fun q => ee_at q.2.2.2 (.fieldLink (ee_ow q.1) q.2.1 (ee_zf q.2.2.1).1 (ee_zf q.2.2.1).2.1 (ee_zf q.2.2.1).2.2)) = true := by decide +kernel
  exact ee_at.mem (List.all_eq_true.mp h q hq)
theorem ee_KLok : ∀ q ∈ ee_KL, Cond.constant (ee_ow q.1) q.2.1 (Int32.ofInt q.2.2.1) ∈ ee_tbl := by
  intro q hq
  have h : ee_KL.all (fun q => ee_at q.2.2.2 (.constant (ee_ow q.1) q.2.1 (Int32.ofInt q.2.2.1))) = true := by decide +kernel
  exact ee_at.mem (List.all_eq_true.mp h q hq)
theorem ee_LLok : ∀ q ∈ ee_LL, Cond.constantLong (ee_ow q.1) q.2.1 q.2.2.1 ∈ ee_tbl := by
  intro q hq
  have h : ee_LL.all (fun q => ee_at q.2.2.2 (.constantLong (ee_ow q.1) q.2.1 q.2.2.1)) = true := by decide +kernel
  exact ee_at.mem (List.all_eq_true.mp h q hq)
theorem ee_NLok : ∀ q ∈ ee_NL, ∃ r : vw_C, vwCl[q.2.2.1]? = some r ∧ Cond.classLink (ee_ow q.1) q.2.1 r.1 ∈ ee_tbl ∧ Cond.instantiable r.1 r.2.2 ∈ ee_tbl ∧ Cond.initialized r.1 ∈ ee_tbl := by
  intro q hq
  have h : ee_NL.all (fun q => match vwCl[q.2.2.1]? with
    | some r => ee_at q.2.2.2.1 (.classLink (ee_ow q.1) q.2.1 r.1) && (ee_at q.2.2.2.2.1 (.instantiable r.1 r.2.2) && ee_at q.2.2.2.2.2 (.initialized r.1))
    | none => false) = true := by decide +kernel
  have h := List.all_eq_true.mp h q hq
  cases hr : vwCl[q.2.2.1]? with
  | none => rw [hr] at h; cases h
  | some r =>
    rw [hr] at h
    have h := Bool.and_eq_true_iff.mp h
    have h2 := Bool.and_eq_true_iff.mp h.2
    exact ⟨r, rfl, ee_at.mem h.1, ee_at.mem h2.1, ee_at.mem h2.2⟩
theorem ee_OLok : ∀ q ∈ ee_OL, Cond.methodLink (ee_ow q.1) q.2.1 objectInit ∈ ee_tbl := by
  intro q hq
  have h : ee_OL.all (fun q => ee_at q.2.2 (.methodLink (ee_ow q.1) q.2.1 objectInit)) = true := by decide +kernel
  exact ee_at.mem (List.all_eq_true.mp h q hq)
theorem ee_ALok : ∀ q ∈ ee_AL, Cond.methodLink (ee_ow q.1) q.2.1 arraycopyName ∈ ee_tbl := by
  intro q hq
  have h : ee_AL.all (fun q => ee_at q.2.2 (.methodLink (ee_ow q.1) q.2.1 arraycopyName)) = true := by decide +kernel
  exact ee_at.mem (List.all_eq_true.mp h q hq)
theorem ee_obj : Cond.instanceMethod objectInit ∈ ee_tbl ∧ Cond.code objectInit ⟨#[0xb1]⟩ 1 none ∈ ee_tbl := ⟨ee_at.mem (i := 140) (by decide +kernel), ee_at.mem (i := 141) (by decide +kernel)⟩
theorem ee_cpy : Cond.native arraycopyName ∈ ee_tbl ∧ Cond.static arraycopyName ∈ ee_tbl ∧ Cond.initialized "java/lang/System" ∈ ee_tbl := ⟨ee_at.mem (i := 743) (by decide +kernel), ee_at.mem (i := 742) (by decide +kernel), ee_at.mem (i := 132) (by decide +kernel)⟩
def ee_mname (k : Nat) : MethodName := if k = 3 then Lib.Math.min.name else Lib.Math.max.name
theorem ee_XLok : ∀ q ∈ ee_XL, Cond.methodLink (ee_ow q.1) q.2.1 (ee_mname q.2.2.1) ∈ ee_tbl := by
  intro q hq
  have h : ee_XL.all (fun q => ee_at q.2.2.2 (.methodLink (ee_ow q.1) q.2.1 (ee_mname q.2.2.1))) = true := by decide +kernel
  exact ee_at.mem (List.all_eq_true.mp h q hq)
theorem ee_math : Cond.static Lib.Math.min.name ∈ ee_tbl ∧ Cond.code Lib.Math.min.name Lib.Math.min.code 2 (some .int) ∈ ee_tbl ∧ Cond.static Lib.Math.max.name ∈ ee_tbl ∧ Cond.code Lib.Math.max.name Lib.Math.max.code 2 (some .int) ∈ ee_tbl ∧ Cond.initialized "java/lang/Math" ∈ ee_tbl := ⟨ee_at.mem (i := 605) (by decide +kernel), ee_at.mem (i := 606) (by decide +kernel), ee_at.mem (i := 602) (by decide +kernel), ee_at.mem (i := 603) (by decide +kernel), ee_at.mem (i := 130) (by decide +kernel)⟩
theorem ee_arr : Cond.arrayClass .int ∈ ee_tbl ∧ Cond.arrayClass .byte ∈ ee_tbl ∧ Cond.arrayClass .boolean ∈ ee_tbl ∧ Cond.arrayClass .long ∈ ee_tbl := ⟨ee_at.mem (i := 259) (by decide +kernel), ee_at.mem (i := 349) (by decide +kernel), ee_at.mem (i := 438) (by decide +kernel), ee_at.mem (i := 260) (by decide +kernel)⟩
/-- a final field is put -/
def ee_ini (e : ee_en) : Bool := match e.2.1 with
  | .putfield _ => (match ee_FL[e.2.2.2.2.1]? with
      | some q => (match vwCl[q.2.2.1]? with
        | some r => (r.2.1 q.2.2.2.1).2.2.2
        | none => false)
      | none => false)
  | _ => false
/-- an entry of the code: its links are those of its own file -/
def ee_eok (oc : Nat) (e : ee_en) : Bool := match e.2.1 with
  | .getfield i => if e.2.2.2.2.2.1 = 0 then (match ee_FL[e.2.2.2.2.1]? with
      | some q => decide (q.1 = oc) && decide (q.2.1 = i)
      | none => false) else (match ee_SL[e.2.2.2.2.1]? with
      | some q => decide (q.1 = oc) && decide (q.2.1 = i)
      | none => false)
  | .putfield i => (match ee_FL[e.2.2.2.2.1]? with
      | some q => decide (q.1 = oc) && (decide (q.2.1 = i) && (!ee_ini e || decide (q.2.2.1 = oc)))
      | none => false)
  | .getstatic i => if e.2.2.2.2.2.1 = 0 then (match ee_ZL[e.2.2.2.2.1]? with
      | some q => decide (q.1 = oc) && decide (q.2.1 = i)
      | none => false) else true
  | .ldc i => if e.2.2.2.2.2.1 = 0 then (match ee_KL[e.2.2.2.2.1]? with
      | some q => decide (q.1 = oc) && (decide (q.2.1 = i) && decide (q.2.2.1 = e.2.2.2.2.2.2))
      | none => false) else if e.2.2.2.2.2.1 = 1 then decide (oc = 5) && (decide (e.2.2.2.2.1 < 2) && decide (ee_six.getD e.2.2.2.2.1 0 = i)) else true
  | .ldc_w i => if e.2.2.2.2.2.1 = 0 then (match ee_KL[e.2.2.2.2.1]? with
      | some q => decide (q.1 = oc) && (decide (q.2.1 = i) && decide (q.2.2.1 = e.2.2.2.2.2.2))
      | none => false) else true
  | .ldc2_w i => (match ee_LL[e.2.2.2.2.1]? with
      | some q => decide (q.1 = oc) && decide (q.2.1 = i)
      | none => false)
  | .new i => (match ee_NL[e.2.2.2.2.1]? with
      | some q => decide (q.1 = oc) && decide (q.2.1 = i)
      | none => false)
  | .invokespecial i => if e.2.2.2.2.2.1 = 0 then (match ee_CL[e.2.2.2.2.1]? with
      | some q => decide (q.1 = oc) && (decide (q.2.1 = i) && decide (q.2.2.2.1 = 2))
      | none => false) else if e.2.2.2.2.2.1 = 1 then (match ee_OL[e.2.2.2.2.1]? with
      | some q => decide (q.1 = oc) && decide (q.2.1 = i)
      | none => false) else true
  | .invokevirtual i => if e.2.2.2.2.2.1 = 0 then (match ee_CL[e.2.2.2.2.1]? with
      | some q => decide (q.1 = oc) && (decide (q.2.1 = i) && decide (q.2.2.2.1 = 0))
      | none => false) else true
  | .invokestatic i => if e.2.2.2.2.2.1 = 0 then (match ee_CL[e.2.2.2.2.1]? with
      | some q => decide (q.1 = oc) && (decide (q.2.1 = i) && decide (q.2.2.2.1 = 1))
      | none => false) else if e.2.2.2.2.2.1 = 2 then (match ee_AL[e.2.2.2.2.1]? with
      | some q => decide (q.1 = oc) && decide (q.2.1 = i)
      | none => false) else if e.2.2.2.2.2.1 = 3 ∨ e.2.2.2.2.2.1 = 4 then (match ee_XL[e.2.2.2.2.1]? with
      | some q => decide (q.1 = oc) && (decide (q.2.1 = i) && decide (q.2.2.1 = e.2.2.2.2.2.1))
      | none => false) else true
  | _ => true
end
section
/-! the walker's frame: what holds while a method is walked -/
/-- program, launch, environment, room, start, method, arguments, frames below, method, code -/
abbrev ee_cx : Type := Program × Launch × Env × Room × State × MethodId × Array Value × List Frame × Method × Code
/-- which cells may change, numbers of the kinds, kinds of arrays, addresses outside, the first symbols, the callers' values, how many locals -/
abbrev ee_cy : Type := (Nat → Prop) × va_G × (Nat → ClassId) × (Nat → Nat) × List Int32 × List Value × Nat
def ee_lr (ns : List Int32) (as : List Nat) (ex : Nat → Nat) (a b : Nat × Value) : Prop := a.1 = b.1 ∧ ee_v ns as ex a.2 b.2
def ee_Wd (s : State) (A : Nat → Prop) (D : va_G) (dA : Nat → ClassId) (ex : Nat → Nat) (ns : List Int32) (as : List Nat) (w : ee_w) (H : Heap) (lc : List Loc) : Prop :=
  ∃ ws, ee_wr ns as ex dA w ws ∧ va_P D vwCl ws H ∧ va_D A ws ∧ va_S A s.heap H lc
def ee_Con (s : State) (A : Nat → Prop) (D : va_G) (dA : Nat → ClassId) (ex : Nat → Nat) (x0 : List Int32) (sv0 : List Value) (nL : Nat) (lo : List (Nat × Value)) (stk : List Value) (w : ee_w) (iv : ee_iv) (sv : List Value)
    (ns : List Int32) (as : List Nat) (H : Heap) (lc : List Loc) (ls : Array Slot) (vs : List Value) : Prop :=
  ee_ok ns iv ∧ (∃ r, ns = x0 ++ r) ∧ (∃ lv, lv_has ls nL lv ∧ ee_all (ee_lr ns as ex) lo lv) ∧ ee_all (ee_v ns as ex) stk vs ∧ ee_all (ee_v ns as ex) sv sv0 ∧ ee_Wd s A D dA ex ns as w H lc
/-- the goal at a state: from all that it stands for the machine comes to Q -/
def ee_G (X : ee_cx) (Y : ee_cy) (Q : State → Prop) (st : ee_st) : Prop := match X, Y, st with
  | (p, l, e, R, s, m, args, below, meth, c), (A, D, dA, ex, x0, sv0, nL), (pc, lo, stk, w, iv, kc, ks, sv) =>
    ∀ (ns : List Int32) (as : List Nat) (H : Heap) (lc : List Loc) (ls : Array Slot) (vs : List Value), ee_Con s A D dA ex x0 sv0 nL lo stk w iv sv ns as H lc ls vs → W p l e R s m args below meth c H lc kc ks Q (F0 m pc ls vs)
abbrev ee_tys (dA : Nat → ClassId) : List (ClassId × FieldType) := [(dA 0, .int), (dA 1, .byte), (dA 2, .boolean), (dA 3, .long)]
/-- what lies outside: the texts, two statics, the script -/
def ee_Ext (s : State) (A : Nat → Prop) (ex : Nat → Nat) (x0 : List Int32) : Prop :=
  vk_S 2 ee_len ee_byt (fun i => ex (1000000 + i)) (fun i => ex (1000100 + i)) A s s.heap ∧ (∀ i, i < 2 → vk_R RX5 (ee_six.getD i 0) (ee_stx.getD i "") (ex (1000000 + i)) s) ∧
  va_Z "java/lang/String" "COMPACT_STRINGS" "Z" (.int 1) A s s.heap ∧ va_Zq "jdk/internal/util/Preconditions" "SIOOBE_FORMATTER" "Ljava/util/function/BiFunction;" A s s.heap ∧
  (∃ (L : Nat) (xs : Nat → Int32), va_X (ex 2000000) L xs s s.heap ∧ ex 2000000 < s.heap.size ∧ ¬ A (ex 2000000) ∧ x0[6]? = some (nI L) ∧ L ≤ 6 ∧ ∀ j, j < L → x0[j]? = some (xs j))
/-- what holds at a method's entry and stays -/
def ee_F (X : ee_cx) (Y : ee_cy) (own : String) (cc : ByteArray) (Ts : List Cond) (ini : Prop) (dm bc bs : Nat) : Prop := match X, Y with
  | (p, _, _, R, s, m, args, _, meth, c), (A, D, dA, ex, x0, _, nL) =>
    p.tables.exec = Jvm.exec ∧ c.code = cc ∧ c.maxLocals = nL ∧ s.vm.findClass own = some m.cls ∧ (∀ w ∈ Ts, w.before args s = true) ∧ va_K D vwCl (ee_tys dA) s ∧ (∀ q, s.heap.size ≤ q → A q) ∧ (ini → meth.name = "<init>") ∧
    (dm ≤ R.frames ∧ 64 * dm ≤ R.locals ∧ bc ≤ R.cells ∧ bs ≤ R.slots) ∧ ee_Ext s A ex x0
/-- one more symbol -/
theorem ee_Con.grow {s : State} {A : Nat → Prop} {D : va_G} {dA : Nat → ClassId} {ex : Nat → Nat} {x0 : List Int32} {sv0 : List Value} {nL : Nat} {lo : List (Nat × Value)} {stk : List Value} {w : ee_w} {iv : ee_iv} {sv : List Value} {ns : List Int32} {as : List Nat} {H : Heap} {lc : List Loc} {ls : Array Slot} {vs : List Value}
    (h : ee_Con s A D dA ex x0 sv0 nL lo stk w iv sv ns as H lc ls vs) {z : Int32} {a b : Int} {o : Option (Nat × Int32)} (h1 : a ≤ z.toInt) (h2 : z.toInt ≤ b) (h3 : ∀ j d, o = some (j, d) → ∃ y, ns[j]? = some y ∧ z = y + d) :
    ee_Con s A D dA ex x0 sv0 nL lo stk w (iv ++ [(a, b, o)]) sv (ns ++ [z]) as H lc ls vs := by
  obtain ⟨hk, ⟨r, hr⟩, ⟨lv, hl, hll⟩, hs, hv, ws, ⟨ha, hw⟩, hP, hD, hS⟩ := h
  have mv : ∀ x v, ee_v ns as ex x v → ee_v (ns ++ [z]) as ex x v := fun x v q => by simpa using ee_v.mono [z] [] q
  refine ⟨hk.push h1 h2 h3, ⟨r ++ [z], by rw [hr, List.append_assoc]⟩, ⟨lv, hl, hll.imp (fun a b q => ⟨q.1, mv _ _ q.2⟩)⟩, hs.imp mv, hv.imp mv, ws, ⟨ha, hw.imp (fun x q g => by simpa using ee_c.mono [z] [] g)⟩, hP, hD, hS⟩
theorem ee_look {ns : List Int32} {as : List Nat} {ex : Nat → Nat} {i : Nat} {x : Value} : ∀ {lo lv : List (Nat × Value)}, ee_all (ee_lr ns as ex) lo lv → lo.lookup i = some x → ∃ v, (i, v) ∈ lv ∧ ee_v ns as ex x v
  | [], [], _, h => by simp at h
  | (a, y) :: lo, (b, u) :: lv, q, h => by
    rw [List.lookup_cons] at h
    obtain ⟨⟨q1, q2⟩, q3⟩ := q
    by_cases e : i = a
    · simp only [e, beq_self_eq_true] at h
      cases h
      refine ⟨u, ?_, q2⟩
      rw [e, show a = b from q1]
      exact List.mem_cons_self
    · have e' : (i == a) = false := by simpa using e
      rw [e'] at h
      obtain ⟨v, h1, h2⟩ := ee_look q3 h
      exact ⟨v, List.mem_cons_of_mem _ h1, h2⟩
  | [], _ :: _, q, _ => q.elim
  | _ :: _, [], q, _ => q.elim
theorem ee_no {α : Type} {x : α} {P : Prop} (h : (none : Option α) = some x) : P := by cases h
def ee_nx {α : Type} (n k : Nat) (r : α) : Option α := if n = k then some r else none
theorem ee_nx_some {α : Type} {n k : Nat} {r q : α} (h : ee_nx n k r = some q) : n = k ∧ r = q := by
  unfold ee_nx at h
  by_cases e : n = k
  · rw [if_pos e] at h
    cases h
    exact ⟨e, rfl⟩
  · rw [if_neg e] at h
    cases h
/-- a handler of instructions: how many locals, room for cells and slots, the entry, the state -/
abbrev ee_H : Type := Nat → Nat → Nat → ee_en → ee_st → Option (List ee_st)
def ee_Snd (h : ee_H) : Prop := ∀ (X : ee_cx) (Y : ee_cy) (oc : Nat) (own : String) (cc : ByteArray) (ini : Prop) (dm bc bs : Nat) (Q : State → Prop) (e : ee_en) (st : ee_st) (sts : List ee_st), ee_F X Y own cc ee_tbl ini (dm + 1) bc bs → ee_own[oc]? = some own → (ee_ini e = true → ini) → decode cc e.1 = .ok (e.2.1, e.2.2.1) → ee_eok oc e = true → st.1 = e.1 → h Y.2.2.2.2.2.2 bc bs e st = some sts → (∀ q ∈ sts, ee_G X Y Q q) → ee_G X Y Q st
/-- numbers pushed -/
def ee_h0 : ee_H := fun _ _ _ e st => match st with
  | (pc, lo, stk, w, iv, kc, ks, sv) => match e.2.1 with
    | .iconst n => ee_nx e.2.2.1 1 [(pc + 1, lo, .int (Int32.ofInt n) :: stk, w, iv, kc, ks, sv)]
    | .bipush n => ee_nx e.2.2.1 2 [(pc + 2, lo, .int (Int8.ofInt n).toInt32 :: stk, w, iv, kc, ks, sv)]
    | .sipush n => ee_nx e.2.2.1 3 [(pc + 3, lo, .int (Int16.ofInt n).toInt32 :: stk, w, iv, kc, ks, sv)]
    | .lconst _ => ee_nx e.2.2.1 1 [(pc + 1, lo, .long 0 :: stk, w, iv, kc, ks, sv)]
    | .goto o => if 0 ≤ (pc : Int) + o then ee_nx e.2.2.1 3 [(((pc : Int) + o).toNat, lo, stk, w, iv, kc, ks, sv)] else none
    | _ => none
set_option maxHeartbeats 1000000 in
theorem ee_h0.snd : ee_Snd ee_h0 := by
  intro X Y oc own cc ini dm bc bs Q e st sts F ho hi hd he hpc h k
  obtain ⟨p, l, en, R, s, m, args, below, meth, c⟩ := X
  obtain ⟨A, D, dA, ex, x0, sv0, nL⟩ := Y
  obtain ⟨pc, lo, stk, w, iv, kc, ks, sv⟩ := st
  obtain ⟨pc', ins, len, hn, ea, eb, ez⟩ := e
  obtain ⟨hx, hb, hml, hown, hts, hK, hA, hini, hR, hE⟩ := F
  have hpc : pc = pc' := hpc
  subst hpc
  have hd : decode cc pc = .ok (ins, len) := hd
  intro ns as H lc ls vs C
  obtain ⟨c1, c2, c3, c4, c5, c6⟩ := C
  show W p l en R s m args below meth c H lc kc ks Q (F0 m pc ls vs)
  cases ins with
  | iconst n =>
    obtain ⟨rfl, rfl⟩ := ee_nx_some (show ee_nx len 1 _ = some sts from h)
    exact lv_iconst hx hb hd rfl (k _ List.mem_cons_self ns as H lc ls _ ⟨c1, c2, c3, ⟨rfl, c4⟩, c5, c6⟩)
  | bipush n =>
    obtain ⟨rfl, rfl⟩ := ee_nx_some (show ee_nx len 2 _ = some sts from h)
    exact lv_bipush hx hb hd rfl (k _ List.mem_cons_self ns as H lc ls _ ⟨c1, c2, c3, ⟨rfl, c4⟩, c5, c6⟩)
  | sipush n =>
    obtain ⟨rfl, rfl⟩ := ee_nx_some (show ee_nx len 3 _ = some sts from h)
    exact lv_sipush hx hb hd rfl (k _ List.mem_cons_self ns as H lc ls _ ⟨c1, c2, c3, ⟨rfl, c4⟩, c5, c6⟩)
  | lconst n =>
    obtain ⟨rfl, rfl⟩ := ee_nx_some (show ee_nx len 1 _ = some sts from h)
    exact lv_lconst hx hb hd rfl (k _ List.mem_cons_self ns as H lc ls _ ⟨c1, c2, c3, ⟨⟨_, rfl⟩, c4⟩, c5, c6⟩)
  | goto o =>
    have h : (if 0 ≤ (pc : Int) + o then ee_nx len 3 [(((pc : Int) + o).toNat, lo, stk, w, iv, kc, ks, sv)] else none) = some sts := h
    by_cases ho : 0 ≤ (pc : Int) + o
    · rw [if_pos ho] at h
      obtain ⟨rfl, rfl⟩ := ee_nx_some h
      exact lv_goto hx hb hd (by omega) (k _ List.mem_cons_self ns as H lc ls _ ⟨c1, c2, c3, c4, c5, c6⟩)
    · rw [if_neg ho] at h
      exact ee_no h
  | _ => exact ee_no h
end
section
/-! handlers: loads, stores, numbers -/
theorem ee_own_ow {oc : Nat} {own : String} (h : ee_own[oc]? = some own) : ee_ow oc = own := by
  unfold ee_ow
  rw [List.getD_eq_getElem?_getD, h]; rfl
theorem ee_and {a b : Bool} (h : (a && b) = true) : a = true ∧ b = true := Bool.and_eq_true_iff.mp h
/-- an int out of the locals -/
def ee_ld (iv : ee_iv) (lo : List (Nat × Value)) (i : Nat) : Option Value := match lo.lookup i with
  | some x => (match ee_it iv x with
    | some _ => some x
    | none => none)
  | none => none
theorem ee_ld.ok {ns : List Int32} {as : List Nat} {ex : Nat → Nat} {iv : ee_iv} {lo lv : List (Nat × Value)} {ls : Array Slot} {nL i : Nat} {x : Value} (hk : ee_ok ns iv) (hl : lv_has ls nL lv) (ha : ee_all (ee_lr ns as ex) lo lv) (h : ee_ld iv lo i = some x) : ∃ z : Int32, (i, Value.int z) ∈ lv ∧ ls[i]? = some (.val (.int z)) ∧ ee_v ns as ex x (.int z) := by
  unfold ee_ld at h
  cases h1 : lo.lookup i with
  | none => rw [h1] at h; cases h
  | some y =>
    rw [h1] at h
    simp only at h
    cases h2 : ee_it iv y with
    | none => rw [h2] at h; cases h
    | some q =>
      rw [h2] at h
      cases h
      obtain ⟨v, g1, g2⟩ := ee_look ha h1
      obtain ⟨z, rfl, -, -⟩ := ee_it.int hk g2 h2
      exact ⟨z, g1, hl.2.2 _ g1, g2⟩
def ee_la (lo : List (Nat × Value)) (i : Nat) : Option Nat := match lo.lookup i with
  | some (.ref k) => some k
  | _ => none
theorem ee_v.ref {ns : List Int32} {as : List Nat} {ex : Nat → Nat} {k : Nat} {v : Value} (h : ee_v ns as ex (.ref k) v) : ∃ a, v = .ref a := by
  unfold ee_v at h
  by_cases hk : k < 1000000
  · simp only [hk, if_true] at h
    obtain ⟨a, -, h⟩ := h
    exact ⟨a, h⟩
  · simp only [hk, if_false] at h
    exact ⟨_, h⟩
theorem ee_la.ok {ns : List Int32} {as : List Nat} {ex : Nat → Nat} {lo lv : List (Nat × Value)} {ls : Array Slot} {nL i k : Nat} (hl : lv_has ls nL lv) (ha : ee_all (ee_lr ns as ex) lo lv) (h : ee_la lo i = some k) : ∃ a, ls[i]? = some (.val (.ref a)) ∧ ee_v ns as ex (.ref k) (.ref a) := by
  unfold ee_la at h
  split at h
  · rename_i j h1
    cases h
    obtain ⟨v, g1, g2⟩ := ee_look ha h1
    obtain ⟨a, rfl⟩ := ee_v.ref g2
    exact ⟨a, hl.2.2 _ g1, g2⟩
  · cases h
def ee_ll (lo : List (Nat × Value)) (i : Nat) : Bool := match lo.lookup i with
  | some (.long _) => true
  | _ => false
theorem ee_ll.ok {ns : List Int32} {as : List Nat} {ex : Nat → Nat} {lo lv : List (Nat × Value)} {ls : Array Slot} {nL i : Nat} (hl : lv_has ls nL lv) (ha : ee_all (ee_lr ns as ex) lo lv) (h : ee_ll lo i = true) : ∃ z, ls[i]? = some (.val (.long z)) := by
  unfold ee_ll at h
  split at h
  · rename_i j h1
    obtain ⟨v, g1, ⟨z, g2⟩⟩ := ee_look ha h1
    subst g2
    exact ⟨z, hl.2.2 _ g1⟩
  · cases h
theorem ee_v.outs {ns : List Int32} {as : List Nat} {ex : Nat → Nat} {k : Nat} (hk : ¬ k < 1000000) : ee_v ns as ex (.ref k) (.ref (ex k)) := by
  show (if k < 1000000 then ∃ a, as[k]? = some a ∧ Value.ref (ex k) = Value.ref a else Value.ref (ex k) = Value.ref (ex k))
  rw [if_neg hk]
theorem ee_v.inw {ns : List Int32} {as : List Nat} {ex : Nat → Nat} {k a : Nat} (hk : k < 1000000) (h : as[k]? = some a) : ee_v ns as ex (.ref k) (.ref a) := by
  show (if k < 1000000 then ∃ b, as[k]? = some b ∧ Value.ref a = Value.ref b else Value.ref a = Value.ref (ex k))
  rw [if_pos hk]
  exact ⟨a, h, rfl⟩
def ee_h1 : ee_H := fun _ _ _ e st => match st with
  | (pc, lo, stk, w, iv, kc, ks, sv) => match e.2.1 with
    | .ldc _ => if e.2.2.2.2.2.1 = 0 then ee_nx e.2.2.1 2 [(pc + 2, lo, .int (Int32.ofInt e.2.2.2.2.2.2) :: stk, w, iv, kc, ks, sv)] else if e.2.2.2.2.2.1 = 1 then ee_nx e.2.2.1 2 [(pc + 2, lo, .ref (1000000 + e.2.2.2.2.1) :: stk, w, iv, kc, ks, sv)] else none
    | .ldc_w _ => if e.2.2.2.2.2.1 = 0 then ee_nx e.2.2.1 3 [(pc + 3, lo, .int (Int32.ofInt e.2.2.2.2.2.2) :: stk, w, iv, kc, ks, sv)] else none
    | .ldc2_w _ => ee_nx e.2.2.1 3 [(pc + 3, lo, .long 0 :: stk, w, iv, kc, ks, sv)]
    | _ => none
set_option maxHeartbeats 2000000 in
theorem ee_h1.snd : ee_Snd ee_h1 := by
  intro X Y oc own cc ini dm bc bs Q e st sts F ho hi hd he hpc h k
  obtain ⟨p, l, en, R, s, m, args, below, meth, c⟩ := X
  obtain ⟨A, D, dA, ex, x0, sv0, nL⟩ := Y
  obtain ⟨pc, lo, stk, w, iv, kc, ks, sv⟩ := st
  obtain ⟨pc', ins, len, hn, ea, eb, ez⟩ := e
  obtain ⟨hx, hb, hml, hown, hts, hK, hA, hini, hR, hE⟩ := F
  have hpc : pc = pc' := hpc
  subst hpc
  have hd : decode cc pc = .ok (ins, len) := hd
  intro ns as H lc ls vs C
  obtain ⟨c1, c2, c3, c4, c5, c6⟩ := C
  show W p l en R s m args below meth c H lc kc ks Q (F0 m pc ls vs)
  cases ins with
  | ldc i =>
    replace h : (if eb = 0 then ee_nx len 2 [(pc + 2, lo, Value.int (Int32.ofInt ez) :: stk, w, iv, kc, ks, sv)] else if eb = 1 then ee_nx len 2 [(pc + 2, lo, Value.ref (1000000 + ea) :: stk, w, iv, kc, ks, sv)] else none) = some sts := h
    have hee : (if eb = 0 then (match ee_KL[ea]? with
      | some q => decide (q.1 = oc) && (decide (q.2.1 = i) && decide (q.2.2.1 = ez))
      | none => false) else if eb = 1 then decide (oc = 5) && (decide (ea < 2) && decide (ee_six.getD ea 0 = i)) else true) = true := he
    by_cases h0 : eb = 0
    · rw [if_pos h0] at h hee
      obtain ⟨rfl, rfl⟩ := ee_nx_some h
      cases hq : ee_KL[ea]? with
      | none => rw [hq] at hee; cases hee
      | some q =>
        rw [hq] at hee
        obtain ⟨e1, e2⟩ := ee_and hee
        obtain ⟨e2, e3⟩ := ee_and e2
        have e1 := of_decide_eq_true e1
        have e2 := of_decide_eq_true e2
        have e3 := of_decide_eq_true e3
        have hm := ee_KLok q (List.mem_of_getElem? hq)
        rw [e1, ee_own_ow ho, e2, e3] at hm
        exact lv_ldc hx hb hown (hts _ hm) hd (k _ List.mem_cons_self ns as H lc ls _ ⟨c1, c2, c3, ⟨rfl, c4⟩, c5, c6⟩)
    · rw [if_neg h0] at h hee
      by_cases h1 : eb = 1
      · rw [if_pos h1] at h hee
        obtain ⟨rfl, rfl⟩ := ee_nx_some h
        obtain ⟨e1, e2⟩ := ee_and hee
        obtain ⟨e2, e3⟩ := ee_and e2
        have e1 := of_decide_eq_true e1
        have e2 := of_decide_eq_true e2
        have e3 := of_decide_eq_true e3
        have hR5 : own = RX5 := by
          rw [e1] at ho
          exact (Option.some.inj (ho.symm.trans rfl))
        have hz := hE.2.1 ea e2
        rw [e3, ← hR5] at hz
        exact va_ldcS hx hb hown hz hd (k _ List.mem_cons_self ns as H lc ls _ ⟨c1, c2, c3, ⟨ee_v.outs (by omega), c4⟩, c5, c6⟩)
      · rw [if_neg h1] at h
        exact ee_no h
  | ldc_w i =>
    replace h : (if eb = 0 then ee_nx len 3 [(pc + 3, lo, Value.int (Int32.ofInt ez) :: stk, w, iv, kc, ks, sv)] else none) = some sts := h
    have hee : (if eb = 0 then (match ee_KL[ea]? with
      | some q => decide (q.1 = oc) && (decide (q.2.1 = i) && decide (q.2.2.1 = ez))
      | none => false) else true) = true := he
    by_cases h0 : eb = 0
    · rw [if_pos h0] at h hee
      obtain ⟨rfl, rfl⟩ := ee_nx_some h
      cases hq : ee_KL[ea]? with
      | none => rw [hq] at hee; cases hee
      | some q =>
        rw [hq] at hee
        obtain ⟨e1, e2⟩ := ee_and hee
        obtain ⟨e2, e3⟩ := ee_and e2
        have e1 := of_decide_eq_true e1
        have e2 := of_decide_eq_true e2
        have e3 := of_decide_eq_true e3
        have hm := ee_KLok q (List.mem_of_getElem? hq)
        rw [e1, ee_own_ow ho, e2, e3] at hm
        exact lv_ldcw hx hb hown (hts _ hm) hd (k _ List.mem_cons_self ns as H lc ls _ ⟨c1, c2, c3, ⟨rfl, c4⟩, c5, c6⟩)
    · rw [if_neg h0] at h
      exact ee_no h
  | ldc2_w i =>
    replace h : ee_nx len 3 [(pc + 3, lo, Value.long 0 :: stk, w, iv, kc, ks, sv)] = some sts := h
    have hee : (match ee_LL[ea]? with
      | some q => decide (q.1 = oc) && decide (q.2.1 = i)
      | none => false) = true := he
    obtain ⟨rfl, rfl⟩ := ee_nx_some h
    cases hq : ee_LL[ea]? with
    | none => rw [hq] at hee; cases hee
    | some q =>
      rw [hq] at hee
      obtain ⟨e1, e2⟩ := ee_and hee
      have e1 := of_decide_eq_true e1
      have e2 := of_decide_eq_true e2
      have hm := ee_LLok q (List.mem_of_getElem? hq)
      rw [e1, ee_own_ow ho, e2] at hm
      exact lv_ldc2 hx hb hown (hts _ hm) hd (k _ List.mem_cons_self ns as H lc ls _ ⟨c1, c2, c3, ⟨⟨_, rfl⟩, c4⟩, c5, c6⟩)
  | _ => exact ee_no h
def ee_h2 : ee_H := fun _ _ _ e st => match st with
  | (pc, lo, stk, w, iv, kc, ks, sv) => match e.2.1 with
    | .iload i => (match ee_ld iv lo i with
      | some x => ee_nx e.2.2.1 2 [(pc + 2, lo, x :: stk, w, iv, kc, ks, sv)]
      | none => none)
    | .iload_n i => (match ee_ld iv lo i.val with
      | some x => ee_nx e.2.2.1 1 [(pc + 1, lo, x :: stk, w, iv, kc, ks, sv)]
      | none => none)
    | _ => none
set_option maxHeartbeats 2000000 in
theorem ee_h2.snd : ee_Snd ee_h2 := by
  intro X Y oc own cc ini dm bc bs Q e st sts F ho hi hd he hpc h k
  obtain ⟨p, l, en, R, s, m, args, below, meth, c⟩ := X
  obtain ⟨A, D, dA, ex, x0, sv0, nL⟩ := Y
  obtain ⟨pc, lo, stk, w, iv, kc, ks, sv⟩ := st
  obtain ⟨pc', ins, len, hn, ea, eb, ez⟩ := e
  obtain ⟨hx, hb, hml, hown, hts, hK, hA, hini, hR, hE⟩ := F
  have hpc : pc = pc' := hpc
  subst hpc
  have hd : decode cc pc = .ok (ins, len) := hd
  intro ns as H lc ls vs C
  obtain ⟨c1, c2, c3, c4, c5, c6⟩ := C
  show W p l en R s m args below meth c H lc kc ks Q (F0 m pc ls vs)
  obtain ⟨lv, c3, c3l⟩ := c3
  cases ins with
  | iload i =>
    replace h : (match ee_ld iv lo i with
      | some x => ee_nx len 2 [(pc + 2, lo, x :: stk, w, iv, kc, ks, sv)]
      | none => none) = some sts := h
    cases hq : ee_ld iv lo i with
    | none => rw [hq] at h; exact ee_no h
    | some x =>
      rw [hq] at h
      obtain ⟨rfl, rfl⟩ := ee_nx_some h
      obtain ⟨z, -, g1, g2⟩ := ee_ld.ok c1 c3 c3l hq
      exact lv_iload hx hb hd g1 (k _ List.mem_cons_self ns as H lc ls _ ⟨c1, c2, ⟨lv, c3, c3l⟩, ⟨g2, c4⟩, c5, c6⟩)
  | iload_n i =>
    replace h : (match ee_ld iv lo i.val with
      | some x => ee_nx len 1 [(pc + 1, lo, x :: stk, w, iv, kc, ks, sv)]
      | none => none) = some sts := h
    cases hq : ee_ld iv lo i.val with
    | none => rw [hq] at h; exact ee_no h
    | some x =>
      rw [hq] at h
      obtain ⟨rfl, rfl⟩ := ee_nx_some h
      obtain ⟨z, -, g1, g2⟩ := ee_ld.ok c1 c3 c3l hq
      exact lv_iload_n hx hb hd rfl g1 (k _ List.mem_cons_self ns as H lc ls _ ⟨c1, c2, ⟨lv, c3, c3l⟩, ⟨g2, c4⟩, c5, c6⟩)
  | _ => exact ee_no h
def ee_h3 : ee_H := fun _ _ _ e st => match st with
  | (pc, lo, stk, w, iv, kc, ks, sv) => match e.2.1 with
    | .aload i => (match ee_la lo i with
      | some x => ee_nx e.2.2.1 2 [(pc + 2, lo, .ref x :: stk, w, iv, kc, ks, sv)]
      | none => none)
    | .aload_n i => (match ee_la lo i.val with
      | some x => ee_nx e.2.2.1 1 [(pc + 1, lo, .ref x :: stk, w, iv, kc, ks, sv)]
      | none => none)
    | .lload i => if ee_ll lo i = true then ee_nx e.2.2.1 2 [(pc + 2, lo, .long 0 :: stk, w, iv, kc, ks, sv)] else none
    | .lload_n i => if ee_ll lo i.val = true then ee_nx e.2.2.1 1 [(pc + 1, lo, .long 0 :: stk, w, iv, kc, ks, sv)] else none
    | _ => none
set_option maxHeartbeats 2000000 in
theorem ee_h3.snd : ee_Snd ee_h3 := by
  intro X Y oc own cc ini dm bc bs Q e st sts F ho hi hd he hpc h k
  obtain ⟨p, l, en, R, s, m, args, below, meth, c⟩ := X
  obtain ⟨A, D, dA, ex, x0, sv0, nL⟩ := Y
  obtain ⟨pc, lo, stk, w, iv, kc, ks, sv⟩ := st
  obtain ⟨pc', ins, len, hn, ea, eb, ez⟩ := e
  obtain ⟨hx, hb, hml, hown, hts, hK, hA, hini, hR, hE⟩ := F
  have hpc : pc = pc' := hpc
  subst hpc
  have hd : decode cc pc = .ok (ins, len) := hd
  intro ns as H lc ls vs C
  obtain ⟨c1, c2, c3, c4, c5, c6⟩ := C
  show W p l en R s m args below meth c H lc kc ks Q (F0 m pc ls vs)
  obtain ⟨lv, c3, c3l⟩ := c3
  cases ins with
  | aload i =>
    replace h : (match ee_la lo i with
      | some x => ee_nx len 2 [(pc + 2, lo, Value.ref x :: stk, w, iv, kc, ks, sv)]
      | none => none) = some sts := h
    cases hq : ee_la lo i with
    | none => rw [hq] at h; exact ee_no h
    | some x =>
      rw [hq] at h
      obtain ⟨rfl, rfl⟩ := ee_nx_some h
      obtain ⟨a, g1, g2⟩ := ee_la.ok c3 c3l hq
      exact lv_aload hx hb hd g1 (k _ List.mem_cons_self ns as H lc ls _ ⟨c1, c2, ⟨lv, c3, c3l⟩, ⟨g2, c4⟩, c5, c6⟩)
  | aload_n i =>
    replace h : (match ee_la lo i.val with
      | some x => ee_nx len 1 [(pc + 1, lo, Value.ref x :: stk, w, iv, kc, ks, sv)]
      | none => none) = some sts := h
    cases hq : ee_la lo i.val with
    | none => rw [hq] at h; exact ee_no h
    | some x =>
      rw [hq] at h
      obtain ⟨rfl, rfl⟩ := ee_nx_some h
      obtain ⟨a, g1, g2⟩ := ee_la.ok c3 c3l hq
      exact lv_aload_n hx hb hd rfl g1 (k _ List.mem_cons_self ns as H lc ls _ ⟨c1, c2, ⟨lv, c3, c3l⟩, ⟨g2, c4⟩, c5, c6⟩)
  | lload i =>
    replace h : (if ee_ll lo i = true then ee_nx len 2 [(pc + 2, lo, Value.long 0 :: stk, w, iv, kc, ks, sv)] else none) = some sts := h
    by_cases hq : ee_ll lo i = true
    · rw [if_pos hq] at h
      obtain ⟨rfl, rfl⟩ := ee_nx_some h
      obtain ⟨z, g1⟩ := ee_ll.ok c3 c3l hq
      exact lv_lload hx hb hd g1 (k _ List.mem_cons_self ns as H lc ls _ ⟨c1, c2, ⟨lv, c3, c3l⟩, ⟨⟨_, rfl⟩, c4⟩, c5, c6⟩)
    · rw [if_neg hq] at h
      exact ee_no h
  | lload_n i =>
    replace h : (if ee_ll lo i.val = true then ee_nx len 1 [(pc + 1, lo, Value.long 0 :: stk, w, iv, kc, ks, sv)] else none) = some sts := h
    by_cases hq : ee_ll lo i.val = true
    · rw [if_pos hq] at h
      obtain ⟨rfl, rfl⟩ := ee_nx_some h
      obtain ⟨z, g1⟩ := ee_ll.ok c3 c3l hq
      exact lv_lload_n hx hb hd rfl g1 (k _ List.mem_cons_self ns as H lc ls _ ⟨c1, c2, ⟨lv, c3, c3l⟩, ⟨⟨_, rfl⟩, c4⟩, c5, c6⟩)
    · rw [if_neg hq] at h
      exact ee_no h
  | _ => exact ee_no h
def ee_sl (i : Nat) (x : Value) (lo : List (Nat × Value)) : List (Nat × Value) := (i, x) :: lo.filter (fun q => !(q.1 == i) && !(q.1 + 1 == i && ee_cat q.2 == 2))
theorem ee_sl.ok {ns : List Int32} {as : List Nat} {ex : Nat → Nat} {i : Nat} {x v : Value} {lo lv : List (Nat × Value)} (h : ee_all (ee_lr ns as ex) lo lv) (hv : ee_v ns as ex x v) : ee_all (ee_lr ns as ex) (ee_sl i x lo) ((i, v) :: lv.filter (fun q => !(q.1 == i) && !(q.1 + 1 == i && q.2.category == 2))) :=
  ⟨⟨rfl, hv⟩, h.filter (fun a b q => by rw [q.1, q.2.cat])⟩
def ee_sl2 (i : Nat) (lo : List (Nat × Value)) : List (Nat × Value) := (i, .long 0) :: lo.filter (fun q => !(q.1 == i) && (!(q.1 == i + 1) && !(q.1 + 1 == i && ee_cat q.2 == 2)))
theorem ee_sl2.ok {ns : List Int32} {as : List Nat} {ex : Nat → Nat} {i : Nat} {z : Int64} {lo lv : List (Nat × Value)} (h : ee_all (ee_lr ns as ex) lo lv) : ee_all (ee_lr ns as ex) (ee_sl2 i lo) ((i, .long z) :: lv.filter (fun q => !(q.1 == i) && (!(q.1 == i + 1) && !(q.1 + 1 == i && q.2.category == 2)))) :=
  ⟨⟨rfl, ⟨z, rfl⟩⟩, h.filter (fun a b q => by rw [q.1, q.2.cat])⟩
def ee_h4 : ee_H := fun nL _ _ e st => match st with
  | (pc, lo, x :: stk, w, iv, kc, ks, sv) => (match ee_it iv x with
    | some _ => (match e.2.1 with
      | .istore i => if i < nL then ee_nx e.2.2.1 2 [(pc + 2, ee_sl i x lo, stk, w, iv, kc, ks, sv)] else none
      | .istore_n i => if i.val < nL then ee_nx e.2.2.1 1 [(pc + 1, ee_sl i.val x lo, stk, w, iv, kc, ks, sv)] else none
      | _ => none)
    | none => none)
  | _ => none
set_option maxHeartbeats 2000000 in
theorem ee_h4.snd : ee_Snd ee_h4 := by
  intro X Y oc own cc ini dm bc bs Q e st sts F ho hi hd he hpc h k
  obtain ⟨p, l, en, R, s, m, args, below, meth, c⟩ := X
  obtain ⟨A, D, dA, ex, x0, sv0, nL⟩ := Y
  obtain ⟨pc, lo, stk, w, iv, kc, ks, sv⟩ := st
  obtain ⟨pc', ins, len, hn, ea, eb, ez⟩ := e
  obtain ⟨hx, hb, hml, hown, hts, hK, hA, hini, hR, hE⟩ := F
  have hpc : pc = pc' := hpc
  subst hpc
  have hd : decode cc pc = .ok (ins, len) := hd
  intro ns as H lc ls vs C
  obtain ⟨c1, c2, c3, c4, c5, c6⟩ := C
  show W p l en R s m args below meth c H lc kc ks Q (F0 m pc ls vs)
  obtain ⟨lv, c3, c3l⟩ := c3
  cases stk with
  | nil => exact ee_no h
  | cons x stk =>
    cases vs with
    | nil => exact c4.elim
    | cons v vs =>
      obtain ⟨c4v, c4⟩ := c4
      replace h : (match ee_it iv x with
        | some _ => (match (generalizing := false) ins with
          | .istore i => if i < nL then ee_nx len 2 [(pc + 2, ee_sl i x lo, stk, w, iv, kc, ks, sv)] else none
          | .istore_n i => if i.val < nL then ee_nx len 1 [(pc + 1, ee_sl i.val x lo, stk, w, iv, kc, ks, sv)] else none
          | _ => none)
        | none => none) = some sts := h
      cases hq : ee_it iv x with
      | none => rw [hq] at h; exact ee_no h
      | some q =>
        rw [hq] at h
        obtain ⟨z, rfl, -, -⟩ := ee_it.int c1 c4v hq
        cases ins with
        | istore i =>
          replace h : (if i < nL then ee_nx len 2 [(pc + 2, ee_sl i x lo, stk, w, iv, kc, ks, sv)] else none) = some sts := h
          by_cases hl : i < nL
          · rw [if_pos hl] at h
            obtain ⟨rfl, rfl⟩ := ee_nx_some h
            exact lv_istore hx hb hd c3 hl rfl (fun ls' hl' => k _ List.mem_cons_self ns as H lc ls' _ ⟨c1, c2, ⟨_, hl', ee_sl.ok c3l c4v⟩, c4, c5, c6⟩)
          · rw [if_neg hl] at h
            exact ee_no h
        | istore_n i =>
          replace h : (if i.val < nL then ee_nx len 1 [(pc + 1, ee_sl i.val x lo, stk, w, iv, kc, ks, sv)] else none) = some sts := h
          by_cases hl : i.val < nL
          · rw [if_pos hl] at h
            obtain ⟨rfl, rfl⟩ := ee_nx_some h
            exact lv_istore_n hx hb hd rfl c3 hl rfl (fun ls' hl' => k _ List.mem_cons_self ns as H lc ls' _ ⟨c1, c2, ⟨_, hl', ee_sl.ok c3l c4v⟩, c4, c5, c6⟩)
          · rw [if_neg hl] at h
            exact ee_no h
        | _ => exact ee_no h
def ee_h5 : ee_H := fun nL _ _ e st => match st with
  | (pc, lo, .ref x :: stk, w, iv, kc, ks, sv) => (match e.2.1 with
      | .astore i => if i < nL then ee_nx e.2.2.1 2 [(pc + 2, ee_sl i (.ref x) lo, stk, w, iv, kc, ks, sv)] else none
      | .astore_n i => if i.val < nL then ee_nx e.2.2.1 1 [(pc + 1, ee_sl i.val (.ref x) lo, stk, w, iv, kc, ks, sv)] else none
      | _ => none)
  | (pc, lo, .long _ :: stk, w, iv, kc, ks, sv) => (match e.2.1 with
      | .lstore i => if i + 1 < nL then ee_nx e.2.2.1 2 [(pc + 2, ee_sl2 i lo, stk, w, iv, kc, ks, sv)] else none
      | .lstore_n i => if i.val + 1 < nL then ee_nx e.2.2.1 1 [(pc + 1, ee_sl2 i.val lo, stk, w, iv, kc, ks, sv)] else none
      | _ => none)
  | _ => none
set_option maxHeartbeats 2000000 in
theorem ee_h5.snd : ee_Snd ee_h5 := by
  intro X Y oc own cc ini dm bc bs Q e st sts F ho hi hd he hpc h k
  obtain ⟨p, l, en, R, s, m, args, below, meth, c⟩ := X
  obtain ⟨A, D, dA, ex, x0, sv0, nL⟩ := Y
  obtain ⟨pc, lo, stk, w, iv, kc, ks, sv⟩ := st
  obtain ⟨pc', ins, len, hn, ea, eb, ez⟩ := e
  obtain ⟨hx, hb, hml, hown, hts, hK, hA, hini, hR, hE⟩ := F
  have hpc : pc = pc' := hpc
  subst hpc
  have hd : decode cc pc = .ok (ins, len) := hd
  intro ns as H lc ls vs C
  obtain ⟨c1, c2, c3, c4, c5, c6⟩ := C
  show W p l en R s m args below meth c H lc kc ks Q (F0 m pc ls vs)
  obtain ⟨lv, c3, c3l⟩ := c3
  cases stk with
  | nil => exact ee_no h
  | cons x stk =>
    cases vs with
    | nil => exact c4.elim
    | cons v vs =>
      obtain ⟨c4v, c4⟩ := c4
      cases x with
      | ref x =>
        obtain ⟨a, rfl⟩ := ee_v.ref c4v
        cases ins with
        | astore i =>
          replace h : (if i < nL then ee_nx len 2 [(pc + 2, ee_sl i (.ref x) lo, stk, w, iv, kc, ks, sv)] else none) = some sts := h
          by_cases hl : i < nL
          · rw [if_pos hl] at h
            obtain ⟨rfl, rfl⟩ := ee_nx_some h
            exact lv_astore hx hb hd c3 hl rfl (fun ls' hl' => k _ List.mem_cons_self ns as H lc ls' _ ⟨c1, c2, ⟨_, hl', ee_sl.ok c3l c4v⟩, c4, c5, c6⟩)
          · rw [if_neg hl] at h
            exact ee_no h
        | astore_n i =>
          replace h : (if i.val < nL then ee_nx len 1 [(pc + 1, ee_sl i.val (.ref x) lo, stk, w, iv, kc, ks, sv)] else none) = some sts := h
          by_cases hl : i.val < nL
          · rw [if_pos hl] at h
            obtain ⟨rfl, rfl⟩ := ee_nx_some h
            exact lv_astore_n hx hb hd rfl c3 hl rfl (fun ls' hl' => k _ List.mem_cons_self ns as H lc ls' _ ⟨c1, c2, ⟨_, hl', ee_sl.ok c3l c4v⟩, c4, c5, c6⟩)
          · rw [if_neg hl] at h
            exact ee_no h
        | _ => exact ee_no h
      | long x =>
        obtain ⟨z, rfl⟩ := c4v
        cases ins with
        | lstore i =>
          replace h : (if i + 1 < nL then ee_nx len 2 [(pc + 2, ee_sl2 i lo, stk, w, iv, kc, ks, sv)] else none) = some sts := h
          by_cases hl : i + 1 < nL
          · rw [if_pos hl] at h
            obtain ⟨rfl, rfl⟩ := ee_nx_some h
            exact lv_lstore hx hb hd c3 hl rfl (fun ls' hl' => k _ List.mem_cons_self ns as H lc ls' _ ⟨c1, c2, ⟨_, hl', ee_sl2.ok c3l⟩, c4, c5, c6⟩)
          · rw [if_neg hl] at h
            exact ee_no h
        | lstore_n i =>
          replace h : (if i.val + 1 < nL then ee_nx len 1 [(pc + 1, ee_sl2 i.val lo, stk, w, iv, kc, ks, sv)] else none) = some sts := h
          by_cases hl : i.val + 1 < nL
          · rw [if_pos hl] at h
            obtain ⟨rfl, rfl⟩ := ee_nx_some h
            exact lv_lstore_n hx hb hd rfl c3 hl rfl (fun ls' hl' => k _ List.mem_cons_self ns as H lc ls' _ ⟨c1, c2, ⟨_, hl', ee_sl2.ok c3l⟩, c4, c5, c6⟩)
          · rw [if_neg hl] at h
            exact ee_no h
        | _ => exact ee_no h
      | _ => exact ee_no h
end
section
/-! handlers: arithmetic, comparisons -/
theorem ee_rng (x : Int32) : -2147483648 ≤ x.toInt ∧ x.toInt ≤ 2147483647 := by
  have h1 := Int32.le_toInt x
  have h2 := Int32.toInt_lt x
  omega
theorem ee_bmod {z : Int} (h1 : -2147483648 ≤ z) (h2 : z ≤ 2147483647) : z.bmod (2 ^ 32) = z := by
  rw [Int.bmod_eq_of_le (by omega) (by omega)]
def ee_op (ins : ClassFile.Instr) (x y : Int32) : Int32 := match ins with
  | .iadd => x + y
  | .isub => x - y
  | .imul => x * y
  | .iand => x &&& y
  | .ior => x ||| y
  | .ixor => x ^^^ y
  | .ishl => x <<< (y &&& 31)
  | .ishr => x >>> (y &&& 31)
  | .iushr => (x.toUInt32 >>> (y.toUInt32 &&& Int32.toUInt32 31)).toInt32
  | .idiv => x / y
  | .irem => x - x / y * y
  | _ => 0
def ee_rg (a b : Int) : Int × Int := if -2147483648 ≤ a ∧ b ≤ 2147483647 then (a, b) else (-2147483648, 2147483647)
theorem ee_rg.ok {a b : Int} {z : Int32} {t : Int} (e : z.toInt = t.bmod (2 ^ 32)) (h1 : a ≤ t) (h2 : t ≤ b) : (ee_rg a b).1 ≤ z.toInt ∧ z.toInt ≤ (ee_rg a b).2 := by
  unfold ee_rg
  by_cases h : -2147483648 ≤ a ∧ b ≤ 2147483647
  · rw [if_pos h, e, ee_bmod (by omega) (by omega)]
    exact ⟨h1, h2⟩
  · rw [if_neg h]
    exact ee_rng z
/-- bounds of what comes -/
def ee_ap (ins : ClassFile.Instr) (a b d e : Int) : Int × Int := match ins with
  | .iadd => ee_rg (a + d) (b + e)
  | .isub => ee_rg (a - e) (b - d)
  | .iand => if 0 ≤ d then (0, e) else if 0 ≤ a then (0, b) else (-2147483648, 2147483647)
  | _ => (-2147483648, 2147483647)
theorem ee_toNat {y : Int32} (h : 0 ≤ y.toInt) : (y.toBitVec.toNat : Int) = y.toInt ∧ y.toBitVec.toNat < 2 ^ 31 := by
  have h1 : y.toInt = y.toBitVec.toInt := rfl
  have h2 := BitVec.toInt_eq_toNat_cond y.toBitVec
  have h3 := y.toBitVec.isLt
  rw [h1] at h ⊢
  rw [h2] at h ⊢
  split at h
  · rename_i q
    rw [if_pos q]
    exact ⟨rfl, by omega⟩
  · omega
theorem ee_and_le (x y : Int32) (h : 0 ≤ y.toInt) : 0 ≤ (x &&& y).toInt ∧ (x &&& y).toInt ≤ y.toInt := by
  obtain ⟨h1, h2⟩ := ee_toNat h
  have e : (x &&& y).toBitVec.toNat = x.toBitVec.toNat &&& y.toBitVec.toNat := by
    rw [show (x &&& y).toBitVec = x.toBitVec &&& y.toBitVec from rfl, BitVec.toNat_and]
  have hle : (x &&& y).toBitVec.toNat ≤ y.toBitVec.toNat := by rw [e]; exact Nat.and_le_right
  have q : (x &&& y).toInt = ((x &&& y).toBitVec.toNat : Int) := by
    show (x &&& y).toBitVec.toInt = _
    rw [BitVec.toInt_eq_toNat_cond, if_pos (by omega)]
  omega
theorem ee_and_comm (x y : Int32) : x &&& y = y &&& x := by
  apply Int32.toBitVec_inj.mp
  show x.toBitVec &&& y.toBitVec = y.toBitVec &&& x.toBitVec
  exact BitVec.and_comm _ _
theorem ee_ap.ok {ins : ClassFile.Instr} {a b d e : Int} {x y : Int32} (h1 : a ≤ x.toInt) (h2 : x.toInt ≤ b) (h3 : d ≤ y.toInt) (h4 : y.toInt ≤ e) : (ee_ap ins a b d e).1 ≤ (ee_op ins x y).toInt ∧ (ee_op ins x y).toInt ≤ (ee_ap ins a b d e).2 := by
  cases ins with
  | iadd => exact ee_rg.ok (Int32.toInt_add x y) (by omega) (by omega)
  | isub => exact ee_rg.ok (Int32.toInt_sub x y) (by omega) (by omega)
  | iand =>
    show (if 0 ≤ d then ((0 : Int), e) else if 0 ≤ a then (0, b) else (-2147483648, 2147483647)).1 ≤ (x &&& y).toInt ∧ (x &&& y).toInt ≤ (if 0 ≤ d then ((0 : Int), e) else if 0 ≤ a then (0, b) else (-2147483648, 2147483647)).2
    by_cases q : 0 ≤ d
    · rw [if_pos q]
      have := ee_and_le x y (by omega)
      exact ⟨this.1, by show (x &&& y).toInt ≤ e; omega⟩
    · rw [if_neg q]
      by_cases r : 0 ≤ a
      · rw [if_pos r]
        have := ee_and_le y x (by omega)
        rw [ee_and_comm y x] at this
        exact ⟨this.1, by show (x &&& y).toInt ≤ b; omega⟩
      · rw [if_neg r]
        exact ee_rng _
  | _ => exact ee_rng _
def ee_add (ins : ClassFile.Instr) : Bool := match ins with
  | .iadd => true
  | _ => false
/-- an operation on two ints -/
def ee_bin (ins : ClassFile.Instr) (iv : ee_iv) (x y : Value) : Option (Value × ee_iv) := match ee_cn iv x, ee_cn iv y with
  | some a, some b => some (.int (ee_op ins a b), iv)
  | _, _ => (match ee_it iv x, ee_it iv y with
    | some (a, b), some (d, e) => if ee_add ins = true ∧ d = 0 ∧ e = 0 then some (x, iv) else if ee_add ins = true ∧ a = 0 ∧ b = 0 then some (y, iv) else some (.retAddr iv.length, iv ++ [((ee_ap ins a b d e).1, (ee_ap ins a b d e).2, none)])
    | _, _ => none)
theorem ee_zero {z : Int32} (h1 : 0 ≤ z.toInt) (h2 : z.toInt ≤ 0) : z = 0 := Int32.toInt_inj.mp (by rw [Int32.toInt_zero]; omega)
theorem ee_bin.it {ins : ClassFile.Instr} {iv iv' : ee_iv} {x y r : Value} (h : ee_bin ins iv x y = some (r, iv')) : (∃ a, ee_cn iv x = some a) ∨ (∃ q, ee_it iv x = some q) := by
  unfold ee_bin at h
  split at h
  · rename_i a b h1 h2
    exact Or.inl ⟨a, h1⟩
  · split at h
    · rename_i a b d e h1 h2
      exact Or.inr ⟨_, h1⟩
    · cases h
theorem ee_bin.ok {ns : List Int32} {as : List Nat} {ex : Nat → Nat} {ins : ClassFile.Instr} {iv iv' : ee_iv} {x y r vx vy : Value} (hk : ee_ok ns iv) (hx : ee_v ns as ex x vx) (hy : ee_v ns as ex y vy) (h : ee_bin ins iv x y = some (r, iv')) :
    ∃ a b : Int32, vx = .int a ∧ vy = .int b ∧ ((iv' = iv ∧ ee_v ns as ex r (.int (ee_op ins a b))) ∨ ∃ lo hi : Int, r = .retAddr iv.length ∧ iv' = iv ++ [(lo, hi, none)] ∧ lo ≤ (ee_op ins a b).toInt ∧ (ee_op ins a b).toInt ≤ hi) := by
  unfold ee_bin at h
  split at h
  · rename_i a b h1 h2
    cases h
    exact ⟨a, b, ee_cn.int hk hx h1, ee_cn.int hk hy h2, Or.inl ⟨rfl, rfl⟩⟩
  · split at h
    · rename_i a b d e h1 h2
      obtain ⟨p, rfl, p1, p2⟩ := ee_it.int hk hx h1
      obtain ⟨q, rfl, q1, q2⟩ := ee_it.int hk hy h2
      refine ⟨p, q, rfl, rfl, ?_⟩
      split at h
      · rename_i hc
        cases h
        obtain ⟨h0, rfl, rfl⟩ := hc
        have hz := ee_zero q1 q2
        subst hz
        left
        refine ⟨rfl, ?_⟩
        cases ins with
        | iadd => rw [show ee_op .iadd p 0 = p from Int32.add_zero p]; exact hx
        | _ => cases h0
      · split at h
        · rename_i hc
          cases h
          obtain ⟨h0, rfl, rfl⟩ := hc
          have hz := ee_zero p1 p2
          subst hz
          left
          refine ⟨rfl, ?_⟩
          cases ins with
          | iadd => rw [show ee_op .iadd 0 q = q from Int32.zero_add q]; exact hy
          | _ => cases h0
        · cases h
          right
          have := ee_ap.ok (ins := ins) p1 p2 q1 q2
          exact ⟨_, _, rfl, rfl, this.1, this.2⟩
    · cases h
def ee_h6 : ee_H := fun nL _ _ e st => match st with
  | (pc, lo, stk, w, iv, kc, ks, sv) => (match e.2.1 with
      | .iinc i n => (match ee_ld iv lo i with
        | some x => (match ee_bin .iadd iv x (.int (Int32.ofInt n)) with
          | some (r, iv') => if i < nL then ee_nx e.2.2.1 3 [(pc + 3, ee_sl i r lo, stk, w, iv', kc, ks, sv)] else none
          | none => none)
        | none => none)
      | _ => none)
set_option maxHeartbeats 2000000 in
theorem ee_h6.snd : ee_Snd ee_h6 := by
  intro X Y oc own cc ini dm bc bs Q e st sts F ho hi hd he hpc h k
  obtain ⟨p, l, en, R, s, m, args, below, meth, c⟩ := X
  obtain ⟨A, D, dA, ex, x0, sv0, nL⟩ := Y
  obtain ⟨pc, lo, stk, w, iv, kc, ks, sv⟩ := st
  obtain ⟨pc', ins, len, hn, ea, eb, ez⟩ := e
  obtain ⟨hx, hb, hml, hown, hts, hK, hA, hini, hR, hE⟩ := F
  have hpc : pc = pc' := hpc
  subst hpc
  have hd : decode cc pc = .ok (ins, len) := hd
  intro ns as H lc ls vs C
  obtain ⟨c1, c2, c3, c4, c5, c6⟩ := C
  show W p l en R s m args below meth c H lc kc ks Q (F0 m pc ls vs)
  cases ins with
  | iinc i n =>
    replace h : (match ee_ld iv lo i with
        | some x => (match ee_bin .iadd iv x (.int (Int32.ofInt n)) with
          | some (r, iv') => if i < nL then ee_nx len 3 [(pc + 3, ee_sl i r lo, stk, w, iv', kc, ks, sv)] else none
          | none => none)
        | none => none) = some sts := h
    cases hq : ee_ld iv lo i with
    | none => rw [hq] at h; exact ee_no h
    | some x =>
      rw [hq] at h
      simp only at h
      cases hr : ee_bin .iadd iv x (.int (Int32.ofInt n)) with
      | none => rw [hr] at h; exact ee_no h
      | some r =>
        obtain ⟨r, iv'⟩ := r
        rw [hr] at h
        simp only at h
        by_cases hl : i < nL
        · rw [if_pos hl] at h
          obtain ⟨rfl, rfl⟩ := ee_nx_some h
          obtain ⟨lv, c3, c3l⟩ := c3
          obtain ⟨z, g0, g1, g2⟩ := ee_ld.ok c1 c3 c3l hq
          obtain ⟨j, hj⟩ := List.getElem?_of_mem g0
          obtain ⟨a, b, ea1, eb1, g3⟩ := ee_bin.ok c1 g2 (show ee_v ns as ex (.int (Int32.ofInt n)) (.int (Int32.ofInt n)) from rfl) hr
          cases ea1
          cases eb1
          rcases g3 with ⟨rfl, g3⟩ | ⟨lo1, hi1, rfl, rfl, g4, g5⟩
          · exact lv_iinc hx hb hd c3 hj rfl hl rfl (fun ls' hl' => k _ List.mem_cons_self ns as H lc ls' _ ⟨c1, c2, ⟨_, hl', ee_sl.ok c3l g3⟩, c4, c5, c6⟩)
          · refine lv_iinc hx hb hd c3 hj rfl hl rfl (fun ls' hl' => ?_)
            obtain ⟨d1, d2, d3, d4, d5, d6⟩ := ee_Con.grow (s := s) (A := A) (D := D) (dA := dA) (ex := ex) (x0 := x0) (sv0 := sv0) (nL := nL) (lo := lo) (ls := ls) ⟨c1, c2, ⟨lv, c3, c3l⟩, c4, c5, c6⟩ g4 g5 (o := none) (fun _ _ q => by cases q)
            refine k _ List.mem_cons_self _ as H lc ls' _ ⟨d1, d2, ⟨_, hl', ee_sl.ok (c3l.imp (fun a b q => ⟨q.1, by simpa using ee_v.mono [_] [] q.2⟩)) ⟨_, c1.last _, rfl⟩⟩, d4, d5, d6⟩
        · rw [if_neg hl] at h
          exact ee_no h
  | _ => exact ee_no h
/-- a symbol of few numbers, one by one -/
def ee_sp (iv : ee_iv) (x : Value) : List ee_iv := match x with
  | .retAddr k => (match iv[k]? with
    | some q => if q.1 < q.2.1 ∧ q.2.1 - q.1 < 8 then (List.range (q.2.1 - q.1 + 1).toNat).map (fun (j : Nat) => ee_put iv x (q.1 + j) (q.1 + j)) else []
    | none => [])
  | _ => []
theorem ee_sp.ok {ns : List Int32} {as : List Nat} {ex : Nat → Nat} {iv : ee_iv} {x v : Value} (hk : ee_ok ns iv) (hx : ee_v ns as ex x v) (h : ee_sp iv x ≠ []) : ∃ iv', iv' ∈ ee_sp iv x ∧ ee_ok ns iv' := by
  cases x with
  | retAddr k =>
    obtain ⟨z, h1, h2⟩ := hx
    cases hq : iv[k]? with
    | none => exact absurd (by simp only [ee_sp, hq]) h
    | some q =>
      obtain ⟨y, g1, g2, g3, -⟩ := hk.2 k q hq
      rw [h1] at g1
      cases g1
      have e : ee_sp iv (.retAddr k) = if q.1 < q.2.1 ∧ q.2.1 - q.1 < 8 then (List.range (q.2.1 - q.1 + 1).toNat).map (fun (j : Nat) => ee_put iv (.retAddr k) (q.1 + j) (q.1 + j)) else [] := by simp only [ee_sp, hq]
      by_cases hc : q.1 < q.2.1 ∧ q.2.1 - q.1 < 8
      · rw [if_pos hc] at e
        rw [e]
        refine ⟨_, List.mem_map.mpr ⟨(z.toInt - q.1).toNat, List.mem_range.mpr (by omega), rfl⟩, ?_⟩
        exact ee_put.ok (as := as) (ex := ex) hk (z := z) ⟨z, h1, rfl⟩ (by omega) (by omega)
      · rw [if_neg hc] at e
        exact absurd e h
  | _ => exact absurd rfl h
def ee_wide (ins : ClassFile.Instr) : Bool := match ins with
  | .isub => true
  | .imul => true
  | _ => false
def ee_two (ins : ClassFile.Instr) : Bool := match ins with
  | .iadd => true
  | .isub => true
  | .imul => true
  | .iand => true
  | .ior => true
  | .ixor => true
  | .ishl => true
  | .ishr => true
  | .iushr => true
  | _ => false
def ee_h7 : ee_H := fun _ _ _ e st => match st with
  | (pc, lo, y :: x :: stk, w, iv, kc, ks, sv) => if ee_wide e.2.1 = true ∧ ee_sp iv x ≠ [] then some ((ee_sp iv x).map (fun iv' => (pc, lo, y :: x :: stk, w, iv', kc, ks, sv))) else if ee_two e.2.1 = true then (match ee_bin e.2.1 iv x y with
      | some (r, iv') => ee_nx e.2.2.1 1 [(pc + 1, lo, r :: stk, w, iv', kc, ks, sv)]
      | none => none) else none
  | _ => none
set_option maxHeartbeats 2000000 in
theorem ee_h7.snd : ee_Snd ee_h7 := by
  intro X Y oc own cc ini dm bc bs Q e st sts F ho hi hd he hpc h k
  obtain ⟨p, l, en, R, s, m, args, below, meth, c⟩ := X
  obtain ⟨A, D, dA, ex, x0, sv0, nL⟩ := Y
  obtain ⟨pc, lo, stk, w, iv, kc, ks, sv⟩ := st
  obtain ⟨pc', ins, len, hn, ea, eb, ez⟩ := e
  obtain ⟨hx, hb, hml, hown, hts, hK, hA, hini, hR, hE⟩ := F
  have hpc : pc = pc' := hpc
  subst hpc
  have hd : decode cc pc = .ok (ins, len) := hd
  intro ns as H lc ls vs C
  obtain ⟨c1, c2, c3, c4, c5, c6⟩ := C
  show W p l en R s m args below meth c H lc kc ks Q (F0 m pc ls vs)
  match stk, vs, c4, h with
  | [], _, _, h => exact ee_no h
  | [_], _, _, h => exact ee_no h
  | y :: x :: stk, [], c4, h => exact c4.elim
  | y :: x :: stk, [_], c4, h => exact c4.2.elim
  | y :: x :: stk, vy :: vx :: vs, ⟨cy, cx, c4⟩, h =>
    replace h : (if ee_wide ins = true ∧ ee_sp iv x ≠ [] then some ((ee_sp iv x).map (fun iv' => (pc, lo, y :: x :: stk, w, iv', kc, ks, sv))) else if ee_two ins = true then (match ee_bin ins iv x y with
      | some (r, iv') => ee_nx len 1 [(pc + 1, lo, r :: stk, w, iv', kc, ks, sv)]
      | none => none) else none) = some sts := h
    by_cases hw : ee_wide ins = true ∧ ee_sp iv x ≠ []
    · rw [if_pos hw] at h
      cases h
      obtain ⟨iv', g1, g2⟩ := ee_sp.ok c1 cx hw.2
      exact k _ (List.mem_map.mpr ⟨iv', g1, rfl⟩) ns as H lc ls _ ⟨g2, c2, c3, ⟨cy, cx, c4⟩, c5, c6⟩
    · rw [if_neg hw] at h
      by_cases ht : ee_two ins = true
      · rw [if_pos ht] at h
        cases hr : ee_bin ins iv x y with
        | none => rw [hr] at h; exact ee_no h
        | some r =>
          obtain ⟨r, iv'⟩ := r
          rw [hr] at h
          obtain ⟨rfl, rfl⟩ := ee_nx_some h
          obtain ⟨a, b, rfl, rfl, g3⟩ := ee_bin.ok c1 cx cy hr
          have key : W p l en R s m args below meth c H lc kc ks Q (F0 m (pc + 1) ls (.int (ee_op ins a b) :: vs)) := by
            rcases g3 with ⟨rfl, g3⟩ | ⟨lo1, hi1, rfl, rfl, g4, g5⟩
            · exact k _ List.mem_cons_self ns as H lc ls _ ⟨c1, c2, c3, ⟨g3, c4⟩, c5, c6⟩
            · obtain ⟨d1, d2, d3, d4, d5, d6⟩ := ee_Con.grow (s := s) (A := A) (D := D) (dA := dA) (ex := ex) (x0 := x0) (sv0 := sv0) (nL := nL) (lo := lo) (ls := ls) ⟨c1, c2, c3, c4, c5, c6⟩ g4 g5 (o := none) (fun _ _ q => by cases q)
              exact k _ List.mem_cons_self _ as H lc ls _ ⟨d1, d2, d3, ⟨⟨_, c1.last _, rfl⟩, d4⟩, d5, d6⟩
          cases ins with
          | iadd => exact lv_iadd hx hb hd key
          | isub => exact lv_isub hx hb hd key
          | imul => exact lv_imul hx hb hd key
          | iand => exact lv_iand hx hb hd key
          | ior => exact lv_ior hx hb hd key
          | ixor => exact lv_ixor hx hb hd key
          | ishl => exact lv_ishl hx hb hd key
          | ishr => exact lv_ishr hx hb hd key
          | iushr => exact lv_iushr hx hb hd rfl key
          | _ => cases ht
      · rw [if_neg ht] at h
        exact ee_no h
def ee_h8 : ee_H := fun _ _ _ e st => match st with
  | (pc, lo, y :: x :: stk, w, iv, kc, ks, sv) => (match ee_it iv y with
    | some (d, u) => if 0 < d ∨ u < 0 then (match e.2.1 with
      | .idiv => (match ee_bin .idiv iv x y with
        | some (r, iv') => ee_nx e.2.2.1 1 [(pc + 1, lo, r :: stk, w, iv', kc, ks, sv)]
        | none => none)
      | .irem => (match ee_bin .irem iv x y with
        | some (r, iv') => ee_nx e.2.2.1 1 [(pc + 1, lo, r :: stk, w, iv', kc, ks, sv)]
        | none => none)
      | _ => none) else none
    | none => none)
  | _ => none
set_option maxHeartbeats 2000000 in
theorem ee_h8.snd : ee_Snd ee_h8 := by
  intro X Y oc own cc ini dm bc bs Q e st sts F ho hi hd he hpc h k
  obtain ⟨p, l, en, R, s, m, args, below, meth, c⟩ := X
  obtain ⟨A, D, dA, ex, x0, sv0, nL⟩ := Y
  obtain ⟨pc, lo, stk, w, iv, kc, ks, sv⟩ := st
  obtain ⟨pc', ins, len, hn, ea, eb, ez⟩ := e
  obtain ⟨hx, hb, hml, hown, hts, hK, hA, hini, hR, hE⟩ := F
  have hpc : pc = pc' := hpc
  subst hpc
  have hd : decode cc pc = .ok (ins, len) := hd
  intro ns as H lc ls vs C
  obtain ⟨c1, c2, c3, c4, c5, c6⟩ := C
  show W p l en R s m args below meth c H lc kc ks Q (F0 m pc ls vs)
  match stk, vs, c4, h with
  | [], _, _, h => exact ee_no h
  | [_], _, _, h => exact ee_no h
  | y :: x :: stk, [], c4, h => exact c4.elim
  | y :: x :: stk, [_], c4, h => exact c4.2.elim
  | y :: x :: stk, vy :: vx :: vs, ⟨cy, cx, c4⟩, h =>
    replace h : (match ee_it iv y with
      | some (d, u) => if 0 < d ∨ u < 0 then (match (generalizing := false) ins with
        | .idiv => (match ee_bin .idiv iv x y with
          | some (r, iv') => ee_nx len 1 [(pc + 1, lo, r :: stk, w, iv', kc, ks, sv)]
          | none => none)
        | .irem => (match ee_bin .irem iv x y with
          | some (r, iv') => ee_nx len 1 [(pc + 1, lo, r :: stk, w, iv', kc, ks, sv)]
          | none => none)
        | _ => none) else none
      | none => none) = some sts := h
    cases hq : ee_it iv y with
    | none => rw [hq] at h; exact ee_no h
    | some q =>
      obtain ⟨d, u⟩ := q
      rw [hq] at h
      simp only at h
      by_cases hc : 0 < d ∨ u < 0
      · rw [if_pos hc] at h
        obtain ⟨b0, rfl, b1, b2⟩ := ee_it.int c1 cy hq
        have hne : ¬ b0 = 0 := fun z => by
          rw [z, Int32.toInt_zero] at b1 b2
          omega
        have go : ∀ ins' : ClassFile.Instr, (match ee_bin ins' iv x y with
          | some (r, iv') => ee_nx len 1 [(pc + 1, lo, r :: stk, w, iv', kc, ks, sv)]
          | none => none) = some sts → len = 1 ∧ ∃ a : Int32, vx = .int a ∧ W p l en R s m args below meth c H lc kc ks Q (F0 m (pc + 1) ls (.int (ee_op ins' a b0) :: vs)) := by
          intro ins' h
          cases hr : ee_bin ins' iv x y with
          | none => rw [hr] at h; exact ee_no h
          | some r =>
            obtain ⟨r, iv'⟩ := r
            rw [hr] at h
            obtain ⟨rfl, rfl⟩ := ee_nx_some h
            obtain ⟨a, b, rfl, eb1, g3⟩ := ee_bin.ok c1 cx cy hr
            cases eb1
            refine ⟨rfl, a, rfl, ?_⟩
            rcases g3 with ⟨rfl, g3⟩ | ⟨lo1, hi1, rfl, rfl, g4, g5⟩
            · exact k _ List.mem_cons_self ns as H lc ls _ ⟨c1, c2, c3, ⟨g3, c4⟩, c5, c6⟩
            · obtain ⟨d1, d2, d3, d4, d5, d6⟩ := ee_Con.grow (s := s) (A := A) (D := D) (dA := dA) (ex := ex) (x0 := x0) (sv0 := sv0) (nL := nL) (lo := lo) (ls := ls) ⟨c1, c2, c3, c4, c5, c6⟩ g4 g5 (o := none) (fun _ _ q => by cases q)
              exact k _ List.mem_cons_self _ as H lc ls _ ⟨d1, d2, d3, ⟨⟨_, c1.last _, rfl⟩, d4⟩, d5, d6⟩
        cases ins with
        | idiv =>
          obtain ⟨rfl, a, rfl, key⟩ := go .idiv h
          exact lv_idiv hx hb hd hne key
        | irem =>
          obtain ⟨rfl, a, rfl, key⟩ := go .irem h
          exact lv_irem hx hb hd hne key
        | _ => exact ee_no h
      · rw [if_neg hc] at h
        exact ee_no h
end
section
/-! handlers: longs, narrow ints, the stack, branches -/
theorem ee_lcmp (x y : Int64) : -1 ≤ (lg_cmp x y).toInt ∧ (lg_cmp x y).toInt ≤ 1 := by
  unfold lg_cmp
  split
  · decide
  · split <;> decide
def ee_isl (x : Value) : Bool := match x with
  | .long _ => true
  | _ => false
theorem ee_isl.ok {ns : List Int32} {as : List Nat} {ex : Nat → Nat} {x v : Value} (h : ee_v ns as ex x v) (hl : ee_isl x = true) : ∃ z, v = .long z := by
  cases x with
  | long q => exact h
  | _ => cases hl
def ee_h9 : ee_H := fun _ _ _ e st => match st with
  | (pc, lo, x :: y :: stk, w, iv, kc, ks, sv) => if ee_isl x = true ∧ ee_isl y = true then (match e.2.1 with
      | .ladd => ee_nx e.2.2.1 1 [(pc + 1, lo, .long 0 :: stk, w, iv, kc, ks, sv)]
      | .lmul => ee_nx e.2.2.1 1 [(pc + 1, lo, .long 0 :: stk, w, iv, kc, ks, sv)]
      | .lor => ee_nx e.2.2.1 1 [(pc + 1, lo, .long 0 :: stk, w, iv, kc, ks, sv)]
      | .lcmp => ee_nx e.2.2.1 1 [(pc + 1, lo, .retAddr iv.length :: stk, w, iv ++ [(-1, 1, none)], kc, ks, sv)]
      | _ => none) else (match ee_it iv x with
      | some _ => (match e.2.1 with
        | .i2l => ee_nx e.2.2.1 1 [(pc + 1, lo, .long 0 :: y :: stk, w, iv, kc, ks, sv)]
        | .lshl => if ee_isl y = true then ee_nx e.2.2.1 1 [(pc + 1, lo, .long 0 :: stk, w, iv, kc, ks, sv)] else none
        | _ => none)
      | none => none)
  | _ => none
set_option maxHeartbeats 2000000 in
theorem ee_h9.snd : ee_Snd ee_h9 := by
  intro X Y oc own cc ini dm bc bs Q e st sts F ho hi hd he hpc h k
  obtain ⟨p, l, en, R, s, m, args, below, meth, c⟩ := X
  obtain ⟨A, D, dA, ex, x0, sv0, nL⟩ := Y
  obtain ⟨pc, lo, stk, w, iv, kc, ks, sv⟩ := st
  obtain ⟨pc', ins, len, hn, ea, eb, ez⟩ := e
  obtain ⟨hx, hb, hml, hown, hts, hK, hA, hini, hR, hE⟩ := F
  have hpc : pc = pc' := hpc
  subst hpc
  have hd : decode cc pc = .ok (ins, len) := hd
  intro ns as H lc ls vs C
  obtain ⟨c1, c2, c3, c4, c5, c6⟩ := C
  show W p l en R s m args below meth c H lc kc ks Q (F0 m pc ls vs)
  match stk, vs, c4, h with
  | [], _, _, h => exact ee_no h
  | [_], _, _, h => exact ee_no h
  | x :: y :: stk, [], c4, h => exact c4.elim
  | x :: y :: stk, [_], c4, h => exact c4.2.elim
  | x :: y :: stk, vx :: vy :: vs, ⟨cx, cy, c4⟩, h =>
    replace h : (if ee_isl x = true ∧ ee_isl y = true then (match (generalizing := false) ins with
      | .ladd => ee_nx len 1 [(pc + 1, lo, .long 0 :: stk, w, iv, kc, ks, sv)]
      | .lmul => ee_nx len 1 [(pc + 1, lo, .long 0 :: stk, w, iv, kc, ks, sv)]
      | .lor => ee_nx len 1 [(pc + 1, lo, .long 0 :: stk, w, iv, kc, ks, sv)]
      | .lcmp => ee_nx len 1 [(pc + 1, lo, .retAddr iv.length :: stk, w, iv ++ [(-1, 1, none)], kc, ks, sv)]
      | _ => none) else (match ee_it iv x with
      | some _ => (match (generalizing := false) ins with
        | .i2l => ee_nx len 1 [(pc + 1, lo, .long 0 :: y :: stk, w, iv, kc, ks, sv)]
        | .lshl => if ee_isl y = true then ee_nx len 1 [(pc + 1, lo, .long 0 :: stk, w, iv, kc, ks, sv)] else none
        | _ => none)
      | none => none)) = some sts := h
    by_cases hc : ee_isl x = true ∧ ee_isl y = true
    · rw [if_pos hc] at h
      obtain ⟨a, rfl⟩ := ee_isl.ok cx hc.1
      obtain ⟨b, rfl⟩ := ee_isl.ok cy hc.2
      cases ins with
      | ladd =>
        obtain ⟨rfl, rfl⟩ := ee_nx_some (show ee_nx len 1 _ = some sts from h)
        exact lv_ladd hx hb hd (k _ List.mem_cons_self ns as H lc ls _ ⟨c1, c2, c3, ⟨⟨_, rfl⟩, c4⟩, c5, c6⟩)
      | lmul =>
        obtain ⟨rfl, rfl⟩ := ee_nx_some (show ee_nx len 1 _ = some sts from h)
        exact lv_lmul hx hb hd (k _ List.mem_cons_self ns as H lc ls _ ⟨c1, c2, c3, ⟨⟨_, rfl⟩, c4⟩, c5, c6⟩)
      | lor =>
        obtain ⟨rfl, rfl⟩ := ee_nx_some (show ee_nx len 1 _ = some sts from h)
        exact lv_lor hx hb hd (k _ List.mem_cons_self ns as H lc ls _ ⟨c1, c2, c3, ⟨⟨_, rfl⟩, c4⟩, c5, c6⟩)
      | lcmp =>
        obtain ⟨rfl, rfl⟩ := ee_nx_some (show ee_nx len 1 _ = some sts from h)
        have g := ee_lcmp b a
        obtain ⟨d1, d2, d3, d4, d5, d6⟩ := ee_Con.grow (s := s) (A := A) (D := D) (dA := dA) (ex := ex) (x0 := x0) (sv0 := sv0) (nL := nL) (lo := lo) (ls := ls) ⟨c1, c2, c3, c4, c5, c6⟩ g.1 g.2 (o := none) (fun _ _ q => by cases q)
        exact W.lcmp hx hb hd (k _ List.mem_cons_self _ as H lc ls _ ⟨d1, d2, d3, ⟨⟨_, c1.last _, rfl⟩, d4⟩, d5, d6⟩)
      | _ => exact ee_no h
    · rw [if_neg hc] at h
      cases hq : ee_it iv x with
      | none => rw [hq] at h; exact ee_no h
      | some q =>
        rw [hq] at h
        obtain ⟨z, rfl, -, -⟩ := ee_it.int c1 cx hq
        cases ins with
        | i2l =>
          obtain ⟨rfl, rfl⟩ := ee_nx_some (show ee_nx len 1 _ = some sts from h)
          exact lv_i2l hx hb hd rfl (k _ List.mem_cons_self ns as H lc ls _ ⟨c1, c2, c3, ⟨⟨_, rfl⟩, cy, c4⟩, c5, c6⟩)
        | lshl =>
          replace h : (if ee_isl y = true then ee_nx len 1 [(pc + 1, lo, Value.long 0 :: stk, w, iv, kc, ks, sv)] else none) = some sts := h
          by_cases hy : ee_isl y = true
          · rw [if_pos hy] at h
            obtain ⟨rfl, rfl⟩ := ee_nx_some h
            obtain ⟨b, rfl⟩ := ee_isl.ok cy hy
            exact lv_lshl hx hb hd rfl (k _ List.mem_cons_self ns as H lc ls _ ⟨c1, c2, c3, ⟨⟨_, rfl⟩, c4⟩, c5, c6⟩)
          · rw [if_neg hy] at h
            exact ee_no h
        | _ => exact ee_no h
theorem ee_i2c (x : Int32) : 0 ≤ (x.toUInt32 % 65536).toInt32.toInt ∧ (x.toUInt32 % 65536).toInt32.toInt ≤ 65535 := by
  rw [pk_char, nI_toInt (by have := Nat.mod_lt x.toBitVec.toNat (show 0 < 65536 by decide); omega)]
  have := Nat.mod_lt x.toBitVec.toNat (show 0 < 65536 by decide)
  omega
theorem ee_i2b (x : Int32) : -128 ≤ x.toInt8.toInt32.toInt ∧ x.toInt8.toInt32.toInt ≤ 127 := by
  rw [Int8.toInt_toInt32]
  have h1 := Int8.le_toInt x.toInt8
  have h2 := Int8.toInt_lt x.toInt8
  omega
def ee_h10 : ee_H := fun _ _ _ e st => match st with
  | (pc, lo, x :: stk, w, iv, kc, ks, sv) => (match ee_cn iv x with
    | some z => (match e.2.1 with
      | .i2b => ee_nx e.2.2.1 1 [(pc + 1, lo, .int z.toInt8.toInt32 :: stk, w, iv, kc, ks, sv)]
      | .i2c => ee_nx e.2.2.1 1 [(pc + 1, lo, .int (z.toUInt32 % 65536).toInt32 :: stk, w, iv, kc, ks, sv)]
      | _ => none)
    | none => (match ee_it iv x with
      | some _ => (match e.2.1 with
        | .i2b => ee_nx e.2.2.1 1 [(pc + 1, lo, .retAddr iv.length :: stk, w, iv ++ [(-128, 127, none)], kc, ks, sv)]
        | .i2c => ee_nx e.2.2.1 1 [(pc + 1, lo, .retAddr iv.length :: stk, w, iv ++ [(0, 65535, none)], kc, ks, sv)]
        | _ => none)
      | none => none))
  | _ => none
set_option maxHeartbeats 2000000 in
theorem ee_h10.snd : ee_Snd ee_h10 := by
  intro X Y oc own cc ini dm bc bs Q e st sts F ho hi hd he hpc h k
  obtain ⟨p, l, en, R, s, m, args, below, meth, c⟩ := X
  obtain ⟨A, D, dA, ex, x0, sv0, nL⟩ := Y
  obtain ⟨pc, lo, stk, w, iv, kc, ks, sv⟩ := st
  obtain ⟨pc', ins, len, hn, ea, eb, ez⟩ := e
  obtain ⟨hx, hb, hml, hown, hts, hK, hA, hini, hR, hE⟩ := F
  have hpc : pc = pc' := hpc
  subst hpc
  have hd : decode cc pc = .ok (ins, len) := hd
  intro ns as H lc ls vs C
  obtain ⟨c1, c2, c3, c4, c5, c6⟩ := C
  show W p l en R s m args below meth c H lc kc ks Q (F0 m pc ls vs)
  cases stk with
  | nil => exact ee_no h
  | cons x stk =>
    cases vs with
    | nil => exact c4.elim
    | cons v vs =>
      obtain ⟨c4v, c4⟩ := c4
      replace h : (match ee_cn iv x with
        | some z => (match (generalizing := false) ins with
          | .i2b => ee_nx len 1 [(pc + 1, lo, .int z.toInt8.toInt32 :: stk, w, iv, kc, ks, sv)]
          | .i2c => ee_nx len 1 [(pc + 1, lo, .int (z.toUInt32 % 65536).toInt32 :: stk, w, iv, kc, ks, sv)]
          | _ => none)
        | none => (match ee_it iv x with
          | some _ => (match (generalizing := false) ins with
            | .i2b => ee_nx len 1 [(pc + 1, lo, .retAddr iv.length :: stk, w, iv ++ [(-128, 127, none)], kc, ks, sv)]
            | .i2c => ee_nx len 1 [(pc + 1, lo, .retAddr iv.length :: stk, w, iv ++ [(0, 65535, none)], kc, ks, sv)]
            | _ => none)
          | none => none)) = some sts := h
      cases hq : ee_cn iv x with
      | some z =>
        rw [hq] at h
        have hv := ee_cn.int c1 c4v hq
        subst hv
        cases ins with
        | i2b =>
          obtain ⟨rfl, rfl⟩ := ee_nx_some (show ee_nx len 1 _ = some sts from h)
          exact lv_i2b hx hb hd rfl (k _ List.mem_cons_self ns as H lc ls _ ⟨c1, c2, c3, ⟨rfl, c4⟩, c5, c6⟩)
        | i2c =>
          obtain ⟨rfl, rfl⟩ := ee_nx_some (show ee_nx len 1 _ = some sts from h)
          exact lv_i2c hx hb hd rfl (k _ List.mem_cons_self ns as H lc ls _ ⟨c1, c2, c3, ⟨rfl, c4⟩, c5, c6⟩)
        | _ => exact ee_no h
      | none =>
        rw [hq] at h
        simp only at h
        cases hr : ee_it iv x with
        | none => rw [hr] at h; exact ee_no h
        | some q =>
          rw [hr] at h
          obtain ⟨z, rfl, -, -⟩ := ee_it.int c1 c4v hr
          cases ins with
          | i2b =>
            obtain ⟨rfl, rfl⟩ := ee_nx_some (show ee_nx len 1 _ = some sts from h)
            have g := ee_i2b z
            obtain ⟨d1, d2, d3, d4, d5, d6⟩ := ee_Con.grow (s := s) (A := A) (D := D) (dA := dA) (ex := ex) (x0 := x0) (sv0 := sv0) (nL := nL) (lo := lo) (ls := ls) ⟨c1, c2, c3, c4, c5, c6⟩ g.1 g.2 (o := none) (fun _ _ q => by cases q)
            exact lv_i2b hx hb hd rfl (k _ List.mem_cons_self _ as H lc ls _ ⟨d1, d2, d3, ⟨⟨_, c1.last _, rfl⟩, d4⟩, d5, d6⟩)
          | i2c =>
            obtain ⟨rfl, rfl⟩ := ee_nx_some (show ee_nx len 1 _ = some sts from h)
            have g := ee_i2c z
            obtain ⟨d1, d2, d3, d4, d5, d6⟩ := ee_Con.grow (s := s) (A := A) (D := D) (dA := dA) (ex := ex) (x0 := x0) (sv0 := sv0) (nL := nL) (lo := lo) (ls := ls) ⟨c1, c2, c3, c4, c5, c6⟩ g.1 g.2 (o := none) (fun _ _ q => by cases q)
            exact lv_i2c hx hb hd rfl (k _ List.mem_cons_self _ as H lc ls _ ⟨d1, d2, d3, ⟨⟨_, c1.last _, rfl⟩, d4⟩, d5, d6⟩)
          | _ => exact ee_no h
def ee_h11 : ee_H := fun _ _ _ e st => match st with
  | (pc, lo, x :: stk, w, iv, kc, ks, sv) => if ee_cat x = 1 then (match e.2.1 with
      | .dup => ee_nx e.2.2.1 1 [(pc + 1, lo, x :: x :: stk, w, iv, kc, ks, sv)]
      | .pop => ee_nx e.2.2.1 1 [(pc + 1, lo, stk, w, iv, kc, ks, sv)]
      | .dup2 => (match stk with
        | y :: stk => if ee_cat y = 1 then ee_nx e.2.2.1 1 [(pc + 1, lo, x :: y :: x :: y :: stk, w, iv, kc, ks, sv)] else none
        | [] => none)
      | _ => none) else none
  | _ => none
set_option maxHeartbeats 2000000 in
theorem ee_h11.snd : ee_Snd ee_h11 := by
  intro X Y oc own cc ini dm bc bs Q e st sts F ho hi hd he hpc h k
  obtain ⟨p, l, en, R, s, m, args, below, meth, c⟩ := X
  obtain ⟨A, D, dA, ex, x0, sv0, nL⟩ := Y
  obtain ⟨pc, lo, stk, w, iv, kc, ks, sv⟩ := st
  obtain ⟨pc', ins, len, hn, ea, eb, ez⟩ := e
  obtain ⟨hx, hb, hml, hown, hts, hK, hA, hini, hR, hE⟩ := F
  have hpc : pc = pc' := hpc
  subst hpc
  have hd : decode cc pc = .ok (ins, len) := hd
  intro ns as H lc ls vs C
  obtain ⟨c1, c2, c3, c4, c5, c6⟩ := C
  show W p l en R s m args below meth c H lc kc ks Q (F0 m pc ls vs)
  cases stk with
  | nil => exact ee_no h
  | cons x stk =>
    cases vs with
    | nil => exact c4.elim
    | cons v vs =>
      obtain ⟨c4v, c4⟩ := c4
      replace h : (if ee_cat x = 1 then (match (generalizing := false) ins with
        | .dup => ee_nx len 1 [(pc + 1, lo, x :: x :: stk, w, iv, kc, ks, sv)]
        | .pop => ee_nx len 1 [(pc + 1, lo, stk, w, iv, kc, ks, sv)]
        | .dup2 => (match (generalizing := false) stk with
          | y :: stk => if ee_cat y = 1 then ee_nx len 1 [(pc + 1, lo, x :: y :: x :: y :: stk, w, iv, kc, ks, sv)] else none
          | [] => none)
        | _ => none) else none) = some sts := h
      by_cases hc : ee_cat x = 1
      · rw [if_pos hc] at h
        have hc1 : v.category = 1 := by rw [c4v.cat, hc]
        cases ins with
        | dup =>
          obtain ⟨rfl, rfl⟩ := ee_nx_some (show ee_nx len 1 _ = some sts from h)
          exact lv_dup hx hb hd hc1 (k _ List.mem_cons_self ns as H lc ls _ ⟨c1, c2, c3, ⟨c4v, c4v, c4⟩, c5, c6⟩)
        | pop =>
          obtain ⟨rfl, rfl⟩ := ee_nx_some (show ee_nx len 1 _ = some sts from h)
          exact lv_pop hx hb hd hc1 (k _ List.mem_cons_self ns as H lc ls _ ⟨c1, c2, c3, c4, c5, c6⟩)
        | dup2 =>
          cases stk with
          | nil => exact ee_no h
          | cons y stk =>
            cases vs with
            | nil => exact c4.elim
            | cons u vs =>
              obtain ⟨c4u, c4⟩ := c4
              replace h : (if ee_cat y = 1 then ee_nx len 1 [(pc + 1, lo, x :: y :: x :: y :: stk, w, iv, kc, ks, sv)] else none) = some sts := h
              by_cases hy : ee_cat y = 1
              · rw [if_pos hy] at h
                obtain ⟨rfl, rfl⟩ := ee_nx_some h
                exact lv_dup2_11 hx hb hd hc1 (by rw [c4u.cat, hy]) (k _ List.mem_cons_self ns as H lc ls _ ⟨c1, c2, c3, ⟨c4v, c4u, c4v, c4u, c4⟩, c5, c6⟩)
              · rw [if_neg hy] at h
                exact ee_no h
        | _ => exact ee_no h
      · rw [if_neg hc] at h
        exact ee_no h
def ee_ng (c : ClassFile.Cond) : ClassFile.Cond := match c with
  | .eq => .ne
  | .ne => .eq
  | .lt => .ge
  | .ge => .lt
  | .gt => .le
  | .le => .gt
/-- both ways of a comparison -/
def ee_fork (c : ClassFile.Cond) (pc : Nat) (o : Int) (lo : List (Nat × Value)) (stk : List Value) (w : ee_w) (iv : ee_iv) (kc ks : Nat) (sv : List Value) (x y : Value) : Option (List ee_st) := match ee_it iv x, ee_it iv y with
  | some (a, b), some (d, e) => if 0 ≤ (pc : Int) + o then some ((ee_rf c iv x y a b d e).map (fun iv' => (((pc : Int) + o).toNat, lo, stk, w, iv', kc, ks, sv)) ++ (ee_rf (ee_ng c) iv x y a b d e).map (fun iv' => (pc + 3, lo, stk, w, iv', kc, ks, sv))) else none
  | _, _ => none
theorem ee_fork.ok {X : ee_cx} {Y : ee_cy} {Q : State → Prop} {c : ClassFile.Cond} {pc : Nat} {o : Int} {lo : List (Nat × Value)} {stk : List Value} {w : ee_w} {iv : ee_iv} {kc ks : Nat} {sv : List Value} {x y : Value} {sts : List ee_st} (h : ee_fork c pc o lo stk w iv kc ks sv x y = some sts) (k : ∀ q ∈ sts, ee_G X Y Q q) :
    ∃ t : Nat, (pc : Int) + o = t ∧ ∀ (ns : List Int32) (as : List Nat) (vx vy : Value), ee_ok ns iv → ee_v ns as Y.2.2.2.1 x vx → ee_v ns as Y.2.2.2.1 y vy → ∃ p q : Int32, vx = .int p ∧ vy = .int q ∧ (ee_cd c p.toInt q.toInt → ∃ iv', ee_ok ns iv' ∧ ee_G X Y Q (t, lo, stk, w, iv', kc, ks, sv)) ∧ (ee_cd (ee_ng c) p.toInt q.toInt → ∃ iv', ee_ok ns iv' ∧ ee_G X Y Q (pc + 3, lo, stk, w, iv', kc, ks, sv)) := by
  unfold ee_fork at h
  split at h
  · rename_i a b d e h1 h2
    split at h
    · rename_i ht
      cases h
      refine ⟨((pc : Int) + o).toNat, by omega, fun ns as vx vy hk hvx hvy => ?_⟩
      obtain ⟨p, rfl, p1, p2⟩ := ee_it.int hk hvx h1
      obtain ⟨q, rfl, q1, q2⟩ := ee_it.int hk hvy h2
      refine ⟨p, q, rfl, rfl, fun hc => ?_, fun hc => ?_⟩
      · obtain ⟨iv', g1, g2⟩ := ee_rf.ok hk hvx hvy p1 p2 q1 q2 hc
        exact ⟨iv', g2, k _ (List.mem_append_left _ (List.mem_map.mpr ⟨iv', g1, rfl⟩))⟩
      · obtain ⟨iv', g1, g2⟩ := ee_rf.ok hk hvx hvy p1 p2 q1 q2 hc
        exact ⟨iv', g2, k _ (List.mem_append_right _ (List.mem_map.mpr ⟨iv', g1, rfl⟩))⟩
    · cases h
  · cases h
def ee_h12 : ee_H := fun _ _ _ e st => match st with
  | (pc, lo, x :: stk, w, iv, kc, ks, sv) => (match e.2.1 with
      | .ifCond c o => if e.2.2.1 = 3 then ee_fork c pc o lo stk w iv kc ks sv x (.int 0) else none
      | .if_icmp c o => (match stk with
        | y :: stk => if e.2.2.1 = 3 then ee_fork c pc o lo stk w iv kc ks sv y x else none
        | [] => none)
      | _ => none)
  | _ => none
theorem ee_lt (a b : Int32) : a < b ↔ a.toInt < b.toInt := Int32.lt_iff_toInt_lt
theorem ee_le (a b : Int32) : a ≤ b ↔ a.toInt ≤ b.toInt := Int32.le_iff_toInt_le
theorem ee_eq (a b : Int32) : a = b ↔ a.toInt = b.toInt := Int32.toInt_inj.symm
set_option maxHeartbeats 2000000 in
theorem ee_h12.snd : ee_Snd ee_h12 := by
  intro X Y oc own cc ini dm bc bs Q e st sts F ho hi hd he hpc h k
  obtain ⟨p, l, en, R, s, m, args, below, meth, c⟩ := X
  obtain ⟨A, D, dA, ex, x0, sv0, nL⟩ := Y
  obtain ⟨pc, lo, stk, w, iv, kc, ks, sv⟩ := st
  obtain ⟨pc', ins, len, hn, ea, eb, ez⟩ := e
  obtain ⟨hx, hb, hml, hown, hts, hK, hA, hini, hR, hE⟩ := F
  have hpc : pc = pc' := hpc
  subst hpc
  have hd : decode cc pc = .ok (ins, len) := hd
  intro ns as H lc ls vs C
  obtain ⟨c1, c2, c3, c4, c5, c6⟩ := C
  show W p l en R s m args below meth c H lc kc ks Q (F0 m pc ls vs)
  cases stk with
  | nil => exact ee_no h
  | cons x stk =>
    cases vs with
    | nil => exact c4.elim
    | cons v vs =>
      obtain ⟨c4v, c4⟩ := c4
      cases ins with
      | ifCond cd o =>
        replace h : (if len = 3 then ee_fork cd pc o lo stk w iv kc ks sv x (.int 0) else none) = some sts := h
        by_cases hl : len = 3
        · subst hl
          rw [if_pos rfl] at h
          obtain ⟨t, ht, g⟩ := ee_fork.ok (X := (p, l, en, R, s, m, args, below, meth, c)) (Y := (A, D, dA, ex, x0, sv0, nL)) (Q := Q) h k
          obtain ⟨a, b, rfl, eb1, gt, gf⟩ := g ns as v (.int 0) c1 c4v rfl
          cases eb1
          have kt : ee_cd cd a.toInt (0 : Int32).toInt → W p l en R s m args below meth c H lc kc ks Q (F0 m t ls vs) := fun hc => by
            obtain ⟨iv', g1, g2⟩ := gt hc
            exact g2 ns as H lc ls _ ⟨g1, c2, c3, c4, c5, c6⟩
          have kf : ee_cd (ee_ng cd) a.toInt (0 : Int32).toInt → W p l en R s m args below meth c H lc kc ks Q (F0 m (pc + 3) ls vs) := fun hc => by
            obtain ⟨iv', g1, g2⟩ := gf hc
            exact g2 ns as H lc ls _ ⟨g1, c2, c3, c4, c5, c6⟩
          cases cd with
          | eq => exact lv_if_eq hx hb hd ht (fun q => kt ((ee_eq _ _).mp q)) (fun q => kf (fun z => q ((ee_eq _ _).mpr z)))
          | ne => exact lv_if_ne hx hb hd ht (fun q => kt (fun z => q ((ee_eq _ _).mpr z))) (fun q => kf ((ee_eq _ _).mp q))
          | lt => exact lv_if_lt hx hb hd ht (fun q => kt ((ee_lt _ _).mp q)) (fun q => kf (Int.not_lt.mp (fun z => q ((ee_lt _ _).mpr z))))
          | ge => exact lv_if_ge hx hb hd ht (fun q => kt ((ee_le _ _).mp q)) (fun q => kf (Int.not_le.mp (fun z => q ((ee_le _ _).mpr z))))
          | gt => exact lv_if_gt hx hb hd ht (fun q => kt ((ee_lt _ _).mp q)) (fun q => kf (Int.not_lt.mp (fun z => q ((ee_lt _ _).mpr z))))
          | le => exact lv_if_le hx hb hd ht (fun q => kt ((ee_le _ _).mp q)) (fun q => kf (Int.not_le.mp (fun z => q ((ee_le _ _).mpr z))))
        · rw [if_neg hl] at h
          exact ee_no h
      | if_icmp cd o =>
        cases stk with
        | nil => exact ee_no h
        | cons y stk =>
          cases vs with
          | nil => exact c4.elim
          | cons u vs =>
            obtain ⟨c4u, c4⟩ := c4
            replace h : (if len = 3 then ee_fork cd pc o lo stk w iv kc ks sv y x else none) = some sts := h
            by_cases hl : len = 3
            · subst hl
              rw [if_pos rfl] at h
              obtain ⟨t, ht, g⟩ := ee_fork.ok (X := (p, l, en, R, s, m, args, below, meth, c)) (Y := (A, D, dA, ex, x0, sv0, nL)) (Q := Q) h k
              obtain ⟨a, b, rfl, rfl, gt, gf⟩ := g ns as u v c1 c4u c4v
              have kt : ee_cd cd a.toInt b.toInt → W p l en R s m args below meth c H lc kc ks Q (F0 m t ls vs) := fun hc => by
                obtain ⟨iv', g1, g2⟩ := gt hc
                exact g2 ns as H lc ls _ ⟨g1, c2, c3, c4, c5, c6⟩
              have kf : ee_cd (ee_ng cd) a.toInt b.toInt → W p l en R s m args below meth c H lc kc ks Q (F0 m (pc + 3) ls vs) := fun hc => by
                obtain ⟨iv', g1, g2⟩ := gf hc
                exact g2 ns as H lc ls _ ⟨g1, c2, c3, c4, c5, c6⟩
              cases cd with
              | eq => exact lv_icmp_eq hx hb hd ht (fun q => kt ((ee_eq _ _).mp q)) (fun q => kf (fun z => q ((ee_eq _ _).mpr z)))
              | ne => exact lv_icmp_ne hx hb hd ht (fun q => kt (fun z => q ((ee_eq _ _).mpr z))) (fun q => kf ((ee_eq _ _).mp q))
              | lt => exact lv_icmp_lt hx hb hd ht (fun q => kt ((ee_lt _ _).mp q)) (fun q => kf (Int.not_lt.mp (fun z => q ((ee_lt _ _).mpr z))))
              | ge => exact lv_icmp_ge hx hb hd ht (fun q => kt ((ee_le _ _).mp q)) (fun q => kf (Int.not_le.mp (fun z => q ((ee_le _ _).mpr z))))
              | gt => exact lv_icmp_gt hx hb hd ht (fun q => kt ((ee_lt _ _).mp q)) (fun q => kf (Int.not_lt.mp (fun z => q ((ee_lt _ _).mpr z))))
              | le => exact lv_icmp_le hx hb hd ht (fun q => kt ((ee_le _ _).mp q)) (fun q => kf (Int.not_le.mp (fun z => q ((ee_le _ _).mpr z))))
            · rw [if_neg hl] at h
              exact ee_no h
      | _ => exact ee_no h
/-- the states behind a table of places -/
def ee_sw (pc : Nat) (df lw hg : Int) (os : List Int) (lo : List (Nat × Value)) (stk : List Value) (w : ee_w) (iv : ee_iv) (kc ks : Nat) (sv : List Value) (x : Value) (a b : Int) : List ee_st :=
  (if a < lw then [(((pc : Int) + df).toNat, lo, stk, w, ee_put iv x a (ee_mn b (lw - 1)), kc, ks, sv)] else []) ++ ((if hg < b then [(((pc : Int) + df).toNat, lo, stk, w, ee_put iv x (ee_mx a (hg + 1)) b, kc, ks, sv)] else []) ++
  (List.range os.length).flatMap (fun (j : Nat) => if a ≤ lw + j ∧ lw + j ≤ b then [(((pc : Int) + os.getD j 0).toNat, lo, stk, w, ee_put iv x (lw + j) (lw + j), kc, ks, sv)] else []))
def ee_h13 : ee_H := fun _ _ _ e st => match st with
  | (pc, lo, x :: stk, w, iv, kc, ks, sv) => (match e.2.1 with
      | .tableswitch df lw hg os => (match ee_it iv x with
        | some (a, b) => if 0 ≤ (pc : Int) + df ∧ hg - lw + 1 = (os.toList.length : Int) ∧ os.toList.all (fun o => decide (0 ≤ (pc : Int) + o)) = true then some (ee_sw pc df lw hg os.toList lo stk w iv kc ks sv x a b) else none
        | none => none)
      | _ => none)
  | _ => none
set_option maxHeartbeats 2000000 in
theorem ee_h13.snd : ee_Snd ee_h13 := by
  intro X Y oc own cc ini dm bc bs Q e st sts F ho hi hd he hpc h k
  obtain ⟨p, l, en, R, s, m, args, below, meth, c⟩ := X
  obtain ⟨A, D, dA, ex, x0, sv0, nL⟩ := Y
  obtain ⟨pc, lo, stk, w, iv, kc, ks, sv⟩ := st
  obtain ⟨pc', ins, len, hn, ea, eb, ez⟩ := e
  obtain ⟨hx, hb, hml, hown, hts, hK, hA, hini, hR, hE⟩ := F
  have hpc : pc = pc' := hpc
  subst hpc
  have hd : decode cc pc = .ok (ins, len) := hd
  intro ns as H lc ls vs C
  obtain ⟨c1, c2, c3, c4, c5, c6⟩ := C
  show W p l en R s m args below meth c H lc kc ks Q (F0 m pc ls vs)
  cases stk with
  | nil => exact ee_no h
  | cons x stk =>
    cases vs with
    | nil => exact c4.elim
    | cons v vs =>
      obtain ⟨c4v, c4⟩ := c4
      cases ins with
      | tableswitch df lw hg os =>
        replace h : (match ee_it iv x with
          | some (a, b) => if 0 ≤ (pc : Int) + df ∧ hg - lw + 1 = (os.toList.length : Int) ∧ os.toList.all (fun o => decide (0 ≤ (pc : Int) + o)) = true then some (ee_sw pc df lw hg os.toList lo stk w iv kc ks sv x a b) else none
          | none => none) = some sts := h
        cases hq : ee_it iv x with
        | none => rw [hq] at h; exact ee_no h
        | some q =>
          obtain ⟨a, b⟩ := q
          rw [hq] at h
          simp only at h
          by_cases hc : 0 ≤ (pc : Int) + df ∧ hg - lw + 1 = (os.toList.length : Int) ∧ os.toList.all (fun o => decide (0 ≤ (pc : Int) + o)) = true
          · rw [if_pos hc] at h
            cases h
            obtain ⟨z, rfl, z1, z2⟩ := ee_it.int c1 c4v hq
            obtain ⟨hc1, hc2, hc3⟩ := hc
            by_cases h1 : z.toInt < lw
            · refine lv_tableOut hx hb hd (Or.inl h1) (tgt := ((pc : Int) + df).toNat) (by omega) ?_
              refine k _ (List.mem_append_left _ (by rw [if_pos (by omega)]; exact List.mem_cons_self)) ns as H lc ls _ ⟨ee_put.ok (lo := a) (hi := ee_mn b (lw - 1)) c1 c4v z1 (ee_le_mn z2 (by omega)), c2, c3, c4, c5, c6⟩
            · by_cases h2 : hg < z.toInt
              · refine lv_tableOut hx hb hd (Or.inr h2) (tgt := ((pc : Int) + df).toNat) (by omega) ?_
                refine k _ (List.mem_append_right _ (List.mem_append_left _ (by rw [if_pos (by omega)]; exact List.mem_cons_self))) ns as H lc ls _ ⟨ee_put.ok (lo := ee_mx a (hg + 1)) (hi := b) c1 c4v (ee_mx_le z1 (by omega)) z2, c2, c3, c4, c5, c6⟩
              · have hj : (z.toInt - lw).toNat < os.toList.length := by omega
                have ho' : os[(z.toInt - lw).toNat]? = some (os.toList.getD (z.toInt - lw).toNat 0) := by
                  rw [← Array.getElem?_toList, List.getD_eq_getElem?_getD, List.getElem?_eq_getElem hj]; rfl
                have hp := of_decide_eq_true (List.all_eq_true.mp hc3 (os.toList.getD (z.toInt - lw).toNat 0) (by
                  rw [List.getD_eq_getElem?_getD, List.getElem?_eq_getElem hj]
                  exact List.getElem_mem hj))
                refine lv_tableIn hx hb hd h1 h2 ho' (tgt := ((pc : Int) + os.toList.getD (z.toInt - lw).toNat 0).toNat) (by omega) ?_
                refine k _ (List.mem_append_right _ (List.mem_append_right _ (List.mem_flatMap.mpr ⟨(z.toInt - lw).toNat, List.mem_range.mpr hj, by rw [if_pos (by omega)]; exact List.mem_cons_self⟩))) ns as H lc ls _ ⟨ee_put.ok (lo := lw + ((z.toInt - lw).toNat : Nat)) (hi := lw + ((z.toInt - lw).toNat : Nat)) c1 c4v (by omega) (by omega), c2, c3, c4, c5, c6⟩
          · rw [if_neg hc] at h
            exact ee_no h
      | _ => exact ee_no h
end
section
/-! handlers: the heap -/
theorem ee_v.at {ns : List Int32} {as : List Nat} {ex : Nat → Nat} {k : Nat} {a : Nat} (h : ee_v ns as ex (.ref k) (.ref a)) (hk : k < 1000000) : as[k]? = some a := by
  unfold ee_v at h
  simp only [hk, if_true] at h
  obtain ⟨b, h1, h2⟩ := h
  cases h2
  exact h1
theorem ee_v.out {ns : List Int32} {as : List Nat} {ex : Nat → Nat} {k : Nat} {a : Nat} (h : ee_v ns as ex (.ref k) (.ref a)) (hk : ¬ k < 1000000) : a = ex k := by
  unfold ee_v at h
  simp only [hk, if_false] at h
  cases h
  rfl
/-- the cell at a place of the world -/
theorem ee_wr.at {ns : List Int32} {as : List Nat} {ex : Nat → Nat} {dA : Nat → ClassId} {w : ee_w} {ws : va_W} {k a : Nat} {x : ee_cell} (h : ee_wr ns as ex dA w ws) (hk : w[k]? = some x) (ha : as[k]? = some a) : ∃ e, ws[k]? = some (a, e) ∧ ee_c ns as ex dA x e := by
  obtain ⟨⟨b, e⟩, h1, h2⟩ := h.2.get hk
  rw [h.1, List.getElem?_map, h1] at ha
  cases ha
  exact ⟨e, h1, h2⟩
theorem ee_map_set {ws : va_W} {k a : Nat} {e e2 : va_E} (h : ws[k]? = some (a, e)) : (ws.set k (a, e2)).map (fun q => q.1) = ws.map (fun q => q.1) := by
  apply List.ext_getElem?
  intro i
  rw [List.getElem?_map, List.getElem?_map]
  by_cases hi : i = k
  · subst hi
    rw [List.getElem?_set_self (List.getElem?_eq_some_iff.mp h).1, h]; rfl
  · rw [List.getElem?_set_ne (Ne.symm hi)]
theorem ee_wr.set {ns : List Int32} {as : List Nat} {ex : Nat → Nat} {dA : Nat → ClassId} {w : ee_w} {ws : va_W} {k a : Nat} {x : ee_cell} {e e2 : va_E} (h : ee_wr ns as ex dA w ws) (ha : ws[k]? = some (a, e)) (hc : ee_c ns as ex dA x e2) : ee_wr ns as ex dA (w.set k x) (ws.set k (a, e2)) :=
  ⟨by rw [ee_map_set ha]; exact h.1, h.2.set (a := x) (b := (a, e2)) hc⟩
theorem ee_wr.push {ns : List Int32} {as : List Nat} {ex : Nat → Nat} {dA : Nat → ClassId} {w : ee_w} {ws : va_W} {a : Nat} {x : ee_cell} {e : va_E} (h : ee_wr ns as ex dA w ws) (hc : ee_c ns (as ++ [a]) ex dA x e) : ee_wr ns (as ++ [a]) ex dA (w ++ [x]) (ws ++ [(a, e)]) :=
  ⟨by rw [h.1, List.map_append]; rfl, (h.2.imp (fun x q g => by simpa using ee_c.mono [] [a] g)).app ⟨hc, trivial⟩⟩
theorem ee_wr.len {ns : List Int32} {as : List Nat} {ex : Nat → Nat} {dA : Nat → ClassId} {w : ee_w} {ws : va_W} (h : ee_wr ns as ex dA w ws) : as.length = w.length := by
  rw [h.1, List.length_map, h.2.len]
/-- a new cell -/
theorem ee_Con.born {s : State} {A : Nat → Prop} {D : va_G} {dA : Nat → ClassId} {ex : Nat → Nat} {x0 : List Int32} {sv0 : List Value} {nL : Nat} {lo : List (Nat × Value)} {stk : List Value} {w : ee_w} {iv : ee_iv} {sv : List Value} {ns : List Int32} {as : List Nat} {H1 : Heap} {lc : List Loc} {ls : Array Slot} {vs : List Value} {ws : va_W} {a : Nat} {x : ee_cell} {e : va_E}
    (c1 : ee_ok ns iv) (c2 : ∃ r, ns = x0 ++ r) (c3 : ∃ lv, lv_has ls nL lv ∧ ee_all (ee_lr ns as ex) lo lv) (c4 : ee_all (ee_v ns as ex) stk vs) (c5 : ee_all (ee_v ns as ex) sv sv0) (hw : ee_wr ns as ex dA w ws) (hc : ee_c ns (as ++ [a]) ex dA x e) (hP : va_P D vwCl (ws ++ [(a, e)]) H1) (hD : va_D A (ws ++ [(a, e)])) (hS : va_S A s.heap H1 lc) (hl : w.length < 1000000) :
    ee_Con s A D dA ex x0 sv0 nL lo (.ref w.length :: stk) (w ++ [x]) iv sv ns (as ++ [a]) H1 lc ls (.ref a :: vs) := by
  have mv : ∀ x v, ee_v ns as ex x v → ee_v ns (as ++ [a]) ex x v := fun x v q => by simpa using ee_v.mono [] [a] q
  obtain ⟨lv, c3, c3l⟩ := c3
  refine ⟨c1, c2, ⟨lv, c3, c3l.imp (fun x y q => ⟨q.1, mv _ _ q.2⟩)⟩, ⟨?_, c4.imp mv⟩, c5.imp mv, _, hw.push hc, hP, hD, hS⟩
  refine ee_v.inw hl ?_
  rw [← hw.len, List.getElem?_append_right (Nat.le_refl _), Nat.sub_self]; rfl
def ee_h14 : ee_H := fun _ _ _ e st => match st with
  | (pc, lo, .ref k :: stk, w, iv, kc, ks, sv) => (match e.2.1 with
      | .getfield _ => if e.2.2.2.2.2.1 = 0 then (match ee_FL[e.2.2.2.2.1]?, w[k]? with
          | some q, some (.inl (ci, fs)) => (match fs[q.2.2.2.1]? with
            | some x => if k < 1000000 ∧ ci = q.2.2.1 then ee_nx e.2.2.1 3 [(pc + 3, lo, x :: stk, w, iv, kc, ks, sv)] else none
            | none => none)
          | _, _ => none)
        else (match ee_SL[e.2.2.2.2.1]? with
          | some q => if 1000000 ≤ k ∧ k < 1000002 then ee_nx e.2.2.1 3 [(pc + 3, lo, (if q.2.2.1 = 0 then .int 0 else .ref (k + 100)) :: stk, w, iv, kc, ks, sv)] else none
          | none => none)
      | _ => none)
  | _ => none
set_option maxHeartbeats 2000000 in
theorem ee_h14.snd : ee_Snd ee_h14 := by
  intro X Y oc own cc ini dm bc bs Q e st sts F ho hi hd he hpc h k
  obtain ⟨p, l, en, R, s, m, args, below, meth, c⟩ := X
  obtain ⟨A, D, dA, ex, x0, sv0, nL⟩ := Y
  obtain ⟨pc, lo, stk, w, iv, kc, ks, sv⟩ := st
  obtain ⟨pc', ins, len, hn, ea, eb, ez⟩ := e
  obtain ⟨hx, hb, hml, hown, hts, hK, hA, hini, hR, hE⟩ := F
  have hpc : pc = pc' := hpc
  subst hpc
  have hd : decode cc pc = .ok (ins, len) := hd
  intro ns as H lc ls vs C
  obtain ⟨c1, c2, c3, c4, c5, c6⟩ := C
  show W p l en R s m args below meth c H lc kc ks Q (F0 m pc ls vs)
  cases stk with
  | nil => exact ee_no h
  | cons x stk =>
    cases vs with
    | nil => exact c4.elim
    | cons v vs =>
      obtain ⟨c4v, c4⟩ := c4
      cases x with
      | ref j =>
        obtain ⟨a, rfl⟩ := ee_v.ref c4v
        cases ins with
        | getfield i =>
          replace h : (if eb = 0 then (match ee_FL[ea]?, w[j]? with
              | some q, some (.inl (ci, fs)) => (match fs[q.2.2.2.1]? with
                | some x => if j < 1000000 ∧ ci = q.2.2.1 then ee_nx len 3 [(pc + 3, lo, x :: stk, w, iv, kc, ks, sv)] else none
                | none => none)
              | _, _ => none)
            else (match ee_SL[ea]? with
              | some q => if 1000000 ≤ j ∧ j < 1000002 then ee_nx len 3 [(pc + 3, lo, (if q.2.2.1 = 0 then .int 0 else .ref (j + 100)) :: stk, w, iv, kc, ks, sv)] else none
              | none => none)) = some sts := h
          have hee : (if eb = 0 then (match ee_FL[ea]? with
              | some q => decide (q.1 = oc) && decide (q.2.1 = i)
              | none => false) else (match ee_SL[ea]? with
              | some q => decide (q.1 = oc) && decide (q.2.1 = i)
              | none => false)) = true := he
          by_cases h0 : eb = 0
          · rw [if_pos h0] at h hee
            cases hq : ee_FL[ea]? with
            | none => rw [hq] at hee; cases hee
            | some q =>
              rw [hq] at h hee
              simp only at h hee
              obtain ⟨e1, e2⟩ := ee_and hee
              have e1 := of_decide_eq_true e1
              have e2 := of_decide_eq_true e2
              obtain ⟨r, f1, f2, f3, -⟩ := ee_FLok q (List.mem_of_getElem? hq)
              rw [e1, ee_own_ow ho, e2] at f3
              split at h
              · rename_i q0 ci fs hq0 hw
                cases hq0
                cases hf : fs[q.2.2.2.1]? with
                | none => rw [hf] at h; exact ee_no h
                | some x =>
                  rw [hf] at h
                  simp only at h
                  by_cases hc : j < 1000000 ∧ ci = q.2.2.1
                  · rw [if_pos hc] at h
                    obtain ⟨rfl, rfl⟩ := ee_nx_some h
                    obtain ⟨ws, c6w, hP, hD, hS⟩ := c6
                    obtain ⟨ec, g1, vs1, rfl, g3⟩ := c6w.at hw (c4v.at hc.1)
                    obtain ⟨u, g4, g5⟩ := g3.get hf
                    rw [hc.2] at g1
                    obtain ⟨C, T, N⟩ := r
                    exact va_get (C := C) (T := T) (N := N) hx hb hts (ee_kd _ _ f1).1 hown hK hP j g1 f1 q.2.2.2.1 f2 (hts _ f3) (fun _ z => z) g4 hd (k _ List.mem_cons_self ns as H lc ls _ ⟨c1, c2, c3, ⟨g5, c4⟩, c5, ws, c6w, hP, hD, hS⟩)
                  · rw [if_neg hc] at h
                    exact ee_no h
              · exact ee_no h
          · rw [if_neg h0] at h hee
            cases hq : ee_SL[ea]? with
            | none => rw [hq] at hee; cases hee
            | some q =>
              rw [hq] at h hee
              simp only at h hee
              obtain ⟨e1, e2⟩ := ee_and hee
              have e1 := of_decide_eq_true e1
              have e2 := of_decide_eq_true e2
              have f3 := ee_SLok q (List.mem_of_getElem? hq)
              rw [e1, ee_own_ow ho, e2] at f3
              by_cases hc : 1000000 ≤ j ∧ j < 1000002
              · rw [if_pos hc] at h
                obtain ⟨rfl, rfl⟩ := ee_nx_some h
                obtain ⟨hc1, hc2⟩ := hc
                have ha := c4v.out (Nat.not_lt.mpr hc1)
                subst ha
                obtain ⟨ws, c6w, hP, hD, hS⟩ := c6
                obtain ⟨i0, hi0, rfl⟩ : ∃ i0, i0 < 2 ∧ j = 1000000 + i0 := ⟨j - 1000000, Nat.sub_lt_left_of_lt_add hc1 hc2, (Nat.add_sub_of_le hc1).symm⟩
                obtain ⟨g1, g2, g3, g4⟩ := hE.1.1 i0 hi0
                have g3 : va_OF "java/lang/String" "value" "[B" (.ref (ex (1000000 + i0 + 100))) (ex (1000000 + i0)) A s s.heap := by
                  rw [show 1000000 + i0 + 100 = 1000100 + i0 from Nat.add_right_comm 1000000 i0 100]
                  exact g3
                by_cases hz : q.2.2.1 = 0
                · rw [if_pos hz] at k
                  rw [hz] at f3
                  exact vk_getf hx hb g2 hS hown (hts _ f3) (fun _ z => z) hd (k _ List.mem_cons_self ns as H lc ls _ ⟨c1, c2, c3, ⟨rfl, c4⟩, c5, ws, c6w, hP, hD, hS⟩)
                · rw [if_neg hz] at k
                  rw [show ee_sf q.2.2.1 = ("value", "[B") by unfold ee_sf; rw [if_neg hz]] at f3
                  exact vk_getf hx hb g3 hS hown (hts _ f3) (fun _ z => z) hd (k _ List.mem_cons_self ns as H lc ls _ ⟨c1, c2, c3, ⟨ee_v.outs (Nat.not_lt.mpr (Nat.le_trans hc1 (Nat.le_add_right _ _))), c4⟩, c5, ws, c6w, hP, hD, hS⟩)
              · rw [if_neg hc] at h
                exact ee_no h
        | _ => exact ee_no h
      | _ => exact ee_no h
end
section
/-! handlers: fields put, arrays, new cells, statics -/
def ee_fit (tc : Nat) (iv : ee_iv) (x : Value) : Bool := match tc with
  | 0 => (ee_it iv x).isSome
  | 1 => (match ee_it iv x with
    | some (a, b) => decide (0 ≤ a) && decide (b ≤ 1)
    | none => false)
  | 2 => ee_isl x
  | 3 => (match x with
    | .ref _ => true
    | .null => true
    | _ => false)
  | _ => false
theorem ee_01 {z : Int32} (h1 : 0 ≤ z.toInt) (h2 : z.toInt ≤ 1) : z = 0 ∨ z = 1 := by
  by_cases h : z.toInt = 0
  · exact Or.inl (ee_zero (by omega) (by omega))
  · exact Or.inr (Int32.toInt_inj.mp (by rw [show (1 : Int32).toInt = 1 by decide]; omega))
theorem ee_fit.ok {ns : List Int32} {as : List Nat} {ex : Nat → Nat} {iv : ee_iv} {x v : Value} {tc : Nat} {ty : FieldType} (hk : ee_ok ns iv) (hx : ee_v ns as ex x v) (hf : ee_fit tc iv x = true) (ht : ee_tc ty = tc) : narrow ty v = v ∧ fits ty v = true := by
  subst ht
  cases ty with
  | int =>
    have hf : (ee_it iv x).isSome = true := hf
    obtain ⟨q, hq⟩ := Option.isSome_iff_exists.mp hf
    obtain ⟨z, rfl, -, -⟩ := ee_it.int hk hx hq
    exact ⟨rfl, rfl⟩
  | boolean =>
    have hf : (match ee_it iv x with
      | some (a, b) => decide (0 ≤ a) && decide (b ≤ 1)
      | none => false) = true := hf
    cases hq : ee_it iv x with
    | none => rw [hq] at hf; cases hf
    | some q =>
      obtain ⟨a, b⟩ := q
      rw [hq] at hf
      obtain ⟨e1, e2⟩ := ee_and hf
      have e1 := of_decide_eq_true e1
      have e2 := of_decide_eq_true e2
      obtain ⟨z, rfl, z1, z2⟩ := ee_it.int hk hx hq
      rcases ee_01 (z := z) (by omega) (by omega) with rfl | rfl <;> exact ⟨by decide, by decide⟩
  | long =>
    obtain ⟨z, rfl⟩ := ee_isl.ok hx hf
    exact ⟨rfl, rfl⟩
  | object n =>
    cases x with
    | ref j =>
      obtain ⟨a, rfl⟩ := ee_v.ref hx
      exact ⟨rfl, rfl⟩
    | null =>
      cases (show v = .null from hx)
      exact ⟨rfl, rfl⟩
    | _ => cases hf
  | array n =>
    cases x with
    | ref j =>
      obtain ⟨a, rfl⟩ := ee_v.ref hx
      exact ⟨rfl, rfl⟩
    | null =>
      cases (show v = .null from hx)
      exact ⟨rfl, rfl⟩
    | _ => cases hf
  | _ => cases hf
def ee_h15 : ee_H := fun _ _ _ e st => match st with
  | (pc, lo, x :: .ref k :: stk, w, iv, kc, ks, sv) => (match e.2.1 with
      | .putfield _ => (match ee_FL[e.2.2.2.2.1]?, w[k]? with
          | some q, some (.inl (ci, fs)) => if (k < 1000000 ∧ ci = q.2.2.1) ∧ q.2.2.2.1 < fs.length ∧ ee_fit q.2.2.2.2.2 iv x = true then ee_nx e.2.2.1 3 [(pc + 3, lo, stk, w.set k (.inl (ci, fs.set q.2.2.2.1 x)), iv, kc, ks, sv)] else none
          | _, _ => none)
      | _ => none)
  | _ => none
set_option maxHeartbeats 2000000 in
theorem ee_h15.snd : ee_Snd ee_h15 := by
  intro X Y oc own cc ini dm bc bs Q e st sts F ho hi hd he hpc h k
  obtain ⟨p, l, en, R, s, m, args, below, meth, c⟩ := X
  obtain ⟨A, D, dA, ex, x0, sv0, nL⟩ := Y
  obtain ⟨pc, lo, stk, w, iv, kc, ks, sv⟩ := st
  obtain ⟨pc', ins, len, hn, ea, eb, ez⟩ := e
  obtain ⟨hx, hb, hml, hown, hts, hK, hA, hini, hR, hE⟩ := F
  have hpc : pc = pc' := hpc
  subst hpc
  have hd : decode cc pc = .ok (ins, len) := hd
  intro ns as H lc ls vs C
  obtain ⟨c1, c2, c3, c4, c5, c6⟩ := C
  show W p l en R s m args below meth c H lc kc ks Q (F0 m pc ls vs)
  match stk, vs, c4, h with
  | [], _, _, h => exact ee_no h
  | [_], _, _, h => exact ee_no h
  | y :: x :: stk, [], c4, h => exact c4.elim
  | y :: x :: stk, [_], c4, h => exact c4.2.elim
  | x :: y :: stk, vx :: vy :: vs, ⟨cx, cy, c4⟩, h =>
    cases y with
    | ref j =>
      obtain ⟨a, rfl⟩ := ee_v.ref cy
      cases ins with
      | putfield i =>
        replace h : (match ee_FL[ea]?, w[j]? with
          | some q, some (.inl (ci, fs)) => if (j < 1000000 ∧ ci = q.2.2.1) ∧ q.2.2.2.1 < fs.length ∧ ee_fit q.2.2.2.2.2 iv x = true then ee_nx len 3 [(pc + 3, lo, stk, w.set j (.inl (ci, fs.set q.2.2.2.1 x)), iv, kc, ks, sv)] else none
          | _, _ => none) = some sts := h
        have hee : (match ee_FL[ea]? with
          | some q => decide (q.1 = oc) && (decide (q.2.1 = i) && (!ee_ini (pc, ClassFile.Instr.putfield i, len, hn, ea, eb, ez) || decide (q.2.2.1 = oc)))
          | none => false) = true := he
        cases hq : ee_FL[ea]? with
        | none => rw [hq] at hee; cases hee
        | some q =>
          rw [hq] at h hee
          simp only at h hee
          obtain ⟨e1, e2⟩ := ee_and hee
          obtain ⟨e2, e3⟩ := ee_and e2
          have e1 := of_decide_eq_true e1
          have e2 := of_decide_eq_true e2
          obtain ⟨r, f1, f2, f3, ty, f4, f5⟩ := ee_FLok q (List.mem_of_getElem? hq)
          rw [e1, ee_own_ow ho, e2] at f3
          split at h
          · rename_i q0 ci fs hq0 hw
            cases hq0
            by_cases hc : (j < 1000000 ∧ ci = q.2.2.1) ∧ q.2.2.2.1 < fs.length ∧ ee_fit q.2.2.2.2.2 iv x = true
            · rw [if_pos hc] at h
              obtain ⟨rfl, rfl⟩ := ee_nx_some h
              obtain ⟨⟨hc1, hc2⟩, hc3, hc4⟩ := hc
              obtain ⟨ws, c6w, hP, hD, hS⟩ := c6
              obtain ⟨ec, g1, vs1, rfl, g3⟩ := c6w.at hw (cy.at hc1)
              subst hc2
              obtain ⟨n1, n2⟩ := ee_fit.ok c1 cx hc4 f5
              have hlen : q.2.2.2.1 < vs1.length := by rw [← g3.len]; exact hc3
              obtain ⟨C, T, N⟩ := r
              obtain ⟨k1, k2, ty0, k3⟩ := ee_kd _ _ f1
              have next : ∀ (H1 : Heap) (lc1 : List Loc), va_P D vwCl (ws.set j (a, .inr (q.2.2.1, vs1.set q.2.2.2.1 vx))) H1 → va_D A (ws.set j (a, .inr (q.2.2.1, vs1.set q.2.2.2.1 vx))) → va_S A s.heap H1 lc1 → W p l en R s m args below meth c H1 lc1 kc ks Q (F0 m (pc + 3) ls vs) := fun H1 lc1 hP1 hD1 hS1 =>
                k _ List.mem_cons_self ns as H1 lc1 ls _ ⟨c1, c2, c3, c4, c5, _, c6w.set g1 ⟨_, rfl, g3.set cx⟩, hP1, hD1, hS1⟩
              by_cases hf : (T q.2.2.2.1).2.2.2 = true
              · have hi2 : ee_ini (pc, ClassFile.Instr.putfield i, 3, hn, ea, eb, ez) = true := by
                  show (match ee_FL[ea]? with
                    | some q => (match vwCl[q.2.2.1]? with
                      | some r => (r.2.1 q.2.2.2.1).2.2.2
                      | none => false)
                    | none => false) = true
                  rw [hq]
                  simp only
                  rw [f1]
                  exact hf
                have hoc : q.2.2.1 = oc := by
                  rw [hi2] at e3
                  exact of_decide_eq_true (by simpa using e3)
                have hdc : (T q.2.2.2.1).1 = own := by
                  rw [(k3 _ f2).2]
                  have := ee_okn _ _ f1
                  rw [hoc, ho] at this
                  exact (Option.some.inj this).symm
                exact va_putF (C := C) (T := T) (N := N) hx hb hts k1 ty0 (fun z hz => (k3 z hz).1) k2 hown hK hP hD hS j g1 f1 q.2.2.2.1 f2 (hts _ f3) (fun _ z => z) hf (hini (hi hi2)) hdc f4 n1 n2 hlen hd next
              · exact va_put (C := C) (T := T) (N := N) hx hb hts k1 ty0 (fun z hz => (k3 z hz).1) k2 hown hK hP hD hS j g1 f1 q.2.2.2.1 f2 (hts _ f3) (fun _ z => z) (by simpa using hf) f4 n1 n2 hlen hd next
            · rw [if_neg hc] at h
              exact ee_no h
          · exact ee_no h
      | _ => exact ee_no h
    | _ => exact ee_no h
/-- an index that is known and in its row -/
def ee_ix (iv : ee_iv) (i : Value) (n : Nat) : Option Nat := match ee_cn iv i with
  | some z => if 0 ≤ z.toInt ∧ z.toInt < (n : Int) then some z.toInt.toNat else none
  | none => none
theorem ee_ix.ok {ns : List Int32} {as : List Nat} {ex : Nat → Nat} {iv : ee_iv} {i v : Value} {n j : Nat} (hk : ee_ok ns iv) (hv : ee_v ns as ex i v) (h : ee_ix iv i n = some j) : ∃ z : Int32, v = .int z ∧ z.toNatClampNeg = j ∧ j < n ∧ vp_in z n := by
  unfold ee_ix at h
  cases hq : ee_cn iv i with
  | none => rw [hq] at h; cases h
  | some z =>
    rw [hq] at h
    simp only at h
    by_cases hc : 0 ≤ z.toInt ∧ z.toInt < (n : Int)
    · rw [if_pos hc] at h
      cases h
      exact ⟨z, ee_cn.int hk hv hq, rfl, by omega, vp_in_iff.mpr hc⟩
    · rw [if_neg hc] at h
      cases h
/-- an index in its row -/
def ee_ib (iv : ee_iv) (i : Value) (n : Nat) : Bool := match ee_it iv i with
  | some (a, b) => decide (0 ≤ a) && decide (b < (n : Int))
  | none => false
theorem ee_ib.ok {ns : List Int32} {as : List Nat} {ex : Nat → Nat} {iv : ee_iv} {i v : Value} {n : Nat} (hk : ee_ok ns iv) (hv : ee_v ns as ex i v) (h : ee_ib iv i n = true) : ∃ z : Int32, v = .int z ∧ vp_in z n := by
  unfold ee_ib at h
  cases hq : ee_it iv i with
  | none => rw [hq] at h; cases h
  | some q =>
    obtain ⟨a, b⟩ := q
    rw [hq] at h
    obtain ⟨e1, e2⟩ := ee_and h
    have e1 := of_decide_eq_true e1
    have e2 := of_decide_eq_true e2
    obtain ⟨z, rfl, z1, z2⟩ := ee_it.int hk hv hq
    exact ⟨z, rfl, vp_in_iff.mpr ⟨by omega, by omega⟩⟩
/-- an element that is known -/
def ee_rd (lo hi : Int) (ov : List (Nat × Value)) (j : Nat) : Option Value := match ov.lookup j with
  | some x => some x
  | none => if lo = hi then some (.int (Int32.ofInt lo)) else none
theorem ee_rd.ok {ns : List Int32} {as : List Nat} {ex : Nat → Nat} {lo hi : Int} {ov : List (Nat × Value)} {j : Nat} {z : Int32} {x : Value} (hee : ee_el ns as ex lo hi ov j z) (h : ee_rd lo hi ov j = some x) : ee_v ns as ex x (.int z) := by
  unfold ee_rd at h
  unfold ee_el at hee
  cases hq : ov.lookup j with
  | some y =>
    rw [hq] at h hee
    cases h
    exact hee
  | none =>
    rw [hq] at h hee
    simp only at h hee
    by_cases hc : lo = hi
    · rw [if_pos hc] at h
      cases h
      show Value.int z = Value.int (Int32.ofInt lo)
      rw [← show z.toInt = lo by omega, Int32.ofInt_toInt]
    · rw [if_neg hc] at h
      cases h
end
section
/-! handlers: arrays read -/
def ee_h16 : ee_H := fun _ _ _ e st => match st with
  | (pc, lo, .ref k :: stk, w, iv, kc, ks, sv) => (match e.2.1 with
      | .arraylength => if k = 2000000 then ee_nx e.2.2.1 1 [(pc + 1, lo, .retAddr 6 :: stk, w, iv, kc, ks, sv)] else if 1000100 ≤ k ∧ k < 1000102 then ee_nx e.2.2.1 1 [(pc + 1, lo, .int (Int32.ofNat (ee_len.getD (k - 1000100) 0)) :: stk, w, iv, kc, ks, sv)] else (match w[k]? with
        | some (.inr (_, n, _, _, _)) => if k < 1000000 then ee_nx e.2.2.1 1 [(pc + 1, lo, .int (Int32.ofNat n) :: stk, w, iv, kc, ks, sv)] else none
        | _ => none)
      | _ => none)
  | _ => none
theorem ee_x0 {ns x0 : List Int32} {j : Nat} {z : Int32} (h : ∃ r, ns = x0 ++ r) (hz : x0[j]? = some z) : ns[j]? = some z := by
  obtain ⟨r, rfl⟩ := h
  exact ee_get_app hz
/-- an array's cell, whatever its kind -/
theorem ee_c.arr {ns : List Int32} {as : List Nat} {ex : Nat → Nat} {dA : Nat → ClassId} {t n : Nat} {a b : Int} {ov : List (Nat × Value)} {e : va_E} (h : ee_c ns as ex dA (.inr (t, n, a, b, ov)) e) : t < 4 ∧ ∃ y : vp_A, e = .inl (dA t, y) ∧ y.1 = n := by
  unfold ee_c at h
  by_cases ht : t = 3
  · simp only [ht, if_true] at h
    obtain ⟨f, rfl⟩ := h
    exact ⟨by omega, _, by rw [ht], rfl⟩
  · simp only [ht, if_false] at h
    obtain ⟨h0, f, rfl, -⟩ := h
    exact ⟨by omega, _, rfl, rfl⟩
theorem ee_c.ints {ns : List Int32} {as : List Nat} {ex : Nat → Nat} {dA : Nat → ClassId} {t n : Nat} {a b : Int} {ov : List (Nat × Value)} {e : va_E} (h : ee_c ns as ex dA (.inr (t, n, a, b, ov)) e) (ht : t < 3) : ∃ f : Nat → Int32, e = .inl (dA t, n, .inl f) ∧ ∀ j, j < n → ee_el ns as ex a b ov j (f j) := by
  unfold ee_c at h
  simp only [show ¬ t = 3 by omega, if_false] at h
  obtain ⟨-, f, h1, h2⟩ := h
  exact ⟨f, h1, h2⟩
theorem ee_tys_at {dA : Nat → ClassId} {t : Nat} (h : t < 4) : ∃ ty, (ee_tys dA)[t]? = some (dA t, ty) := by
  match t, h with
  | 0, _ => exact ⟨_, rfl⟩
  | 1, _ => exact ⟨_, rfl⟩
  | 2, _ => exact ⟨_, rfl⟩
  | 3, _ => exact ⟨_, rfl⟩
set_option maxHeartbeats 2000000 in
theorem ee_h16.snd : ee_Snd ee_h16 := by
  intro X Y oc own cc ini dm bc bs Q e st sts F ho hi hd he hpc h k
  obtain ⟨p, l, en, R, s, m, args, below, meth, c⟩ := X
  obtain ⟨A, D, dA, ex, x0, sv0, nL⟩ := Y
  obtain ⟨pc, lo, stk, w, iv, kc, ks, sv⟩ := st
  obtain ⟨pc', ins, len, hn, ea, eb, ez⟩ := e
  obtain ⟨hx, hb, hml, hown, hts, hK, hA, hini, hR, hE⟩ := F
  have hpc : pc = pc' := hpc
  subst hpc
  have hd : decode cc pc = .ok (ins, len) := hd
  intro ns as H lc ls vs C
  obtain ⟨c1, c2, c3, c4, c5, c6⟩ := C
  show W p l en R s m args below meth c H lc kc ks Q (F0 m pc ls vs)
  cases stk with
  | nil => exact ee_no h
  | cons x stk =>
    cases vs with
    | nil => exact c4.elim
    | cons v vs =>
      obtain ⟨c4v, c4⟩ := c4
      cases x with
      | ref j =>
        obtain ⟨a, rfl⟩ := ee_v.ref c4v
        cases ins with
        | arraylength =>
          replace h : (if j = 2000000 then ee_nx len 1 [(pc + 1, lo, .retAddr 6 :: stk, w, iv, kc, ks, sv)] else if 1000100 ≤ j ∧ j < 1000102 then ee_nx len 1 [(pc + 1, lo, .int (Int32.ofNat (ee_len.getD (j - 1000100) 0)) :: stk, w, iv, kc, ks, sv)] else (match w[j]? with
            | some (.inr (_, n, _, _, _)) => if j < 1000000 then ee_nx len 1 [(pc + 1, lo, .int (Int32.ofNat n) :: stk, w, iv, kc, ks, sv)] else none
            | _ => none)) = some sts := h
          obtain ⟨ws, c6w, hP, hD, hS⟩ := c6
          by_cases h1 : j = 2000000
          · rw [if_pos h1] at h
            obtain ⟨rfl, rfl⟩ := ee_nx_some h
            subst h1
            have ha := c4v.out (by decide)
            subst ha
            obtain ⟨L, xs, g1, g2, g3, g4, g5, g6⟩ := hE.2.2.2.2
            exact va_slen hx hb g1 g2 g3 hS hd (k _ List.mem_cons_self ns as H lc ls _ ⟨c1, c2, c3, ⟨⟨_, ee_x0 c2 g4, rfl⟩, c4⟩, c5, ws, c6w, hP, hD, hS⟩)
          · rw [if_neg h1] at h
            by_cases h2 : 1000100 ≤ j ∧ j < 1000102
            · rw [if_pos h2] at h
              obtain ⟨rfl, rfl⟩ := ee_nx_some h
              obtain ⟨h21, h22⟩ := h2
              have ha := c4v.out (Nat.not_lt.mpr (Nat.le_trans (by decide) h21))
              subst ha
              obtain ⟨i0, hi0, rfl⟩ : ∃ i0, i0 < 2 ∧ j = 1000100 + i0 := ⟨j - 1000100, Nat.sub_lt_left_of_lt_add h21 h22, (Nat.add_sub_of_le h21).symm⟩
              obtain ⟨-, -, -, g4⟩ := hE.1.1 i0 hi0
              rw [Nat.add_sub_cancel_left] at k
              exact va_tlen hx hb g4 hS rfl hd (k _ List.mem_cons_self ns as H lc ls _ ⟨c1, c2, c3, ⟨rfl, c4⟩, c5, ws, c6w, hP, hD, hS⟩)
            · rw [if_neg h2] at h
              split at h
              · rename_i t n a1 b1 ov hw
                by_cases h3 : j < 1000000
                · rw [if_pos h3] at h
                  obtain ⟨rfl, rfl⟩ := ee_nx_some h
                  obtain ⟨ec, g1, g2⟩ := c6w.at hw (c4v.at h3)
                  obtain ⟨t4, y, rfl, g3⟩ := g2.arr
                  obtain ⟨ty, hty⟩ := ee_tys_at (dA := dA) t4
                  exact va_alen hx hb hK hP j t g1 hty (by rw [g3]) hd (k _ List.mem_cons_self ns as H lc ls _ ⟨c1, c2, c3, ⟨rfl, c4⟩, c5, ws, c6w, hP, hD, hS⟩)
                · rw [if_neg h3] at h
                  exact ee_no h
              · exact ee_no h
        | _ => exact ee_no h
      | _ => exact ee_no h
def ee_h22 : ee_H := fun _ _ _ e st => match st with
  | (pc, lo, i :: .ref k :: stk, w, iv, kc, ks, sv) => (match e.2.1 with
      | .iaload => if k = 2000000 then (match ee_cn iv (.retAddr 6) with
          | some z => (match ee_ix iv i z.toInt.toNat with
            | some j => ee_nx e.2.2.1 1 [(pc + 1, lo, .retAddr j :: stk, w, iv, kc, ks, sv)]
            | none => none)
          | none => none) else (match w[k]? with
          | some (.inr (t, n, a, b, ov)) => if t = 0 ∧ k < 1000000 then (match ee_ix iv i n with
            | some j => (match ee_rd a b ov j with
              | some x => ee_nx e.2.2.1 1 [(pc + 1, lo, x :: stk, w, iv, kc, ks, sv)]
              | none => none)
            | none => if ee_sp iv i ≠ [] then some ((ee_sp iv i).map (fun iv' => (pc, lo, i :: .ref k :: stk, w, iv', kc, ks, sv))) else none) else none
          | _ => none)
      | .baload => if 1000100 ≤ k ∧ k < 1000102 then (match ee_ix iv i (ee_len.getD (k - 1000100) 0) with
          | some j => ee_nx e.2.2.1 1 [(pc + 1, lo, .int ((ee_byt.getD (k - 1000100) []).getD j 0) :: stk, w, iv, kc, ks, sv)]
          | none => none) else (match w[k]? with
          | some (.inr (t, n, a, b, ov)) => if (t = 1 ∨ t = 2) ∧ k < 1000000 then (match ee_ix iv i n with
            | some j => (match ee_rd a b ov j with
              | some x => ee_nx e.2.2.1 1 [(pc + 1, lo, x :: stk, w, iv, kc, ks, sv)]
              | none => none)
            | none => if ee_sp iv i ≠ [] then some ((ee_sp iv i).map (fun iv' => (pc, lo, i :: .ref k :: stk, w, iv', kc, ks, sv))) else none) else none
          | _ => none)
      | .laload => (match w[k]? with
          | some (.inr (t, n, _, _, _)) => if t = 3 ∧ k < 1000000 ∧ ee_ib iv i n = true then ee_nx e.2.2.1 1 [(pc + 1, lo, .long 0 :: stk, w, iv, kc, ks, sv)] else none
          | _ => none)
      | _ => none)
  | _ => none
set_option maxHeartbeats 2000000 in
theorem ee_h22.snd : ee_Snd ee_h22 := by
  intro X Y oc own cc ini dm bc bs Q e st sts F ho hi hd he hpc h k
  obtain ⟨p, l, en, R, s, m, args, below, meth, c⟩ := X
  obtain ⟨A, D, dA, ex, x0, sv0, nL⟩ := Y
  obtain ⟨pc, lo, stk, w, iv, kc, ks, sv⟩ := st
  obtain ⟨pc', ins, len, hn, ea, eb, ez⟩ := e
  obtain ⟨hx, hb, hml, hown, hts, hK, hA, hini, hR, hE⟩ := F
  have hpc : pc = pc' := hpc
  subst hpc
  have hd : decode cc pc = .ok (ins, len) := hd
  intro ns as H lc ls vs C
  obtain ⟨c1, c2, c3, c4, c5, c6⟩ := C
  show W p l en R s m args below meth c H lc kc ks Q (F0 m pc ls vs)
  match stk, vs, c4, h with
  | [], _, _, h => exact ee_no h
  | [_], _, _, h => exact ee_no h
  | y :: x :: stk, [], c4, h => exact c4.elim
  | y :: x :: stk, [_], c4, h => exact c4.2.elim
  | i :: y :: stk, vi :: vy :: vs, ⟨ci, cy, c4⟩, h =>
    cases y with
    | ref j =>
      obtain ⟨a, rfl⟩ := ee_v.ref cy
      obtain ⟨ws, c6w, hP, hD, hS⟩ := c6
      have halve : ee_sp iv i ≠ [] → sts = (ee_sp iv i).map (fun iv' => (pc, lo, i :: .ref j :: stk, w, iv', kc, ks, sv)) → W p l en R s m args below meth c H lc kc ks Q (F0 m pc ls (vi :: .ref a :: vs)) := fun hs hq => by
        obtain ⟨iv', g1, g2⟩ := ee_sp.ok c1 ci hs
        exact k (pc, lo, i :: .ref j :: stk, w, iv', kc, ks, sv) (by rw [hq]; exact List.mem_map.mpr ⟨iv', g1, rfl⟩) ns as H lc ls _ ⟨g2, c2, c3, ⟨ci, cy, c4⟩, c5, ws, c6w, hP, hD, hS⟩
      cases ins with
      | iaload =>
        replace h : (if j = 2000000 then (match ee_cn iv (.retAddr 6) with
          | some z => (match ee_ix iv i z.toInt.toNat with
            | some j => ee_nx len 1 [(pc + 1, lo, .retAddr j :: stk, w, iv, kc, ks, sv)]
            | none => none)
          | none => none) else (match w[j]? with
          | some (.inr (t, n, a, b, ov)) => if t = 0 ∧ j < 1000000 then (match ee_ix iv i n with
            | some z => (match ee_rd a b ov z with
              | some x => ee_nx len 1 [(pc + 1, lo, x :: stk, w, iv, kc, ks, sv)]
              | none => none)
            | none => if ee_sp iv i ≠ [] then some ((ee_sp iv i).map (fun iv' => (pc, lo, i :: .ref j :: stk, w, iv', kc, ks, sv))) else none) else none
          | _ => none)) = some sts := h
        by_cases h1 : j = 2000000
        · rw [if_pos h1] at h
          subst h1
          have ha := cy.out (by decide)
          subst ha
          obtain ⟨L, xs, g1, g2, g3, g4, g5, g6⟩ := hE.2.2.2.2
          cases hq : ee_cn iv (.retAddr 6) with
          | none => rw [hq] at h; exact ee_no h
          | some z =>
            rw [hq] at h
            simp only at h
            have hz0 : ee_v ns as ex (.retAddr 6) (.int (nI L)) := ⟨_, ee_x0 c2 g4, rfl⟩
            have hz : Value.int (nI L) = Value.int z := ee_cn.int c1 hz0 hq
            cases hz
            rw [nI_toInt (by omega), Int.toNat_natCast] at h
            cases hr : ee_ix iv i L with
            | none => rw [hr] at h; exact ee_no h
            | some j =>
              rw [hr] at h
              obtain ⟨rfl, rfl⟩ := ee_nx_some h
              obtain ⟨z, rfl, f1, f2, f3⟩ := ee_ix.ok c1 ci hr
              refine va_sld hx hb g1 g2 g3 hS f3 hd (k _ List.mem_cons_self ns as H lc ls _ ⟨c1, c2, c3, ⟨⟨_, ee_x0 c2 (g6 j f2), by rw [f1]⟩, c4⟩, c5, ws, c6w, hP, hD, hS⟩)
        · rw [if_neg h1] at h
          split at h
          · rename_i t n a1 b1 ov hw
            by_cases h2 : t = 0 ∧ j < 1000000
            · rw [if_pos h2] at h
              obtain ⟨rfl, h3⟩ := h2
              obtain ⟨ec, g1, g2⟩ := c6w.at hw (cy.at h3)
              obtain ⟨f, rfl, g3⟩ := g2.ints (by omega)
              cases hr : ee_ix iv i n with
              | none =>
                rw [hr] at h
                simp only at h
                by_cases hs : ee_sp iv i ≠ []
                · rw [if_pos hs] at h
                  cases h
                  exact halve hs rfl
                · rw [if_neg hs] at h
                  exact ee_no h
              | some z =>
                rw [hr] at h
                simp only at h
                cases hrd : ee_rd a1 b1 ov z with
                | none => rw [hrd] at h; exact ee_no h
                | some x =>
                  rw [hrd] at h
                  obtain ⟨rfl, rfl⟩ := ee_nx_some h
                  obtain ⟨q, rfl, f1, f2, f3⟩ := ee_ix.ok c1 ci hr
                  exact va_iald hx hb hK hP j 0 g1 rfl f3 hd (k _ List.mem_cons_self ns as H lc ls _ ⟨c1, c2, c3, ⟨by rw [f1]; exact ee_rd.ok (g3 z f2) hrd, c4⟩, c5, ws, c6w, hP, hD, hS⟩)
            · rw [if_neg h2] at h
              exact ee_no h
          · exact ee_no h
      | baload =>
        replace h : (if 1000100 ≤ j ∧ j < 1000102 then (match ee_ix iv i (ee_len.getD (j - 1000100) 0) with
          | some z => ee_nx len 1 [(pc + 1, lo, .int ((ee_byt.getD (j - 1000100) []).getD z 0) :: stk, w, iv, kc, ks, sv)]
          | none => none) else (match w[j]? with
          | some (.inr (t, n, a, b, ov)) => if (t = 1 ∨ t = 2) ∧ j < 1000000 then (match ee_ix iv i n with
            | some z => (match ee_rd a b ov z with
              | some x => ee_nx len 1 [(pc + 1, lo, x :: stk, w, iv, kc, ks, sv)]
              | none => none)
            | none => if ee_sp iv i ≠ [] then some ((ee_sp iv i).map (fun iv' => (pc, lo, i :: .ref j :: stk, w, iv', kc, ks, sv))) else none) else none
          | _ => none)) = some sts := h
        by_cases h1 : 1000100 ≤ j ∧ j < 1000102
        · rw [if_pos h1] at h
          obtain ⟨h21, h22⟩ := h1
          have ha := cy.out (Nat.not_lt.mpr (Nat.le_trans (by decide) h21))
          subst ha
          obtain ⟨i0, hi0, rfl⟩ : ∃ i0, i0 < 2 ∧ j = 1000100 + i0 := ⟨j - 1000100, Nat.sub_lt_left_of_lt_add h21 h22, (Nat.add_sub_of_le h21).symm⟩
          obtain ⟨-, -, -, g4⟩ := hE.1.1 i0 hi0
          rw [Nat.add_sub_cancel_left] at h
          cases hr : ee_ix iv i (ee_len.getD i0 0) with
          | none => rw [hr] at h; exact ee_no h
          | some z =>
            rw [hr] at h
            obtain ⟨rfl, rfl⟩ := ee_nx_some h
            obtain ⟨q, rfl, f1, f2, f3⟩ := ee_ix.ok c1 ci hr
            exact va_tb hx hb g4 hS f3 rfl hd (k _ List.mem_cons_self ns as H lc ls _ ⟨c1, c2, c3, ⟨by rw [f1]; rfl, c4⟩, c5, ws, c6w, hP, hD, hS⟩)
        · rw [if_neg h1] at h
          split at h
          · rename_i t n a1 b1 ov hw
            by_cases h2 : (t = 1 ∨ t = 2) ∧ j < 1000000
            · rw [if_pos h2] at h
              obtain ⟨ht, h3⟩ := h2
              obtain ⟨ec, g1, g2⟩ := c6w.at hw (cy.at h3)
              obtain ⟨f, rfl, g3⟩ := g2.ints (by omega)
              cases hr : ee_ix iv i n with
              | none =>
                rw [hr] at h
                simp only at h
                by_cases hs : ee_sp iv i ≠ []
                · rw [if_pos hs] at h
                  cases h
                  exact halve hs rfl
                · rw [if_neg hs] at h
                  exact ee_no h
              | some z =>
                rw [hr] at h
                simp only at h
                cases hrd : ee_rd a1 b1 ov z with
                | none => rw [hrd] at h; exact ee_no h
                | some x =>
                  rw [hrd] at h
                  obtain ⟨rfl, rfl⟩ := ee_nx_some h
                  obtain ⟨q, rfl, f1, f2, f3⟩ := ee_ix.ok c1 ci hr
                  have kk := k _ List.mem_cons_self ns as H lc ls (.int (f q.toNatClampNeg) :: vs) ⟨c1, c2, c3, ⟨by rw [f1]; exact ee_rd.ok (g3 z f2) hrd, c4⟩, c5, ws, c6w, hP, hD, hS⟩
                  rcases ht with rfl | rfl
                  · exact va_bald hx hb hK hP j 1 g1 rfl f3 hd kk
                  · exact va_zald hx hb hK hP j 2 g1 rfl f3 hd kk
            · rw [if_neg h2] at h
              exact ee_no h
          · exact ee_no h
      | laload =>
        replace h : (match w[j]? with
          | some (.inr (t, n, _, _, _)) => if t = 3 ∧ j < 1000000 ∧ ee_ib iv i n = true then ee_nx len 1 [(pc + 1, lo, .long 0 :: stk, w, iv, kc, ks, sv)] else none
          | _ => none) = some sts := h
        split at h
        · rename_i t n a1 b1 ov hw
          by_cases h2 : t = 3 ∧ j < 1000000 ∧ ee_ib iv i n = true
          · rw [if_pos h2] at h
            obtain ⟨rfl, rfl⟩ := ee_nx_some h
            obtain ⟨rfl, h3, h4⟩ := h2
            obtain ⟨ec, g1, g2⟩ := c6w.at hw (cy.at h3)
            unfold ee_c at g2
            simp only [if_true] at g2
            obtain ⟨f, rfl⟩ := g2
            obtain ⟨q, rfl, f3⟩ := ee_ib.ok c1 ci h4
            exact va_lald hx hb hK hP j 3 g1 rfl f3 hd (k _ List.mem_cons_self ns as H lc ls _ ⟨c1, c2, c3, ⟨⟨_, rfl⟩, c4⟩, c5, ws, c6w, hP, hD, hS⟩)
          · rw [if_neg h2] at h
            exact ee_no h
        · exact ee_no h
      | _ => exact ee_no h
    | _ => exact ee_no h
end
section
/-! handlers: arrays written, cells made, statics read -/
theorem ee_el.put {ns : List Int32} {as : List Nat} {ex : Nat → Nat} {a b : Int} {ov : List (Nat × Value)} {f : Nat → Int32} {n j : Nat} {x : Value} {z : Int32} (h : ∀ i, i < n → ee_el ns as ex a b ov i (f i)) (hx : ee_v ns as ex x (.int z)) : ∀ i, i < n → ee_el ns as ex a b ((j, x) :: ov) i (upd f j z i) := by
  intro i hi
  unfold ee_el
  rw [List.lookup_cons]
  by_cases e : i = j
  · subst e
    simp only [beq_self_eq_true, upd, if_true]
    exact hx
  · have e' : (i == j) = false := by simpa using e
    rw [e']
    simp only [upd, e, if_false]
    exact h i hi
theorem ee_byte {x : Int32} (h1 : -128 ≤ x.toInt) (h2 : x.toInt ≤ 127) : vp_nar .byte x = x := by
  rw [vp_nar_byte]
  apply Int32.toInt_inj.mp
  rw [Int8.toInt_toInt32, Int32.toInt_toInt8]
  exact Int.bmod_eq_of_le (by omega) (by omega)
def ee_h17 : ee_H := fun _ _ _ e st => match st with
  | (pc, lo, x :: i :: .ref k :: stk, w, iv, kc, ks, sv) => (match w[k]? with
      | some (.inr (t, n, a, b, ov)) => if k < 1000000 then (match e.2.1 with
        | .iastore => (match ee_ix iv i n with
          | some j => if t = 0 ∧ (ee_it iv x).isSome = true then ee_nx e.2.2.1 1 [(pc + 1, lo, stk, w.set k (.inr (t, n, a, b, (j, x) :: ov)), iv, kc, ks, sv)] else none
          | none => if ee_sp iv i ≠ [] then some ((ee_sp iv i).map (fun iv' => (pc, lo, x :: i :: .ref k :: stk, w, iv', kc, ks, sv))) else none)
        | .bastore => (match ee_ix iv i n, ee_it iv x with
          | some j, some (u, v) => if (t = 1 ∧ -128 ≤ u ∧ v ≤ 127) ∨ (t = 2 ∧ 0 ≤ u ∧ v ≤ 1) then ee_nx e.2.2.1 1 [(pc + 1, lo, stk, w.set k (.inr (t, n, a, b, (j, x) :: ov)), iv, kc, ks, sv)] else none
          | none, _ => if ee_sp iv i ≠ [] then some ((ee_sp iv i).map (fun iv' => (pc, lo, x :: i :: .ref k :: stk, w, iv', kc, ks, sv))) else none
          | _, _ => none)
        | .lastore => if t = 3 ∧ ee_isl x = true ∧ ee_ib iv i n = true then ee_nx e.2.2.1 1 [(pc + 1, lo, stk, w.set k (.inr (t, n, a, b, ov)), iv, kc, ks, sv)] else none
        | _ => none) else none
      | _ => none)
  | _ => none
set_option maxHeartbeats 2000000 in
theorem ee_h17.snd : ee_Snd ee_h17 := by
  intro X Y oc own cc ini dm bc bs Q e st sts F ho hi hd he hpc h k
  obtain ⟨p, l, en, R, s, m, args, below, meth, c⟩ := X
  obtain ⟨A, D, dA, ex, x0, sv0, nL⟩ := Y
  obtain ⟨pc, lo, stk, w, iv, kc, ks, sv⟩ := st
  obtain ⟨pc', ins, len, hn, ea, eb, ez⟩ := e
  obtain ⟨hx, hb, hml, hown, hts, hK, hA, hini, hR, hE⟩ := F
  have hpc : pc = pc' := hpc
  subst hpc
  have hd : decode cc pc = .ok (ins, len) := hd
  intro ns as H lc ls vs C
  obtain ⟨c1, c2, c3, c4, c5, c6⟩ := C
  show W p l en R s m args below meth c H lc kc ks Q (F0 m pc ls vs)
  match stk, vs, c4, h with
  | [], _, _, h => exact ee_no h
  | [_], _, _, h => exact ee_no h
  | [_, _], _, _, h => exact ee_no h
  | _ :: _ :: _ :: _, [], c4, h => exact c4.elim
  | _ :: _ :: _ :: _, [_], c4, h => exact c4.2.elim
  | _ :: _ :: _ :: _, [_, _], c4, h => exact c4.2.2.elim
  | x :: i :: y :: stk, vx :: vi :: vy :: vs, ⟨cx, ci, cy, c4⟩, h =>
    cases y with
    | ref j =>
      obtain ⟨a, rfl⟩ := ee_v.ref cy
      obtain ⟨ws, c6w, hP, hD, hS⟩ := c6
      have halve : ee_sp iv i ≠ [] → sts = (ee_sp iv i).map (fun iv' => (pc, lo, x :: i :: .ref j :: stk, w, iv', kc, ks, sv)) → W p l en R s m args below meth c H lc kc ks Q (F0 m pc ls (vx :: vi :: .ref a :: vs)) := fun hs hq => by
        obtain ⟨iv', g1, g2⟩ := ee_sp.ok c1 ci hs
        exact k (pc, lo, x :: i :: .ref j :: stk, w, iv', kc, ks, sv) (by rw [hq]; exact List.mem_map.mpr ⟨iv', g1, rfl⟩) ns as H lc ls _ ⟨g2, c2, c3, ⟨cx, ci, cy, c4⟩, c5, ws, c6w, hP, hD, hS⟩
      replace h : (match w[j]? with
        | some (.inr (t, n, a, b, ov)) => if j < 1000000 then (match (generalizing := false) ins with
          | .iastore => (match ee_ix iv i n with
            | some z => if t = 0 ∧ (ee_it iv x).isSome = true then ee_nx len 1 [(pc + 1, lo, stk, w.set j (.inr (t, n, a, b, (z, x) :: ov)), iv, kc, ks, sv)] else none
            | none => if ee_sp iv i ≠ [] then some ((ee_sp iv i).map (fun iv' => (pc, lo, x :: i :: .ref j :: stk, w, iv', kc, ks, sv))) else none)
          | .bastore => (match ee_ix iv i n, ee_it iv x with
            | some z, some (u, v) => if (t = 1 ∧ -128 ≤ u ∧ v ≤ 127) ∨ (t = 2 ∧ 0 ≤ u ∧ v ≤ 1) then ee_nx len 1 [(pc + 1, lo, stk, w.set j (.inr (t, n, a, b, (z, x) :: ov)), iv, kc, ks, sv)] else none
            | none, _ => if ee_sp iv i ≠ [] then some ((ee_sp iv i).map (fun iv' => (pc, lo, x :: i :: .ref j :: stk, w, iv', kc, ks, sv))) else none
            | _, _ => none)
          | .lastore => if t = 3 ∧ ee_isl x = true ∧ ee_ib iv i n = true then ee_nx len 1 [(pc + 1, lo, stk, w.set j (.inr (t, n, a, b, ov)), iv, kc, ks, sv)] else none
          | _ => none) else none
        | _ => none) = some sts := h
      split at h
      · rename_i t n a1 b1 ov hw
        by_cases h3 : j < 1000000
        · rw [if_pos h3] at h
          obtain ⟨ec, g1, g2⟩ := c6w.at hw (cy.at h3)
          cases ins with
          | iastore =>
            replace h : (match ee_ix iv i n with
              | some z => if t = 0 ∧ (ee_it iv x).isSome = true then ee_nx len 1 [(pc + 1, lo, stk, w.set j (.inr (t, n, a1, b1, (z, x) :: ov)), iv, kc, ks, sv)] else none
              | none => if ee_sp iv i ≠ [] then some ((ee_sp iv i).map (fun iv' => (pc, lo, x :: i :: .ref j :: stk, w, iv', kc, ks, sv))) else none) = some sts := h
            cases hr : ee_ix iv i n with
            | none =>
              rw [hr] at h
              simp only at h
              by_cases hs : ee_sp iv i ≠ []
              · rw [if_pos hs] at h
                cases h
                exact halve hs rfl
              · rw [if_neg hs] at h
                exact ee_no h
            | some z =>
              rw [hr] at h
              simp only at h
              by_cases hc : t = 0 ∧ (ee_it iv x).isSome = true
              · rw [if_pos hc] at h
                obtain ⟨rfl, rfl⟩ := ee_nx_some h
                obtain ⟨rfl, hi1⟩ := hc
                obtain ⟨q, hq⟩ := Option.isSome_iff_exists.mp hi1
                obtain ⟨u, rfl, -, -⟩ := ee_it.int c1 cx hq
                obtain ⟨zi, rfl, f1, f2, f3⟩ := ee_ix.ok c1 ci hr
                obtain ⟨f, rfl, g3⟩ := g2.ints (by omega)
                refine va_iast hx hb hK hP hD hS j 0 g1 rfl f3 hd (fun H1 lc1 hP1 hD1 hS1 => k _ List.mem_cons_self ns as H1 lc1 ls _ ⟨c1, c2, c3, c4, c5, _, c6w.set g1 ?_, hP1, hD1, hS1⟩)
                rw [f1]
                exact ⟨by omega, _, rfl, ee_el.put g3 cx⟩
              · rw [if_neg hc] at h
                exact ee_no h
          | bastore =>
            replace h : (match ee_ix iv i n, ee_it iv x with
              | some z, some (u, v) => if (t = 1 ∧ -128 ≤ u ∧ v ≤ 127) ∨ (t = 2 ∧ 0 ≤ u ∧ v ≤ 1) then ee_nx len 1 [(pc + 1, lo, stk, w.set j (.inr (t, n, a1, b1, (z, x) :: ov)), iv, kc, ks, sv)] else none
              | none, _ => if ee_sp iv i ≠ [] then some ((ee_sp iv i).map (fun iv' => (pc, lo, x :: i :: .ref j :: stk, w, iv', kc, ks, sv))) else none
              | _, _ => none) = some sts := h
            cases hr : ee_ix iv i n with
            | none =>
              rw [hr] at h
              simp only at h
              by_cases hs : ee_sp iv i ≠ []
              · rw [if_pos hs] at h
                cases h
                exact halve hs rfl
              · rw [if_neg hs] at h
                exact ee_no h
            | some z =>
              rw [hr] at h
              cases hq : ee_it iv x with
              | none => rw [hq] at h; exact ee_no h
              | some q =>
                obtain ⟨u, v⟩ := q
                rw [hq] at h
                simp only at h
                by_cases hc : (t = 1 ∧ -128 ≤ u ∧ v ≤ 127) ∨ (t = 2 ∧ 0 ≤ u ∧ v ≤ 1)
                · rw [if_pos hc] at h
                  obtain ⟨rfl, rfl⟩ := ee_nx_some h
                  obtain ⟨xz, rfl, x1, x2⟩ := ee_it.int c1 cx hq
                  obtain ⟨zi, rfl, f1, f2, f3⟩ := ee_ix.ok c1 ci hr
                  obtain ⟨f, rfl, g3⟩ := g2.ints (by omega)
                  rcases hc with ⟨rfl, hc⟩ | ⟨rfl, hc⟩
                  · refine va_bast hx hb hK hP hD hS j 1 g1 rfl f3 hd (fun H1 lc1 hP1 hD1 hS1 => k _ List.mem_cons_self ns as H1 lc1 ls _ ⟨c1, c2, c3, c4, c5, _, c6w.set g1 ?_, hP1, hD1, hS1⟩)
                    rw [f1, ee_byte (by omega) (by omega)]
                    exact ⟨by omega, _, rfl, ee_el.put g3 cx⟩
                  · refine va_zast hx hb hK hP hD hS j 2 g1 rfl f3 hd (fun H1 lc1 hP1 hD1 hS1 => k _ List.mem_cons_self ns as H1 lc1 ls _ ⟨c1, c2, c3, c4, c5, _, c6w.set g1 ?_, hP1, hD1, hS1⟩)
                    have hb1 : vp_nar .boolean xz = xz := by
                      rcases ee_01 (z := xz) (by omega) (by omega) with rfl | rfl <;> decide
                    rw [f1, hb1]
                    exact ⟨by omega, _, rfl, ee_el.put g3 cx⟩
                · rw [if_neg hc] at h
                  exact ee_no h
          | lastore =>
            replace h : (if t = 3 ∧ ee_isl x = true ∧ ee_ib iv i n = true then ee_nx len 1 [(pc + 1, lo, stk, w.set j (.inr (t, n, a1, b1, ov)), iv, kc, ks, sv)] else none) = some sts := h
            by_cases hc : t = 3 ∧ ee_isl x = true ∧ ee_ib iv i n = true
            · rw [if_pos hc] at h
              obtain ⟨rfl, rfl⟩ := ee_nx_some h
              obtain ⟨rfl, hc1, hc2⟩ := hc
              obtain ⟨u, rfl⟩ := ee_isl.ok cx hc1
              obtain ⟨zi, rfl, f3⟩ := ee_ib.ok c1 ci hc2
              unfold ee_c at g2
              simp only [if_true] at g2
              obtain ⟨f, rfl⟩ := g2
              exact va_last hx hb hK hP hD hS j 3 g1 rfl f3 hd (fun H1 lc1 hP1 hD1 hS1 => k _ List.mem_cons_self ns as H1 lc1 ls _ ⟨c1, c2, c3, c4, c5, _, c6w.set g1 (by unfold ee_c; simp only [if_true]; exact ⟨_, rfl⟩), hP1, hD1, hS1⟩)
            · rw [if_neg hc] at h
              exact ee_no h
          | _ => exact ee_no h
        · rw [if_neg h3] at h
          exact ee_no h
      · exact ee_no h
    | _ => exact ee_no h
def ee_dv (o : Option FieldType) : Value := match o with
  | some ty => defaultValue ty
  | none => .null
def ee_df (r : vw_C) : List Value := (List.range r.2.2).map (fun j => ee_dv (parseFieldDescriptor (r.2.1 j).2.2.1))
def ee_dok (x : Value) : Bool := match x with
  | .int _ => true
  | .long _ => true
  | .null => true
  | _ => false
theorem ee_dok.all {ns : List Int32} {as : List Nat} {ex : Nat → Nat} : ∀ {l : List Value}, l.all ee_dok = true → ee_all (ee_v ns as ex) l l
  | [], _ => trivial
  | x :: l, h => by
    rw [List.all_cons] at h
    obtain ⟨h1, h2⟩ := ee_and h
    refine ⟨?_, ee_dok.all h2⟩
    cases x with
    | int c => rfl
    | long z => exact ⟨z, rfl⟩
    | null => rfl
    | _ => cases h1
def ee_atp (t : ClassFile.ArrayType) : Nat := match t with
  | .int => 0
  | .byte => 1
  | .boolean => 2
  | .long => 3
  | _ => 9
def ee_h18 : ee_H := fun _ bc bs e st => match st with
  | (pc, lo, stk, w, iv, kc, ks, sv) => if w.length < 1000000 ∧ kc + 1 ≤ bc then (match e.2.1 with
      | .new _ => (match ee_NL[e.2.2.2.2.1]? with
        | some q => (match vwCl[q.2.2.1]? with
          | some r => if ks + r.2.2 ≤ bs ∧ (ee_df r).all ee_dok = true then ee_nx e.2.2.1 3 [(pc + 3, lo, .ref w.length :: stk, w ++ [.inl (q.2.2.1, ee_df r)], iv, kc + 1, ks + r.2.2, sv)] else none
          | none => none)
        | none => none)
      | .newarray at' => (match stk with
        | x :: stk => (match ee_cn iv x with
          | some z => if 0 ≤ z.toInt ∧ z.toInt ≤ 100000 ∧ ks + z.toInt.toNat ≤ bs ∧ ee_atp at' < 4 then ee_nx e.2.2.1 2 [(pc + 2, lo, .ref w.length :: stk, w ++ [.inr (ee_atp at', z.toInt.toNat, 0, 0, [])], iv, kc + 1, ks + z.toInt.toNat, sv)] else none
          | none => none)
        | [] => none)
      | _ => none) else none
theorem ee_one {s : State} {D : va_G} {dA : Nat → ClassId} {cA : ClassId} {ty : FieldType} {t : Nat} (h : va_K D vwCl (ee_tys dA ++ [(cA, ty)]) s) (ht : (ee_tys dA)[t]? = some (dA t, ty)) (hp : ∀ C, ty ≠ .object C) : cA = dA t := by
  have h1 := (h.2 4 (cA, ty) rfl).2
  have h2 := (h.2 t (dA t, ty) (ee_get_app ht)).2
  cases ty with
  | object C => exact absurd rfl (hp C)
  | _ =>
    have h1 : s.vm.findClass _ = some cA := h1
    have h2 : s.vm.findClass _ = some (dA t) := h2
    rw [h1] at h2
    exact Option.some.inj h2
theorem ee_el0 {ns : List Int32} {as : List Nat} {ex : Nat → Nat} {n : Nat} : ∀ j, j < n → ee_el ns as ex 0 0 [] j ((fun _ => (0 : Int32)) j) := fun j _ => ⟨show (0 : Int) ≤ (0 : Int32).toInt by decide, show (0 : Int32).toInt ≤ 0 by decide⟩
set_option maxHeartbeats 2000000 in
theorem ee_h18.snd : ee_Snd ee_h18 := by
  intro X Y oc own cc ini dm bc bs Q e st sts F ho hi hd he hpc h k
  obtain ⟨p, l, en, R, s, m, args, below, meth, c⟩ := X
  obtain ⟨A, D, dA, ex, x0, sv0, nL⟩ := Y
  obtain ⟨pc, lo, stk, w, iv, kc, ks, sv⟩ := st
  obtain ⟨pc', ins, len, hn, ea, eb, ez⟩ := e
  obtain ⟨hx, hb, hml, hown, hts, hK, hA, hini, hR, hE⟩ := F
  have hpc : pc = pc' := hpc
  subst hpc
  have hd : decode cc pc = .ok (ins, len) := hd
  intro ns as H lc ls vs C
  obtain ⟨c1, c2, c3, c4, c5, c6⟩ := C
  show W p l en R s m args below meth c H lc kc ks Q (F0 m pc ls vs)
  replace h : (if w.length < 1000000 ∧ kc + 1 ≤ bc then (match (generalizing := false) ins with
      | .new _ => (match ee_NL[ea]? with
        | some q => (match vwCl[q.2.2.1]? with
          | some r => if ks + r.2.2 ≤ bs ∧ (ee_df r).all ee_dok = true then ee_nx len 3 [(pc + 3, lo, .ref w.length :: stk, w ++ [.inl (q.2.2.1, ee_df r)], iv, kc + 1, ks + r.2.2, sv)] else none
          | none => none)
        | none => none)
      | .newarray at' => (match (generalizing := false) stk with
        | x :: stk => (match ee_cn iv x with
          | some z => if 0 ≤ z.toInt ∧ z.toInt ≤ 100000 ∧ ks + z.toInt.toNat ≤ bs ∧ ee_atp at' < 4 then ee_nx len 2 [(pc + 2, lo, .ref w.length :: stk, w ++ [.inr (ee_atp at', z.toInt.toNat, 0, 0, [])], iv, kc + 1, ks + z.toInt.toNat, sv)] else none
          | none => none)
        | [] => none)
      | _ => none) else none) = some sts := h
  by_cases hc : w.length < 1000000 ∧ kc + 1 ≤ bc
  · rw [if_pos hc] at h
    obtain ⟨hwl, hkc⟩ := hc
    obtain ⟨ws, c6w, hP, hD, hS⟩ := c6
    cases ins with
    | new i =>
      replace h : (match ee_NL[ea]? with
        | some q => (match vwCl[q.2.2.1]? with
          | some r => if ks + r.2.2 ≤ bs ∧ (ee_df r).all ee_dok = true then ee_nx len 3 [(pc + 3, lo, Value.ref w.length :: stk, w ++ [.inl (q.2.2.1, ee_df r)], iv, kc + 1, ks + r.2.2, sv)] else none
          | none => none)
        | none => none) = some sts := h
      have hee : (match ee_NL[ea]? with
        | some q => decide (q.1 = oc) && decide (q.2.1 = i)
        | none => false) = true := he
      cases hq : ee_NL[ea]? with
      | none => rw [hq] at hee; cases hee
      | some q =>
        rw [hq] at h hee
        simp only at h hee
        obtain ⟨e1, e2⟩ := ee_and hee
        have e1 := of_decide_eq_true e1
        have e2 := of_decide_eq_true e2
        obtain ⟨r, f1, f2, f3, f4⟩ := ee_NLok q (List.mem_of_getElem? hq)
        rw [e1, ee_own_ow ho, e2] at f2
        rw [f1] at h
        simp only at h
        by_cases hc2 : ks + r.2.2 ≤ bs ∧ (ee_df r).all ee_dok = true
        · rw [if_pos hc2] at h
          obtain ⟨rfl, rfl⟩ := ee_nx_some h
          obtain ⟨C, T, N⟩ := r
          obtain ⟨k1, k2, ty0, k3⟩ := ee_kd _ _ f1
          have hks : ks + N ≤ bs := hc2.1
          refine va_new (C := C) (T := T) (N := N) (fs := ee_df (C, T, N)) hx hb hts k1 ty0 (fun z hz => (k3 z hz).1) hown (hts _ f2) (hts _ f3) (hts _ f4) hK hP hD hS hA f1 (fun j hj => ?_) (Nat.le_trans hkc hR.2.2.1) (Nat.le_trans hks hR.2.2.2) hd (fun q9 H1 hP1 hD1 hS1 => ?_)
          · unfold vp_V ee_df
            rw [List.getD_eq_getElem?_getD, List.getElem?_map, List.getElem?_range hj]
            simp only [Option.map_some, Option.getD_some]
            have h3 := (k3 j hj).1
            rw [show parseFieldDescriptor (((C, T, N) : vw_C).2.1 j).2.2.1 = some (ty0 j) from h3]
            rfl
          · exact k _ List.mem_cons_self ns (as ++ [q9]) H1 lc ls _ (ee_Con.born c1 c2 c3 c4 c5 c6w ⟨_, rfl, ee_dok.all hc2.2⟩ hP1 hD1 hS1 hwl)
        · rw [if_neg hc2] at h
          exact ee_no h
    | newarray at' =>
      cases stk with
      | nil => exact ee_no h
      | cons x stk =>
        cases vs with
        | nil => exact c4.elim
        | cons v vs =>
          obtain ⟨c4v, c4⟩ := c4
          replace h : (match ee_cn iv x with
            | some z => if 0 ≤ z.toInt ∧ z.toInt ≤ 100000 ∧ ks + z.toInt.toNat ≤ bs ∧ ee_atp at' < 4 then ee_nx len 2 [(pc + 2, lo, Value.ref w.length :: stk, w ++ [.inr (ee_atp at', z.toInt.toNat, 0, 0, [])], iv, kc + 1, ks + z.toInt.toNat, sv)] else none
            | none => none) = some sts := h
          cases hq : ee_cn iv x with
          | none => rw [hq] at h; exact ee_no h
          | some z =>
            rw [hq] at h
            simp only at h
            have hv := ee_cn.int c1 c4v hq
            subst hv
            by_cases hc2 : 0 ≤ z.toInt ∧ z.toInt ≤ 100000 ∧ ks + z.toInt.toNat ≤ bs ∧ ee_atp at' < 4
            · rw [if_pos hc2] at h
              obtain ⟨rfl, rfl⟩ := ee_nx_some h
              obtain ⟨z1, z2, z3, z4⟩ := hc2
              have zn : ¬ z < 0 := fun q => by
                have := Int32.lt_iff_toInt_lt.mp q
                rw [Int32.toInt_zero] at this
                omega
              have zc : z.toNatClampNeg = z.toInt.toNat := rfl
              have hcl : kc + 1 ≤ R.cells := Nat.le_trans hkc hR.2.2.1
              have hsl : ks + z.toInt.toNat ≤ R.slots := Nat.le_trans z3 hR.2.2.2
              obtain ⟨a1, a2, a3, a4⟩ := ee_arr
              cases at' with
              | int =>
                refine va_newa (atype := .int) (ty := .int) (a0 := (z.toInt.toNat, .inl (fun _ => 0))) hx hb (hts _ a1) rfl hK hP hD hS hA (fun cA => rfl) zn zc (by show z.toInt.toNat * 4 ≤ _; omega) hcl hsl hd (fun q9 cA H1 hK1 hP1 hD1 hS1 => ?_)
                have hcA := ee_one hK1 (t := 0) rfl (fun _ q => by cases q)
                subst hcA
                exact k _ List.mem_cons_self ns (as ++ [q9]) H1 lc ls _ (ee_Con.born c1 c2 c3 c4 c5 c6w ⟨by decide, _, rfl, ee_el0⟩ hP1 hD1 hS1 hwl)
              | byte =>
                refine va_newa (atype := .byte) (ty := .byte) (a0 := (z.toInt.toNat, .inl (fun _ => 0))) hx hb (hts _ a2) rfl hK hP hD hS hA (fun cA => rfl) zn zc (by show z.toInt.toNat * 1 ≤ _; omega) hcl hsl hd (fun q9 cA H1 hK1 hP1 hD1 hS1 => ?_)
                have hcA := ee_one hK1 (t := 1) rfl (fun _ q => by cases q)
                subst hcA
                exact k _ List.mem_cons_self ns (as ++ [q9]) H1 lc ls _ (ee_Con.born c1 c2 c3 c4 c5 c6w ⟨by decide, _, rfl, ee_el0⟩ hP1 hD1 hS1 hwl)
              | boolean =>
                refine va_newa (atype := .boolean) (ty := .boolean) (a0 := (z.toInt.toNat, .inl (fun _ => 0))) hx hb (hts _ a3) rfl hK hP hD hS hA (fun cA => rfl) zn zc (by show z.toInt.toNat * 1 ≤ _; omega) hcl hsl hd (fun q9 cA H1 hK1 hP1 hD1 hS1 => ?_)
                have hcA := ee_one hK1 (t := 2) rfl (fun _ q => by cases q)
                subst hcA
                exact k _ List.mem_cons_self ns (as ++ [q9]) H1 lc ls _ (ee_Con.born c1 c2 c3 c4 c5 c6w ⟨by decide, _, rfl, ee_el0⟩ hP1 hD1 hS1 hwl)
              | long =>
                refine va_newa (atype := .long) (ty := .long) (a0 := (z.toInt.toNat, .inr (.inl (fun _ => 0)))) hx hb (hts _ a4) rfl hK hP hD hS hA (fun cA => rfl) zn zc (by show z.toInt.toNat * 8 ≤ _; omega) hcl hsl hd (fun q9 cA H1 hK1 hP1 hD1 hS1 => ?_)
                have hcA := ee_one hK1 (t := 3) rfl (fun _ q => by cases q)
                subst hcA
                exact k _ List.mem_cons_self ns (as ++ [q9]) H1 lc ls _ (ee_Con.born c1 c2 c3 c4 c5 c6w ⟨_, rfl⟩ hP1 hD1 hS1 hwl)
              | _ => exact absurd z4 (by decide)
            · rw [if_neg hc2] at h
              exact ee_no h
    | _ => exact ee_no h
  · rw [if_neg hc] at h
    exact ee_no h
def ee_h19 : ee_H := fun _ _ _ e st => match st with
  | (pc, lo, stk, w, iv, kc, ks, sv) => (match e.2.1 with
      | .getstatic _ => if e.2.2.2.2.2.1 = 0 then (match ee_ZL[e.2.2.2.2.1]? with
        | some q => ee_nx e.2.2.1 3 [(pc + 3, lo, (if q.2.2.1 = 0 then .int 1 else .float 0) :: stk, w, iv, kc, ks, sv)]
        | none => none) else none
      | _ => none)
set_option maxHeartbeats 2000000 in
theorem ee_h19.snd : ee_Snd ee_h19 := by
  intro X Y oc own cc ini dm bc bs Q e st sts F ho hi hd he hpc h k
  obtain ⟨p, l, en, R, s, m, args, below, meth, c⟩ := X
  obtain ⟨A, D, dA, ex, x0, sv0, nL⟩ := Y
  obtain ⟨pc, lo, stk, w, iv, kc, ks, sv⟩ := st
  obtain ⟨pc', ins, len, hn, ea, eb, ez⟩ := e
  obtain ⟨hx, hb, hml, hown, hts, hK, hA, hini, hR, hE⟩ := F
  have hpc : pc = pc' := hpc
  subst hpc
  have hd : decode cc pc = .ok (ins, len) := hd
  intro ns as H lc ls vs C
  obtain ⟨c1, c2, c3, c4, c5, c6⟩ := C
  show W p l en R s m args below meth c H lc kc ks Q (F0 m pc ls vs)
  cases ins with
  | getstatic i =>
    replace h : (if eb = 0 then (match ee_ZL[ea]? with
        | some q => ee_nx len 3 [(pc + 3, lo, (if q.2.2.1 = 0 then .int 1 else .float 0) :: stk, w, iv, kc, ks, sv)]
        | none => none) else none) = some sts := h
    have hee : (if eb = 0 then (match ee_ZL[ea]? with
        | some q => decide (q.1 = oc) && decide (q.2.1 = i)
        | none => false) else true) = true := he
    by_cases h0 : eb = 0
    · rw [if_pos h0] at h hee
      cases hq : ee_ZL[ea]? with
      | none => rw [hq] at hee; cases hee
      | some q =>
        rw [hq] at h hee
        simp only at h hee
        obtain ⟨e1, e2⟩ := ee_and hee
        have e1 := of_decide_eq_true e1
        have e2 := of_decide_eq_true e2
        have f3 := ee_ZLok q (List.mem_of_getElem? hq)
        rw [e1, ee_own_ow ho, e2] at f3
        obtain ⟨rfl, rfl⟩ := ee_nx_some h
        obtain ⟨ws, c6w, hP, hD, hS⟩ := c6
        by_cases hz : q.2.2.1 = 0
        · rw [if_pos hz] at k
          rw [hz] at f3
          exact va_gets hx hb hE.2.2.1 hS hown (hts _ f3) (fun _ z => z) hd (k _ List.mem_cons_self ns as H lc ls _ ⟨c1, c2, c3, ⟨rfl, c4⟩, c5, ws, c6w, hP, hD, hS⟩)
        · rw [if_neg hz] at k
          rw [show ee_zf q.2.2.1 = ("jdk/internal/util/Preconditions", "SIOOBE_FORMATTER", "Ljava/util/function/BiFunction;") by unfold ee_zf; rw [if_neg hz]] at f3
          rcases hE.2.2.2.1 with g | ⟨t, g⟩
          · exact va_gets hx hb g hS hown (hts _ f3) (fun _ z => z) hd (k _ List.mem_cons_self ns as H lc ls _ ⟨c1, c2, c3, ⟨Or.inl rfl, c4⟩, c5, ws, c6w, hP, hD, hS⟩)
          · exact va_gets hx hb g hS hown (hts _ f3) (fun _ z => z) hd (k _ List.mem_cons_self ns as H lc ls _ ⟨c1, c2, c3, ⟨Or.inr ⟨t, rfl⟩, c4⟩, c5, ws, c6w, hP, hD, hS⟩)
    · rw [if_neg h0] at h
      exact ee_no h
  | _ => exact ee_no h
end
section
/-! the handler of Object's constructor and of arraycopy -/
def ee_cpl (a b : Int) (ov : List (Nat × Value)) (sp dp : Nat) : Nat → Option (List (Nat × Value))
  | 0 => some []
  | n + 1 => match ee_rd a b ov (sp + n), ee_cpl a b ov sp dp n with
    | some x, some l => some ((dp + n, x) :: l)
    | _, _ => none
theorem ee_cpl.out {a b : Int} {ov : List (Nat × Value)} {sp dp : Nat} : ∀ {n : Nat} {l : List (Nat × Value)} {j : Nat}, ee_cpl a b ov sp dp n = some l → (j < dp ∨ dp + n ≤ j) → l.lookup j = none
  | 0, l, j, h, _ => by cases h; rfl
  | n + 1, l, j, h, hj => by
    unfold ee_cpl at h
    split at h
    · rename_i x l' h1 h2
      cases h
      rw [List.lookup_cons]
      have e : (j == dp + n) = false := by simp; omega
      rw [e]
      exact ee_cpl.out h2 (by omega)
    · cases h
theorem ee_cpl.in {a b : Int} {ov : List (Nat × Value)} {sp dp : Nat} : ∀ {n : Nat} {l : List (Nat × Value)} {j : Nat}, ee_cpl a b ov sp dp n = some l → dp ≤ j → j < dp + n → ∃ x, l.lookup j = some x ∧ ee_rd a b ov (sp + (j - dp)) = some x
  | 0, l, j, h, h1, h2 => by omega
  | n + 1, l, j, h, h3, h4 => by
    unfold ee_cpl at h
    split at h
    · rename_i x l' h1 h2
      cases h
      rw [List.lookup_cons]
      by_cases e : j = dp + n
      · subst e
        simp only [beq_self_eq_true]
        exact ⟨x, rfl, by rw [show dp + n - dp = n by omega]; exact h1⟩
      · have e' : (j == dp + n) = false := by simpa using e
        rw [e']
        exact ee_cpl.in h2 h3 (by omega)
    · cases h
theorem ee_lookup_app {α : Type} {l r : List (Nat × α)} {j : Nat} : (l ++ r).lookup j = match l.lookup j with
    | some x => some x
    | none => r.lookup j := by
  induction l with
  | nil => rfl
  | cons p l ih =>
    obtain ⟨i, x⟩ := p
    rw [List.cons_append, List.lookup_cons, List.lookup_cons]
    cases h : j == i with
    | true => rfl
    | false => exact ih
theorem ee_cpl.ok {ns : List Int32} {as : List Nat} {ex : Nat → Nat} {a b a2 b2 : Int} {ov ov2 l : List (Nat × Value)} {sp dp n n0 n1 : Nat} {f g : Nat → Int32} (h : ee_cpl a b ov sp dp n = some l) (hf : ∀ j, j < n0 → ee_el ns as ex a b ov j (f j)) (hg : ∀ j, j < n1 → ee_el ns as ex a2 b2 ov2 j (g j)) (h4 : sp + n ≤ n0) : ∀ j, j < n1 → ee_el ns as ex a2 b2 (l ++ ov2) j (va_cpy f g sp dp n j) := by
  intro j hj
  unfold ee_el
  rw [ee_lookup_app]
  by_cases hc : dp ≤ j ∧ j < dp + n
  · obtain ⟨x, e1, e2⟩ := ee_cpl.in h hc.1 hc.2
    rw [e1]
    simp only
    rw [pk_cpy_in hc.1 hc.2]
    exact ee_rd.ok (hf _ (by omega)) e2
  · rw [ee_cpl.out h (by omega)]
    simp only
    rw [pk_cpy_out (by omega)]
    exact hg j hj
def ee_a5 (stk : List Value) : Option (Value × Value × Nat × Value × Nat × List Value) := match stk with
  | n :: dp :: .ref b :: sp :: .ref a :: r => some (n, dp, b, sp, a, r)
  | _ => none
theorem ee_a5.ok {stk r : List Value} {n dp sp : Value} {a b : Nat} (h : ee_a5 stk = some (n, dp, b, sp, a, r)) : stk = n :: dp :: .ref b :: sp :: .ref a :: r := by
  unfold ee_a5 at h
  split at h
  · cases h
    rfl
  · cases h
theorem ee_all.cons {α β : Type} {R : α → β → Prop} {a : α} {l : List α} {k : List β} (h : ee_all R (a :: l) k) : ∃ b k', k = b :: k' ∧ R a b ∧ ee_all R l k' := by
  cases k with
  | nil => exact h.elim
  | cons b k => exact ⟨b, k, rfl, h.1, h.2⟩
def ee_h20 : ee_H := fun _ _ _ e st => match st with
  | (pc, lo, stk, w, iv, kc, ks, sv) => (match e.2.1 with
      | .invokespecial _ => (match stk with
        | .ref _ :: stk => if e.2.2.2.2.2.1 = 1 ∧ (stk.map ee_cat).sum ≤ 8 then ee_nx e.2.2.1 3 [(pc + 3, lo, stk, w, iv, kc, ks, sv)] else none
        | _ => none)
      | .invokestatic _ => (match ee_a5 stk with
        | some (n, dp, b, sp, a, stk) => if (e.2.2.2.2.2.1 = 2 ∧ (stk.map ee_cat).sum ≤ 8) ∧ a < 1000000 ∧ b < 1000000 then (match w[a]?, w[b]? with
          | some (.inr (t0, n0, a0, b0, ov0)), some (.inr (t1, n1, a1, b1, ov1)) => (match ee_ix iv n (n0 + 1), ee_ix iv sp (n0 + 1), ee_ix iv dp (n1 + 1) with
            | some cn, some cs, some cd => if (t0 = 0 ∧ t1 = 0) ∧ cs + cn ≤ n0 ∧ cd + cn ≤ n1 then (match ee_cpl a0 b0 ov0 cs cd cn with
              | some l => ee_nx e.2.2.1 3 [(pc + 3, lo, stk, w.set b (.inr (t1, n1, a1, b1, l ++ ov1)), iv, kc, ks, sv)]
              | none => none) else none
            | _, _, _ => none)
          | _, _ => none) else none
        | none => none)
      | _ => none)
theorem ee_cats {ns : List Int32} {as : List Nat} {ex : Nat → Nat} : ∀ {stk vs : List Value}, ee_all (ee_v ns as ex) stk vs → (vs.map fun v => v.category) = stk.map ee_cat
  | [], [], _ => rfl
  | x :: stk, v :: vs, h => by
    rw [List.map_cons, List.map_cons, ee_cats h.2, h.1.cat]
  | [], _ :: _, h => h.elim
  | _ :: _, [], h => h.elim
set_option maxHeartbeats 2000000 in
theorem ee_h20.snd : ee_Snd ee_h20 := by
  intro X Y oc own cc ini dm bc bs Q e st sts F ho hi hd he hpc h k
  obtain ⟨p, l, en, R, s, m, args, below, meth, c⟩ := X
  obtain ⟨A, D, dA, ex, x0, sv0, nL⟩ := Y
  obtain ⟨pc, lo, stk, w, iv, kc, ks, sv⟩ := st
  obtain ⟨pc', ins, len, hn, ea, eb, ez⟩ := e
  obtain ⟨hx, hb, hml, hown, hts, hK, hA, hini, hR, hE⟩ := F
  have hpc : pc = pc' := hpc
  subst hpc
  have hd : decode cc pc = .ok (ins, len) := hd
  intro ns as H lc ls vs C
  obtain ⟨c1, c2, c3, c4, c5, c6⟩ := C
  show W p l en R s m args below meth c H lc kc ks Q (F0 m pc ls vs)
  cases ins with
  | invokespecial i =>
    cases stk with
    | nil => exact ee_no h
    | cons x stk =>
      cases vs with
      | nil => exact c4.elim
      | cons v vs =>
        obtain ⟨c4v, c4⟩ := c4
        cases x with
        | ref j =>
          obtain ⟨a, rfl⟩ := ee_v.ref c4v
          replace h : (if eb = 1 ∧ (stk.map ee_cat).sum ≤ 8 then ee_nx len 3 [(pc + 3, lo, stk, w, iv, kc, ks, sv)] else none) = some sts := h
          have hee : (if eb = 0 then (match ee_CL[ea]? with
            | some q => decide (q.1 = oc) && (decide (q.2.1 = i) && decide (q.2.2.2.1 = 2))
            | none => false) else if eb = 1 then (match ee_OL[ea]? with
            | some q => decide (q.1 = oc) && decide (q.2.1 = i)
            | none => false) else true) = true := he
          by_cases hc : eb = 1 ∧ (stk.map ee_cat).sum ≤ 8
          · rw [if_pos hc] at h
            obtain ⟨rfl, rfl⟩ := ee_nx_some h
            rw [if_neg (by omega), if_pos hc.1] at hee
            cases hq : ee_OL[ea]? with
            | none => rw [hq] at hee; cases hee
            | some q =>
              rw [hq] at hee
              obtain ⟨e1, e2⟩ := ee_and hee
              have e1 := of_decide_eq_true e1
              have e2 := of_decide_eq_true e2
              have hm := ee_OLok q (List.mem_of_getElem? hq)
              rw [e1, ee_own_ow ho, e2] at hm
              obtain ⟨lv, c3, c3l⟩ := c3
              refine W.objInit hx hb hown (hts _ hm) (hts _ ee_obj.1) (hts _ ee_obj.2) rfl (by rw [hml]; exact c3.1) rfl hd (by omega) ?_ (k _ List.mem_cons_self ns as H lc ls _ ⟨c1, c2, ⟨lv, c3, c3l⟩, c4, c5, c6⟩)
              have hs := hc.2
              rw [← ee_cats c4] at hs
              have := lv_room (m := m) (pc := pc) (ls := ls) (rest := Value.ref a :: vs) hs
              omega
          · rw [if_neg hc] at h
            exact ee_no h
        | _ => exact ee_no h
  | invokestatic i =>
    replace h : (match ee_a5 stk with
        | some (n, dp, b, sp, a, stk) => if (eb = 2 ∧ (stk.map ee_cat).sum ≤ 8) ∧ a < 1000000 ∧ b < 1000000 then (match w[a]?, w[b]? with
          | some (.inr (t0, n0, a0, b0, ov0)), some (.inr (t1, n1, a1, b1, ov1)) => (match ee_ix iv n (n0 + 1), ee_ix iv sp (n0 + 1), ee_ix iv dp (n1 + 1) with
            | some cn, some cs, some cd => if (t0 = 0 ∧ t1 = 0) ∧ cs + cn ≤ n0 ∧ cd + cn ≤ n1 then (match ee_cpl a0 b0 ov0 cs cd cn with
              | some l => ee_nx len 3 [(pc + 3, lo, stk, w.set b (.inr (t1, n1, a1, b1, l ++ ov1)), iv, kc, ks, sv)]
              | none => none) else none
            | _, _, _ => none)
          | _, _ => none) else none
        | none => none) = some sts := h
    cases h5 : ee_a5 stk with
    | none => rw [h5] at h; exact ee_no h
    | some t5 =>
      obtain ⟨n, dp, b, sp, a, stk2⟩ := t5
      rw [h5] at h
      simp only at h
      have e5 := ee_a5.ok h5
      subst e5
      obtain ⟨vn, vs1, rfl, cn0, c4a⟩ := c4.cons
      obtain ⟨vd, vs2, rfl, cd0, c4b⟩ := c4a.cons
      obtain ⟨vb, vs3, rfl, cb0, c4c⟩ := c4b.cons
      obtain ⟨vsp, vs4, rfl, cs0, c4d⟩ := c4c.cons
      obtain ⟨va, vs, rfl, ca0, c4e⟩ := c4d.cons
      obtain ⟨ab, rfl⟩ := ee_v.ref cb0
      obtain ⟨aa, rfl⟩ := ee_v.ref ca0
      have hee : (if eb = 0 then (match ee_CL[ea]? with
        | some q => decide (q.1 = oc) && (decide (q.2.1 = i) && decide (q.2.2.2.1 = 1))
        | none => false) else if eb = 2 then (match ee_AL[ea]? with
        | some q => decide (q.1 = oc) && decide (q.2.1 = i)
        | none => false) else if eb = 3 ∨ eb = 4 then (match ee_XL[ea]? with
        | some q => decide (q.1 = oc) && (decide (q.2.1 = i) && decide (q.2.2.1 = eb))
        | none => false) else true) = true := he
      by_cases hc : (eb = 2 ∧ (stk2.map ee_cat).sum ≤ 8) ∧ a < 1000000 ∧ b < 1000000
      · rw [if_pos hc] at h
        obtain ⟨⟨hc1, hc2⟩, hc3, hc4⟩ := hc
        rw [if_neg (by omega), if_pos hc1] at hee
        cases hq : ee_AL[ea]? with
        | none => rw [hq] at hee; cases hee
        | some q =>
          rw [hq] at hee
          obtain ⟨e1, e2⟩ := ee_and hee
          have e1 := of_decide_eq_true e1
          have e2 := of_decide_eq_true e2
          have hm := ee_ALok q (List.mem_of_getElem? hq)
          rw [e1, ee_own_ow ho, e2] at hm
          split at h
          · rename_i t0 n0 a0 b0 ov0 t1 n1 a1 b1 ov1 hw0 hw1
            split at h
            · rename_i xn xs xd hn1 hn2 hn3
              by_cases hc5 : (t0 = 0 ∧ t1 = 0) ∧ xs + xn ≤ n0 ∧ xd + xn ≤ n1
              · rw [if_pos hc5] at h
                obtain ⟨⟨rfl, rfl⟩, g5, g6⟩ := hc5
                cases hl : ee_cpl a0 b0 ov0 xs xd xn with
                | none => rw [hl] at h; exact ee_no h
                | some l =>
                  rw [hl] at h
                  obtain ⟨rfl, rfl⟩ := ee_nx_some h
                  obtain ⟨zn, rfl, f1, f2, f3⟩ := ee_ix.ok c1 cn0 hn1
                  obtain ⟨zs, rfl, f4, f5, f6⟩ := ee_ix.ok c1 cs0 hn2
                  obtain ⟨zd, rfl, f7, f8, f9⟩ := ee_ix.ok c1 cd0 hn3
                  obtain ⟨lv, c3, c3l⟩ := c3
                  obtain ⟨ws, c6w, hP, hD, hS⟩ := c6
                  obtain ⟨ec0, p1, p2⟩ := c6w.at hw0 (ca0.at hc3)
                  obtain ⟨ec1, p3, p4⟩ := c6w.at hw1 (cb0.at hc4)
                  obtain ⟨f, rfl, p5⟩ := p2.ints (by omega)
                  obtain ⟨g, rfl, p6⟩ := p4.ints (by omega)
                  subst f1
                  subst f4
                  subst f7
                  refine va_copyi hx hb (by rw [hml]; exact c3.1.symm) hown (hts _ hm) (hts _ ee_cpy.1) (hts _ ee_cpy.2.1) (hts _ ee_cpy.2.2) hK hP hD hS a b 0 0 p1 p3 rfl rfl rfl (fun z => f6 (Or.inl z)) (fun z => f9 (Or.inl z)) (fun z => f3 (Or.inl z)) g5 g6 (fun _ _ => rfl) (by omega) ?_ hd (fun H1 lc1 hP1 hD1 hS1 => k _ List.mem_cons_self ns as H1 lc1 ls _ ⟨c1, c2, ⟨lv, c3, c3l⟩, c4e, c5, _, c6w.set p3 ⟨by omega, _, rfl, ee_cpl.ok hl p5 p6 g5⟩, hP1, hD1, hS1⟩)
                  rw [ee_cats c4e]
                  have : nativeFrameWords "java/lang/System" "arraycopy" 5 = 7 := by decide +kernel
                  omega
              · rw [if_neg hc5] at h
                exact ee_no h
            · exact ee_no h
          · exact ee_no h
      · rw [if_neg hc] at h
        exact ee_no h
  | _ => exact ee_no h
end
section
/-! the handler of Math.min and Math.max -/
def ee_mm (k : Nat) (x y : Int32) : Int32 := if k = 3 then (if y < x then y else x) else (if x < y then y else x)
def ee_mb (k : Nat) (a b d e : Int) : Int × Int := if k = 3 then (ee_mn a d, ee_mn b e) else (ee_mx a d, ee_mx b e)
theorem ee_mb.ok {k : Nat} {a b d e : Int} {x y : Int32} (h1 : a ≤ x.toInt) (h2 : x.toInt ≤ b) (h3 : d ≤ y.toInt) (h4 : y.toInt ≤ e) : (ee_mb k a b d e).1 ≤ (ee_mm k x y).toInt ∧ (ee_mm k x y).toInt ≤ (ee_mb k a b d e).2 := by
  unfold ee_mb ee_mm ee_mn ee_mx
  by_cases hk : k = 3
  · rw [if_pos hk, if_pos hk]
    by_cases hc : y < x
    · rw [if_pos hc]
      have := (ee_lt y x).mp hc
      refine ⟨?_, ?_⟩
      · show (if a ≤ d then a else d) ≤ y.toInt
        split <;> omega
      · show y.toInt ≤ (if b ≤ e then b else e)
        split <;> omega
    · rw [if_neg hc]
      have : ¬ y.toInt < x.toInt := fun q => hc ((ee_lt y x).mpr q)
      refine ⟨?_, ?_⟩
      · show (if a ≤ d then a else d) ≤ x.toInt
        split <;> omega
      · show x.toInt ≤ (if b ≤ e then b else e)
        split <;> omega
  · rw [if_neg hk, if_neg hk]
    by_cases hc : x < y
    · rw [if_pos hc]
      have := (ee_lt x y).mp hc
      refine ⟨?_, ?_⟩
      · show (if a ≤ d then d else a) ≤ y.toInt
        split <;> omega
      · show y.toInt ≤ (if b ≤ e then e else b)
        split <;> omega
    · rw [if_neg hc]
      have : ¬ x.toInt < y.toInt := fun q => hc ((ee_lt x y).mpr q)
      refine ⟨?_, ?_⟩
      · show (if a ≤ d then d else a) ≤ x.toInt
        split <;> omega
      · show x.toInt ≤ (if b ≤ e then e else b)
        split <;> omega
def ee_h24 : ee_H := fun _ bc bs e st => match st with
  | (pc, lo, y :: x :: stk, w, iv, kc, ks, sv) => (match e.2.1 with
      | .invokestatic _ => if ((e.2.2.2.2.2.1 = 3 ∨ e.2.2.2.2.2.1 = 4) ∧ (stk.map ee_cat).sum ≤ 8) ∧ kc ≤ bc ∧ ks ≤ bs then (match ee_cn iv x, ee_cn iv y with
        | some a, some b => ee_nx e.2.2.1 3 [(pc + 3, lo, .int (ee_mm e.2.2.2.2.2.1 a b) :: stk, w, iv, kc, ks, sv)]
        | _, _ => (match ee_it iv x, ee_it iv y with
          | some (a, b), some (d, u) => ee_nx e.2.2.1 3 [(pc + 3, lo, .retAddr iv.length :: stk, w, iv ++ [((ee_mb e.2.2.2.2.2.1 a b d u).1, (ee_mb e.2.2.2.2.2.1 a b d u).2, none)], kc, ks, sv)]
          | _, _ => none)) else none
      | _ => none)
  | _ => none
set_option maxHeartbeats 2000000 in
theorem ee_h24.snd : ee_Snd ee_h24 := by
  intro X Y oc own cc ini dm bc bs Q e st sts F ho hi hd he hpc h k
  obtain ⟨p, l, en, R, s, m, args, below, meth, c⟩ := X
  obtain ⟨A, D, dA, ex, x0, sv0, nL⟩ := Y
  obtain ⟨pc, lo, stk, w, iv, kc, ks, sv⟩ := st
  obtain ⟨pc', ins, len, hn, ea, eb, ez⟩ := e
  obtain ⟨hx, hb, hml, hown, hts, hK, hA, hini, hR, hE⟩ := F
  have hpc : pc = pc' := hpc
  subst hpc
  have hd : decode cc pc = .ok (ins, len) := hd
  intro ns as H lc ls vs C
  obtain ⟨c1, c2, c3, c4, c5, c6⟩ := C
  show W p l en R s m args below meth c H lc kc ks Q (F0 m pc ls vs)
  match stk, vs, c4, h with
  | [], _, _, h => exact ee_no h
  | [_], _, _, h => exact ee_no h
  | y :: x :: stk, [], c4, h => exact c4.elim
  | y :: x :: stk, [_], c4, h => exact c4.2.elim
  | y :: x :: stk, vy :: vx :: vs, ⟨cy, cx, c4⟩, h =>
    cases ins with
    | invokestatic i =>
      replace h : (if ((eb = 3 ∨ eb = 4) ∧ (stk.map ee_cat).sum ≤ 8) ∧ kc ≤ bc ∧ ks ≤ bs then (match ee_cn iv x, ee_cn iv y with
        | some a, some b => ee_nx len 3 [(pc + 3, lo, .int (ee_mm eb a b) :: stk, w, iv, kc, ks, sv)]
        | _, _ => (match ee_it iv x, ee_it iv y with
          | some (a, b), some (d, u) => ee_nx len 3 [(pc + 3, lo, .retAddr iv.length :: stk, w, iv ++ [((ee_mb eb a b d u).1, (ee_mb eb a b d u).2, none)], kc, ks, sv)]
          | _, _ => none)) else none) = some sts := h
      have hee : (if eb = 0 then (match ee_CL[ea]? with
        | some q => decide (q.1 = oc) && (decide (q.2.1 = i) && decide (q.2.2.2.1 = 1))
        | none => false) else if eb = 2 then (match ee_AL[ea]? with
        | some q => decide (q.1 = oc) && decide (q.2.1 = i)
        | none => false) else if eb = 3 ∨ eb = 4 then (match ee_XL[ea]? with
        | some q => decide (q.1 = oc) && (decide (q.2.1 = i) && decide (q.2.2.1 = eb))
        | none => false) else true) = true := he
      by_cases hc : ((eb = 3 ∨ eb = 4) ∧ (stk.map ee_cat).sum ≤ 8) ∧ kc ≤ bc ∧ ks ≤ bs
      · rw [if_pos hc] at h
        obtain ⟨⟨hc1, hc2⟩, hc3, hc4⟩ := hc
        rw [if_neg (by omega), if_neg (by omega), if_pos hc1] at hee
        cases hq : ee_XL[ea]? with
        | none => rw [hq] at hee; cases hee
        | some q =>
          rw [hq] at hee
          obtain ⟨e1, e2⟩ := ee_and hee
          obtain ⟨e2, e3⟩ := ee_and e2
          have e1 := of_decide_eq_true e1
          have e2 := of_decide_eq_true e2
          have e3 := of_decide_eq_true e3
          have hm := ee_XLok q (List.mem_of_getElem? hq)
          rw [e1, ee_own_ow ho, e2, e3] at hm
          have key : len = 3 ∧ ∃ a b : Int32, vx = .int a ∧ vy = .int b ∧ W p l en R s m args below meth c H lc kc ks Q (F0 m (pc + 3) ls (.int (ee_mm eb a b) :: vs)) := by
            split at h
            · rename_i a b h1 h2
              obtain ⟨rfl, rfl⟩ := ee_nx_some h
              exact ⟨rfl, a, b, ee_cn.int c1 cx h1, ee_cn.int c1 cy h2, k _ List.mem_cons_self ns as H lc ls _ ⟨c1, c2, c3, ⟨rfl, c4⟩, c5, c6⟩⟩
            · split at h
              · rename_i a b d u h1 h2
                obtain ⟨rfl, rfl⟩ := ee_nx_some h
                obtain ⟨za, rfl, z1, z2⟩ := ee_it.int c1 cx h1
                obtain ⟨zb, rfl, z3, z4⟩ := ee_it.int c1 cy h2
                have g := ee_mb.ok (k := eb) z1 z2 z3 z4
                obtain ⟨d1, d2, d3, d4, d5, d6⟩ := ee_Con.grow (s := s) (A := A) (D := D) (dA := dA) (ex := ex) (x0 := x0) (sv0 := sv0) (nL := nL) (lo := lo) (ls := ls) ⟨c1, c2, c3, c4, c5, c6⟩ g.1 g.2 (o := none) (fun _ _ q => by cases q)
                exact ⟨rfl, za, zb, rfl, rfl, k _ List.mem_cons_self _ as H lc ls _ ⟨d1, d2, d3, ⟨⟨_, c1.last _, rfl⟩, d4⟩, d5, d6⟩⟩
              · exact ee_no h
          obtain ⟨rfl, a, b, rfl, rfl, kk⟩ := key
          obtain ⟨lv, c3, c3l⟩ := c3
          have hl1 : (vs.map fun v => v.category).sum + 13 ≤ R.locals := by
            rw [ee_cats c4]
            omega
          rcases hc1 with rfl | rfl
          · exact va_mmin hx hb (by rw [hml]; exact c3.1.symm) hown (hts _ hm) (hts _ ee_math.1) (hts _ ee_math.2.2.2.2) (hts _ ee_math.2.1) (by omega) hl1 (Nat.le_trans hc3 hR.2.2.1) (Nat.le_trans hc4 hR.2.2.2) hd kk
          · exact va_mmax hx hb (by rw [hml]; exact c3.1.symm) hown (hts _ hm) (hts _ ee_math.2.2.1) (hts _ ee_math.2.2.2.2) (hts _ ee_math.2.2.2.1) (by omega) hl1 (Nat.le_trans hc3 hR.2.2.1) (Nat.le_trans hc4 hR.2.2.2) hd kk
      · rw [if_neg hc] at h
        exact ee_no h
    | _ => exact ee_no h
end
section
/-- a method: number of its file, name, code, locals, what it returns, its code as entries, cells and slots that it makes -/
abbrev ee_me : Type := Nat × MethodName × ByteArray × Nat × Option FieldType × List ee_en × Nat × Nat
/-- the entries of a method are what its bytes say -/
def ee_eb (oc : Nat) (cc : ByteArray) (b : Bool) (e : ee_en) : Bool := decide (decode cc e.1 = .ok (e.2.1, e.2.2.1)) && (ee_eok oc e && (!ee_ini e || b))
def ee_Mb (M : ee_me) : Bool := decide (ee_own[M.1]? = some M.2.1.cls) && M.2.2.2.2.2.1.all (ee_eb M.1 M.2.2.1 (decide (M.2.1.name = "<init>")))
def ee_Mok (M : ee_me) : Prop := ee_own[M.1]? = some M.2.1.cls ∧ ∀ e ∈ M.2.2.2.2.2.1, decode M.2.2.1 e.1 = .ok (e.2.1, e.2.2.1) ∧ ee_eok M.1 e = true ∧ (ee_ini e = true → M.2.1.name = "<init>")
theorem ee_Mb.ok {M : ee_me} (h : ee_Mb M = true) : ee_Mok M := by
  obtain ⟨h1, h2⟩ := Bool.and_eq_true_iff.mp h
  refine ⟨of_decide_eq_true h1, fun e he => ?_⟩
  obtain ⟨g1, g2⟩ := Bool.and_eq_true_iff.mp (List.all_eq_true.mp h2 e he)
  obtain ⟨g2, g3⟩ := Bool.and_eq_true_iff.mp g2
  refine ⟨of_decide_eq_true g1, g2, fun hi => ?_⟩
  rw [hi] at g3
  exact of_decide_eq_true (by simpa using g3)

/- 0: PepperTables.<init>()V -/
def ee_T0 : List ee_en := [(0, .aload_n 0, 1, 3, 0, 0, 0), (1, .invokespecial 1, 3, 20, 0, 1, 0), (4, .aload_n 0, 1, 3, 0, 0, 0), (5, .new 7, 3, 18, 0, 0, 0), (8, .dup, 1, 11, 0, 0, 0), (9, .invokespecial 9, 3, 23, 0, 0, 0), (12, .putfield 10, 3, 15, 0, 0, 0), (15, .aload_n 0, 1, 3, 0, 0, 0), (16, .new 16, 3, 18, 1, 0, 0), (19, .dup, 1, 11, 0, 0, 0), (20, .invokespecial 18, 3, 23, 1, 0, 0), (23, .putfield 19, 3, 15, 1, 0, 0), (26, .aload_n 0, 1, 3, 0, 0, 0), (27, .new 23, 3, 18, 2, 0, 0), (30, .dup, 1, 11, 0, 0, 0), (31, .invokespecial 25, 3, 23, 2, 0, 0), (34, .putfield 26, 3, 15, 2, 0, 0), (37, .aload_n 0, 1, 3, 0, 0, 0), (38, .new 23, 3, 18, 2, 0, 0), (41, .dup, 1, 11, 0, 0, 0), (42, .invokespecial 25, 3, 23, 2, 0, 0), (45, .putfield 30, 3, 15, 3, 0, 0), (48, .aload_n 0, 1, 3, 0, 0, 0), (49, .new 33, 3, 18, 3, 0, 0), (52, .dup, 1, 11, 0, 0, 0), (53, .invokespecial 35, 3, 23, 3, 0, 0), (56, .putfield 36, 3, 15, 4, 0, 0), (59, .aload_n 0, 1, 3, 0, 0, 0), (60, .new 40, 3, 18, 4, 0, 0), (63, .dup, 1, 11, 0, 0, 0), (64, .invokespecial 42, 3, 23, 4, 0, 0), (67, .putfield 43, 3, 15, 5, 0, 0), (70, .aload_n 0, 1, 3, 0, 0, 0), (71, .new 47, 3, 18, 5, 0, 0), (74, .dup, 1, 11, 0, 0, 0), (75, .invokespecial 49, 3, 23, 5, 0, 0), (78, .putfield 50, 3, 15, 6, 0, 0), (81, .aload_n 0, 1, 3, 0, 0, 0), (82, .new 54, 3, 18, 6, 0, 0), (85, .dup, 1, 11, 0, 0, 0), (86, .invokespecial 56, 3, 23, 6, 0, 0), (89, .putfield 57, 3, 15, 7, 0, 0), (92, .aload_n 0, 1, 3, 0, 0, 0), (93, .new 61, 3, 18, 7, 0, 0), (96, .dup, 1, 11, 0, 0, 0), (97, .invokespecial 63, 3, 23, 7, 0, 0), (100, .putfield 64, 3, 15, 8, 0, 0), (103, .aload_n 0, 1, 3, 0, 0, 0), (104, .bipush 20, 2, 0, 0, 0, 0), (106, .newarray .int, 2, 18, 0, 0, 0), (108, .putfield 68, 3, 15, 9, 0, 0), (111, .aload_n 0, 1, 3, 0, 0, 0), (112, .iconst 4, 1, 0, 0, 0, 0), (113, .newarray .int, 2, 18, 0, 0, 0), (115, .putfield 72, 3, 15, 10, 0, 0), (118, .aload_n 0, 1, 3, 0, 0, 0), (119, .iconst 4, 1, 0, 0, 0, 0), (120, .newarray .int, 2, 18, 0, 0, 0), (122, .putfield 75, 3, 15, 11, 0, 0), (125, .return_, 1, 21, 0, 0, 0)]
/- 1: PepperTables.about(I)I -/
def ee_T1 : List ee_en := [(0, .iload_n 1, 1, 2, 0, 0, 0), (1, .tableswitch 218 0 15 #[79, 87, 95, 103, 111, 119, 127, 135, 143, 151, 159, 167, 175, 183, 191, 199], 79, 13, 0, 0, 0), (80, .aload_n 0, 1, 3, 0, 0, 0), (81, .getfield 19, 3, 14, 1, 0, 0), (84, .getfield 107, 3, 14, 12, 0, 0), (87, .ireturn, 1, 21, 0, 0, 0), (88, .aload_n 0, 1, 3, 0, 0, 0), (89, .getfield 19, 3, 14, 1, 0, 0), (92, .getfield 236, 3, 14, 13, 0, 0), (95, .ireturn, 1, 21, 0, 0, 0), (96, .aload_n 0, 1, 3, 0, 0, 0), (97, .getfield 19, 3, 14, 1, 0, 0), (100, .getfield 233, 3, 14, 14, 0, 0), (103, .ireturn, 1, 21, 0, 0, 0), (104, .aload_n 0, 1, 3, 0, 0, 0), (105, .getfield 26, 3, 14, 2, 0, 0), (108, .getfield 123, 3, 14, 15, 0, 0), (111, .ireturn, 1, 21, 0, 0, 0), (112, .aload_n 0, 1, 3, 0, 0, 0), (113, .getfield 26, 3, 14, 2, 0, 0), (116, .getfield 137, 3, 14, 16, 0, 0), (119, .ireturn, 1, 21, 0, 0, 0), (120, .aload_n 0, 1, 3, 0, 0, 0), (121, .getfield 26, 3, 14, 2, 0, 0), (124, .getfield 189, 3, 14, 17, 0, 0), (127, .ireturn, 1, 21, 0, 0, 0), (128, .aload_n 0, 1, 3, 0, 0, 0), (129, .getfield 26, 3, 14, 2, 0, 0), (132, .getfield 192, 3, 14, 18, 0, 0), (135, .ireturn, 1, 21, 0, 0, 0), (136, .aload_n 0, 1, 3, 0, 0, 0), (137, .getfield 43, 3, 14, 5, 0, 0), (140, .getfield 325, 3, 14, 19, 0, 0), (143, .ireturn, 1, 21, 0, 0, 0), (144, .aload_n 0, 1, 3, 0, 0, 0), (145, .getfield 43, 3, 14, 5, 0, 0), (148, .getfield 328, 3, 14, 20, 0, 0), (151, .ireturn, 1, 21, 0, 0, 0), (152, .aload_n 0, 1, 3, 0, 0, 0), (153, .getfield 64, 3, 14, 8, 0, 0), (156, .getfield 331, 3, 14, 21, 0, 0), (159, .ireturn, 1, 21, 0, 0, 0), (160, .aload_n 0, 1, 3, 0, 0, 0), (161, .getfield 64, 3, 14, 8, 0, 0), (164, .getfield 332, 3, 14, 22, 0, 0), (167, .ireturn, 1, 21, 0, 0, 0), (168, .aload_n 0, 1, 3, 0, 0, 0), (169, .getfield 10, 3, 14, 0, 0, 0), (172, .getfield 78, 3, 14, 23, 0, 0), (175, .ireturn, 1, 21, 0, 0, 0), (176, .aload_n 0, 1, 3, 0, 0, 0), (177, .getfield 19, 3, 14, 1, 0, 0), (180, .getfield 335, 3, 14, 24, 0, 0), (183, .ireturn, 1, 21, 0, 0, 0), (184, .aload_n 0, 1, 3, 0, 0, 0), (185, .getfield 57, 3, 14, 7, 0, 0), (188, .getfield 103, 3, 14, 25, 0, 0), (191, .ireturn, 1, 21, 0, 0, 0), (192, .aload_n 0, 1, 3, 0, 0, 0), (193, .getfield 19, 3, 14, 1, 0, 0), (196, .getfield 195, 3, 14, 26, 0, 0), (199, .ireturn, 1, 21, 0, 0, 0), (200, .aload_n 0, 1, 3, 0, 0, 0), (201, .getfield 19, 3, 14, 1, 0, 0), (204, .aload_n 0, 1, 3, 0, 0, 0), (205, .getfield 26, 3, 14, 2, 0, 0), (208, .aload_n 0, 1, 3, 0, 0, 0), (209, .getfield 19, 3, 14, 1, 0, 0), (212, .invokevirtual 126, 3, 23, 8, 0, 0), (215, .invokevirtual 162, 3, 23, 9, 0, 0), (218, .ireturn, 1, 21, 0, 0, 0), (219, .iconst (-1), 1, 0, 0, 0, 0), (220, .ireturn, 1, 21, 0, 0, 0)]
/- 2: PepperTables.after(I)I -/
def ee_T2 : List ee_en := [(0, .aload_n 0, 1, 3, 0, 0, 0), (1, .iload_n 1, 1, 2, 0, 0, 0), (2, .invokevirtual 186, 3, 23, 10, 0, 0), (5, .ifCond .eq 19, 3, 12, 0, 0, 0), (8, .aload_n 0, 1, 3, 0, 0, 0), (9, .aload_n 0, 1, 3, 0, 0, 0), (10, .getfield 26, 3, 14, 2, 0, 0), (13, .getfield 152, 3, 14, 27, 0, 0), (16, .iload_n 1, 1, 2, 0, 0, 0), (17, .iaload, 1, 22, 0, 0, 0), (18, .invokevirtual 155, 3, 23, 11, 0, 0), (21, .ifCond .ne 5, 3, 12, 0, 0, 0), (24, .iconst (-1), 1, 0, 0, 0, 0), (25, .ireturn, 1, 21, 0, 0, 0), (26, .aload_n 0, 1, 3, 0, 0, 0), (27, .getfield 30, 3, 14, 3, 0, 0), (30, .aload_n 0, 1, 3, 0, 0, 0), (31, .getfield 26, 3, 14, 2, 0, 0), (34, .invokevirtual 253, 3, 20, 0, 9, 0), (37, .iconst 1, 1, 0, 0, 0, 0), (38, .istore_n 2, 1, 4, 0, 0, 0), (39, .iload_n 2, 1, 2, 0, 0, 0), (40, .bipush 9, 2, 0, 0, 0, 0), (42, .if_icmp .gt 44, 3, 12, 0, 0, 0), (45, .aload_n 0, 1, 3, 0, 0, 0), (46, .getfield 36, 3, 14, 4, 0, 0), (49, .aload_n 0, 1, 3, 0, 0, 0), (50, .getfield 19, 3, 14, 1, 0, 0), (53, .aload_n 0, 1, 3, 0, 0, 0), (54, .getfield 30, 3, 14, 3, 0, 0), (57, .aload_n 0, 1, 3, 0, 0, 0), (58, .getfield 26, 3, 14, 2, 0, 0), (61, .getfield 152, 3, 14, 27, 0, 0), (64, .iload_n 1, 1, 2, 0, 0, 0), (65, .iaload, 1, 22, 0, 0, 0), (66, .invokevirtual 183, 3, 20, 0, 9, 0), (69, .istore_n 3, 1, 4, 0, 0, 0), (70, .iload_n 3, 1, 2, 0, 0, 0), (71, .iload_n 1, 1, 2, 0, 0, 0), (72, .ishr, 1, 7, 0, 0, 0), (73, .iconst 1, 1, 0, 0, 0, 0), (74, .iand, 1, 7, 0, 0, 0), (75, .ifCond .eq 5, 3, 12, 0, 0, 0), (78, .iload_n 2, 1, 2, 0, 0, 0), (79, .ireturn, 1, 21, 0, 0, 0), (80, .iinc 2 1, 3, 6, 0, 0, 0), (83, .goto (-44), 3, 0, 0, 0, 0), (86, .iconst (-1), 1, 0, 0, 0, 0), (87, .ireturn, 1, 21, 0, 0, 0)]
/- 3: PepperTables.ask(II)I -/
def ee_T3 : List ee_en := [(0, .iload_n 1, 1, 2, 0, 0, 0), (1, .invokestatic 209, 3, 23, 12, 0, 0), (4, .ifCond .eq 22, 3, 12, 0, 0, 0), (7, .aload_n 0, 1, 3, 0, 0, 0), (8, .getfield 64, 3, 14, 8, 0, 0), (11, .aload_n 0, 1, 3, 0, 0, 0), (12, .getfield 19, 3, 14, 1, 0, 0), (15, .aload_n 0, 1, 3, 0, 0, 0), (16, .getfield 36, 3, 14, 4, 0, 0), (19, .iload_n 2, 1, 2, 0, 0, 0), (20, .invokevirtual 307, 3, 23, 13, 0, 0), (23, .ifCond .ne 5, 3, 12, 0, 0, 0), (26, .iconst (-1), 1, 0, 0, 0, 0), (27, .ireturn, 1, 21, 0, 0, 0), (28, .iconst (-1), 1, 0, 0, 0, 0), (29, .istore_n 3, 1, 4, 0, 0, 0), (30, .bipush 37, 2, 0, 0, 0, 0), (32, .istore 4, 2, 4, 0, 0, 0), (34, .iconst 0, 1, 0, 0, 0, 0), (35, .istore 5, 2, 4, 0, 0, 0), (37, .iload 5, 2, 2, 0, 0, 0), (39, .aload_n 0, 1, 3, 0, 0, 0), (40, .getfield 19, 3, 14, 1, 0, 0), (43, .getfield 233, 3, 14, 14, 0, 0), (46, .if_icmp .ge 34, 3, 12, 0, 0, 0), (49, .aload_n 0, 1, 3, 0, 0, 0), (50, .getfield 64, 3, 14, 8, 0, 0), (53, .iload 5, 2, 2, 0, 0, 0), (55, .invokevirtual 315, 3, 20, 0, 9, 0), (58, .istore 6, 2, 4, 0, 0, 0), (60, .iload 6, 2, 2, 0, 0, 0), (62, .iload 4, 2, 2, 0, 0, 0), (64, .if_icmp .ge 10, 3, 12, 0, 0, 0), (67, .iload 5, 2, 2, 0, 0, 0), (69, .istore_n 3, 1, 4, 0, 0, 0), (70, .iload 6, 2, 2, 0, 0, 0), (72, .istore 4, 2, 4, 0, 0, 0), (74, .iinc 5 1, 3, 6, 0, 0, 0), (77, .goto (-40), 3, 0, 0, 0, 0), (80, .iload_n 3, 1, 2, 0, 0, 0), (81, .iconst (-1), 1, 0, 0, 0, 0), (82, .if_icmp .ne 5, 3, 12, 0, 0, 0), (85, .iconst (-1), 1, 0, 0, 0, 0), (86, .ireturn, 1, 21, 0, 0, 0), (87, .iload_n 1, 1, 2, 0, 0, 0), (88, .ifCond .ne 7, 3, 12, 0, 0, 0), (91, .iload_n 3, 1, 2, 0, 0, 0), (92, .goto 5, 3, 0, 0, 0, 0), (95, .iload 4, 2, 2, 0, 0, 0), (97, .ireturn, 1, 21, 0, 0, 0)]
/- 4: PepperTables.back(I)I -/
def ee_T4 : List ee_en := [(0, .aload_n 0, 1, 3, 0, 0, 0), (1, .getfield 50, 3, 14, 6, 0, 0), (4, .iload_n 1, 1, 2, 0, 0, 0), (5, .aload_n 0, 1, 3, 0, 0, 0), (6, .getfield 26, 3, 14, 2, 0, 0), (9, .invokevirtual 322, 3, 23, 14, 0, 0), (12, .ifCond .ne 5, 3, 12, 0, 0, 0), (15, .iconst (-1), 1, 0, 0, 0, 0), (16, .ireturn, 1, 21, 0, 0, 0), (17, .aload_n 0, 1, 3, 0, 0, 0), (18, .getfield 43, 3, 14, 5, 0, 0), (21, .aload_n 0, 1, 3, 0, 0, 0), (22, .getfield 26, 3, 14, 2, 0, 0), (25, .invokevirtual 97, 3, 23, 15, 0, 0), (28, .aload_n 0, 1, 3, 0, 0, 0), (29, .getfield 26, 3, 14, 2, 0, 0), (32, .getfield 189, 3, 14, 17, 0, 0), (35, .ireturn, 1, 21, 0, 0, 0)]
/- 5: PepperTables.blend(II)I -/
def ee_T5 : List ee_en := [(0, .aload_n 0, 1, 3, 0, 0, 0), (1, .iload_n 1, 1, 2, 0, 0, 0), (2, .invokevirtual 155, 3, 23, 11, 0, 0), (5, .ifCond .eq 16, 3, 12, 0, 0, 0), (8, .aload_n 0, 1, 3, 0, 0, 0), (9, .iload_n 2, 1, 2, 0, 0, 0), (10, .invokevirtual 155, 3, 23, 11, 0, 0), (13, .ifCond .eq 8, 3, 12, 0, 0, 0), (16, .iload_n 1, 1, 2, 0, 0, 0), (17, .iload_n 2, 1, 2, 0, 0, 0), (18, .if_icmp .ne 5, 3, 12, 0, 0, 0), (21, .iconst (-1), 1, 0, 0, 0, 0), (22, .ireturn, 1, 21, 0, 0, 0), (23, .aload_n 0, 1, 3, 0, 0, 0), (24, .getfield 26, 3, 14, 2, 0, 0), (27, .aload_n 0, 1, 3, 0, 0, 0), (28, .getfield 19, 3, 14, 1, 0, 0), (31, .iload_n 2, 1, 2, 0, 0, 0), (32, .invokevirtual 158, 3, 20, 0, 9, 0), (35, .istore_n 3, 1, 4, 0, 0, 0), (36, .aload_n 0, 1, 3, 0, 0, 0), (37, .getfield 30, 3, 14, 3, 0, 0), (40, .aload_n 0, 1, 3, 0, 0, 0), (41, .getfield 26, 3, 14, 2, 0, 0), (44, .invokevirtual 253, 3, 20, 0, 9, 0), (47, .iconst 0, 1, 0, 0, 0, 0), (48, .istore 4, 2, 4, 0, 0, 0), (50, .iload 4, 2, 2, 0, 0, 0), (52, .aload_n 0, 1, 3, 0, 0, 0), (53, .getfield 19, 3, 14, 1, 0, 0), (56, .getfield 107, 3, 14, 12, 0, 0), (59, .if_icmp .ge 29, 3, 12, 0, 0, 0), (62, .iload_n 3, 1, 2, 0, 0, 0), (63, .iload 4, 2, 2, 0, 0, 0), (65, .ishr, 1, 7, 0, 0, 0), (66, .iconst 1, 1, 0, 0, 0, 0), (67, .iand, 1, 7, 0, 0, 0), (68, .ifCond .eq 14, 3, 12, 0, 0, 0), (71, .aload_n 0, 1, 3, 0, 0, 0), (72, .getfield 30, 3, 14, 3, 0, 0), (75, .getfield 152, 3, 14, 27, 0, 0), (78, .iload 4, 2, 2, 0, 0, 0), (80, .iload_n 1, 1, 2, 0, 0, 0), (81, .iastore, 1, 17, 0, 0, 0), (82, .iinc 4 1, 3, 6, 0, 0, 0), (85, .goto (-35), 3, 0, 0, 0, 0), (88, .aload_n 0, 1, 3, 0, 0, 0), (89, .getfield 36, 3, 14, 4, 0, 0), (92, .aload_n 0, 1, 3, 0, 0, 0), (93, .getfield 19, 3, 14, 1, 0, 0), (96, .aload_n 0, 1, 3, 0, 0, 0), (97, .getfield 30, 3, 14, 3, 0, 0), (100, .iload_n 1, 1, 2, 0, 0, 0), (101, .invokevirtual 168, 3, 20, 0, 9, 0), (104, .invokestatic 178, 3, 23, 16, 0, 0), (107, .ireturn, 1, 21, 0, 0, 0)]
/- 6: PepperTables.closest()I -/
def ee_T6 : List ee_en := [(0, .iconst (-1), 1, 0, 0, 0, 0), (1, .istore_n 1, 1, 4, 0, 0, 0), (2, .iconst (-1), 1, 0, 0, 0, 0), (3, .istore_n 2, 1, 4, 0, 0, 0), (4, .iconst 0, 1, 0, 0, 0, 0), (5, .istore_n 3, 1, 4, 0, 0, 0), (6, .iload_n 3, 1, 2, 0, 0, 0), (7, .aload_n 0, 1, 3, 0, 0, 0), (8, .getfield 19, 3, 14, 1, 0, 0), (11, .getfield 236, 3, 14, 13, 0, 0), (14, .if_icmp .ge 45, 3, 12, 0, 0, 0), (17, .aload_n 0, 1, 3, 0, 0, 0), (18, .getfield 26, 3, 14, 2, 0, 0), (21, .aload_n 0, 1, 3, 0, 0, 0), (22, .getfield 19, 3, 14, 1, 0, 0), (25, .invokevirtual 126, 3, 23, 8, 0, 0), (28, .aload_n 0, 1, 3, 0, 0, 0), (29, .getfield 19, 3, 14, 1, 0, 0), (32, .iload_n 3, 1, 2, 0, 0, 0), (33, .invokevirtual 130, 3, 20, 0, 9, 0), (36, .iand, 1, 7, 0, 0, 0), (37, .invokestatic 178, 3, 23, 16, 0, 0), (40, .istore 4, 2, 4, 0, 0, 0), (42, .iload 4, 2, 2, 0, 0, 0), (44, .iload_n 2, 1, 2, 0, 0, 0), (45, .if_icmp .le 8, 3, 12, 0, 0, 0), (48, .iload_n 3, 1, 2, 0, 0, 0), (49, .istore_n 1, 1, 4, 0, 0, 0), (50, .iload 4, 2, 2, 0, 0, 0), (52, .istore_n 2, 1, 4, 0, 0, 0), (53, .iinc 3 1, 3, 6, 0, 0, 0), (56, .goto (-50), 3, 0, 0, 0, 0), (59, .iload_n 1, 1, 2, 0, 0, 0), (60, .ireturn, 1, 21, 0, 0, 0)]
/- 7: PepperTables.commonDivisor(II)I -/
def ee_T7 : List ee_en := [(0, .iload_n 1, 1, 2, 0, 0, 0), (1, .istore_n 2, 1, 4, 0, 0, 0), (2, .iload_n 2, 1, 2, 0, 0, 0), (3, .iconst 1, 1, 0, 0, 0, 0), (4, .if_icmp .le 23, 3, 12, 0, 0, 0), (7, .iload_n 0, 1, 2, 0, 0, 0), (8, .iload_n 2, 1, 2, 0, 0, 0), (9, .irem, 1, 8, 0, 0, 0), (10, .ifCond .ne 11, 3, 12, 0, 0, 0), (13, .iload_n 1, 1, 2, 0, 0, 0), (14, .iload_n 2, 1, 2, 0, 0, 0), (15, .irem, 1, 8, 0, 0, 0), (16, .ifCond .ne 5, 3, 12, 0, 0, 0), (19, .iload_n 2, 1, 2, 0, 0, 0), (20, .ireturn, 1, 21, 0, 0, 0), (21, .iinc 2 (-1), 3, 6, 0, 0, 0), (24, .goto (-22), 3, 0, 0, 0, 0), (27, .iconst 1, 1, 0, 0, 0, 0), (28, .ireturn, 1, 21, 0, 0, 0)]
/- 8: PepperTables.course()I -/
def ee_T8 : List ee_en := [(0, .aload_n 0, 1, 3, 0, 0, 0), (1, .getfield 26, 3, 14, 2, 0, 0), (4, .getfield 189, 3, 14, 17, 0, 0), (7, .sipush 999, 3, 0, 0, 0, 0), (10, .if_icmp .lt 6, 3, 12, 0, 0, 0), (13, .bipush (-2), 2, 0, 0, 0, 0), (15, .ireturn, 1, 21, 0, 0, 0), (16, .aload_n 0, 1, 3, 0, 0, 0), (17, .getfield 26, 3, 14, 2, 0, 0), (20, .dup, 1, 11, 0, 0, 0), (21, .getfield 189, 3, 14, 17, 0, 0), (24, .iconst 1, 1, 0, 0, 0, 0), (25, .iadd, 1, 7, 0, 0, 0), (26, .putfield 189, 3, 15, 17, 0, 0), (29, .aload_n 0, 1, 3, 0, 0, 0), (30, .getfield 26, 3, 14, 2, 0, 0), (33, .aload_n 0, 1, 3, 0, 0, 0), (34, .getfield 26, 3, 14, 2, 0, 0), (37, .getfield 192, 3, 14, 18, 0, 0), (40, .sipush 137, 3, 0, 0, 0, 0), (43, .imul, 1, 7, 0, 0, 0), (44, .bipush 71, 2, 0, 0, 0, 0), (46, .iadd, 1, 7, 0, 0, 0), (47, .sipush 1000, 3, 0, 0, 0, 0), (50, .irem, 1, 8, 0, 0, 0), (51, .putfield 192, 3, 15, 18, 0, 0), (54, .iconst (-1), 1, 0, 0, 0, 0), (55, .istore_n 1, 1, 4, 0, 0, 0), (56, .aload_n 0, 1, 3, 0, 0, 0), (57, .getfield 26, 3, 14, 2, 0, 0), (60, .getfield 192, 3, 14, 18, 0, 0), (63, .bipush 100, 2, 0, 0, 0, 0), (65, .irem, 1, 8, 0, 0, 0), (66, .aload_n 0, 1, 3, 0, 0, 0), (67, .getfield 19, 3, 14, 1, 0, 0), (70, .getfield 195, 3, 14, 26, 0, 0), (73, .if_icmp .ge 8, 3, 12, 0, 0, 0), (76, .aload_n 0, 1, 3, 0, 0, 0), (77, .invokevirtual 198, 3, 23, 17, 0, 0), (80, .istore_n 1, 1, 4, 0, 0, 0), (81, .iload_n 1, 1, 2, 0, 0, 0), (82, .iconst (-1), 1, 0, 0, 0, 0), (83, .if_icmp .eq 18, 3, 12, 0, 0, 0), (86, .aload_n 0, 1, 3, 0, 0, 0), (87, .getfield 26, 3, 14, 2, 0, 0), (90, .dup, 1, 11, 0, 0, 0), (91, .getfield 137, 3, 14, 16, 0, 0), (94, .iconst 1, 1, 0, 0, 0, 0), (95, .iload_n 1, 1, 2, 0, 0, 0), (96, .ishl, 1, 7, 0, 0, 0), (97, .ior, 1, 7, 0, 0, 0), (98, .putfield 137, 3, 15, 16, 0, 0), (101, .aload_n 0, 1, 3, 0, 0, 0), (102, .getfield 43, 3, 14, 5, 0, 0), (105, .aload_n 0, 1, 3, 0, 0, 0), (106, .getfield 26, 3, 14, 2, 0, 0), (109, .invokevirtual 175, 3, 23, 18, 0, 0), (112, .iload_n 1, 1, 2, 0, 0, 0), (113, .ireturn, 1, 21, 0, 0, 0)]
def ee_M0 : List ee_me := [(8, ⟨"PepperTables", "<init>", "()V"⟩, prog_1_method_1_code, 1, none, ee_T0, 57, 3870), (8, ⟨"PepperTables", "about", "(I)I"⟩, prog_1_method_56_code, 2, (some .int), ee_T1, 0, 0), (8, ⟨"PepperTables", "after", "(I)I"⟩, prog_1_method_24_code, 4, (some .int), ee_T2, 0, 0), (8, ⟨"PepperTables", "ask", "(II)I"⟩, prog_1_method_53_code, 7, (some .int), ee_T3, 0, 0), (8, ⟨"PepperTables", "back", "(I)I"⟩, prog_1_method_55_code, 2, (some .int), ee_T4, 0, 0), (8, ⟨"PepperTables", "blend", "(II)I"⟩, prog_1_method_30_code, 5, (some .int), ee_T5, 0, 0), (8, ⟨"PepperTables", "closest", "()I"⟩, prog_1_method_40_code, 5, (some .int), ee_T6, 0, 0), (8, ⟨"PepperTables", "commonDivisor", "(II)I"⟩, prog_1_method_73_code, 3, (some .int), ee_T7, 0, 0), (8, ⟨"PepperTables", "course", "()I"⟩, prog_1_method_14_code, 2, (some .int), ee_T8, 0, 0)]
set_option maxRecDepth 100000 in
theorem ee_M0ok : ee_M0.all ee_Mb = true := by decide +kernel
end
section
/- 9: PepperTables.dupe()I -/
def ee_T9 : List ee_en := [(0, .iconst (-1), 1, 0, 0, 0, 0), (1, .istore_n 1, 1, 4, 0, 0, 0), (2, .iconst (-1), 1, 0, 0, 0, 0), (3, .istore_n 2, 1, 4, 0, 0, 0), (4, .iconst 0, 1, 0, 0, 0, 0), (5, .istore_n 3, 1, 4, 0, 0, 0), (6, .iload_n 3, 1, 2, 0, 0, 0), (7, .aload_n 0, 1, 3, 0, 0, 0), (8, .getfield 19, 3, 14, 1, 0, 0), (11, .getfield 236, 3, 14, 13, 0, 0), (14, .if_icmp .ge 49, 3, 12, 0, 0, 0), (17, .aload_n 0, 1, 3, 0, 0, 0), (18, .getfield 19, 3, 14, 1, 0, 0), (21, .aload_n 0, 1, 3, 0, 0, 0), (22, .getfield 26, 3, 14, 2, 0, 0), (25, .aload_n 0, 1, 3, 0, 0, 0), (26, .getfield 19, 3, 14, 1, 0, 0), (29, .invokevirtual 126, 3, 23, 8, 0, 0), (32, .aload_n 0, 1, 3, 0, 0, 0), (33, .getfield 19, 3, 14, 1, 0, 0), (36, .iload_n 3, 1, 2, 0, 0, 0), (37, .invokevirtual 134, 3, 20, 0, 9, 0), (40, .iand, 1, 7, 0, 0, 0), (41, .invokevirtual 162, 3, 23, 9, 0, 0), (44, .istore 4, 2, 4, 0, 0, 0), (46, .iload 4, 2, 2, 0, 0, 0), (48, .iload_n 2, 1, 2, 0, 0, 0), (49, .if_icmp .le 8, 3, 12, 0, 0, 0), (52, .iload_n 3, 1, 2, 0, 0, 0), (53, .istore_n 1, 1, 4, 0, 0, 0), (54, .iload 4, 2, 2, 0, 0, 0), (56, .istore_n 2, 1, 4, 0, 0, 0), (57, .iinc 3 1, 3, 6, 0, 0, 0), (60, .goto (-54), 3, 0, 0, 0, 0), (63, .iload_n 1, 1, 2, 0, 0, 0), (64, .ireturn, 1, 21, 0, 0, 0)]
/- 10: PepperTables.end(I)I -/
def ee_T10 : List ee_en := [(0, .iload_n 1, 1, 2, 0, 0, 0), (1, .ifCond .lt 14, 3, 12, 0, 0, 0), (4, .iload_n 1, 1, 2, 0, 0, 0), (5, .aload_n 0, 1, 3, 0, 0, 0), (6, .getfield 10, 3, 14, 0, 0, 0), (9, .getfield 78, 3, 14, 23, 0, 0), (12, .if_icmp .le 5, 3, 12, 0, 0, 0), (15, .iconst (-1), 1, 0, 0, 0, 0), (16, .ireturn, 1, 21, 0, 0, 0), (17, .aload_n 0, 1, 3, 0, 0, 0), (18, .getfield 10, 3, 14, 0, 0, 0), (21, .iload_n 1, 1, 2, 0, 0, 0), (22, .putfield 78, 3, 15, 23, 0, 0), (25, .iload_n 1, 1, 2, 0, 0, 0), (26, .ireturn, 1, 21, 0, 0, 0)]
/- 11: PepperTables.exchange(I)I -/
def ee_T11 : List ee_en := [(0, .iload_n 1, 1, 2, 0, 0, 0), (1, .ifCond .lt 8, 3, 12, 0, 0, 0), (4, .iload_n 1, 1, 2, 0, 0, 0), (5, .iconst 2, 1, 0, 0, 0, 0), (6, .if_icmp .le 5, 3, 12, 0, 0, 0), (9, .iconst (-1), 1, 0, 0, 0, 0), (10, .ireturn, 1, 21, 0, 0, 0), (11, .aload_n 0, 1, 3, 0, 0, 0), (12, .getfield 36, 3, 14, 4, 0, 0), (15, .aload_n 0, 1, 3, 0, 0, 0), (16, .getfield 19, 3, 14, 1, 0, 0), (19, .aload_n 0, 1, 3, 0, 0, 0), (20, .getfield 26, 3, 14, 2, 0, 0), (23, .invokevirtual 256, 3, 23, 19, 0, 0), (26, .istore_n 2, 1, 4, 0, 0, 0), (27, .iload_n 2, 1, 2, 0, 0, 0), (28, .invokestatic 178, 3, 23, 16, 0, 0), (31, .istore_n 3, 1, 4, 0, 0, 0), (32, .iconst (-1), 1, 0, 0, 0, 0), (33, .istore 4, 2, 4, 0, 0, 0), (35, .iconst (-1), 1, 0, 0, 0, 0), (36, .istore 5, 2, 4, 0, 0, 0), (38, .iconst 0, 1, 0, 0, 0, 0), (39, .istore 6, 2, 4, 0, 0, 0), (41, .iload 6, 2, 2, 0, 0, 0), (43, .aload_n 0, 1, 3, 0, 0, 0), (44, .getfield 19, 3, 14, 1, 0, 0), (47, .getfield 107, 3, 14, 12, 0, 0), (50, .if_icmp .ge 61, 3, 12, 0, 0, 0), (53, .iload 6, 2, 2, 0, 0, 0), (55, .iconst 1, 1, 0, 0, 0, 0), (56, .iadd, 1, 7, 0, 0, 0), (57, .istore 7, 2, 4, 0, 0, 0), (59, .iload 7, 2, 2, 0, 0, 0), (61, .aload_n 0, 1, 3, 0, 0, 0), (62, .getfield 19, 3, 14, 1, 0, 0), (65, .getfield 107, 3, 14, 12, 0, 0), (68, .if_icmp .ge 37, 3, 12, 0, 0, 0), (71, .aload_n 0, 1, 3, 0, 0, 0), (72, .iload 6, 2, 2, 0, 0, 0), (74, .iload 7, 2, 2, 0, 0, 0), (76, .iload_n 2, 1, 2, 0, 0, 0), (77, .invokevirtual 271, 3, 20, 0, 9, 0), (80, .istore 8, 2, 4, 0, 0, 0), (82, .iload 8, 2, 2, 0, 0, 0), (84, .iload_n 3, 1, 2, 0, 0, 0), (85, .if_icmp .le 14, 3, 12, 0, 0, 0), (88, .iload 6, 2, 2, 0, 0, 0), (90, .istore 4, 2, 4, 0, 0, 0), (92, .iload 7, 2, 2, 0, 0, 0), (94, .istore 5, 2, 4, 0, 0, 0), (96, .iload 8, 2, 2, 0, 0, 0), (98, .istore_n 3, 1, 4, 0, 0, 0), (99, .iinc 7 1, 3, 6, 0, 0, 0), (102, .goto (-43), 3, 0, 0, 0, 0), (105, .iinc 6 1, 3, 6, 0, 0, 0), (108, .goto (-67), 3, 0, 0, 0, 0), (111, .iload 4, 2, 2, 0, 0, 0), (113, .iconst (-1), 1, 0, 0, 0, 0), (114, .if_icmp .ne 5, 3, 12, 0, 0, 0), (117, .iconst (-1), 1, 0, 0, 0, 0), (118, .ireturn, 1, 21, 0, 0, 0), (119, .iload_n 1, 1, 2, 0, 0, 0), (120, .iconst 2, 1, 0, 0, 0, 0), (121, .if_icmp .ne 5, 3, 12, 0, 0, 0), (124, .iload_n 3, 1, 2, 0, 0, 0), (125, .ireturn, 1, 21, 0, 0, 0), (126, .iload_n 1, 1, 2, 0, 0, 0), (127, .ifCond .ne 8, 3, 12, 0, 0, 0), (130, .iload 4, 2, 2, 0, 0, 0), (132, .goto 5, 3, 0, 0, 0, 0), (135, .iload 5, 2, 2, 0, 0, 0), (137, .ireturn, 1, 21, 0, 0, 0)]
/- 12: PepperTables.fault(I)I -/
def ee_T12 : List ee_en := [(0, .iload_n 1, 1, 2, 0, 0, 0), (1, .ifCond .ne 11, 3, 12, 0, 0, 0), (4, .aload_n 0, 1, 3, 0, 0, 0), (5, .getfield 10, 3, 14, 0, 0, 0), (8, .getfield 110, 3, 14, 28, 0, 0), (11, .ireturn, 1, 21, 0, 0, 0), (12, .iload_n 1, 1, 2, 0, 0, 0), (13, .iconst 1, 1, 0, 0, 0, 0), (14, .if_icmp .ne 13, 3, 12, 0, 0, 0), (17, .aload_n 0, 1, 3, 0, 0, 0), (18, .getfield 10, 3, 14, 0, 0, 0), (21, .getfield 113, 3, 14, 29, 0, 0), (24, .goto 4, 3, 0, 0, 0, 0), (27, .iconst (-1), 1, 0, 0, 0, 0), (28, .ireturn, 1, 21, 0, 0, 0)]
/- 13: PepperTables.feast(II)I -/
def ee_T13 : List ee_en := [(0, .aload_n 0, 1, 3, 0, 0, 0), (1, .getfield 57, 3, 14, 7, 0, 0), (4, .iconst 0, 1, 0, 0, 0, 0), (5, .putfield 103, 3, 15, 25, 0, 0), (8, .aload_n 0, 1, 3, 0, 0, 0), (9, .iload_n 1, 1, 2, 0, 0, 0), (10, .invokevirtual 116, 3, 23, 20, 0, 0), (13, .ifCond .eq 16, 3, 12, 0, 0, 0), (16, .aload_n 0, 1, 3, 0, 0, 0), (17, .iload_n 2, 1, 2, 0, 0, 0), (18, .invokevirtual 116, 3, 23, 20, 0, 0), (21, .ifCond .eq 8, 3, 12, 0, 0, 0), (24, .iload_n 1, 1, 2, 0, 0, 0), (25, .iload_n 2, 1, 2, 0, 0, 0), (26, .if_icmp .ne 5, 3, 12, 0, 0, 0), (29, .iconst (-1), 1, 0, 0, 0, 0), (30, .ireturn, 1, 21, 0, 0, 0), (31, .aload_n 0, 1, 3, 0, 0, 0), (32, .iload_n 1, 1, 2, 0, 0, 0), (33, .iload_n 2, 1, 2, 0, 0, 0), (34, .invokevirtual 275, 3, 20, 0, 9, 0), (37, .iconst 0, 1, 0, 0, 0, 0), (38, .istore_n 3, 1, 4, 0, 0, 0), (39, .iconst 0, 1, 0, 0, 0, 0), (40, .istore 4, 2, 4, 0, 0, 0), (42, .iload 4, 2, 2, 0, 0, 0), (44, .iconst 4, 1, 0, 0, 0, 0), (45, .if_icmp .ge 101, 3, 12, 0, 0, 0), (48, .aload_n 0, 1, 3, 0, 0, 0), (49, .getfield 72, 3, 14, 10, 0, 0), (52, .iload 4, 2, 2, 0, 0, 0), (54, .iaload, 1, 22, 0, 0, 0), (55, .aload_n 0, 1, 3, 0, 0, 0), (56, .getfield 72, 3, 14, 10, 0, 0), (59, .iload 4, 2, 2, 0, 0, 0), (61, .iconst 2, 1, 0, 0, 0, 0), (62, .ixor, 1, 7, 0, 0, 0), (63, .iaload, 1, 22, 0, 0, 0), (64, .if_icmp .lt 7, 3, 12, 0, 0, 0), (67, .iconst 1, 1, 0, 0, 0, 0), (68, .goto 4, 3, 0, 0, 0, 0), (71, .iconst 0, 1, 0, 0, 0, 0), (72, .istore 5, 2, 4, 0, 0, 0), (74, .aload_n 0, 1, 3, 0, 0, 0), (75, .getfield 75, 3, 14, 11, 0, 0), (78, .iload 4, 2, 2, 0, 0, 0), (80, .iaload, 1, 22, 0, 0, 0), (81, .aload_n 0, 1, 3, 0, 0, 0), (82, .getfield 75, 3, 14, 11, 0, 0), (85, .iload 4, 2, 2, 0, 0, 0), (87, .iconst 1, 1, 0, 0, 0, 0), (88, .ixor, 1, 7, 0, 0, 0), (89, .iaload, 1, 22, 0, 0, 0), (90, .if_icmp .lt 7, 3, 12, 0, 0, 0), (93, .iconst 1, 1, 0, 0, 0, 0), (94, .goto 4, 3, 0, 0, 0, 0), (97, .iconst 0, 1, 0, 0, 0, 0), (98, .istore 6, 2, 4, 0, 0, 0), (100, .iload 5, 2, 2, 0, 0, 0), (102, .ifCond .eq 38, 3, 12, 0, 0, 0), (105, .iload 6, 2, 2, 0, 0, 0), (107, .ifCond .eq 33, 3, 12, 0, 0, 0), (110, .iinc 3 1, 3, 6, 0, 0, 0), (113, .iload_n 3, 1, 2, 0, 0, 0), (114, .iconst 1, 1, 0, 0, 0, 0), (115, .if_icmp .ne 25, 3, 12, 0, 0, 0), (118, .aload_n 0, 1, 3, 0, 0, 0), (119, .getfield 57, 3, 14, 7, 0, 0), (122, .iload 4, 2, 2, 0, 0, 0), (124, .iconst 1, 1, 0, 0, 0, 0), (125, .ishr, 1, 7, 0, 0, 0), (126, .invokevirtual 278, 3, 20, 0, 9, 0), (129, .aload_n 0, 1, 3, 0, 0, 0), (130, .getfield 57, 3, 14, 7, 0, 0), (133, .iload 4, 2, 2, 0, 0, 0), (135, .iconst 1, 1, 0, 0, 0, 0), (136, .iand, 1, 7, 0, 0, 0), (137, .invokevirtual 278, 3, 20, 0, 9, 0), (140, .iinc 4 1, 3, 6, 0, 0, 0), (143, .goto (-101), 3, 0, 0, 0, 0), (146, .iload_n 3, 1, 2, 0, 0, 0), (147, .ireturn, 1, 21, 0, 0, 0)]
/- 14: PepperTables.feed(IIIII)I -/
def ee_T14 : List ee_en := [(0, .aload_n 0, 1, 3, 0, 0, 0), (1, .getfield 10, 3, 14, 0, 0, 0), (4, .getfield 78, 3, 14, 23, 0, 0), (7, .bipush 20, 2, 0, 0, 0, 0), (9, .iadd, 1, 7, 0, 0, 0), (10, .sipush 1600, 3, 0, 0, 0, 0), (13, .if_icmp .le 5, 3, 12, 0, 0, 0), (16, .iconst (-1), 1, 0, 0, 0, 0), (17, .ireturn, 1, 21, 0, 0, 0), (18, .aload_n 0, 1, 3, 0, 0, 0), (19, .getfield 10, 3, 14, 0, 0, 0), (22, .iload_n 1, 1, 2, 0, 0, 0), (23, .invokevirtual 82, 3, 23, 21, 0, 0), (26, .aload_n 0, 1, 3, 0, 0, 0), (27, .getfield 10, 3, 14, 0, 0, 0), (30, .iload_n 2, 1, 2, 0, 0, 0), (31, .invokevirtual 82, 3, 23, 21, 0, 0), (34, .aload_n 0, 1, 3, 0, 0, 0), (35, .getfield 10, 3, 14, 0, 0, 0), (38, .iload_n 3, 1, 2, 0, 0, 0), (39, .invokevirtual 82, 3, 23, 21, 0, 0), (42, .aload_n 0, 1, 3, 0, 0, 0), (43, .getfield 10, 3, 14, 0, 0, 0), (46, .iload 4, 2, 2, 0, 0, 0), (48, .invokevirtual 82, 3, 23, 21, 0, 0), (51, .aload_n 0, 1, 3, 0, 0, 0), (52, .getfield 10, 3, 14, 0, 0, 0), (55, .iload 5, 2, 2, 0, 0, 0), (57, .invokevirtual 82, 3, 23, 21, 0, 0), (60, .aload_n 0, 1, 3, 0, 0, 0), (61, .getfield 10, 3, 14, 0, 0, 0), (64, .getfield 78, 3, 14, 23, 0, 0), (67, .ireturn, 1, 21, 0, 0, 0)]
/- 15: PepperTables.fewest(I)I -/
def ee_T15 : List ee_en := [(0, .iconst 0, 1, 0, 0, 0, 0), (1, .istore_n 2, 1, 4, 0, 0, 0), (2, .iconst 0, 1, 0, 0, 0, 0), (3, .istore_n 3, 1, 4, 0, 0, 0), (4, .iconst 0, 1, 0, 0, 0, 0), (5, .istore 4, 2, 4, 0, 0, 0), (7, .iload 4, 2, 2, 0, 0, 0), (9, .aload_n 0, 1, 3, 0, 0, 0), (10, .getfield 19, 3, 14, 1, 0, 0), (13, .getfield 233, 3, 14, 14, 0, 0), (16, .if_icmp .ge 45, 3, 12, 0, 0, 0), (19, .aload_n 0, 1, 3, 0, 0, 0), (20, .getfield 36, 3, 14, 4, 0, 0), (23, .aload_n 0, 1, 3, 0, 0, 0), (24, .getfield 19, 3, 14, 1, 0, 0), (27, .aload_n 0, 1, 3, 0, 0, 0), (28, .getfield 26, 3, 14, 2, 0, 0), (31, .iload 4, 2, 2, 0, 0, 0), (33, .invokevirtual 168, 3, 20, 0, 9, 0), (36, .istore 5, 2, 4, 0, 0, 0), (38, .iload_n 3, 1, 2, 0, 0, 0), (39, .iload 5, 2, 2, 0, 0, 0), (41, .ior, 1, 7, 0, 0, 0), (42, .istore_n 3, 1, 4, 0, 0, 0), (43, .iload 5, 2, 2, 0, 0, 0), (45, .ifCond .eq 10, 3, 12, 0, 0, 0), (48, .iload_n 2, 1, 2, 0, 0, 0), (49, .iconst 1, 1, 0, 0, 0, 0), (50, .iload 4, 2, 2, 0, 0, 0), (52, .ishl, 1, 7, 0, 0, 0), (53, .ior, 1, 7, 0, 0, 0), (54, .istore_n 2, 1, 4, 0, 0, 0), (55, .iinc 4 1, 3, 6, 0, 0, 0), (58, .goto (-51), 3, 0, 0, 0, 0), (61, .iload_n 1, 1, 2, 0, 0, 0), (62, .tableswitch 35 0 2 #[26, 31, 33], 26, 13, 0, 0, 0), (88, .iload_n 2, 1, 2, 0, 0, 0), (89, .invokestatic 178, 3, 23, 16, 0, 0), (92, .ireturn, 1, 21, 0, 0, 0), (93, .iload_n 2, 1, 2, 0, 0, 0), (94, .ireturn, 1, 21, 0, 0, 0), (95, .iload_n 3, 1, 2, 0, 0, 0), (96, .ireturn, 1, 21, 0, 0, 0), (97, .iconst (-1), 1, 0, 0, 0, 0), (98, .ireturn, 1, 21, 0, 0, 0)]
/- 16: PepperTables.gain(I)I -/
def ee_T16 : List ee_en := [(0, .aload_n 0, 1, 3, 0, 0, 0), (1, .iload_n 1, 1, 2, 0, 0, 0), (2, .invokevirtual 116, 3, 23, 20, 0, 0), (5, .ifCond .ne 5, 3, 12, 0, 0, 0), (8, .iconst (-1), 1, 0, 0, 0, 0), (9, .ireturn, 1, 21, 0, 0, 0), (10, .aload_n 0, 1, 3, 0, 0, 0), (11, .getfield 30, 3, 14, 3, 0, 0), (14, .aload_n 0, 1, 3, 0, 0, 0), (15, .getfield 26, 3, 14, 2, 0, 0), (18, .invokevirtual 253, 3, 20, 0, 9, 0), (21, .aload_n 0, 1, 3, 0, 0, 0), (22, .getfield 30, 3, 14, 3, 0, 0), (25, .dup, 1, 11, 0, 0, 0), (26, .getfield 123, 3, 14, 15, 0, 0), (29, .iconst 1, 1, 0, 0, 0, 0), (30, .iload_n 1, 1, 2, 0, 0, 0), (31, .ishl, 1, 7, 0, 0, 0), (32, .ior, 1, 7, 0, 0, 0), (33, .putfield 123, 3, 15, 15, 0, 0), (36, .aload_n 0, 1, 3, 0, 0, 0), (37, .getfield 19, 3, 14, 1, 0, 0), (40, .aload_n 0, 1, 3, 0, 0, 0), (41, .getfield 36, 3, 14, 4, 0, 0), (44, .aload_n 0, 1, 3, 0, 0, 0), (45, .getfield 19, 3, 14, 1, 0, 0), (48, .aload_n 0, 1, 3, 0, 0, 0), (49, .getfield 30, 3, 14, 3, 0, 0), (52, .invokevirtual 256, 3, 23, 19, 0, 0), (55, .aload_n 0, 1, 3, 0, 0, 0), (56, .getfield 19, 3, 14, 1, 0, 0), (59, .iload_n 1, 1, 2, 0, 0, 0), (60, .invokevirtual 134, 3, 20, 0, 9, 0), (63, .iand, 1, 7, 0, 0, 0), (64, .invokevirtual 162, 3, 23, 9, 0, 0), (67, .ireturn, 1, 21, 0, 0, 0)]
/- 17: PepperTables.grind(I)I -/
def ee_T17 : List ee_en := [(0, .aload_n 0, 1, 3, 0, 0, 0), (1, .iload_n 1, 1, 2, 0, 0, 0), (2, .invokevirtual 155, 3, 23, 11, 0, 0), (5, .ifCond .ne 5, 3, 12, 0, 0, 0), (8, .iconst (-1), 1, 0, 0, 0, 0), (9, .ireturn, 1, 21, 0, 0, 0), (10, .aload_n 0, 1, 3, 0, 0, 0), (11, .getfield 36, 3, 14, 4, 0, 0), (14, .aload_n 0, 1, 3, 0, 0, 0), (15, .getfield 19, 3, 14, 1, 0, 0), (18, .aload_n 0, 1, 3, 0, 0, 0), (19, .getfield 26, 3, 14, 2, 0, 0), (22, .iload_n 1, 1, 2, 0, 0, 0), (23, .invokevirtual 183, 3, 20, 0, 9, 0), (26, .istore_n 2, 1, 4, 0, 0, 0), (27, .aload_n 0, 1, 3, 0, 0, 0), (28, .getfield 43, 3, 14, 5, 0, 0), (31, .aload_n 0, 1, 3, 0, 0, 0), (32, .getfield 26, 3, 14, 2, 0, 0), (35, .invokevirtual 175, 3, 23, 18, 0, 0), (38, .iload_n 2, 1, 2, 0, 0, 0), (39, .ireturn, 1, 21, 0, 0, 0)]
/- 18: PepperTables.heard(IIZ)I -/
def ee_T18 : List ee_en := [(0, .aload_n 0, 1, 3, 0, 0, 0), (1, .iload_n 1, 1, 2, 0, 0, 0), (2, .invokevirtual 155, 3, 23, 11, 0, 0), (5, .ifCond .eq 23, 3, 12, 0, 0, 0), (8, .iload_n 2, 1, 2, 0, 0, 0), (9, .ifCond .lt 19, 3, 12, 0, 0, 0), (12, .iload_n 2, 1, 2, 0, 0, 0), (13, .bipush 10, 2, 0, 0, 0, 0), (15, .if_icmp .gt 13, 3, 12, 0, 0, 0), (18, .aload_n 0, 1, 3, 0, 0, 0), (19, .getfield 19, 3, 14, 1, 0, 0), (22, .getfield 107, 3, 14, 12, 0, 0), (25, .ifCond .ne 5, 3, 12, 0, 0, 0), (28, .iconst (-1), 1, 0, 0, 0, 0), (29, .ireturn, 1, 21, 0, 0, 0), (30, .aload_n 0, 1, 3, 0, 0, 0), (31, .getfield 64, 3, 14, 8, 0, 0), (34, .iload_n 1, 1, 2, 0, 0, 0), (35, .iload_n 2, 1, 2, 0, 0, 0), (36, .iload_n 3, 1, 2, 0, 0, 0), (37, .invokevirtual 297, 3, 20, 0, 9, 0), (40, .ireturn, 1, 21, 0, 0, 0)]
/- 19: PepperTables.hide(II)I -/
def ee_T19 : List ee_en := [(0, .aload_n 0, 1, 3, 0, 0, 0), (1, .iload_n 1, 1, 2, 0, 0, 0), (2, .invokevirtual 186, 3, 23, 10, 0, 0), (5, .ifCond .eq 10, 3, 12, 0, 0, 0), (8, .iload_n 2, 1, 2, 0, 0, 0), (9, .invokestatic 209, 3, 23, 12, 0, 0), (12, .ifCond .ne 5, 3, 12, 0, 0, 0), (15, .iconst (-1), 1, 0, 0, 0, 0), (16, .ireturn, 1, 21, 0, 0, 0), (17, .iconst (-1), 1, 0, 0, 0, 0), (18, .istore_n 3, 1, 4, 0, 0, 0), (19, .bipush 11, 2, 0, 0, 0, 0), (21, .istore 4, 2, 4, 0, 0, 0), (23, .iconst 0, 1, 0, 0, 0, 0), (24, .istore 5, 2, 4, 0, 0, 0), (26, .iload 5, 2, 2, 0, 0, 0), (28, .aload_n 0, 1, 3, 0, 0, 0), (29, .getfield 19, 3, 14, 1, 0, 0), (32, .getfield 233, 3, 14, 14, 0, 0), (35, .if_icmp .ge 80, 3, 12, 0, 0, 0), (38, .aload_n 0, 1, 3, 0, 0, 0), (39, .getfield 30, 3, 14, 3, 0, 0), (42, .aload_n 0, 1, 3, 0, 0, 0), (43, .getfield 26, 3, 14, 2, 0, 0), (46, .invokevirtual 253, 3, 20, 0, 9, 0), (49, .aload_n 0, 1, 3, 0, 0, 0), (50, .getfield 30, 3, 14, 3, 0, 0), (53, .getfield 152, 3, 14, 27, 0, 0), (56, .iload_n 1, 1, 2, 0, 0, 0), (57, .iload 5, 2, 2, 0, 0, 0), (59, .iastore, 1, 17, 0, 0, 0), (60, .aload_n 0, 1, 3, 0, 0, 0), (61, .getfield 36, 3, 14, 4, 0, 0), (64, .aload_n 0, 1, 3, 0, 0, 0), (65, .getfield 19, 3, 14, 1, 0, 0), (68, .aload_n 0, 1, 3, 0, 0, 0), (69, .getfield 30, 3, 14, 3, 0, 0), (72, .iload 5, 2, 2, 0, 0, 0), (74, .invokevirtual 168, 3, 20, 0, 9, 0), (77, .istore 6, 2, 4, 0, 0, 0), (79, .iload 6, 2, 2, 0, 0, 0), (81, .invokestatic 178, 3, 23, 16, 0, 0), (84, .istore 7, 2, 4, 0, 0, 0), (86, .iload 6, 2, 2, 0, 0, 0), (88, .iload_n 1, 1, 2, 0, 0, 0), (89, .ishr, 1, 7, 0, 0, 0), (90, .iconst 1, 1, 0, 0, 0, 0), (91, .iand, 1, 7, 0, 0, 0), (92, .ifCond .ne 17, 3, 12, 0, 0, 0), (95, .iload 7, 2, 2, 0, 0, 0), (97, .iload 4, 2, 2, 0, 0, 0), (99, .if_icmp .ge 10, 3, 12, 0, 0, 0), (102, .iload 5, 2, 2, 0, 0, 0), (104, .istore_n 3, 1, 4, 0, 0, 0), (105, .iload 7, 2, 2, 0, 0, 0), (107, .istore 4, 2, 4, 0, 0, 0), (109, .iinc 5 1, 3, 6, 0, 0, 0), (112, .goto (-86), 3, 0, 0, 0, 0), (115, .iload_n 3, 1, 2, 0, 0, 0), (116, .iconst (-1), 1, 0, 0, 0, 0), (117, .if_icmp .ne 5, 3, 12, 0, 0, 0), (120, .iconst (-1), 1, 0, 0, 0, 0), (121, .ireturn, 1, 21, 0, 0, 0), (122, .iload_n 2, 1, 2, 0, 0, 0), (123, .ifCond .ne 7, 3, 12, 0, 0, 0), (126, .iload_n 3, 1, 2, 0, 0, 0), (127, .goto 5, 3, 0, 0, 0, 0), (130, .iload 4, 2, 2, 0, 0, 0), (132, .ireturn, 1, 21, 0, 0, 0)]
def ee_M1 : List ee_me := [(8, ⟨"PepperTables", "dupe", "()I"⟩, prog_1_method_39_code, 5, (some .int), ee_T9, 0, 0), (8, ⟨"PepperTables", "end", "(I)I"⟩, prog_1_method_3_code, 2, (some .int), ee_T10, 0, 0), (8, ⟨"PepperTables", "exchange", "(I)I"⟩, prog_1_method_31_code, 9, (some .int), ee_T11, 0, 0), (8, ⟨"PepperTables", "fault", "(I)I"⟩, prog_1_method_5_code, 2, (some .int), ee_T12, 0, 0), (8, ⟨"PepperTables", "feast", "(II)I"⟩, prog_1_method_34_code, 7, (some .int), ee_T13, 0, 0), (8, ⟨"PepperTables", "feed", "(IIIII)I"⟩, prog_1_method_2_code, 6, (some .int), ee_T14, 0, 0), (8, ⟨"PepperTables", "fewest", "(I)I"⟩, prog_1_method_23_code, 6, (some .int), ee_T15, 0, 0), (8, ⟨"PepperTables", "gain", "(I)I"⟩, prog_1_method_33_code, 2, (some .int), ee_T16, 0, 0), (8, ⟨"PepperTables", "grind", "(I)I"⟩, prog_1_method_12_code, 3, (some .int), ee_T17, 0, 0), (8, ⟨"PepperTables", "heard", "(IIZ)I"⟩, prog_1_method_48_code, 4, (some .int), ee_T18, 0, 0), (8, ⟨"PepperTables", "hide", "(II)I"⟩, prog_1_method_28_code, 8, (some .int), ee_T19, 0, 0)]
set_option maxRecDepth 100000 in
theorem ee_M1ok : ee_M1.all ee_Mb = true := by decide +kernel
end
section
/- 20: PepperTables.hottest()I -/
def ee_T20 : List ee_en := [(0, .iconst (-1), 1, 0, 0, 0, 0), (1, .istore_n 1, 1, 4, 0, 0, 0), (2, .iconst (-1), 1, 0, 0, 0, 0), (3, .istore_n 2, 1, 4, 0, 0, 0), (4, .iconst 0, 1, 0, 0, 0, 0), (5, .istore_n 3, 1, 4, 0, 0, 0), (6, .iload_n 3, 1, 2, 0, 0, 0), (7, .aload_n 0, 1, 3, 0, 0, 0), (8, .getfield 19, 3, 14, 1, 0, 0), (11, .getfield 233, 3, 14, 14, 0, 0), (14, .if_icmp .ge 41, 3, 12, 0, 0, 0), (17, .aload_n 0, 1, 3, 0, 0, 0), (18, .getfield 19, 3, 14, 1, 0, 0), (21, .aload_n 0, 1, 3, 0, 0, 0), (22, .getfield 26, 3, 14, 2, 0, 0), (25, .aload_n 0, 1, 3, 0, 0, 0), (26, .getfield 19, 3, 14, 1, 0, 0), (29, .iload_n 3, 1, 2, 0, 0, 0), (30, .invokevirtual 158, 3, 20, 0, 9, 0), (33, .invokevirtual 162, 3, 23, 9, 0, 0), (36, .istore 4, 2, 4, 0, 0, 0), (38, .iload 4, 2, 2, 0, 0, 0), (40, .iload_n 2, 1, 2, 0, 0, 0), (41, .if_icmp .le 8, 3, 12, 0, 0, 0), (44, .iload_n 3, 1, 2, 0, 0, 0), (45, .istore_n 1, 1, 4, 0, 0, 0), (46, .iload 4, 2, 2, 0, 0, 0), (48, .istore_n 2, 1, 4, 0, 0, 0), (49, .iinc 3 1, 3, 6, 0, 0, 0), (52, .goto (-46), 3, 0, 0, 0, 0), (55, .iload_n 1, 1, 2, 0, 0, 0), (56, .ireturn, 1, 21, 0, 0, 0)]
/- 21: PepperTables.idle()I -/
def ee_T21 : List ee_en := [(0, .iconst 0, 1, 0, 0, 0, 0), (1, .istore_n 1, 1, 4, 0, 0, 0), (2, .iconst 0, 1, 0, 0, 0, 0), (3, .istore_n 2, 1, 4, 0, 0, 0), (4, .iload_n 2, 1, 2, 0, 0, 0), (5, .aload_n 0, 1, 3, 0, 0, 0), (6, .getfield 19, 3, 14, 1, 0, 0), (9, .getfield 233, 3, 14, 14, 0, 0), (12, .if_icmp .ge 34, 3, 12, 0, 0, 0), (15, .aload_n 0, 1, 3, 0, 0, 0), (16, .getfield 36, 3, 14, 4, 0, 0), (19, .aload_n 0, 1, 3, 0, 0, 0), (20, .getfield 19, 3, 14, 1, 0, 0), (23, .aload_n 0, 1, 3, 0, 0, 0), (24, .getfield 26, 3, 14, 2, 0, 0), (27, .iload_n 2, 1, 2, 0, 0, 0), (28, .invokevirtual 168, 3, 20, 0, 9, 0), (31, .ifCond .ne 9, 3, 12, 0, 0, 0), (34, .iload_n 1, 1, 2, 0, 0, 0), (35, .iconst 1, 1, 0, 0, 0, 0), (36, .iload_n 2, 1, 2, 0, 0, 0), (37, .ishl, 1, 7, 0, 0, 0), (38, .ior, 1, 7, 0, 0, 0), (39, .istore_n 1, 1, 4, 0, 0, 0), (40, .iinc 2 1, 3, 6, 0, 0, 0), (43, .goto (-39), 3, 0, 0, 0, 0), (46, .iload_n 1, 1, 2, 0, 0, 0), (47, .ireturn, 1, 21, 0, 0, 0)]
/- 22: PepperTables.image(I)I -/
def ee_T22 : List ee_en := [(0, .aload_n 0, 1, 3, 0, 0, 0), (1, .getfield 50, 3, 14, 6, 0, 0), (4, .iload_n 1, 1, 2, 0, 0, 0), (5, .aload_n 0, 1, 3, 0, 0, 0), (6, .getfield 26, 3, 14, 2, 0, 0), (9, .invokevirtual 318, 3, 23, 22, 0, 0), (12, .ifCond .eq 13, 3, 12, 0, 0, 0), (15, .aload_n 0, 1, 3, 0, 0, 0), (16, .getfield 26, 3, 14, 2, 0, 0), (19, .getfield 189, 3, 14, 17, 0, 0), (22, .goto 4, 3, 0, 0, 0, 0), (25, .iconst (-1), 1, 0, 0, 0, 0), (26, .ireturn, 1, 21, 0, 0, 0)]
/- 23: PepperTables.invite(I)I -/
def ee_T23 : List ee_en := [(0, .iload_n 1, 1, 2, 0, 0, 0), (1, .invokestatic 209, 3, 23, 12, 0, 0), (4, .ifCond .ne 5, 3, 12, 0, 0, 0), (7, .iconst (-1), 1, 0, 0, 0, 0), (8, .ireturn, 1, 21, 0, 0, 0), (9, .iconst (-1), 1, 0, 0, 0, 0), (10, .istore_n 2, 1, 4, 0, 0, 0), (11, .iconst (-1), 1, 0, 0, 0, 0), (12, .istore_n 3, 1, 4, 0, 0, 0), (13, .iconst 0, 1, 0, 0, 0, 0), (14, .istore 4, 2, 4, 0, 0, 0), (16, .iload 4, 2, 2, 0, 0, 0), (18, .aload_n 0, 1, 3, 0, 0, 0), (19, .getfield 19, 3, 14, 1, 0, 0), (22, .getfield 236, 3, 14, 13, 0, 0), (25, .if_icmp .ge 77, 3, 12, 0, 0, 0), (28, .aload_n 0, 1, 3, 0, 0, 0), (29, .iload 4, 2, 2, 0, 0, 0), (31, .invokevirtual 172, 3, 20, 0, 9, 0), (34, .ifCond .ne 62, 3, 12, 0, 0, 0), (37, .aload_n 0, 1, 3, 0, 0, 0), (38, .getfield 30, 3, 14, 3, 0, 0), (41, .aload_n 0, 1, 3, 0, 0, 0), (42, .getfield 26, 3, 14, 2, 0, 0), (45, .invokevirtual 253, 3, 20, 0, 9, 0), (48, .aload_n 0, 1, 3, 0, 0, 0), (49, .getfield 30, 3, 14, 3, 0, 0), (52, .dup, 1, 11, 0, 0, 0), (53, .getfield 123, 3, 14, 15, 0, 0), (56, .iconst 1, 1, 0, 0, 0, 0), (57, .iload 4, 2, 2, 0, 0, 0), (59, .ishl, 1, 7, 0, 0, 0), (60, .ior, 1, 7, 0, 0, 0), (61, .putfield 123, 3, 15, 15, 0, 0), (64, .aload_n 0, 1, 3, 0, 0, 0), (65, .getfield 36, 3, 14, 4, 0, 0), (68, .aload_n 0, 1, 3, 0, 0, 0), (69, .getfield 19, 3, 14, 1, 0, 0), (72, .aload_n 0, 1, 3, 0, 0, 0), (73, .getfield 30, 3, 14, 3, 0, 0), (76, .invokevirtual 256, 3, 23, 19, 0, 0), (79, .invokestatic 178, 3, 23, 16, 0, 0), (82, .istore 5, 2, 4, 0, 0, 0), (84, .iload 5, 2, 2, 0, 0, 0), (86, .iload_n 3, 1, 2, 0, 0, 0), (87, .if_icmp .le 9, 3, 12, 0, 0, 0), (90, .iload 4, 2, 2, 0, 0, 0), (92, .istore_n 2, 1, 4, 0, 0, 0), (93, .iload 5, 2, 2, 0, 0, 0), (95, .istore_n 3, 1, 4, 0, 0, 0), (96, .iinc 4 1, 3, 6, 0, 0, 0), (99, .goto (-83), 3, 0, 0, 0, 0), (102, .iload_n 1, 1, 2, 0, 0, 0), (103, .ifCond .ne 7, 3, 12, 0, 0, 0), (106, .iload_n 2, 1, 2, 0, 0, 0), (107, .goto 4, 3, 0, 0, 0, 0), (110, .iload_n 3, 1, 2, 0, 0, 0), (111, .ireturn, 1, 21, 0, 0, 0)]
/- 24: PepperTables.isEither(I)Z -/
def ee_T24 : List ee_en := [(0, .iload_n 0, 1, 2, 0, 0, 0), (1, .ifCond .eq 8, 3, 12, 0, 0, 0), (4, .iload_n 0, 1, 2, 0, 0, 0), (5, .iconst 1, 1, 0, 0, 0, 0), (6, .if_icmp .ne 7, 3, 12, 0, 0, 0), (9, .iconst 1, 1, 0, 0, 0, 0), (10, .goto 4, 3, 0, 0, 0, 0), (13, .iconst 0, 1, 0, 0, 0, 0), (14, .ireturn, 1, 21, 0, 0, 0)]
/- 25: PepperTables.isKept(I)Z -/
def ee_T25 : List ee_en := [(0, .aload_n 0, 1, 3, 0, 0, 0), (1, .iload_n 1, 1, 2, 0, 0, 0), (2, .invokevirtual 140, 3, 23, 23, 0, 0), (5, .ifCond .eq 21, 3, 12, 0, 0, 0), (8, .aload_n 0, 1, 3, 0, 0, 0), (9, .getfield 26, 3, 14, 2, 0, 0), (12, .getfield 137, 3, 14, 16, 0, 0), (15, .iload_n 1, 1, 2, 0, 0, 0), (16, .ishr, 1, 7, 0, 0, 0), (17, .iconst 1, 1, 0, 0, 0, 0), (18, .iand, 1, 7, 0, 0, 0), (19, .ifCond .ne 7, 3, 12, 0, 0, 0), (22, .iconst 1, 1, 0, 0, 0, 0), (23, .goto 4, 3, 0, 0, 0, 0), (26, .iconst 0, 1, 0, 0, 0, 0), (27, .ireturn, 1, 21, 0, 0, 0)]
/- 26: PepperTables.isPerson(I)Z -/
def ee_T26 : List ee_en := [(0, .iload_n 1, 1, 2, 0, 0, 0), (1, .ifCond .lt 18, 3, 12, 0, 0, 0), (4, .iload_n 1, 1, 2, 0, 0, 0), (5, .aload_n 0, 1, 3, 0, 0, 0), (6, .getfield 19, 3, 14, 1, 0, 0), (9, .getfield 236, 3, 14, 13, 0, 0), (12, .if_icmp .ge 7, 3, 12, 0, 0, 0), (15, .iconst 1, 1, 0, 0, 0, 0), (16, .goto 4, 3, 0, 0, 0, 0), (19, .iconst 0, 1, 0, 0, 0, 0), (20, .ireturn, 1, 21, 0, 0, 0)]
/- 27: PepperTables.isSack(I)Z -/
def ee_T27 : List ee_en := [(0, .iload_n 1, 1, 2, 0, 0, 0), (1, .ifCond .lt 18, 3, 12, 0, 0, 0), (4, .iload_n 1, 1, 2, 0, 0, 0), (5, .aload_n 0, 1, 3, 0, 0, 0), (6, .getfield 19, 3, 14, 1, 0, 0), (9, .getfield 233, 3, 14, 14, 0, 0), (12, .if_icmp .ge 7, 3, 12, 0, 0, 0), (15, .iconst 1, 1, 0, 0, 0, 0), (16, .goto 4, 3, 0, 0, 0, 0), (19, .iconst 0, 1, 0, 0, 0, 0), (20, .ireturn, 1, 21, 0, 0, 0)]
/- 28: PepperTables.isThing(I)Z -/
def ee_T28 : List ee_en := [(0, .iload_n 1, 1, 2, 0, 0, 0), (1, .ifCond .lt 18, 3, 12, 0, 0, 0), (4, .iload_n 1, 1, 2, 0, 0, 0), (5, .aload_n 0, 1, 3, 0, 0, 0), (6, .getfield 19, 3, 14, 1, 0, 0), (9, .getfield 107, 3, 14, 12, 0, 0), (12, .if_icmp .ge 7, 3, 12, 0, 0, 0), (15, .iconst 1, 1, 0, 0, 0, 0), (16, .goto 4, 3, 0, 0, 0, 0), (19, .iconst 0, 1, 0, 0, 0, 0), (20, .ireturn, 1, 21, 0, 0, 0)]
/- 29: PepperTables.keeps(II)I -/
def ee_T29 : List ee_en := [(0, .aload_n 0, 1, 3, 0, 0, 0), (1, .iload_n 1, 1, 2, 0, 0, 0), (2, .invokevirtual 116, 3, 23, 20, 0, 0), (5, .ifCond .eq 11, 3, 12, 0, 0, 0), (8, .aload_n 0, 1, 3, 0, 0, 0), (9, .iload_n 2, 1, 2, 0, 0, 0), (10, .invokevirtual 116, 3, 23, 20, 0, 0), (13, .ifCond .ne 5, 3, 12, 0, 0, 0), (16, .iconst (-1), 1, 0, 0, 0, 0), (17, .ireturn, 1, 21, 0, 0, 0), (18, .aload_n 0, 1, 3, 0, 0, 0), (19, .getfield 19, 3, 14, 1, 0, 0), (22, .aload_n 0, 1, 3, 0, 0, 0), (23, .getfield 26, 3, 14, 2, 0, 0), (26, .aload_n 0, 1, 3, 0, 0, 0), (27, .getfield 19, 3, 14, 1, 0, 0), (30, .invokevirtual 126, 3, 23, 8, 0, 0), (33, .aload_n 0, 1, 3, 0, 0, 0), (34, .getfield 19, 3, 14, 1, 0, 0), (37, .iload_n 1, 1, 2, 0, 0, 0), (38, .invokevirtual 130, 3, 20, 0, 9, 0), (41, .iand, 1, 7, 0, 0, 0), (42, .aload_n 0, 1, 3, 0, 0, 0), (43, .getfield 19, 3, 14, 1, 0, 0), (46, .iload_n 2, 1, 2, 0, 0, 0), (47, .invokevirtual 134, 3, 20, 0, 9, 0), (50, .iand, 1, 7, 0, 0, 0), (51, .invokevirtual 162, 3, 23, 9, 0, 0), (54, .ireturn, 1, 21, 0, 0, 0)]
/- 30: PepperTables.later(I)I -/
def ee_T30 : List ee_en := [(0, .aload_n 0, 1, 3, 0, 0, 0), (1, .getfield 64, 3, 14, 8, 0, 0), (4, .iload_n 1, 1, 2, 0, 0, 0), (5, .invokevirtual 304, 3, 23, 24, 0, 0), (8, .ireturn, 1, 21, 0, 0, 0)]
/- 31: PepperTables.law(II)I -/
def ee_T31 : List ee_en := [(0, .aload_n 0, 1, 3, 0, 0, 0), (1, .iload_n 1, 1, 2, 0, 0, 0), (2, .invokevirtual 155, 3, 23, 11, 0, 0), (5, .ifCond .eq 13, 3, 12, 0, 0, 0), (8, .iload_n 2, 1, 2, 0, 0, 0), (9, .ifCond .lt 9, 3, 12, 0, 0, 0), (12, .iload_n 2, 1, 2, 0, 0, 0), (13, .bipush 99, 2, 0, 0, 0, 0), (15, .if_icmp .le 5, 3, 12, 0, 0, 0), (18, .iconst (-1), 1, 0, 0, 0, 0), (19, .ireturn, 1, 21, 0, 0, 0), (20, .aload_n 0, 1, 3, 0, 0, 0), (21, .getfield 30, 3, 14, 3, 0, 0), (24, .aload_n 0, 1, 3, 0, 0, 0), (25, .getfield 26, 3, 14, 2, 0, 0), (28, .invokevirtual 253, 3, 20, 0, 9, 0), (31, .aload_n 0, 1, 3, 0, 0, 0), (32, .getfield 30, 3, 14, 3, 0, 0), (35, .getfield 165, 3, 14, 30, 0, 0), (38, .iload_n 1, 1, 2, 0, 0, 0), (39, .iload_n 2, 1, 2, 0, 0, 0), (40, .iastore, 1, 17, 0, 0, 0), (41, .aload_n 0, 1, 3, 0, 0, 0), (42, .getfield 36, 3, 14, 4, 0, 0), (45, .aload_n 0, 1, 3, 0, 0, 0), (46, .getfield 19, 3, 14, 1, 0, 0), (49, .aload_n 0, 1, 3, 0, 0, 0), (50, .getfield 30, 3, 14, 3, 0, 0), (53, .iload_n 1, 1, 2, 0, 0, 0), (54, .invokevirtual 168, 3, 20, 0, 9, 0), (57, .invokestatic 178, 3, 23, 16, 0, 0), (60, .ireturn, 1, 21, 0, 0, 0)]
/- 32: PepperTables.lies(I)I -/
def ee_T32 : List ee_en := [(0, .aload_n 0, 1, 3, 0, 0, 0), (1, .getfield 57, 3, 14, 7, 0, 0), (4, .iload_n 1, 1, 2, 0, 0, 0), (5, .invokevirtual 294, 3, 23, 25, 0, 0), (8, .ireturn, 1, 21, 0, 0, 0)]
/- 33: PepperTables.line()I -/
def ee_T33 : List ee_en := [(0, .aload_n 0, 1, 3, 0, 0, 0), (1, .getfield 57, 3, 14, 7, 0, 0), (4, .aload_n 0, 1, 3, 0, 0, 0), (5, .getfield 19, 3, 14, 1, 0, 0), (8, .aload_n 0, 1, 3, 0, 0, 0), (9, .getfield 26, 3, 14, 2, 0, 0), (12, .aload_n 0, 1, 3, 0, 0, 0), (13, .getfield 19, 3, 14, 1, 0, 0), (16, .invokevirtual 126, 3, 23, 8, 0, 0), (19, .invokevirtual 281, 3, 23, 26, 0, 0), (22, .aload_n 0, 1, 3, 0, 0, 0), (23, .getfield 57, 3, 14, 7, 0, 0), (26, .getfield 103, 3, 14, 25, 0, 0), (29, .ireturn, 1, 21, 0, 0, 0)]
/- 34: PepperTables.mute()I -/
def ee_T34 : List ee_en := [(0, .aload_n 0, 1, 3, 0, 0, 0), (1, .getfield 26, 3, 14, 2, 0, 0), (4, .aload_n 0, 1, 3, 0, 0, 0), (5, .getfield 19, 3, 14, 1, 0, 0), (8, .invokevirtual 126, 3, 23, 8, 0, 0), (11, .istore_n 1, 1, 4, 0, 0, 0), (12, .iconst 0, 1, 0, 0, 0, 0), (13, .istore_n 2, 1, 4, 0, 0, 0), (14, .iload_n 2, 1, 2, 0, 0, 0), (15, .aload_n 0, 1, 3, 0, 0, 0), (16, .getfield 19, 3, 14, 1, 0, 0), (19, .getfield 233, 3, 14, 14, 0, 0), (22, .if_icmp .ge 57, 3, 12, 0, 0, 0), (25, .iconst 2, 1, 0, 0, 0, 0), (26, .istore_n 3, 1, 4, 0, 0, 0), (27, .iload_n 3, 1, 2, 0, 0, 0), (28, .aload_n 0, 1, 3, 0, 0, 0), (29, .getfield 19, 3, 14, 1, 0, 0), (32, .getfield 236, 3, 14, 13, 0, 0), (35, .if_icmp .gt 38, 3, 12, 0, 0, 0), (38, .iload_n 1, 1, 2, 0, 0, 0), (39, .aload_n 0, 1, 3, 0, 0, 0), (40, .getfield 36, 3, 14, 4, 0, 0), (43, .aload_n 0, 1, 3, 0, 0, 0), (44, .getfield 19, 3, 14, 1, 0, 0), (47, .aload_n 0, 1, 3, 0, 0, 0), (48, .getfield 26, 3, 14, 2, 0, 0), (51, .iload_n 2, 1, 2, 0, 0, 0), (52, .iload_n 3, 1, 2, 0, 0, 0), (53, .aload_n 0, 1, 3, 0, 0, 0), (54, .getfield 19, 3, 14, 1, 0, 0), (57, .invokevirtual 212, 3, 23, 27, 0, 0), (60, .invokevirtual 239, 3, 20, 0, 9, 0), (63, .iconst (-1), 1, 0, 0, 0, 0), (64, .ixor, 1, 7, 0, 0, 0), (65, .iand, 1, 7, 0, 0, 0), (66, .istore_n 1, 1, 4, 0, 0, 0), (67, .iinc 3 1, 3, 6, 0, 0, 0), (70, .goto (-43), 3, 0, 0, 0, 0), (73, .iinc 2 1, 3, 6, 0, 0, 0), (76, .goto (-62), 3, 0, 0, 0, 0), (79, .iload_n 1, 1, 2, 0, 0, 0), (80, .ireturn, 1, 21, 0, 0, 0)]
/- 35: PepperTables.near()I -/
def ee_T35 : List ee_en := [(0, .aload_n 0, 1, 3, 0, 0, 0), (1, .getfield 26, 3, 14, 2, 0, 0), (4, .aload_n 0, 1, 3, 0, 0, 0), (5, .getfield 19, 3, 14, 1, 0, 0), (8, .invokevirtual 126, 3, 23, 8, 0, 0), (11, .aload_n 0, 1, 3, 0, 0, 0), (12, .getfield 19, 3, 14, 1, 0, 0), (15, .aload_n 0, 1, 3, 0, 0, 0), (16, .getfield 26, 3, 14, 2, 0, 0), (19, .getfield 123, 3, 14, 15, 0, 0), (22, .invokevirtual 260, 3, 23, 28, 0, 0), (25, .iand, 1, 7, 0, 0, 0), (26, .ireturn, 1, 21, 0, 0, 0)]
/- 36: PepperTables.next()I -/
def ee_T36 : List ee_en := [(0, .aload_n 0, 1, 3, 0, 0, 0), (1, .invokevirtual 198, 3, 23, 17, 0, 0), (4, .ireturn, 1, 21, 0, 0, 0)]
/- 37: PepperTables.odds(II)I -/
def ee_T37 : List ee_en := [(0, .iload_n 1, 1, 2, 0, 0, 0), (1, .ifCond .lt 15, 3, 12, 0, 0, 0), (4, .iload_n 1, 1, 2, 0, 0, 0), (5, .iconst 4, 1, 0, 0, 0, 0), (6, .if_icmp .gt 10, 3, 12, 0, 0, 0), (9, .iload_n 2, 1, 2, 0, 0, 0), (10, .invokestatic 209, 3, 23, 12, 0, 0), (13, .ifCond .ne 5, 3, 12, 0, 0, 0), (16, .iconst (-1), 1, 0, 0, 0, 0), (17, .ireturn, 1, 21, 0, 0, 0), (18, .bipush 100, 2, 0, 0, 0, 0), (20, .aload_n 0, 1, 3, 0, 0, 0), (21, .getfield 19, 3, 14, 1, 0, 0), (24, .getfield 195, 3, 14, 26, 0, 0), (27, .isub, 1, 7, 0, 0, 0), (28, .istore_n 3, 1, 4, 0, 0, 0), (29, .iload_n 3, 1, 2, 0, 0, 0), (30, .bipush 100, 2, 0, 0, 0, 0), (32, .invokestatic 291, 3, 23, 29, 0, 0), (35, .istore 4, 2, 4, 0, 0, 0), (37, .iload_n 2, 1, 2, 0, 0, 0), (38, .ifCond .ne 10, 3, 12, 0, 0, 0), (41, .iload_n 3, 1, 2, 0, 0, 0), (42, .iload 4, 2, 2, 0, 0, 0), (44, .idiv, 1, 8, 0, 0, 0), (45, .goto 8, 3, 0, 0, 0, 0), (48, .bipush 100, 2, 0, 0, 0, 0), (50, .iload 4, 2, 2, 0, 0, 0), (52, .idiv, 1, 8, 0, 0, 0), (53, .istore 5, 2, 4, 0, 0, 0), (55, .iconst 1, 1, 0, 0, 0, 0), (56, .istore 6, 2, 4, 0, 0, 0), (58, .iconst 0, 1, 0, 0, 0, 0), (59, .istore 7, 2, 4, 0, 0, 0), (61, .iload 7, 2, 2, 0, 0, 0), (63, .iload_n 1, 1, 2, 0, 0, 0), (64, .if_icmp .ge 16, 3, 12, 0, 0, 0), (67, .iload 6, 2, 2, 0, 0, 0), (69, .iload 5, 2, 2, 0, 0, 0), (71, .imul, 1, 7, 0, 0, 0), (72, .istore 6, 2, 4, 0, 0, 0), (74, .iinc 7 1, 3, 6, 0, 0, 0), (77, .goto (-16), 3, 0, 0, 0, 0), (80, .iload 6, 2, 2, 0, 0, 0), (82, .ireturn, 1, 21, 0, 0, 0)]
/- 38: PepperTables.pairs()I -/
def ee_T38 : List ee_en := [(0, .iconst 0, 1, 0, 0, 0, 0), (1, .istore_n 1, 1, 4, 0, 0, 0), (2, .iconst 0, 1, 0, 0, 0, 0), (3, .istore_n 2, 1, 4, 0, 0, 0), (4, .iload_n 2, 1, 2, 0, 0, 0), (5, .aload_n 0, 1, 3, 0, 0, 0), (6, .getfield 19, 3, 14, 1, 0, 0), (9, .getfield 236, 3, 14, 13, 0, 0), (12, .if_icmp .ge 97, 3, 12, 0, 0, 0), (15, .iload_n 2, 1, 2, 0, 0, 0), (16, .iconst 1, 1, 0, 0, 0, 0), (17, .iadd, 1, 7, 0, 0, 0), (18, .istore_n 3, 1, 4, 0, 0, 0), (19, .iload_n 3, 1, 2, 0, 0, 0), (20, .aload_n 0, 1, 3, 0, 0, 0), (21, .getfield 19, 3, 14, 1, 0, 0), (24, .getfield 236, 3, 14, 13, 0, 0), (27, .if_icmp .ge 76, 3, 12, 0, 0, 0), (30, .aload_n 0, 1, 3, 0, 0, 0), (31, .getfield 26, 3, 14, 2, 0, 0), (34, .getfield 137, 3, 14, 16, 0, 0), (37, .aload_n 0, 1, 3, 0, 0, 0), (38, .getfield 19, 3, 14, 1, 0, 0), (41, .iload_n 2, 1, 2, 0, 0, 0), (42, .invokevirtual 130, 3, 20, 0, 9, 0), (45, .iand, 1, 7, 0, 0, 0), (46, .aload_n 0, 1, 3, 0, 0, 0), (47, .getfield 19, 3, 14, 1, 0, 0), (50, .iload_n 3, 1, 2, 0, 0, 0), (51, .invokevirtual 134, 3, 20, 0, 9, 0), (54, .iand, 1, 7, 0, 0, 0), (55, .istore 4, 2, 4, 0, 0, 0), (57, .aload_n 0, 1, 3, 0, 0, 0), (58, .getfield 26, 3, 14, 2, 0, 0), (61, .getfield 137, 3, 14, 16, 0, 0), (64, .aload_n 0, 1, 3, 0, 0, 0), (65, .getfield 19, 3, 14, 1, 0, 0), (68, .iload_n 3, 1, 2, 0, 0, 0), (69, .invokevirtual 130, 3, 20, 0, 9, 0), (72, .iand, 1, 7, 0, 0, 0), (73, .aload_n 0, 1, 3, 0, 0, 0), (74, .getfield 19, 3, 14, 1, 0, 0), (77, .iload_n 2, 1, 2, 0, 0, 0), (78, .invokevirtual 134, 3, 20, 0, 9, 0), (81, .iand, 1, 7, 0, 0, 0), (82, .istore 5, 2, 4, 0, 0, 0), (84, .iload 4, 2, 2, 0, 0, 0), (86, .ifCond .eq 11, 3, 12, 0, 0, 0), (89, .iload 5, 2, 2, 0, 0, 0), (91, .ifCond .eq 6, 3, 12, 0, 0, 0), (94, .iinc 1 1, 3, 6, 0, 0, 0), (97, .iinc 3 1, 3, 6, 0, 0, 0), (100, .goto (-81), 3, 0, 0, 0, 0), (103, .iinc 2 1, 3, 6, 0, 0, 0), (106, .goto (-102), 3, 0, 0, 0, 0), (109, .iload_n 1, 1, 2, 0, 0, 0), (110, .ireturn, 1, 21, 0, 0, 0)]
def ee_M2 : List ee_me := [(8, ⟨"PepperTables", "hottest", "()I"⟩, prog_1_method_42_code, 5, (some .int), ee_T20, 0, 0), (8, ⟨"PepperTables", "idle", "()I"⟩, prog_1_method_25_code, 3, (some .int), ee_T21, 0, 0), (8, ⟨"PepperTables", "image", "(I)I"⟩, prog_1_method_54_code, 2, (some .int), ee_T22, 0, 0), (8, ⟨"PepperTables", "invite", "(I)I"⟩, prog_1_method_36_code, 6, (some .int), ee_T23, 0, 0), (8, ⟨"PepperTables", "isEither", "(I)Z"⟩, prog_1_method_62_code, 1, (some .boolean), ee_T24, 0, 0), (8, ⟨"PepperTables", "isKept", "(I)Z"⟩, prog_1_method_60_code, 2, (some .boolean), ee_T25, 0, 0), (8, ⟨"PepperTables", "isPerson", "(I)Z"⟩, prog_1_method_57_code, 2, (some .boolean), ee_T26, 0, 0), (8, ⟨"PepperTables", "isSack", "(I)Z"⟩, prog_1_method_59_code, 2, (some .boolean), ee_T27, 0, 0), (8, ⟨"PepperTables", "isThing", "(I)Z"⟩, prog_1_method_58_code, 2, (some .boolean), ee_T28, 0, 0), (8, ⟨"PepperTables", "keeps", "(II)I"⟩, prog_1_method_38_code, 3, (some .int), ee_T29, 0, 0), (8, ⟨"PepperTables", "later", "(I)I"⟩, prog_1_method_50_code, 2, (some .int), ee_T30, 0, 0), (8, ⟨"PepperTables", "law", "(II)I"⟩, prog_1_method_27_code, 3, (some .int), ee_T31, 0, 0), (8, ⟨"PepperTables", "lies", "(I)I"⟩, prog_1_method_47_code, 2, (some .int), ee_T32, 0, 0), (8, ⟨"PepperTables", "line", "()I"⟩, prog_1_method_35_code, 1, (some .int), ee_T33, 0, 0), (8, ⟨"PepperTables", "mute", "()I"⟩, prog_1_method_18_code, 4, (some .int), ee_T34, 0, 0), (8, ⟨"PepperTables", "near", "()I"⟩, prog_1_method_43_code, 1, (some .int), ee_T35, 0, 0), (8, ⟨"PepperTables", "next", "()I"⟩, prog_1_method_45_code, 1, (some .int), ee_T36, 0, 0), (8, ⟨"PepperTables", "odds", "(II)I"⟩, prog_1_method_46_code, 8, (some .int), ee_T37, 0, 0), (8, ⟨"PepperTables", "pairs", "()I"⟩, prog_1_method_32_code, 6, (some .int), ee_T38, 0, 0)]
set_option maxRecDepth 100000 in
theorem ee_M2ok : ee_M2.all ee_Mb = true := by decide +kernel
end
section
/- 39: PepperTables.person(II)I -/
def ee_T39 : List ee_en := [(0, .aload_n 0, 1, 3, 0, 0, 0), (1, .iload_n 1, 1, 2, 0, 0, 0), (2, .invokevirtual 116, 3, 23, 20, 0, 0), (5, .ifCond .ne 6, 3, 12, 0, 0, 0), (8, .bipush (-2), 2, 0, 0, 0, 0), (10, .ireturn, 1, 21, 0, 0, 0), (11, .iload_n 2, 1, 2, 0, 0, 0), (12, .tableswitch 117 0 4 #[36, 46, 58, 79, 100], 36, 13, 0, 0, 0), (48, .aload_n 0, 1, 3, 0, 0, 0), (49, .getfield 19, 3, 14, 1, 0, 0), (52, .getfield 120, 3, 14, 31, 0, 0), (55, .iload_n 1, 1, 2, 0, 0, 0), (56, .iaload, 1, 22, 0, 0, 0), (57, .ireturn, 1, 21, 0, 0, 0), (58, .aload_n 0, 1, 3, 0, 0, 0), (59, .getfield 26, 3, 14, 2, 0, 0), (62, .getfield 123, 3, 14, 15, 0, 0), (65, .iload_n 1, 1, 2, 0, 0, 0), (66, .ishr, 1, 7, 0, 0, 0), (67, .iconst 1, 1, 0, 0, 0, 0), (68, .iand, 1, 7, 0, 0, 0), (69, .ireturn, 1, 21, 0, 0, 0), (70, .aload_n 0, 1, 3, 0, 0, 0), (71, .getfield 26, 3, 14, 2, 0, 0), (74, .aload_n 0, 1, 3, 0, 0, 0), (75, .getfield 19, 3, 14, 1, 0, 0), (78, .invokevirtual 126, 3, 23, 8, 0, 0), (81, .aload_n 0, 1, 3, 0, 0, 0), (82, .getfield 19, 3, 14, 1, 0, 0), (85, .iload_n 1, 1, 2, 0, 0, 0), (86, .invokevirtual 130, 3, 20, 0, 9, 0), (89, .iand, 1, 7, 0, 0, 0), (90, .ireturn, 1, 21, 0, 0, 0), (91, .aload_n 0, 1, 3, 0, 0, 0), (92, .getfield 26, 3, 14, 2, 0, 0), (95, .aload_n 0, 1, 3, 0, 0, 0), (96, .getfield 19, 3, 14, 1, 0, 0), (99, .invokevirtual 126, 3, 23, 8, 0, 0), (102, .aload_n 0, 1, 3, 0, 0, 0), (103, .getfield 19, 3, 14, 1, 0, 0), (106, .iload_n 1, 1, 2, 0, 0, 0), (107, .invokevirtual 134, 3, 20, 0, 9, 0), (110, .iand, 1, 7, 0, 0, 0), (111, .ireturn, 1, 21, 0, 0, 0), (112, .aload_n 0, 1, 3, 0, 0, 0), (113, .getfield 26, 3, 14, 2, 0, 0), (116, .getfield 137, 3, 14, 16, 0, 0), (119, .aload_n 0, 1, 3, 0, 0, 0), (120, .getfield 19, 3, 14, 1, 0, 0), (123, .iload_n 1, 1, 2, 0, 0, 0), (124, .invokevirtual 134, 3, 20, 0, 9, 0), (127, .iand, 1, 7, 0, 0, 0), (128, .ireturn, 1, 21, 0, 0, 0), (129, .bipush (-2), 2, 0, 0, 0, 0), (131, .ireturn, 1, 21, 0, 0, 0)]
/- 40: PepperTables.pour(II)I -/
def ee_T40 : List ee_en := [(0, .aload_n 0, 1, 3, 0, 0, 0), (1, .iload_n 1, 1, 2, 0, 0, 0), (2, .invokevirtual 186, 3, 23, 10, 0, 0), (5, .ifCond .eq 29, 3, 12, 0, 0, 0), (8, .iload_n 2, 1, 2, 0, 0, 0), (9, .iconst (-1), 1, 0, 0, 0, 0), (10, .if_icmp .eq 11, 3, 12, 0, 0, 0), (13, .aload_n 0, 1, 3, 0, 0, 0), (14, .iload_n 2, 1, 2, 0, 0, 0), (15, .invokevirtual 155, 3, 23, 11, 0, 0), (18, .ifCond .eq 16, 3, 12, 0, 0, 0), (21, .aload_n 0, 1, 3, 0, 0, 0), (22, .getfield 26, 3, 14, 2, 0, 0), (25, .getfield 152, 3, 14, 27, 0, 0), (28, .iload_n 1, 1, 2, 0, 0, 0), (29, .iaload, 1, 22, 0, 0, 0), (30, .iload_n 2, 1, 2, 0, 0, 0), (31, .if_icmp .ne 6, 3, 12, 0, 0, 0), (34, .bipush (-2), 2, 0, 0, 0, 0), (36, .ireturn, 1, 21, 0, 0, 0), (37, .aload_n 0, 1, 3, 0, 0, 0), (38, .getfield 26, 3, 14, 2, 0, 0), (41, .getfield 152, 3, 14, 27, 0, 0), (44, .iload_n 1, 1, 2, 0, 0, 0), (45, .iaload, 1, 22, 0, 0, 0), (46, .istore_n 3, 1, 4, 0, 0, 0), (47, .aload_n 0, 1, 3, 0, 0, 0), (48, .getfield 26, 3, 14, 2, 0, 0), (51, .getfield 152, 3, 14, 27, 0, 0), (54, .iload_n 1, 1, 2, 0, 0, 0), (55, .iload_n 2, 1, 2, 0, 0, 0), (56, .iastore, 1, 17, 0, 0, 0), (57, .aload_n 0, 1, 3, 0, 0, 0), (58, .getfield 43, 3, 14, 5, 0, 0), (61, .aload_n 0, 1, 3, 0, 0, 0), (62, .getfield 26, 3, 14, 2, 0, 0), (65, .invokevirtual 175, 3, 23, 18, 0, 0), (68, .iload_n 3, 1, 2, 0, 0, 0), (69, .ireturn, 1, 21, 0, 0, 0)]
/- 41: PepperTables.rank()I -/
def ee_T41 : List ee_en := [(0, .aload_n 0, 1, 3, 0, 0, 0), (1, .getfield 57, 3, 14, 7, 0, 0), (4, .iconst 0, 1, 0, 0, 0, 0), (5, .putfield 103, 3, 15, 25, 0, 0), (8, .iconst 0, 1, 0, 0, 0, 0), (9, .istore_n 1, 1, 4, 0, 0, 0), (10, .iconst 0, 1, 0, 0, 0, 0), (11, .istore_n 2, 1, 4, 0, 0, 0), (12, .iload_n 2, 1, 2, 0, 0, 0), (13, .aload_n 0, 1, 3, 0, 0, 0), (14, .getfield 19, 3, 14, 1, 0, 0), (17, .getfield 236, 3, 14, 13, 0, 0), (20, .if_icmp .ge 34, 3, 12, 0, 0, 0), (23, .aload_n 0, 1, 3, 0, 0, 0), (24, .iload_n 1, 1, 2, 0, 0, 0), (25, .invokevirtual 288, 3, 20, 0, 9, 0), (28, .istore_n 3, 1, 4, 0, 0, 0), (29, .iload_n 3, 1, 2, 0, 0, 0), (30, .iconst (-1), 1, 0, 0, 0, 0), (31, .if_icmp .eq 17, 3, 12, 0, 0, 0), (34, .iload_n 1, 1, 2, 0, 0, 0), (35, .iconst 1, 1, 0, 0, 0, 0), (36, .iload_n 3, 1, 2, 0, 0, 0), (37, .ishl, 1, 7, 0, 0, 0), (38, .ior, 1, 7, 0, 0, 0), (39, .istore_n 1, 1, 4, 0, 0, 0), (40, .aload_n 0, 1, 3, 0, 0, 0), (41, .getfield 57, 3, 14, 7, 0, 0), (44, .iload_n 3, 1, 2, 0, 0, 0), (45, .invokevirtual 278, 3, 20, 0, 9, 0), (48, .iinc 2 1, 3, 6, 0, 0, 0), (51, .goto (-39), 3, 0, 0, 0, 0), (54, .aload_n 0, 1, 3, 0, 0, 0), (55, .getfield 19, 3, 14, 1, 0, 0), (58, .getfield 236, 3, 14, 13, 0, 0), (61, .ireturn, 1, 21, 0, 0, 0)]
/- 42: PepperTables.redo()Z -/
def ee_T42 : List ee_en := [(0, .aload_n 0, 1, 3, 0, 0, 0), (1, .getfield 43, 3, 14, 5, 0, 0), (4, .aload_n 0, 1, 3, 0, 0, 0), (5, .getfield 26, 3, 14, 2, 0, 0), (8, .invokevirtual 206, 3, 23, 30, 0, 0), (11, .ireturn, 1, 21, 0, 0, 0)]
/- 43: PepperTables.rise(I)I -/
def ee_T43 : List ee_en := [(0, .aload_n 0, 1, 3, 0, 0, 0), (1, .iload_n 1, 1, 2, 0, 0, 0), (2, .invokevirtual 116, 3, 23, 20, 0, 0), (5, .ifCond .eq 11, 3, 12, 0, 0, 0), (8, .aload_n 0, 1, 3, 0, 0, 0), (9, .iload_n 1, 1, 2, 0, 0, 0), (10, .invokevirtual 172, 3, 20, 0, 9, 0), (13, .ifCond .ne 5, 3, 12, 0, 0, 0), (16, .iconst (-1), 1, 0, 0, 0, 0), (17, .ireturn, 1, 21, 0, 0, 0), (18, .aload_n 0, 1, 3, 0, 0, 0), (19, .getfield 26, 3, 14, 2, 0, 0), (22, .dup, 1, 11, 0, 0, 0), (23, .getfield 123, 3, 14, 15, 0, 0), (26, .iconst 1, 1, 0, 0, 0, 0), (27, .iload_n 1, 1, 2, 0, 0, 0), (28, .ishl, 1, 7, 0, 0, 0), (29, .iconst (-1), 1, 0, 0, 0, 0), (30, .ixor, 1, 7, 0, 0, 0), (31, .iand, 1, 7, 0, 0, 0), (32, .putfield 123, 3, 15, 15, 0, 0), (35, .aload_n 0, 1, 3, 0, 0, 0), (36, .getfield 43, 3, 14, 5, 0, 0), (39, .aload_n 0, 1, 3, 0, 0, 0), (40, .getfield 26, 3, 14, 2, 0, 0), (43, .invokevirtual 175, 3, 23, 18, 0, 0), (46, .aload_n 0, 1, 3, 0, 0, 0), (47, .getfield 26, 3, 14, 2, 0, 0), (50, .getfield 123, 3, 14, 15, 0, 0), (53, .invokestatic 178, 3, 23, 16, 0, 0), (56, .ireturn, 1, 21, 0, 0, 0)]
/- 44: PepperTables.round(II)I -/
def ee_T44 : List ee_en := [(0, .aload_n 0, 1, 3, 0, 0, 0), (1, .getfield 57, 3, 14, 7, 0, 0), (4, .iconst 0, 1, 0, 0, 0, 0), (5, .putfield 103, 3, 15, 25, 0, 0), (8, .aload_n 0, 1, 3, 0, 0, 0), (9, .getfield 19, 3, 14, 1, 0, 0), (12, .getfield 233, 3, 14, 14, 0, 0), (15, .ifCond .eq 19, 3, 12, 0, 0, 0), (18, .iload_n 1, 1, 2, 0, 0, 0), (19, .ifCond .lt 15, 3, 12, 0, 0, 0), (22, .iload_n 1, 1, 2, 0, 0, 0), (23, .iconst 4, 1, 0, 0, 0, 0), (24, .if_icmp .gt 10, 3, 12, 0, 0, 0), (27, .iload_n 2, 1, 2, 0, 0, 0), (28, .invokestatic 209, 3, 23, 12, 0, 0), (31, .ifCond .ne 5, 3, 12, 0, 0, 0), (34, .iconst (-1), 1, 0, 0, 0, 0), (35, .ireturn, 1, 21, 0, 0, 0), (36, .aload_n 0, 1, 3, 0, 0, 0), (37, .iload_n 1, 1, 2, 0, 0, 0), (38, .invokevirtual 243, 3, 20, 0, 9, 0), (41, .iconst 1, 1, 0, 0, 0, 0), (42, .istore_n 3, 1, 4, 0, 0, 0), (43, .iconst 0, 1, 0, 0, 0, 0), (44, .istore 4, 2, 4, 0, 0, 0), (46, .iload 4, 2, 2, 0, 0, 0), (48, .iload_n 1, 1, 2, 0, 0, 0), (49, .if_icmp .ge 19, 3, 12, 0, 0, 0), (52, .iload_n 3, 1, 2, 0, 0, 0), (53, .aload_n 0, 1, 3, 0, 0, 0), (54, .getfield 19, 3, 14, 1, 0, 0), (57, .getfield 233, 3, 14, 14, 0, 0), (60, .imul, 1, 7, 0, 0, 0), (61, .istore_n 3, 1, 4, 0, 0, 0), (62, .iinc 4 1, 3, 6, 0, 0, 0), (65, .goto (-19), 3, 0, 0, 0, 0), (68, .iconst 0, 1, 0, 0, 0, 0), (69, .istore 4, 2, 4, 0, 0, 0), (71, .iconst (-1), 1, 0, 0, 0, 0), (72, .istore 5, 2, 4, 0, 0, 0), (74, .iconst 0, 1, 0, 0, 0, 0), (75, .istore 6, 2, 4, 0, 0, 0), (77, .iload 6, 2, 2, 0, 0, 0), (79, .iload_n 3, 1, 2, 0, 0, 0), (80, .if_icmp .ge 33, 3, 12, 0, 0, 0), (83, .aload_n 0, 1, 3, 0, 0, 0), (84, .iload 6, 2, 2, 0, 0, 0), (86, .iload_n 1, 1, 2, 0, 0, 0), (87, .invokevirtual 246, 3, 20, 0, 9, 0), (90, .istore 7, 2, 4, 0, 0, 0), (92, .iload 7, 2, 2, 0, 0, 0), (94, .iload 5, 2, 2, 0, 0, 0), (96, .if_icmp .le 11, 3, 12, 0, 0, 0), (99, .iload 6, 2, 2, 0, 0, 0), (101, .istore 4, 2, 4, 0, 0, 0), (103, .iload 7, 2, 2, 0, 0, 0), (105, .istore 5, 2, 4, 0, 0, 0), (107, .iinc 6 1, 3, 6, 0, 0, 0), (110, .goto (-33), 3, 0, 0, 0, 0), (113, .aload_n 0, 1, 3, 0, 0, 0), (114, .iload 4, 2, 2, 0, 0, 0), (116, .iload_n 1, 1, 2, 0, 0, 0), (117, .invokevirtual 249, 3, 20, 0, 9, 0), (120, .iload_n 2, 1, 2, 0, 0, 0), (121, .ifCond .ne 12, 3, 12, 0, 0, 0), (124, .iload 5, 2, 2, 0, 0, 0), (126, .sipush 1000, 3, 0, 0, 0, 0), (129, .idiv, 1, 8, 0, 0, 0), (130, .goto 9, 3, 0, 0, 0, 0), (133, .iload 5, 2, 2, 0, 0, 0), (135, .sipush 1000, 3, 0, 0, 0, 0), (138, .irem, 1, 8, 0, 0, 0), (139, .ireturn, 1, 21, 0, 0, 0)]
/- 45: PepperTables.rows(I)I -/
def ee_T45 : List ee_en := [(0, .aload_n 0, 1, 3, 0, 0, 0), (1, .getfield 64, 3, 14, 8, 0, 0), (4, .aload_n 0, 1, 3, 0, 0, 0), (5, .getfield 19, 3, 14, 1, 0, 0), (8, .aload_n 0, 1, 3, 0, 0, 0), (9, .getfield 36, 3, 14, 4, 0, 0), (12, .iload_n 1, 1, 2, 0, 0, 0), (13, .invokevirtual 307, 3, 23, 13, 0, 0), (16, .ireturn, 1, 21, 0, 0, 0)]
/- 46: PepperTables.rumour(II)I -/
def ee_T46 : List ee_en := [(0, .aload_n 0, 1, 3, 0, 0, 0), (1, .iload_n 1, 1, 2, 0, 0, 0), (2, .invokevirtual 116, 3, 23, 20, 0, 0), (5, .ifCond .eq 11, 3, 12, 0, 0, 0), (8, .aload_n 0, 1, 3, 0, 0, 0), (9, .iload_n 2, 1, 2, 0, 0, 0), (10, .invokevirtual 116, 3, 23, 20, 0, 0), (13, .ifCond .ne 5, 3, 12, 0, 0, 0), (16, .iconst (-1), 1, 0, 0, 0, 0), (17, .ireturn, 1, 21, 0, 0, 0), (18, .iconst 1, 1, 0, 0, 0, 0), (19, .iload_n 1, 1, 2, 0, 0, 0), (20, .ishl, 1, 7, 0, 0, 0), (21, .istore_n 3, 1, 4, 0, 0, 0), (22, .iconst 0, 1, 0, 0, 0, 0), (23, .istore 4, 2, 4, 0, 0, 0), (25, .iload 4, 2, 2, 0, 0, 0), (27, .aload_n 0, 1, 3, 0, 0, 0), (28, .getfield 19, 3, 14, 1, 0, 0), (31, .getfield 236, 3, 14, 13, 0, 0), (34, .if_icmp .ge 38, 3, 12, 0, 0, 0), (37, .iload_n 3, 1, 2, 0, 0, 0), (38, .iload_n 2, 1, 2, 0, 0, 0), (39, .ishr, 1, 7, 0, 0, 0), (40, .iconst 1, 1, 0, 0, 0, 0), (41, .iand, 1, 7, 0, 0, 0), (42, .ifCond .eq 6, 3, 12, 0, 0, 0), (45, .iload 4, 2, 2, 0, 0, 0), (47, .ireturn, 1, 21, 0, 0, 0), (48, .iload_n 3, 1, 2, 0, 0, 0), (49, .aload_n 0, 1, 3, 0, 0, 0), (50, .getfield 19, 3, 14, 1, 0, 0), (53, .iload_n 3, 1, 2, 0, 0, 0), (54, .aload_n 0, 1, 3, 0, 0, 0), (55, .getfield 26, 3, 14, 2, 0, 0), (58, .getfield 137, 3, 14, 16, 0, 0), (61, .invokevirtual 285, 3, 20, 0, 9, 0), (64, .ior, 1, 7, 0, 0, 0), (65, .istore_n 3, 1, 4, 0, 0, 0), (66, .iinc 4 1, 3, 6, 0, 0, 0), (69, .goto (-44), 3, 0, 0, 0, 0), (72, .iconst (-1), 1, 0, 0, 0, 0), (73, .ireturn, 1, 21, 0, 0, 0)]
/- 47: PepperTables.sack(II)I -/
def ee_T47 : List ee_en := [(0, .aload_n 0, 1, 3, 0, 0, 0), (1, .iload_n 1, 1, 2, 0, 0, 0), (2, .invokevirtual 155, 3, 23, 11, 0, 0), (5, .ifCond .ne 5, 3, 12, 0, 0, 0), (8, .iconst (-1), 1, 0, 0, 0, 0), (9, .ireturn, 1, 21, 0, 0, 0), (10, .iload_n 2, 1, 2, 0, 0, 0), (11, .tableswitch 68 0 2 #[25, 45, 58], 25, 13, 0, 0, 0), (36, .aload_n 0, 1, 3, 0, 0, 0), (37, .getfield 19, 3, 14, 1, 0, 0), (40, .aload_n 0, 1, 3, 0, 0, 0), (41, .getfield 26, 3, 14, 2, 0, 0), (44, .aload_n 0, 1, 3, 0, 0, 0), (45, .getfield 19, 3, 14, 1, 0, 0), (48, .iload_n 1, 1, 2, 0, 0, 0), (49, .invokevirtual 158, 3, 20, 0, 9, 0), (52, .invokevirtual 162, 3, 23, 9, 0, 0), (55, .ireturn, 1, 21, 0, 0, 0), (56, .aload_n 0, 1, 3, 0, 0, 0), (57, .getfield 26, 3, 14, 2, 0, 0), (60, .aload_n 0, 1, 3, 0, 0, 0), (61, .getfield 19, 3, 14, 1, 0, 0), (64, .iload_n 1, 1, 2, 0, 0, 0), (65, .invokevirtual 158, 3, 20, 0, 9, 0), (68, .ireturn, 1, 21, 0, 0, 0), (69, .aload_n 0, 1, 3, 0, 0, 0), (70, .getfield 26, 3, 14, 2, 0, 0), (73, .getfield 165, 3, 14, 30, 0, 0), (76, .iload_n 1, 1, 2, 0, 0, 0), (77, .iaload, 1, 22, 0, 0, 0), (78, .ireturn, 1, 21, 0, 0, 0), (79, .iconst (-1), 1, 0, 0, 0, 0), (80, .ireturn, 1, 21, 0, 0, 0)]
/- 48: PepperTables.scandal()I -/
def ee_T48 : List ee_en := [(0, .aload_n 0, 1, 3, 0, 0, 0), (1, .getfield 19, 3, 14, 1, 0, 0), (4, .aload_n 0, 1, 3, 0, 0, 0), (5, .getfield 26, 3, 14, 2, 0, 0), (8, .getfield 137, 3, 14, 16, 0, 0), (11, .invokevirtual 162, 3, 23, 9, 0, 0), (14, .ireturn, 1, 21, 0, 0, 0)]
/- 49: PepperTables.send(II)I -/
def ee_T49 : List ee_en := [(0, .aload_n 0, 1, 3, 0, 0, 0), (1, .iload_n 1, 1, 2, 0, 0, 0), (2, .invokevirtual 155, 3, 23, 11, 0, 0), (5, .ifCond .eq 10, 3, 12, 0, 0, 0), (8, .iload_n 2, 1, 2, 0, 0, 0), (9, .invokestatic 209, 3, 23, 12, 0, 0), (12, .ifCond .ne 5, 3, 12, 0, 0, 0), (15, .iconst (-1), 1, 0, 0, 0, 0), (16, .ireturn, 1, 21, 0, 0, 0), (17, .aload_n 0, 1, 3, 0, 0, 0), (18, .getfield 36, 3, 14, 4, 0, 0), (21, .aload_n 0, 1, 3, 0, 0, 0), (22, .getfield 19, 3, 14, 1, 0, 0), (25, .aload_n 0, 1, 3, 0, 0, 0), (26, .getfield 26, 3, 14, 2, 0, 0), (29, .iload_n 1, 1, 2, 0, 0, 0), (30, .invokevirtual 215, 3, 20, 0, 9, 0), (33, .iconst (-1), 1, 0, 0, 0, 0), (34, .istore_n 3, 1, 4, 0, 0, 0), (35, .iconst 0, 1, 0, 0, 0, 0), (36, .istore 4, 2, 4, 0, 0, 0), (38, .iload 4, 2, 2, 0, 0, 0), (40, .aload_n 0, 1, 3, 0, 0, 0), (41, .getfield 26, 3, 14, 2, 0, 0), (44, .getfield 123, 3, 14, 15, 0, 0), (47, .if_icmp .gt 74, 3, 12, 0, 0, 0), (50, .iload 4, 2, 2, 0, 0, 0), (52, .aload_n 0, 1, 3, 0, 0, 0), (53, .getfield 26, 3, 14, 2, 0, 0), (56, .getfield 123, 3, 14, 15, 0, 0), (59, .iconst (-1), 1, 0, 0, 0, 0), (60, .ixor, 1, 7, 0, 0, 0), (61, .iand, 1, 7, 0, 0, 0), (62, .ifCond .ne 7, 3, 12, 0, 0, 0), (65, .iconst 1, 1, 0, 0, 0, 0), (66, .goto 4, 3, 0, 0, 0, 0), (69, .iconst 0, 1, 0, 0, 0, 0), (70, .istore 5, 2, 4, 0, 0, 0), (72, .iload 5, 2, 2, 0, 0, 0), (74, .ifCond .eq 41, 3, 12, 0, 0, 0), (77, .aload_n 0, 1, 3, 0, 0, 0), (78, .getfield 36, 3, 14, 4, 0, 0), (81, .aload_n 0, 1, 3, 0, 0, 0), (82, .getfield 19, 3, 14, 1, 0, 0), (85, .aload_n 0, 1, 3, 0, 0, 0), (86, .getfield 26, 3, 14, 2, 0, 0), (89, .getfield 123, 3, 14, 15, 0, 0), (92, .iload 4, 2, 2, 0, 0, 0), (94, .iconst (-1), 1, 0, 0, 0, 0), (95, .ixor, 1, 7, 0, 0, 0), (96, .iand, 1, 7, 0, 0, 0), (97, .invokevirtual 222, 3, 20, 0, 9, 0), (100, .ifCond .ne 15, 3, 12, 0, 0, 0), (103, .iload 4, 2, 2, 0, 0, 0), (105, .iload_n 3, 1, 2, 0, 0, 0), (106, .invokestatic 225, 3, 20, 0, 9, 0), (109, .ifCond .eq 6, 3, 12, 0, 0, 0), (112, .iload 4, 2, 2, 0, 0, 0), (114, .istore_n 3, 1, 4, 0, 0, 0), (115, .iinc 4 1, 3, 6, 0, 0, 0), (118, .goto (-80), 3, 0, 0, 0, 0), (121, .iload_n 3, 1, 2, 0, 0, 0), (122, .iload_n 2, 1, 2, 0, 0, 0), (123, .invokestatic 229, 3, 20, 0, 9, 0), (126, .ireturn, 1, 21, 0, 0, 0)]
def ee_M3 : List ee_me := [(8, ⟨"PepperTables", "person", "(II)I"⟩, prog_1_method_6_code, 3, (some .int), ee_T39, 0, 0), (8, ⟨"PepperTables", "pour", "(II)I"⟩, prog_1_method_13_code, 4, (some .int), ee_T40, 0, 0), (8, ⟨"PepperTables", "rank", "()I"⟩, prog_1_method_41_code, 4, (some .int), ee_T41, 0, 0), (8, ⟨"PepperTables", "redo", "()Z"⟩, prog_1_method_16_code, 1, (some .boolean), ee_T42, 0, 0), (8, ⟨"PepperTables", "rise", "(I)I"⟩, prog_1_method_11_code, 2, (some .int), ee_T43, 0, 0), (8, ⟨"PepperTables", "round", "(II)I"⟩, prog_1_method_22_code, 8, (some .int), ee_T44, 0, 0), (8, ⟨"PepperTables", "rows", "(I)I"⟩, prog_1_method_51_code, 2, (some .int), ee_T45, 0, 0), (8, ⟨"PepperTables", "rumour", "(II)I"⟩, prog_1_method_37_code, 5, (some .int), ee_T46, 0, 0), (8, ⟨"PepperTables", "sack", "(II)I"⟩, prog_1_method_8_code, 3, (some .int), ee_T47, 0, 0), (8, ⟨"PepperTables", "scandal", "()I"⟩, prog_1_method_44_code, 1, (some .int), ee_T48, 0, 0), (8, ⟨"PepperTables", "send", "(II)I"⟩, prog_1_method_19_code, 6, (some .int), ee_T49, 0, 0)]
set_option maxRecDepth 100000 in
theorem ee_M3ok : ee_M3.all ee_Mb = true := by decide +kernel
end
section
/- 50: PepperTables.shyest(I)I -/
def ee_T50 : List ee_en := [(0, .aload_n 0, 1, 3, 0, 0, 0), (1, .iload_n 1, 1, 2, 0, 0, 0), (2, .invokevirtual 186, 3, 23, 10, 0, 0), (5, .ifCond .eq 19, 3, 12, 0, 0, 0), (8, .aload_n 0, 1, 3, 0, 0, 0), (9, .aload_n 0, 1, 3, 0, 0, 0), (10, .getfield 26, 3, 14, 2, 0, 0), (13, .getfield 152, 3, 14, 27, 0, 0), (16, .iload_n 1, 1, 2, 0, 0, 0), (17, .iaload, 1, 22, 0, 0, 0), (18, .invokevirtual 155, 3, 23, 11, 0, 0), (21, .ifCond .ne 5, 3, 12, 0, 0, 0), (24, .iconst (-1), 1, 0, 0, 0, 0), (25, .ireturn, 1, 21, 0, 0, 0), (26, .aload_n 0, 1, 3, 0, 0, 0), (27, .getfield 19, 3, 14, 1, 0, 0), (30, .aload_n 0, 1, 3, 0, 0, 0), (31, .getfield 26, 3, 14, 2, 0, 0), (34, .getfield 123, 3, 14, 15, 0, 0), (37, .invokevirtual 260, 3, 23, 28, 0, 0), (40, .iload_n 1, 1, 2, 0, 0, 0), (41, .ishr, 1, 7, 0, 0, 0), (42, .iconst 1, 1, 0, 0, 0, 0), (43, .iand, 1, 7, 0, 0, 0), (44, .ifCond .ne 5, 3, 12, 0, 0, 0), (47, .iconst (-1), 1, 0, 0, 0, 0), (48, .ireturn, 1, 21, 0, 0, 0), (49, .aload_n 0, 1, 3, 0, 0, 0), (50, .getfield 36, 3, 14, 4, 0, 0), (53, .aload_n 0, 1, 3, 0, 0, 0), (54, .getfield 19, 3, 14, 1, 0, 0), (57, .aload_n 0, 1, 3, 0, 0, 0), (58, .getfield 26, 3, 14, 2, 0, 0), (61, .aload_n 0, 1, 3, 0, 0, 0), (62, .getfield 26, 3, 14, 2, 0, 0), (65, .getfield 152, 3, 14, 27, 0, 0), (68, .iload_n 1, 1, 2, 0, 0, 0), (69, .iaload, 1, 22, 0, 0, 0), (70, .aload_n 0, 1, 3, 0, 0, 0), (71, .getfield 26, 3, 14, 2, 0, 0), (74, .getfield 123, 3, 14, 15, 0, 0), (77, .invokestatic 178, 3, 23, 16, 0, 0), (80, .invokevirtual 263, 3, 20, 0, 9, 0), (83, .bipush 9, 2, 0, 0, 0, 0), (85, .istore_n 2, 1, 4, 0, 0, 0), (86, .iload_n 2, 1, 2, 0, 0, 0), (87, .ifCond .lt 27, 3, 12, 0, 0, 0), (90, .aload_n 0, 1, 3, 0, 0, 0), (91, .getfield 36, 3, 14, 4, 0, 0), (94, .aload_n 0, 1, 3, 0, 0, 0), (95, .getfield 19, 3, 14, 1, 0, 0), (98, .iload_n 1, 1, 2, 0, 0, 0), (99, .iload_n 2, 1, 2, 0, 0, 0), (100, .invokevirtual 267, 3, 20, 0, 9, 0), (103, .ifCond .eq 5, 3, 12, 0, 0, 0), (106, .iload_n 2, 1, 2, 0, 0, 0), (107, .ireturn, 1, 21, 0, 0, 0), (108, .iinc 2 (-1), 3, 6, 0, 0, 0), (111, .goto (-25), 3, 0, 0, 0, 0), (114, .iconst (-1), 1, 0, 0, 0, 0), (115, .ireturn, 1, 21, 0, 0, 0)]
/- 51: PepperTables.sit(I)I -/
def ee_T51 : List ee_en := [(0, .aload_n 0, 1, 3, 0, 0, 0), (1, .iload_n 1, 1, 2, 0, 0, 0), (2, .invokevirtual 116, 3, 23, 20, 0, 0), (5, .ifCond .eq 11, 3, 12, 0, 0, 0), (8, .aload_n 0, 1, 3, 0, 0, 0), (9, .iload_n 1, 1, 2, 0, 0, 0), (10, .invokevirtual 172, 3, 20, 0, 9, 0), (13, .ifCond .eq 5, 3, 12, 0, 0, 0), (16, .iconst (-1), 1, 0, 0, 0, 0), (17, .ireturn, 1, 21, 0, 0, 0), (18, .aload_n 0, 1, 3, 0, 0, 0), (19, .getfield 26, 3, 14, 2, 0, 0), (22, .dup, 1, 11, 0, 0, 0), (23, .getfield 123, 3, 14, 15, 0, 0), (26, .iconst 1, 1, 0, 0, 0, 0), (27, .iload_n 1, 1, 2, 0, 0, 0), (28, .ishl, 1, 7, 0, 0, 0), (29, .ior, 1, 7, 0, 0, 0), (30, .putfield 123, 3, 15, 15, 0, 0), (33, .aload_n 0, 1, 3, 0, 0, 0), (34, .getfield 43, 3, 14, 5, 0, 0), (37, .aload_n 0, 1, 3, 0, 0, 0), (38, .getfield 26, 3, 14, 2, 0, 0), (41, .invokevirtual 175, 3, 23, 18, 0, 0), (44, .aload_n 0, 1, 3, 0, 0, 0), (45, .getfield 26, 3, 14, 2, 0, 0), (48, .getfield 123, 3, 14, 15, 0, 0), (51, .invokestatic 178, 3, 23, 16, 0, 0), (54, .ireturn, 1, 21, 0, 0, 0)]
/- 52: PepperTables.sneezed()I -/
def ee_T52 : List ee_en := [(0, .iconst (-1), 1, 0, 0, 0, 0), (1, .istore_n 1, 1, 4, 0, 0, 0), (2, .aload_n 0, 1, 3, 0, 0, 0), (3, .getfield 26, 3, 14, 2, 0, 0), (6, .aload_n 0, 1, 3, 0, 0, 0), (7, .getfield 19, 3, 14, 1, 0, 0), (10, .invokevirtual 126, 3, 23, 8, 0, 0), (13, .istore_n 2, 1, 4, 0, 0, 0), (14, .iconst 0, 1, 0, 0, 0, 0), (15, .istore_n 3, 1, 4, 0, 0, 0), (16, .iload_n 3, 1, 2, 0, 0, 0), (17, .aload_n 0, 1, 3, 0, 0, 0), (18, .getfield 19, 3, 14, 1, 0, 0), (21, .getfield 107, 3, 14, 12, 0, 0), (24, .if_icmp .ge 73, 3, 12, 0, 0, 0), (27, .iload_n 2, 1, 2, 0, 0, 0), (28, .iload_n 3, 1, 2, 0, 0, 0), (29, .ishr, 1, 7, 0, 0, 0), (30, .iconst 1, 1, 0, 0, 0, 0), (31, .iand, 1, 7, 0, 0, 0), (32, .ifCond .eq 23, 3, 12, 0, 0, 0), (35, .aload_n 0, 1, 3, 0, 0, 0), (36, .aload_n 0, 1, 3, 0, 0, 0), (37, .getfield 19, 3, 14, 1, 0, 0), (40, .getfield 143, 3, 14, 32, 0, 0), (43, .iload_n 3, 1, 2, 0, 0, 0), (44, .iaload, 1, 22, 0, 0, 0), (45, .invokevirtual 172, 3, 20, 0, 9, 0), (48, .ifCond .eq 7, 3, 12, 0, 0, 0), (51, .iconst 1, 1, 0, 0, 0, 0), (52, .goto 4, 3, 0, 0, 0, 0), (55, .iconst 0, 1, 0, 0, 0, 0), (56, .istore 4, 2, 4, 0, 0, 0), (58, .iload 4, 2, 2, 0, 0, 0), (60, .ifCond .eq 31, 3, 12, 0, 0, 0), (63, .iload_n 1, 1, 2, 0, 0, 0), (64, .iconst (-1), 1, 0, 0, 0, 0), (65, .if_icmp .eq 24, 3, 12, 0, 0, 0), (68, .aload_n 0, 1, 3, 0, 0, 0), (69, .getfield 19, 3, 14, 1, 0, 0), (72, .getfield 149, 3, 14, 33, 0, 0), (75, .iload_n 3, 1, 2, 0, 0, 0), (76, .iaload, 1, 22, 0, 0, 0), (77, .aload_n 0, 1, 3, 0, 0, 0), (78, .getfield 19, 3, 14, 1, 0, 0), (81, .getfield 149, 3, 14, 33, 0, 0), (84, .iload_n 1, 1, 2, 0, 0, 0), (85, .iaload, 1, 22, 0, 0, 0), (86, .if_icmp .le 5, 3, 12, 0, 0, 0), (89, .iload_n 3, 1, 2, 0, 0, 0), (90, .istore_n 1, 1, 4, 0, 0, 0), (91, .iinc 3 1, 3, 6, 0, 0, 0), (94, .goto (-78), 3, 0, 0, 0, 0), (97, .iload_n 1, 1, 2, 0, 0, 0), (98, .ireturn, 1, 21, 0, 0, 0)]
/- 53: PepperTables.spark(I)I -/
def ee_T53 : List ee_en := [(0, .aload_n 0, 1, 3, 0, 0, 0), (1, .iload_n 1, 1, 2, 0, 0, 0), (2, .invokevirtual 155, 3, 23, 11, 0, 0), (5, .ifCond .ne 5, 3, 12, 0, 0, 0), (8, .iconst (-1), 1, 0, 0, 0, 0), (9, .ireturn, 1, 21, 0, 0, 0), (10, .aload_n 0, 1, 3, 0, 0, 0), (11, .getfield 36, 3, 14, 4, 0, 0), (14, .aload_n 0, 1, 3, 0, 0, 0), (15, .getfield 19, 3, 14, 1, 0, 0), (18, .aload_n 0, 1, 3, 0, 0, 0), (19, .getfield 26, 3, 14, 2, 0, 0), (22, .iload_n 1, 1, 2, 0, 0, 0), (23, .invokevirtual 215, 3, 20, 0, 9, 0), (26, .iconst (-1), 1, 0, 0, 0, 0), (27, .istore_n 2, 1, 4, 0, 0, 0), (28, .iconst 0, 1, 0, 0, 0, 0), (29, .istore_n 3, 1, 4, 0, 0, 0), (30, .iload_n 3, 1, 2, 0, 0, 0), (31, .aload_n 0, 1, 3, 0, 0, 0), (32, .getfield 19, 3, 14, 1, 0, 0), (35, .invokevirtual 219, 3, 20, 0, 9, 0), (38, .if_icmp .gt 60, 3, 12, 0, 0, 0), (41, .aload_n 0, 1, 3, 0, 0, 0), (42, .getfield 26, 3, 14, 2, 0, 0), (45, .getfield 123, 3, 14, 15, 0, 0), (48, .iload_n 3, 1, 2, 0, 0, 0), (49, .iconst (-1), 1, 0, 0, 0, 0), (50, .ixor, 1, 7, 0, 0, 0), (51, .iand, 1, 7, 0, 0, 0), (52, .ifCond .ne 7, 3, 12, 0, 0, 0), (55, .iconst 1, 1, 0, 0, 0, 0), (56, .goto 4, 3, 0, 0, 0, 0), (59, .iconst 0, 1, 0, 0, 0, 0), (60, .istore 4, 2, 4, 0, 0, 0), (62, .iload 4, 2, 2, 0, 0, 0), (64, .ifCond .eq 28, 3, 12, 0, 0, 0), (67, .aload_n 0, 1, 3, 0, 0, 0), (68, .getfield 36, 3, 14, 4, 0, 0), (71, .aload_n 0, 1, 3, 0, 0, 0), (72, .getfield 19, 3, 14, 1, 0, 0), (75, .iload_n 3, 1, 2, 0, 0, 0), (76, .invokevirtual 222, 3, 20, 0, 9, 0), (79, .ifCond .eq 13, 3, 12, 0, 0, 0), (82, .iload_n 3, 1, 2, 0, 0, 0), (83, .iload_n 2, 1, 2, 0, 0, 0), (84, .invokestatic 225, 3, 20, 0, 9, 0), (87, .ifCond .eq 5, 3, 12, 0, 0, 0), (90, .iload_n 3, 1, 2, 0, 0, 0), (91, .istore_n 2, 1, 4, 0, 0, 0), (92, .iinc 3 1, 3, 6, 0, 0, 0), (95, .goto (-65), 3, 0, 0, 0, 0), (98, .iload_n 2, 1, 2, 0, 0, 0), (99, .iconst (-1), 1, 0, 0, 0, 0), (100, .if_icmp .ne 7, 3, 12, 0, 0, 0), (103, .iconst (-1), 1, 0, 0, 0, 0), (104, .goto 18, 3, 0, 0, 0, 0), (107, .iload_n 2, 1, 2, 0, 0, 0), (108, .invokestatic 178, 3, 23, 16, 0, 0), (111, .aload_n 0, 1, 3, 0, 0, 0), (112, .getfield 26, 3, 14, 2, 0, 0), (115, .getfield 123, 3, 14, 15, 0, 0), (118, .invokestatic 178, 3, 23, 16, 0, 0), (121, .isub, 1, 7, 0, 0, 0), (122, .ireturn, 1, 21, 0, 0, 0)]
/- 54: PepperTables.spine(I)I -/
def ee_T54 : List ee_en := [(0, .aload_n 0, 1, 3, 0, 0, 0), (1, .iload_n 1, 1, 2, 0, 0, 0), (2, .invokevirtual 155, 3, 23, 11, 0, 0), (5, .ifCond .ne 5, 3, 12, 0, 0, 0), (8, .iconst (-1), 1, 0, 0, 0, 0), (9, .ireturn, 1, 21, 0, 0, 0), (10, .aload_n 0, 1, 3, 0, 0, 0), (11, .getfield 36, 3, 14, 4, 0, 0), (14, .aload_n 0, 1, 3, 0, 0, 0), (15, .getfield 19, 3, 14, 1, 0, 0), (18, .aload_n 0, 1, 3, 0, 0, 0), (19, .getfield 26, 3, 14, 2, 0, 0), (22, .iload_n 1, 1, 2, 0, 0, 0), (23, .invokevirtual 215, 3, 20, 0, 9, 0), (26, .iconst (-1), 1, 0, 0, 0, 0), (27, .istore_n 2, 1, 4, 0, 0, 0), (28, .iconst 0, 1, 0, 0, 0, 0), (29, .istore_n 3, 1, 4, 0, 0, 0), (30, .iload_n 3, 1, 2, 0, 0, 0), (31, .aload_n 0, 1, 3, 0, 0, 0), (32, .getfield 19, 3, 14, 1, 0, 0), (35, .invokevirtual 219, 3, 20, 0, 9, 0), (38, .if_icmp .gt 28, 3, 12, 0, 0, 0), (41, .aload_n 0, 1, 3, 0, 0, 0), (42, .getfield 36, 3, 14, 4, 0, 0), (45, .aload_n 0, 1, 3, 0, 0, 0), (46, .getfield 19, 3, 14, 1, 0, 0), (49, .iload_n 3, 1, 2, 0, 0, 0), (50, .invokevirtual 222, 3, 20, 0, 9, 0), (53, .ifCond .eq 7, 3, 12, 0, 0, 0), (56, .iload_n 2, 1, 2, 0, 0, 0), (57, .iload_n 3, 1, 2, 0, 0, 0), (58, .iand, 1, 7, 0, 0, 0), (59, .istore_n 2, 1, 4, 0, 0, 0), (60, .iinc 3 1, 3, 6, 0, 0, 0), (63, .goto (-33), 3, 0, 0, 0, 0), (66, .iload_n 2, 1, 2, 0, 0, 0), (67, .ireturn, 1, 21, 0, 0, 0)]
/- 55: PepperTables.store()I -/
def ee_T55 : List ee_en := [(0, .aload_n 0, 1, 3, 0, 0, 0), (1, .getfield 10, 3, 14, 0, 0, 0), (4, .invokevirtual 86, 3, 23, 31, 0, 0), (7, .ifCond .ne 5, 3, 12, 0, 0, 0), (10, .iconst (-1), 1, 0, 0, 0, 0), (11, .ireturn, 1, 21, 0, 0, 0), (12, .aload_n 0, 1, 3, 0, 0, 0), (13, .getfield 19, 3, 14, 1, 0, 0), (16, .astore_n 1, 1, 5, 0, 0, 0), (17, .aload_n 0, 1, 3, 0, 0, 0), (18, .aload_n 0, 1, 3, 0, 0, 0), (19, .getfield 10, 3, 14, 0, 0, 0), (22, .getfield 90, 3, 14, 34, 0, 0), (25, .putfield 19, 3, 15, 1, 0, 0), (28, .aload_n 0, 1, 3, 0, 0, 0), (29, .getfield 10, 3, 14, 0, 0, 0), (32, .aload_n 1, 1, 3, 0, 0, 0), (33, .putfield 90, 3, 15, 34, 0, 0), (36, .aload_n 0, 1, 3, 0, 0, 0), (37, .getfield 10, 3, 14, 0, 0, 0), (40, .iconst 0, 1, 0, 0, 0, 0), (41, .putfield 78, 3, 15, 23, 0, 0), (44, .aload_n 0, 1, 3, 0, 0, 0), (45, .getfield 26, 3, 14, 2, 0, 0), (48, .aload_n 0, 1, 3, 0, 0, 0), (49, .getfield 19, 3, 14, 1, 0, 0), (52, .invokevirtual 93, 3, 23, 32, 0, 0), (55, .aload_n 0, 1, 3, 0, 0, 0), (56, .getfield 43, 3, 14, 5, 0, 0), (59, .aload_n 0, 1, 3, 0, 0, 0), (60, .getfield 26, 3, 14, 2, 0, 0), (63, .invokevirtual 97, 3, 23, 15, 0, 0), (66, .aload_n 0, 1, 3, 0, 0, 0), (67, .getfield 50, 3, 14, 6, 0, 0), (70, .invokevirtual 101, 3, 23, 33, 0, 0), (73, .aload_n 0, 1, 3, 0, 0, 0), (74, .getfield 57, 3, 14, 7, 0, 0), (77, .iconst 0, 1, 0, 0, 0, 0), (78, .putfield 103, 3, 15, 25, 0, 0), (81, .aload_n 0, 1, 3, 0, 0, 0), (82, .getfield 64, 3, 14, 8, 0, 0), (85, .invokevirtual 106, 3, 23, 34, 0, 0), (88, .aload_n 0, 1, 3, 0, 0, 0), (89, .getfield 19, 3, 14, 1, 0, 0), (92, .getfield 107, 3, 14, 12, 0, 0), (95, .ireturn, 1, 21, 0, 0, 0)]
/- 56: PepperTables.storm()I -/
def ee_T56 : List ee_en := [(0, .aload_n 0, 1, 3, 0, 0, 0), (1, .getfield 19, 3, 14, 1, 0, 0), (4, .aload_n 0, 1, 3, 0, 0, 0), (5, .getfield 36, 3, 14, 4, 0, 0), (8, .aload_n 0, 1, 3, 0, 0, 0), (9, .getfield 19, 3, 14, 1, 0, 0), (12, .aload_n 0, 1, 3, 0, 0, 0), (13, .getfield 26, 3, 14, 2, 0, 0), (16, .invokevirtual 256, 3, 23, 19, 0, 0), (19, .invokevirtual 162, 3, 23, 9, 0, 0), (22, .ireturn, 1, 21, 0, 0, 0)]
/- 57: PepperTables.sure(II)I -/
def ee_T57 : List ee_en := [(0, .iload_n 1, 1, 2, 0, 0, 0), (1, .ifCond .ne 22, 3, 12, 0, 0, 0), (4, .aload_n 0, 1, 3, 0, 0, 0), (5, .getfield 19, 3, 14, 1, 0, 0), (8, .getfield 107, 3, 14, 12, 0, 0), (11, .iconst 1, 1, 0, 0, 0, 0), (12, .if_icmp .lt 7, 3, 12, 0, 0, 0), (15, .iconst 1, 1, 0, 0, 0, 0), (16, .goto 28, 3, 0, 0, 0, 0), (19, .iconst 0, 1, 0, 0, 0, 0), (20, .goto 24, 3, 0, 0, 0, 0), (23, .iload_n 1, 1, 2, 0, 0, 0), (24, .iconst 1, 1, 0, 0, 0, 0), (25, .if_icmp .ne 18, 3, 12, 0, 0, 0), (28, .aload_n 0, 1, 3, 0, 0, 0), (29, .getfield 19, 3, 14, 1, 0, 0), (32, .getfield 107, 3, 14, 12, 0, 0), (35, .iconst 2, 1, 0, 0, 0, 0), (36, .if_icmp .lt 7, 3, 12, 0, 0, 0), (39, .iconst 1, 1, 0, 0, 0, 0), (40, .goto 4, 3, 0, 0, 0, 0), (43, .iconst 0, 1, 0, 0, 0, 0), (44, .istore_n 3, 1, 4, 0, 0, 0), (45, .iload_n 3, 1, 2, 0, 0, 0), (46, .ifCond .eq 22, 3, 12, 0, 0, 0), (49, .aload_n 0, 1, 3, 0, 0, 0), (50, .getfield 64, 3, 14, 8, 0, 0), (53, .aload_n 0, 1, 3, 0, 0, 0), (54, .getfield 19, 3, 14, 1, 0, 0), (57, .aload_n 0, 1, 3, 0, 0, 0), (58, .getfield 36, 3, 14, 4, 0, 0), (61, .iload_n 2, 1, 2, 0, 0, 0), (62, .invokevirtual 307, 3, 23, 13, 0, 0), (65, .ifCond .ne 6, 3, 12, 0, 0, 0), (68, .bipush (-3), 2, 0, 0, 0, 0), (70, .ireturn, 1, 21, 0, 0, 0), (71, .aload_n 0, 1, 3, 0, 0, 0), (72, .getfield 64, 3, 14, 8, 0, 0), (75, .aload_n 0, 1, 3, 0, 0, 0), (76, .getfield 19, 3, 14, 1, 0, 0), (79, .iload_n 1, 1, 2, 0, 0, 0), (80, .ifCond .ne 7, 3, 12, 0, 0, 0), (83, .iconst 1, 1, 0, 0, 0, 0), (84, .goto 4, 3, 0, 0, 0, 0), (87, .iconst 0, 1, 0, 0, 0, 0), (88, .invokevirtual 311, 3, 20, 0, 9, 0), (91, .ireturn, 1, 21, 0, 0, 0)]
/- 58: PepperTables.table(III)I -/
def ee_T58 : List ee_en := [(0, .aload_n 0, 1, 3, 0, 0, 0), (1, .iload_n 2, 1, 2, 0, 0, 0), (2, .invokevirtual 155, 3, 23, 11, 0, 0), (5, .ifCond .eq 24, 3, 12, 0, 0, 0), (8, .iload_n 3, 1, 2, 0, 0, 0), (9, .invokestatic 209, 3, 23, 12, 0, 0), (12, .ifCond .eq 17, 3, 12, 0, 0, 0), (15, .iload_n 1, 1, 2, 0, 0, 0), (16, .aload_n 0, 1, 3, 0, 0, 0), (17, .getfield 19, 3, 14, 1, 0, 0), (20, .invokevirtual 212, 3, 23, 27, 0, 0), (23, .iconst (-1), 1, 0, 0, 0, 0), (24, .ixor, 1, 7, 0, 0, 0), (25, .iand, 1, 7, 0, 0, 0), (26, .ifCond .eq 5, 3, 12, 0, 0, 0), (29, .iconst (-1), 1, 0, 0, 0, 0), (30, .ireturn, 1, 21, 0, 0, 0), (31, .aload_n 0, 1, 3, 0, 0, 0), (32, .getfield 36, 3, 14, 4, 0, 0), (35, .aload_n 0, 1, 3, 0, 0, 0), (36, .getfield 19, 3, 14, 1, 0, 0), (39, .aload_n 0, 1, 3, 0, 0, 0), (40, .getfield 26, 3, 14, 2, 0, 0), (43, .iload_n 2, 1, 2, 0, 0, 0), (44, .invokevirtual 215, 3, 20, 0, 9, 0), (47, .iconst (-1), 1, 0, 0, 0, 0), (48, .istore 4, 2, 4, 0, 0, 0), (50, .iconst 0, 1, 0, 0, 0, 0), (51, .istore 5, 2, 4, 0, 0, 0), (53, .iload 5, 2, 2, 0, 0, 0), (55, .aload_n 0, 1, 3, 0, 0, 0), (56, .getfield 19, 3, 14, 1, 0, 0), (59, .invokevirtual 219, 3, 20, 0, 9, 0), (62, .if_icmp .gt 40, 3, 12, 0, 0, 0), (65, .aload_n 0, 1, 3, 0, 0, 0), (66, .getfield 36, 3, 14, 4, 0, 0), (69, .aload_n 0, 1, 3, 0, 0, 0), (70, .getfield 19, 3, 14, 1, 0, 0), (73, .iload 5, 2, 2, 0, 0, 0), (75, .invokevirtual 222, 3, 20, 0, 9, 0), (78, .iload_n 1, 1, 2, 0, 0, 0), (79, .if_icmp .ne 17, 3, 12, 0, 0, 0), (82, .iload 5, 2, 2, 0, 0, 0), (84, .iload 4, 2, 2, 0, 0, 0), (86, .invokestatic 225, 3, 20, 0, 9, 0), (89, .ifCond .eq 7, 3, 12, 0, 0, 0), (92, .iload 5, 2, 2, 0, 0, 0), (94, .istore 4, 2, 4, 0, 0, 0), (96, .iinc 5 1, 3, 6, 0, 0, 0), (99, .goto (-46), 3, 0, 0, 0, 0), (102, .iload 4, 2, 2, 0, 0, 0), (104, .iload_n 3, 1, 2, 0, 0, 0), (105, .invokestatic 229, 3, 20, 0, 9, 0), (108, .ireturn, 1, 21, 0, 0, 0)]
/- 59: PepperTables.thing(II)I -/
def ee_T59 : List ee_en := [(0, .aload_n 0, 1, 3, 0, 0, 0), (1, .iload_n 1, 1, 2, 0, 0, 0), (2, .invokevirtual 140, 3, 23, 23, 0, 0), (5, .ifCond .ne 6, 3, 12, 0, 0, 0), (8, .bipush (-2), 2, 0, 0, 0, 0), (10, .ireturn, 1, 21, 0, 0, 0), (11, .iload_n 2, 1, 2, 0, 0, 0), (12, .tableswitch 88 0 4 #[36, 46, 56, 66, 76], 36, 13, 0, 0, 0), (48, .aload_n 0, 1, 3, 0, 0, 0), (49, .getfield 19, 3, 14, 1, 0, 0), (52, .getfield 143, 3, 14, 32, 0, 0), (55, .iload_n 1, 1, 2, 0, 0, 0), (56, .iaload, 1, 22, 0, 0, 0), (57, .ireturn, 1, 21, 0, 0, 0), (58, .aload_n 0, 1, 3, 0, 0, 0), (59, .getfield 19, 3, 14, 1, 0, 0), (62, .getfield 146, 3, 14, 35, 0, 0), (65, .iload_n 1, 1, 2, 0, 0, 0), (66, .iaload, 1, 22, 0, 0, 0), (67, .ireturn, 1, 21, 0, 0, 0), (68, .aload_n 0, 1, 3, 0, 0, 0), (69, .getfield 19, 3, 14, 1, 0, 0), (72, .getfield 149, 3, 14, 33, 0, 0), (75, .iload_n 1, 1, 2, 0, 0, 0), (76, .iaload, 1, 22, 0, 0, 0), (77, .ireturn, 1, 21, 0, 0, 0), (78, .aload_n 0, 1, 3, 0, 0, 0), (79, .getfield 26, 3, 14, 2, 0, 0), (82, .getfield 152, 3, 14, 27, 0, 0), (85, .iload_n 1, 1, 2, 0, 0, 0), (86, .iaload, 1, 22, 0, 0, 0), (87, .ireturn, 1, 21, 0, 0, 0), (88, .aload_n 0, 1, 3, 0, 0, 0), (89, .getfield 26, 3, 14, 2, 0, 0), (92, .getfield 137, 3, 14, 16, 0, 0), (95, .iload_n 1, 1, 2, 0, 0, 0), (96, .ishr, 1, 7, 0, 0, 0), (97, .iconst 1, 1, 0, 0, 0, 0), (98, .iand, 1, 7, 0, 0, 0), (99, .ireturn, 1, 21, 0, 0, 0), (100, .bipush (-2), 2, 0, 0, 0, 0), (102, .ireturn, 1, 21, 0, 0, 0)]
def ee_M4 : List ee_me := [(8, ⟨"PepperTables", "shyest", "(I)I"⟩, prog_1_method_29_code, 3, (some .int), ee_T50, 0, 0), (8, ⟨"PepperTables", "sit", "(I)I"⟩, prog_1_method_10_code, 2, (some .int), ee_T51, 0, 0), (8, ⟨"PepperTables", "sneezed", "()I"⟩, prog_1_method_65_code, 5, (some .int), ee_T52, 0, 0), (8, ⟨"PepperTables", "spark", "(I)I"⟩, prog_1_method_20_code, 5, (some .int), ee_T53, 0, 0), (8, ⟨"PepperTables", "spine", "(I)I"⟩, prog_1_method_21_code, 4, (some .int), ee_T54, 0, 0), (8, ⟨"PepperTables", "store", "()I"⟩, prog_1_method_4_code, 2, (some .int), ee_T55, 0, 0), (8, ⟨"PepperTables", "storm", "()I"⟩, prog_1_method_26_code, 1, (some .int), ee_T56, 0, 0), (8, ⟨"PepperTables", "sure", "(II)I"⟩, prog_1_method_52_code, 4, (some .int), ee_T57, 0, 0), (8, ⟨"PepperTables", "table", "(III)I"⟩, prog_1_method_17_code, 6, (some .int), ee_T58, 0, 0), (8, ⟨"PepperTables", "thing", "(II)I"⟩, prog_1_method_7_code, 3, (some .int), ee_T59, 0, 0)]
set_option maxRecDepth 100000 in
theorem ee_M4ok : ee_M4.all ee_Mb = true := by decide +kernel
end
section
/- 60: PepperTables.undo()Z -/
def ee_T60 : List ee_en := [(0, .aload_n 0, 1, 3, 0, 0, 0), (1, .getfield 43, 3, 14, 5, 0, 0), (4, .aload_n 0, 1, 3, 0, 0, 0), (5, .getfield 26, 3, 14, 2, 0, 0), (8, .invokevirtual 202, 3, 23, 35, 0, 0), (11, .ireturn, 1, 21, 0, 0, 0)]
/- 61: PepperTables.untell(I)Z -/
def ee_T61 : List ee_en := [(0, .aload_n 0, 1, 3, 0, 0, 0), (1, .getfield 64, 3, 14, 8, 0, 0), (4, .iload_n 1, 1, 2, 0, 0, 0), (5, .invokevirtual 301, 3, 23, 36, 0, 0), (8, .ireturn, 1, 21, 0, 0, 0)]
/- 62: PepperTables.would(I)I -/
def ee_T62 : List ee_en := [(0, .aload_n 0, 1, 3, 0, 0, 0), (1, .iload_n 1, 1, 2, 0, 0, 0), (2, .invokevirtual 155, 3, 23, 11, 0, 0), (5, .ifCond .eq 22, 3, 12, 0, 0, 0), (8, .aload_n 0, 1, 3, 0, 0, 0), (9, .getfield 36, 3, 14, 4, 0, 0), (12, .aload_n 0, 1, 3, 0, 0, 0), (13, .getfield 19, 3, 14, 1, 0, 0), (16, .aload_n 0, 1, 3, 0, 0, 0), (17, .getfield 26, 3, 14, 2, 0, 0), (20, .iload_n 1, 1, 2, 0, 0, 0), (21, .invokevirtual 168, 3, 20, 0, 9, 0), (24, .goto 4, 3, 0, 0, 0, 0), (27, .iconst (-1), 1, 0, 0, 0, 0), (28, .ireturn, 1, 21, 0, 0, 0)]
/- 63: PepperTables$Acts.<init>()V -/
def ee_T63 : List ee_en := [(0, .aload_n 0, 1, 3, 0, 0, 0), (1, .invokespecial 3, 3, 20, 1, 1, 0), (4, .aload_n 0, 1, 3, 0, 0, 0), (5, .sipush 779, 3, 0, 0, 0, 0), (8, .newarray .int, 2, 18, 0, 0, 0), (10, .putfield 11, 3, 15, 36, 0, 0), (13, .return_, 1, 21, 0, 0, 0)]
/- 64: PepperTables$Acts.forget(LPepperTables$State;)V -/
def ee_T64 : List ee_en := [(0, .aload_n 0, 1, 3, 0, 0, 0), (1, .iconst 0, 1, 0, 0, 0, 0), (2, .putfield 15, 3, 15, 37, 0, 0), (5, .aload_n 0, 1, 3, 0, 0, 0), (6, .iconst 0, 1, 0, 0, 0, 0), (7, .putfield 19, 3, 15, 38, 0, 0), (10, .aload_n 0, 1, 3, 0, 0, 0), (11, .iconst 0, 1, 0, 0, 0, 0), (12, .putfield 22, 3, 15, 39, 0, 0), (15, .aload_n 1, 1, 3, 0, 0, 0), (16, .aload_n 0, 1, 3, 0, 0, 0), (17, .getfield 11, 3, 14, 36, 0, 0), (20, .aload_n 0, 1, 3, 0, 0, 0), (21, .getfield 22, 3, 14, 39, 0, 0), (24, .invokevirtual 25, 3, 23, 37, 0, 0), (27, .return_, 1, 21, 0, 0, 0)]
/- 65: PepperTables$Acts.keep(LPepperTables$State;)V -/
def ee_T65 : List ee_en := [(0, .aload_n 0, 1, 3, 0, 0, 0), (1, .aload_n 0, 1, 3, 0, 0, 0), (2, .getfield 22, 3, 14, 39, 0, 0), (5, .iconst 1, 1, 0, 0, 0, 0), (6, .iadd, 1, 7, 0, 0, 0), (7, .bipush 41, 2, 0, 0, 0, 0), (9, .irem, 1, 8, 0, 0, 0), (10, .putfield 22, 3, 15, 39, 0, 0), (13, .aload_n 1, 1, 3, 0, 0, 0), (14, .aload_n 0, 1, 3, 0, 0, 0), (15, .getfield 11, 3, 14, 36, 0, 0), (18, .aload_n 0, 1, 3, 0, 0, 0), (19, .getfield 22, 3, 14, 39, 0, 0), (22, .invokevirtual 25, 3, 23, 37, 0, 0), (25, .aload_n 0, 1, 3, 0, 0, 0), (26, .aload_n 0, 1, 3, 0, 0, 0), (27, .getfield 15, 3, 14, 37, 0, 0), (30, .iconst 1, 1, 0, 0, 0, 0), (31, .iadd, 1, 7, 0, 0, 0), (32, .bipush 40, 2, 0, 0, 0, 0), (34, .invokestatic 29, 3, 24, 0, 3, 0), (37, .putfield 15, 3, 15, 37, 0, 0), (40, .aload_n 0, 1, 3, 0, 0, 0), (41, .iconst 0, 1, 0, 0, 0, 0), (42, .putfield 19, 3, 15, 38, 0, 0), (45, .return_, 1, 21, 0, 0, 0)]
/- 66: PepperTables$Acts.stepBack(LPepperTables$State;)Z -/
def ee_T66 : List ee_en := [(0, .aload_n 0, 1, 3, 0, 0, 0), (1, .getfield 15, 3, 14, 37, 0, 0), (4, .ifCond .ne 5, 3, 12, 0, 0, 0), (7, .iconst 0, 1, 0, 0, 0, 0), (8, .ireturn, 1, 21, 0, 0, 0), (9, .aload_n 0, 1, 3, 0, 0, 0), (10, .aload_n 0, 1, 3, 0, 0, 0), (11, .getfield 22, 3, 14, 39, 0, 0), (14, .bipush 41, 2, 0, 0, 0, 0), (16, .iadd, 1, 7, 0, 0, 0), (17, .iconst 1, 1, 0, 0, 0, 0), (18, .isub, 1, 7, 0, 0, 0), (19, .bipush 41, 2, 0, 0, 0, 0), (21, .irem, 1, 8, 0, 0, 0), (22, .putfield 22, 3, 15, 39, 0, 0), (25, .aload_n 1, 1, 3, 0, 0, 0), (26, .aload_n 0, 1, 3, 0, 0, 0), (27, .getfield 11, 3, 14, 36, 0, 0), (30, .aload_n 0, 1, 3, 0, 0, 0), (31, .getfield 22, 3, 14, 39, 0, 0), (34, .invokevirtual 35, 3, 20, 0, 9, 0), (37, .aload_n 0, 1, 3, 0, 0, 0), (38, .dup, 1, 11, 0, 0, 0), (39, .getfield 15, 3, 14, 37, 0, 0), (42, .iconst 1, 1, 0, 0, 0, 0), (43, .isub, 1, 7, 0, 0, 0), (44, .putfield 15, 3, 15, 37, 0, 0), (47, .aload_n 0, 1, 3, 0, 0, 0), (48, .dup, 1, 11, 0, 0, 0), (49, .getfield 19, 3, 14, 38, 0, 0), (52, .iconst 1, 1, 0, 0, 0, 0), (53, .iadd, 1, 7, 0, 0, 0), (54, .putfield 19, 3, 15, 38, 0, 0), (57, .iconst 1, 1, 0, 0, 0, 0), (58, .ireturn, 1, 21, 0, 0, 0)]
/- 67: PepperTables$Acts.stepOn(LPepperTables$State;)Z -/
def ee_T67 : List ee_en := [(0, .aload_n 0, 1, 3, 0, 0, 0), (1, .getfield 19, 3, 14, 38, 0, 0), (4, .ifCond .ne 5, 3, 12, 0, 0, 0), (7, .iconst 0, 1, 0, 0, 0, 0), (8, .ireturn, 1, 21, 0, 0, 0), (9, .aload_n 0, 1, 3, 0, 0, 0), (10, .aload_n 0, 1, 3, 0, 0, 0), (11, .getfield 22, 3, 14, 39, 0, 0), (14, .iconst 1, 1, 0, 0, 0, 0), (15, .iadd, 1, 7, 0, 0, 0), (16, .bipush 41, 2, 0, 0, 0, 0), (18, .irem, 1, 8, 0, 0, 0), (19, .putfield 22, 3, 15, 39, 0, 0), (22, .aload_n 1, 1, 3, 0, 0, 0), (23, .aload_n 0, 1, 3, 0, 0, 0), (24, .getfield 11, 3, 14, 36, 0, 0), (27, .aload_n 0, 1, 3, 0, 0, 0), (28, .getfield 22, 3, 14, 39, 0, 0), (31, .invokevirtual 35, 3, 20, 0, 9, 0), (34, .aload_n 0, 1, 3, 0, 0, 0), (35, .dup, 1, 11, 0, 0, 0), (36, .getfield 19, 3, 14, 38, 0, 0), (39, .iconst 1, 1, 0, 0, 0, 0), (40, .isub, 1, 7, 0, 0, 0), (41, .putfield 19, 3, 15, 38, 0, 0), (44, .aload_n 0, 1, 3, 0, 0, 0), (45, .dup, 1, 11, 0, 0, 0), (46, .getfield 15, 3, 14, 37, 0, 0), (49, .iconst 1, 1, 0, 0, 0, 0), (50, .iadd, 1, 7, 0, 0, 0), (51, .putfield 15, 3, 15, 37, 0, 0), (54, .iconst 1, 1, 0, 0, 0, 0), (55, .ireturn, 1, 21, 0, 0, 0)]
/- 68: PepperTables$Boxes.<init>()V -/
def ee_T68 : List ee_en := [(0, .aload_n 0, 1, 3, 0, 0, 0), (1, .invokespecial 3, 3, 20, 2, 1, 0), (4, .aload_n 0, 1, 3, 0, 0, 0), (5, .bipush 57, 2, 0, 0, 0, 0), (7, .newarray .int, 2, 18, 0, 0, 0), (9, .putfield 11, 3, 15, 40, 0, 0), (12, .aload_n 0, 1, 3, 0, 0, 0), (13, .iconst 3, 1, 0, 0, 0, 0), (14, .newarray .boolean, 2, 18, 0, 0, 0), (16, .putfield 17, 3, 15, 41, 0, 0), (19, .return_, 1, 21, 0, 0, 0)]
/- 69: PepperTables$Boxes.fill(ILPepperTables$State;)Z -/
def ee_T69 : List ee_en := [(0, .iload_n 1, 1, 2, 0, 0, 0), (1, .ifCond .lt 8, 3, 12, 0, 0, 0), (4, .iload_n 1, 1, 2, 0, 0, 0), (5, .iconst 3, 1, 0, 0, 0, 0), (6, .if_icmp .lt 5, 3, 12, 0, 0, 0), (9, .iconst 0, 1, 0, 0, 0, 0), (10, .ireturn, 1, 21, 0, 0, 0), (11, .aload_n 2, 1, 3, 0, 0, 0), (12, .aload_n 0, 1, 3, 0, 0, 0), (13, .getfield 11, 3, 14, 40, 0, 0), (16, .iload_n 1, 1, 2, 0, 0, 0), (17, .invokevirtual 21, 3, 23, 38, 0, 0), (20, .aload_n 0, 1, 3, 0, 0, 0), (21, .getfield 17, 3, 14, 41, 0, 0), (24, .iload_n 1, 1, 2, 0, 0, 0), (25, .iconst 1, 1, 0, 0, 0, 0), (26, .bastore, 1, 17, 0, 0, 0), (27, .iconst 1, 1, 0, 0, 0, 0), (28, .ireturn, 1, 21, 0, 0, 0)]
/- 70: PepperTables$Boxes.forget()V -/
def ee_T70 : List ee_en := [(0, .iconst 0, 1, 0, 0, 0, 0), (1, .istore_n 1, 1, 4, 0, 0, 0), (2, .iload_n 1, 1, 2, 0, 0, 0), (3, .iconst 3, 1, 0, 0, 0, 0), (4, .if_icmp .ge 16, 3, 12, 0, 0, 0), (7, .aload_n 0, 1, 3, 0, 0, 0), (8, .getfield 17, 3, 14, 41, 0, 0), (11, .iload_n 1, 1, 2, 0, 0, 0), (12, .iconst 0, 1, 0, 0, 0, 0), (13, .bastore, 1, 17, 0, 0, 0), (14, .iinc 1 1, 3, 6, 0, 0, 0), (17, .goto (-15), 3, 0, 0, 0, 0), (20, .return_, 1, 21, 0, 0, 0)]
/- 71: PepperTables$Boxes.restore(ILPepperTables$State;)Z -/
def ee_T71 : List ee_en := [(0, .iload_n 1, 1, 2, 0, 0, 0), (1, .ifCond .lt 17, 3, 12, 0, 0, 0), (4, .iload_n 1, 1, 2, 0, 0, 0), (5, .iconst 3, 1, 0, 0, 0, 0), (6, .if_icmp .ge 12, 3, 12, 0, 0, 0), (9, .aload_n 0, 1, 3, 0, 0, 0), (10, .getfield 17, 3, 14, 41, 0, 0), (13, .iload_n 1, 1, 2, 0, 0, 0), (14, .baload, 1, 22, 0, 0, 0), (15, .ifCond .ne 5, 3, 12, 0, 0, 0), (18, .iconst 0, 1, 0, 0, 0, 0), (19, .ireturn, 1, 21, 0, 0, 0), (20, .aload_n 2, 1, 3, 0, 0, 0), (21, .aload_n 0, 1, 3, 0, 0, 0), (22, .getfield 11, 3, 14, 40, 0, 0), (25, .iload_n 1, 1, 2, 0, 0, 0), (26, .invokevirtual 25, 3, 20, 0, 9, 0), (29, .iconst 1, 1, 0, 0, 0, 0), (30, .ireturn, 1, 21, 0, 0, 0)]
/- 72: PepperTables$Hearsay.<init>()V -/
def ee_T72 : List ee_en := [(0, .aload_n 0, 1, 3, 0, 0, 0), (1, .invokespecial 5, 3, 20, 3, 1, 0), (4, .aload_n 0, 1, 3, 0, 0, 0), (5, .bipush 30, 2, 0, 0, 0, 0), (7, .newarray .int, 2, 18, 0, 0, 0), (9, .putfield 11, 3, 15, 42, 0, 0), (12, .aload_n 0, 1, 3, 0, 0, 0), (13, .bipush 30, 2, 0, 0, 0, 0), (15, .newarray .int, 2, 18, 0, 0, 0), (17, .putfield 15, 3, 15, 43, 0, 0), (20, .aload_n 0, 1, 3, 0, 0, 0), (21, .bipush 30, 2, 0, 0, 0, 0), (23, .newarray .boolean, 2, 18, 0, 0, 0), (25, .putfield 18, 3, 15, 44, 0, 0), (28, .aload_n 0, 1, 3, 0, 0, 0), (29, .bipush 30, 2, 0, 0, 0, 0), (31, .newarray .int, 2, 18, 0, 0, 0), (33, .putfield 22, 3, 15, 45, 0, 0), (36, .aload_n 0, 1, 3, 0, 0, 0), (37, .bipush 30, 2, 0, 0, 0, 0), (39, .newarray .int, 2, 18, 0, 0, 0), (41, .putfield 25, 3, 15, 46, 0, 0), (44, .aload_n 0, 1, 3, 0, 0, 0), (45, .sipush 180, 3, 0, 0, 0, 0), (48, .newarray .int, 2, 18, 0, 0, 0), (50, .putfield 28, 3, 15, 47, 0, 0), (53, .aload_n 0, 1, 3, 0, 0, 0), (54, .bipush 36, 2, 0, 0, 0, 0), (56, .newarray .boolean, 2, 18, 0, 0, 0), (58, .putfield 31, 3, 15, 48, 0, 0), (61, .aload_n 0, 1, 3, 0, 0, 0), (62, .bipush 11, 2, 0, 0, 0, 0), (64, .newarray .int, 2, 18, 0, 0, 0), (66, .putfield 34, 3, 15, 49, 0, 0), (69, .aload_n 0, 1, 3, 0, 0, 0), (70, .new 37, 3, 18, 8, 0, 0), (73, .dup, 1, 11, 0, 0, 0), (74, .invokespecial 39, 3, 23, 39, 0, 0), (77, .putfield 40, 3, 15, 50, 0, 0), (80, .return_, 1, 21, 0, 0, 0)]
/- 73: PepperTables$Hearsay.forget()V -/
def ee_T73 : List ee_en := [(0, .aload_n 0, 1, 3, 0, 0, 0), (1, .iconst 0, 1, 0, 0, 0, 0), (2, .putfield 44, 3, 15, 51, 0, 0), (5, .aload_n 0, 1, 3, 0, 0, 0), (6, .iconst 0, 1, 0, 0, 0, 0), (7, .putfield 48, 3, 15, 52, 0, 0), (10, .return_, 1, 21, 0, 0, 0)]
/- 74: PepperTables$Hearsay.goOn(I)I -/
def ee_T74 : List ee_en := [(0, .iload_n 1, 1, 2, 0, 0, 0), (1, .ifCond .lt 21, 3, 12, 0, 0, 0), (4, .iload_n 1, 1, 2, 0, 0, 0), (5, .sipush 1000, 3, 0, 0, 0, 0), (8, .if_icmp .gt 14, 3, 12, 0, 0, 0), (11, .aload_n 0, 1, 3, 0, 0, 0), (12, .getfield 52, 3, 14, 53, 0, 0), (15, .iload_n 1, 1, 2, 0, 0, 0), (16, .iadd, 1, 7, 0, 0, 0), (17, .ldc 55, 2, 1, 0, 0, 100000), (19, .if_icmp .le 5, 3, 12, 0, 0, 0), (22, .iconst (-1), 1, 0, 0, 0, 0), (23, .ireturn, 1, 21, 0, 0, 0), (24, .aload_n 0, 1, 3, 0, 0, 0), (25, .dup, 1, 11, 0, 0, 0), (26, .getfield 52, 3, 14, 53, 0, 0), (29, .iload_n 1, 1, 2, 0, 0, 0), (30, .iadd, 1, 7, 0, 0, 0), (31, .putfield 52, 3, 15, 53, 0, 0), (34, .aload_n 0, 1, 3, 0, 0, 0), (35, .getfield 52, 3, 14, 53, 0, 0), (38, .ireturn, 1, 21, 0, 0, 0)]
/- 75: PepperTables$Hearsay.sift(LPepperTables$Told;LPepperTables$Mill;I)I -/
def ee_T75 : List ee_en := [(0, .aload_n 1, 1, 3, 0, 0, 0), (1, .getfield 56, 3, 14, 54, 0, 0), (4, .ifCond .ne 5, 3, 12, 0, 0, 0), (7, .iconst 0, 1, 0, 0, 0, 0), (8, .ireturn, 1, 21, 0, 0, 0), (9, .aload_n 0, 1, 3, 0, 0, 0), (10, .aload_n 1, 1, 3, 0, 0, 0), (11, .aload_n 2, 1, 3, 0, 0, 0), (12, .invokevirtual 61, 3, 20, 0, 9, 0), (15, .iconst 0, 1, 0, 0, 0, 0), (16, .istore 4, 2, 4, 0, 0, 0), (18, .iconst 0, 1, 0, 0, 0, 0), (19, .istore 5, 2, 4, 0, 0, 0), (21, .iload 5, 2, 2, 0, 0, 0), (23, .aload_n 0, 1, 3, 0, 0, 0), (24, .getfield 65, 3, 14, 55, 0, 0), (27, .if_icmp .ge 36, 3, 12, 0, 0, 0), (30, .aload_n 0, 1, 3, 0, 0, 0), (31, .getfield 31, 3, 14, 48, 0, 0), (34, .iload 5, 2, 2, 0, 0, 0), (36, .aload_n 0, 1, 3, 0, 0, 0), (37, .iload 5, 2, 2, 0, 0, 0), (39, .iload_n 3, 1, 2, 0, 0, 0), (40, .invokevirtual 68, 3, 20, 0, 9, 0), (43, .bastore, 1, 17, 0, 0, 0), (44, .aload_n 0, 1, 3, 0, 0, 0), (45, .getfield 31, 3, 14, 48, 0, 0), (48, .iload 5, 2, 2, 0, 0, 0), (50, .baload, 1, 22, 0, 0, 0), (51, .ifCond .eq 6, 3, 12, 0, 0, 0), (54, .iinc 4 1, 3, 6, 0, 0, 0), (57, .iinc 5 1, 3, 6, 0, 0, 0), (60, .goto (-39), 3, 0, 0, 0, 0), (63, .iload 4, 2, 2, 0, 0, 0), (65, .ireturn, 1, 21, 0, 0, 0)]
/- 76: PepperTables$Hearsay.takeBack(I)Z -/
def ee_T76 : List ee_en := [(0, .iload_n 1, 1, 2, 0, 0, 0), (1, .ifCond .lt 21, 3, 12, 0, 0, 0), (4, .iload_n 1, 1, 2, 0, 0, 0), (5, .aload_n 0, 1, 3, 0, 0, 0), (6, .getfield 44, 3, 14, 51, 0, 0), (9, .if_icmp .ge 13, 3, 12, 0, 0, 0), (12, .aload_n 0, 1, 3, 0, 0, 0), (13, .getfield 25, 3, 14, 46, 0, 0), (16, .iload_n 1, 1, 2, 0, 0, 0), (17, .iaload, 1, 22, 0, 0, 0), (18, .iconst (-1), 1, 0, 0, 0, 0), (19, .if_icmp .eq 5, 3, 12, 0, 0, 0), (22, .iconst 0, 1, 0, 0, 0, 0), (23, .ireturn, 1, 21, 0, 0, 0), (24, .aload_n 0, 1, 3, 0, 0, 0), (25, .getfield 25, 3, 14, 46, 0, 0), (28, .iload_n 1, 1, 2, 0, 0, 0), (29, .aload_n 0, 1, 3, 0, 0, 0), (30, .getfield 52, 3, 14, 53, 0, 0), (33, .iastore, 1, 17, 0, 0, 0), (34, .iconst 1, 1, 0, 0, 0, 0), (35, .ireturn, 1, 21, 0, 0, 0)]
/- 77: PepperTables$Lying.<init>()V -/
def ee_T77 : List ee_en := [(0, .aload_n 0, 1, 3, 0, 0, 0), (1, .invokespecial 3, 3, 20, 4, 1, 0), (4, .aload_n 0, 1, 3, 0, 0, 0), (5, .bipush 6, 2, 0, 0, 0, 0), (7, .newarray .int, 2, 18, 0, 0, 0), (9, .putfield 9, 3, 15, 56, 0, 0), (12, .aload_n 0, 1, 3, 0, 0, 0), (13, .bipush 6, 2, 0, 0, 0, 0), (15, .newarray .int, 2, 18, 0, 0, 0), (17, .putfield 15, 3, 15, 57, 0, 0), (20, .aload_n 0, 1, 3, 0, 0, 0), (21, .bipush 6, 2, 0, 0, 0, 0), (23, .newarray .int, 2, 18, 0, 0, 0), (25, .putfield 18, 3, 15, 58, 0, 0), (28, .return_, 1, 21, 0, 0, 0)]
/- 78: PepperTables$Lying.goFurther(II)V -/
def ee_T78 : List ee_en := [(0, .iload_n 1, 1, 2, 0, 0, 0), (1, .aload_n 0, 1, 3, 0, 0, 0), (2, .getfield 21, 3, 14, 59, 0, 0), (5, .if_icmp .le 22, 3, 12, 0, 0, 0), (8, .aload_n 0, 1, 3, 0, 0, 0), (9, .getfield 15, 3, 14, 57, 0, 0), (12, .iconst 0, 1, 0, 0, 0, 0), (13, .aload_n 0, 1, 3, 0, 0, 0), (14, .getfield 9, 3, 14, 56, 0, 0), (17, .iconst 0, 1, 0, 0, 0, 0), (18, .iload_n 1, 1, 2, 0, 0, 0), (19, .invokestatic 39, 3, 20, 0, 2, 0), (22, .aload_n 0, 1, 3, 0, 0, 0), (23, .iload_n 1, 1, 2, 0, 0, 0), (24, .putfield 21, 3, 15, 59, 0, 0), (27, .iload_n 1, 1, 2, 0, 0, 0), (28, .aload_n 0, 1, 3, 0, 0, 0), (29, .getfield 30, 3, 14, 60, 0, 0), (32, .if_icmp .ge 9, 3, 12, 0, 0, 0), (35, .iload_n 1, 1, 2, 0, 0, 0), (36, .bipush 6, 2, 0, 0, 0, 0), (38, .if_icmp .lt 4, 3, 12, 0, 0, 0), (41, .return_, 1, 21, 0, 0, 0), (42, .iload_n 2, 1, 2, 0, 0, 0), (43, .iconst (-1), 1, 0, 0, 0, 0), (44, .ixor, 1, 7, 0, 0, 0), (45, .iload_n 1, 1, 2, 0, 0, 0), (46, .ifCond .ne 7, 3, 12, 0, 0, 0), (49, .iconst (-1), 1, 0, 0, 0, 0), (50, .goto 16, 3, 0, 0, 0, 0), (53, .aload_n 0, 1, 3, 0, 0, 0), (54, .getfield 18, 3, 14, 58, 0, 0), (57, .aload_n 0, 1, 3, 0, 0, 0), (58, .getfield 15, 3, 14, 57, 0, 0), (61, .iload_n 1, 1, 2, 0, 0, 0), (62, .iconst 1, 1, 0, 0, 0, 0), (63, .isub, 1, 7, 0, 0, 0), (64, .iaload, 1, 22, 0, 0, 0), (65, .iaload, 1, 22, 0, 0, 0), (66, .iand, 1, 7, 0, 0, 0), (67, .istore_n 3, 1, 4, 0, 0, 0), (68, .iconst 0, 1, 0, 0, 0, 0), (69, .istore 4, 2, 4, 0, 0, 0), (71, .iload 4, 2, 2, 0, 0, 0), (73, .aload_n 0, 1, 3, 0, 0, 0), (74, .getfield 30, 3, 14, 60, 0, 0), (77, .if_icmp .ge 39, 3, 12, 0, 0, 0), (80, .iload_n 3, 1, 2, 0, 0, 0), (81, .iload 4, 2, 2, 0, 0, 0), (83, .ishr, 1, 7, 0, 0, 0), (84, .iconst 1, 1, 0, 0, 0, 0), (85, .iand, 1, 7, 0, 0, 0), (86, .ifCond .eq 24, 3, 12, 0, 0, 0), (89, .aload_n 0, 1, 3, 0, 0, 0), (90, .getfield 15, 3, 14, 57, 0, 0), (93, .iload_n 1, 1, 2, 0, 0, 0), (94, .iload 4, 2, 2, 0, 0, 0), (96, .iastore, 1, 17, 0, 0, 0), (97, .aload_n 0, 1, 3, 0, 0, 0), (98, .iload_n 1, 1, 2, 0, 0, 0), (99, .iconst 1, 1, 0, 0, 0, 0), (100, .iadd, 1, 7, 0, 0, 0), (101, .iload_n 2, 1, 2, 0, 0, 0), (102, .iconst 1, 1, 0, 0, 0, 0), (103, .iload 4, 2, 2, 0, 0, 0), (105, .ishl, 1, 7, 0, 0, 0), (106, .ior, 1, 7, 0, 0, 0), (107, .invokevirtual 35, 3, 23, 40, 0, 0), (110, .iinc 4 1, 3, 6, 0, 0, 0), (113, .goto (-42), 3, 0, 0, 0, 0), (116, .return_, 1, 21, 0, 0, 0)]
/- 79: PepperTables$Lying.layLongestLine(LPepperTables$Told;I)V -/
def ee_T79 : List ee_en := [(0, .aload_n 0, 1, 3, 0, 0, 0), (1, .iconst 0, 1, 0, 0, 0, 0), (2, .putfield 21, 3, 15, 59, 0, 0), (5, .aload_n 0, 1, 3, 0, 0, 0), (6, .aload_n 1, 1, 3, 0, 0, 0), (7, .getfield 25, 3, 14, 61, 0, 0), (10, .putfield 30, 3, 15, 60, 0, 0), (13, .iconst 0, 1, 0, 0, 0, 0), (14, .istore_n 3, 1, 4, 0, 0, 0), (15, .iload_n 3, 1, 2, 0, 0, 0), (16, .aload_n 0, 1, 3, 0, 0, 0), (17, .getfield 30, 3, 14, 60, 0, 0), (20, .if_icmp .ge 23, 3, 12, 0, 0, 0), (23, .aload_n 0, 1, 3, 0, 0, 0), (24, .getfield 18, 3, 14, 58, 0, 0), (27, .iload_n 3, 1, 2, 0, 0, 0), (28, .aload_n 1, 1, 3, 0, 0, 0), (29, .iconst 1, 1, 0, 0, 0, 0), (30, .iload_n 3, 1, 2, 0, 0, 0), (31, .ishl, 1, 7, 0, 0, 0), (32, .iload_n 2, 1, 2, 0, 0, 0), (33, .invokevirtual 31, 3, 20, 0, 9, 0), (36, .iastore, 1, 17, 0, 0, 0), (37, .iinc 3 1, 3, 6, 0, 0, 0), (40, .goto (-25), 3, 0, 0, 0, 0), (43, .aload_n 0, 1, 3, 0, 0, 0), (44, .iconst 0, 1, 0, 0, 0, 0), (45, .iconst 0, 1, 0, 0, 0, 0), (46, .invokevirtual 35, 3, 23, 40, 0, 0), (49, .return_, 1, 21, 0, 0, 0)]
def ee_M5 : List ee_me := [(8, ⟨"PepperTables", "undo", "()Z"⟩, prog_1_method_15_code, 1, (some .boolean), ee_T60, 0, 0), (8, ⟨"PepperTables", "untell", "(I)Z"⟩, prog_1_method_49_code, 2, (some .boolean), ee_T61, 0, 0), (8, ⟨"PepperTables", "would", "(I)I"⟩, prog_1_method_9_code, 2, (some .int), ee_T62, 0, 0), (0, ⟨"PepperTables$Acts", "<init>", "()V"⟩, prog_2_method_1_code, 1, none, ee_T63, 1, 779), (0, ⟨"PepperTables$Acts", "forget", "(LPepperTables$State;)V"⟩, prog_2_method_2_code, 2, none, ee_T64, 0, 0), (0, ⟨"PepperTables$Acts", "keep", "(LPepperTables$State;)V"⟩, prog_2_method_3_code, 2, none, ee_T65, 0, 0), (0, ⟨"PepperTables$Acts", "stepBack", "(LPepperTables$State;)Z"⟩, prog_2_method_4_code, 2, (some .boolean), ee_T66, 0, 0), (0, ⟨"PepperTables$Acts", "stepOn", "(LPepperTables$State;)Z"⟩, prog_2_method_5_code, 2, (some .boolean), ee_T67, 0, 0), (1, ⟨"PepperTables$Boxes", "<init>", "()V"⟩, prog_3_method_1_code, 1, none, ee_T68, 2, 60), (1, ⟨"PepperTables$Boxes", "fill", "(ILPepperTables$State;)Z"⟩, prog_3_method_3_code, 3, (some .boolean), ee_T69, 0, 0), (1, ⟨"PepperTables$Boxes", "forget", "()V"⟩, prog_3_method_2_code, 2, none, ee_T70, 0, 0), (1, ⟨"PepperTables$Boxes", "restore", "(ILPepperTables$State;)Z"⟩, prog_3_method_4_code, 3, (some .boolean), ee_T71, 0, 0), (2, ⟨"PepperTables$Hearsay", "<init>", "()V"⟩, prog_4_method_1_code, 1, none, ee_T72, 11, 398), (2, ⟨"PepperTables$Hearsay", "forget", "()V"⟩, prog_4_method_2_code, 1, none, ee_T73, 0, 0), (2, ⟨"PepperTables$Hearsay", "goOn", "(I)I"⟩, prog_4_method_5_code, 2, (some .int), ee_T74, 0, 0), (2, ⟨"PepperTables$Hearsay", "sift", "(LPepperTables$Told;LPepperTables$Mill;I)I"⟩, prog_4_method_6_code, 6, (some .int), ee_T75, 0, 0), (2, ⟨"PepperTables$Hearsay", "takeBack", "(I)Z"⟩, prog_4_method_4_code, 2, (some .boolean), ee_T76, 0, 0), (3, ⟨"PepperTables$Lying", "<init>", "()V"⟩, prog_5_method_1_code, 1, none, ee_T77, 3, 18), (3, ⟨"PepperTables$Lying", "goFurther", "(II)V"⟩, prog_5_method_5_code, 5, none, ee_T78, 0, 0), (3, ⟨"PepperTables$Lying", "layLongestLine", "(LPepperTables$Told;I)V"⟩, prog_5_method_4_code, 4, none, ee_T79, 0, 0)]
set_option maxRecDepth 100000 in
theorem ee_M5ok : ee_M5.all ee_Mb = true := by decide +kernel
end
section
/- 80: PepperTables$Lying.numberAt(I)I -/
def ee_T80 : List ee_en := [(0, .iload_n 1, 1, 2, 0, 0, 0), (1, .ifCond .lt 20, 3, 12, 0, 0, 0), (4, .iload_n 1, 1, 2, 0, 0, 0), (5, .aload_n 0, 1, 3, 0, 0, 0), (6, .getfield 21, 3, 14, 59, 0, 0), (9, .if_icmp .ge 12, 3, 12, 0, 0, 0), (12, .aload_n 0, 1, 3, 0, 0, 0), (13, .getfield 9, 3, 14, 56, 0, 0), (16, .iload_n 1, 1, 2, 0, 0, 0), (17, .iaload, 1, 22, 0, 0, 0), (18, .goto 4, 3, 0, 0, 0, 0), (21, .iconst (-1), 1, 0, 0, 0, 0), (22, .ireturn, 1, 21, 0, 0, 0)]
/- 81: PepperTables$Mill.<init>()V -/
def ee_T81 : List ee_en := [(0, .aload_n 0, 1, 3, 0, 0, 0), (1, .invokespecial 3, 3, 20, 5, 1, 0), (4, .aload_n 0, 1, 3, 0, 0, 0), (5, .bipush 6, 2, 0, 0, 0, 0), (7, .newarray .int, 2, 18, 0, 0, 0), (9, .putfield 9, 3, 15, 62, 0, 0), (12, .aload_n 0, 1, 3, 0, 0, 0), (13, .bipush 64, 2, 0, 0, 0, 0), (15, .newarray .int, 2, 18, 0, 0, 0), (17, .putfield 15, 3, 15, 63, 0, 0), (20, .aload_n 0, 1, 3, 0, 0, 0), (21, .bipush 7, 2, 0, 0, 0, 0), (23, .newarray .int, 2, 18, 0, 0, 0), (25, .putfield 18, 3, 15, 64, 0, 0), (28, .return_, 1, 21, 0, 0, 0)]
/- 82: PepperTables$Mill.letOutOfAll(LPepperTables$Told;LPepperTables$State;)I -/
def ee_T82 : List ee_en := [(0, .iconst 0, 1, 0, 0, 0, 0), (1, .istore_n 3, 1, 4, 0, 0, 0), (2, .iconst 0, 1, 0, 0, 0, 0), (3, .istore 4, 2, 4, 0, 0, 0), (5, .iload 4, 2, 2, 0, 0, 0), (7, .aload_n 1, 1, 3, 0, 0, 0), (8, .getfield 42, 3, 14, 65, 0, 0), (11, .if_icmp .ge 20, 3, 12, 0, 0, 0), (14, .iload_n 3, 1, 2, 0, 0, 0), (15, .aload_n 0, 1, 3, 0, 0, 0), (16, .aload_n 1, 1, 3, 0, 0, 0), (17, .aload_n 2, 1, 3, 0, 0, 0), (18, .iload 4, 2, 2, 0, 0, 0), (20, .invokevirtual 45, 3, 20, 0, 9, 0), (23, .ior, 1, 7, 0, 0, 0), (24, .istore_n 3, 1, 4, 0, 0, 0), (25, .iinc 4 1, 3, 6, 0, 0, 0), (28, .goto (-23), 3, 0, 0, 0, 0), (31, .iload_n 3, 1, 2, 0, 0, 0), (32, .ireturn, 1, 21, 0, 0, 0)]
/- 83: PepperTables$Reader.<init>()V -/
def ee_T83 : List ee_en := [(0, .aload_n 0, 1, 3, 0, 0, 0), (1, .invokespecial 3, 3, 20, 6, 1, 0), (4, .aload_n 0, 1, 3, 0, 0, 0), (5, .iconst (-1), 1, 0, 0, 0, 0), (6, .putfield 9, 3, 15, 66, 0, 0), (9, .aload_n 0, 1, 3, 0, 0, 0), (10, .new 15, 3, 18, 9, 0, 0), (13, .dup, 1, 11, 0, 0, 0), (14, .invokespecial 17, 3, 23, 41, 0, 0), (17, .putfield 18, 3, 15, 67, 0, 0), (20, .aload_n 0, 1, 3, 0, 0, 0), (21, .sipush 1600, 3, 0, 0, 0, 0), (24, .newarray .int, 2, 18, 0, 0, 0), (26, .putfield 22, 3, 15, 68, 0, 0), (29, .aload_n 0, 1, 3, 0, 0, 0), (30, .bipush 18, 2, 0, 0, 0, 0), (32, .newarray .long, 2, 18, 0, 0, 0), (34, .putfield 26, 3, 15, 69, 0, 0), (37, .iconst 0, 1, 0, 0, 0, 0), (38, .istore_n 1, 1, 4, 0, 0, 0), (39, .iconst 0, 1, 0, 0, 0, 0), (40, .istore_n 2, 1, 4, 0, 0, 0), (41, .iload_n 2, 1, 2, 0, 0, 0), (42, .ldc 30, 2, 1, 0, 1, 0), (44, .invokevirtual 32, 3, 23, 42, 0, 0), (47, .if_icmp .ge 56, 3, 12, 0, 0, 0), (50, .iload_n 1, 1, 2, 0, 0, 0), (51, .bipush 18, 2, 0, 0, 0, 0), (53, .if_icmp .ge 50, 3, 12, 0, 0, 0), (56, .ldc 30, 2, 1, 0, 1, 0), (58, .iload_n 2, 1, 2, 0, 0, 0), (59, .invokevirtual 38, 3, 23, 43, 0, 0), (62, .bipush 32, 2, 0, 0, 0, 0), (64, .if_icmp .ne 9, 3, 12, 0, 0, 0), (67, .iinc 1 1, 3, 6, 0, 0, 0), (70, .goto 27, 3, 0, 0, 0, 0), (73, .aload_n 0, 1, 3, 0, 0, 0), (74, .getfield 26, 3, 14, 69, 0, 0), (77, .iload_n 1, 1, 2, 0, 0, 0), (78, .aload_n 0, 1, 3, 0, 0, 0), (79, .getfield 26, 3, 14, 69, 0, 0), (82, .iload_n 1, 1, 2, 0, 0, 0), (83, .laload, 1, 22, 0, 0, 0), (84, .ldc2_w 42, 3, 1, 0, 0, 0), (87, .lmul, 1, 9, 0, 0, 0), (88, .ldc 30, 2, 1, 0, 1, 0), (90, .iload_n 2, 1, 2, 0, 0, 0), (91, .invokevirtual 38, 3, 23, 43, 0, 0), (94, .i2l, 1, 9, 0, 0, 0), (95, .ladd, 1, 9, 0, 0, 0), (96, .lastore, 1, 17, 0, 0, 0), (97, .iinc 2 1, 3, 6, 0, 0, 0), (100, .goto (-59), 3, 0, 0, 0, 0), (103, .return_, 1, 21, 0, 0, 0)]
/- 84: PepperTables$Reader.addNumber(I)V -/
def ee_T84 : List ee_en := [(0, .bipush 24, 2, 0, 0, 0, 0), (2, .istore_n 2, 1, 4, 0, 0, 0), (3, .iload_n 2, 1, 2, 0, 0, 0), (4, .ifCond .lt 45, 3, 12, 0, 0, 0), (7, .aload_n 0, 1, 3, 0, 0, 0), (8, .getfield 44, 3, 14, 70, 0, 0), (11, .sipush 1600, 3, 0, 0, 0, 0), (14, .if_icmp .ge 35, 3, 12, 0, 0, 0), (17, .aload_n 0, 1, 3, 0, 0, 0), (18, .getfield 22, 3, 14, 68, 0, 0), (21, .aload_n 0, 1, 3, 0, 0, 0), (22, .getfield 44, 3, 14, 70, 0, 0), (25, .iload_n 1, 1, 2, 0, 0, 0), (26, .iload_n 2, 1, 2, 0, 0, 0), (27, .ishr, 1, 7, 0, 0, 0), (28, .sipush 255, 3, 0, 0, 0, 0), (31, .iand, 1, 7, 0, 0, 0), (32, .iastore, 1, 17, 0, 0, 0), (33, .aload_n 0, 1, 3, 0, 0, 0), (34, .dup, 1, 11, 0, 0, 0), (35, .getfield 44, 3, 14, 70, 0, 0), (38, .iconst 1, 1, 0, 0, 0, 0), (39, .iadd, 1, 7, 0, 0, 0), (40, .putfield 44, 3, 15, 70, 0, 0), (43, .iinc 2 (-8), 3, 6, 0, 0, 0), (46, .goto (-43), 3, 0, 0, 0, 0), (49, .return_, 1, 21, 0, 0, 0)]
/- 85: PepperTables$Reader.readAll()Z -/
def ee_T85 : List ee_en := [(0, .aload_n 0, 1, 3, 0, 0, 0), (1, .getfield 18, 3, 14, 67, 0, 0), (4, .invokevirtual 46, 3, 23, 44, 0, 0), (7, .aload_n 0, 1, 3, 0, 0, 0), (8, .iconst 0, 1, 0, 0, 0, 0), (9, .putfield 49, 3, 15, 71, 0, 0), (12, .aload_n 0, 1, 3, 0, 0, 0), (13, .iconst (-1), 1, 0, 0, 0, 0), (14, .putfield 9, 3, 15, 66, 0, 0), (17, .aload_n 0, 1, 3, 0, 0, 0), (18, .iconst 0, 1, 0, 0, 0, 0), (19, .putfield 52, 3, 15, 72, 0, 0), (22, .aload_n 0, 1, 3, 0, 0, 0), (23, .invokevirtual 55, 3, 23, 45, 0, 0), (26, .iconst 0, 1, 0, 0, 0, 0), (27, .istore_n 1, 1, 4, 0, 0, 0), (28, .iload_n 1, 1, 2, 0, 0, 0), (29, .sipush 1600, 3, 0, 0, 0, 0), (32, .if_icmp .gt 27, 3, 12, 0, 0, 0), (35, .aload_n 0, 1, 3, 0, 0, 0), (36, .getfield 49, 3, 14, 71, 0, 0), (39, .ifCond .ne 20, 3, 12, 0, 0, 0), (42, .aload_n 0, 1, 3, 0, 0, 0), (43, .getfield 58, 3, 14, 73, 0, 0), (46, .ifCond .eq 13, 3, 12, 0, 0, 0), (49, .aload_n 0, 1, 3, 0, 0, 0), (50, .invokevirtual 61, 3, 20, 0, 9, 0), (53, .iinc 1 1, 3, 6, 0, 0, 0), (56, .goto (-28), 3, 0, 0, 0, 0), (59, .aload_n 0, 1, 3, 0, 0, 0), (60, .getfield 49, 3, 14, 71, 0, 0), (63, .ifCond .ne 7, 3, 12, 0, 0, 0), (66, .iconst 1, 1, 0, 0, 0, 0), (67, .goto 4, 3, 0, 0, 0, 0), (70, .iconst 0, 1, 0, 0, 0, 0), (71, .ireturn, 1, 21, 0, 0, 0)]
/- 86: PepperTables$Reader.step()V -/
def ee_T86 : List ee_en := [(0, .aload_n 0, 1, 3, 0, 0, 0), (1, .getfield 52, 3, 14, 72, 0, 0), (4, .aload_n 0, 1, 3, 0, 0, 0), (5, .getfield 44, 3, 14, 70, 0, 0), (8, .if_icmp .ge 54, 3, 12, 0, 0, 0), (11, .aload_n 0, 1, 3, 0, 0, 0), (12, .getfield 52, 3, 14, 72, 0, 0), (15, .sipush 1600, 3, 0, 0, 0, 0), (18, .if_icmp .ge 44, 3, 12, 0, 0, 0), (21, .aload_n 0, 1, 3, 0, 0, 0), (22, .getfield 22, 3, 14, 68, 0, 0), (25, .aload_n 0, 1, 3, 0, 0, 0), (26, .getfield 52, 3, 14, 72, 0, 0), (29, .iaload, 1, 22, 0, 0, 0), (30, .bipush 32, 2, 0, 0, 0, 0), (32, .if_icmp .eq 17, 3, 12, 0, 0, 0), (35, .aload_n 0, 1, 3, 0, 0, 0), (36, .getfield 22, 3, 14, 68, 0, 0), (39, .aload_n 0, 1, 3, 0, 0, 0), (40, .getfield 52, 3, 14, 72, 0, 0), (43, .iaload, 1, 22, 0, 0, 0), (44, .bipush 10, 2, 0, 0, 0, 0), (46, .if_icmp .ne 16, 3, 12, 0, 0, 0), (49, .aload_n 0, 1, 3, 0, 0, 0), (50, .dup, 1, 11, 0, 0, 0), (51, .getfield 52, 3, 14, 72, 0, 0), (54, .iconst 1, 1, 0, 0, 0, 0), (55, .iadd, 1, 7, 0, 0, 0), (56, .putfield 52, 3, 15, 72, 0, 0), (59, .goto (-59), 3, 0, 0, 0, 0), (62, .aload_n 0, 1, 3, 0, 0, 0), (63, .aload_n 0, 1, 3, 0, 0, 0), (64, .getfield 52, 3, 14, 72, 0, 0), (67, .putfield 64, 3, 15, 74, 0, 0), (70, .aload_n 0, 1, 3, 0, 0, 0), (71, .getfield 52, 3, 14, 72, 0, 0), (74, .aload_n 0, 1, 3, 0, 0, 0), (75, .getfield 44, 3, 14, 70, 0, 0), (78, .if_icmp .ge 13, 3, 12, 0, 0, 0), (81, .aload_n 0, 1, 3, 0, 0, 0), (82, .getfield 52, 3, 14, 72, 0, 0), (85, .sipush 1600, 3, 0, 0, 0, 0), (88, .if_icmp .lt 11, 3, 12, 0, 0, 0), (91, .aload_n 0, 1, 3, 0, 0, 0), (92, .iconst 0, 1, 0, 0, 0, 0), (93, .putfield 58, 3, 15, 73, 0, 0), (96, .goto 122, 3, 0, 0, 0, 0), (99, .aload_n 0, 1, 3, 0, 0, 0), (100, .getfield 22, 3, 14, 68, 0, 0), (103, .aload_n 0, 1, 3, 0, 0, 0), (104, .getfield 52, 3, 14, 72, 0, 0), (107, .iaload, 1, 22, 0, 0, 0), (108, .bipush 97, 2, 0, 0, 0, 0), (110, .if_icmp .lt 24, 3, 12, 0, 0, 0), (113, .aload_n 0, 1, 3, 0, 0, 0), (114, .getfield 22, 3, 14, 68, 0, 0), (117, .aload_n 0, 1, 3, 0, 0, 0), (118, .getfield 52, 3, 14, 72, 0, 0), (121, .iaload, 1, 22, 0, 0, 0), (122, .bipush 122, 2, 0, 0, 0, 0), (124, .if_icmp .gt 10, 3, 12, 0, 0, 0), (127, .aload_n 0, 1, 3, 0, 0, 0), (128, .invokevirtual 67, 3, 20, 0, 9, 0), (131, .goto 87, 3, 0, 0, 0, 0), (134, .aload_n 0, 1, 3, 0, 0, 0), (135, .getfield 22, 3, 14, 68, 0, 0), (138, .aload_n 0, 1, 3, 0, 0, 0), (139, .getfield 52, 3, 14, 72, 0, 0), (142, .iaload, 1, 22, 0, 0, 0), (143, .bipush 48, 2, 0, 0, 0, 0), (145, .if_icmp .lt 24, 3, 12, 0, 0, 0), (148, .aload_n 0, 1, 3, 0, 0, 0), (149, .getfield 22, 3, 14, 68, 0, 0), (152, .aload_n 0, 1, 3, 0, 0, 0), (153, .getfield 52, 3, 14, 72, 0, 0), (156, .iaload, 1, 22, 0, 0, 0), (157, .bipush 57, 2, 0, 0, 0, 0), (159, .if_icmp .gt 10, 3, 12, 0, 0, 0), (162, .aload_n 0, 1, 3, 0, 0, 0), (163, .invokevirtual 70, 3, 20, 0, 9, 0), (166, .goto 52, 3, 0, 0, 0, 0), (169, .ldc 73, 2, 1, 1, 1, 0), (171, .aload_n 0, 1, 3, 0, 0, 0), (172, .getfield 22, 3, 14, 68, 0, 0), (175, .aload_n 0, 1, 3, 0, 0, 0), (176, .getfield 52, 3, 14, 72, 0, 0), (179, .iaload, 1, 22, 0, 0, 0), (180, .i2c, 1, 10, 0, 0, 0), (181, .invokevirtual 75, 3, 20, 0, 9, 0), (184, .ifCond .lt 29, 3, 12, 0, 0, 0), (187, .aload_n 0, 1, 3, 0, 0, 0), (188, .aload_n 0, 1, 3, 0, 0, 0), (189, .getfield 22, 3, 14, 68, 0, 0), (192, .aload_n 0, 1, 3, 0, 0, 0), (193, .getfield 52, 3, 14, 72, 0, 0), (196, .iaload, 1, 22, 0, 0, 0), (197, .putfield 58, 3, 15, 73, 0, 0), (200, .aload_n 0, 1, 3, 0, 0, 0), (201, .dup, 1, 11, 0, 0, 0), (202, .getfield 52, 3, 14, 72, 0, 0), (205, .iconst 1, 1, 0, 0, 0, 0), (206, .iadd, 1, 7, 0, 0, 0), (207, .putfield 52, 3, 15, 72, 0, 0), (210, .goto 8, 3, 0, 0, 0, 0), (213, .aload_n 0, 1, 3, 0, 0, 0), (214, .iconst 1, 1, 0, 0, 0, 0), (215, .putfield 58, 3, 15, 73, 0, 0), (218, .return_, 1, 21, 0, 0, 0)]
/- 87: PepperTables$State.<init>()V -/
def ee_T87 : List ee_en := [(0, .aload_n 0, 1, 3, 0, 0, 0), (1, .invokespecial 3, 3, 20, 7, 1, 0), (4, .aload_n 0, 1, 3, 0, 0, 0), (5, .bipush 10, 2, 0, 0, 0, 0), (7, .newarray .int, 2, 18, 0, 0, 0), (9, .putfield 9, 3, 15, 75, 0, 0), (12, .aload_n 0, 1, 3, 0, 0, 0), (13, .iconst 5, 1, 0, 0, 0, 0), (14, .newarray .int, 2, 18, 0, 0, 0), (16, .putfield 15, 3, 15, 76, 0, 0), (19, .return_, 1, 21, 0, 0, 0)]
/- 88: PepperTables$State.begin(LPepperTables$Told;)V -/
def ee_T88 : List ee_en := [(0, .aload_n 0, 1, 3, 0, 0, 0), (1, .iconst 0, 1, 0, 0, 0, 0), (2, .putfield 18, 3, 15, 77, 0, 0), (5, .aload_n 0, 1, 3, 0, 0, 0), (6, .iconst 0, 1, 0, 0, 0, 0), (7, .putfield 22, 3, 15, 78, 0, 0), (10, .aload_n 0, 1, 3, 0, 0, 0), (11, .iconst 0, 1, 0, 0, 0, 0), (12, .putfield 25, 3, 15, 79, 0, 0), (15, .aload_n 0, 1, 3, 0, 0, 0), (16, .aload_n 1, 1, 3, 0, 0, 0), (17, .getfield 28, 3, 14, 80, 0, 0), (20, .putfield 33, 3, 15, 81, 0, 0), (23, .iconst 0, 1, 0, 0, 0, 0), (24, .istore_n 2, 1, 4, 0, 0, 0), (25, .iload_n 2, 1, 2, 0, 0, 0), (26, .bipush 10, 2, 0, 0, 0, 0), (28, .if_icmp .ge 33, 3, 12, 0, 0, 0), (31, .aload_n 0, 1, 3, 0, 0, 0), (32, .getfield 9, 3, 14, 75, 0, 0), (35, .iload_n 2, 1, 2, 0, 0, 0), (36, .iload_n 2, 1, 2, 0, 0, 0), (37, .aload_n 1, 1, 3, 0, 0, 0), (38, .getfield 36, 3, 14, 82, 0, 0), (41, .if_icmp .ge 12, 3, 12, 0, 0, 0), (44, .aload_n 1, 1, 3, 0, 0, 0), (45, .getfield 39, 3, 14, 83, 0, 0), (48, .iload_n 2, 1, 2, 0, 0, 0), (49, .iaload, 1, 22, 0, 0, 0), (50, .goto 4, 3, 0, 0, 0, 0), (53, .iconst (-1), 1, 0, 0, 0, 0), (54, .iastore, 1, 17, 0, 0, 0), (55, .iinc 2 1, 3, 6, 0, 0, 0), (58, .goto (-33), 3, 0, 0, 0, 0), (61, .iconst 0, 1, 0, 0, 0, 0), (62, .istore_n 2, 1, 4, 0, 0, 0), (63, .iload_n 2, 1, 2, 0, 0, 0), (64, .iconst 5, 1, 0, 0, 0, 0), (65, .if_icmp .ge 16, 3, 12, 0, 0, 0), (68, .aload_n 0, 1, 3, 0, 0, 0), (69, .getfield 15, 3, 14, 76, 0, 0), (72, .iload_n 2, 1, 2, 0, 0, 0), (73, .iconst 0, 1, 0, 0, 0, 0), (74, .iastore, 1, 17, 0, 0, 0), (75, .iinc 2 1, 3, 6, 0, 0, 0), (78, .goto (-15), 3, 0, 0, 0, 0), (81, .return_, 1, 21, 0, 0, 0)]
/- 89: PepperTables$State.kept(LPepperTables$Told;)I -/
def ee_T89 : List ee_en := [(0, .aload_n 1, 1, 3, 0, 0, 0), (1, .invokevirtual 48, 3, 23, 46, 0, 0), (4, .aload_n 0, 1, 3, 0, 0, 0), (5, .getfield 22, 3, 14, 78, 0, 0), (8, .iconst (-1), 1, 0, 0, 0, 0), (9, .ixor, 1, 7, 0, 0, 0), (10, .iand, 1, 7, 0, 0, 0), (11, .ireturn, 1, 21, 0, 0, 0)]
/- 90: PepperTables$State.saveTo([II)V -/
def ee_T90 : List ee_en := [(0, .iload_n 2, 1, 2, 0, 0, 0), (1, .bipush 19, 2, 0, 0, 0, 0), (3, .imul, 1, 7, 0, 0, 0), (4, .istore_n 3, 1, 4, 0, 0, 0), (5, .iload_n 3, 1, 2, 0, 0, 0), (6, .ifCond .lt 12, 3, 12, 0, 0, 0), (9, .iload_n 3, 1, 2, 0, 0, 0), (10, .bipush 19, 2, 0, 0, 0, 0), (12, .iadd, 1, 7, 0, 0, 0), (13, .aload_n 1, 1, 3, 0, 0, 0), (14, .arraylength, 1, 16, 0, 0, 0), (15, .if_icmp .le 4, 3, 12, 0, 0, 0), (18, .return_, 1, 21, 0, 0, 0), (19, .aload_n 1, 1, 3, 0, 0, 0), (20, .iload_n 3, 1, 2, 0, 0, 0), (21, .aload_n 0, 1, 3, 0, 0, 0), (22, .getfield 18, 3, 14, 77, 0, 0), (25, .iastore, 1, 17, 0, 0, 0), (26, .aload_n 1, 1, 3, 0, 0, 0), (27, .iload_n 3, 1, 2, 0, 0, 0), (28, .iconst 1, 1, 0, 0, 0, 0), (29, .iadd, 1, 7, 0, 0, 0), (30, .aload_n 0, 1, 3, 0, 0, 0), (31, .getfield 22, 3, 14, 78, 0, 0), (34, .iastore, 1, 17, 0, 0, 0), (35, .aload_n 1, 1, 3, 0, 0, 0), (36, .iload_n 3, 1, 2, 0, 0, 0), (37, .iconst 2, 1, 0, 0, 0, 0), (38, .iadd, 1, 7, 0, 0, 0), (39, .aload_n 0, 1, 3, 0, 0, 0), (40, .getfield 25, 3, 14, 79, 0, 0), (43, .iastore, 1, 17, 0, 0, 0), (44, .aload_n 1, 1, 3, 0, 0, 0), (45, .iload_n 3, 1, 2, 0, 0, 0), (46, .iconst 3, 1, 0, 0, 0, 0), (47, .iadd, 1, 7, 0, 0, 0), (48, .aload_n 0, 1, 3, 0, 0, 0), (49, .getfield 33, 3, 14, 81, 0, 0), (52, .iastore, 1, 17, 0, 0, 0), (53, .aload_n 0, 1, 3, 0, 0, 0), (54, .getfield 9, 3, 14, 75, 0, 0), (57, .iconst 0, 1, 0, 0, 0, 0), (58, .aload_n 1, 1, 3, 0, 0, 0), (59, .iload_n 3, 1, 2, 0, 0, 0), (60, .iconst 4, 1, 0, 0, 0, 0), (61, .iadd, 1, 7, 0, 0, 0), (62, .bipush 10, 2, 0, 0, 0, 0), (64, .invokestatic 42, 3, 20, 1, 2, 0), (67, .aload_n 0, 1, 3, 0, 0, 0), (68, .getfield 15, 3, 14, 76, 0, 0), (71, .iconst 0, 1, 0, 0, 0, 0), (72, .aload_n 1, 1, 3, 0, 0, 0), (73, .iload_n 3, 1, 2, 0, 0, 0), (74, .iconst 4, 1, 0, 0, 0, 0), (75, .iadd, 1, 7, 0, 0, 0), (76, .bipush 10, 2, 0, 0, 0, 0), (78, .iadd, 1, 7, 0, 0, 0), (79, .iconst 5, 1, 0, 0, 0, 0), (80, .invokestatic 42, 3, 20, 1, 2, 0), (83, .return_, 1, 21, 0, 0, 0)]
/- 91: PepperTables$Told.<init>()V -/
def ee_T91 : List ee_en := [(0, .aload_n 0, 1, 3, 0, 0, 0), (1, .invokespecial 3, 3, 20, 8, 1, 0), (4, .aload_n 0, 1, 3, 0, 0, 0), (5, .bipush 6, 2, 0, 0, 0, 0), (7, .newarray .int, 2, 18, 0, 0, 0), (9, .putfield 9, 3, 15, 84, 0, 0), (12, .aload_n 0, 1, 3, 0, 0, 0), (13, .bipush 10, 2, 0, 0, 0, 0), (15, .newarray .int, 2, 18, 0, 0, 0), (17, .putfield 15, 3, 15, 85, 0, 0), (20, .aload_n 0, 1, 3, 0, 0, 0), (21, .bipush 10, 2, 0, 0, 0, 0), (23, .newarray .int, 2, 18, 0, 0, 0), (25, .putfield 18, 3, 15, 86, 0, 0), (28, .aload_n 0, 1, 3, 0, 0, 0), (29, .bipush 10, 2, 0, 0, 0, 0), (31, .newarray .int, 2, 18, 0, 0, 0), (33, .putfield 21, 3, 15, 87, 0, 0), (36, .aload_n 0, 1, 3, 0, 0, 0), (37, .bipush 10, 2, 0, 0, 0, 0), (39, .newarray .int, 2, 18, 0, 0, 0), (41, .putfield 24, 3, 15, 88, 0, 0), (44, .aload_n 0, 1, 3, 0, 0, 0), (45, .sipush 320, 3, 0, 0, 0, 0), (48, .newarray .int, 2, 18, 0, 0, 0), (50, .putfield 27, 3, 15, 89, 0, 0), (53, .aload_n 0, 1, 3, 0, 0, 0), (54, .bipush 6, 2, 0, 0, 0, 0), (56, .newarray .long, 2, 18, 0, 0, 0), (58, .putfield 30, 3, 15, 90, 0, 0), (61, .aload_n 0, 1, 3, 0, 0, 0), (62, .iconst 5, 1, 0, 0, 0, 0), (63, .newarray .long, 2, 18, 0, 0, 0), (65, .putfield 34, 3, 15, 91, 0, 0), (68, .aload_n 0, 1, 3, 0, 0, 0), (69, .bipush 10, 2, 0, 0, 0, 0), (71, .newarray .long, 2, 18, 0, 0, 0), (73, .putfield 37, 3, 15, 92, 0, 0), (76, .aload_n 0, 1, 3, 0, 0, 0), (77, .invokevirtual 40, 3, 23, 47, 0, 0), (80, .return_, 1, 21, 0, 0, 0)]
/- 92: PepperTables$Told.allThings()I -/
def ee_T92 : List ee_en := [(0, .iconst 1, 1, 0, 0, 0, 0), (1, .aload_n 0, 1, 3, 0, 0, 0), (2, .getfield 50, 3, 14, 93, 0, 0), (5, .ishl, 1, 7, 0, 0, 0), (6, .iconst 1, 1, 0, 0, 0, 0), (7, .isub, 1, 7, 0, 0, 0), (8, .ireturn, 1, 21, 0, 0, 0)]
def ee_M6 : List ee_me := [(3, ⟨"PepperTables$Lying", "numberAt", "(I)I"⟩, prog_5_method_3_code, 2, (some .int), ee_T80, 0, 0), (4, ⟨"PepperTables$Mill", "<init>", "()V"⟩, prog_6_method_1_code, 1, none, ee_T81, 3, 77), (4, ⟨"PepperTables$Mill", "letOutOfAll", "(LPepperTables$Told;LPepperTables$State;)I"⟩, prog_6_method_3_code, 5, (some .int), ee_T82, 0, 0), (5, ⟨"PepperTables$Reader", "<init>", "()V"⟩, prog_7_method_1_code, 3, none, ee_T83, 12, 2024), (5, ⟨"PepperTables$Reader", "addNumber", "(I)V"⟩, prog_7_method_2_code, 3, none, ee_T84, 0, 0), (5, ⟨"PepperTables$Reader", "readAll", "()Z"⟩, prog_7_method_3_code, 2, (some .boolean), ee_T85, 0, 0), (5, ⟨"PepperTables$Reader", "step", "()V"⟩, prog_7_method_4_code, 1, none, ee_T86, 0, 0), (6, ⟨"PepperTables$State", "<init>", "()V"⟩, prog_8_method_1_code, 1, none, ee_T87, 2, 15), (6, ⟨"PepperTables$State", "begin", "(LPepperTables$Told;)V"⟩, prog_8_method_2_code, 3, none, ee_T88, 0, 0), (6, ⟨"PepperTables$State", "kept", "(LPepperTables$Told;)I"⟩, prog_8_method_6_code, 2, (some .int), ee_T89, 0, 0), (6, ⟨"PepperTables$State", "saveTo", "([II)V"⟩, prog_8_method_4_code, 4, none, ee_T90, 0, 0), (7, ⟨"PepperTables$Told", "<init>", "()V"⟩, prog_9_method_1_code, 1, none, ee_T91, 9, 387), (7, ⟨"PepperTables$Told", "allThings", "()I"⟩, prog_9_method_5_code, 1, (some .int), ee_T92, 0, 0)]
set_option maxRecDepth 100000 in
theorem ee_M6ok : ee_M6.all ee_Mb = true := by decide +kernel
end
section
/- 93: PepperTables$Told.beginFormula()V -/
def ee_T93 : List ee_en := [(0, .aload_n 0, 1, 3, 0, 0, 0), (1, .iconst 3, 1, 0, 0, 0, 0), (2, .putfield 72, 3, 15, 94, 0, 0), (5, .aload_n 0, 1, 3, 0, 0, 0), (6, .getfield 27, 3, 14, 89, 0, 0), (9, .iconst 0, 1, 0, 0, 0, 0), (10, .bipush 16, 2, 0, 0, 0, 0), (12, .iastore, 1, 17, 0, 0, 0), (13, .aload_n 0, 1, 3, 0, 0, 0), (14, .getfield 27, 3, 14, 89, 0, 0), (17, .iconst 1, 1, 0, 0, 0, 0), (18, .bipush 17, 2, 0, 0, 0, 0), (20, .iastore, 1, 17, 0, 0, 0), (21, .aload_n 0, 1, 3, 0, 0, 0), (22, .getfield 27, 3, 14, 89, 0, 0), (25, .iconst 2, 1, 0, 0, 0, 0), (26, .bipush 62, 2, 0, 0, 0, 0), (28, .iastore, 1, 17, 0, 0, 0), (29, .return_, 1, 21, 0, 0, 0)]
/- 94: PepperTables$Told.clear()V -/
def ee_T94 : List ee_en := [(0, .aload_n 0, 1, 3, 0, 0, 0), (1, .iconst 0, 1, 0, 0, 0, 0), (2, .putfield 43, 3, 15, 95, 0, 0), (5, .aload_n 0, 1, 3, 0, 0, 0), (6, .iconst 0, 1, 0, 0, 0, 0), (7, .putfield 47, 3, 15, 96, 0, 0), (10, .aload_n 0, 1, 3, 0, 0, 0), (11, .iconst 0, 1, 0, 0, 0, 0), (12, .putfield 50, 3, 15, 93, 0, 0), (15, .aload_n 0, 1, 3, 0, 0, 0), (16, .iconst 0, 1, 0, 0, 0, 0), (17, .putfield 53, 3, 15, 97, 0, 0), (20, .aload_n 0, 1, 3, 0, 0, 0), (21, .iconst 0, 1, 0, 0, 0, 0), (22, .putfield 56, 3, 15, 98, 0, 0), (25, .aload_n 0, 1, 3, 0, 0, 0), (26, .iconst 0, 1, 0, 0, 0, 0), (27, .putfield 59, 3, 15, 99, 0, 0), (30, .aload_n 0, 1, 3, 0, 0, 0), (31, .iconst 0, 1, 0, 0, 0, 0), (32, .putfield 62, 3, 15, 100, 0, 0), (35, .aload_n 0, 1, 3, 0, 0, 0), (36, .iconst 0, 1, 0, 0, 0, 0), (37, .putfield 66, 3, 15, 101, 0, 0), (40, .aload_n 0, 1, 3, 0, 0, 0), (41, .iconst 0, 1, 0, 0, 0, 0), (42, .putfield 69, 3, 15, 102, 0, 0), (45, .aload_n 0, 1, 3, 0, 0, 0), (46, .invokevirtual 40, 3, 23, 47, 0, 0), (49, .return_, 1, 21, 0, 0, 0)]
/- 95: PepperTables$Told.heatOf(I)I -/
def ee_T95 : List ee_en := [(0, .iconst 0, 1, 0, 0, 0, 0), (1, .istore_n 2, 1, 4, 0, 0, 0), (2, .iconst 0, 1, 0, 0, 0, 0), (3, .istore_n 3, 1, 4, 0, 0, 0), (4, .iload_n 3, 1, 2, 0, 0, 0), (5, .aload_n 0, 1, 3, 0, 0, 0), (6, .getfield 50, 3, 14, 93, 0, 0), (9, .if_icmp .ge 26, 3, 12, 0, 0, 0), (12, .iload_n 1, 1, 2, 0, 0, 0), (13, .iload_n 3, 1, 2, 0, 0, 0), (14, .ishr, 1, 7, 0, 0, 0), (15, .iconst 1, 1, 0, 0, 0, 0), (16, .iand, 1, 7, 0, 0, 0), (17, .ifCond .eq 12, 3, 12, 0, 0, 0), (20, .iload_n 2, 1, 2, 0, 0, 0), (21, .aload_n 0, 1, 3, 0, 0, 0), (22, .getfield 21, 3, 14, 87, 0, 0), (25, .iload_n 3, 1, 2, 0, 0, 0), (26, .iaload, 1, 22, 0, 0, 0), (27, .iadd, 1, 7, 0, 0, 0), (28, .istore_n 2, 1, 4, 0, 0, 0), (29, .iinc 3 1, 3, 6, 0, 0, 0), (32, .goto (-28), 3, 0, 0, 0, 0), (35, .iload_n 2, 1, 2, 0, 0, 0), (36, .ireturn, 1, 21, 0, 0, 0)]
/- 96: PepperTables$Told.thingsAmong(I)I -/
def ee_T96 : List ee_en := [(0, .iconst 0, 1, 0, 0, 0, 0), (1, .istore_n 2, 1, 4, 0, 0, 0), (2, .iconst 0, 1, 0, 0, 0, 0), (3, .istore_n 3, 1, 4, 0, 0, 0), (4, .iload_n 3, 1, 2, 0, 0, 0), (5, .aload_n 0, 1, 3, 0, 0, 0), (6, .getfield 50, 3, 14, 93, 0, 0), (9, .if_icmp .ge 37, 3, 12, 0, 0, 0), (12, .iload_n 1, 1, 2, 0, 0, 0), (13, .aload_n 0, 1, 3, 0, 0, 0), (14, .getfield 15, 3, 14, 85, 0, 0), (17, .iload_n 3, 1, 2, 0, 0, 0), (18, .iaload, 1, 22, 0, 0, 0), (19, .ishr, 1, 7, 0, 0, 0), (20, .iload_n 1, 1, 2, 0, 0, 0), (21, .aload_n 0, 1, 3, 0, 0, 0), (22, .getfield 18, 3, 14, 86, 0, 0), (25, .iload_n 3, 1, 2, 0, 0, 0), (26, .iaload, 1, 22, 0, 0, 0), (27, .ishr, 1, 7, 0, 0, 0), (28, .iand, 1, 7, 0, 0, 0), (29, .iconst 1, 1, 0, 0, 0, 0), (30, .iand, 1, 7, 0, 0, 0), (31, .ifCond .eq 9, 3, 12, 0, 0, 0), (34, .iload_n 2, 1, 2, 0, 0, 0), (35, .iconst 1, 1, 0, 0, 0, 0), (36, .iload_n 3, 1, 2, 0, 0, 0), (37, .ishl, 1, 7, 0, 0, 0), (38, .ior, 1, 7, 0, 0, 0), (39, .istore_n 2, 1, 4, 0, 0, 0), (40, .iinc 3 1, 3, 6, 0, 0, 0), (43, .goto (-39), 3, 0, 0, 0, 0), (46, .iload_n 2, 1, 2, 0, 0, 0), (47, .ireturn, 1, 21, 0, 0, 0)]
def ee_M7 : List ee_me := [(7, ⟨"PepperTables$Told", "beginFormula", "()V"⟩, prog_9_method_3_code, 1, none, ee_T93, 0, 0), (7, ⟨"PepperTables$Told", "clear", "()V"⟩, prog_9_method_2_code, 1, none, ee_T94, 0, 0), (7, ⟨"PepperTables$Told", "heatOf", "(I)I"⟩, prog_9_method_6_code, 4, (some .int), ee_T95, 0, 0), (7, ⟨"PepperTables$Told", "thingsAmong", "(I)I"⟩, prog_9_method_9_code, 4, (some .int), ee_T96, 0, 0)]
set_option maxRecDepth 100000 in
theorem ee_M7ok : ee_M7.all ee_Mb = true := by decide +kernel
end
section
def ee_T97_0 : List ee_en := [(0, .new 7, 3, 18, 10, 0, 0), (3, .dup, 1, 11, 0, 0, 0), (4, .invokespecial 9, 3, 23, 48, 0, 0), (7, .astore_n 1, 1, 5, 0, 0, 0), (8, .new 10, 3, 18, 11, 0, 0), (11, .dup, 1, 11, 0, 0, 0), (12, .invokespecial 12, 3, 23, 49, 0, 0), (15, .astore_n 2, 1, 5, 0, 0, 0), (16, .iconst 0, 1, 0, 0, 0, 0), (17, .istore_n 3, 1, 4, 0, 0, 0), (18, .iload_n 3, 1, 2, 0, 0, 0), (19, .aload_n 0, 1, 3, 0, 0, 0), (20, .arraylength, 1, 16, 0, 0, 0), (21, .bipush 6, 2, 0, 0, 0, 0), (23, .isub, 1, 7, 0, 0, 0), (24, .if_icmp .gt 1601, 3, 12, 0, 0, 0), (27, .aload_n 0, 1, 3, 0, 0, 0), (28, .iload_n 3, 1, 2, 0, 0, 0), (29, .iaload, 1, 22, 0, 0, 0), (30, .bipush 63, 2, 0, 0, 0, 0), (32, .iand, 1, 7, 0, 0, 0), (33, .tableswitch 1586 0 54 #[235, 298, 321, 334, 357, 390, 423, 456, 479, 502, 525, 548, 581, 594, 607, 620, 663, 696, 709, 732, 765, 798, 811, 834, 867, 890, 903, 926, 959, 982, 1005, 1038, 1071, 1084, 1107, 1130, 1143, 1156, 1169, 1182, 1195, 1208, 1221, 1254, 1267, 1300, 1323, 1382, 1405, 1428, 1451, 1484, 1517, 1540, 1563], 235, 13, 0, 0, 0), (268, .aload_n 1, 1, 3, 0, 0, 0), (269, .aload_n 0, 1, 3, 0, 0, 0), (270, .iload_n 3, 1, 2, 0, 0, 0), (271, .iconst 1, 1, 0, 0, 0, 0), (272, .iadd, 1, 7, 0, 0, 0), (273, .iaload, 1, 22, 0, 0, 0), (274, .aload_n 0, 1, 3, 0, 0, 0), (275, .iload_n 3, 1, 2, 0, 0, 0)]
set_option maxRecDepth 100000 in
theorem ee_T97_0ok : ee_T97_0.all (ee_eb 10 code false) = true := by decide +kernel
def ee_T97_1 : List ee_en := [(276, .iconst 2, 1, 0, 0, 0, 0), (277, .iadd, 1, 7, 0, 0, 0), (278, .iaload, 1, 22, 0, 0, 0), (279, .aload_n 0, 1, 3, 0, 0, 0), (280, .iload_n 3, 1, 2, 0, 0, 0), (281, .iconst 3, 1, 0, 0, 0, 0), (282, .iadd, 1, 7, 0, 0, 0), (283, .iaload, 1, 22, 0, 0, 0), (284, .aload_n 0, 1, 3, 0, 0, 0), (285, .iload_n 3, 1, 2, 0, 0, 0), (286, .iconst 4, 1, 0, 0, 0, 0), (287, .iadd, 1, 7, 0, 0, 0), (288, .iaload, 1, 22, 0, 0, 0), (289, .aload_n 0, 1, 3, 0, 0, 0), (290, .iload_n 3, 1, 2, 0, 0, 0), (291, .iconst 5, 1, 0, 0, 0, 0), (292, .iadd, 1, 7, 0, 0, 0), (293, .iaload, 1, 22, 0, 0, 0), (294, .invokevirtual 13, 3, 23, 50, 0, 0), (297, .aload_n 2, 1, 3, 0, 0, 0), (298, .aload_n 0, 1, 3, 0, 0, 0), (299, .iload_n 3, 1, 2, 0, 0, 0), (300, .iconst 1, 1, 0, 0, 0, 0), (301, .iadd, 1, 7, 0, 0, 0), (302, .iaload, 1, 22, 0, 0, 0), (303, .aload_n 0, 1, 3, 0, 0, 0), (304, .iload_n 3, 1, 2, 0, 0, 0), (305, .iconst 2, 1, 0, 0, 0, 0), (306, .iadd, 1, 7, 0, 0, 0), (307, .iaload, 1, 22, 0, 0, 0)]
set_option maxRecDepth 100000 in
theorem ee_T97_1ok : ee_T97_1.all (ee_eb 10 code false) = true := by decide +kernel
def ee_T97_2 : List ee_en := [(308, .aload_n 0, 1, 3, 0, 0, 0), (309, .iload_n 3, 1, 2, 0, 0, 0), (310, .iconst 3, 1, 0, 0, 0, 0), (311, .iadd, 1, 7, 0, 0, 0), (312, .iaload, 1, 22, 0, 0, 0), (313, .aload_n 0, 1, 3, 0, 0, 0), (314, .iload_n 3, 1, 2, 0, 0, 0), (315, .iconst 4, 1, 0, 0, 0, 0), (316, .iadd, 1, 7, 0, 0, 0), (317, .iaload, 1, 22, 0, 0, 0), (318, .aload_n 0, 1, 3, 0, 0, 0), (319, .iload_n 3, 1, 2, 0, 0, 0), (320, .iconst 5, 1, 0, 0, 0, 0), (321, .iadd, 1, 7, 0, 0, 0), (322, .iaload, 1, 22, 0, 0, 0), (323, .invokevirtual 17, 3, 23, 51, 0, 0), (326, .if_icmp .eq 1293, 3, 12, 0, 0, 0), (329, .iconst 0, 1, 0, 0, 0, 0), (330, .ireturn, 1, 21, 0, 0, 0), (331, .aload_n 1, 1, 3, 0, 0, 0), (332, .aload_n 0, 1, 3, 0, 0, 0), (333, .iload_n 3, 1, 2, 0, 0, 0), (334, .iconst 1, 1, 0, 0, 0, 0), (335, .iadd, 1, 7, 0, 0, 0), (336, .iaload, 1, 22, 0, 0, 0), (337, .invokevirtual 18, 3, 23, 52, 0, 0), (340, .aload_n 2, 1, 3, 0, 0, 0), (341, .aload_n 0, 1, 3, 0, 0, 0), (342, .iload_n 3, 1, 2, 0, 0, 0), (343, .iconst 1, 1, 0, 0, 0, 0)]
set_option maxRecDepth 100000 in
theorem ee_T97_2ok : ee_T97_2.all (ee_eb 10 code false) = true := by decide +kernel
def ee_T97_3 : List ee_en := [(344, .iadd, 1, 7, 0, 0, 0), (345, .iaload, 1, 22, 0, 0, 0), (346, .invokevirtual 22, 3, 23, 53, 0, 0), (349, .if_icmp .eq 1270, 3, 12, 0, 0, 0), (352, .iconst 0, 1, 0, 0, 0, 0), (353, .ireturn, 1, 21, 0, 0, 0), (354, .aload_n 1, 1, 3, 0, 0, 0), (355, .invokevirtual 23, 3, 23, 54, 0, 0), (358, .aload_n 2, 1, 3, 0, 0, 0), (359, .invokevirtual 27, 3, 23, 55, 0, 0), (362, .if_icmp .eq 1257, 3, 12, 0, 0, 0), (365, .iconst 0, 1, 0, 0, 0, 0), (366, .ireturn, 1, 21, 0, 0, 0), (367, .aload_n 1, 1, 3, 0, 0, 0), (368, .aload_n 0, 1, 3, 0, 0, 0), (369, .iload_n 3, 1, 2, 0, 0, 0), (370, .iconst 1, 1, 0, 0, 0, 0), (371, .iadd, 1, 7, 0, 0, 0), (372, .iaload, 1, 22, 0, 0, 0), (373, .invokevirtual 28, 3, 23, 56, 0, 0), (376, .aload_n 2, 1, 3, 0, 0, 0), (377, .aload_n 0, 1, 3, 0, 0, 0), (378, .iload_n 3, 1, 2, 0, 0, 0), (379, .iconst 1, 1, 0, 0, 0, 0), (380, .iadd, 1, 7, 0, 0, 0), (381, .iaload, 1, 22, 0, 0, 0), (382, .invokevirtual 31, 3, 23, 57, 0, 0), (385, .if_icmp .eq 1234, 3, 12, 0, 0, 0), (388, .iconst 0, 1, 0, 0, 0, 0), (389, .ireturn, 1, 21, 0, 0, 0)]
set_option maxRecDepth 100000 in
theorem ee_T97_3ok : ee_T97_3.all (ee_eb 10 code false) = true := by decide +kernel
end
section
def ee_T97_4 : List ee_en := [(390, .aload_n 1, 1, 3, 0, 0, 0), (391, .aload_n 0, 1, 3, 0, 0, 0), (392, .iload_n 3, 1, 2, 0, 0, 0), (393, .iconst 1, 1, 0, 0, 0, 0), (394, .iadd, 1, 7, 0, 0, 0), (395, .iaload, 1, 22, 0, 0, 0), (396, .aload_n 0, 1, 3, 0, 0, 0), (397, .iload_n 3, 1, 2, 0, 0, 0), (398, .iconst 2, 1, 0, 0, 0, 0), (399, .iadd, 1, 7, 0, 0, 0), (400, .iaload, 1, 22, 0, 0, 0), (401, .invokevirtual 32, 3, 23, 58, 0, 0), (404, .aload_n 2, 1, 3, 0, 0, 0), (405, .aload_n 0, 1, 3, 0, 0, 0), (406, .iload_n 3, 1, 2, 0, 0, 0), (407, .iconst 1, 1, 0, 0, 0, 0), (408, .iadd, 1, 7, 0, 0, 0), (409, .iaload, 1, 22, 0, 0, 0), (410, .aload_n 0, 1, 3, 0, 0, 0), (411, .iload_n 3, 1, 2, 0, 0, 0), (412, .iconst 2, 1, 0, 0, 0, 0), (413, .iadd, 1, 7, 0, 0, 0), (414, .iaload, 1, 22, 0, 0, 0), (415, .invokevirtual 36, 3, 23, 59, 0, 0), (418, .if_icmp .eq 1201, 3, 12, 0, 0, 0), (421, .iconst 0, 1, 0, 0, 0, 0), (422, .ireturn, 1, 21, 0, 0, 0), (423, .aload_n 1, 1, 3, 0, 0, 0), (424, .aload_n 0, 1, 3, 0, 0, 0), (425, .iload_n 3, 1, 2, 0, 0, 0)]
set_option maxRecDepth 100000 in
theorem ee_T97_4ok : ee_T97_4.all (ee_eb 10 code false) = true := by decide +kernel
def ee_T97_5 : List ee_en := [(426, .iconst 1, 1, 0, 0, 0, 0), (427, .iadd, 1, 7, 0, 0, 0), (428, .iaload, 1, 22, 0, 0, 0), (429, .aload_n 0, 1, 3, 0, 0, 0), (430, .iload_n 3, 1, 2, 0, 0, 0), (431, .iconst 2, 1, 0, 0, 0, 0), (432, .iadd, 1, 7, 0, 0, 0), (433, .iaload, 1, 22, 0, 0, 0), (434, .invokevirtual 37, 3, 23, 60, 0, 0), (437, .aload_n 2, 1, 3, 0, 0, 0), (438, .aload_n 0, 1, 3, 0, 0, 0), (439, .iload_n 3, 1, 2, 0, 0, 0), (440, .iconst 1, 1, 0, 0, 0, 0), (441, .iadd, 1, 7, 0, 0, 0), (442, .iaload, 1, 22, 0, 0, 0), (443, .aload_n 0, 1, 3, 0, 0, 0), (444, .iload_n 3, 1, 2, 0, 0, 0), (445, .iconst 2, 1, 0, 0, 0, 0), (446, .iadd, 1, 7, 0, 0, 0), (447, .iaload, 1, 22, 0, 0, 0), (448, .invokevirtual 40, 3, 23, 61, 0, 0), (451, .if_icmp .eq 1168, 3, 12, 0, 0, 0), (454, .iconst 0, 1, 0, 0, 0, 0), (455, .ireturn, 1, 21, 0, 0, 0), (456, .aload_n 1, 1, 3, 0, 0, 0), (457, .aload_n 0, 1, 3, 0, 0, 0), (458, .iload_n 3, 1, 2, 0, 0, 0), (459, .iconst 1, 1, 0, 0, 0, 0), (460, .iadd, 1, 7, 0, 0, 0), (461, .iaload, 1, 22, 0, 0, 0)]
set_option maxRecDepth 100000 in
theorem ee_T97_5ok : ee_T97_5.all (ee_eb 10 code false) = true := by decide +kernel
def ee_T97_6 : List ee_en := [(462, .aload_n 0, 1, 3, 0, 0, 0), (463, .iload_n 3, 1, 2, 0, 0, 0), (464, .iconst 2, 1, 0, 0, 0, 0), (465, .iadd, 1, 7, 0, 0, 0), (466, .iaload, 1, 22, 0, 0, 0), (467, .invokevirtual 41, 3, 23, 62, 0, 0), (470, .aload_n 2, 1, 3, 0, 0, 0), (471, .aload_n 0, 1, 3, 0, 0, 0), (472, .iload_n 3, 1, 2, 0, 0, 0), (473, .iconst 1, 1, 0, 0, 0, 0), (474, .iadd, 1, 7, 0, 0, 0), (475, .iaload, 1, 22, 0, 0, 0), (476, .aload_n 0, 1, 3, 0, 0, 0), (477, .iload_n 3, 1, 2, 0, 0, 0), (478, .iconst 2, 1, 0, 0, 0, 0), (479, .iadd, 1, 7, 0, 0, 0), (480, .iaload, 1, 22, 0, 0, 0), (481, .invokevirtual 44, 3, 23, 63, 0, 0), (484, .if_icmp .eq 1135, 3, 12, 0, 0, 0), (487, .iconst 0, 1, 0, 0, 0, 0), (488, .ireturn, 1, 21, 0, 0, 0), (489, .aload_n 1, 1, 3, 0, 0, 0), (490, .aload_n 0, 1, 3, 0, 0, 0), (491, .iload_n 3, 1, 2, 0, 0, 0), (492, .iconst 1, 1, 0, 0, 0, 0), (493, .iadd, 1, 7, 0, 0, 0), (494, .iaload, 1, 22, 0, 0, 0), (495, .invokevirtual 45, 3, 23, 64, 0, 0), (498, .aload_n 2, 1, 3, 0, 0, 0), (499, .aload_n 0, 1, 3, 0, 0, 0)]
set_option maxRecDepth 100000 in
theorem ee_T97_6ok : ee_T97_6.all (ee_eb 10 code false) = true := by decide +kernel
def ee_T97_7 : List ee_en := [(500, .iload_n 3, 1, 2, 0, 0, 0), (501, .iconst 1, 1, 0, 0, 0, 0), (502, .iadd, 1, 7, 0, 0, 0), (503, .iaload, 1, 22, 0, 0, 0), (504, .invokevirtual 48, 3, 23, 65, 0, 0), (507, .if_icmp .eq 1112, 3, 12, 0, 0, 0), (510, .iconst 0, 1, 0, 0, 0, 0), (511, .ireturn, 1, 21, 0, 0, 0), (512, .aload_n 1, 1, 3, 0, 0, 0), (513, .aload_n 0, 1, 3, 0, 0, 0), (514, .iload_n 3, 1, 2, 0, 0, 0), (515, .iconst 1, 1, 0, 0, 0, 0), (516, .iadd, 1, 7, 0, 0, 0), (517, .iaload, 1, 22, 0, 0, 0), (518, .invokevirtual 49, 3, 23, 66, 0, 0), (521, .aload_n 2, 1, 3, 0, 0, 0), (522, .aload_n 0, 1, 3, 0, 0, 0), (523, .iload_n 3, 1, 2, 0, 0, 0), (524, .iconst 1, 1, 0, 0, 0, 0), (525, .iadd, 1, 7, 0, 0, 0), (526, .iaload, 1, 22, 0, 0, 0), (527, .invokevirtual 52, 3, 23, 67, 0, 0), (530, .if_icmp .eq 1089, 3, 12, 0, 0, 0), (533, .iconst 0, 1, 0, 0, 0, 0), (534, .ireturn, 1, 21, 0, 0, 0), (535, .aload_n 1, 1, 3, 0, 0, 0), (536, .aload_n 0, 1, 3, 0, 0, 0), (537, .iload_n 3, 1, 2, 0, 0, 0), (538, .iconst 1, 1, 0, 0, 0, 0), (539, .iadd, 1, 7, 0, 0, 0)]
set_option maxRecDepth 100000 in
theorem ee_T97_7ok : ee_T97_7.all (ee_eb 10 code false) = true := by decide +kernel
end
section
def ee_T97_8 : List ee_en := [(540, .iaload, 1, 22, 0, 0, 0), (541, .invokevirtual 53, 3, 23, 68, 0, 0), (544, .aload_n 2, 1, 3, 0, 0, 0), (545, .aload_n 0, 1, 3, 0, 0, 0), (546, .iload_n 3, 1, 2, 0, 0, 0), (547, .iconst 1, 1, 0, 0, 0, 0), (548, .iadd, 1, 7, 0, 0, 0), (549, .iaload, 1, 22, 0, 0, 0), (550, .invokevirtual 56, 3, 23, 69, 0, 0), (553, .if_icmp .eq 1066, 3, 12, 0, 0, 0), (556, .iconst 0, 1, 0, 0, 0, 0), (557, .ireturn, 1, 21, 0, 0, 0), (558, .aload_n 1, 1, 3, 0, 0, 0), (559, .aload_n 0, 1, 3, 0, 0, 0), (560, .iload_n 3, 1, 2, 0, 0, 0), (561, .iconst 1, 1, 0, 0, 0, 0), (562, .iadd, 1, 7, 0, 0, 0), (563, .iaload, 1, 22, 0, 0, 0), (564, .invokevirtual 57, 3, 23, 70, 0, 0), (567, .aload_n 2, 1, 3, 0, 0, 0), (568, .aload_n 0, 1, 3, 0, 0, 0), (569, .iload_n 3, 1, 2, 0, 0, 0), (570, .iconst 1, 1, 0, 0, 0, 0), (571, .iadd, 1, 7, 0, 0, 0), (572, .iaload, 1, 22, 0, 0, 0), (573, .invokevirtual 60, 3, 23, 71, 0, 0), (576, .if_icmp .eq 1043, 3, 12, 0, 0, 0), (579, .iconst 0, 1, 0, 0, 0, 0), (580, .ireturn, 1, 21, 0, 0, 0), (581, .aload_n 1, 1, 3, 0, 0, 0)]
set_option maxRecDepth 100000 in
theorem ee_T97_8ok : ee_T97_8.all (ee_eb 10 code false) = true := by decide +kernel
def ee_T97_9 : List ee_en := [(582, .aload_n 0, 1, 3, 0, 0, 0), (583, .iload_n 3, 1, 2, 0, 0, 0), (584, .iconst 1, 1, 0, 0, 0, 0), (585, .iadd, 1, 7, 0, 0, 0), (586, .iaload, 1, 22, 0, 0, 0), (587, .aload_n 0, 1, 3, 0, 0, 0), (588, .iload_n 3, 1, 2, 0, 0, 0), (589, .iconst 2, 1, 0, 0, 0, 0), (590, .iadd, 1, 7, 0, 0, 0), (591, .iaload, 1, 22, 0, 0, 0), (592, .invokevirtual 61, 3, 23, 72, 0, 0), (595, .aload_n 2, 1, 3, 0, 0, 0), (596, .aload_n 0, 1, 3, 0, 0, 0), (597, .iload_n 3, 1, 2, 0, 0, 0), (598, .iconst 1, 1, 0, 0, 0, 0), (599, .iadd, 1, 7, 0, 0, 0), (600, .iaload, 1, 22, 0, 0, 0), (601, .aload_n 0, 1, 3, 0, 0, 0), (602, .iload_n 3, 1, 2, 0, 0, 0), (603, .iconst 2, 1, 0, 0, 0, 0), (604, .iadd, 1, 7, 0, 0, 0), (605, .iaload, 1, 22, 0, 0, 0), (606, .invokevirtual 64, 3, 23, 73, 0, 0), (609, .if_icmp .eq 1010, 3, 12, 0, 0, 0), (612, .iconst 0, 1, 0, 0, 0, 0), (613, .ireturn, 1, 21, 0, 0, 0), (614, .aload_n 1, 1, 3, 0, 0, 0), (615, .invokevirtual 65, 3, 23, 74, 0, 0), (618, .aload_n 2, 1, 3, 0, 0, 0), (619, .invokevirtual 68, 3, 23, 75, 0, 0)]
set_option maxRecDepth 100000 in
theorem ee_T97_9ok : ee_T97_9.all (ee_eb 10 code false) = true := by decide +kernel
def ee_T97_10 : List ee_en := [(622, .if_icmp .eq 997, 3, 12, 0, 0, 0), (625, .iconst 0, 1, 0, 0, 0, 0), (626, .ireturn, 1, 21, 0, 0, 0), (627, .aload_n 1, 1, 3, 0, 0, 0), (628, .invokevirtual 69, 3, 23, 76, 0, 0), (631, .aload_n 2, 1, 3, 0, 0, 0), (632, .invokevirtual 73, 3, 23, 77, 0, 0), (635, .if_icmp .eq 984, 3, 12, 0, 0, 0), (638, .iconst 0, 1, 0, 0, 0, 0), (639, .ireturn, 1, 21, 0, 0, 0), (640, .aload_n 1, 1, 3, 0, 0, 0), (641, .invokevirtual 74, 3, 23, 78, 0, 0), (644, .aload_n 2, 1, 3, 0, 0, 0), (645, .invokevirtual 77, 3, 23, 79, 0, 0), (648, .if_icmp .eq 971, 3, 12, 0, 0, 0), (651, .iconst 0, 1, 0, 0, 0, 0), (652, .ireturn, 1, 21, 0, 0, 0), (653, .aload_n 1, 1, 3, 0, 0, 0), (654, .aload_n 0, 1, 3, 0, 0, 0), (655, .iload_n 3, 1, 2, 0, 0, 0), (656, .iconst 1, 1, 0, 0, 0, 0), (657, .iadd, 1, 7, 0, 0, 0), (658, .iaload, 1, 22, 0, 0, 0), (659, .aload_n 0, 1, 3, 0, 0, 0), (660, .iload_n 3, 1, 2, 0, 0, 0), (661, .iconst 2, 1, 0, 0, 0, 0), (662, .iadd, 1, 7, 0, 0, 0), (663, .iaload, 1, 22, 0, 0, 0), (664, .aload_n 0, 1, 3, 0, 0, 0), (665, .iload_n 3, 1, 2, 0, 0, 0)]
set_option maxRecDepth 100000 in
theorem ee_T97_10ok : ee_T97_10.all (ee_eb 10 code false) = true := by decide +kernel
def ee_T97_11 : List ee_en := [(666, .iconst 3, 1, 0, 0, 0, 0), (667, .iadd, 1, 7, 0, 0, 0), (668, .iaload, 1, 22, 0, 0, 0), (669, .invokevirtual 78, 3, 23, 80, 0, 0), (672, .aload_n 2, 1, 3, 0, 0, 0), (673, .aload_n 0, 1, 3, 0, 0, 0), (674, .iload_n 3, 1, 2, 0, 0, 0), (675, .iconst 1, 1, 0, 0, 0, 0), (676, .iadd, 1, 7, 0, 0, 0), (677, .iaload, 1, 22, 0, 0, 0), (678, .aload_n 0, 1, 3, 0, 0, 0), (679, .iload_n 3, 1, 2, 0, 0, 0), (680, .iconst 2, 1, 0, 0, 0, 0), (681, .iadd, 1, 7, 0, 0, 0), (682, .iaload, 1, 22, 0, 0, 0), (683, .aload_n 0, 1, 3, 0, 0, 0), (684, .iload_n 3, 1, 2, 0, 0, 0), (685, .iconst 3, 1, 0, 0, 0, 0), (686, .iadd, 1, 7, 0, 0, 0), (687, .iaload, 1, 22, 0, 0, 0), (688, .invokevirtual 82, 3, 23, 81, 0, 0), (691, .if_icmp .eq 928, 3, 12, 0, 0, 0), (694, .iconst 0, 1, 0, 0, 0, 0), (695, .ireturn, 1, 21, 0, 0, 0), (696, .aload_n 1, 1, 3, 0, 0, 0), (697, .aload_n 0, 1, 3, 0, 0, 0), (698, .iload_n 3, 1, 2, 0, 0, 0), (699, .iconst 1, 1, 0, 0, 0, 0), (700, .iadd, 1, 7, 0, 0, 0), (701, .iaload, 1, 22, 0, 0, 0)]
set_option maxRecDepth 100000 in
theorem ee_T97_11ok : ee_T97_11.all (ee_eb 10 code false) = true := by decide +kernel
end
section
def ee_T97_12 : List ee_en := [(702, .aload_n 0, 1, 3, 0, 0, 0), (703, .iload_n 3, 1, 2, 0, 0, 0), (704, .iconst 2, 1, 0, 0, 0, 0), (705, .iadd, 1, 7, 0, 0, 0), (706, .iaload, 1, 22, 0, 0, 0), (707, .invokevirtual 83, 3, 23, 82, 0, 0), (710, .aload_n 2, 1, 3, 0, 0, 0), (711, .aload_n 0, 1, 3, 0, 0, 0), (712, .iload_n 3, 1, 2, 0, 0, 0), (713, .iconst 1, 1, 0, 0, 0, 0), (714, .iadd, 1, 7, 0, 0, 0), (715, .iaload, 1, 22, 0, 0, 0), (716, .aload_n 0, 1, 3, 0, 0, 0), (717, .iload_n 3, 1, 2, 0, 0, 0), (718, .iconst 2, 1, 0, 0, 0, 0), (719, .iadd, 1, 7, 0, 0, 0), (720, .iaload, 1, 22, 0, 0, 0), (721, .invokevirtual 86, 3, 23, 83, 0, 0), (724, .if_icmp .eq 895, 3, 12, 0, 0, 0), (727, .iconst 0, 1, 0, 0, 0, 0), (728, .ireturn, 1, 21, 0, 0, 0), (729, .aload_n 1, 1, 3, 0, 0, 0), (730, .invokevirtual 87, 3, 23, 84, 0, 0), (733, .aload_n 2, 1, 3, 0, 0, 0), (734, .invokevirtual 90, 3, 23, 85, 0, 0), (737, .if_icmp .eq 882, 3, 12, 0, 0, 0), (740, .iconst 0, 1, 0, 0, 0, 0), (741, .ireturn, 1, 21, 0, 0, 0), (742, .aload_n 1, 1, 3, 0, 0, 0), (743, .aload_n 0, 1, 3, 0, 0, 0)]
set_option maxRecDepth 100000 in
theorem ee_T97_12ok : ee_T97_12.all (ee_eb 10 code false) = true := by decide +kernel
def ee_T97_13 : List ee_en := [(744, .iload_n 3, 1, 2, 0, 0, 0), (745, .iconst 1, 1, 0, 0, 0, 0), (746, .iadd, 1, 7, 0, 0, 0), (747, .iaload, 1, 22, 0, 0, 0), (748, .invokevirtual 91, 3, 23, 86, 0, 0), (751, .aload_n 2, 1, 3, 0, 0, 0), (752, .aload_n 0, 1, 3, 0, 0, 0), (753, .iload_n 3, 1, 2, 0, 0, 0), (754, .iconst 1, 1, 0, 0, 0, 0), (755, .iadd, 1, 7, 0, 0, 0), (756, .iaload, 1, 22, 0, 0, 0), (757, .invokevirtual 94, 3, 23, 87, 0, 0), (760, .if_icmp .eq 859, 3, 12, 0, 0, 0), (763, .iconst 0, 1, 0, 0, 0, 0), (764, .ireturn, 1, 21, 0, 0, 0), (765, .aload_n 1, 1, 3, 0, 0, 0), (766, .aload_n 0, 1, 3, 0, 0, 0), (767, .iload_n 3, 1, 2, 0, 0, 0), (768, .iconst 1, 1, 0, 0, 0, 0), (769, .iadd, 1, 7, 0, 0, 0), (770, .iaload, 1, 22, 0, 0, 0), (771, .aload_n 0, 1, 3, 0, 0, 0), (772, .iload_n 3, 1, 2, 0, 0, 0), (773, .iconst 2, 1, 0, 0, 0, 0), (774, .iadd, 1, 7, 0, 0, 0), (775, .iaload, 1, 22, 0, 0, 0), (776, .invokevirtual 95, 3, 23, 88, 0, 0), (779, .aload_n 2, 1, 3, 0, 0, 0), (780, .aload_n 0, 1, 3, 0, 0, 0), (781, .iload_n 3, 1, 2, 0, 0, 0)]
set_option maxRecDepth 100000 in
theorem ee_T97_13ok : ee_T97_13.all (ee_eb 10 code false) = true := by decide +kernel
def ee_T97_14 : List ee_en := [(782, .iconst 1, 1, 0, 0, 0, 0), (783, .iadd, 1, 7, 0, 0, 0), (784, .iaload, 1, 22, 0, 0, 0), (785, .aload_n 0, 1, 3, 0, 0, 0), (786, .iload_n 3, 1, 2, 0, 0, 0), (787, .iconst 2, 1, 0, 0, 0, 0), (788, .iadd, 1, 7, 0, 0, 0), (789, .iaload, 1, 22, 0, 0, 0), (790, .invokevirtual 98, 3, 23, 89, 0, 0), (793, .if_icmp .eq 826, 3, 12, 0, 0, 0), (796, .iconst 0, 1, 0, 0, 0, 0), (797, .ireturn, 1, 21, 0, 0, 0), (798, .aload_n 1, 1, 3, 0, 0, 0), (799, .aload_n 0, 1, 3, 0, 0, 0), (800, .iload_n 3, 1, 2, 0, 0, 0), (801, .iconst 1, 1, 0, 0, 0, 0), (802, .iadd, 1, 7, 0, 0, 0), (803, .iaload, 1, 22, 0, 0, 0), (804, .aload_n 0, 1, 3, 0, 0, 0), (805, .iload_n 3, 1, 2, 0, 0, 0), (806, .iconst 2, 1, 0, 0, 0, 0), (807, .iadd, 1, 7, 0, 0, 0), (808, .iaload, 1, 22, 0, 0, 0), (809, .invokevirtual 99, 3, 23, 90, 0, 0), (812, .aload_n 2, 1, 3, 0, 0, 0), (813, .aload_n 0, 1, 3, 0, 0, 0), (814, .iload_n 3, 1, 2, 0, 0, 0), (815, .iconst 1, 1, 0, 0, 0, 0), (816, .iadd, 1, 7, 0, 0, 0), (817, .iaload, 1, 22, 0, 0, 0)]
set_option maxRecDepth 100000 in
theorem ee_T97_14ok : ee_T97_14.all (ee_eb 10 code false) = true := by decide +kernel
def ee_T97_15 : List ee_en := [(818, .aload_n 0, 1, 3, 0, 0, 0), (819, .iload_n 3, 1, 2, 0, 0, 0), (820, .iconst 2, 1, 0, 0, 0, 0), (821, .iadd, 1, 7, 0, 0, 0), (822, .iaload, 1, 22, 0, 0, 0), (823, .invokevirtual 102, 3, 23, 91, 0, 0), (826, .if_icmp .eq 793, 3, 12, 0, 0, 0), (829, .iconst 0, 1, 0, 0, 0, 0), (830, .ireturn, 1, 21, 0, 0, 0), (831, .aload_n 1, 1, 3, 0, 0, 0), (832, .invokevirtual 103, 3, 23, 92, 0, 0), (835, .aload_n 2, 1, 3, 0, 0, 0), (836, .invokevirtual 106, 3, 23, 93, 0, 0), (839, .if_icmp .eq 780, 3, 12, 0, 0, 0), (842, .iconst 0, 1, 0, 0, 0, 0), (843, .ireturn, 1, 21, 0, 0, 0), (844, .aload_n 1, 1, 3, 0, 0, 0), (845, .aload_n 0, 1, 3, 0, 0, 0), (846, .iload_n 3, 1, 2, 0, 0, 0), (847, .iconst 1, 1, 0, 0, 0, 0), (848, .iadd, 1, 7, 0, 0, 0), (849, .iaload, 1, 22, 0, 0, 0), (850, .invokevirtual 107, 3, 23, 94, 0, 0), (853, .aload_n 2, 1, 3, 0, 0, 0), (854, .aload_n 0, 1, 3, 0, 0, 0), (855, .iload_n 3, 1, 2, 0, 0, 0), (856, .iconst 1, 1, 0, 0, 0, 0), (857, .iadd, 1, 7, 0, 0, 0), (858, .iaload, 1, 22, 0, 0, 0), (859, .invokevirtual 110, 3, 23, 95, 0, 0)]
set_option maxRecDepth 100000 in
theorem ee_T97_15ok : ee_T97_15.all (ee_eb 10 code false) = true := by decide +kernel
end
section
def ee_T97_16 : List ee_en := [(862, .if_icmp .eq 757, 3, 12, 0, 0, 0), (865, .iconst 0, 1, 0, 0, 0, 0), (866, .ireturn, 1, 21, 0, 0, 0), (867, .aload_n 1, 1, 3, 0, 0, 0), (868, .aload_n 0, 1, 3, 0, 0, 0), (869, .iload_n 3, 1, 2, 0, 0, 0), (870, .iconst 1, 1, 0, 0, 0, 0), (871, .iadd, 1, 7, 0, 0, 0), (872, .iaload, 1, 22, 0, 0, 0), (873, .aload_n 0, 1, 3, 0, 0, 0), (874, .iload_n 3, 1, 2, 0, 0, 0), (875, .iconst 2, 1, 0, 0, 0, 0), (876, .iadd, 1, 7, 0, 0, 0), (877, .iaload, 1, 22, 0, 0, 0), (878, .invokevirtual 111, 3, 23, 96, 0, 0), (881, .aload_n 2, 1, 3, 0, 0, 0), (882, .aload_n 0, 1, 3, 0, 0, 0), (883, .iload_n 3, 1, 2, 0, 0, 0), (884, .iconst 1, 1, 0, 0, 0, 0), (885, .iadd, 1, 7, 0, 0, 0), (886, .iaload, 1, 22, 0, 0, 0), (887, .aload_n 0, 1, 3, 0, 0, 0), (888, .iload_n 3, 1, 2, 0, 0, 0), (889, .iconst 2, 1, 0, 0, 0, 0), (890, .iadd, 1, 7, 0, 0, 0), (891, .iaload, 1, 22, 0, 0, 0), (892, .invokevirtual 114, 3, 23, 97, 0, 0), (895, .if_icmp .eq 724, 3, 12, 0, 0, 0), (898, .iconst 0, 1, 0, 0, 0, 0), (899, .ireturn, 1, 21, 0, 0, 0)]
set_option maxRecDepth 100000 in
theorem ee_T97_16ok : ee_T97_16.all (ee_eb 10 code false) = true := by decide +kernel
def ee_T97_17 : List ee_en := [(900, .aload_n 1, 1, 3, 0, 0, 0), (901, .aload_n 0, 1, 3, 0, 0, 0), (902, .iload_n 3, 1, 2, 0, 0, 0), (903, .iconst 1, 1, 0, 0, 0, 0), (904, .iadd, 1, 7, 0, 0, 0), (905, .iaload, 1, 22, 0, 0, 0), (906, .invokevirtual 115, 3, 23, 98, 0, 0), (909, .aload_n 2, 1, 3, 0, 0, 0), (910, .aload_n 0, 1, 3, 0, 0, 0), (911, .iload_n 3, 1, 2, 0, 0, 0), (912, .iconst 1, 1, 0, 0, 0, 0), (913, .iadd, 1, 7, 0, 0, 0), (914, .iaload, 1, 22, 0, 0, 0), (915, .invokevirtual 118, 3, 23, 99, 0, 0), (918, .if_icmp .eq 701, 3, 12, 0, 0, 0), (921, .iconst 0, 1, 0, 0, 0, 0), (922, .ireturn, 1, 21, 0, 0, 0), (923, .aload_n 1, 1, 3, 0, 0, 0), (924, .invokevirtual 119, 3, 23, 100, 0, 0), (927, .aload_n 2, 1, 3, 0, 0, 0), (928, .invokevirtual 122, 3, 23, 101, 0, 0), (931, .if_icmp .eq 688, 3, 12, 0, 0, 0), (934, .iconst 0, 1, 0, 0, 0, 0), (935, .ireturn, 1, 21, 0, 0, 0), (936, .aload_n 1, 1, 3, 0, 0, 0), (937, .aload_n 0, 1, 3, 0, 0, 0), (938, .iload_n 3, 1, 2, 0, 0, 0), (939, .iconst 1, 1, 0, 0, 0, 0), (940, .iadd, 1, 7, 0, 0, 0), (941, .iaload, 1, 22, 0, 0, 0)]
set_option maxRecDepth 100000 in
theorem ee_T97_17ok : ee_T97_17.all (ee_eb 10 code false) = true := by decide +kernel
def ee_T97_18 : List ee_en := [(942, .invokevirtual 123, 3, 23, 102, 0, 0), (945, .aload_n 2, 1, 3, 0, 0, 0), (946, .aload_n 0, 1, 3, 0, 0, 0), (947, .iload_n 3, 1, 2, 0, 0, 0), (948, .iconst 1, 1, 0, 0, 0, 0), (949, .iadd, 1, 7, 0, 0, 0), (950, .iaload, 1, 22, 0, 0, 0), (951, .invokevirtual 126, 3, 23, 103, 0, 0), (954, .if_icmp .eq 665, 3, 12, 0, 0, 0), (957, .iconst 0, 1, 0, 0, 0, 0), (958, .ireturn, 1, 21, 0, 0, 0), (959, .aload_n 1, 1, 3, 0, 0, 0), (960, .aload_n 0, 1, 3, 0, 0, 0), (961, .iload_n 3, 1, 2, 0, 0, 0), (962, .iconst 1, 1, 0, 0, 0, 0), (963, .iadd, 1, 7, 0, 0, 0), (964, .iaload, 1, 22, 0, 0, 0), (965, .aload_n 0, 1, 3, 0, 0, 0), (966, .iload_n 3, 1, 2, 0, 0, 0), (967, .iconst 2, 1, 0, 0, 0, 0), (968, .iadd, 1, 7, 0, 0, 0), (969, .iaload, 1, 22, 0, 0, 0), (970, .invokevirtual 127, 3, 23, 104, 0, 0), (973, .aload_n 2, 1, 3, 0, 0, 0), (974, .aload_n 0, 1, 3, 0, 0, 0), (975, .iload_n 3, 1, 2, 0, 0, 0), (976, .iconst 1, 1, 0, 0, 0, 0), (977, .iadd, 1, 7, 0, 0, 0), (978, .iaload, 1, 22, 0, 0, 0), (979, .aload_n 0, 1, 3, 0, 0, 0)]
set_option maxRecDepth 100000 in
theorem ee_T97_18ok : ee_T97_18.all (ee_eb 10 code false) = true := by decide +kernel
def ee_T97_19 : List ee_en := [(980, .iload_n 3, 1, 2, 0, 0, 0), (981, .iconst 2, 1, 0, 0, 0, 0), (982, .iadd, 1, 7, 0, 0, 0), (983, .iaload, 1, 22, 0, 0, 0), (984, .invokevirtual 130, 3, 23, 105, 0, 0), (987, .if_icmp .eq 632, 3, 12, 0, 0, 0), (990, .iconst 0, 1, 0, 0, 0, 0), (991, .ireturn, 1, 21, 0, 0, 0), (992, .aload_n 1, 1, 3, 0, 0, 0), (993, .aload_n 0, 1, 3, 0, 0, 0), (994, .iload_n 3, 1, 2, 0, 0, 0), (995, .iconst 1, 1, 0, 0, 0, 0), (996, .iadd, 1, 7, 0, 0, 0), (997, .iaload, 1, 22, 0, 0, 0), (998, .invokevirtual 131, 3, 23, 106, 0, 0), (1001, .aload_n 2, 1, 3, 0, 0, 0), (1002, .aload_n 0, 1, 3, 0, 0, 0), (1003, .iload_n 3, 1, 2, 0, 0, 0), (1004, .iconst 1, 1, 0, 0, 0, 0), (1005, .iadd, 1, 7, 0, 0, 0), (1006, .iaload, 1, 22, 0, 0, 0), (1007, .invokevirtual 134, 3, 23, 107, 0, 0), (1010, .if_icmp .eq 609, 3, 12, 0, 0, 0), (1013, .iconst 0, 1, 0, 0, 0, 0), (1014, .ireturn, 1, 21, 0, 0, 0), (1015, .aload_n 1, 1, 3, 0, 0, 0), (1016, .aload_n 0, 1, 3, 0, 0, 0), (1017, .iload_n 3, 1, 2, 0, 0, 0), (1018, .iconst 1, 1, 0, 0, 0, 0), (1019, .iadd, 1, 7, 0, 0, 0)]
set_option maxRecDepth 100000 in
theorem ee_T97_19ok : ee_T97_19.all (ee_eb 10 code false) = true := by decide +kernel
end
section
def ee_T97_20 : List ee_en := [(1020, .iaload, 1, 22, 0, 0, 0), (1021, .invokevirtual 135, 3, 23, 108, 0, 0), (1024, .aload_n 2, 1, 3, 0, 0, 0), (1025, .aload_n 0, 1, 3, 0, 0, 0), (1026, .iload_n 3, 1, 2, 0, 0, 0), (1027, .iconst 1, 1, 0, 0, 0, 0), (1028, .iadd, 1, 7, 0, 0, 0), (1029, .iaload, 1, 22, 0, 0, 0), (1030, .invokevirtual 138, 3, 23, 109, 0, 0), (1033, .if_icmp .eq 586, 3, 12, 0, 0, 0), (1036, .iconst 0, 1, 0, 0, 0, 0), (1037, .ireturn, 1, 21, 0, 0, 0), (1038, .aload_n 1, 1, 3, 0, 0, 0), (1039, .aload_n 0, 1, 3, 0, 0, 0), (1040, .iload_n 3, 1, 2, 0, 0, 0), (1041, .iconst 1, 1, 0, 0, 0, 0), (1042, .iadd, 1, 7, 0, 0, 0), (1043, .iaload, 1, 22, 0, 0, 0), (1044, .aload_n 0, 1, 3, 0, 0, 0), (1045, .iload_n 3, 1, 2, 0, 0, 0), (1046, .iconst 2, 1, 0, 0, 0, 0), (1047, .iadd, 1, 7, 0, 0, 0), (1048, .iaload, 1, 22, 0, 0, 0), (1049, .invokevirtual 139, 3, 23, 110, 0, 0), (1052, .aload_n 2, 1, 3, 0, 0, 0), (1053, .aload_n 0, 1, 3, 0, 0, 0), (1054, .iload_n 3, 1, 2, 0, 0, 0), (1055, .iconst 1, 1, 0, 0, 0, 0), (1056, .iadd, 1, 7, 0, 0, 0), (1057, .iaload, 1, 22, 0, 0, 0)]
set_option maxRecDepth 100000 in
theorem ee_T97_20ok : ee_T97_20.all (ee_eb 10 code false) = true := by decide +kernel
def ee_T97_21 : List ee_en := [(1058, .aload_n 0, 1, 3, 0, 0, 0), (1059, .iload_n 3, 1, 2, 0, 0, 0), (1060, .iconst 2, 1, 0, 0, 0, 0), (1061, .iadd, 1, 7, 0, 0, 0), (1062, .iaload, 1, 22, 0, 0, 0), (1063, .invokevirtual 142, 3, 23, 111, 0, 0), (1066, .if_icmp .eq 553, 3, 12, 0, 0, 0), (1069, .iconst 0, 1, 0, 0, 0, 0), (1070, .ireturn, 1, 21, 0, 0, 0), (1071, .aload_n 1, 1, 3, 0, 0, 0), (1072, .aload_n 0, 1, 3, 0, 0, 0), (1073, .iload_n 3, 1, 2, 0, 0, 0), (1074, .iconst 1, 1, 0, 0, 0, 0), (1075, .iadd, 1, 7, 0, 0, 0), (1076, .iaload, 1, 22, 0, 0, 0), (1077, .aload_n 0, 1, 3, 0, 0, 0), (1078, .iload_n 3, 1, 2, 0, 0, 0), (1079, .iconst 2, 1, 0, 0, 0, 0), (1080, .iadd, 1, 7, 0, 0, 0), (1081, .iaload, 1, 22, 0, 0, 0), (1082, .invokevirtual 143, 3, 23, 112, 0, 0), (1085, .aload_n 2, 1, 3, 0, 0, 0), (1086, .aload_n 0, 1, 3, 0, 0, 0), (1087, .iload_n 3, 1, 2, 0, 0, 0), (1088, .iconst 1, 1, 0, 0, 0, 0), (1089, .iadd, 1, 7, 0, 0, 0), (1090, .iaload, 1, 22, 0, 0, 0), (1091, .aload_n 0, 1, 3, 0, 0, 0), (1092, .iload_n 3, 1, 2, 0, 0, 0), (1093, .iconst 2, 1, 0, 0, 0, 0)]
set_option maxRecDepth 100000 in
theorem ee_T97_21ok : ee_T97_21.all (ee_eb 10 code false) = true := by decide +kernel
def ee_T97_22 : List ee_en := [(1094, .iadd, 1, 7, 0, 0, 0), (1095, .iaload, 1, 22, 0, 0, 0), (1096, .invokevirtual 146, 3, 23, 113, 0, 0), (1099, .if_icmp .eq 520, 3, 12, 0, 0, 0), (1102, .iconst 0, 1, 0, 0, 0, 0), (1103, .ireturn, 1, 21, 0, 0, 0), (1104, .aload_n 1, 1, 3, 0, 0, 0), (1105, .invokevirtual 147, 3, 23, 114, 0, 0), (1108, .aload_n 2, 1, 3, 0, 0, 0), (1109, .invokevirtual 150, 3, 23, 115, 0, 0), (1112, .if_icmp .eq 507, 3, 12, 0, 0, 0), (1115, .iconst 0, 1, 0, 0, 0, 0), (1116, .ireturn, 1, 21, 0, 0, 0), (1117, .aload_n 1, 1, 3, 0, 0, 0), (1118, .aload_n 0, 1, 3, 0, 0, 0), (1119, .iload_n 3, 1, 2, 0, 0, 0), (1120, .iconst 1, 1, 0, 0, 0, 0), (1121, .iadd, 1, 7, 0, 0, 0), (1122, .iaload, 1, 22, 0, 0, 0), (1123, .invokevirtual 151, 3, 23, 116, 0, 0), (1126, .aload_n 2, 1, 3, 0, 0, 0), (1127, .aload_n 0, 1, 3, 0, 0, 0), (1128, .iload_n 3, 1, 2, 0, 0, 0), (1129, .iconst 1, 1, 0, 0, 0, 0), (1130, .iadd, 1, 7, 0, 0, 0), (1131, .iaload, 1, 22, 0, 0, 0), (1132, .invokevirtual 154, 3, 23, 117, 0, 0), (1135, .if_icmp .eq 484, 3, 12, 0, 0, 0), (1138, .iconst 0, 1, 0, 0, 0, 0), (1139, .ireturn, 1, 21, 0, 0, 0)]
set_option maxRecDepth 100000 in
theorem ee_T97_22ok : ee_T97_22.all (ee_eb 10 code false) = true := by decide +kernel
def ee_T97_23 : List ee_en := [(1140, .aload_n 1, 1, 3, 0, 0, 0), (1141, .aload_n 0, 1, 3, 0, 0, 0), (1142, .iload_n 3, 1, 2, 0, 0, 0), (1143, .iconst 1, 1, 0, 0, 0, 0), (1144, .iadd, 1, 7, 0, 0, 0), (1145, .iaload, 1, 22, 0, 0, 0), (1146, .invokevirtual 155, 3, 23, 118, 0, 0), (1149, .aload_n 2, 1, 3, 0, 0, 0), (1150, .aload_n 0, 1, 3, 0, 0, 0), (1151, .iload_n 3, 1, 2, 0, 0, 0), (1152, .iconst 1, 1, 0, 0, 0, 0), (1153, .iadd, 1, 7, 0, 0, 0), (1154, .iaload, 1, 22, 0, 0, 0), (1155, .invokevirtual 158, 3, 23, 119, 0, 0), (1158, .if_icmp .eq 461, 3, 12, 0, 0, 0), (1161, .iconst 0, 1, 0, 0, 0, 0), (1162, .ireturn, 1, 21, 0, 0, 0), (1163, .aload_n 1, 1, 3, 0, 0, 0), (1164, .invokevirtual 159, 3, 23, 120, 0, 0), (1167, .aload_n 2, 1, 3, 0, 0, 0), (1168, .invokevirtual 162, 3, 23, 121, 0, 0), (1171, .if_icmp .eq 448, 3, 12, 0, 0, 0), (1174, .iconst 0, 1, 0, 0, 0, 0), (1175, .ireturn, 1, 21, 0, 0, 0), (1176, .aload_n 1, 1, 3, 0, 0, 0), (1177, .invokevirtual 163, 3, 23, 122, 0, 0), (1180, .aload_n 2, 1, 3, 0, 0, 0), (1181, .invokevirtual 166, 3, 23, 123, 0, 0), (1184, .if_icmp .eq 435, 3, 12, 0, 0, 0), (1187, .iconst 0, 1, 0, 0, 0, 0)]
set_option maxRecDepth 100000 in
theorem ee_T97_23ok : ee_T97_23.all (ee_eb 10 code false) = true := by decide +kernel
end
section
def ee_T97_24 : List ee_en := [(1188, .ireturn, 1, 21, 0, 0, 0), (1189, .aload_n 1, 1, 3, 0, 0, 0), (1190, .invokevirtual 167, 3, 23, 124, 0, 0), (1193, .aload_n 2, 1, 3, 0, 0, 0), (1194, .invokevirtual 170, 3, 23, 125, 0, 0), (1197, .if_icmp .eq 422, 3, 12, 0, 0, 0), (1200, .iconst 0, 1, 0, 0, 0, 0), (1201, .ireturn, 1, 21, 0, 0, 0), (1202, .aload_n 1, 1, 3, 0, 0, 0), (1203, .invokevirtual 171, 3, 23, 126, 0, 0), (1206, .aload_n 2, 1, 3, 0, 0, 0), (1207, .invokevirtual 174, 3, 23, 127, 0, 0), (1210, .if_icmp .eq 409, 3, 12, 0, 0, 0), (1213, .iconst 0, 1, 0, 0, 0, 0), (1214, .ireturn, 1, 21, 0, 0, 0), (1215, .aload_n 1, 1, 3, 0, 0, 0), (1216, .invokevirtual 175, 3, 23, 128, 0, 0), (1219, .aload_n 2, 1, 3, 0, 0, 0), (1220, .invokevirtual 178, 3, 23, 129, 0, 0), (1223, .if_icmp .eq 396, 3, 12, 0, 0, 0), (1226, .iconst 0, 1, 0, 0, 0, 0), (1227, .ireturn, 1, 21, 0, 0, 0), (1228, .aload_n 1, 1, 3, 0, 0, 0), (1229, .invokevirtual 179, 3, 23, 130, 0, 0), (1232, .aload_n 2, 1, 3, 0, 0, 0), (1233, .invokevirtual 182, 3, 23, 131, 0, 0), (1236, .if_icmp .eq 383, 3, 12, 0, 0, 0), (1239, .iconst 0, 1, 0, 0, 0, 0), (1240, .ireturn, 1, 21, 0, 0, 0), (1241, .aload_n 1, 1, 3, 0, 0, 0)]
set_option maxRecDepth 100000 in
theorem ee_T97_24ok : ee_T97_24.all (ee_eb 10 code false) = true := by decide +kernel
def ee_T97_25 : List ee_en := [(1242, .invokevirtual 183, 3, 23, 132, 0, 0), (1245, .aload_n 2, 1, 3, 0, 0, 0), (1246, .invokevirtual 186, 3, 23, 133, 0, 0), (1249, .if_icmp .eq 370, 3, 12, 0, 0, 0), (1252, .iconst 0, 1, 0, 0, 0, 0), (1253, .ireturn, 1, 21, 0, 0, 0), (1254, .aload_n 1, 1, 3, 0, 0, 0), (1255, .aload_n 0, 1, 3, 0, 0, 0), (1256, .iload_n 3, 1, 2, 0, 0, 0), (1257, .iconst 1, 1, 0, 0, 0, 0), (1258, .iadd, 1, 7, 0, 0, 0), (1259, .iaload, 1, 22, 0, 0, 0), (1260, .aload_n 0, 1, 3, 0, 0, 0), (1261, .iload_n 3, 1, 2, 0, 0, 0), (1262, .iconst 2, 1, 0, 0, 0, 0), (1263, .iadd, 1, 7, 0, 0, 0), (1264, .iaload, 1, 22, 0, 0, 0), (1265, .invokevirtual 187, 3, 23, 134, 0, 0), (1268, .aload_n 2, 1, 3, 0, 0, 0), (1269, .aload_n 0, 1, 3, 0, 0, 0), (1270, .iload_n 3, 1, 2, 0, 0, 0), (1271, .iconst 1, 1, 0, 0, 0, 0), (1272, .iadd, 1, 7, 0, 0, 0), (1273, .iaload, 1, 22, 0, 0, 0), (1274, .aload_n 0, 1, 3, 0, 0, 0), (1275, .iload_n 3, 1, 2, 0, 0, 0), (1276, .iconst 2, 1, 0, 0, 0, 0), (1277, .iadd, 1, 7, 0, 0, 0), (1278, .iaload, 1, 22, 0, 0, 0), (1279, .invokevirtual 190, 3, 23, 135, 0, 0)]
set_option maxRecDepth 100000 in
theorem ee_T97_25ok : ee_T97_25.all (ee_eb 10 code false) = true := by decide +kernel
def ee_T97_26 : List ee_en := [(1282, .if_icmp .eq 337, 3, 12, 0, 0, 0), (1285, .iconst 0, 1, 0, 0, 0, 0), (1286, .ireturn, 1, 21, 0, 0, 0), (1287, .aload_n 1, 1, 3, 0, 0, 0), (1288, .invokevirtual 191, 3, 23, 136, 0, 0), (1291, .aload_n 2, 1, 3, 0, 0, 0), (1292, .invokevirtual 194, 3, 23, 137, 0, 0), (1295, .if_icmp .eq 324, 3, 12, 0, 0, 0), (1298, .iconst 0, 1, 0, 0, 0, 0), (1299, .ireturn, 1, 21, 0, 0, 0), (1300, .aload_n 1, 1, 3, 0, 0, 0), (1301, .aload_n 0, 1, 3, 0, 0, 0), (1302, .iload_n 3, 1, 2, 0, 0, 0), (1303, .iconst 1, 1, 0, 0, 0, 0), (1304, .iadd, 1, 7, 0, 0, 0), (1305, .iaload, 1, 22, 0, 0, 0), (1306, .aload_n 0, 1, 3, 0, 0, 0), (1307, .iload_n 3, 1, 2, 0, 0, 0), (1308, .iconst 2, 1, 0, 0, 0, 0), (1309, .iadd, 1, 7, 0, 0, 0), (1310, .iaload, 1, 22, 0, 0, 0), (1311, .invokevirtual 195, 3, 23, 138, 0, 0), (1314, .aload_n 2, 1, 3, 0, 0, 0), (1315, .aload_n 0, 1, 3, 0, 0, 0), (1316, .iload_n 3, 1, 2, 0, 0, 0), (1317, .iconst 1, 1, 0, 0, 0, 0), (1318, .iadd, 1, 7, 0, 0, 0), (1319, .iaload, 1, 22, 0, 0, 0), (1320, .aload_n 0, 1, 3, 0, 0, 0), (1321, .iload_n 3, 1, 2, 0, 0, 0)]
set_option maxRecDepth 100000 in
theorem ee_T97_26ok : ee_T97_26.all (ee_eb 10 code false) = true := by decide +kernel
def ee_T97_27 : List ee_en := [(1322, .iconst 2, 1, 0, 0, 0, 0), (1323, .iadd, 1, 7, 0, 0, 0), (1324, .iaload, 1, 22, 0, 0, 0), (1325, .invokevirtual 198, 3, 23, 139, 0, 0), (1328, .if_icmp .eq 291, 3, 12, 0, 0, 0), (1331, .iconst 0, 1, 0, 0, 0, 0), (1332, .ireturn, 1, 21, 0, 0, 0), (1333, .aload_n 1, 1, 3, 0, 0, 0), (1334, .aload_n 0, 1, 3, 0, 0, 0), (1335, .iload_n 3, 1, 2, 0, 0, 0), (1336, .iconst 1, 1, 0, 0, 0, 0), (1337, .iadd, 1, 7, 0, 0, 0), (1338, .iaload, 1, 22, 0, 0, 0), (1339, .invokevirtual 199, 3, 23, 140, 0, 0), (1342, .aload_n 2, 1, 3, 0, 0, 0), (1343, .aload_n 0, 1, 3, 0, 0, 0), (1344, .iload_n 3, 1, 2, 0, 0, 0), (1345, .iconst 1, 1, 0, 0, 0, 0), (1346, .iadd, 1, 7, 0, 0, 0), (1347, .iaload, 1, 22, 0, 0, 0), (1348, .invokevirtual 202, 3, 23, 141, 0, 0), (1351, .if_icmp .eq 268, 3, 12, 0, 0, 0), (1354, .iconst 0, 1, 0, 0, 0, 0), (1355, .ireturn, 1, 21, 0, 0, 0), (1356, .aload_n 1, 1, 3, 0, 0, 0), (1357, .aload_n 0, 1, 3, 0, 0, 0), (1358, .iload_n 3, 1, 2, 0, 0, 0), (1359, .iconst 1, 1, 0, 0, 0, 0), (1360, .iadd, 1, 7, 0, 0, 0), (1361, .iaload, 1, 22, 0, 0, 0)]
set_option maxRecDepth 100000 in
theorem ee_T97_27ok : ee_T97_27.all (ee_eb 10 code false) = true := by decide +kernel
end
section
def ee_T97_28 : List ee_en := [(1362, .aload_n 0, 1, 3, 0, 0, 0), (1363, .iload_n 3, 1, 2, 0, 0, 0), (1364, .iconst 2, 1, 0, 0, 0, 0), (1365, .iadd, 1, 7, 0, 0, 0), (1366, .iaload, 1, 22, 0, 0, 0), (1367, .aload_n 0, 1, 3, 0, 0, 0), (1368, .iload_n 3, 1, 2, 0, 0, 0), (1369, .iconst 3, 1, 0, 0, 0, 0), (1370, .iadd, 1, 7, 0, 0, 0), (1371, .iaload, 1, 22, 0, 0, 0), (1372, .ifCond .eq 7, 3, 12, 0, 0, 0), (1375, .iconst 1, 1, 0, 0, 0, 0), (1376, .goto 4, 3, 0, 0, 0, 0), (1379, .iconst 0, 1, 0, 0, 0, 0), (1380, .invokevirtual 203, 3, 23, 142, 0, 0), (1383, .aload_n 2, 1, 3, 0, 0, 0), (1384, .aload_n 0, 1, 3, 0, 0, 0), (1385, .iload_n 3, 1, 2, 0, 0, 0), (1386, .iconst 1, 1, 0, 0, 0, 0), (1387, .iadd, 1, 7, 0, 0, 0), (1388, .iaload, 1, 22, 0, 0, 0), (1389, .aload_n 0, 1, 3, 0, 0, 0), (1390, .iload_n 3, 1, 2, 0, 0, 0), (1391, .iconst 2, 1, 0, 0, 0, 0), (1392, .iadd, 1, 7, 0, 0, 0), (1393, .iaload, 1, 22, 0, 0, 0), (1394, .aload_n 0, 1, 3, 0, 0, 0), (1395, .iload_n 3, 1, 2, 0, 0, 0), (1396, .iconst 3, 1, 0, 0, 0, 0), (1397, .iadd, 1, 7, 0, 0, 0)]
set_option maxRecDepth 100000 in
theorem ee_T97_28ok : ee_T97_28.all (ee_eb 10 code false) = true := by decide +kernel
def ee_T97_29 : List ee_en := [(1398, .iaload, 1, 22, 0, 0, 0), (1399, .ifCond .eq 7, 3, 12, 0, 0, 0), (1402, .iconst 1, 1, 0, 0, 0, 0), (1403, .goto 4, 3, 0, 0, 0, 0), (1406, .iconst 0, 1, 0, 0, 0, 0), (1407, .invokevirtual 207, 3, 23, 143, 0, 0), (1410, .if_icmp .eq 209, 3, 12, 0, 0, 0), (1413, .iconst 0, 1, 0, 0, 0, 0), (1414, .ireturn, 1, 21, 0, 0, 0), (1415, .aload_n 1, 1, 3, 0, 0, 0), (1416, .aload_n 0, 1, 3, 0, 0, 0), (1417, .iload_n 3, 1, 2, 0, 0, 0), (1418, .iconst 1, 1, 0, 0, 0, 0), (1419, .iadd, 1, 7, 0, 0, 0), (1420, .iaload, 1, 22, 0, 0, 0), (1421, .invokevirtual 208, 3, 23, 144, 0, 0), (1424, .aload_n 2, 1, 3, 0, 0, 0), (1425, .aload_n 0, 1, 3, 0, 0, 0), (1426, .iload_n 3, 1, 2, 0, 0, 0), (1427, .iconst 1, 1, 0, 0, 0, 0), (1428, .iadd, 1, 7, 0, 0, 0), (1429, .iaload, 1, 22, 0, 0, 0), (1430, .invokevirtual 212, 3, 23, 145, 0, 0), (1433, .if_icmp .eq 186, 3, 12, 0, 0, 0), (1436, .iconst 0, 1, 0, 0, 0, 0), (1437, .ireturn, 1, 21, 0, 0, 0), (1438, .aload_n 1, 1, 3, 0, 0, 0), (1439, .aload_n 0, 1, 3, 0, 0, 0), (1440, .iload_n 3, 1, 2, 0, 0, 0), (1441, .iconst 1, 1, 0, 0, 0, 0)]
set_option maxRecDepth 100000 in
theorem ee_T97_29ok : ee_T97_29.all (ee_eb 10 code false) = true := by decide +kernel
def ee_T97_30 : List ee_en := [(1442, .iadd, 1, 7, 0, 0, 0), (1443, .iaload, 1, 22, 0, 0, 0), (1444, .invokevirtual 213, 3, 23, 146, 0, 0), (1447, .aload_n 2, 1, 3, 0, 0, 0), (1448, .aload_n 0, 1, 3, 0, 0, 0), (1449, .iload_n 3, 1, 2, 0, 0, 0), (1450, .iconst 1, 1, 0, 0, 0, 0), (1451, .iadd, 1, 7, 0, 0, 0), (1452, .iaload, 1, 22, 0, 0, 0), (1453, .invokevirtual 216, 3, 23, 147, 0, 0), (1456, .if_icmp .eq 163, 3, 12, 0, 0, 0), (1459, .iconst 0, 1, 0, 0, 0, 0), (1460, .ireturn, 1, 21, 0, 0, 0), (1461, .aload_n 1, 1, 3, 0, 0, 0), (1462, .aload_n 0, 1, 3, 0, 0, 0), (1463, .iload_n 3, 1, 2, 0, 0, 0), (1464, .iconst 1, 1, 0, 0, 0, 0), (1465, .iadd, 1, 7, 0, 0, 0), (1466, .iaload, 1, 22, 0, 0, 0), (1467, .invokevirtual 217, 3, 23, 148, 0, 0), (1470, .aload_n 2, 1, 3, 0, 0, 0), (1471, .aload_n 0, 1, 3, 0, 0, 0), (1472, .iload_n 3, 1, 2, 0, 0, 0), (1473, .iconst 1, 1, 0, 0, 0, 0), (1474, .iadd, 1, 7, 0, 0, 0), (1475, .iaload, 1, 22, 0, 0, 0), (1476, .invokevirtual 220, 3, 23, 149, 0, 0), (1479, .if_icmp .eq 140, 3, 12, 0, 0, 0), (1482, .iconst 0, 1, 0, 0, 0, 0), (1483, .ireturn, 1, 21, 0, 0, 0)]
set_option maxRecDepth 100000 in
theorem ee_T97_30ok : ee_T97_30.all (ee_eb 10 code false) = true := by decide +kernel
def ee_T97_31 : List ee_en := [(1484, .aload_n 1, 1, 3, 0, 0, 0), (1485, .aload_n 0, 1, 3, 0, 0, 0), (1486, .iload_n 3, 1, 2, 0, 0, 0), (1487, .iconst 1, 1, 0, 0, 0, 0), (1488, .iadd, 1, 7, 0, 0, 0), (1489, .iaload, 1, 22, 0, 0, 0), (1490, .aload_n 0, 1, 3, 0, 0, 0), (1491, .iload_n 3, 1, 2, 0, 0, 0), (1492, .iconst 2, 1, 0, 0, 0, 0), (1493, .iadd, 1, 7, 0, 0, 0), (1494, .iaload, 1, 22, 0, 0, 0), (1495, .invokevirtual 221, 3, 23, 150, 0, 0), (1498, .aload_n 2, 1, 3, 0, 0, 0), (1499, .aload_n 0, 1, 3, 0, 0, 0), (1500, .iload_n 3, 1, 2, 0, 0, 0), (1501, .iconst 1, 1, 0, 0, 0, 0), (1502, .iadd, 1, 7, 0, 0, 0), (1503, .iaload, 1, 22, 0, 0, 0), (1504, .aload_n 0, 1, 3, 0, 0, 0), (1505, .iload_n 3, 1, 2, 0, 0, 0), (1506, .iconst 2, 1, 0, 0, 0, 0), (1507, .iadd, 1, 7, 0, 0, 0), (1508, .iaload, 1, 22, 0, 0, 0), (1509, .invokevirtual 224, 3, 23, 151, 0, 0), (1512, .if_icmp .eq 107, 3, 12, 0, 0, 0), (1515, .iconst 0, 1, 0, 0, 0, 0), (1516, .ireturn, 1, 21, 0, 0, 0), (1517, .aload_n 1, 1, 3, 0, 0, 0), (1518, .aload_n 0, 1, 3, 0, 0, 0), (1519, .iload_n 3, 1, 2, 0, 0, 0)]
set_option maxRecDepth 100000 in
theorem ee_T97_31ok : ee_T97_31.all (ee_eb 10 code false) = true := by decide +kernel
end
section
def ee_T97_32 : List ee_en := [(1520, .iconst 1, 1, 0, 0, 0, 0), (1521, .iadd, 1, 7, 0, 0, 0), (1522, .iaload, 1, 22, 0, 0, 0), (1523, .aload_n 0, 1, 3, 0, 0, 0), (1524, .iload_n 3, 1, 2, 0, 0, 0), (1525, .iconst 2, 1, 0, 0, 0, 0), (1526, .iadd, 1, 7, 0, 0, 0), (1527, .iaload, 1, 22, 0, 0, 0), (1528, .invokevirtual 225, 3, 23, 152, 0, 0), (1531, .aload_n 2, 1, 3, 0, 0, 0), (1532, .aload_n 0, 1, 3, 0, 0, 0), (1533, .iload_n 3, 1, 2, 0, 0, 0), (1534, .iconst 1, 1, 0, 0, 0, 0), (1535, .iadd, 1, 7, 0, 0, 0), (1536, .iaload, 1, 22, 0, 0, 0), (1537, .aload_n 0, 1, 3, 0, 0, 0), (1538, .iload_n 3, 1, 2, 0, 0, 0), (1539, .iconst 2, 1, 0, 0, 0, 0), (1540, .iadd, 1, 7, 0, 0, 0), (1541, .iaload, 1, 22, 0, 0, 0), (1542, .invokevirtual 228, 3, 23, 153, 0, 0), (1545, .if_icmp .eq 74, 3, 12, 0, 0, 0), (1548, .iconst 0, 1, 0, 0, 0, 0), (1549, .ireturn, 1, 21, 0, 0, 0), (1550, .aload_n 1, 1, 3, 0, 0, 0), (1551, .aload_n 0, 1, 3, 0, 0, 0), (1552, .iload_n 3, 1, 2, 0, 0, 0), (1553, .iconst 1, 1, 0, 0, 0, 0), (1554, .iadd, 1, 7, 0, 0, 0), (1555, .iaload, 1, 22, 0, 0, 0)]
set_option maxRecDepth 100000 in
theorem ee_T97_32ok : ee_T97_32.all (ee_eb 10 code false) = true := by decide +kernel
def ee_T97_33 : List ee_en := [(1556, .invokevirtual 229, 3, 23, 154, 0, 0), (1559, .aload_n 2, 1, 3, 0, 0, 0), (1560, .aload_n 0, 1, 3, 0, 0, 0), (1561, .iload_n 3, 1, 2, 0, 0, 0), (1562, .iconst 1, 1, 0, 0, 0, 0), (1563, .iadd, 1, 7, 0, 0, 0), (1564, .iaload, 1, 22, 0, 0, 0), (1565, .invokevirtual 232, 3, 23, 155, 0, 0), (1568, .if_icmp .eq 51, 3, 12, 0, 0, 0), (1571, .iconst 0, 1, 0, 0, 0, 0), (1572, .ireturn, 1, 21, 0, 0, 0), (1573, .aload_n 1, 1, 3, 0, 0, 0), (1574, .aload_n 0, 1, 3, 0, 0, 0), (1575, .iload_n 3, 1, 2, 0, 0, 0), (1576, .iconst 1, 1, 0, 0, 0, 0), (1577, .iadd, 1, 7, 0, 0, 0), (1578, .iaload, 1, 22, 0, 0, 0), (1579, .invokevirtual 233, 3, 23, 156, 0, 0), (1582, .aload_n 2, 1, 3, 0, 0, 0), (1583, .aload_n 0, 1, 3, 0, 0, 0), (1584, .iload_n 3, 1, 2, 0, 0, 0), (1585, .iconst 1, 1, 0, 0, 0, 0), (1586, .iadd, 1, 7, 0, 0, 0), (1587, .iaload, 1, 22, 0, 0, 0), (1588, .invokevirtual 236, 3, 23, 157, 0, 0), (1591, .if_icmp .eq 28, 3, 12, 0, 0, 0), (1594, .iconst 0, 1, 0, 0, 0, 0), (1595, .ireturn, 1, 21, 0, 0, 0), (1596, .aload_n 1, 1, 3, 0, 0, 0), (1597, .aload_n 0, 1, 3, 0, 0, 0)]
set_option maxRecDepth 100000 in
theorem ee_T97_33ok : ee_T97_33.all (ee_eb 10 code false) = true := by decide +kernel
def ee_T97_34 : List ee_en := [(1598, .iload_n 3, 1, 2, 0, 0, 0), (1599, .iconst 1, 1, 0, 0, 0, 0), (1600, .iadd, 1, 7, 0, 0, 0), (1601, .iaload, 1, 22, 0, 0, 0), (1602, .invokevirtual 237, 3, 23, 158, 0, 0), (1605, .aload_n 2, 1, 3, 0, 0, 0), (1606, .aload_n 0, 1, 3, 0, 0, 0), (1607, .iload_n 3, 1, 2, 0, 0, 0), (1608, .iconst 1, 1, 0, 0, 0, 0), (1609, .iadd, 1, 7, 0, 0, 0), (1610, .iaload, 1, 22, 0, 0, 0), (1611, .invokevirtual 240, 3, 23, 159, 0, 0), (1614, .if_icmp .eq 5, 3, 12, 0, 0, 0), (1617, .iconst 0, 1, 0, 0, 0, 0), (1618, .ireturn, 1, 21, 0, 0, 0), (1619, .iinc 3 6, 3, 6, 0, 0, 0), (1622, .goto (-1604), 3, 0, 0, 0, 0), (1625, .iconst 1, 1, 0, 0, 0, 0), (1626, .ireturn, 1, 21, 0, 0, 0)]
set_option maxRecDepth 100000 in
theorem ee_T97_34ok : ee_T97_34.all (ee_eb 10 code false) = true := by decide +kernel
def ee_T97 : List ee_en := ee_T97_0 ++ (ee_T97_1 ++ (ee_T97_2 ++ (ee_T97_3 ++ (ee_T97_4 ++ (ee_T97_5 ++ (ee_T97_6 ++ (ee_T97_7 ++ (ee_T97_8 ++ (ee_T97_9 ++ (ee_T97_10 ++ (ee_T97_11 ++ (ee_T97_12 ++ (ee_T97_13 ++ (ee_T97_14 ++ (ee_T97_15 ++ (ee_T97_16 ++ (ee_T97_17 ++ (ee_T97_18 ++ (ee_T97_19 ++ (ee_T97_20 ++ (ee_T97_21 ++ (ee_T97_22 ++ (ee_T97_23 ++ (ee_T97_24 ++ (ee_T97_25 ++ (ee_T97_26 ++ (ee_T97_27 ++ (ee_T97_28 ++ (ee_T97_29 ++ (ee_T97_30 ++ (ee_T97_31 ++ (ee_T97_32 ++ (ee_T97_33 ++ (ee_T97_34))))))))))))))))))))))))))))))))))
def ee_M8 : List ee_me := [(10, ⟨"PepperTablesLaw", "law", "([I)Z"⟩, code, 4, (some .boolean), ee_T97, 98, 11043)]
theorem ee_T97ok : ee_T97.all (ee_eb 10 code false) = true := by
  unfold ee_T97
  simp only [List.all_append, ee_T97_0ok, ee_T97_1ok, ee_T97_2ok, ee_T97_3ok, ee_T97_4ok, ee_T97_5ok, ee_T97_6ok, ee_T97_7ok, ee_T97_8ok, ee_T97_9ok, ee_T97_10ok, ee_T97_11ok, ee_T97_12ok, ee_T97_13ok, ee_T97_14ok, ee_T97_15ok, ee_T97_16ok, ee_T97_17ok, ee_T97_18ok, ee_T97_19ok, ee_T97_20ok, ee_T97_21ok, ee_T97_22ok, ee_T97_23ok, ee_T97_24ok, ee_T97_25ok, ee_T97_26ok, ee_T97_27ok, ee_T97_28ok, ee_T97_29ok, ee_T97_30ok, ee_T97_31ok, ee_T97_32ok, ee_T97_33ok, ee_T97_34ok, Bool.and_self]
theorem ee_M8ok : ee_M8.all ee_Mb = true := by
  have h : decide (ee_own[10]? = some (⟨"PepperTablesLaw", "law", "([I)Z"⟩ : MethodName).cls) = true := by decide +kernel
  show (decide (ee_own[10]? = some (⟨"PepperTablesLaw", "law", "([I)Z"⟩ : MethodName).cls) && ee_T97.all (ee_eb 10 code (decide ((⟨"PepperTablesLaw", "law", "([I)Z"⟩ : MethodName).name = "<init>"))) && true) = true
  have h2 : decide ((⟨"PepperTablesLaw", "law", "([I)Z"⟩ : MethodName).name = "<init>") = false := by decide +kernel
  rw [h, h2, ee_T97ok]
  rfl
end
section
/- 98: PepperTablesModel.<init>()V -/
def ee_T98 : List ee_en := [(0, .aload_n 0, 1, 3, 0, 0, 0), (1, .invokespecial 1, 3, 20, 9, 1, 0), (4, .aload_n 0, 1, 3, 0, 0, 0), (5, .sipush 1620, 3, 0, 0, 0, 0), (8, .newarray .byte, 2, 18, 0, 0, 0), (10, .putfield 7, 3, 15, 103, 0, 0), (13, .aload_n 0, 1, 3, 0, 0, 0), (14, .sipush 1600, 3, 0, 0, 0, 0), (17, .newarray .byte, 2, 18, 0, 0, 0), (19, .putfield 13, 3, 15, 104, 0, 0), (22, .aload_n 0, 1, 3, 0, 0, 0), (23, .iconst (-1), 1, 0, 0, 0, 0), (24, .putfield 16, 3, 15, 105, 0, 0), (27, .aload_n 0, 1, 3, 0, 0, 0), (28, .iconst 2, 1, 0, 0, 0, 0), (29, .newarray .int, 2, 18, 0, 0, 0), (31, .putfield 20, 3, 15, 106, 0, 0), (34, .aload_n 0, 1, 3, 0, 0, 0), (35, .iconst 2, 1, 0, 0, 0, 0), (36, .newarray .int, 2, 18, 0, 0, 0), (38, .putfield 24, 3, 15, 107, 0, 0), (41, .aload_n 0, 1, 3, 0, 0, 0), (42, .iconst 2, 1, 0, 0, 0, 0), (43, .newarray .int, 2, 18, 0, 0, 0), (45, .putfield 27, 3, 15, 108, 0, 0), (48, .aload_n 0, 1, 3, 0, 0, 0), (49, .iconst 2, 1, 0, 0, 0, 0), (50, .newarray .int, 2, 18, 0, 0, 0), (52, .putfield 30, 3, 15, 109, 0, 0), (55, .aload_n 0, 1, 3, 0, 0, 0), (56, .iconst 2, 1, 0, 0, 0, 0), (57, .newarray .int, 2, 18, 0, 0, 0), (59, .putfield 33, 3, 15, 110, 0, 0), (62, .aload_n 0, 1, 3, 0, 0, 0), (63, .iconst 2, 1, 0, 0, 0, 0), (64, .newarray .int, 2, 18, 0, 0, 0), (66, .putfield 36, 3, 15, 111, 0, 0), (69, .aload_n 0, 1, 3, 0, 0, 0), (70, .iconst 2, 1, 0, 0, 0, 0), (71, .newarray .int, 2, 18, 0, 0, 0), (73, .putfield 39, 3, 15, 112, 0, 0), (76, .aload_n 0, 1, 3, 0, 0, 0), (77, .bipush 12, 2, 0, 0, 0, 0), (79, .newarray .int, 2, 18, 0, 0, 0), (81, .putfield 42, 3, 15, 113, 0, 0), (84, .aload_n 0, 1, 3, 0, 0, 0), (85, .bipush 20, 2, 0, 0, 0, 0), (87, .newarray .int, 2, 18, 0, 0, 0), (89, .putfield 45, 3, 15, 114, 0, 0), (92, .aload_n 0, 1, 3, 0, 0, 0), (93, .bipush 20, 2, 0, 0, 0, 0), (95, .newarray .int, 2, 18, 0, 0, 0), (97, .putfield 48, 3, 15, 115, 0, 0), (100, .aload_n 0, 1, 3, 0, 0, 0), (101, .bipush 20, 2, 0, 0, 0, 0), (103, .newarray .int, 2, 18, 0, 0, 0), (105, .putfield 51, 3, 15, 116, 0, 0), (108, .aload_n 0, 1, 3, 0, 0, 0), (109, .bipush 20, 2, 0, 0, 0, 0), (111, .newarray .int, 2, 18, 0, 0, 0), (113, .putfield 54, 3, 15, 117, 0, 0), (116, .aload_n 0, 1, 3, 0, 0, 0), (117, .iconst 2, 1, 0, 0, 0, 0), (118, .newarray .int, 2, 18, 0, 0, 0), (120, .putfield 57, 3, 15, 118, 0, 0), (123, .aload_n 0, 1, 3, 0, 0, 0), (124, .iconst 2, 1, 0, 0, 0, 0), (125, .newarray .int, 2, 18, 0, 0, 0), (127, .putfield 60, 3, 15, 119, 0, 0), (130, .aload_n 0, 1, 3, 0, 0, 0), (131, .bipush 12, 2, 0, 0, 0, 0), (133, .newarray .long, 2, 18, 0, 0, 0), (135, .putfield 63, 3, 15, 120, 0, 0), (138, .aload_n 0, 1, 3, 0, 0, 0), (139, .bipush 10, 2, 0, 0, 0, 0), (141, .newarray .long, 2, 18, 0, 0, 0), (143, .putfield 67, 3, 15, 121, 0, 0), (146, .aload_n 0, 1, 3, 0, 0, 0), (147, .bipush 20, 2, 0, 0, 0, 0), (149, .newarray .long, 2, 18, 0, 0, 0), (151, .putfield 70, 3, 15, 122, 0, 0), (154, .aload_n 0, 1, 3, 0, 0, 0), (155, .sipush 1120, 3, 0, 0, 0, 0), (158, .newarray .int, 2, 18, 0, 0, 0), (160, .putfield 73, 3, 15, 123, 0, 0), (163, .aload_n 0, 1, 3, 0, 0, 0), (164, .sipush 1120, 3, 0, 0, 0, 0), (167, .newarray .int, 2, 18, 0, 0, 0), (169, .putfield 76, 3, 15, 124, 0, 0), (172, .aload_n 0, 1, 3, 0, 0, 0), (173, .bipush 90, 2, 0, 0, 0, 0), (175, .newarray .int, 2, 18, 0, 0, 0), (177, .putfield 79, 3, 15, 125, 0, 0), (180, .aload_n 0, 1, 3, 0, 0, 0), (181, .bipush 90, 2, 0, 0, 0, 0), (183, .newarray .int, 2, 18, 0, 0, 0), (185, .putfield 82, 3, 15, 126, 0, 0), (188, .aload_n 0, 1, 3, 0, 0, 0), (189, .bipush 60, 2, 0, 0, 0, 0), (191, .newarray .int, 2, 18, 0, 0, 0), (193, .putfield 85, 3, 15, 127, 0, 0), (196, .aload_n 0, 1, 3, 0, 0, 0), (197, .bipush 19, 2, 0, 0, 0, 0), (199, .newarray .int, 2, 18, 0, 0, 0), (201, .putfield 88, 3, 15, 128, 0, 0), (204, .aload_n 0, 1, 3, 0, 0, 0), (205, .iconst (-1), 1, 0, 0, 0, 0), (206, .putfield 91, 3, 15, 129, 0, 0), (209, .aload_n 0, 1, 3, 0, 0, 0), (210, .sipush 779, 3, 0, 0, 0, 0), (213, .newarray .int, 2, 18, 0, 0, 0), (215, .putfield 94, 3, 15, 130, 0, 0), (218, .aload_n 0, 1, 3, 0, 0, 0), (219, .bipush 19, 2, 0, 0, 0, 0), (221, .newarray .int, 2, 18, 0, 0, 0), (223, .putfield 97, 3, 15, 131, 0, 0), (226, .aload_n 0, 1, 3, 0, 0, 0), (227, .bipush 6, 2, 0, 0, 0, 0), (229, .newarray .int, 2, 18, 0, 0, 0), (231, .putfield 100, 3, 15, 132, 0, 0), (234, .aload_n 0, 1, 3, 0, 0, 0), (235, .bipush 8, 2, 0, 0, 0, 0), (237, .newarray .int, 2, 18, 0, 0, 0), (239, .putfield 103, 3, 15, 133, 0, 0), (242, .aload_n 0, 1, 3, 0, 0, 0), (243, .sipush 180, 3, 0, 0, 0, 0), (246, .newarray .int, 2, 18, 0, 0, 0), (248, .putfield 106, 3, 15, 134, 0, 0), (251, .aload_n 0, 1, 3, 0, 0, 0), (252, .bipush 30, 2, 0, 0, 0, 0), (254, .newarray .int, 2, 18, 0, 0, 0), (256, .putfield 109, 3, 15, 135, 0, 0), (259, .aload_n 0, 1, 3, 0, 0, 0), (260, .bipush 30, 2, 0, 0, 0, 0), (262, .newarray .int, 2, 18, 0, 0, 0), (264, .putfield 112, 3, 15, 136, 0, 0), (267, .aload_n 0, 1, 3, 0, 0, 0), (268, .bipush 30, 2, 0, 0, 0, 0), (270, .newarray .int, 2, 18, 0, 0, 0), (272, .putfield 115, 3, 15, 137, 0, 0), (275, .aload_n 0, 1, 3, 0, 0, 0), (276, .bipush 30, 2, 0, 0, 0, 0), (278, .newarray .int, 2, 18, 0, 0, 0), (280, .putfield 118, 3, 15, 138, 0, 0), (283, .aload_n 0, 1, 3, 0, 0, 0), (284, .bipush 30, 2, 0, 0, 0, 0), (286, .newarray .int, 2, 18, 0, 0, 0), (288, .putfield 121, 3, 15, 139, 0, 0), (291, .aload_n 0, 1, 3, 0, 0, 0), (292, .bipush 12, 2, 0, 0, 0, 0), (294, .newarray .int, 2, 18, 0, 0, 0), (296, .putfield 124, 3, 15, 140, 0, 0), (299, .aload_n 0, 1, 3, 0, 0, 0), (300, .bipush 11, 2, 0, 0, 0, 0), (302, .newarray .int, 2, 18, 0, 0, 0), (304, .putfield 127, 3, 15, 141, 0, 0), (307, .aload_n 0, 1, 3, 0, 0, 0), (308, .bipush 57, 2, 0, 0, 0, 0), (310, .newarray .int, 2, 18, 0, 0, 0), (312, .putfield 130, 3, 15, 142, 0, 0), (315, .aload_n 0, 1, 3, 0, 0, 0), (316, .iconst 3, 1, 0, 0, 0, 0), (317, .newarray .boolean, 2, 18, 0, 0, 0), (319, .putfield 133, 3, 15, 143, 0, 0), (322, .aload_n 0, 1, 3, 0, 0, 0), (323, .invokevirtual 137, 3, 23, 160, 0, 0), (326, .aload_n 0, 1, 3, 0, 0, 0), (327, .invokevirtual 140, 3, 23, 161, 0, 0), (330, .return_, 1, 21, 0, 0, 0)]
/- 99: PepperTablesModel.about(I)I -/
def ee_T99 : List ee_en := [(0, .iload_n 1, 1, 2, 0, 0, 0), (1, .tableswitch 183 0 15 #[79, 84, 89, 94, 101, 108, 116, 124, 129, 134, 139, 144, 149, 159, 164, 174], 79, 13, 0, 0, 0), (80, .aload_n 0, 1, 3, 0, 0, 0), (81, .invokevirtual 368, 3, 23, 162, 0, 0), (84, .ireturn, 1, 21, 0, 0, 0), (85, .aload_n 0, 1, 3, 0, 0, 0), (86, .invokevirtual 358, 3, 23, 163, 0, 0), (89, .ireturn, 1, 21, 0, 0, 0), (90, .aload_n 0, 1, 3, 0, 0, 0), (91, .invokevirtual 365, 3, 23, 164, 0, 0), (94, .ireturn, 1, 21, 0, 0, 0), (95, .aload_n 0, 1, 3, 0, 0, 0), (96, .getfield 88, 3, 14, 128, 0, 0), (99, .iconst 0, 1, 0, 0, 0, 0), (100, .iaload, 1, 22, 0, 0, 0), (101, .ireturn, 1, 21, 0, 0, 0), (102, .aload_n 0, 1, 3, 0, 0, 0), (103, .getfield 88, 3, 14, 128, 0, 0), (106, .iconst 1, 1, 0, 0, 0, 0), (107, .iaload, 1, 22, 0, 0, 0), (108, .ireturn, 1, 21, 0, 0, 0), (109, .aload_n 0, 1, 3, 0, 0, 0), (110, .getfield 88, 3, 14, 128, 0, 0), (113, .bipush 17, 2, 0, 0, 0, 0), (115, .iaload, 1, 22, 0, 0, 0), (116, .ireturn, 1, 21, 0, 0, 0), (117, .aload_n 0, 1, 3, 0, 0, 0), (118, .getfield 88, 3, 14, 128, 0, 0), (121, .bipush 18, 2, 0, 0, 0, 0), (123, .iaload, 1, 22, 0, 0, 0), (124, .ireturn, 1, 21, 0, 0, 0), (125, .aload_n 0, 1, 3, 0, 0, 0), (126, .getfield 374, 3, 14, 144, 0, 0), (129, .ireturn, 1, 21, 0, 0, 0), (130, .aload_n 0, 1, 3, 0, 0, 0), (131, .getfield 377, 3, 14, 145, 0, 0), (134, .ireturn, 1, 21, 0, 0, 0), (135, .aload_n 0, 1, 3, 0, 0, 0), (136, .getfield 380, 3, 14, 146, 0, 0), (139, .ireturn, 1, 21, 0, 0, 0), (140, .aload_n 0, 1, 3, 0, 0, 0), (141, .getfield 482, 3, 14, 147, 0, 0), (144, .ireturn, 1, 21, 0, 0, 0), (145, .aload_n 0, 1, 3, 0, 0, 0), (146, .getfield 250, 3, 14, 148, 0, 0), (149, .ireturn, 1, 21, 0, 0, 0), (150, .aload_n 0, 1, 3, 0, 0, 0), (151, .getfield 30, 3, 14, 109, 0, 0), (154, .aload_n 0, 1, 3, 0, 0, 0), (155, .getfield 253, 3, 14, 149, 0, 0), (158, .iaload, 1, 22, 0, 0, 0), (159, .ireturn, 1, 21, 0, 0, 0), (160, .aload_n 0, 1, 3, 0, 0, 0), (161, .getfield 383, 3, 14, 150, 0, 0), (164, .ireturn, 1, 21, 0, 0, 0), (165, .aload_n 0, 1, 3, 0, 0, 0), (166, .getfield 33, 3, 14, 110, 0, 0), (169, .aload_n 0, 1, 3, 0, 0, 0), (170, .getfield 253, 3, 14, 149, 0, 0), (173, .iaload, 1, 22, 0, 0, 0), (174, .ireturn, 1, 21, 0, 0, 0), (175, .aload_n 0, 1, 3, 0, 0, 0), (176, .aload_n 0, 1, 3, 0, 0, 0), (177, .invokevirtual 416, 3, 23, 165, 0, 0), (180, .invokevirtual 348, 3, 23, 166, 0, 0), (183, .ireturn, 1, 21, 0, 0, 0), (184, .iconst (-1), 1, 0, 0, 0, 0), (185, .ireturn, 1, 21, 0, 0, 0)]
/- 100: PepperTablesModel.after(I)I -/
def ee_T100 : List ee_en := [(0, .aload_n 0, 1, 3, 0, 0, 0), (1, .iload_n 1, 1, 2, 0, 0, 0), (2, .invokevirtual 422, 3, 23, 167, 0, 0), (5, .ifCond .eq 22, 3, 12, 0, 0, 0), (8, .aload_n 0, 1, 3, 0, 0, 0), (9, .iload_n 1, 1, 2, 0, 0, 0), (10, .invokevirtual 386, 3, 20, 0, 9, 0), (13, .ifCond .eq 14, 3, 12, 0, 0, 0), (16, .aload_n 0, 1, 3, 0, 0, 0), (17, .getfield 88, 3, 14, 128, 0, 0), (20, .iconst 2, 1, 0, 0, 0, 0), (21, .iload_n 1, 1, 2, 0, 0, 0), (22, .iadd, 1, 7, 0, 0, 0), (23, .iaload, 1, 22, 0, 0, 0), (24, .ifCond .ge 5, 3, 12, 0, 0, 0), (27, .iconst (-1), 1, 0, 0, 0, 0), (28, .ireturn, 1, 21, 0, 0, 0), (29, .aload_n 0, 1, 3, 0, 0, 0), (30, .invokevirtual 458, 3, 23, 168, 0, 0), (33, .iconst 0, 1, 0, 0, 0, 0), (34, .istore_n 2, 1, 4, 0, 0, 0), (35, .iload_n 2, 1, 2, 0, 0, 0), (36, .bipush 9, 2, 0, 0, 0, 0), (38, .if_icmp .ge 30, 3, 12, 0, 0, 0), (41, .aload_n 0, 1, 3, 0, 0, 0), (42, .iload_n 1, 1, 2, 0, 0, 0), (43, .invokevirtual 386, 3, 20, 0, 9, 0), (46, .ifCond .eq 22, 3, 12, 0, 0, 0), (49, .aload_n 0, 1, 3, 0, 0, 0), (50, .aload_n 0, 1, 3, 0, 0, 0), (51, .getfield 97, 3, 14, 131, 0, 0), (54, .iconst 2, 1, 0, 0, 0, 0), (55, .iload_n 1, 1, 2, 0, 0, 0), (56, .iadd, 1, 7, 0, 0, 0), (57, .iaload, 1, 22, 0, 0, 0), (58, .invokevirtual 440, 3, 20, 0, 9, 0), (61, .istore_n 3, 1, 4, 0, 0, 0), (62, .iinc 2 1, 3, 6, 0, 0, 0), (65, .goto (-30), 3, 0, 0, 0, 0), (68, .aload_n 0, 1, 3, 0, 0, 0), (69, .iload_n 1, 1, 2, 0, 0, 0), (70, .invokevirtual 386, 3, 20, 0, 9, 0), (73, .ifCond .ne 7, 3, 12, 0, 0, 0), (76, .iconst 1, 1, 0, 0, 0, 0), (77, .goto 4, 3, 0, 0, 0, 0), (80, .iconst 0, 1, 0, 0, 0, 0), (81, .istore_n 3, 1, 4, 0, 0, 0), (82, .aload_n 0, 1, 3, 0, 0, 0), (83, .invokevirtual 464, 3, 23, 169, 0, 0), (86, .iload_n 3, 1, 2, 0, 0, 0), (87, .ifCond .eq 7, 3, 12, 0, 0, 0), (90, .iload_n 2, 1, 2, 0, 0, 0), (91, .goto 4, 3, 0, 0, 0, 0), (94, .iconst (-1), 1, 0, 0, 0, 0), (95, .ireturn, 1, 21, 0, 0, 0)]
/- 101: PepperTablesModel.allRows()I -/
def ee_T101 : List ee_en := [(0, .aload_n 0, 1, 3, 0, 0, 0), (1, .invokevirtual 368, 3, 23, 162, 0, 0), (4, .ifCond .ne 7, 3, 12, 0, 0, 0), (7, .iconst 0, 1, 0, 0, 0, 0), (8, .goto 16, 3, 0, 0, 0, 0), (11, .aload_n 0, 1, 3, 0, 0, 0), (12, .invokevirtual 365, 3, 23, 164, 0, 0), (15, .iconst 1, 1, 0, 0, 0, 0), (16, .iadd, 1, 7, 0, 0, 0), (17, .aload_n 0, 1, 3, 0, 0, 0), (18, .invokevirtual 486, 3, 23, 170, 0, 0), (21, .invokestatic 455, 3, 23, 171, 0, 0), (24, .ireturn, 1, 21, 0, 0, 0)]
/- 102: PepperTablesModel.allSacks()I -/
def ee_T102 : List ee_en := [(0, .iconst 1, 1, 0, 0, 0, 0), (1, .aload_n 0, 1, 3, 0, 0, 0), (2, .invokevirtual 365, 3, 23, 164, 0, 0), (5, .ishl, 1, 7, 0, 0, 0), (6, .iconst 1, 1, 0, 0, 0, 0), (7, .isub, 1, 7, 0, 0, 0), (8, .ireturn, 1, 21, 0, 0, 0)]
/- 103: PepperTablesModel.ask(II)I -/
def ee_T103 : List ee_en := [(0, .iload_n 1, 1, 2, 0, 0, 0), (1, .iconst 0, 1, 0, 0, 0, 0), (2, .iconst 1, 1, 0, 0, 0, 0), (3, .invokestatic 361, 3, 23, 172, 0, 0), (6, .ifCond .eq 10, 3, 12, 0, 0, 0), (9, .aload_n 0, 1, 3, 0, 0, 0), (10, .invokevirtual 365, 3, 23, 164, 0, 0), (13, .ifCond .ne 5, 3, 12, 0, 0, 0), (16, .iconst (-1), 1, 0, 0, 0, 0), (17, .ireturn, 1, 21, 0, 0, 0), (18, .aload_n 0, 1, 3, 0, 0, 0), (19, .iload_n 2, 1, 2, 0, 0, 0), (20, .invokevirtual 504, 3, 23, 173, 0, 0), (23, .aload_n 0, 1, 3, 0, 0, 0), (24, .getfield 492, 3, 14, 151, 0, 0), (27, .ifCond .ne 5, 3, 12, 0, 0, 0), (30, .iconst (-1), 1, 0, 0, 0, 0), (31, .ireturn, 1, 21, 0, 0, 0), (32, .iconst 0, 1, 0, 0, 0, 0), (33, .istore_n 3, 1, 4, 0, 0, 0), (34, .iconst 1, 1, 0, 0, 0, 0), (35, .istore 4, 2, 4, 0, 0, 0), (37, .iload 4, 2, 2, 0, 0, 0), (39, .aload_n 0, 1, 3, 0, 0, 0), (40, .invokevirtual 365, 3, 23, 164, 0, 0), (43, .if_icmp .ge 28, 3, 12, 0, 0, 0), (46, .aload_n 0, 1, 3, 0, 0, 0), (47, .iload 4, 2, 2, 0, 0, 0), (49, .iload_n 2, 1, 2, 0, 0, 0), (50, .invokevirtual 508, 3, 20, 0, 9, 0), (53, .aload_n 0, 1, 3, 0, 0, 0), (54, .iload_n 3, 1, 2, 0, 0, 0), (55, .iload_n 2, 1, 2, 0, 0, 0), (56, .invokevirtual 508, 3, 20, 0, 9, 0), (59, .if_icmp .ge 6, 3, 12, 0, 0, 0), (62, .iload 4, 2, 2, 0, 0, 0), (64, .istore_n 3, 1, 4, 0, 0, 0), (65, .iinc 4 1, 3, 6, 0, 0, 0), (68, .goto (-31), 3, 0, 0, 0, 0), (71, .iload_n 1, 1, 2, 0, 0, 0), (72, .ifCond .ne 7, 3, 12, 0, 0, 0), (75, .iload_n 3, 1, 2, 0, 0, 0), (76, .goto 9, 3, 0, 0, 0, 0), (79, .aload_n 0, 1, 3, 0, 0, 0), (80, .iload_n 3, 1, 2, 0, 0, 0), (81, .iload_n 2, 1, 2, 0, 0, 0), (82, .invokevirtual 508, 3, 20, 0, 9, 0), (85, .ireturn, 1, 21, 0, 0, 0)]
/- 104: PepperTablesModel.back(I)I -/
def ee_T104 : List ee_en := [(0, .iload_n 1, 1, 2, 0, 0, 0), (1, .iconst 0, 1, 0, 0, 0, 0), (2, .iconst 2, 1, 0, 0, 0, 0), (3, .invokestatic 361, 3, 23, 172, 0, 0), (6, .ifCond .eq 12, 3, 12, 0, 0, 0), (9, .aload_n 0, 1, 3, 0, 0, 0), (10, .getfield 133, 3, 14, 143, 0, 0), (13, .iload_n 1, 1, 2, 0, 0, 0), (14, .baload, 1, 22, 0, 0, 0), (15, .ifCond .ne 5, 3, 12, 0, 0, 0), (18, .iconst (-1), 1, 0, 0, 0, 0), (19, .ireturn, 1, 21, 0, 0, 0), (20, .iconst 0, 1, 0, 0, 0, 0), (21, .istore_n 2, 1, 4, 0, 0, 0), (22, .iload_n 2, 1, 2, 0, 0, 0), (23, .bipush 19, 2, 0, 0, 0, 0), (25, .if_icmp .ge 26, 3, 12, 0, 0, 0), (28, .aload_n 0, 1, 3, 0, 0, 0), (29, .getfield 88, 3, 14, 128, 0, 0), (32, .iload_n 2, 1, 2, 0, 0, 0), (33, .aload_n 0, 1, 3, 0, 0, 0), (34, .getfield 130, 3, 14, 142, 0, 0), (37, .bipush 19, 2, 0, 0, 0, 0), (39, .iload_n 1, 1, 2, 0, 0, 0), (40, .imul, 1, 7, 0, 0, 0), (41, .iload_n 2, 1, 2, 0, 0, 0), (42, .iadd, 1, 7, 0, 0, 0), (43, .iaload, 1, 22, 0, 0, 0), (44, .iastore, 1, 17, 0, 0, 0), (45, .iinc 2 1, 3, 6, 0, 0, 0), (48, .goto (-26), 3, 0, 0, 0, 0), (51, .aload_n 0, 1, 3, 0, 0, 0), (52, .iconst 0, 1, 0, 0, 0, 0), (53, .putfield 374, 3, 15, 144, 0, 0), (56, .aload_n 0, 1, 3, 0, 0, 0), (57, .iconst 0, 1, 0, 0, 0, 0), (58, .putfield 377, 3, 15, 145, 0, 0), (61, .aload_n 0, 1, 3, 0, 0, 0), (62, .getfield 88, 3, 14, 128, 0, 0), (65, .bipush 17, 2, 0, 0, 0, 0), (67, .iaload, 1, 22, 0, 0, 0), (68, .ireturn, 1, 21, 0, 0, 0)]
/- 105: PepperTablesModel.bags()I -/
def ee_T105 : List ee_en := [(0, .aload_n 0, 1, 3, 0, 0, 0), (1, .getfield 24, 3, 14, 107, 0, 0), (4, .aload_n 0, 1, 3, 0, 0, 0), (5, .getfield 253, 3, 14, 149, 0, 0), (8, .iaload, 1, 22, 0, 0, 0), (9, .ireturn, 1, 21, 0, 0, 0)]
/- 106: PepperTablesModel.bitsOf(I)I -/
def ee_T106 : List ee_en := [(0, .iconst 0, 1, 0, 0, 0, 0), (1, .istore_n 1, 1, 4, 0, 0, 0), (2, .iload_n 0, 1, 2, 0, 0, 0), (3, .istore_n 2, 1, 4, 0, 0, 0), (4, .iload_n 2, 1, 2, 0, 0, 0), (5, .ifCond .eq 15, 3, 12, 0, 0, 0), (8, .iinc 1 1, 3, 6, 0, 0, 0), (11, .iload_n 2, 1, 2, 0, 0, 0), (12, .iload_n 2, 1, 2, 0, 0, 0), (13, .iconst 1, 1, 0, 0, 0, 0), (14, .isub, 1, 7, 0, 0, 0), (15, .iand, 1, 7, 0, 0, 0), (16, .istore_n 2, 1, 4, 0, 0, 0), (17, .goto (-13), 3, 0, 0, 0, 0), (20, .iload_n 1, 1, 2, 0, 0, 0), (21, .ireturn, 1, 21, 0, 0, 0)]
def ee_M9 : List ee_me := [(9, ⟨"PepperTablesModel", "<init>", "()V"⟩, prog_11_method_1_code, 1, none, ee_T98, 39, 7096), (9, ⟨"PepperTablesModel", "about", "(I)I"⟩, prog_11_method_137_code, 2, (some .int), ee_T99, 0, 0), (9, ⟨"PepperTablesModel", "after", "(I)I"⟩, prog_11_method_113_code, 4, (some .int), ee_T100, 0, 0), (9, ⟨"PepperTablesModel", "allRows", "()I"⟩, prog_11_method_129_code, 1, (some .int), ee_T101, 0, 0), (9, ⟨"PepperTablesModel", "allSacks", "()I"⟩, prog_11_method_66_code, 1, (some .int), ee_T102, 0, 0), (9, ⟨"PepperTablesModel", "ask", "(II)I"⟩, prog_11_method_134_code, 5, (some .int), ee_T103, 0, 0), (9, ⟨"PepperTablesModel", "back", "(I)I"⟩, prog_11_method_136_code, 3, (some .int), ee_T104, 0, 0), (9, ⟨"PepperTablesModel", "bags", "()I"⟩, prog_11_method_45_code, 1, (some .int), ee_T105, 0, 0), (9, ⟨"PepperTablesModel", "bitsOf", "(I)I"⟩, prog_11_method_41_code, 3, (some .int), ee_T106, 0, 0)]
set_option maxRecDepth 100000 in
theorem ee_M9ok : ee_M9.all ee_Mb = true := by decide +kernel
end
section
/- 107: PepperTablesModel.blend(II)I -/
def ee_T107 : List ee_en := [(0, .aload_n 0, 1, 3, 0, 0, 0), (1, .iload_n 1, 1, 2, 0, 0, 0), (2, .invokevirtual 425, 3, 23, 174, 0, 0), (5, .ifCond .eq 16, 3, 12, 0, 0, 0), (8, .aload_n 0, 1, 3, 0, 0, 0), (9, .iload_n 2, 1, 2, 0, 0, 0), (10, .invokevirtual 425, 3, 23, 174, 0, 0), (13, .ifCond .eq 8, 3, 12, 0, 0, 0), (16, .iload_n 1, 1, 2, 0, 0, 0), (17, .iload_n 2, 1, 2, 0, 0, 0), (18, .if_icmp .ne 5, 3, 12, 0, 0, 0), (21, .iconst (-1), 1, 0, 0, 0, 0), (22, .ireturn, 1, 21, 0, 0, 0), (23, .aload_n 0, 1, 3, 0, 0, 0), (24, .invokevirtual 458, 3, 23, 168, 0, 0), (27, .iconst 0, 1, 0, 0, 0, 0), (28, .istore_n 3, 1, 4, 0, 0, 0), (29, .iload_n 3, 1, 2, 0, 0, 0), (30, .aload_n 0, 1, 3, 0, 0, 0), (31, .invokevirtual 368, 3, 23, 162, 0, 0), (34, .if_icmp .ge 38, 3, 12, 0, 0, 0), (37, .aload_n 0, 1, 3, 0, 0, 0), (38, .iload_n 3, 1, 2, 0, 0, 0), (39, .invokevirtual 386, 3, 20, 0, 9, 0), (42, .ifCond .eq 24, 3, 12, 0, 0, 0), (45, .aload_n 0, 1, 3, 0, 0, 0), (46, .getfield 88, 3, 14, 128, 0, 0), (49, .iconst 2, 1, 0, 0, 0, 0), (50, .iload_n 3, 1, 2, 0, 0, 0), (51, .iadd, 1, 7, 0, 0, 0), (52, .iaload, 1, 22, 0, 0, 0), (53, .iload_n 2, 1, 2, 0, 0, 0), (54, .if_icmp .ne 12, 3, 12, 0, 0, 0), (57, .aload_n 0, 1, 3, 0, 0, 0), (58, .getfield 88, 3, 14, 128, 0, 0), (61, .iconst 2, 1, 0, 0, 0, 0), (62, .iload_n 3, 1, 2, 0, 0, 0), (63, .iadd, 1, 7, 0, 0, 0), (64, .iload_n 1, 1, 2, 0, 0, 0), (65, .iastore, 1, 17, 0, 0, 0), (66, .iinc 3 1, 3, 6, 0, 0, 0), (69, .goto (-40), 3, 0, 0, 0, 0), (72, .aload_n 0, 1, 3, 0, 0, 0), (73, .iload_n 1, 1, 2, 0, 0, 0), (74, .invokevirtual 407, 3, 20, 0, 9, 0), (77, .invokestatic 339, 3, 23, 175, 0, 0), (80, .istore_n 3, 1, 4, 0, 0, 0), (81, .aload_n 0, 1, 3, 0, 0, 0), (82, .invokevirtual 464, 3, 23, 169, 0, 0), (85, .iload_n 3, 1, 2, 0, 0, 0), (86, .ireturn, 1, 21, 0, 0, 0)]
/- 108: PepperTablesModel.bringBack()V -/
def ee_T108 : List ee_en := [(0, .iconst 0, 1, 0, 0, 0, 0), (1, .istore_n 1, 1, 4, 0, 0, 0), (2, .iload_n 1, 1, 2, 0, 0, 0), (3, .bipush 19, 2, 0, 0, 0, 0), (5, .if_icmp .ge 21, 3, 12, 0, 0, 0), (8, .aload_n 0, 1, 3, 0, 0, 0), (9, .getfield 88, 3, 14, 128, 0, 0), (12, .iload_n 1, 1, 2, 0, 0, 0), (13, .aload_n 0, 1, 3, 0, 0, 0), (14, .getfield 97, 3, 14, 131, 0, 0), (17, .iload_n 1, 1, 2, 0, 0, 0), (18, .iaload, 1, 22, 0, 0, 0), (19, .iastore, 1, 17, 0, 0, 0), (20, .iinc 1 1, 3, 6, 0, 0, 0), (23, .goto (-21), 3, 0, 0, 0, 0), (26, .return_, 1, 21, 0, 0, 0)]
/- 109: PepperTablesModel.clearBank()V -/
def ee_T109 : List ee_en := [(0, .aload_n 0, 1, 3, 0, 0, 0), (1, .getfield 20, 3, 14, 106, 0, 0), (4, .aload_n 0, 1, 3, 0, 0, 0), (5, .getfield 244, 3, 14, 152, 0, 0), (8, .iconst 0, 1, 0, 0, 0, 0), (9, .iastore, 1, 17, 0, 0, 0), (10, .aload_n 0, 1, 3, 0, 0, 0), (11, .getfield 24, 3, 14, 107, 0, 0), (14, .aload_n 0, 1, 3, 0, 0, 0), (15, .getfield 244, 3, 14, 152, 0, 0), (18, .iconst 0, 1, 0, 0, 0, 0), (19, .iastore, 1, 17, 0, 0, 0), (20, .aload_n 0, 1, 3, 0, 0, 0), (21, .getfield 27, 3, 14, 108, 0, 0), (24, .aload_n 0, 1, 3, 0, 0, 0), (25, .getfield 244, 3, 14, 152, 0, 0), (28, .iconst 0, 1, 0, 0, 0, 0), (29, .iastore, 1, 17, 0, 0, 0), (30, .aload_n 0, 1, 3, 0, 0, 0), (31, .getfield 30, 3, 14, 109, 0, 0), (34, .aload_n 0, 1, 3, 0, 0, 0), (35, .getfield 244, 3, 14, 152, 0, 0), (38, .iconst 0, 1, 0, 0, 0, 0), (39, .iastore, 1, 17, 0, 0, 0), (40, .aload_n 0, 1, 3, 0, 0, 0), (41, .getfield 33, 3, 14, 110, 0, 0), (44, .aload_n 0, 1, 3, 0, 0, 0), (45, .getfield 244, 3, 14, 152, 0, 0), (48, .iconst 0, 1, 0, 0, 0, 0), (49, .iastore, 1, 17, 0, 0, 0), (50, .aload_n 0, 1, 3, 0, 0, 0), (51, .getfield 36, 3, 14, 111, 0, 0), (54, .aload_n 0, 1, 3, 0, 0, 0), (55, .getfield 244, 3, 14, 152, 0, 0), (58, .iconst 0, 1, 0, 0, 0, 0), (59, .iastore, 1, 17, 0, 0, 0), (60, .aload_n 0, 1, 3, 0, 0, 0), (61, .getfield 39, 3, 14, 112, 0, 0), (64, .aload_n 0, 1, 3, 0, 0, 0), (65, .getfield 244, 3, 14, 152, 0, 0), (68, .iconst 0, 1, 0, 0, 0, 0), (69, .iastore, 1, 17, 0, 0, 0), (70, .aload_n 0, 1, 3, 0, 0, 0), (71, .sipush 560, 3, 0, 0, 0, 0), (74, .aload_n 0, 1, 3, 0, 0, 0), (75, .getfield 244, 3, 14, 152, 0, 0), (78, .imul, 1, 7, 0, 0, 0), (79, .putfield 247, 3, 15, 153, 0, 0), (82, .return_, 1, 21, 0, 0, 0)]
/- 110: PepperTablesModel.closest()I -/
def ee_T110 : List ee_en := [(0, .iconst (-1), 1, 0, 0, 0, 0), (1, .istore_n 1, 1, 4, 0, 0, 0), (2, .iconst 0, 1, 0, 0, 0, 0), (3, .istore_n 2, 1, 4, 0, 0, 0), (4, .iload_n 2, 1, 2, 0, 0, 0), (5, .aload_n 0, 1, 3, 0, 0, 0), (6, .invokevirtual 358, 3, 23, 163, 0, 0), (9, .if_icmp .ge 44, 3, 12, 0, 0, 0), (12, .iload_n 1, 1, 2, 0, 0, 0), (13, .ifCond .lt 32, 3, 12, 0, 0, 0), (16, .aload_n 0, 1, 3, 0, 0, 0), (17, .iload_n 2, 1, 2, 0, 0, 0), (18, .invokevirtual 413, 3, 20, 0, 9, 0), (21, .aload_n 0, 1, 3, 0, 0, 0), (22, .invokevirtual 416, 3, 23, 165, 0, 0), (25, .iand, 1, 7, 0, 0, 0), (26, .invokestatic 339, 3, 23, 175, 0, 0), (29, .aload_n 0, 1, 3, 0, 0, 0), (30, .iload_n 1, 1, 2, 0, 0, 0), (31, .invokevirtual 413, 3, 20, 0, 9, 0), (34, .aload_n 0, 1, 3, 0, 0, 0), (35, .invokevirtual 416, 3, 23, 165, 0, 0), (38, .iand, 1, 7, 0, 0, 0), (39, .invokestatic 339, 3, 23, 175, 0, 0), (42, .if_icmp .le 5, 3, 12, 0, 0, 0), (45, .iload_n 2, 1, 2, 0, 0, 0), (46, .istore_n 1, 1, 4, 0, 0, 0), (47, .iinc 2 1, 3, 6, 0, 0, 0), (50, .goto (-46), 3, 0, 0, 0, 0), (53, .iload_n 1, 1, 2, 0, 0, 0), (54, .ireturn, 1, 21, 0, 0, 0)]
/- 111: PepperTablesModel.course()I -/
def ee_T111 : List ee_en := [(0, .aload_n 0, 1, 3, 0, 0, 0), (1, .getfield 88, 3, 14, 128, 0, 0), (4, .bipush 17, 2, 0, 0, 0, 0), (6, .iaload, 1, 22, 0, 0, 0), (7, .sipush 999, 3, 0, 0, 0, 0), (10, .if_icmp .ne 6, 3, 12, 0, 0, 0), (13, .bipush (-2), 2, 0, 0, 0, 0), (15, .ireturn, 1, 21, 0, 0, 0), (16, .aload_n 0, 1, 3, 0, 0, 0), (17, .invokevirtual 437, 3, 23, 176, 0, 0), (20, .aload_n 0, 1, 3, 0, 0, 0), (21, .getfield 88, 3, 14, 128, 0, 0), (24, .bipush 17, 2, 0, 0, 0, 0), (26, .dup2, 1, 11, 0, 0, 0), (27, .iaload, 1, 22, 0, 0, 0), (28, .iconst 1, 1, 0, 0, 0, 0), (29, .iadd, 1, 7, 0, 0, 0), (30, .iastore, 1, 17, 0, 0, 0), (31, .aload_n 0, 1, 3, 0, 0, 0), (32, .getfield 88, 3, 14, 128, 0, 0), (35, .bipush 18, 2, 0, 0, 0, 0), (37, .sipush 137, 3, 0, 0, 0, 0), (40, .aload_n 0, 1, 3, 0, 0, 0), (41, .getfield 88, 3, 14, 128, 0, 0), (44, .bipush 18, 2, 0, 0, 0, 0), (46, .iaload, 1, 22, 0, 0, 0), (47, .imul, 1, 7, 0, 0, 0), (48, .bipush 71, 2, 0, 0, 0, 0), (50, .iadd, 1, 7, 0, 0, 0), (51, .sipush 1000, 3, 0, 0, 0, 0), (54, .irem, 1, 8, 0, 0, 0), (55, .iastore, 1, 17, 0, 0, 0), (56, .aload_n 0, 1, 3, 0, 0, 0), (57, .getfield 88, 3, 14, 128, 0, 0), (60, .bipush 18, 2, 0, 0, 0, 0), (62, .iaload, 1, 22, 0, 0, 0), (63, .bipush 100, 2, 0, 0, 0, 0), (65, .irem, 1, 8, 0, 0, 0), (66, .aload_n 0, 1, 3, 0, 0, 0), (67, .getfield 33, 3, 14, 110, 0, 0), (70, .aload_n 0, 1, 3, 0, 0, 0), (71, .getfield 253, 3, 14, 149, 0, 0), (74, .iaload, 1, 22, 0, 0, 0), (75, .if_icmp .ge 10, 3, 12, 0, 0, 0), (78, .aload_n 0, 1, 3, 0, 0, 0), (79, .invokevirtual 434, 3, 23, 177, 0, 0), (82, .goto 4, 3, 0, 0, 0, 0), (85, .iconst (-1), 1, 0, 0, 0, 0), (86, .istore_n 1, 1, 4, 0, 0, 0), (87, .iload_n 1, 1, 2, 0, 0, 0), (88, .ifCond .lt 15, 3, 12, 0, 0, 0), (91, .aload_n 0, 1, 3, 0, 0, 0), (92, .getfield 88, 3, 14, 128, 0, 0), (95, .iconst 1, 1, 0, 0, 0, 0), (96, .dup2, 1, 11, 0, 0, 0), (97, .iaload, 1, 22, 0, 0, 0), (98, .iconst 1, 1, 0, 0, 0, 0), (99, .iload_n 1, 1, 2, 0, 0, 0), (100, .ishl, 1, 7, 0, 0, 0), (101, .ior, 1, 7, 0, 0, 0), (102, .iastore, 1, 17, 0, 0, 0), (103, .iload_n 1, 1, 2, 0, 0, 0), (104, .ireturn, 1, 21, 0, 0, 0)]
/- 112: PepperTablesModel.divisor(II)I -/
def ee_T112 : List ee_en := [(0, .iload_n 0, 1, 2, 0, 0, 0), (1, .istore_n 2, 1, 4, 0, 0, 0), (2, .iload_n 1, 1, 2, 0, 0, 0), (3, .istore_n 3, 1, 4, 0, 0, 0), (4, .iload_n 3, 1, 2, 0, 0, 0), (5, .ifCond .le 16, 3, 12, 0, 0, 0), (8, .iload_n 2, 1, 2, 0, 0, 0), (9, .iload_n 3, 1, 2, 0, 0, 0), (10, .irem, 1, 8, 0, 0, 0), (11, .istore 4, 2, 4, 0, 0, 0), (13, .iload_n 3, 1, 2, 0, 0, 0), (14, .istore_n 2, 1, 4, 0, 0, 0), (15, .iload 4, 2, 2, 0, 0, 0), (17, .istore_n 3, 1, 4, 0, 0, 0), (18, .goto (-14), 3, 0, 0, 0, 0), (21, .iload_n 2, 1, 2, 0, 0, 0), (22, .ireturn, 1, 21, 0, 0, 0)]
/- 113: PepperTablesModel.dupe()I -/
def ee_T113 : List ee_en := [(0, .iconst (-1), 1, 0, 0, 0, 0), (1, .istore_n 1, 1, 4, 0, 0, 0), (2, .iconst 0, 1, 0, 0, 0, 0), (3, .istore_n 2, 1, 4, 0, 0, 0), (4, .iload_n 2, 1, 2, 0, 0, 0), (5, .aload_n 0, 1, 3, 0, 0, 0), (6, .invokevirtual 358, 3, 23, 163, 0, 0), (9, .if_icmp .ge 46, 3, 12, 0, 0, 0), (12, .iload_n 1, 1, 2, 0, 0, 0), (13, .ifCond .lt 34, 3, 12, 0, 0, 0), (16, .aload_n 0, 1, 3, 0, 0, 0), (17, .aload_n 0, 1, 3, 0, 0, 0), (18, .iload_n 2, 1, 2, 0, 0, 0), (19, .invokevirtual 419, 3, 20, 0, 9, 0), (22, .aload_n 0, 1, 3, 0, 0, 0), (23, .invokevirtual 416, 3, 23, 165, 0, 0), (26, .iand, 1, 7, 0, 0, 0), (27, .invokevirtual 348, 3, 23, 166, 0, 0), (30, .aload_n 0, 1, 3, 0, 0, 0), (31, .aload_n 0, 1, 3, 0, 0, 0), (32, .iload_n 1, 1, 2, 0, 0, 0), (33, .invokevirtual 419, 3, 20, 0, 9, 0), (36, .aload_n 0, 1, 3, 0, 0, 0), (37, .invokevirtual 416, 3, 23, 165, 0, 0), (40, .iand, 1, 7, 0, 0, 0), (41, .invokevirtual 348, 3, 23, 166, 0, 0), (44, .if_icmp .le 5, 3, 12, 0, 0, 0), (47, .iload_n 2, 1, 2, 0, 0, 0), (48, .istore_n 1, 1, 4, 0, 0, 0), (49, .iinc 2 1, 3, 6, 0, 0, 0), (52, .goto (-48), 3, 0, 0, 0, 0), (55, .iload_n 1, 1, 2, 0, 0, 0), (56, .ireturn, 1, 21, 0, 0, 0)]
/- 114: PepperTablesModel.end(I)I -/
def ee_T114 : List ee_en := [(0, .iload_n 1, 1, 2, 0, 0, 0), (1, .ifCond .lt 11, 3, 12, 0, 0, 0), (4, .iload_n 1, 1, 2, 0, 0, 0), (5, .aload_n 0, 1, 3, 0, 0, 0), (6, .getfield 250, 3, 14, 148, 0, 0), (9, .if_icmp .le 5, 3, 12, 0, 0, 0), (12, .iconst (-1), 1, 0, 0, 0, 0), (13, .ireturn, 1, 21, 0, 0, 0), (14, .aload_n 0, 1, 3, 0, 0, 0), (15, .iload_n 1, 1, 2, 0, 0, 0), (16, .putfield 250, 3, 15, 148, 0, 0), (19, .iload_n 1, 1, 2, 0, 0, 0), (20, .ireturn, 1, 21, 0, 0, 0)]
/- 115: PepperTablesModel.exchange(I)I -/
def ee_T115 : List ee_en := [(0, .iload_n 1, 1, 2, 0, 0, 0), (1, .iconst 0, 1, 0, 0, 0, 0), (2, .iconst 2, 1, 0, 0, 0, 0), (3, .invokestatic 361, 3, 23, 172, 0, 0), (6, .ifCond .ne 5, 3, 12, 0, 0, 0), (9, .iconst (-1), 1, 0, 0, 0, 0), (10, .ireturn, 1, 21, 0, 0, 0), (11, .iconst (-1), 1, 0, 0, 0, 0), (12, .istore_n 2, 1, 4, 0, 0, 0), (13, .aload_n 0, 1, 3, 0, 0, 0), (14, .aload_n 0, 1, 3, 0, 0, 0), (15, .invokevirtual 428, 3, 23, 178, 0, 0), (18, .invokevirtual 431, 3, 23, 179, 0, 0), (21, .invokestatic 339, 3, 23, 175, 0, 0), (24, .istore_n 3, 1, 4, 0, 0, 0), (25, .iconst 0, 1, 0, 0, 0, 0), (26, .istore 4, 2, 4, 0, 0, 0), (28, .iload 4, 2, 2, 0, 0, 0), (30, .aload_n 0, 1, 3, 0, 0, 0), (31, .invokevirtual 368, 3, 23, 162, 0, 0), (34, .aload_n 0, 1, 3, 0, 0, 0), (35, .invokevirtual 368, 3, 23, 162, 0, 0), (38, .imul, 1, 7, 0, 0, 0), (39, .if_icmp .ge 120, 3, 12, 0, 0, 0), (42, .iload 4, 2, 2, 0, 0, 0), (44, .aload_n 0, 1, 3, 0, 0, 0), (45, .invokevirtual 368, 3, 23, 162, 0, 0), (48, .idiv, 1, 8, 0, 0, 0), (49, .istore 5, 2, 4, 0, 0, 0), (51, .iload 4, 2, 2, 0, 0, 0), (53, .aload_n 0, 1, 3, 0, 0, 0), (54, .invokevirtual 368, 3, 23, 162, 0, 0), (57, .irem, 1, 8, 0, 0, 0), (58, .istore 6, 2, 4, 0, 0, 0), (60, .iload 5, 2, 2, 0, 0, 0), (62, .iload 6, 2, 2, 0, 0, 0), (64, .if_icmp .ge 89, 3, 12, 0, 0, 0), (67, .aload_n 0, 1, 3, 0, 0, 0), (68, .iload 5, 2, 2, 0, 0, 0), (70, .iload 6, 2, 2, 0, 0, 0), (72, .invokevirtual 467, 3, 20, 0, 9, 0), (75, .ifCond .ne 6, 3, 12, 0, 0, 0), (78, .goto 75, 3, 0, 0, 0, 0), (81, .aload_n 0, 1, 3, 0, 0, 0), (82, .invokevirtual 458, 3, 23, 168, 0, 0), (85, .aload_n 0, 1, 3, 0, 0, 0), (86, .getfield 88, 3, 14, 128, 0, 0), (89, .iconst 2, 1, 0, 0, 0, 0), (90, .iload 5, 2, 2, 0, 0, 0), (92, .iadd, 1, 7, 0, 0, 0), (93, .aload_n 0, 1, 3, 0, 0, 0), (94, .getfield 97, 3, 14, 131, 0, 0), (97, .iconst 2, 1, 0, 0, 0, 0), (98, .iload 6, 2, 2, 0, 0, 0), (100, .iadd, 1, 7, 0, 0, 0), (101, .iaload, 1, 22, 0, 0, 0), (102, .iastore, 1, 17, 0, 0, 0), (103, .aload_n 0, 1, 3, 0, 0, 0), (104, .getfield 88, 3, 14, 128, 0, 0), (107, .iconst 2, 1, 0, 0, 0, 0), (108, .iload 6, 2, 2, 0, 0, 0), (110, .iadd, 1, 7, 0, 0, 0), (111, .aload_n 0, 1, 3, 0, 0, 0), (112, .getfield 97, 3, 14, 131, 0, 0), (115, .iconst 2, 1, 0, 0, 0, 0), (116, .iload 5, 2, 2, 0, 0, 0), (118, .iadd, 1, 7, 0, 0, 0), (119, .iaload, 1, 22, 0, 0, 0), (120, .iastore, 1, 17, 0, 0, 0), (121, .aload_n 0, 1, 3, 0, 0, 0), (122, .aload_n 0, 1, 3, 0, 0, 0), (123, .invokevirtual 428, 3, 23, 178, 0, 0), (126, .invokevirtual 431, 3, 23, 179, 0, 0), (129, .invokestatic 339, 3, 23, 175, 0, 0), (132, .istore 7, 2, 4, 0, 0, 0), (134, .aload_n 0, 1, 3, 0, 0, 0), (135, .invokevirtual 464, 3, 23, 169, 0, 0), (138, .iload 7, 2, 2, 0, 0, 0), (140, .iload_n 3, 1, 2, 0, 0, 0), (141, .if_icmp .gt 6, 3, 12, 0, 0, 0), (144, .goto 9, 3, 0, 0, 0, 0), (147, .iload 4, 2, 2, 0, 0, 0), (149, .istore_n 2, 1, 4, 0, 0, 0), (150, .iload 7, 2, 2, 0, 0, 0), (152, .istore_n 3, 1, 4, 0, 0, 0), (153, .iinc 4 1, 3, 6, 0, 0, 0), (156, .goto (-128), 3, 0, 0, 0, 0), (159, .iload_n 2, 1, 2, 0, 0, 0), (160, .ifCond .ge 7, 3, 12, 0, 0, 0), (163, .iconst (-1), 1, 0, 0, 0, 0), (164, .goto 31, 3, 0, 0, 0, 0), (167, .iload_n 1, 1, 2, 0, 0, 0), (168, .ifCond .ne 12, 3, 12, 0, 0, 0), (171, .iload_n 2, 1, 2, 0, 0, 0), (172, .aload_n 0, 1, 3, 0, 0, 0), (173, .invokevirtual 368, 3, 23, 162, 0, 0), (176, .idiv, 1, 8, 0, 0, 0), (177, .goto 18, 3, 0, 0, 0, 0), (180, .iload_n 1, 1, 2, 0, 0, 0), (181, .iconst 1, 1, 0, 0, 0, 0), (182, .if_icmp .ne 12, 3, 12, 0, 0, 0), (185, .iload_n 2, 1, 2, 0, 0, 0), (186, .aload_n 0, 1, 3, 0, 0, 0), (187, .invokevirtual 368, 3, 23, 162, 0, 0), (190, .irem, 1, 8, 0, 0, 0), (191, .goto 4, 3, 0, 0, 0, 0), (194, .iload_n 3, 1, 2, 0, 0, 0), (195, .ireturn, 1, 21, 0, 0, 0)]
/- 116: PepperTablesModel.fault(I)I -/
def ee_T116 : List ee_en := [(0, .iload_n 1, 1, 2, 0, 0, 0), (1, .ifCond .ne 10, 3, 12, 0, 0, 0), (4, .aload_n 0, 1, 3, 0, 0, 0), (5, .getfield 146, 3, 14, 154, 0, 0), (8, .goto 16, 3, 0, 0, 0, 0), (11, .iload_n 1, 1, 2, 0, 0, 0), (12, .iconst 1, 1, 0, 0, 0, 0), (13, .if_icmp .ne 10, 3, 12, 0, 0, 0), (16, .aload_n 0, 1, 3, 0, 0, 0), (17, .getfield 16, 3, 14, 105, 0, 0), (20, .goto 4, 3, 0, 0, 0, 0), (23, .iconst (-1), 1, 0, 0, 0, 0), (24, .ireturn, 1, 21, 0, 0, 0)]
def ee_M10 : List ee_me := [(9, ⟨"PepperTablesModel", "blend", "(II)I"⟩, prog_11_method_110_code, 4, (some .int), ee_T107, 0, 0), (9, ⟨"PepperTablesModel", "bringBack", "()V"⟩, prog_11_method_94_code, 2, none, ee_T108, 0, 0), (9, ⟨"PepperTablesModel", "clearBank", "()V"⟩, prog_11_method_16_code, 1, none, ee_T109, 0, 0), (9, ⟨"PepperTablesModel", "closest", "()I"⟩, prog_11_method_74_code, 3, (some .int), ee_T110, 0, 0), (9, ⟨"PepperTablesModel", "course", "()I"⟩, prog_11_method_89_code, 2, (some .int), ee_T111, 0, 0), (9, ⟨"PepperTablesModel", "divisor", "(II)I"⟩, prog_11_method_42_code, 5, (some .int), ee_T112, 0, 0), (9, ⟨"PepperTablesModel", "dupe", "()I"⟩, prog_11_method_73_code, 3, (some .int), ee_T113, 0, 0), (9, ⟨"PepperTablesModel", "end", "(I)I"⟩, prog_11_method_139_code, 2, (some .int), ee_T114, 0, 0), (9, ⟨"PepperTablesModel", "exchange", "(I)I"⟩, prog_11_method_112_code, 8, (some .int), ee_T115, 0, 0), (9, ⟨"PepperTablesModel", "fault", "(I)I"⟩, prog_11_method_38_code, 2, (some .int), ee_T116, 0, 0)]
set_option maxRecDepth 100000 in
theorem ee_M10ok : ee_M10.all ee_Mb = true := by decide +kernel
end
section
/- 117: PepperTablesModel.feast(II)I -/
def ee_T117 : List ee_en := [(0, .aload_n 0, 1, 3, 0, 0, 0), (1, .iconst 0, 1, 0, 0, 0, 0), (2, .putfield 383, 3, 15, 150, 0, 0), (5, .aload_n 0, 1, 3, 0, 0, 0), (6, .iload_n 1, 1, 2, 0, 0, 0), (7, .invokevirtual 410, 3, 23, 180, 0, 0), (10, .ifCond .eq 16, 3, 12, 0, 0, 0), (13, .aload_n 0, 1, 3, 0, 0, 0), (14, .iload_n 2, 1, 2, 0, 0, 0), (15, .invokevirtual 410, 3, 23, 180, 0, 0), (18, .ifCond .eq 8, 3, 12, 0, 0, 0), (21, .iload_n 1, 1, 2, 0, 0, 0), (22, .iload_n 2, 1, 2, 0, 0, 0), (23, .if_icmp .ne 5, 3, 12, 0, 0, 0), (26, .iconst (-1), 1, 0, 0, 0, 0), (27, .ireturn, 1, 21, 0, 0, 0), (28, .iconst 0, 1, 0, 0, 0, 0), (29, .istore_n 3, 1, 4, 0, 0, 0), (30, .iload_n 3, 1, 2, 0, 0, 0), (31, .iconst 4, 1, 0, 0, 0, 0), (32, .if_icmp .ge 73, 3, 12, 0, 0, 0), (35, .aload_n 0, 1, 3, 0, 0, 0), (36, .aload_n 0, 1, 3, 0, 0, 0), (37, .getfield 88, 3, 14, 128, 0, 0), (40, .iconst 0, 1, 0, 0, 0, 0), (41, .iaload, 1, 22, 0, 0, 0), (42, .iconst 1, 1, 0, 0, 0, 0), (43, .iload_n 1, 1, 2, 0, 0, 0), (44, .ishl, 1, 7, 0, 0, 0), (45, .iconst (-1), 1, 0, 0, 0, 0), (46, .ixor, 1, 7, 0, 0, 0), (47, .iand, 1, 7, 0, 0, 0), (48, .iconst 1, 1, 0, 0, 0, 0), (49, .iload_n 2, 1, 2, 0, 0, 0), (50, .ishl, 1, 7, 0, 0, 0), (51, .iconst (-1), 1, 0, 0, 0, 0), (52, .ixor, 1, 7, 0, 0, 0), (53, .iand, 1, 7, 0, 0, 0), (54, .iload_n 3, 1, 2, 0, 0, 0), (55, .iconst 2, 1, 0, 0, 0, 0), (56, .idiv, 1, 8, 0, 0, 0), (57, .iload_n 1, 1, 2, 0, 0, 0), (58, .ishl, 1, 7, 0, 0, 0), (59, .ior, 1, 7, 0, 0, 0), (60, .iload_n 3, 1, 2, 0, 0, 0), (61, .iconst 2, 1, 0, 0, 0, 0), (62, .irem, 1, 8, 0, 0, 0), (63, .iload_n 2, 1, 2, 0, 0, 0), (64, .ishl, 1, 7, 0, 0, 0), (65, .ior, 1, 7, 0, 0, 0), (66, .invokevirtual 449, 3, 23, 181, 0, 0), (69, .istore 4, 2, 4, 0, 0, 0), (71, .aload_n 0, 1, 3, 0, 0, 0), (72, .getfield 103, 3, 14, 133, 0, 0), (75, .iload_n 3, 1, 2, 0, 0, 0), (76, .aload_n 0, 1, 3, 0, 0, 0), (77, .iload_n 1, 1, 2, 0, 0, 0), (78, .iload 4, 2, 2, 0, 0, 0), (80, .invokevirtual 452, 3, 20, 0, 9, 0), (83, .iastore, 1, 17, 0, 0, 0), (84, .aload_n 0, 1, 3, 0, 0, 0), (85, .getfield 103, 3, 14, 133, 0, 0), (88, .iconst 4, 1, 0, 0, 0, 0), (89, .iload_n 3, 1, 2, 0, 0, 0), (90, .iadd, 1, 7, 0, 0, 0), (91, .aload_n 0, 1, 3, 0, 0, 0), (92, .iload_n 2, 1, 2, 0, 0, 0), (93, .iload 4, 2, 2, 0, 0, 0), (95, .invokevirtual 452, 3, 20, 0, 9, 0), (98, .iastore, 1, 17, 0, 0, 0), (99, .iinc 3 1, 3, 6, 0, 0, 0), (102, .goto (-72), 3, 0, 0, 0, 0), (105, .iconst 0, 1, 0, 0, 0, 0), (106, .istore_n 3, 1, 4, 0, 0, 0), (107, .iconst 0, 1, 0, 0, 0, 0), (108, .istore 4, 2, 4, 0, 0, 0), (110, .iload 4, 2, 2, 0, 0, 0), (112, .iconst 4, 1, 0, 0, 0, 0), (113, .if_icmp .ge 86, 3, 12, 0, 0, 0), (116, .aload_n 0, 1, 3, 0, 0, 0), (117, .getfield 103, 3, 14, 133, 0, 0), (120, .iload 4, 2, 2, 0, 0, 0), (122, .iconst 2, 1, 0, 0, 0, 0), (123, .ixor, 1, 7, 0, 0, 0), (124, .iaload, 1, 22, 0, 0, 0), (125, .aload_n 0, 1, 3, 0, 0, 0), (126, .getfield 103, 3, 14, 133, 0, 0), (129, .iload 4, 2, 2, 0, 0, 0), (131, .iaload, 1, 22, 0, 0, 0), (132, .if_icmp .gt 61, 3, 12, 0, 0, 0), (135, .aload_n 0, 1, 3, 0, 0, 0), (136, .getfield 103, 3, 14, 133, 0, 0), (139, .iconst 4, 1, 0, 0, 0, 0), (140, .iload 4, 2, 2, 0, 0, 0), (142, .iconst 1, 1, 0, 0, 0, 0), (143, .ixor, 1, 7, 0, 0, 0), (144, .iadd, 1, 7, 0, 0, 0), (145, .iaload, 1, 22, 0, 0, 0), (146, .aload_n 0, 1, 3, 0, 0, 0), (147, .getfield 103, 3, 14, 133, 0, 0), (150, .iconst 4, 1, 0, 0, 0, 0), (151, .iload 4, 2, 2, 0, 0, 0), (153, .iadd, 1, 7, 0, 0, 0), (154, .iaload, 1, 22, 0, 0, 0), (155, .if_icmp .le 6, 3, 12, 0, 0, 0), (158, .goto 35, 3, 0, 0, 0, 0), (161, .iload_n 3, 1, 2, 0, 0, 0), (162, .ifCond .ne 28, 3, 12, 0, 0, 0), (165, .aload_n 0, 1, 3, 0, 0, 0), (166, .getfield 100, 3, 14, 132, 0, 0), (169, .iconst 0, 1, 0, 0, 0, 0), (170, .iload 4, 2, 2, 0, 0, 0), (172, .iconst 2, 1, 0, 0, 0, 0), (173, .idiv, 1, 8, 0, 0, 0), (174, .iastore, 1, 17, 0, 0, 0), (175, .aload_n 0, 1, 3, 0, 0, 0), (176, .getfield 100, 3, 14, 132, 0, 0), (179, .iconst 1, 1, 0, 0, 0, 0), (180, .iload 4, 2, 2, 0, 0, 0), (182, .iconst 2, 1, 0, 0, 0, 0), (183, .irem, 1, 8, 0, 0, 0), (184, .iastore, 1, 17, 0, 0, 0), (185, .aload_n 0, 1, 3, 0, 0, 0), (186, .iconst 2, 1, 0, 0, 0, 0), (187, .putfield 383, 3, 15, 150, 0, 0), (190, .iinc 3 1, 3, 6, 0, 0, 0), (193, .iinc 4 1, 3, 6, 0, 0, 0), (196, .goto (-86), 3, 0, 0, 0, 0), (199, .iload_n 3, 1, 2, 0, 0, 0), (200, .ireturn, 1, 21, 0, 0, 0)]
/- 118: PepperTablesModel.feed(IIIII)I -/
def ee_T118 : List ee_en := [(0, .aload_n 0, 1, 3, 0, 0, 0), (1, .getfield 250, 3, 14, 148, 0, 0), (4, .bipush 20, 2, 0, 0, 0, 0), (6, .iadd, 1, 7, 0, 0, 0), (7, .sipush 1600, 3, 0, 0, 0, 0), (10, .if_icmp .le 5, 3, 12, 0, 0, 0), (13, .iconst (-1), 1, 0, 0, 0, 0), (14, .ireturn, 1, 21, 0, 0, 0), (15, .iconst 0, 1, 0, 0, 0, 0), (16, .istore 6, 2, 4, 0, 0, 0), (18, .iload 6, 2, 2, 0, 0, 0), (20, .bipush 20, 2, 0, 0, 0, 0), (22, .if_icmp .ge 83, 3, 12, 0, 0, 0), (25, .iload 6, 2, 2, 0, 0, 0), (27, .iconst 4, 1, 0, 0, 0, 0), (28, .if_icmp .ge 7, 3, 12, 0, 0, 0), (31, .iload_n 1, 1, 2, 0, 0, 0), (32, .goto 39, 3, 0, 0, 0, 0), (35, .iload 6, 2, 2, 0, 0, 0), (37, .bipush 8, 2, 0, 0, 0, 0), (39, .if_icmp .ge 7, 3, 12, 0, 0, 0), (42, .iload_n 2, 1, 2, 0, 0, 0), (43, .goto 28, 3, 0, 0, 0, 0), (46, .iload 6, 2, 2, 0, 0, 0), (48, .bipush 12, 2, 0, 0, 0, 0), (50, .if_icmp .ge 7, 3, 12, 0, 0, 0), (53, .iload_n 3, 1, 2, 0, 0, 0), (54, .goto 17, 3, 0, 0, 0, 0), (57, .iload 6, 2, 2, 0, 0, 0), (59, .bipush 16, 2, 0, 0, 0, 0), (61, .if_icmp .ge 8, 3, 12, 0, 0, 0), (64, .iload 4, 2, 2, 0, 0, 0), (66, .goto 5, 3, 0, 0, 0, 0), (69, .iload 5, 2, 2, 0, 0, 0), (71, .istore 7, 2, 4, 0, 0, 0), (73, .aload_n 0, 1, 3, 0, 0, 0), (74, .getfield 7, 3, 14, 103, 0, 0), (77, .aload_n 0, 1, 3, 0, 0, 0), (78, .getfield 250, 3, 14, 148, 0, 0), (81, .iload 6, 2, 2, 0, 0, 0), (83, .iadd, 1, 7, 0, 0, 0), (84, .iload 7, 2, 2, 0, 0, 0), (86, .bipush 24, 2, 0, 0, 0, 0), (88, .bipush 8, 2, 0, 0, 0, 0), (90, .iload 6, 2, 2, 0, 0, 0), (92, .iconst 3, 1, 0, 0, 0, 0), (93, .iand, 1, 7, 0, 0, 0), (94, .imul, 1, 7, 0, 0, 0), (95, .isub, 1, 7, 0, 0, 0), (96, .ishr, 1, 7, 0, 0, 0), (97, .i2b, 1, 10, 0, 0, 0), (98, .bastore, 1, 17, 0, 0, 0), (99, .iinc 6 1, 3, 6, 0, 0, 0), (102, .goto (-84), 3, 0, 0, 0, 0), (105, .aload_n 0, 1, 3, 0, 0, 0), (106, .dup, 1, 11, 0, 0, 0), (107, .getfield 250, 3, 14, 148, 0, 0), (110, .bipush 20, 2, 0, 0, 0, 0), (112, .iadd, 1, 7, 0, 0, 0), (113, .putfield 250, 3, 15, 148, 0, 0), (116, .aload_n 0, 1, 3, 0, 0, 0), (117, .getfield 250, 3, 14, 148, 0, 0), (120, .ireturn, 1, 21, 0, 0, 0)]
/- 119: PepperTablesModel.fewest(I)I -/
def ee_T119 : List ee_en := [(0, .iload_n 1, 1, 2, 0, 0, 0), (1, .iconst 0, 1, 0, 0, 0, 0), (2, .iconst 2, 1, 0, 0, 0, 0), (3, .invokestatic 361, 3, 23, 172, 0, 0), (6, .ifCond .ne 5, 3, 12, 0, 0, 0), (9, .iconst (-1), 1, 0, 0, 0, 0), (10, .ireturn, 1, 21, 0, 0, 0), (11, .aload_n 0, 1, 3, 0, 0, 0), (12, .aload_n 0, 1, 3, 0, 0, 0), (13, .invokevirtual 428, 3, 23, 178, 0, 0), (16, .invokevirtual 431, 3, 23, 179, 0, 0), (19, .istore_n 2, 1, 4, 0, 0, 0), (20, .iconst (-1), 1, 0, 0, 0, 0), (21, .istore_n 3, 1, 4, 0, 0, 0), (22, .iconst 0, 1, 0, 0, 0, 0), (23, .istore 4, 2, 4, 0, 0, 0), (25, .iload 4, 2, 2, 0, 0, 0), (27, .aload_n 0, 1, 3, 0, 0, 0), (28, .invokevirtual 428, 3, 23, 178, 0, 0), (31, .if_icmp .gt 38, 3, 12, 0, 0, 0), (34, .iload_n 3, 1, 2, 0, 0, 0), (35, .ifCond .lt 15, 3, 12, 0, 0, 0), (38, .iload 4, 2, 2, 0, 0, 0), (40, .invokestatic 339, 3, 23, 175, 0, 0), (43, .iload_n 3, 1, 2, 0, 0, 0), (44, .invokestatic 339, 3, 23, 175, 0, 0), (47, .if_icmp .ge 16, 3, 12, 0, 0, 0), (50, .aload_n 0, 1, 3, 0, 0, 0), (51, .iload 4, 2, 2, 0, 0, 0), (53, .invokevirtual 431, 3, 23, 179, 0, 0), (56, .iload_n 2, 1, 2, 0, 0, 0), (57, .if_icmp .ne 6, 3, 12, 0, 0, 0), (60, .iload 4, 2, 2, 0, 0, 0), (62, .istore_n 3, 1, 4, 0, 0, 0), (63, .iinc 4 1, 3, 6, 0, 0, 0), (66, .goto (-41), 3, 0, 0, 0, 0), (69, .iload_n 1, 1, 2, 0, 0, 0), (70, .ifCond .ne 10, 3, 12, 0, 0, 0), (73, .iload_n 3, 1, 2, 0, 0, 0), (74, .invokestatic 339, 3, 23, 175, 0, 0), (77, .goto 13, 3, 0, 0, 0, 0), (80, .iload_n 1, 1, 2, 0, 0, 0), (81, .iconst 1, 1, 0, 0, 0, 0), (82, .if_icmp .ne 7, 3, 12, 0, 0, 0), (85, .iload_n 3, 1, 2, 0, 0, 0), (86, .goto 4, 3, 0, 0, 0, 0), (89, .iload_n 2, 1, 2, 0, 0, 0), (90, .ireturn, 1, 21, 0, 0, 0)]
/- 120: PepperTablesModel.folk()I -/
def ee_T120 : List ee_en := [(0, .aload_n 0, 1, 3, 0, 0, 0), (1, .getfield 20, 3, 14, 106, 0, 0), (4, .aload_n 0, 1, 3, 0, 0, 0), (5, .getfield 253, 3, 14, 149, 0, 0), (8, .iaload, 1, 22, 0, 0, 0), (9, .ireturn, 1, 21, 0, 0, 0)]
/- 121: PepperTablesModel.gain(I)I -/
def ee_T121 : List ee_en := [(0, .aload_n 0, 1, 3, 0, 0, 0), (1, .iload_n 1, 1, 2, 0, 0, 0), (2, .invokevirtual 410, 3, 23, 180, 0, 0), (5, .ifCond .eq 30, 3, 12, 0, 0, 0), (8, .aload_n 0, 1, 3, 0, 0, 0), (9, .aload_n 0, 1, 3, 0, 0, 0), (10, .aload_n 0, 1, 3, 0, 0, 0), (11, .getfield 88, 3, 14, 128, 0, 0), (14, .iconst 0, 1, 0, 0, 0, 0), (15, .iaload, 1, 22, 0, 0, 0), (16, .iconst 1, 1, 0, 0, 0, 0), (17, .iload_n 1, 1, 2, 0, 0, 0), (18, .ishl, 1, 7, 0, 0, 0), (19, .ior, 1, 7, 0, 0, 0), (20, .invokevirtual 449, 3, 23, 181, 0, 0), (23, .aload_n 0, 1, 3, 0, 0, 0), (24, .iload_n 1, 1, 2, 0, 0, 0), (25, .invokevirtual 419, 3, 20, 0, 9, 0), (28, .iand, 1, 7, 0, 0, 0), (29, .invokevirtual 348, 3, 23, 166, 0, 0), (32, .goto 4, 3, 0, 0, 0, 0), (35, .iconst (-1), 1, 0, 0, 0, 0), (36, .ireturn, 1, 21, 0, 0, 0)]
def ee_M11 : List ee_me := [(9, ⟨"PepperTablesModel", "feast", "(II)I"⟩, prog_11_method_105_code, 5, (some .int), ee_T117, 0, 0), (9, ⟨"PepperTablesModel", "feed", "(IIIII)I"⟩, prog_11_method_138_code, 8, (some .int), ee_T118, 0, 0), (9, ⟨"PepperTablesModel", "fewest", "(I)I"⟩, prog_11_method_108_code, 5, (some .int), ee_T119, 0, 0), (9, ⟨"PepperTablesModel", "folk", "()I"⟩, prog_11_method_44_code, 1, (some .int), ee_T120, 0, 0), (9, ⟨"PepperTablesModel", "gain", "(I)I"⟩, prog_11_method_102_code, 2, (some .int), ee_T121, 0, 0)]
set_option maxRecDepth 100000 in
theorem ee_M11ok : ee_M11.all ee_Mb = true := by decide +kernel
end
section
/- 122: PepperTablesModel.goOn()V -/
def ee_T122 : List ee_en := [(0, .aload_n 0, 1, 3, 0, 0, 0), (1, .aload_n 0, 1, 3, 0, 0, 0), (2, .getfield 185, 3, 14, 155, 0, 0), (5, .putfield 188, 3, 15, 156, 0, 0), (8, .aload_n 0, 1, 3, 0, 0, 0), (9, .getfield 188, 3, 14, 156, 0, 0), (12, .aload_n 0, 1, 3, 0, 0, 0), (13, .getfield 143, 3, 14, 157, 0, 0), (16, .if_icmp .ge 42, 3, 12, 0, 0, 0), (19, .aload_n 0, 1, 3, 0, 0, 0), (20, .aload_n 0, 1, 3, 0, 0, 0), (21, .getfield 188, 3, 14, 156, 0, 0), (24, .invokevirtual 191, 3, 23, 182, 0, 0), (27, .bipush 32, 2, 0, 0, 0, 0), (29, .if_icmp .eq 16, 3, 12, 0, 0, 0), (32, .aload_n 0, 1, 3, 0, 0, 0), (33, .aload_n 0, 1, 3, 0, 0, 0), (34, .getfield 188, 3, 14, 156, 0, 0), (37, .invokevirtual 191, 3, 23, 182, 0, 0), (40, .bipush 10, 2, 0, 0, 0, 0), (42, .if_icmp .ne 16, 3, 12, 0, 0, 0), (45, .aload_n 0, 1, 3, 0, 0, 0), (46, .dup, 1, 11, 0, 0, 0), (47, .getfield 188, 3, 14, 156, 0, 0), (50, .iconst 1, 1, 0, 0, 0, 0), (51, .iadd, 1, 7, 0, 0, 0), (52, .putfield 188, 3, 15, 156, 0, 0), (55, .goto (-47), 3, 0, 0, 0, 0), (58, .aload_n 0, 1, 3, 0, 0, 0), (59, .aload_n 0, 1, 3, 0, 0, 0), (60, .getfield 188, 3, 14, 156, 0, 0), (63, .invokevirtual 191, 3, 23, 182, 0, 0), (66, .istore_n 1, 1, 4, 0, 0, 0), (67, .aload_n 0, 1, 3, 0, 0, 0), (68, .aload_n 0, 1, 3, 0, 0, 0), (69, .getfield 188, 3, 14, 156, 0, 0), (72, .iconst 1, 1, 0, 0, 0, 0), (73, .iadd, 1, 7, 0, 0, 0), (74, .putfield 185, 3, 15, 155, 0, 0), (77, .aload_n 0, 1, 3, 0, 0, 0), (78, .getfield 188, 3, 14, 156, 0, 0), (81, .aload_n 0, 1, 3, 0, 0, 0), (82, .getfield 143, 3, 14, 157, 0, 0), (85, .if_icmp .lt 27, 3, 12, 0, 0, 0), (88, .aload_n 0, 1, 3, 0, 0, 0), (89, .iconst 0, 1, 0, 0, 0, 0), (90, .putfield 195, 3, 15, 158, 0, 0), (93, .aload_n 0, 1, 3, 0, 0, 0), (94, .aload_n 0, 1, 3, 0, 0, 0), (95, .getfield 143, 3, 14, 157, 0, 0), (98, .putfield 188, 3, 15, 156, 0, 0), (101, .aload_n 0, 1, 3, 0, 0, 0), (102, .aload_n 0, 1, 3, 0, 0, 0), (103, .getfield 143, 3, 14, 157, 0, 0), (106, .putfield 185, 3, 15, 155, 0, 0), (109, .goto 268, 3, 0, 0, 0, 0), (112, .iload_n 1, 1, 2, 0, 0, 0), (113, .invokestatic 198, 3, 20, 0, 9, 0), (116, .ifCond .eq 123, 3, 12, 0, 0, 0), (119, .aload_n 0, 1, 3, 0, 0, 0), (120, .aload_n 0, 1, 3, 0, 0, 0), (121, .getfield 185, 3, 14, 155, 0, 0), (124, .invokevirtual 191, 3, 23, 182, 0, 0), (127, .invokestatic 198, 3, 20, 0, 9, 0), (130, .ifCond .eq 16, 3, 12, 0, 0, 0), (133, .aload_n 0, 1, 3, 0, 0, 0), (134, .dup, 1, 11, 0, 0, 0), (135, .getfield 185, 3, 14, 155, 0, 0), (138, .iconst 1, 1, 0, 0, 0, 0), (139, .iadd, 1, 7, 0, 0, 0), (140, .putfield 185, 3, 15, 155, 0, 0), (143, .goto (-24), 3, 0, 0, 0, 0), (146, .aload_n 0, 1, 3, 0, 0, 0), (147, .lconst 0, 1, 0, 0, 0, 0), (148, .putfield 202, 3, 15, 159, 0, 0), (151, .aload_n 0, 1, 3, 0, 0, 0), (152, .getfield 188, 3, 14, 156, 0, 0), (155, .istore_n 2, 1, 4, 0, 0, 0), (156, .iload_n 2, 1, 2, 0, 0, 0), (157, .aload_n 0, 1, 3, 0, 0, 0), (158, .getfield 185, 3, 14, 155, 0, 0), (161, .if_icmp .ge 38, 3, 12, 0, 0, 0), (164, .iload_n 2, 1, 2, 0, 0, 0), (165, .aload_n 0, 1, 3, 0, 0, 0), (166, .getfield 188, 3, 14, 156, 0, 0), (169, .bipush 8, 2, 0, 0, 0, 0), (171, .iadd, 1, 7, 0, 0, 0), (172, .if_icmp .ge 27, 3, 12, 0, 0, 0), (175, .aload_n 0, 1, 3, 0, 0, 0), (176, .aload_n 0, 1, 3, 0, 0, 0), (177, .getfield 202, 3, 14, 159, 0, 0), (180, .bipush 8, 2, 0, 0, 0, 0), (182, .lshl, 1, 9, 0, 0, 0), (183, .aload_n 0, 1, 3, 0, 0, 0), (184, .iload_n 2, 1, 2, 0, 0, 0), (185, .invokevirtual 191, 3, 23, 182, 0, 0), (188, .i2l, 1, 9, 0, 0, 0), (189, .lor, 1, 9, 0, 0, 0), (190, .putfield 202, 3, 15, 159, 0, 0), (193, .iinc 2 1, 3, 6, 0, 0, 0), (196, .goto (-40), 3, 0, 0, 0, 0), (199, .aload_n 0, 1, 3, 0, 0, 0), (200, .aload_n 0, 1, 3, 0, 0, 0), (201, .getfield 185, 3, 14, 155, 0, 0), (204, .aload_n 0, 1, 3, 0, 0, 0), (205, .getfield 188, 3, 14, 156, 0, 0), (208, .isub, 1, 7, 0, 0, 0), (209, .bipush 8, 2, 0, 0, 0, 0), (211, .if_icmp .le 7, 3, 12, 0, 0, 0), (214, .iconst 1, 1, 0, 0, 0, 0), (215, .goto 18, 3, 0, 0, 0, 0), (218, .aload_n 0, 1, 3, 0, 0, 0), (219, .getfield 202, 3, 14, 159, 0, 0), (222, .invokestatic 206, 3, 20, 0, 9, 0), (225, .ifCond .eq 7, 3, 12, 0, 0, 0), (228, .iconst 3, 1, 0, 0, 0, 0), (229, .goto 4, 3, 0, 0, 0, 0), (232, .iconst 2, 1, 0, 0, 0, 0), (233, .putfield 195, 3, 15, 158, 0, 0), (236, .goto 141, 3, 0, 0, 0, 0), (239, .iload_n 1, 1, 2, 0, 0, 0), (240, .invokestatic 210, 3, 20, 0, 9, 0), (243, .ifCond .eq 118, 3, 12, 0, 0, 0), (246, .aload_n 0, 1, 3, 0, 0, 0), (247, .iconst 0, 1, 0, 0, 0, 0), (248, .putfield 213, 3, 15, 160, 0, 0), (251, .aload_n 0, 1, 3, 0, 0, 0), (252, .aload_n 0, 1, 3, 0, 0, 0), (253, .getfield 188, 3, 14, 156, 0, 0), (256, .putfield 185, 3, 15, 155, 0, 0), (259, .aload_n 0, 1, 3, 0, 0, 0), (260, .aload_n 0, 1, 3, 0, 0, 0), (261, .getfield 185, 3, 14, 155, 0, 0), (264, .invokevirtual 191, 3, 23, 182, 0, 0), (267, .invokestatic 210, 3, 20, 0, 9, 0), (270, .ifCond .eq 52, 3, 12, 0, 0, 0), (273, .aload_n 0, 1, 3, 0, 0, 0), (274, .getfield 185, 3, 14, 155, 0, 0), (277, .aload_n 0, 1, 3, 0, 0, 0), (278, .getfield 188, 3, 14, 156, 0, 0), (281, .isub, 1, 7, 0, 0, 0), (282, .iconst 4, 1, 0, 0, 0, 0), (283, .if_icmp .ge 26, 3, 12, 0, 0, 0), (286, .aload_n 0, 1, 3, 0, 0, 0), (287, .bipush 10, 2, 0, 0, 0, 0), (289, .aload_n 0, 1, 3, 0, 0, 0), (290, .getfield 213, 3, 14, 160, 0, 0), (293, .imul, 1, 7, 0, 0, 0), (294, .aload_n 0, 1, 3, 0, 0, 0), (295, .aload_n 0, 1, 3, 0, 0, 0), (296, .getfield 185, 3, 14, 155, 0, 0), (299, .invokevirtual 191, 3, 23, 182, 0, 0), (302, .iadd, 1, 7, 0, 0, 0), (303, .bipush 48, 2, 0, 0, 0, 0), (305, .isub, 1, 7, 0, 0, 0), (306, .putfield 213, 3, 15, 160, 0, 0), (309, .aload_n 0, 1, 3, 0, 0, 0), (310, .dup, 1, 11, 0, 0, 0), (311, .getfield 185, 3, 14, 155, 0, 0), (314, .iconst 1, 1, 0, 0, 0, 0), (315, .iadd, 1, 7, 0, 0, 0), (316, .putfield 185, 3, 15, 155, 0, 0), (319, .goto (-60), 3, 0, 0, 0, 0), (322, .aload_n 0, 1, 3, 0, 0, 0), (323, .aload_n 0, 1, 3, 0, 0, 0), (324, .getfield 185, 3, 14, 155, 0, 0), (327, .aload_n 0, 1, 3, 0, 0, 0), (328, .getfield 188, 3, 14, 156, 0, 0), (331, .isub, 1, 7, 0, 0, 0), (332, .iconst 4, 1, 0, 0, 0, 0), (333, .if_icmp .gt 17, 3, 12, 0, 0, 0), (336, .aload_n 0, 1, 3, 0, 0, 0), (337, .aload_n 0, 1, 3, 0, 0, 0), (338, .getfield 185, 3, 14, 155, 0, 0), (341, .invokevirtual 191, 3, 23, 182, 0, 0), (344, .invokestatic 198, 3, 20, 0, 9, 0), (347, .ifCond .eq 7, 3, 12, 0, 0, 0), (350, .iconst 1, 1, 0, 0, 0, 0), (351, .goto 4, 3, 0, 0, 0, 0), (354, .iconst 4, 1, 0, 0, 0, 0), (355, .putfield 195, 3, 15, 158, 0, 0), (358, .goto 19, 3, 0, 0, 0, 0), (361, .aload_n 0, 1, 3, 0, 0, 0), (362, .iload_n 1, 1, 2, 0, 0, 0), (363, .invokestatic 216, 3, 20, 0, 9, 0), (366, .ifCond .eq 7, 3, 12, 0, 0, 0), (369, .iconst 5, 1, 0, 0, 0, 0), (370, .goto 4, 3, 0, 0, 0, 0), (373, .iconst 1, 1, 0, 0, 0, 0), (374, .putfield 195, 3, 15, 158, 0, 0), (377, .return_, 1, 21, 0, 0, 0)]
/- 123: PepperTablesModel.grind(I)I -/
def ee_T123 : List ee_en := [(0, .aload_n 0, 1, 3, 0, 0, 0), (1, .iload_n 1, 1, 2, 0, 0, 0), (2, .invokevirtual 425, 3, 23, 174, 0, 0), (5, .ifCond .ne 5, 3, 12, 0, 0, 0), (8, .iconst (-1), 1, 0, 0, 0, 0), (9, .ireturn, 1, 21, 0, 0, 0), (10, .aload_n 0, 1, 3, 0, 0, 0), (11, .invokevirtual 437, 3, 23, 176, 0, 0), (14, .aload_n 0, 1, 3, 0, 0, 0), (15, .iload_n 1, 1, 2, 0, 0, 0), (16, .invokevirtual 440, 3, 20, 0, 9, 0), (19, .ireturn, 1, 21, 0, 0, 0)]
/- 124: PepperTablesModel.heard(IIZ)I -/
def ee_T124 : List ee_en := [(0, .aload_n 0, 1, 3, 0, 0, 0), (1, .iload_n 1, 1, 2, 0, 0, 0), (2, .invokevirtual 425, 3, 23, 174, 0, 0), (5, .ifCond .eq 29, 3, 12, 0, 0, 0), (8, .iload_n 2, 1, 2, 0, 0, 0), (9, .iconst 0, 1, 0, 0, 0, 0), (10, .bipush 10, 2, 0, 0, 0, 0), (12, .invokestatic 361, 3, 23, 172, 0, 0), (15, .ifCond .eq 19, 3, 12, 0, 0, 0), (18, .aload_n 0, 1, 3, 0, 0, 0), (19, .getfield 380, 3, 14, 146, 0, 0), (22, .bipush 30, 2, 0, 0, 0, 0), (24, .if_icmp .eq 10, 3, 12, 0, 0, 0), (27, .aload_n 0, 1, 3, 0, 0, 0), (28, .invokevirtual 368, 3, 23, 162, 0, 0), (31, .ifCond .ne 5, 3, 12, 0, 0, 0), (34, .iconst (-1), 1, 0, 0, 0, 0), (35, .ireturn, 1, 21, 0, 0, 0), (36, .aload_n 0, 1, 3, 0, 0, 0), (37, .getfield 109, 3, 14, 135, 0, 0), (40, .aload_n 0, 1, 3, 0, 0, 0), (41, .getfield 380, 3, 14, 146, 0, 0), (44, .iload_n 1, 1, 2, 0, 0, 0), (45, .iastore, 1, 17, 0, 0, 0), (46, .aload_n 0, 1, 3, 0, 0, 0), (47, .getfield 112, 3, 14, 136, 0, 0), (50, .aload_n 0, 1, 3, 0, 0, 0), (51, .getfield 380, 3, 14, 146, 0, 0), (54, .iload_n 2, 1, 2, 0, 0, 0), (55, .iastore, 1, 17, 0, 0, 0), (56, .aload_n 0, 1, 3, 0, 0, 0), (57, .getfield 115, 3, 14, 137, 0, 0), (60, .aload_n 0, 1, 3, 0, 0, 0), (61, .getfield 380, 3, 14, 146, 0, 0), (64, .iload_n 3, 1, 2, 0, 0, 0), (65, .ifCond .eq 7, 3, 12, 0, 0, 0), (68, .iconst 1, 1, 0, 0, 0, 0), (69, .goto 4, 3, 0, 0, 0, 0), (72, .iconst 0, 1, 0, 0, 0, 0), (73, .iastore, 1, 17, 0, 0, 0), (74, .aload_n 0, 1, 3, 0, 0, 0), (75, .getfield 118, 3, 14, 138, 0, 0), (78, .aload_n 0, 1, 3, 0, 0, 0), (79, .getfield 380, 3, 14, 146, 0, 0), (82, .aload_n 0, 1, 3, 0, 0, 0), (83, .getfield 482, 3, 14, 147, 0, 0), (86, .iastore, 1, 17, 0, 0, 0), (87, .aload_n 0, 1, 3, 0, 0, 0), (88, .getfield 121, 3, 14, 139, 0, 0), (91, .aload_n 0, 1, 3, 0, 0, 0), (92, .getfield 380, 3, 14, 146, 0, 0), (95, .iconst (-1), 1, 0, 0, 0, 0), (96, .iastore, 1, 17, 0, 0, 0), (97, .aload_n 0, 1, 3, 0, 0, 0), (98, .dup, 1, 11, 0, 0, 0), (99, .getfield 380, 3, 14, 146, 0, 0), (102, .iconst 1, 1, 0, 0, 0, 0), (103, .iadd, 1, 7, 0, 0, 0), (104, .putfield 380, 3, 15, 146, 0, 0), (107, .aload_n 0, 1, 3, 0, 0, 0), (108, .getfield 380, 3, 14, 146, 0, 0), (111, .iconst 1, 1, 0, 0, 0, 0), (112, .isub, 1, 7, 0, 0, 0), (113, .ireturn, 1, 21, 0, 0, 0)]
/- 125: PepperTablesModel.heatOf(I)I -/
def ee_T125 : List ee_en := [(0, .iconst 0, 1, 0, 0, 0, 0), (1, .istore_n 2, 1, 4, 0, 0, 0), (2, .iconst 0, 1, 0, 0, 0, 0), (3, .istore_n 3, 1, 4, 0, 0, 0), (4, .iload_n 3, 1, 2, 0, 0, 0), (5, .aload_n 0, 1, 3, 0, 0, 0), (6, .invokevirtual 368, 3, 23, 162, 0, 0), (9, .if_icmp .ge 29, 3, 12, 0, 0, 0), (12, .iload_n 2, 1, 2, 0, 0, 0), (13, .iload_n 1, 1, 2, 0, 0, 0), (14, .iload_n 3, 1, 2, 0, 0, 0), (15, .invokestatic 259, 3, 20, 0, 9, 0), (18, .ifCond .eq 11, 3, 12, 0, 0, 0), (21, .aload_n 0, 1, 3, 0, 0, 0), (22, .iload_n 3, 1, 2, 0, 0, 0), (23, .invokevirtual 333, 3, 20, 0, 9, 0), (26, .goto 4, 3, 0, 0, 0, 0), (29, .iconst 0, 1, 0, 0, 0, 0), (30, .iadd, 1, 7, 0, 0, 0), (31, .istore_n 2, 1, 4, 0, 0, 0), (32, .iinc 3 1, 3, 6, 0, 0, 0), (35, .goto (-31), 3, 0, 0, 0, 0), (38, .iload_n 2, 1, 2, 0, 0, 0), (39, .ireturn, 1, 21, 0, 0, 0)]
/- 126: PepperTablesModel.hidden()I -/
def ee_T126 : List ee_en := [(0, .aload_n 0, 1, 3, 0, 0, 0), (1, .invokevirtual 368, 3, 23, 162, 0, 0), (4, .iconst 2, 1, 0, 0, 0, 0), (5, .if_icmp .ge 10, 3, 12, 0, 0, 0), (8, .aload_n 0, 1, 3, 0, 0, 0), (9, .invokevirtual 368, 3, 23, 162, 0, 0), (12, .goto 4, 3, 0, 0, 0, 0), (15, .iconst 2, 1, 0, 0, 0, 0), (16, .ireturn, 1, 21, 0, 0, 0)]
/- 127: PepperTablesModel.hide(II)I -/
def ee_T127 : List ee_en := [(0, .aload_n 0, 1, 3, 0, 0, 0), (1, .iload_n 1, 1, 2, 0, 0, 0), (2, .invokevirtual 422, 3, 23, 167, 0, 0), (5, .ifCond .eq 20, 3, 12, 0, 0, 0), (8, .aload_n 0, 1, 3, 0, 0, 0), (9, .iload_n 1, 1, 2, 0, 0, 0), (10, .invokevirtual 386, 3, 20, 0, 9, 0), (13, .ifCond .eq 12, 3, 12, 0, 0, 0), (16, .iload_n 2, 1, 2, 0, 0, 0), (17, .iconst 0, 1, 0, 0, 0, 0), (18, .iconst 1, 1, 0, 0, 0, 0), (19, .invokestatic 361, 3, 23, 172, 0, 0), (22, .ifCond .ne 5, 3, 12, 0, 0, 0), (25, .iconst (-1), 1, 0, 0, 0, 0), (26, .ireturn, 1, 21, 0, 0, 0), (27, .aload_n 0, 1, 3, 0, 0, 0), (28, .getfield 88, 3, 14, 128, 0, 0), (31, .iconst 2, 1, 0, 0, 0, 0), (32, .iload_n 1, 1, 2, 0, 0, 0), (33, .iadd, 1, 7, 0, 0, 0), (34, .iaload, 1, 22, 0, 0, 0), (35, .istore_n 3, 1, 4, 0, 0, 0), (36, .iconst (-1), 1, 0, 0, 0, 0), (37, .istore 4, 2, 4, 0, 0, 0), (39, .bipush 100, 2, 0, 0, 0, 0), (41, .istore 5, 2, 4, 0, 0, 0), (43, .iconst 0, 1, 0, 0, 0, 0), (44, .istore 6, 2, 4, 0, 0, 0), (46, .iload 6, 2, 2, 0, 0, 0), (48, .aload_n 0, 1, 3, 0, 0, 0), (49, .invokevirtual 365, 3, 23, 164, 0, 0), (52, .if_icmp .ge 60, 3, 12, 0, 0, 0), (55, .aload_n 0, 1, 3, 0, 0, 0), (56, .getfield 88, 3, 14, 128, 0, 0), (59, .iconst 2, 1, 0, 0, 0, 0), (60, .iload_n 1, 1, 2, 0, 0, 0), (61, .iadd, 1, 7, 0, 0, 0), (62, .iload 6, 2, 2, 0, 0, 0), (64, .iastore, 1, 17, 0, 0, 0), (65, .aload_n 0, 1, 3, 0, 0, 0), (66, .iload 6, 2, 2, 0, 0, 0), (68, .invokevirtual 407, 3, 20, 0, 9, 0), (71, .istore 7, 2, 4, 0, 0, 0), (73, .iload 7, 2, 2, 0, 0, 0), (75, .iload_n 1, 1, 2, 0, 0, 0), (76, .invokestatic 259, 3, 20, 0, 9, 0), (79, .ifCond .ne 27, 3, 12, 0, 0, 0), (82, .iload 7, 2, 2, 0, 0, 0), (84, .invokestatic 339, 3, 23, 175, 0, 0), (87, .iload 5, 2, 2, 0, 0, 0), (89, .if_icmp .lt 6, 3, 12, 0, 0, 0), (92, .goto 14, 3, 0, 0, 0, 0), (95, .iload 6, 2, 2, 0, 0, 0), (97, .istore 4, 2, 4, 0, 0, 0), (99, .iload 7, 2, 2, 0, 0, 0), (101, .invokestatic 339, 3, 23, 175, 0, 0), (104, .istore 5, 2, 4, 0, 0, 0), (106, .iinc 6 1, 3, 6, 0, 0, 0), (109, .goto (-63), 3, 0, 0, 0, 0), (112, .aload_n 0, 1, 3, 0, 0, 0), (113, .getfield 88, 3, 14, 128, 0, 0), (116, .iconst 2, 1, 0, 0, 0, 0), (117, .iload_n 1, 1, 2, 0, 0, 0), (118, .iadd, 1, 7, 0, 0, 0), (119, .iload_n 3, 1, 2, 0, 0, 0), (120, .iastore, 1, 17, 0, 0, 0), (121, .iload 4, 2, 2, 0, 0, 0), (123, .ifCond .ge 7, 3, 12, 0, 0, 0), (126, .iconst (-1), 1, 0, 0, 0, 0), (127, .goto 14, 3, 0, 0, 0, 0), (130, .iload_n 2, 1, 2, 0, 0, 0), (131, .ifCond .ne 8, 3, 12, 0, 0, 0), (134, .iload 4, 2, 2, 0, 0, 0), (136, .goto 5, 3, 0, 0, 0, 0), (139, .iload 5, 2, 2, 0, 0, 0), (141, .ireturn, 1, 21, 0, 0, 0)]
/- 128: PepperTablesModel.hottest()I -/
def ee_T128 : List ee_en := [(0, .iconst (-1), 1, 0, 0, 0, 0), (1, .istore_n 1, 1, 4, 0, 0, 0), (2, .iconst 0, 1, 0, 0, 0, 0), (3, .istore_n 2, 1, 4, 0, 0, 0), (4, .iload_n 2, 1, 2, 0, 0, 0), (5, .aload_n 0, 1, 3, 0, 0, 0), (6, .invokevirtual 365, 3, 23, 164, 0, 0), (9, .if_icmp .ge 36, 3, 12, 0, 0, 0), (12, .iload_n 1, 1, 2, 0, 0, 0), (13, .ifCond .lt 24, 3, 12, 0, 0, 0), (16, .aload_n 0, 1, 3, 0, 0, 0), (17, .aload_n 0, 1, 3, 0, 0, 0), (18, .iload_n 2, 1, 2, 0, 0, 0), (19, .invokevirtual 345, 3, 20, 0, 9, 0), (22, .invokevirtual 348, 3, 23, 166, 0, 0), (25, .aload_n 0, 1, 3, 0, 0, 0), (26, .aload_n 0, 1, 3, 0, 0, 0), (27, .iload_n 1, 1, 2, 0, 0, 0), (28, .invokevirtual 345, 3, 20, 0, 9, 0), (31, .invokevirtual 348, 3, 23, 166, 0, 0), (34, .if_icmp .le 5, 3, 12, 0, 0, 0), (37, .iload_n 2, 1, 2, 0, 0, 0), (38, .istore_n 1, 1, 4, 0, 0, 0), (39, .iinc 2 1, 3, 6, 0, 0, 0), (42, .goto (-38), 3, 0, 0, 0, 0), (45, .iload_n 1, 1, 2, 0, 0, 0), (46, .ireturn, 1, 21, 0, 0, 0)]
/- 129: PepperTablesModel.idle()I -/
def ee_T129 : List ee_en := [(0, .iconst 0, 1, 0, 0, 0, 0), (1, .istore_n 1, 1, 4, 0, 0, 0), (2, .iconst 0, 1, 0, 0, 0, 0), (3, .istore_n 2, 1, 4, 0, 0, 0), (4, .iload_n 2, 1, 2, 0, 0, 0), (5, .aload_n 0, 1, 3, 0, 0, 0), (6, .invokevirtual 365, 3, 23, 164, 0, 0), (9, .if_icmp .ge 23, 3, 12, 0, 0, 0), (12, .aload_n 0, 1, 3, 0, 0, 0), (13, .iload_n 2, 1, 2, 0, 0, 0), (14, .invokevirtual 407, 3, 20, 0, 9, 0), (17, .ifCond .ne 9, 3, 12, 0, 0, 0), (20, .iload_n 1, 1, 2, 0, 0, 0), (21, .iconst 1, 1, 0, 0, 0, 0), (22, .iload_n 2, 1, 2, 0, 0, 0), (23, .ishl, 1, 7, 0, 0, 0), (24, .ior, 1, 7, 0, 0, 0), (25, .istore_n 1, 1, 4, 0, 0, 0), (26, .iinc 2 1, 3, 6, 0, 0, 0), (29, .goto (-25), 3, 0, 0, 0, 0), (32, .iload_n 1, 1, 2, 0, 0, 0), (33, .ireturn, 1, 21, 0, 0, 0)]
def ee_M12 : List ee_me := [(9, ⟨"PepperTablesModel", "goOn", "()V"⟩, prog_11_method_9_code, 3, none, ee_T122, 0, 0), (9, ⟨"PepperTablesModel", "grind", "(I)I"⟩, prog_11_method_87_code, 2, (some .int), ee_T123, 0, 0), (9, ⟨"PepperTablesModel", "heard", "(IIZ)I"⟩, prog_11_method_122_code, 4, (some .int), ee_T124, 0, 0), (9, ⟨"PepperTablesModel", "heatOf", "(I)I"⟩, prog_11_method_57_code, 4, (some .int), ee_T125, 0, 0), (9, ⟨"PepperTablesModel", "hidden", "()I"⟩, prog_11_method_125_code, 1, (some .int), ee_T126, 0, 0), (9, ⟨"PepperTablesModel", "hide", "(II)I"⟩, prog_11_method_109_code, 8, (some .int), ee_T127, 0, 0), (9, ⟨"PepperTablesModel", "hottest", "()I"⟩, prog_11_method_75_code, 3, (some .int), ee_T128, 0, 0), (9, ⟨"PepperTablesModel", "idle", "()I"⟩, prog_11_method_76_code, 3, (some .int), ee_T129, 0, 0)]
set_option maxRecDepth 100000 in
theorem ee_M12ok : ee_M12.all ee_Mb = true := by decide +kernel
end
section
/- 130: PepperTablesModel.image(I)I -/
def ee_T130 : List ee_en := [(0, .iload_n 1, 1, 2, 0, 0, 0), (1, .iconst 0, 1, 0, 0, 0, 0), (2, .iconst 2, 1, 0, 0, 0, 0), (3, .invokestatic 361, 3, 23, 172, 0, 0), (6, .ifCond .ne 5, 3, 12, 0, 0, 0), (9, .iconst (-1), 1, 0, 0, 0, 0), (10, .ireturn, 1, 21, 0, 0, 0), (11, .iconst 0, 1, 0, 0, 0, 0), (12, .istore_n 2, 1, 4, 0, 0, 0), (13, .iload_n 2, 1, 2, 0, 0, 0), (14, .bipush 19, 2, 0, 0, 0, 0), (16, .if_icmp .ge 26, 3, 12, 0, 0, 0), (19, .aload_n 0, 1, 3, 0, 0, 0), (20, .getfield 130, 3, 14, 142, 0, 0), (23, .bipush 19, 2, 0, 0, 0, 0), (25, .iload_n 1, 1, 2, 0, 0, 0), (26, .imul, 1, 7, 0, 0, 0), (27, .iload_n 2, 1, 2, 0, 0, 0), (28, .iadd, 1, 7, 0, 0, 0), (29, .aload_n 0, 1, 3, 0, 0, 0), (30, .getfield 88, 3, 14, 128, 0, 0), (33, .iload_n 2, 1, 2, 0, 0, 0), (34, .iaload, 1, 22, 0, 0, 0), (35, .iastore, 1, 17, 0, 0, 0), (36, .iinc 2 1, 3, 6, 0, 0, 0), (39, .goto (-26), 3, 0, 0, 0, 0), (42, .aload_n 0, 1, 3, 0, 0, 0), (43, .getfield 133, 3, 14, 143, 0, 0), (46, .iload_n 1, 1, 2, 0, 0, 0), (47, .iconst 1, 1, 0, 0, 0, 0), (48, .bastore, 1, 17, 0, 0, 0), (49, .aload_n 0, 1, 3, 0, 0, 0), (50, .getfield 88, 3, 14, 128, 0, 0), (53, .bipush 17, 2, 0, 0, 0, 0), (55, .iaload, 1, 22, 0, 0, 0), (56, .ireturn, 1, 21, 0, 0, 0)]
/- 131: PepperTablesModel.invite(I)I -/
def ee_T131 : List ee_en := [(0, .iload_n 1, 1, 2, 0, 0, 0), (1, .iconst 0, 1, 0, 0, 0, 0), (2, .iconst 1, 1, 0, 0, 0, 0), (3, .invokestatic 361, 3, 23, 172, 0, 0), (6, .ifCond .ne 5, 3, 12, 0, 0, 0), (9, .iconst (-1), 1, 0, 0, 0, 0), (10, .ireturn, 1, 21, 0, 0, 0), (11, .iconst (-1), 1, 0, 0, 0, 0), (12, .istore_n 2, 1, 4, 0, 0, 0), (13, .iconst (-1), 1, 0, 0, 0, 0), (14, .istore_n 3, 1, 4, 0, 0, 0), (15, .iconst 0, 1, 0, 0, 0, 0), (16, .istore 4, 2, 4, 0, 0, 0), (18, .iload 4, 2, 2, 0, 0, 0), (20, .aload_n 0, 1, 3, 0, 0, 0), (21, .invokevirtual 358, 3, 23, 163, 0, 0), (24, .if_icmp .ge 62, 3, 12, 0, 0, 0), (27, .aload_n 0, 1, 3, 0, 0, 0), (28, .getfield 88, 3, 14, 128, 0, 0), (31, .iconst 0, 1, 0, 0, 0, 0), (32, .iaload, 1, 22, 0, 0, 0), (33, .iload 4, 2, 2, 0, 0, 0), (35, .invokestatic 259, 3, 20, 0, 9, 0), (38, .ifCond .eq 7, 3, 12, 0, 0, 0), (41, .iconst (-1), 1, 0, 0, 0, 0), (42, .goto 21, 3, 0, 0, 0, 0), (45, .aload_n 0, 1, 3, 0, 0, 0), (46, .aload_n 0, 1, 3, 0, 0, 0), (47, .getfield 88, 3, 14, 128, 0, 0), (50, .iconst 0, 1, 0, 0, 0, 0), (51, .iaload, 1, 22, 0, 0, 0), (52, .iconst 1, 1, 0, 0, 0, 0), (53, .iload 4, 2, 2, 0, 0, 0), (55, .ishl, 1, 7, 0, 0, 0), (56, .ior, 1, 7, 0, 0, 0), (57, .invokevirtual 449, 3, 23, 181, 0, 0), (60, .invokestatic 339, 3, 23, 175, 0, 0), (63, .istore 5, 2, 4, 0, 0, 0), (65, .iload 5, 2, 2, 0, 0, 0), (67, .iload_n 3, 1, 2, 0, 0, 0), (68, .if_icmp .gt 6, 3, 12, 0, 0, 0), (71, .goto 9, 3, 0, 0, 0, 0), (74, .iload 4, 2, 2, 0, 0, 0), (76, .istore_n 2, 1, 4, 0, 0, 0), (77, .iload 5, 2, 2, 0, 0, 0), (79, .istore_n 3, 1, 4, 0, 0, 0), (80, .iinc 4 1, 3, 6, 0, 0, 0), (83, .goto (-65), 3, 0, 0, 0, 0), (86, .iload_n 1, 1, 2, 0, 0, 0), (87, .ifCond .ne 7, 3, 12, 0, 0, 0), (90, .iload_n 2, 1, 2, 0, 0, 0), (91, .goto 4, 3, 0, 0, 0, 0), (94, .iload_n 3, 1, 2, 0, 0, 0), (95, .ireturn, 1, 21, 0, 0, 0)]
/- 132: PepperTablesModel.isGood()Z -/
def ee_T132 : List ee_en := [(0, .aload_n 0, 1, 3, 0, 0, 0), (1, .getfield 146, 3, 14, 154, 0, 0), (4, .ifCond .ne 7, 3, 12, 0, 0, 0), (7, .iconst 1, 1, 0, 0, 0, 0), (8, .goto 4, 3, 0, 0, 0, 0), (11, .iconst 0, 1, 0, 0, 0, 0), (12, .ireturn, 1, 21, 0, 0, 0)]
/- 133: PepperTablesModel.isIn(III)Z -/
def ee_T133 : List ee_en := [(0, .iload_n 0, 1, 2, 0, 0, 0), (1, .iload_n 1, 1, 2, 0, 0, 0), (2, .if_icmp .lt 12, 3, 12, 0, 0, 0), (5, .iload_n 0, 1, 2, 0, 0, 0), (6, .iload_n 2, 1, 2, 0, 0, 0), (7, .if_icmp .gt 7, 3, 12, 0, 0, 0), (10, .iconst 1, 1, 0, 0, 0, 0), (11, .goto 4, 3, 0, 0, 0, 0), (14, .iconst 0, 1, 0, 0, 0, 0), (15, .ireturn, 1, 21, 0, 0, 0)]
/- 134: PepperTablesModel.isPerson(I)Z -/
def ee_T134 : List ee_en := [(0, .iload_n 1, 1, 2, 0, 0, 0), (1, .iconst 0, 1, 0, 0, 0, 0), (2, .aload_n 0, 1, 3, 0, 0, 0), (3, .invokevirtual 358, 3, 23, 163, 0, 0), (6, .iconst 1, 1, 0, 0, 0, 0), (7, .isub, 1, 7, 0, 0, 0), (8, .invokestatic 361, 3, 23, 172, 0, 0), (11, .ireturn, 1, 21, 0, 0, 0)]
/- 135: PepperTablesModel.isSack(I)Z -/
def ee_T135 : List ee_en := [(0, .iload_n 1, 1, 2, 0, 0, 0), (1, .iconst 0, 1, 0, 0, 0, 0), (2, .aload_n 0, 1, 3, 0, 0, 0), (3, .invokevirtual 365, 3, 23, 164, 0, 0), (6, .iconst 1, 1, 0, 0, 0, 0), (7, .isub, 1, 7, 0, 0, 0), (8, .invokestatic 361, 3, 23, 172, 0, 0), (11, .ireturn, 1, 21, 0, 0, 0)]
/- 136: PepperTablesModel.isThing(I)Z -/
def ee_T136 : List ee_en := [(0, .iload_n 1, 1, 2, 0, 0, 0), (1, .iconst 0, 1, 0, 0, 0, 0), (2, .aload_n 0, 1, 3, 0, 0, 0), (3, .invokevirtual 368, 3, 23, 162, 0, 0), (6, .iconst 1, 1, 0, 0, 0, 0), (7, .isub, 1, 7, 0, 0, 0), (8, .invokestatic 361, 3, 23, 172, 0, 0), (11, .ireturn, 1, 21, 0, 0, 0)]
/- 137: PepperTablesModel.keepAct()V -/
def ee_T137 : List ee_en := [(0, .aload_n 0, 1, 3, 0, 0, 0), (1, .getfield 374, 3, 14, 144, 0, 0), (4, .bipush 40, 2, 0, 0, 0, 0), (6, .if_icmp .ne 43, 3, 12, 0, 0, 0), (9, .iconst 0, 1, 0, 0, 0, 0), (10, .istore_n 1, 1, 4, 0, 0, 0), (11, .iload_n 1, 1, 2, 0, 0, 0), (12, .sipush 760, 3, 0, 0, 0, 0), (15, .if_icmp .ge 24, 3, 12, 0, 0, 0), (18, .aload_n 0, 1, 3, 0, 0, 0), (19, .getfield 94, 3, 14, 130, 0, 0), (22, .iload_n 1, 1, 2, 0, 0, 0), (23, .aload_n 0, 1, 3, 0, 0, 0), (24, .getfield 94, 3, 14, 130, 0, 0), (27, .iload_n 1, 1, 2, 0, 0, 0), (28, .bipush 19, 2, 0, 0, 0, 0), (30, .iadd, 1, 7, 0, 0, 0), (31, .iaload, 1, 22, 0, 0, 0), (32, .iastore, 1, 17, 0, 0, 0), (33, .iinc 1 1, 3, 6, 0, 0, 0), (36, .goto (-25), 3, 0, 0, 0, 0), (39, .aload_n 0, 1, 3, 0, 0, 0), (40, .dup, 1, 11, 0, 0, 0), (41, .getfield 374, 3, 14, 144, 0, 0), (44, .iconst 1, 1, 0, 0, 0, 0), (45, .isub, 1, 7, 0, 0, 0), (46, .putfield 374, 3, 15, 144, 0, 0), (49, .iconst 0, 1, 0, 0, 0, 0), (50, .istore_n 1, 1, 4, 0, 0, 0), (51, .iload_n 1, 1, 2, 0, 0, 0), (52, .bipush 19, 2, 0, 0, 0, 0), (54, .if_icmp .ge 29, 3, 12, 0, 0, 0), (57, .aload_n 0, 1, 3, 0, 0, 0), (58, .getfield 94, 3, 14, 130, 0, 0), (61, .bipush 19, 2, 0, 0, 0, 0), (63, .aload_n 0, 1, 3, 0, 0, 0), (64, .getfield 374, 3, 14, 144, 0, 0), (67, .imul, 1, 7, 0, 0, 0), (68, .iload_n 1, 1, 2, 0, 0, 0), (69, .iadd, 1, 7, 0, 0, 0), (70, .aload_n 0, 1, 3, 0, 0, 0), (71, .getfield 88, 3, 14, 128, 0, 0), (74, .iload_n 1, 1, 2, 0, 0, 0), (75, .iaload, 1, 22, 0, 0, 0), (76, .iastore, 1, 17, 0, 0, 0), (77, .iinc 1 1, 3, 6, 0, 0, 0), (80, .goto (-29), 3, 0, 0, 0, 0), (83, .aload_n 0, 1, 3, 0, 0, 0), (84, .dup, 1, 11, 0, 0, 0), (85, .getfield 374, 3, 14, 144, 0, 0), (88, .iconst 1, 1, 0, 0, 0, 0), (89, .iadd, 1, 7, 0, 0, 0), (90, .putfield 374, 3, 15, 144, 0, 0), (93, .aload_n 0, 1, 3, 0, 0, 0), (94, .iconst 0, 1, 0, 0, 0, 0), (95, .putfield 377, 3, 15, 145, 0, 0), (98, .return_, 1, 21, 0, 0, 0)]
/- 138: PepperTablesModel.keepNow()V -/
def ee_T138 : List ee_en := [(0, .iconst 0, 1, 0, 0, 0, 0), (1, .istore_n 1, 1, 4, 0, 0, 0), (2, .iload_n 1, 1, 2, 0, 0, 0), (3, .bipush 19, 2, 0, 0, 0, 0), (5, .if_icmp .ge 21, 3, 12, 0, 0, 0), (8, .aload_n 0, 1, 3, 0, 0, 0), (9, .getfield 97, 3, 14, 131, 0, 0), (12, .iload_n 1, 1, 2, 0, 0, 0), (13, .aload_n 0, 1, 3, 0, 0, 0), (14, .getfield 88, 3, 14, 128, 0, 0), (17, .iload_n 1, 1, 2, 0, 0, 0), (18, .iaload, 1, 22, 0, 0, 0), (19, .iastore, 1, 17, 0, 0, 0), (20, .iinc 1 1, 3, 6, 0, 0, 0), (23, .goto (-21), 3, 0, 0, 0, 0), (26, .return_, 1, 21, 0, 0, 0)]
/- 139: PepperTablesModel.keeps(II)I -/
def ee_T139 : List ee_en := [(0, .aload_n 0, 1, 3, 0, 0, 0), (1, .iload_n 1, 1, 2, 0, 0, 0), (2, .invokevirtual 410, 3, 23, 180, 0, 0), (5, .ifCond .eq 34, 3, 12, 0, 0, 0), (8, .aload_n 0, 1, 3, 0, 0, 0), (9, .iload_n 2, 1, 2, 0, 0, 0), (10, .invokevirtual 410, 3, 23, 180, 0, 0), (13, .ifCond .eq 26, 3, 12, 0, 0, 0), (16, .aload_n 0, 1, 3, 0, 0, 0), (17, .aload_n 0, 1, 3, 0, 0, 0), (18, .iload_n 1, 1, 2, 0, 0, 0), (19, .invokevirtual 413, 3, 20, 0, 9, 0), (22, .aload_n 0, 1, 3, 0, 0, 0), (23, .iload_n 2, 1, 2, 0, 0, 0), (24, .invokevirtual 419, 3, 20, 0, 9, 0), (27, .iand, 1, 7, 0, 0, 0), (28, .aload_n 0, 1, 3, 0, 0, 0), (29, .invokevirtual 416, 3, 23, 165, 0, 0), (32, .iand, 1, 7, 0, 0, 0), (33, .invokevirtual 348, 3, 23, 166, 0, 0), (36, .goto 4, 3, 0, 0, 0, 0), (39, .iconst (-1), 1, 0, 0, 0, 0), (40, .ireturn, 1, 21, 0, 0, 0)]
/- 140: PepperTablesModel.keptNow()I -/
def ee_T140 : List ee_en := [(0, .iconst 1, 1, 0, 0, 0, 0), (1, .aload_n 0, 1, 3, 0, 0, 0), (2, .invokevirtual 368, 3, 23, 162, 0, 0), (5, .ishl, 1, 7, 0, 0, 0), (6, .iconst 1, 1, 0, 0, 0, 0), (7, .isub, 1, 7, 0, 0, 0), (8, .aload_n 0, 1, 3, 0, 0, 0), (9, .getfield 88, 3, 14, 128, 0, 0), (12, .iconst 1, 1, 0, 0, 0, 0), (13, .iaload, 1, 22, 0, 0, 0), (14, .iconst (-1), 1, 0, 0, 0, 0), (15, .ixor, 1, 7, 0, 0, 0), (16, .iand, 1, 7, 0, 0, 0), (17, .ireturn, 1, 21, 0, 0, 0)]
/- 141: PepperTablesModel.later(I)I -/
def ee_T141 : List ee_en := [(0, .iload_n 1, 1, 2, 0, 0, 0), (1, .iconst 0, 1, 0, 0, 0, 0), (2, .sipush 1000, 3, 0, 0, 0, 0), (5, .invokestatic 361, 3, 23, 172, 0, 0), (8, .ifCond .eq 15, 3, 12, 0, 0, 0), (11, .aload_n 0, 1, 3, 0, 0, 0), (12, .getfield 482, 3, 14, 147, 0, 0), (15, .iload_n 1, 1, 2, 0, 0, 0), (16, .iadd, 1, 7, 0, 0, 0), (17, .ldc_w 485, 3, 1, 1, 0, 100000), (20, .if_icmp .le 5, 3, 12, 0, 0, 0), (23, .iconst (-1), 1, 0, 0, 0, 0), (24, .ireturn, 1, 21, 0, 0, 0), (25, .aload_n 0, 1, 3, 0, 0, 0), (26, .dup, 1, 11, 0, 0, 0), (27, .getfield 482, 3, 14, 147, 0, 0), (30, .iload_n 1, 1, 2, 0, 0, 0), (31, .iadd, 1, 7, 0, 0, 0), (32, .putfield 482, 3, 15, 147, 0, 0), (35, .aload_n 0, 1, 3, 0, 0, 0), (36, .getfield 482, 3, 14, 147, 0, 0), (39, .ireturn, 1, 21, 0, 0, 0)]
/- 142: PepperTablesModel.law(II)I -/
def ee_T142 : List ee_en := [(0, .aload_n 0, 1, 3, 0, 0, 0), (1, .iload_n 1, 1, 2, 0, 0, 0), (2, .invokevirtual 425, 3, 23, 174, 0, 0), (5, .ifCond .eq 13, 3, 12, 0, 0, 0), (8, .iload_n 2, 1, 2, 0, 0, 0), (9, .iconst 0, 1, 0, 0, 0, 0), (10, .bipush 99, 2, 0, 0, 0, 0), (12, .invokestatic 361, 3, 23, 172, 0, 0), (15, .ifCond .ne 5, 3, 12, 0, 0, 0), (18, .iconst (-1), 1, 0, 0, 0, 0), (19, .ireturn, 1, 21, 0, 0, 0), (20, .aload_n 0, 1, 3, 0, 0, 0), (21, .getfield 88, 3, 14, 128, 0, 0), (24, .bipush 12, 2, 0, 0, 0, 0), (26, .iload_n 1, 1, 2, 0, 0, 0), (27, .iadd, 1, 7, 0, 0, 0), (28, .iaload, 1, 22, 0, 0, 0), (29, .istore_n 3, 1, 4, 0, 0, 0), (30, .aload_n 0, 1, 3, 0, 0, 0), (31, .getfield 88, 3, 14, 128, 0, 0), (34, .bipush 12, 2, 0, 0, 0, 0), (36, .iload_n 1, 1, 2, 0, 0, 0), (37, .iadd, 1, 7, 0, 0, 0), (38, .iload_n 2, 1, 2, 0, 0, 0), (39, .iastore, 1, 17, 0, 0, 0), (40, .aload_n 0, 1, 3, 0, 0, 0), (41, .iload_n 1, 1, 2, 0, 0, 0), (42, .invokevirtual 407, 3, 20, 0, 9, 0), (45, .invokestatic 339, 3, 23, 175, 0, 0), (48, .istore 4, 2, 4, 0, 0, 0), (50, .aload_n 0, 1, 3, 0, 0, 0), (51, .getfield 88, 3, 14, 128, 0, 0), (54, .bipush 12, 2, 0, 0, 0, 0), (56, .iload_n 1, 1, 2, 0, 0, 0), (57, .iadd, 1, 7, 0, 0, 0), (58, .iload_n 3, 1, 2, 0, 0, 0), (59, .iastore, 1, 17, 0, 0, 0), (60, .iload 4, 2, 2, 0, 0, 0), (62, .ireturn, 1, 21, 0, 0, 0)]
/- 143: PepperTablesModel.layMany()V -/
def ee_T143 : List ee_en := [(0, .aload_n 0, 1, 3, 0, 0, 0), (1, .invokevirtual 458, 3, 23, 168, 0, 0), (4, .iconst 0, 1, 0, 0, 0, 0), (5, .istore_n 1, 1, 4, 0, 0, 0), (6, .iload_n 1, 1, 2, 0, 0, 0), (7, .aload_n 0, 1, 3, 0, 0, 0), (8, .invokevirtual 365, 3, 23, 164, 0, 0), (11, .iconst 1, 1, 0, 0, 0, 0), (12, .iadd, 1, 7, 0, 0, 0), (13, .aload_n 0, 1, 3, 0, 0, 0), (14, .invokevirtual 486, 3, 23, 170, 0, 0), (17, .invokestatic 455, 3, 23, 171, 0, 0), (20, .if_icmp .ge 115, 3, 12, 0, 0, 0), (23, .aload_n 0, 1, 3, 0, 0, 0), (24, .invokevirtual 371, 3, 23, 183, 0, 0), (27, .aload_n 0, 1, 3, 0, 0, 0), (28, .getfield 88, 3, 14, 128, 0, 0), (31, .iconst 0, 1, 0, 0, 0, 0), (32, .iconst 1, 1, 0, 0, 0, 0), (33, .aload_n 0, 1, 3, 0, 0, 0), (34, .invokevirtual 358, 3, 23, 163, 0, 0), (37, .ishl, 1, 7, 0, 0, 0), (38, .iconst 1, 1, 0, 0, 0, 0), (39, .isub, 1, 7, 0, 0, 0), (40, .iastore, 1, 17, 0, 0, 0), (41, .iconst 0, 1, 0, 0, 0, 0), (42, .istore_n 2, 1, 4, 0, 0, 0), (43, .iload_n 2, 1, 2, 0, 0, 0), (44, .aload_n 0, 1, 3, 0, 0, 0), (45, .invokevirtual 486, 3, 23, 170, 0, 0), (48, .if_icmp .ge 47, 3, 12, 0, 0, 0), (51, .aload_n 0, 1, 3, 0, 0, 0), (52, .getfield 88, 3, 14, 128, 0, 0), (55, .iconst 2, 1, 0, 0, 0, 0), (56, .aload_n 0, 1, 3, 0, 0, 0), (57, .invokevirtual 368, 3, 23, 162, 0, 0), (60, .iadd, 1, 7, 0, 0, 0), (61, .iconst 1, 1, 0, 0, 0, 0), (62, .isub, 1, 7, 0, 0, 0), (63, .iload_n 2, 1, 2, 0, 0, 0), (64, .isub, 1, 7, 0, 0, 0), (65, .aload_n 0, 1, 3, 0, 0, 0), (66, .iload_n 1, 1, 2, 0, 0, 0), (67, .iload_n 2, 1, 2, 0, 0, 0), (68, .invokevirtual 489, 3, 20, 0, 9, 0), (71, .aload_n 0, 1, 3, 0, 0, 0), (72, .invokevirtual 365, 3, 23, 164, 0, 0), (75, .if_icmp .ne 7, 3, 12, 0, 0, 0), (78, .iconst (-1), 1, 0, 0, 0, 0), (79, .goto 9, 3, 0, 0, 0, 0), (82, .aload_n 0, 1, 3, 0, 0, 0), (83, .iload_n 1, 1, 2, 0, 0, 0), (84, .iload_n 2, 1, 2, 0, 0, 0), (85, .invokevirtual 489, 3, 20, 0, 9, 0), (88, .iastore, 1, 17, 0, 0, 0), (89, .iinc 2 1, 3, 6, 0, 0, 0), (92, .goto (-49), 3, 0, 0, 0, 0), (95, .iconst 0, 1, 0, 0, 0, 0), (96, .istore_n 2, 1, 4, 0, 0, 0), (97, .iload_n 2, 1, 2, 0, 0, 0), (98, .aload_n 0, 1, 3, 0, 0, 0), (99, .invokevirtual 365, 3, 23, 164, 0, 0), (102, .if_icmp .ge 27, 3, 12, 0, 0, 0), (105, .aload_n 0, 1, 3, 0, 0, 0), (106, .getfield 106, 3, 14, 134, 0, 0), (109, .iconst 5, 1, 0, 0, 0, 0), (110, .iload_n 1, 1, 2, 0, 0, 0), (111, .imul, 1, 7, 0, 0, 0), (112, .iload_n 2, 1, 2, 0, 0, 0), (113, .iadd, 1, 7, 0, 0, 0), (114, .aload_n 0, 1, 3, 0, 0, 0), (115, .iload_n 2, 1, 2, 0, 0, 0), (116, .invokevirtual 407, 3, 20, 0, 9, 0), (119, .invokestatic 339, 3, 23, 175, 0, 0), (122, .iastore, 1, 17, 0, 0, 0), (123, .iinc 2 1, 3, 6, 0, 0, 0), (126, .goto (-29), 3, 0, 0, 0, 0), (129, .iinc 1 1, 3, 6, 0, 0, 0), (132, .goto (-126), 3, 0, 0, 0, 0), (135, .aload_n 0, 1, 3, 0, 0, 0), (136, .invokevirtual 464, 3, 23, 169, 0, 0), (139, .return_, 1, 21, 0, 0, 0)]
/- 144: PepperTablesModel.layRows(I)V -/
def ee_T144 : List ee_en := [(0, .aload_n 0, 1, 3, 0, 0, 0), (1, .iconst 0, 1, 0, 0, 0, 0), (2, .putfield 492, 3, 15, 151, 0, 0), (5, .iconst 0, 1, 0, 0, 0, 0), (6, .istore_n 2, 1, 4, 0, 0, 0), (7, .iload_n 2, 1, 2, 0, 0, 0), (8, .bipush 12, 2, 0, 0, 0, 0), (10, .if_icmp .ge 16, 3, 12, 0, 0, 0), (13, .aload_n 0, 1, 3, 0, 0, 0), (14, .getfield 124, 3, 14, 140, 0, 0), (17, .iload_n 2, 1, 2, 0, 0, 0), (18, .iconst 0, 1, 0, 0, 0, 0), (19, .iastore, 1, 17, 0, 0, 0), (20, .iinc 2 1, 3, 6, 0, 0, 0), (23, .goto (-16), 3, 0, 0, 0, 0), (26, .aload_n 0, 1, 3, 0, 0, 0), (27, .invokevirtual 495, 3, 23, 184, 0, 0), (30, .iconst 0, 1, 0, 0, 0, 0), (31, .istore_n 2, 1, 4, 0, 0, 0), (32, .iload_n 2, 1, 2, 0, 0, 0), (33, .aload_n 0, 1, 3, 0, 0, 0), (34, .invokevirtual 498, 3, 23, 185, 0, 0), (37, .if_icmp .ge 67, 3, 12, 0, 0, 0), (40, .aload_n 0, 1, 3, 0, 0, 0), (41, .iload_n 2, 1, 2, 0, 0, 0), (42, .iload_n 1, 1, 2, 0, 0, 0), (43, .invokevirtual 501, 3, 20, 0, 9, 0), (46, .ifCond .ne 6, 3, 12, 0, 0, 0), (49, .goto 49, 3, 0, 0, 0, 0), (52, .aload_n 0, 1, 3, 0, 0, 0), (53, .dup, 1, 11, 0, 0, 0), (54, .getfield 492, 3, 14, 151, 0, 0), (57, .iconst 1, 1, 0, 0, 0, 0), (58, .iadd, 1, 7, 0, 0, 0), (59, .putfield 492, 3, 15, 151, 0, 0), (62, .iconst 0, 1, 0, 0, 0, 0), (63, .istore_n 3, 1, 4, 0, 0, 0), (64, .iload_n 3, 1, 2, 0, 0, 0), (65, .aload_n 0, 1, 3, 0, 0, 0), (66, .invokevirtual 486, 3, 23, 170, 0, 0), (69, .if_icmp .ge 29, 3, 12, 0, 0, 0), (72, .aload_n 0, 1, 3, 0, 0, 0), (73, .getfield 124, 3, 14, 140, 0, 0), (76, .bipush 6, 2, 0, 0, 0, 0), (78, .iload_n 3, 1, 2, 0, 0, 0), (79, .imul, 1, 7, 0, 0, 0), (80, .aload_n 0, 1, 3, 0, 0, 0), (81, .iload_n 2, 1, 2, 0, 0, 0), (82, .iload_n 3, 1, 2, 0, 0, 0), (83, .invokevirtual 489, 3, 20, 0, 9, 0), (86, .iadd, 1, 7, 0, 0, 0), (87, .dup2, 1, 11, 0, 0, 0), (88, .iaload, 1, 22, 0, 0, 0), (89, .iconst 1, 1, 0, 0, 0, 0), (90, .iadd, 1, 7, 0, 0, 0), (91, .iastore, 1, 17, 0, 0, 0), (92, .iinc 3 1, 3, 6, 0, 0, 0), (95, .goto (-31), 3, 0, 0, 0, 0), (98, .iinc 2 1, 3, 6, 0, 0, 0), (101, .goto (-69), 3, 0, 0, 0, 0), (104, .return_, 1, 21, 0, 0, 0)]
def ee_M13 : List ee_me := [(9, ⟨"PepperTablesModel", "image", "(I)I"⟩, prog_11_method_135_code, 3, (some .int), ee_T130, 0, 0), (9, ⟨"PepperTablesModel", "invite", "(I)I"⟩, prog_11_method_103_code, 6, (some .int), ee_T131, 0, 0), (9, ⟨"PepperTablesModel", "isGood", "()Z"⟩, prog_11_method_6_code, 1, (some .boolean), ee_T132, 0, 0), (9, ⟨"PepperTablesModel", "isIn", "(III)Z"⟩, prog_11_method_39_code, 3, (some .boolean), ee_T133, 0, 0), (9, ⟨"PepperTablesModel", "isPerson", "(I)Z"⟩, prog_11_method_47_code, 2, (some .boolean), ee_T134, 0, 0), (9, ⟨"PepperTablesModel", "isSack", "(I)Z"⟩, prog_11_method_48_code, 2, (some .boolean), ee_T135, 0, 0), (9, ⟨"PepperTablesModel", "isThing", "(I)Z"⟩, prog_11_method_49_code, 2, (some .boolean), ee_T136, 0, 0), (9, ⟨"PepperTablesModel", "keepAct", "()V"⟩, prog_11_method_83_code, 2, none, ee_T137, 0, 0), (9, ⟨"PepperTablesModel", "keepNow", "()V"⟩, prog_11_method_93_code, 2, none, ee_T138, 0, 0), (9, ⟨"PepperTablesModel", "keeps", "(II)I"⟩, prog_11_method_72_code, 3, (some .int), ee_T139, 0, 0), (9, ⟨"PepperTablesModel", "keptNow", "()I"⟩, prog_11_method_58_code, 1, (some .int), ee_T140, 0, 0), (9, ⟨"PepperTablesModel", "later", "(I)I"⟩, prog_11_method_124_code, 2, (some .int), ee_T141, 0, 0), (9, ⟨"PepperTablesModel", "law", "(II)I"⟩, prog_11_method_82_code, 5, (some .int), ee_T142, 0, 0), (9, ⟨"PepperTablesModel", "layMany", "()V"⟩, prog_11_method_127_code, 3, none, ee_T143, 0, 0), (9, ⟨"PepperTablesModel", "layRows", "(I)V"⟩, prog_11_method_130_code, 4, none, ee_T144, 0, 0)]
set_option maxRecDepth 100000 in
theorem ee_M13ok : ee_M13.all ee_Mb = true := by decide +kernel
end
section
/- 145: PepperTablesModel.layTold()V -/
def ee_T145 : List ee_en := [(0, .iconst 0, 1, 0, 0, 0, 0), (1, .istore_n 1, 1, 4, 0, 0, 0), (2, .iload_n 1, 1, 2, 0, 0, 0), (3, .bipush 19, 2, 0, 0, 0, 0), (5, .if_icmp .ge 16, 3, 12, 0, 0, 0), (8, .aload_n 0, 1, 3, 0, 0, 0), (9, .getfield 88, 3, 14, 128, 0, 0), (12, .iload_n 1, 1, 2, 0, 0, 0), (13, .iconst 0, 1, 0, 0, 0, 0), (14, .iastore, 1, 17, 0, 0, 0), (15, .iinc 1 1, 3, 6, 0, 0, 0), (18, .goto (-16), 3, 0, 0, 0, 0), (21, .iconst 0, 1, 0, 0, 0, 0), (22, .istore_n 1, 1, 4, 0, 0, 0), (23, .iload_n 1, 1, 2, 0, 0, 0), (24, .bipush 10, 2, 0, 0, 0, 0), (26, .if_icmp .ge 43, 3, 12, 0, 0, 0), (29, .aload_n 0, 1, 3, 0, 0, 0), (30, .getfield 88, 3, 14, 128, 0, 0), (33, .iconst 2, 1, 0, 0, 0, 0), (34, .iload_n 1, 1, 2, 0, 0, 0), (35, .iadd, 1, 7, 0, 0, 0), (36, .iload_n 1, 1, 2, 0, 0, 0), (37, .aload_n 0, 1, 3, 0, 0, 0), (38, .invokevirtual 368, 3, 23, 162, 0, 0), (41, .if_icmp .ge 20, 3, 12, 0, 0, 0), (44, .aload_n 0, 1, 3, 0, 0, 0), (45, .getfield 54, 3, 14, 117, 0, 0), (48, .bipush 10, 2, 0, 0, 0, 0), (50, .aload_n 0, 1, 3, 0, 0, 0), (51, .getfield 253, 3, 14, 149, 0, 0), (54, .imul, 1, 7, 0, 0, 0), (55, .iload_n 1, 1, 2, 0, 0, 0), (56, .iadd, 1, 7, 0, 0, 0), (57, .iaload, 1, 22, 0, 0, 0), (58, .goto 4, 3, 0, 0, 0, 0), (61, .iconst (-1), 1, 0, 0, 0, 0), (62, .iastore, 1, 17, 0, 0, 0), (63, .iinc 1 1, 3, 6, 0, 0, 0), (66, .goto (-43), 3, 0, 0, 0, 0), (69, .aload_n 0, 1, 3, 0, 0, 0), (70, .getfield 88, 3, 14, 128, 0, 0), (73, .bipush 18, 2, 0, 0, 0, 0), (75, .aload_n 0, 1, 3, 0, 0, 0), (76, .getfield 36, 3, 14, 111, 0, 0), (79, .aload_n 0, 1, 3, 0, 0, 0), (80, .getfield 253, 3, 14, 149, 0, 0), (83, .iaload, 1, 22, 0, 0, 0), (84, .iastore, 1, 17, 0, 0, 0), (85, .return_, 1, 21, 0, 0, 0)]
/- 146: PepperTablesModel.lies(I)I -/
def ee_T146 : List ee_en := [(0, .iload_n 1, 1, 2, 0, 0, 0), (1, .iconst 0, 1, 0, 0, 0, 0), (2, .aload_n 0, 1, 3, 0, 0, 0), (3, .getfield 383, 3, 14, 150, 0, 0), (6, .iconst 1, 1, 0, 0, 0, 0), (7, .isub, 1, 7, 0, 0, 0), (8, .invokestatic 361, 3, 23, 172, 0, 0), (11, .ifCond .eq 12, 3, 12, 0, 0, 0), (14, .aload_n 0, 1, 3, 0, 0, 0), (15, .getfield 100, 3, 14, 132, 0, 0), (18, .iload_n 1, 1, 2, 0, 0, 0), (19, .iaload, 1, 22, 0, 0, 0), (20, .goto 4, 3, 0, 0, 0, 0), (23, .iconst (-1), 1, 0, 0, 0, 0), (24, .ireturn, 1, 21, 0, 0, 0)]
/- 147: PepperTablesModel.line()I -/
def ee_T147 : List ee_en := [(0, .aload_n 0, 1, 3, 0, 0, 0), (1, .invokevirtual 358, 3, 23, 163, 0, 0), (4, .istore_n 1, 1, 4, 0, 0, 0), (5, .iload_n 1, 1, 2, 0, 0, 0), (6, .ifCond .le 74, 3, 12, 0, 0, 0), (9, .iconst 0, 1, 0, 0, 0, 0), (10, .istore_n 2, 1, 4, 0, 0, 0), (11, .iload_n 2, 1, 2, 0, 0, 0), (12, .aload_n 0, 1, 3, 0, 0, 0), (13, .invokevirtual 358, 3, 23, 163, 0, 0), (16, .iload_n 1, 1, 2, 0, 0, 0), (17, .invokestatic 455, 3, 23, 171, 0, 0), (20, .if_icmp .ge 54, 3, 12, 0, 0, 0), (23, .aload_n 0, 1, 3, 0, 0, 0), (24, .iload_n 2, 1, 2, 0, 0, 0), (25, .iload_n 1, 1, 2, 0, 0, 0), (26, .invokevirtual 476, 3, 20, 0, 9, 0), (29, .ifCond .ne 6, 3, 12, 0, 0, 0), (32, .goto 36, 3, 0, 0, 0, 0), (35, .iconst 0, 1, 0, 0, 0, 0), (36, .istore_n 3, 1, 4, 0, 0, 0), (37, .iload_n 3, 1, 2, 0, 0, 0), (38, .iload_n 1, 1, 2, 0, 0, 0), (39, .if_icmp .ge 22, 3, 12, 0, 0, 0), (42, .aload_n 0, 1, 3, 0, 0, 0), (43, .getfield 100, 3, 14, 132, 0, 0), (46, .iload_n 3, 1, 2, 0, 0, 0), (47, .aload_n 0, 1, 3, 0, 0, 0), (48, .iload_n 2, 1, 2, 0, 0, 0), (49, .iload_n 1, 1, 2, 0, 0, 0), (50, .iload_n 3, 1, 2, 0, 0, 0), (51, .invokevirtual 470, 3, 20, 0, 9, 0), (54, .iastore, 1, 17, 0, 0, 0), (55, .iinc 3 1, 3, 6, 0, 0, 0), (58, .goto (-21), 3, 0, 0, 0, 0), (61, .aload_n 0, 1, 3, 0, 0, 0), (62, .iload_n 1, 1, 2, 0, 0, 0), (63, .putfield 383, 3, 15, 150, 0, 0), (66, .iload_n 1, 1, 2, 0, 0, 0), (67, .ireturn, 1, 21, 0, 0, 0), (68, .iinc 2 1, 3, 6, 0, 0, 0), (71, .goto (-60), 3, 0, 0, 0, 0), (74, .iinc 1 (-1), 3, 6, 0, 0, 0), (77, .goto (-72), 3, 0, 0, 0, 0), (80, .aload_n 0, 1, 3, 0, 0, 0), (81, .iconst 0, 1, 0, 0, 0, 0), (82, .putfield 383, 3, 15, 150, 0, 0), (85, .iconst 0, 1, 0, 0, 0, 0), (86, .ireturn, 1, 21, 0, 0, 0)]
/- 148: PepperTablesModel.many()I -/
def ee_T148 : List ee_en := [(0, .aload_n 0, 1, 3, 0, 0, 0), (1, .getfield 27, 3, 14, 108, 0, 0), (4, .aload_n 0, 1, 3, 0, 0, 0), (5, .getfield 253, 3, 14, 149, 0, 0), (8, .iaload, 1, 22, 0, 0, 0), (9, .ireturn, 1, 21, 0, 0, 0)]
/- 149: PepperTablesModel.mute()I -/
def ee_T149 : List ee_en := [(0, .aload_n 0, 1, 3, 0, 0, 0), (1, .invokevirtual 416, 3, 23, 165, 0, 0), (4, .istore_n 1, 1, 4, 0, 0, 0), (5, .iconst 0, 1, 0, 0, 0, 0), (6, .istore_n 2, 1, 4, 0, 0, 0), (7, .iload_n 2, 1, 2, 0, 0, 0), (8, .iconst 1, 1, 0, 0, 0, 0), (9, .aload_n 0, 1, 3, 0, 0, 0), (10, .invokevirtual 358, 3, 23, 163, 0, 0), (13, .ishl, 1, 7, 0, 0, 0), (14, .if_icmp .ge 19, 3, 12, 0, 0, 0), (17, .iload_n 1, 1, 2, 0, 0, 0), (18, .aload_n 0, 1, 3, 0, 0, 0), (19, .iload_n 2, 1, 2, 0, 0, 0), (20, .invokevirtual 449, 3, 23, 181, 0, 0), (23, .iconst (-1), 1, 0, 0, 0, 0), (24, .ixor, 1, 7, 0, 0, 0), (25, .iand, 1, 7, 0, 0, 0), (26, .istore_n 1, 1, 4, 0, 0, 0), (27, .iinc 2 1, 3, 6, 0, 0, 0), (30, .goto (-23), 3, 0, 0, 0, 0), (33, .iload_n 1, 1, 2, 0, 0, 0), (34, .ireturn, 1, 21, 0, 0, 0)]
/- 150: PepperTablesModel.near()I -/
def ee_T150 : List ee_en := [(0, .iconst 0, 1, 0, 0, 0, 0), (1, .istore_n 1, 1, 4, 0, 0, 0), (2, .iconst 0, 1, 0, 0, 0, 0), (3, .istore_n 2, 1, 4, 0, 0, 0), (4, .iload_n 2, 1, 2, 0, 0, 0), (5, .aload_n 0, 1, 3, 0, 0, 0), (6, .invokevirtual 368, 3, 23, 162, 0, 0), (9, .if_icmp .ge 31, 3, 12, 0, 0, 0), (12, .aload_n 0, 1, 3, 0, 0, 0), (13, .iload_n 2, 1, 2, 0, 0, 0), (14, .invokevirtual 386, 3, 20, 0, 9, 0), (17, .ifCond .eq 17, 3, 12, 0, 0, 0), (20, .aload_n 0, 1, 3, 0, 0, 0), (21, .iload_n 2, 1, 2, 0, 0, 0), (22, .invokevirtual 395, 3, 20, 0, 9, 0), (25, .ifCond .eq 9, 3, 12, 0, 0, 0), (28, .iload_n 1, 1, 2, 0, 0, 0), (29, .iconst 1, 1, 0, 0, 0, 0), (30, .iload_n 2, 1, 2, 0, 0, 0), (31, .ishl, 1, 7, 0, 0, 0), (32, .ior, 1, 7, 0, 0, 0), (33, .istore_n 1, 1, 4, 0, 0, 0), (34, .iinc 2 1, 3, 6, 0, 0, 0), (37, .goto (-33), 3, 0, 0, 0, 0), (40, .iload_n 1, 1, 2, 0, 0, 0), (41, .ireturn, 1, 21, 0, 0, 0)]
/- 151: PepperTablesModel.next()I -/
def ee_T151 : List ee_en := [(0, .aload_n 0, 1, 3, 0, 0, 0), (1, .invokevirtual 434, 3, 23, 177, 0, 0), (4, .ireturn, 1, 21, 0, 0, 0)]
/- 152: PepperTablesModel.odds(II)I -/
def ee_T152 : List ee_en := [(0, .iload_n 1, 1, 2, 0, 0, 0), (1, .iconst 0, 1, 0, 0, 0, 0), (2, .iconst 4, 1, 0, 0, 0, 0), (3, .invokestatic 361, 3, 23, 172, 0, 0), (6, .ifCond .eq 12, 3, 12, 0, 0, 0), (9, .iload_n 2, 1, 2, 0, 0, 0), (10, .iconst 0, 1, 0, 0, 0, 0), (11, .iconst 1, 1, 0, 0, 0, 0), (12, .invokestatic 361, 3, 23, 172, 0, 0), (15, .ifCond .ne 5, 3, 12, 0, 0, 0), (18, .iconst (-1), 1, 0, 0, 0, 0), (19, .ireturn, 1, 21, 0, 0, 0), (20, .bipush 100, 2, 0, 0, 0, 0), (22, .aload_n 0, 1, 3, 0, 0, 0), (23, .getfield 33, 3, 14, 110, 0, 0), (26, .aload_n 0, 1, 3, 0, 0, 0), (27, .getfield 253, 3, 14, 149, 0, 0), (30, .iaload, 1, 22, 0, 0, 0), (31, .isub, 1, 7, 0, 0, 0), (32, .iload_n 1, 1, 2, 0, 0, 0), (33, .invokestatic 455, 3, 23, 171, 0, 0), (36, .istore_n 3, 1, 4, 0, 0, 0), (37, .bipush 100, 2, 0, 0, 0, 0), (39, .iload_n 1, 1, 2, 0, 0, 0), (40, .invokestatic 455, 3, 23, 171, 0, 0), (43, .istore 4, 2, 4, 0, 0, 0), (45, .iload_n 2, 1, 2, 0, 0, 0), (46, .ifCond .ne 7, 3, 12, 0, 0, 0), (49, .iload_n 3, 1, 2, 0, 0, 0), (50, .goto 5, 3, 0, 0, 0, 0), (53, .iload 4, 2, 2, 0, 0, 0), (55, .iload 4, 2, 2, 0, 0, 0), (57, .iload_n 3, 1, 2, 0, 0, 0), (58, .invokestatic 479, 3, 23, 186, 0, 0), (61, .idiv, 1, 8, 0, 0, 0), (62, .ireturn, 1, 21, 0, 0, 0)]
/- 153: PepperTablesModel.pairs()I -/
def ee_T153 : List ee_en := [(0, .iconst 0, 1, 0, 0, 0, 0), (1, .istore_n 1, 1, 4, 0, 0, 0), (2, .iconst 0, 1, 0, 0, 0, 0), (3, .istore_n 2, 1, 4, 0, 0, 0), (4, .iload_n 2, 1, 2, 0, 0, 0), (5, .aload_n 0, 1, 3, 0, 0, 0), (6, .invokevirtual 358, 3, 23, 163, 0, 0), (9, .if_icmp .ge 72, 3, 12, 0, 0, 0), (12, .iconst 0, 1, 0, 0, 0, 0), (13, .istore_n 3, 1, 4, 0, 0, 0), (14, .iload_n 3, 1, 2, 0, 0, 0), (15, .iload_n 2, 1, 2, 0, 0, 0), (16, .if_icmp .ge 59, 3, 12, 0, 0, 0), (19, .iload_n 1, 1, 2, 0, 0, 0), (20, .aload_n 0, 1, 3, 0, 0, 0), (21, .iload_n 2, 1, 2, 0, 0, 0), (22, .invokevirtual 413, 3, 20, 0, 9, 0), (25, .aload_n 0, 1, 3, 0, 0, 0), (26, .iload_n 3, 1, 2, 0, 0, 0), (27, .invokevirtual 419, 3, 20, 0, 9, 0), (30, .iand, 1, 7, 0, 0, 0), (31, .aload_n 0, 1, 3, 0, 0, 0), (32, .getfield 88, 3, 14, 128, 0, 0), (35, .iconst 1, 1, 0, 0, 0, 0), (36, .iaload, 1, 22, 0, 0, 0), (37, .iand, 1, 7, 0, 0, 0), (38, .ifCond .eq 28, 3, 12, 0, 0, 0), (41, .aload_n 0, 1, 3, 0, 0, 0), (42, .iload_n 3, 1, 2, 0, 0, 0), (43, .invokevirtual 413, 3, 20, 0, 9, 0), (46, .aload_n 0, 1, 3, 0, 0, 0), (47, .iload_n 2, 1, 2, 0, 0, 0), (48, .invokevirtual 419, 3, 20, 0, 9, 0), (51, .iand, 1, 7, 0, 0, 0), (52, .aload_n 0, 1, 3, 0, 0, 0), (53, .getfield 88, 3, 14, 128, 0, 0), (56, .iconst 1, 1, 0, 0, 0, 0), (57, .iaload, 1, 22, 0, 0, 0), (58, .iand, 1, 7, 0, 0, 0), (59, .ifCond .eq 7, 3, 12, 0, 0, 0), (62, .iconst 1, 1, 0, 0, 0, 0), (63, .goto 4, 3, 0, 0, 0, 0), (66, .iconst 0, 1, 0, 0, 0, 0), (67, .iadd, 1, 7, 0, 0, 0), (68, .istore_n 1, 1, 4, 0, 0, 0), (69, .iinc 3 1, 3, 6, 0, 0, 0), (72, .goto (-58), 3, 0, 0, 0, 0), (75, .iinc 2 1, 3, 6, 0, 0, 0), (78, .goto (-74), 3, 0, 0, 0, 0), (81, .iload_n 1, 1, 2, 0, 0, 0), (82, .ireturn, 1, 21, 0, 0, 0)]
/- 154: PepperTablesModel.person(II)I -/
def ee_T154 : List ee_en := [(0, .aload_n 0, 1, 3, 0, 0, 0), (1, .iload_n 1, 1, 2, 0, 0, 0), (2, .invokevirtual 410, 3, 23, 180, 0, 0), (5, .ifCond .ne 6, 3, 12, 0, 0, 0), (8, .bipush (-2), 2, 0, 0, 0, 0), (10, .ireturn, 1, 21, 0, 0, 0), (11, .iload_n 2, 1, 2, 0, 0, 0), (12, .tableswitch 97 0 4 #[36, 51, 62, 73, 84], 36, 13, 0, 0, 0), (48, .aload_n 0, 1, 3, 0, 0, 0), (49, .getfield 42, 3, 14, 113, 0, 0), (52, .bipush 6, 2, 0, 0, 0, 0), (54, .aload_n 0, 1, 3, 0, 0, 0), (55, .getfield 253, 3, 14, 149, 0, 0), (58, .imul, 1, 7, 0, 0, 0), (59, .iload_n 1, 1, 2, 0, 0, 0), (60, .iadd, 1, 7, 0, 0, 0), (61, .iaload, 1, 22, 0, 0, 0), (62, .ireturn, 1, 21, 0, 0, 0), (63, .aload_n 0, 1, 3, 0, 0, 0), (64, .getfield 88, 3, 14, 128, 0, 0), (67, .iconst 0, 1, 0, 0, 0, 0), (68, .iaload, 1, 22, 0, 0, 0), (69, .iload_n 1, 1, 2, 0, 0, 0), (70, .ishr, 1, 7, 0, 0, 0), (71, .iconst 1, 1, 0, 0, 0, 0), (72, .iand, 1, 7, 0, 0, 0), (73, .ireturn, 1, 21, 0, 0, 0), (74, .aload_n 0, 1, 3, 0, 0, 0), (75, .iload_n 1, 1, 2, 0, 0, 0), (76, .invokevirtual 413, 3, 20, 0, 9, 0), (79, .aload_n 0, 1, 3, 0, 0, 0), (80, .invokevirtual 416, 3, 23, 165, 0, 0), (83, .iand, 1, 7, 0, 0, 0), (84, .ireturn, 1, 21, 0, 0, 0), (85, .aload_n 0, 1, 3, 0, 0, 0), (86, .iload_n 1, 1, 2, 0, 0, 0), (87, .invokevirtual 419, 3, 20, 0, 9, 0), (90, .aload_n 0, 1, 3, 0, 0, 0), (91, .invokevirtual 416, 3, 23, 165, 0, 0), (94, .iand, 1, 7, 0, 0, 0), (95, .ireturn, 1, 21, 0, 0, 0), (96, .aload_n 0, 1, 3, 0, 0, 0), (97, .iload_n 1, 1, 2, 0, 0, 0), (98, .invokevirtual 419, 3, 20, 0, 9, 0), (101, .aload_n 0, 1, 3, 0, 0, 0), (102, .getfield 88, 3, 14, 128, 0, 0), (105, .iconst 1, 1, 0, 0, 0, 0), (106, .iaload, 1, 22, 0, 0, 0), (107, .iand, 1, 7, 0, 0, 0), (108, .ireturn, 1, 21, 0, 0, 0), (109, .bipush (-2), 2, 0, 0, 0, 0), (111, .ireturn, 1, 21, 0, 0, 0)]
/- 155: PepperTablesModel.pour(II)I -/
def ee_T155 : List ee_en := [(0, .aload_n 0, 1, 3, 0, 0, 0), (1, .iload_n 1, 1, 2, 0, 0, 0), (2, .invokevirtual 422, 3, 23, 167, 0, 0), (5, .ifCond .eq 37, 3, 12, 0, 0, 0), (8, .iload_n 2, 1, 2, 0, 0, 0), (9, .iconst (-1), 1, 0, 0, 0, 0), (10, .aload_n 0, 1, 3, 0, 0, 0), (11, .invokevirtual 365, 3, 23, 164, 0, 0), (14, .iconst 1, 1, 0, 0, 0, 0), (15, .isub, 1, 7, 0, 0, 0), (16, .invokestatic 361, 3, 23, 172, 0, 0), (19, .ifCond .eq 23, 3, 12, 0, 0, 0), (22, .aload_n 0, 1, 3, 0, 0, 0), (23, .iload_n 1, 1, 2, 0, 0, 0), (24, .invokevirtual 386, 3, 20, 0, 9, 0), (27, .ifCond .eq 15, 3, 12, 0, 0, 0), (30, .aload_n 0, 1, 3, 0, 0, 0), (31, .getfield 88, 3, 14, 128, 0, 0), (34, .iconst 2, 1, 0, 0, 0, 0), (35, .iload_n 1, 1, 2, 0, 0, 0), (36, .iadd, 1, 7, 0, 0, 0), (37, .iaload, 1, 22, 0, 0, 0), (38, .iload_n 2, 1, 2, 0, 0, 0), (39, .if_icmp .ne 6, 3, 12, 0, 0, 0), (42, .bipush (-2), 2, 0, 0, 0, 0), (44, .ireturn, 1, 21, 0, 0, 0), (45, .aload_n 0, 1, 3, 0, 0, 0), (46, .invokevirtual 437, 3, 23, 176, 0, 0), (49, .aload_n 0, 1, 3, 0, 0, 0), (50, .getfield 88, 3, 14, 128, 0, 0), (53, .iconst 2, 1, 0, 0, 0, 0), (54, .iload_n 1, 1, 2, 0, 0, 0), (55, .iadd, 1, 7, 0, 0, 0), (56, .iaload, 1, 22, 0, 0, 0), (57, .istore_n 3, 1, 4, 0, 0, 0), (58, .aload_n 0, 1, 3, 0, 0, 0), (59, .getfield 88, 3, 14, 128, 0, 0), (62, .iconst 2, 1, 0, 0, 0, 0), (63, .iload_n 1, 1, 2, 0, 0, 0), (64, .iadd, 1, 7, 0, 0, 0), (65, .iload_n 2, 1, 2, 0, 0, 0), (66, .iastore, 1, 17, 0, 0, 0), (67, .iload_n 3, 1, 2, 0, 0, 0), (68, .ireturn, 1, 21, 0, 0, 0)]
/- 156: PepperTablesModel.power(II)I -/
def ee_T156 : List ee_en := [(0, .iconst 1, 1, 0, 0, 0, 0), (1, .istore_n 2, 1, 4, 0, 0, 0), (2, .iconst 0, 1, 0, 0, 0, 0), (3, .istore_n 3, 1, 4, 0, 0, 0), (4, .iload_n 3, 1, 2, 0, 0, 0), (5, .iload_n 1, 1, 2, 0, 0, 0), (6, .if_icmp .ge 13, 3, 12, 0, 0, 0), (9, .iload_n 2, 1, 2, 0, 0, 0), (10, .iload_n 0, 1, 2, 0, 0, 0), (11, .imul, 1, 7, 0, 0, 0), (12, .istore_n 2, 1, 4, 0, 0, 0), (13, .iinc 3 1, 3, 6, 0, 0, 0), (16, .goto (-12), 3, 0, 0, 0, 0), (19, .iload_n 2, 1, 2, 0, 0, 0), (20, .ireturn, 1, 21, 0, 0, 0)]
/- 157: PepperTablesModel.rank()I -/
def ee_T157 : List ee_en := [(0, .aload_n 0, 1, 3, 0, 0, 0), (1, .iconst 0, 1, 0, 0, 0, 0), (2, .putfield 383, 3, 15, 150, 0, 0), (5, .iconst 0, 1, 0, 0, 0, 0), (6, .istore_n 1, 1, 4, 0, 0, 0), (7, .iload_n 1, 1, 2, 0, 0, 0), (8, .aload_n 0, 1, 3, 0, 0, 0), (9, .invokevirtual 358, 3, 23, 163, 0, 0), (12, .if_icmp .ge 93, 3, 12, 0, 0, 0), (15, .aload_n 0, 1, 3, 0, 0, 0), (16, .getfield 383, 3, 14, 150, 0, 0), (19, .istore_n 2, 1, 4, 0, 0, 0), (20, .iload_n 2, 1, 2, 0, 0, 0), (21, .ifCond .le 61, 3, 12, 0, 0, 0), (24, .aload_n 0, 1, 3, 0, 0, 0), (25, .aload_n 0, 1, 3, 0, 0, 0), (26, .aload_n 0, 1, 3, 0, 0, 0), (27, .getfield 100, 3, 14, 132, 0, 0), (30, .iload_n 2, 1, 2, 0, 0, 0), (31, .iconst 1, 1, 0, 0, 0, 0), (32, .isub, 1, 7, 0, 0, 0), (33, .iaload, 1, 22, 0, 0, 0), (34, .invokevirtual 413, 3, 20, 0, 9, 0), (37, .aload_n 0, 1, 3, 0, 0, 0), (38, .invokevirtual 416, 3, 23, 165, 0, 0), (41, .iand, 1, 7, 0, 0, 0), (42, .invokevirtual 348, 3, 23, 166, 0, 0), (45, .aload_n 0, 1, 3, 0, 0, 0), (46, .aload_n 0, 1, 3, 0, 0, 0), (47, .iload_n 1, 1, 2, 0, 0, 0), (48, .invokevirtual 413, 3, 20, 0, 9, 0), (51, .aload_n 0, 1, 3, 0, 0, 0), (52, .invokevirtual 416, 3, 23, 165, 0, 0), (55, .iand, 1, 7, 0, 0, 0), (56, .invokevirtual 348, 3, 23, 166, 0, 0), (59, .if_icmp .ge 23, 3, 12, 0, 0, 0), (62, .aload_n 0, 1, 3, 0, 0, 0), (63, .getfield 100, 3, 14, 132, 0, 0), (66, .iload_n 2, 1, 2, 0, 0, 0), (67, .aload_n 0, 1, 3, 0, 0, 0), (68, .getfield 100, 3, 14, 132, 0, 0), (71, .iload_n 2, 1, 2, 0, 0, 0), (72, .iconst 1, 1, 0, 0, 0, 0), (73, .isub, 1, 7, 0, 0, 0), (74, .iaload, 1, 22, 0, 0, 0), (75, .iastore, 1, 17, 0, 0, 0), (76, .iinc 2 (-1), 3, 6, 0, 0, 0), (79, .goto (-59), 3, 0, 0, 0, 0), (82, .aload_n 0, 1, 3, 0, 0, 0), (83, .getfield 100, 3, 14, 132, 0, 0), (86, .iload_n 2, 1, 2, 0, 0, 0), (87, .iload_n 1, 1, 2, 0, 0, 0), (88, .iastore, 1, 17, 0, 0, 0), (89, .aload_n 0, 1, 3, 0, 0, 0), (90, .dup, 1, 11, 0, 0, 0), (91, .getfield 383, 3, 14, 150, 0, 0), (94, .iconst 1, 1, 0, 0, 0, 0), (95, .iadd, 1, 7, 0, 0, 0), (96, .putfield 383, 3, 15, 150, 0, 0), (99, .iinc 1 1, 3, 6, 0, 0, 0), (102, .goto (-95), 3, 0, 0, 0, 0), (105, .aload_n 0, 1, 3, 0, 0, 0), (106, .getfield 383, 3, 14, 150, 0, 0), (109, .ireturn, 1, 21, 0, 0, 0)]
def ee_M14 : List ee_me := [(9, ⟨"PepperTablesModel", "layTold", "()V"⟩, prog_11_method_54_code, 2, none, ee_T145, 0, 0), (9, ⟨"PepperTablesModel", "lies", "(I)I"⟩, prog_11_method_92_code, 2, (some .int), ee_T146, 0, 0), (9, ⟨"PepperTablesModel", "line", "()I"⟩, prog_11_method_118_code, 4, (some .int), ee_T147, 0, 0), (9, ⟨"PepperTablesModel", "many", "()I"⟩, prog_11_method_46_code, 1, (some .int), ee_T148, 0, 0), (9, ⟨"PepperTablesModel", "mute", "()I"⟩, prog_11_method_98_code, 3, (some .int), ee_T149, 0, 0), (9, ⟨"PepperTablesModel", "near", "()I"⟩, prog_11_method_79_code, 3, (some .int), ee_T150, 0, 0), (9, ⟨"PepperTablesModel", "next", "()I"⟩, prog_11_method_80_code, 1, (some .int), ee_T151, 0, 0), (9, ⟨"PepperTablesModel", "odds", "(II)I"⟩, prog_11_method_121_code, 5, (some .int), ee_T152, 0, 0), (9, ⟨"PepperTablesModel", "pairs", "()I"⟩, prog_11_method_81_code, 4, (some .int), ee_T153, 0, 0), (9, ⟨"PepperTablesModel", "person", "(II)I"⟩, prog_11_method_68_code, 3, (some .int), ee_T154, 0, 0), (9, ⟨"PepperTablesModel", "pour", "(II)I"⟩, prog_11_method_88_code, 4, (some .int), ee_T155, 0, 0), (9, ⟨"PepperTablesModel", "power", "(II)I"⟩, prog_11_method_43_code, 4, (some .int), ee_T156, 0, 0), (9, ⟨"PepperTablesModel", "rank", "()I"⟩, prog_11_method_119_code, 3, (some .int), ee_T157, 0, 0)]
set_option maxRecDepth 100000 in
theorem ee_M14ok : ee_M14.all ee_Mb = true := by decide +kernel
end
section
/- 158: PepperTablesModel.redo()Z -/
def ee_T158 : List ee_en := [(0, .aload_n 0, 1, 3, 0, 0, 0), (1, .getfield 377, 3, 14, 145, 0, 0), (4, .ifCond .ne 5, 3, 12, 0, 0, 0), (7, .iconst 0, 1, 0, 0, 0, 0), (8, .ireturn, 1, 21, 0, 0, 0), (9, .aload_n 0, 1, 3, 0, 0, 0), (10, .invokevirtual 443, 3, 20, 0, 9, 0), (13, .aload_n 0, 1, 3, 0, 0, 0), (14, .dup, 1, 11, 0, 0, 0), (15, .getfield 374, 3, 14, 144, 0, 0), (18, .iconst 1, 1, 0, 0, 0, 0), (19, .iadd, 1, 7, 0, 0, 0), (20, .putfield 374, 3, 15, 144, 0, 0), (23, .aload_n 0, 1, 3, 0, 0, 0), (24, .dup, 1, 11, 0, 0, 0), (25, .getfield 377, 3, 14, 145, 0, 0), (28, .iconst 1, 1, 0, 0, 0, 0), (29, .isub, 1, 7, 0, 0, 0), (30, .putfield 377, 3, 15, 145, 0, 0), (33, .iconst 1, 1, 0, 0, 0, 0), (34, .ireturn, 1, 21, 0, 0, 0)]
/- 159: PepperTablesModel.rise(I)I -/
def ee_T159 : List ee_en := [(0, .aload_n 0, 1, 3, 0, 0, 0), (1, .iload_n 1, 1, 2, 0, 0, 0), (2, .invokevirtual 410, 3, 23, 180, 0, 0), (5, .ifCond .eq 16, 3, 12, 0, 0, 0), (8, .aload_n 0, 1, 3, 0, 0, 0), (9, .getfield 88, 3, 14, 128, 0, 0), (12, .iconst 0, 1, 0, 0, 0, 0), (13, .iaload, 1, 22, 0, 0, 0), (14, .iload_n 1, 1, 2, 0, 0, 0), (15, .invokestatic 259, 3, 20, 0, 9, 0), (18, .ifCond .ne 5, 3, 12, 0, 0, 0), (21, .iconst (-1), 1, 0, 0, 0, 0), (22, .ireturn, 1, 21, 0, 0, 0), (23, .aload_n 0, 1, 3, 0, 0, 0), (24, .invokevirtual 437, 3, 23, 176, 0, 0), (27, .aload_n 0, 1, 3, 0, 0, 0), (28, .getfield 88, 3, 14, 128, 0, 0), (31, .iconst 0, 1, 0, 0, 0, 0), (32, .dup2, 1, 11, 0, 0, 0), (33, .iaload, 1, 22, 0, 0, 0), (34, .iconst 1, 1, 0, 0, 0, 0), (35, .iload_n 1, 1, 2, 0, 0, 0), (36, .ishl, 1, 7, 0, 0, 0), (37, .iconst (-1), 1, 0, 0, 0, 0), (38, .ixor, 1, 7, 0, 0, 0), (39, .iand, 1, 7, 0, 0, 0), (40, .iastore, 1, 17, 0, 0, 0), (41, .aload_n 0, 1, 3, 0, 0, 0), (42, .getfield 88, 3, 14, 128, 0, 0), (45, .iconst 0, 1, 0, 0, 0, 0), (46, .iaload, 1, 22, 0, 0, 0), (47, .invokestatic 339, 3, 23, 175, 0, 0), (50, .ireturn, 1, 21, 0, 0, 0)]
/- 160: PepperTablesModel.round(II)I -/
def ee_T160 : List ee_en := [(0, .aload_n 0, 1, 3, 0, 0, 0), (1, .iconst 0, 1, 0, 0, 0, 0), (2, .putfield 383, 3, 15, 150, 0, 0), (5, .iload_n 1, 1, 2, 0, 0, 0), (6, .iconst 0, 1, 0, 0, 0, 0), (7, .iconst 4, 1, 0, 0, 0, 0), (8, .invokestatic 361, 3, 23, 172, 0, 0), (11, .ifCond .eq 19, 3, 12, 0, 0, 0), (14, .iload_n 2, 1, 2, 0, 0, 0), (15, .iconst 0, 1, 0, 0, 0, 0), (16, .iconst 1, 1, 0, 0, 0, 0), (17, .invokestatic 361, 3, 23, 172, 0, 0), (20, .ifCond .eq 10, 3, 12, 0, 0, 0), (23, .aload_n 0, 1, 3, 0, 0, 0), (24, .invokevirtual 365, 3, 23, 164, 0, 0), (27, .ifCond .ne 5, 3, 12, 0, 0, 0), (30, .iconst (-1), 1, 0, 0, 0, 0), (31, .ireturn, 1, 21, 0, 0, 0), (32, .iconst 0, 1, 0, 0, 0, 0), (33, .istore_n 3, 1, 4, 0, 0, 0), (34, .iconst (-1), 1, 0, 0, 0, 0), (35, .istore 4, 2, 4, 0, 0, 0), (37, .iconst 0, 1, 0, 0, 0, 0), (38, .istore 5, 2, 4, 0, 0, 0), (40, .iload 5, 2, 2, 0, 0, 0), (42, .aload_n 0, 1, 3, 0, 0, 0), (43, .invokevirtual 365, 3, 23, 164, 0, 0), (46, .iload_n 1, 1, 2, 0, 0, 0), (47, .invokestatic 455, 3, 23, 171, 0, 0), (50, .if_icmp .ge 87, 3, 12, 0, 0, 0), (53, .aload_n 0, 1, 3, 0, 0, 0), (54, .invokevirtual 458, 3, 23, 168, 0, 0), (57, .iconst 0, 1, 0, 0, 0, 0), (58, .istore 6, 2, 4, 0, 0, 0), (60, .iconst 0, 1, 0, 0, 0, 0), (61, .istore 7, 2, 4, 0, 0, 0), (63, .iload 7, 2, 2, 0, 0, 0), (65, .iload_n 1, 1, 2, 0, 0, 0), (66, .if_icmp .ge 27, 3, 12, 0, 0, 0), (69, .iload 6, 2, 2, 0, 0, 0), (71, .aload_n 0, 1, 3, 0, 0, 0), (72, .aload_n 0, 1, 3, 0, 0, 0), (73, .iload 5, 2, 2, 0, 0, 0), (75, .iload_n 1, 1, 2, 0, 0, 0), (76, .iload 7, 2, 2, 0, 0, 0), (78, .invokevirtual 461, 3, 20, 0, 9, 0), (81, .invokevirtual 440, 3, 20, 0, 9, 0), (84, .ior, 1, 7, 0, 0, 0), (85, .istore 6, 2, 4, 0, 0, 0), (87, .iinc 7 1, 3, 6, 0, 0, 0), (90, .goto (-27), 3, 0, 0, 0, 0), (93, .aload_n 0, 1, 3, 0, 0, 0), (94, .invokevirtual 464, 3, 23, 169, 0, 0), (97, .bipush 100, 2, 0, 0, 0, 0), (99, .iload 6, 2, 2, 0, 0, 0), (101, .invokestatic 339, 3, 23, 175, 0, 0), (104, .imul, 1, 7, 0, 0, 0), (105, .aload_n 0, 1, 3, 0, 0, 0), (106, .iload 6, 2, 2, 0, 0, 0), (108, .invokevirtual 348, 3, 23, 166, 0, 0), (111, .iadd, 1, 7, 0, 0, 0), (112, .istore 7, 2, 4, 0, 0, 0), (114, .iload 7, 2, 2, 0, 0, 0), (116, .iload 4, 2, 2, 0, 0, 0), (118, .if_icmp .gt 6, 3, 12, 0, 0, 0), (121, .goto 10, 3, 0, 0, 0, 0), (124, .iload 5, 2, 2, 0, 0, 0), (126, .istore_n 3, 1, 4, 0, 0, 0), (127, .iload 7, 2, 2, 0, 0, 0), (129, .istore 4, 2, 4, 0, 0, 0), (131, .iinc 5 1, 3, 6, 0, 0, 0), (134, .goto (-94), 3, 0, 0, 0, 0), (137, .iconst 0, 1, 0, 0, 0, 0), (138, .istore 5, 2, 4, 0, 0, 0), (140, .iload 5, 2, 2, 0, 0, 0), (142, .iload_n 1, 1, 2, 0, 0, 0), (143, .if_icmp .ge 24, 3, 12, 0, 0, 0), (146, .aload_n 0, 1, 3, 0, 0, 0), (147, .getfield 100, 3, 14, 132, 0, 0), (150, .iload 5, 2, 2, 0, 0, 0), (152, .aload_n 0, 1, 3, 0, 0, 0), (153, .iload_n 3, 1, 2, 0, 0, 0), (154, .iload_n 1, 1, 2, 0, 0, 0), (155, .iload 5, 2, 2, 0, 0, 0), (157, .invokevirtual 461, 3, 20, 0, 9, 0), (160, .iastore, 1, 17, 0, 0, 0), (161, .iinc 5 1, 3, 6, 0, 0, 0), (164, .goto (-24), 3, 0, 0, 0, 0), (167, .aload_n 0, 1, 3, 0, 0, 0), (168, .iload_n 1, 1, 2, 0, 0, 0), (169, .putfield 383, 3, 15, 150, 0, 0), (172, .iload_n 2, 1, 2, 0, 0, 0), (173, .ifCond .ne 11, 3, 12, 0, 0, 0), (176, .iload 4, 2, 2, 0, 0, 0), (178, .bipush 100, 2, 0, 0, 0, 0), (180, .idiv, 1, 8, 0, 0, 0), (181, .goto 8, 3, 0, 0, 0, 0), (184, .iload 4, 2, 2, 0, 0, 0), (186, .bipush 100, 2, 0, 0, 0, 0), (188, .irem, 1, 8, 0, 0, 0), (189, .ireturn, 1, 21, 0, 0, 0)]
/- 161: PepperTablesModel.rows(I)I -/
def ee_T161 : List ee_en := [(0, .aload_n 0, 1, 3, 0, 0, 0), (1, .iload_n 1, 1, 2, 0, 0, 0), (2, .invokevirtual 504, 3, 23, 173, 0, 0), (5, .aload_n 0, 1, 3, 0, 0, 0), (6, .getfield 492, 3, 14, 151, 0, 0), (9, .ireturn, 1, 21, 0, 0, 0)]
/- 162: PepperTablesModel.rumour(II)I -/
def ee_T162 : List ee_en := [(0, .aload_n 0, 1, 3, 0, 0, 0), (1, .iload_n 1, 1, 2, 0, 0, 0), (2, .invokevirtual 410, 3, 23, 180, 0, 0), (5, .ifCond .eq 11, 3, 12, 0, 0, 0), (8, .aload_n 0, 1, 3, 0, 0, 0), (9, .iload_n 2, 1, 2, 0, 0, 0), (10, .invokevirtual 410, 3, 23, 180, 0, 0), (13, .ifCond .ne 5, 3, 12, 0, 0, 0), (16, .iconst (-1), 1, 0, 0, 0, 0), (17, .ireturn, 1, 21, 0, 0, 0), (18, .iconst 1, 1, 0, 0, 0, 0), (19, .iload_n 1, 1, 2, 0, 0, 0), (20, .ishl, 1, 7, 0, 0, 0), (21, .istore_n 3, 1, 4, 0, 0, 0), (22, .iconst 0, 1, 0, 0, 0, 0), (23, .istore 4, 2, 4, 0, 0, 0), (25, .iload 4, 2, 2, 0, 0, 0), (27, .bipush 6, 2, 0, 0, 0, 0), (29, .if_icmp .ge 79, 3, 12, 0, 0, 0), (32, .iload_n 3, 1, 2, 0, 0, 0), (33, .iload_n 2, 1, 2, 0, 0, 0), (34, .invokestatic 259, 3, 20, 0, 9, 0), (37, .ifCond .eq 6, 3, 12, 0, 0, 0), (40, .iload 4, 2, 2, 0, 0, 0), (42, .ireturn, 1, 21, 0, 0, 0), (43, .iload_n 3, 1, 2, 0, 0, 0), (44, .istore 5, 2, 4, 0, 0, 0), (46, .iconst 0, 1, 0, 0, 0, 0), (47, .istore 6, 2, 4, 0, 0, 0), (49, .iload 6, 2, 2, 0, 0, 0), (51, .aload_n 0, 1, 3, 0, 0, 0), (52, .invokevirtual 368, 3, 23, 162, 0, 0), (55, .if_icmp .ge 44, 3, 12, 0, 0, 0), (58, .aload_n 0, 1, 3, 0, 0, 0), (59, .iload 6, 2, 2, 0, 0, 0), (61, .invokevirtual 386, 3, 20, 0, 9, 0), (64, .ifCond .ne 29, 3, 12, 0, 0, 0), (67, .iload_n 3, 1, 2, 0, 0, 0), (68, .aload_n 0, 1, 3, 0, 0, 0), (69, .iload 6, 2, 2, 0, 0, 0), (71, .invokevirtual 389, 3, 20, 0, 9, 0), (74, .invokestatic 259, 3, 20, 0, 9, 0), (77, .ifCond .eq 16, 3, 12, 0, 0, 0), (80, .iload 5, 2, 2, 0, 0, 0), (82, .iconst 1, 1, 0, 0, 0, 0), (83, .aload_n 0, 1, 3, 0, 0, 0), (84, .iload 6, 2, 2, 0, 0, 0), (86, .invokevirtual 392, 3, 20, 0, 9, 0), (89, .ishl, 1, 7, 0, 0, 0), (90, .ior, 1, 7, 0, 0, 0), (91, .istore 5, 2, 4, 0, 0, 0), (93, .iinc 6 1, 3, 6, 0, 0, 0), (96, .goto (-47), 3, 0, 0, 0, 0), (99, .iload 5, 2, 2, 0, 0, 0), (101, .istore_n 3, 1, 4, 0, 0, 0), (102, .iinc 4 1, 3, 6, 0, 0, 0), (105, .goto (-80), 3, 0, 0, 0, 0), (108, .iconst (-1), 1, 0, 0, 0, 0), (109, .ireturn, 1, 21, 0, 0, 0)]
/- 163: PepperTablesModel.sack(II)I -/
def ee_T163 : List ee_en := [(0, .aload_n 0, 1, 3, 0, 0, 0), (1, .iload_n 1, 1, 2, 0, 0, 0), (2, .invokevirtual 425, 3, 23, 174, 0, 0), (5, .ifCond .ne 5, 3, 12, 0, 0, 0), (8, .iconst (-1), 1, 0, 0, 0, 0), (9, .ireturn, 1, 21, 0, 0, 0), (10, .iload_n 2, 1, 2, 0, 0, 0), (11, .tableswitch 51 0 2 #[25, 35, 41], 25, 13, 0, 0, 0), (36, .aload_n 0, 1, 3, 0, 0, 0), (37, .aload_n 0, 1, 3, 0, 0, 0), (38, .iload_n 1, 1, 2, 0, 0, 0), (39, .invokevirtual 345, 3, 20, 0, 9, 0), (42, .invokevirtual 348, 3, 23, 166, 0, 0), (45, .ireturn, 1, 21, 0, 0, 0), (46, .aload_n 0, 1, 3, 0, 0, 0), (47, .iload_n 1, 1, 2, 0, 0, 0), (48, .invokevirtual 345, 3, 20, 0, 9, 0), (51, .ireturn, 1, 21, 0, 0, 0), (52, .aload_n 0, 1, 3, 0, 0, 0), (53, .getfield 88, 3, 14, 128, 0, 0), (56, .bipush 12, 2, 0, 0, 0, 0), (58, .iload_n 1, 1, 2, 0, 0, 0), (59, .iadd, 1, 7, 0, 0, 0), (60, .iaload, 1, 22, 0, 0, 0), (61, .ireturn, 1, 21, 0, 0, 0), (62, .iconst (-1), 1, 0, 0, 0, 0), (63, .ireturn, 1, 21, 0, 0, 0)]
/- 164: PepperTablesModel.saidBy(I)I -/
def ee_T164 : List ee_en := [(0, .iconst 0, 1, 0, 0, 0, 0), (1, .istore_n 2, 1, 4, 0, 0, 0), (2, .iconst 0, 1, 0, 0, 0, 0), (3, .istore_n 3, 1, 4, 0, 0, 0), (4, .iload_n 3, 1, 2, 0, 0, 0), (5, .aload_n 0, 1, 3, 0, 0, 0), (6, .invokevirtual 365, 3, 23, 164, 0, 0), (9, .if_icmp .ge 25, 3, 12, 0, 0, 0), (12, .iload_n 1, 1, 2, 0, 0, 0), (13, .iload_n 3, 1, 2, 0, 0, 0), (14, .invokestatic 259, 3, 20, 0, 9, 0), (17, .ifCond .eq 11, 3, 12, 0, 0, 0), (20, .iload_n 2, 1, 2, 0, 0, 0), (21, .aload_n 0, 1, 3, 0, 0, 0), (22, .iload_n 3, 1, 2, 0, 0, 0), (23, .invokevirtual 407, 3, 20, 0, 9, 0), (26, .ior, 1, 7, 0, 0, 0), (27, .istore_n 2, 1, 4, 0, 0, 0), (28, .iinc 3 1, 3, 6, 0, 0, 0), (31, .goto (-27), 3, 0, 0, 0, 0), (34, .iload_n 2, 1, 2, 0, 0, 0), (35, .ireturn, 1, 21, 0, 0, 0)]
/- 165: PepperTablesModel.saidWith(I)I -/
def ee_T165 : List ee_en := [(0, .aload_n 0, 1, 3, 0, 0, 0), (1, .getfield 88, 3, 14, 128, 0, 0), (4, .iconst 0, 1, 0, 0, 0, 0), (5, .iaload, 1, 22, 0, 0, 0), (6, .istore_n 2, 1, 4, 0, 0, 0), (7, .aload_n 0, 1, 3, 0, 0, 0), (8, .getfield 88, 3, 14, 128, 0, 0), (11, .iconst 0, 1, 0, 0, 0, 0), (12, .iload_n 1, 1, 2, 0, 0, 0), (13, .iastore, 1, 17, 0, 0, 0), (14, .aload_n 0, 1, 3, 0, 0, 0), (15, .aload_n 0, 1, 3, 0, 0, 0), (16, .invokevirtual 428, 3, 23, 178, 0, 0), (19, .invokevirtual 431, 3, 23, 179, 0, 0), (22, .istore_n 3, 1, 4, 0, 0, 0), (23, .aload_n 0, 1, 3, 0, 0, 0), (24, .getfield 88, 3, 14, 128, 0, 0), (27, .iconst 0, 1, 0, 0, 0, 0), (28, .iload_n 2, 1, 2, 0, 0, 0), (29, .iastore, 1, 17, 0, 0, 0), (30, .iload_n 3, 1, 2, 0, 0, 0), (31, .ireturn, 1, 21, 0, 0, 0)]
/- 166: PepperTablesModel.scandal()I -/
def ee_T166 : List ee_en := [(0, .aload_n 0, 1, 3, 0, 0, 0), (1, .aload_n 0, 1, 3, 0, 0, 0), (2, .getfield 88, 3, 14, 128, 0, 0), (5, .iconst 1, 1, 0, 0, 0, 0), (6, .iaload, 1, 22, 0, 0, 0), (7, .invokevirtual 348, 3, 23, 166, 0, 0), (10, .ireturn, 1, 21, 0, 0, 0)]
/- 167: PepperTablesModel.send(II)I -/
def ee_T167 : List ee_en := [(0, .aload_n 0, 1, 3, 0, 0, 0), (1, .iload_n 1, 1, 2, 0, 0, 0), (2, .invokevirtual 425, 3, 23, 174, 0, 0), (5, .ifCond .eq 12, 3, 12, 0, 0, 0), (8, .iload_n 2, 1, 2, 0, 0, 0), (9, .iconst 0, 1, 0, 0, 0, 0), (10, .iconst 1, 1, 0, 0, 0, 0), (11, .invokestatic 361, 3, 23, 172, 0, 0), (14, .ifCond .ne 5, 3, 12, 0, 0, 0), (17, .iconst (-1), 1, 0, 0, 0, 0), (18, .ireturn, 1, 21, 0, 0, 0), (19, .aload_n 0, 1, 3, 0, 0, 0), (20, .getfield 88, 3, 14, 128, 0, 0), (23, .iconst 0, 1, 0, 0, 0, 0), (24, .iaload, 1, 22, 0, 0, 0), (25, .istore_n 3, 1, 4, 0, 0, 0), (26, .iconst 0, 1, 0, 0, 0, 0), (27, .istore 4, 2, 4, 0, 0, 0), (29, .iload 4, 2, 2, 0, 0, 0), (31, .aload_n 0, 1, 3, 0, 0, 0), (32, .getfield 88, 3, 14, 128, 0, 0), (35, .iconst 0, 1, 0, 0, 0, 0), (36, .iaload, 1, 22, 0, 0, 0), (37, .if_icmp .gt 57, 3, 12, 0, 0, 0), (40, .iload 4, 2, 2, 0, 0, 0), (42, .aload_n 0, 1, 3, 0, 0, 0), (43, .getfield 88, 3, 14, 128, 0, 0), (46, .iconst 0, 1, 0, 0, 0, 0), (47, .iaload, 1, 22, 0, 0, 0), (48, .iconst (-1), 1, 0, 0, 0, 0), (49, .ixor, 1, 7, 0, 0, 0), (50, .iand, 1, 7, 0, 0, 0), (51, .ifCond .ne 37, 3, 12, 0, 0, 0), (54, .iload 4, 2, 2, 0, 0, 0), (56, .invokestatic 339, 3, 23, 175, 0, 0), (59, .iload_n 3, 1, 2, 0, 0, 0), (60, .invokestatic 339, 3, 23, 175, 0, 0), (63, .if_icmp .ge 25, 3, 12, 0, 0, 0), (66, .aload_n 0, 1, 3, 0, 0, 0), (67, .aload_n 0, 1, 3, 0, 0, 0), (68, .getfield 88, 3, 14, 128, 0, 0), (71, .iconst 0, 1, 0, 0, 0, 0), (72, .iaload, 1, 22, 0, 0, 0), (73, .iload 4, 2, 2, 0, 0, 0), (75, .iconst (-1), 1, 0, 0, 0, 0), (76, .ixor, 1, 7, 0, 0, 0), (77, .iand, 1, 7, 0, 0, 0), (78, .iload_n 1, 1, 2, 0, 0, 0), (79, .invokevirtual 446, 3, 20, 0, 9, 0), (82, .ifCond .ne 6, 3, 12, 0, 0, 0), (85, .iload 4, 2, 2, 0, 0, 0), (87, .istore_n 3, 1, 4, 0, 0, 0), (88, .iinc 4 1, 3, 6, 0, 0, 0), (91, .goto (-62), 3, 0, 0, 0, 0), (94, .iload_n 2, 1, 2, 0, 0, 0), (95, .ifCond .ne 10, 3, 12, 0, 0, 0), (98, .iload_n 3, 1, 2, 0, 0, 0), (99, .invokestatic 339, 3, 23, 175, 0, 0), (102, .goto 4, 3, 0, 0, 0, 0), (105, .iload_n 3, 1, 2, 0, 0, 0), (106, .ireturn, 1, 21, 0, 0, 0)]
/- 168: PepperTablesModel.shyest(I)I -/
def ee_T168 : List ee_en := [(0, .aload_n 0, 1, 3, 0, 0, 0), (1, .iload_n 1, 1, 2, 0, 0, 0), (2, .invokevirtual 422, 3, 23, 167, 0, 0), (5, .ifCond .eq 22, 3, 12, 0, 0, 0), (8, .aload_n 0, 1, 3, 0, 0, 0), (9, .iload_n 1, 1, 2, 0, 0, 0), (10, .invokevirtual 386, 3, 20, 0, 9, 0), (13, .ifCond .eq 14, 3, 12, 0, 0, 0), (16, .aload_n 0, 1, 3, 0, 0, 0), (17, .getfield 88, 3, 14, 128, 0, 0), (20, .iconst 2, 1, 0, 0, 0, 0), (21, .iload_n 1, 1, 2, 0, 0, 0), (22, .iadd, 1, 7, 0, 0, 0), (23, .iaload, 1, 22, 0, 0, 0), (24, .ifCond .ge 5, 3, 12, 0, 0, 0), (27, .iconst (-1), 1, 0, 0, 0, 0), (28, .ireturn, 1, 21, 0, 0, 0), (29, .iconst (-1), 1, 0, 0, 0, 0), (30, .istore_n 2, 1, 4, 0, 0, 0), (31, .aload_n 0, 1, 3, 0, 0, 0), (32, .iload_n 1, 1, 2, 0, 0, 0), (33, .putfield 91, 3, 15, 129, 0, 0), (36, .iconst 0, 1, 0, 0, 0, 0), (37, .istore_n 3, 1, 4, 0, 0, 0), (38, .iload_n 3, 1, 2, 0, 0, 0), (39, .bipush 9, 2, 0, 0, 0, 0), (41, .if_icmp .gt 32, 3, 12, 0, 0, 0), (44, .aload_n 0, 1, 3, 0, 0, 0), (45, .iload_n 3, 1, 2, 0, 0, 0), (46, .putfield 398, 3, 15, 161, 0, 0), (49, .aload_n 0, 1, 3, 0, 0, 0), (50, .iload_n 1, 1, 2, 0, 0, 0), (51, .aload_n 0, 1, 3, 0, 0, 0), (52, .getfield 88, 3, 14, 128, 0, 0), (55, .iconst 2, 1, 0, 0, 0, 0), (56, .iload_n 1, 1, 2, 0, 0, 0), (57, .iadd, 1, 7, 0, 0, 0), (58, .iaload, 1, 22, 0, 0, 0), (59, .invokevirtual 404, 3, 20, 0, 9, 0), (62, .ifCond .eq 5, 3, 12, 0, 0, 0), (65, .iload_n 3, 1, 2, 0, 0, 0), (66, .istore_n 2, 1, 4, 0, 0, 0), (67, .iinc 3 1, 3, 6, 0, 0, 0), (70, .goto (-32), 3, 0, 0, 0, 0), (73, .aload_n 0, 1, 3, 0, 0, 0), (74, .iconst (-1), 1, 0, 0, 0, 0), (75, .putfield 91, 3, 15, 129, 0, 0), (78, .iload_n 2, 1, 2, 0, 0, 0), (79, .ireturn, 1, 21, 0, 0, 0)]
/- 169: PepperTablesModel.sign(I)I -/
def ee_T169 : List ee_en := [(0, .iload_n 1, 1, 2, 0, 0, 0), (1, .aload_n 0, 1, 3, 0, 0, 0), (2, .getfield 143, 3, 14, 157, 0, 0), (5, .if_icmp .ge 16, 3, 12, 0, 0, 0), (8, .aload_n 0, 1, 3, 0, 0, 0), (9, .getfield 13, 3, 14, 104, 0, 0), (12, .iload_n 1, 1, 2, 0, 0, 0), (13, .baload, 1, 22, 0, 0, 0), (14, .sipush 255, 3, 0, 0, 0, 0), (17, .iand, 1, 7, 0, 0, 0), (18, .goto 4, 3, 0, 0, 0, 0), (21, .iconst 0, 1, 0, 0, 0, 0), (22, .ireturn, 1, 21, 0, 0, 0)]
def ee_M15 : List ee_me := [(9, ⟨"PepperTablesModel", "redo", "()Z"⟩, prog_11_method_91_code, 1, (some .boolean), ee_T158, 0, 0), (9, ⟨"PepperTablesModel", "rise", "(I)I"⟩, prog_11_method_86_code, 2, (some .int), ee_T159, 0, 0), (9, ⟨"PepperTablesModel", "round", "(II)I"⟩, prog_11_method_107_code, 8, (some .int), ee_T160, 0, 0), (9, ⟨"PepperTablesModel", "rows", "(I)I"⟩, prog_11_method_131_code, 2, (some .int), ee_T161, 0, 0), (9, ⟨"PepperTablesModel", "rumour", "(II)I"⟩, prog_11_method_120_code, 7, (some .int), ee_T162, 0, 0), (9, ⟨"PepperTablesModel", "sack", "(II)I"⟩, prog_11_method_70_code, 3, (some .int), ee_T163, 0, 0), (9, ⟨"PepperTablesModel", "saidBy", "(I)I"⟩, prog_11_method_65_code, 4, (some .int), ee_T164, 0, 0), (9, ⟨"PepperTablesModel", "saidWith", "(I)I"⟩, prog_11_method_96_code, 4, (some .int), ee_T165, 0, 0), (9, ⟨"PepperTablesModel", "scandal", "()I"⟩, prog_11_method_78_code, 1, (some .int), ee_T166, 0, 0), (9, ⟨"PepperTablesModel", "send", "(II)I"⟩, prog_11_method_99_code, 5, (some .int), ee_T167, 0, 0), (9, ⟨"PepperTablesModel", "shyest", "(I)I"⟩, prog_11_method_114_code, 4, (some .int), ee_T168, 0, 0), (9, ⟨"PepperTablesModel", "sign", "(I)I"⟩, prog_11_method_2_code, 2, (some .int), ee_T169, 0, 0)]
set_option maxRecDepth 100000 in
theorem ee_M15ok : ee_M15.all ee_Mb = true := by decide +kernel
end
section
/- 170: PepperTablesModel.sit(I)I -/
def ee_T170 : List ee_en := [(0, .aload_n 0, 1, 3, 0, 0, 0), (1, .iload_n 1, 1, 2, 0, 0, 0), (2, .invokevirtual 410, 3, 23, 180, 0, 0), (5, .ifCond .eq 16, 3, 12, 0, 0, 0), (8, .aload_n 0, 1, 3, 0, 0, 0), (9, .getfield 88, 3, 14, 128, 0, 0), (12, .iconst 0, 1, 0, 0, 0, 0), (13, .iaload, 1, 22, 0, 0, 0), (14, .iload_n 1, 1, 2, 0, 0, 0), (15, .invokestatic 259, 3, 20, 0, 9, 0), (18, .ifCond .eq 5, 3, 12, 0, 0, 0), (21, .iconst (-1), 1, 0, 0, 0, 0), (22, .ireturn, 1, 21, 0, 0, 0), (23, .aload_n 0, 1, 3, 0, 0, 0), (24, .invokevirtual 437, 3, 23, 176, 0, 0), (27, .aload_n 0, 1, 3, 0, 0, 0), (28, .getfield 88, 3, 14, 128, 0, 0), (31, .iconst 0, 1, 0, 0, 0, 0), (32, .dup2, 1, 11, 0, 0, 0), (33, .iaload, 1, 22, 0, 0, 0), (34, .iconst 1, 1, 0, 0, 0, 0), (35, .iload_n 1, 1, 2, 0, 0, 0), (36, .ishl, 1, 7, 0, 0, 0), (37, .ior, 1, 7, 0, 0, 0), (38, .iastore, 1, 17, 0, 0, 0), (39, .aload_n 0, 1, 3, 0, 0, 0), (40, .getfield 88, 3, 14, 128, 0, 0), (43, .iconst 0, 1, 0, 0, 0, 0), (44, .iaload, 1, 22, 0, 0, 0), (45, .invokestatic 339, 3, 23, 175, 0, 0), (48, .ireturn, 1, 21, 0, 0, 0)]
/- 171: PepperTablesModel.sneezed()I -/
def ee_T171 : List ee_en := [(0, .iconst (-1), 1, 0, 0, 0, 0), (1, .istore_n 1, 1, 4, 0, 0, 0), (2, .iconst 0, 1, 0, 0, 0, 0), (3, .istore_n 2, 1, 4, 0, 0, 0), (4, .iload_n 2, 1, 2, 0, 0, 0), (5, .aload_n 0, 1, 3, 0, 0, 0), (6, .invokevirtual 368, 3, 23, 162, 0, 0), (9, .if_icmp .ge 53, 3, 12, 0, 0, 0), (12, .aload_n 0, 1, 3, 0, 0, 0), (13, .iload_n 2, 1, 2, 0, 0, 0), (14, .invokevirtual 386, 3, 20, 0, 9, 0), (17, .ifCond .eq 39, 3, 12, 0, 0, 0), (20, .aload_n 0, 1, 3, 0, 0, 0), (21, .getfield 88, 3, 14, 128, 0, 0), (24, .iconst 0, 1, 0, 0, 0, 0), (25, .iaload, 1, 22, 0, 0, 0), (26, .aload_n 0, 1, 3, 0, 0, 0), (27, .iload_n 2, 1, 2, 0, 0, 0), (28, .invokevirtual 389, 3, 20, 0, 9, 0), (31, .invokestatic 259, 3, 20, 0, 9, 0), (34, .ifCond .eq 22, 3, 12, 0, 0, 0), (37, .iload_n 1, 1, 2, 0, 0, 0), (38, .ifCond .lt 16, 3, 12, 0, 0, 0), (41, .aload_n 0, 1, 3, 0, 0, 0), (42, .iload_n 2, 1, 2, 0, 0, 0), (43, .invokevirtual 333, 3, 20, 0, 9, 0), (46, .aload_n 0, 1, 3, 0, 0, 0), (47, .iload_n 1, 1, 2, 0, 0, 0), (48, .invokevirtual 333, 3, 20, 0, 9, 0), (51, .if_icmp .le 5, 3, 12, 0, 0, 0), (54, .iload_n 2, 1, 2, 0, 0, 0), (55, .istore_n 1, 1, 4, 0, 0, 0), (56, .iinc 2 1, 3, 6, 0, 0, 0), (59, .goto (-55), 3, 0, 0, 0, 0), (62, .iload_n 1, 1, 2, 0, 0, 0), (63, .ireturn, 1, 21, 0, 0, 0)]
/- 172: PepperTablesModel.spark(I)I -/
def ee_T172 : List ee_en := [(0, .iconst (-1), 1, 0, 0, 0, 0), (1, .istore_n 2, 1, 4, 0, 0, 0), (2, .iconst 0, 1, 0, 0, 0, 0), (3, .istore_n 3, 1, 4, 0, 0, 0), (4, .iload_n 3, 1, 2, 0, 0, 0), (5, .iconst 1, 1, 0, 0, 0, 0), (6, .aload_n 0, 1, 3, 0, 0, 0), (7, .invokevirtual 358, 3, 23, 163, 0, 0), (10, .ishl, 1, 7, 0, 0, 0), (11, .if_icmp .ge 67, 3, 12, 0, 0, 0), (14, .aload_n 0, 1, 3, 0, 0, 0), (15, .iload_n 1, 1, 2, 0, 0, 0), (16, .invokevirtual 425, 3, 23, 174, 0, 0), (19, .ifCond .eq 59, 3, 12, 0, 0, 0), (22, .iload_n 3, 1, 2, 0, 0, 0), (23, .aload_n 0, 1, 3, 0, 0, 0), (24, .getfield 88, 3, 14, 128, 0, 0), (27, .iconst 0, 1, 0, 0, 0, 0), (28, .iaload, 1, 22, 0, 0, 0), (29, .iconst (-1), 1, 0, 0, 0, 0), (30, .ixor, 1, 7, 0, 0, 0), (31, .iand, 1, 7, 0, 0, 0), (32, .invokestatic 339, 3, 23, 175, 0, 0), (35, .istore 4, 2, 4, 0, 0, 0), (37, .aload_n 0, 1, 3, 0, 0, 0), (38, .getfield 88, 3, 14, 128, 0, 0), (41, .iconst 0, 1, 0, 0, 0, 0), (42, .iaload, 1, 22, 0, 0, 0), (43, .iload_n 3, 1, 2, 0, 0, 0), (44, .iconst (-1), 1, 0, 0, 0, 0), (45, .ixor, 1, 7, 0, 0, 0), (46, .iand, 1, 7, 0, 0, 0), (47, .ifCond .ne 25, 3, 12, 0, 0, 0), (50, .iload_n 2, 1, 2, 0, 0, 0), (51, .ifCond .lt 9, 3, 12, 0, 0, 0), (54, .iload 4, 2, 2, 0, 0, 0), (56, .iload_n 2, 1, 2, 0, 0, 0), (57, .if_icmp .ge 15, 3, 12, 0, 0, 0), (60, .aload_n 0, 1, 3, 0, 0, 0), (61, .iload_n 3, 1, 2, 0, 0, 0), (62, .iload_n 1, 1, 2, 0, 0, 0), (63, .invokevirtual 446, 3, 20, 0, 9, 0), (66, .ifCond .eq 6, 3, 12, 0, 0, 0), (69, .iload 4, 2, 2, 0, 0, 0), (71, .istore_n 2, 1, 4, 0, 0, 0), (72, .iinc 3 1, 3, 6, 0, 0, 0), (75, .goto (-71), 3, 0, 0, 0, 0), (78, .iload_n 2, 1, 2, 0, 0, 0), (79, .ireturn, 1, 21, 0, 0, 0)]
/- 173: PepperTablesModel.spine(I)I -/
def ee_T173 : List ee_en := [(0, .iconst (-1), 1, 0, 0, 0, 0), (1, .istore_n 2, 1, 4, 0, 0, 0), (2, .iconst 0, 1, 0, 0, 0, 0), (3, .istore_n 3, 1, 4, 0, 0, 0), (4, .iload_n 3, 1, 2, 0, 0, 0), (5, .iconst 1, 1, 0, 0, 0, 0), (6, .aload_n 0, 1, 3, 0, 0, 0), (7, .invokevirtual 358, 3, 23, 163, 0, 0), (10, .ishl, 1, 7, 0, 0, 0), (11, .if_icmp .ge 30, 3, 12, 0, 0, 0), (14, .aload_n 0, 1, 3, 0, 0, 0), (15, .iload_n 1, 1, 2, 0, 0, 0), (16, .invokevirtual 425, 3, 23, 174, 0, 0), (19, .ifCond .eq 22, 3, 12, 0, 0, 0), (22, .aload_n 0, 1, 3, 0, 0, 0), (23, .iload_n 3, 1, 2, 0, 0, 0), (24, .iload_n 1, 1, 2, 0, 0, 0), (25, .invokevirtual 446, 3, 20, 0, 9, 0), (28, .ifCond .eq 7, 3, 12, 0, 0, 0), (31, .iload_n 2, 1, 2, 0, 0, 0), (32, .iload_n 3, 1, 2, 0, 0, 0), (33, .iand, 1, 7, 0, 0, 0), (34, .istore_n 2, 1, 4, 0, 0, 0), (35, .iinc 3 1, 3, 6, 0, 0, 0), (38, .goto (-34), 3, 0, 0, 0, 0), (41, .iload_n 2, 1, 2, 0, 0, 0), (42, .ireturn, 1, 21, 0, 0, 0)]
/- 174: PepperTablesModel.startAnew()V -/
def ee_T174 : List ee_en := [(0, .aload_n 0, 1, 3, 0, 0, 0), (1, .invokevirtual 371, 3, 23, 183, 0, 0), (4, .aload_n 0, 1, 3, 0, 0, 0), (5, .iconst 0, 1, 0, 0, 0, 0), (6, .putfield 374, 3, 15, 144, 0, 0), (9, .aload_n 0, 1, 3, 0, 0, 0), (10, .iconst 0, 1, 0, 0, 0, 0), (11, .putfield 377, 3, 15, 145, 0, 0), (14, .aload_n 0, 1, 3, 0, 0, 0), (15, .iconst 0, 1, 0, 0, 0, 0), (16, .putfield 380, 3, 15, 146, 0, 0), (19, .aload_n 0, 1, 3, 0, 0, 0), (20, .iconst 0, 1, 0, 0, 0, 0), (21, .putfield 383, 3, 15, 150, 0, 0), (24, .iconst 0, 1, 0, 0, 0, 0), (25, .istore_n 1, 1, 4, 0, 0, 0), (26, .iload_n 1, 1, 2, 0, 0, 0), (27, .iconst 3, 1, 0, 0, 0, 0), (28, .if_icmp .ge 16, 3, 12, 0, 0, 0), (31, .aload_n 0, 1, 3, 0, 0, 0), (32, .getfield 133, 3, 14, 143, 0, 0), (35, .iload_n 1, 1, 2, 0, 0, 0), (36, .iconst 0, 1, 0, 0, 0, 0), (37, .bastore, 1, 17, 0, 0, 0), (38, .iinc 1 1, 3, 6, 0, 0, 0), (41, .goto (-15), 3, 0, 0, 0, 0), (44, .return_, 1, 21, 0, 0, 0)]
/- 175: PepperTablesModel.store()I -/
def ee_T175 : List ee_en := [(0, .aload_n 0, 1, 3, 0, 0, 0), (1, .iconst 0, 1, 0, 0, 0, 0), (2, .putfield 146, 3, 15, 154, 0, 0), (5, .aload_n 0, 1, 3, 0, 0, 0), (6, .iconst (-1), 1, 0, 0, 0, 0), (7, .putfield 16, 3, 15, 105, 0, 0), (10, .aload_n 0, 1, 3, 0, 0, 0), (11, .aload_n 0, 1, 3, 0, 0, 0), (12, .getfield 250, 3, 14, 148, 0, 0), (15, .putfield 143, 3, 15, 157, 0, 0), (18, .iconst 0, 1, 0, 0, 0, 0), (19, .istore_n 1, 1, 4, 0, 0, 0), (20, .iload_n 1, 1, 2, 0, 0, 0), (21, .aload_n 0, 1, 3, 0, 0, 0), (22, .getfield 143, 3, 14, 157, 0, 0), (25, .if_icmp .ge 21, 3, 12, 0, 0, 0), (28, .aload_n 0, 1, 3, 0, 0, 0), (29, .getfield 13, 3, 14, 104, 0, 0), (32, .iload_n 1, 1, 2, 0, 0, 0), (33, .aload_n 0, 1, 3, 0, 0, 0), (34, .getfield 7, 3, 14, 103, 0, 0), (37, .iload_n 1, 1, 2, 0, 0, 0), (38, .baload, 1, 22, 0, 0, 0), (39, .bastore, 1, 17, 0, 0, 0), (40, .iinc 1 1, 3, 6, 0, 0, 0), (43, .goto (-23), 3, 0, 0, 0, 0), (46, .aload_n 0, 1, 3, 0, 0, 0), (47, .iconst 0, 1, 0, 0, 0, 0), (48, .putfield 250, 3, 15, 148, 0, 0), (51, .aload_n 0, 1, 3, 0, 0, 0), (52, .iconst 0, 1, 0, 0, 0, 0), (53, .putfield 185, 3, 15, 155, 0, 0), (56, .aload_n 0, 1, 3, 0, 0, 0), (57, .iconst 1, 1, 0, 0, 0, 0), (58, .aload_n 0, 1, 3, 0, 0, 0), (59, .getfield 253, 3, 14, 149, 0, 0), (62, .isub, 1, 7, 0, 0, 0), (63, .putfield 244, 3, 15, 152, 0, 0), (66, .aload_n 0, 1, 3, 0, 0, 0), (67, .invokevirtual 137, 3, 23, 160, 0, 0), (70, .aload_n 0, 1, 3, 0, 0, 0), (71, .invokevirtual 227, 3, 23, 187, 0, 0), (74, .aload_n 0, 1, 3, 0, 0, 0), (75, .invokevirtual 223, 3, 23, 188, 0, 0), (78, .ifCond .eq 17, 3, 12, 0, 0, 0), (81, .aload_n 0, 1, 3, 0, 0, 0), (82, .getfield 195, 3, 14, 158, 0, 0), (85, .ifCond .eq 10, 3, 12, 0, 0, 0), (88, .aload_n 0, 1, 3, 0, 0, 0), (89, .invokevirtual 256, 3, 20, 0, 9, 0), (92, .goto (-18), 3, 0, 0, 0, 0), (95, .aload_n 0, 1, 3, 0, 0, 0), (96, .invokevirtual 223, 3, 23, 188, 0, 0), (99, .ifCond .ne 5, 3, 12, 0, 0, 0), (102, .iconst (-1), 1, 0, 0, 0, 0), (103, .ireturn, 1, 21, 0, 0, 0), (104, .aload_n 0, 1, 3, 0, 0, 0), (105, .aload_n 0, 1, 3, 0, 0, 0), (106, .getfield 244, 3, 14, 152, 0, 0), (109, .putfield 253, 3, 15, 149, 0, 0), (112, .aload_n 0, 1, 3, 0, 0, 0), (113, .invokevirtual 140, 3, 23, 161, 0, 0), (116, .aload_n 0, 1, 3, 0, 0, 0), (117, .getfield 27, 3, 14, 108, 0, 0), (120, .aload_n 0, 1, 3, 0, 0, 0), (121, .getfield 253, 3, 14, 149, 0, 0), (124, .iaload, 1, 22, 0, 0, 0), (125, .ireturn, 1, 21, 0, 0, 0)]
/- 176: PepperTablesModel.storm()I -/
def ee_T176 : List ee_en := [(0, .aload_n 0, 1, 3, 0, 0, 0), (1, .aload_n 0, 1, 3, 0, 0, 0), (2, .aload_n 0, 1, 3, 0, 0, 0), (3, .invokevirtual 428, 3, 23, 178, 0, 0), (6, .invokevirtual 431, 3, 23, 179, 0, 0), (9, .invokevirtual 348, 3, 23, 166, 0, 0), (12, .ireturn, 1, 21, 0, 0, 0)]
/- 177: PepperTablesModel.sure(II)I -/
def ee_T177 : List ee_en := [(0, .iload_n 1, 1, 2, 0, 0, 0), (1, .iconst 0, 1, 0, 0, 0, 0), (2, .aload_n 0, 1, 3, 0, 0, 0), (3, .invokevirtual 486, 3, 23, 170, 0, 0), (6, .iconst 1, 1, 0, 0, 0, 0), (7, .isub, 1, 7, 0, 0, 0), (8, .invokestatic 361, 3, 23, 172, 0, 0), (11, .ifCond .ne 6, 3, 12, 0, 0, 0), (14, .bipush (-3), 2, 0, 0, 0, 0), (16, .ireturn, 1, 21, 0, 0, 0), (17, .aload_n 0, 1, 3, 0, 0, 0), (18, .iload_n 2, 1, 2, 0, 0, 0), (19, .invokevirtual 504, 3, 23, 173, 0, 0), (22, .aload_n 0, 1, 3, 0, 0, 0), (23, .getfield 492, 3, 14, 151, 0, 0), (26, .ifCond .ne 6, 3, 12, 0, 0, 0), (29, .bipush (-3), 2, 0, 0, 0, 0), (31, .ireturn, 1, 21, 0, 0, 0), (32, .iconst 0, 1, 0, 0, 0, 0), (33, .istore_n 3, 1, 4, 0, 0, 0), (34, .iload_n 3, 1, 2, 0, 0, 0), (35, .aload_n 0, 1, 3, 0, 0, 0), (36, .invokevirtual 365, 3, 23, 164, 0, 0), (39, .if_icmp .gt 41, 3, 12, 0, 0, 0), (42, .aload_n 0, 1, 3, 0, 0, 0), (43, .getfield 124, 3, 14, 140, 0, 0), (46, .bipush 6, 2, 0, 0, 0, 0), (48, .iload_n 1, 1, 2, 0, 0, 0), (49, .imul, 1, 7, 0, 0, 0), (50, .iload_n 3, 1, 2, 0, 0, 0), (51, .iadd, 1, 7, 0, 0, 0), (52, .iaload, 1, 22, 0, 0, 0), (53, .aload_n 0, 1, 3, 0, 0, 0), (54, .getfield 492, 3, 14, 151, 0, 0), (57, .if_icmp .ne 17, 3, 12, 0, 0, 0), (60, .iload_n 3, 1, 2, 0, 0, 0), (61, .aload_n 0, 1, 3, 0, 0, 0), (62, .invokevirtual 365, 3, 23, 164, 0, 0), (65, .if_icmp .ne 7, 3, 12, 0, 0, 0), (68, .iconst (-1), 1, 0, 0, 0, 0), (69, .goto 4, 3, 0, 0, 0, 0), (72, .iload_n 3, 1, 2, 0, 0, 0), (73, .ireturn, 1, 21, 0, 0, 0), (74, .iinc 3 1, 3, 6, 0, 0, 0), (77, .goto (-43), 3, 0, 0, 0, 0), (80, .bipush (-2), 2, 0, 0, 0, 0), (82, .ireturn, 1, 21, 0, 0, 0)]
/- 178: PepperTablesModel.table(III)I -/
def ee_T178 : List ee_en := [(0, .iload_n 1, 1, 2, 0, 0, 0), (1, .iconst 0, 1, 0, 0, 0, 0), (2, .iconst 1, 1, 0, 0, 0, 0), (3, .aload_n 0, 1, 3, 0, 0, 0), (4, .invokevirtual 368, 3, 23, 162, 0, 0), (7, .ishl, 1, 7, 0, 0, 0), (8, .iconst 1, 1, 0, 0, 0, 0), (9, .isub, 1, 7, 0, 0, 0), (10, .invokestatic 361, 3, 23, 172, 0, 0), (13, .ifCond .eq 20, 3, 12, 0, 0, 0), (16, .aload_n 0, 1, 3, 0, 0, 0), (17, .iload_n 2, 1, 2, 0, 0, 0), (18, .invokevirtual 425, 3, 23, 174, 0, 0), (21, .ifCond .eq 12, 3, 12, 0, 0, 0), (24, .iload_n 3, 1, 2, 0, 0, 0), (25, .iconst 0, 1, 0, 0, 0, 0), (26, .iconst 1, 1, 0, 0, 0, 0), (27, .invokestatic 361, 3, 23, 172, 0, 0), (30, .ifCond .ne 5, 3, 12, 0, 0, 0), (33, .iconst (-1), 1, 0, 0, 0, 0), (34, .ireturn, 1, 21, 0, 0, 0), (35, .iconst (-1), 1, 0, 0, 0, 0), (36, .istore 4, 2, 4, 0, 0, 0), (38, .iconst 0, 1, 0, 0, 0, 0), (39, .istore 5, 2, 4, 0, 0, 0), (41, .iload 5, 2, 2, 0, 0, 0), (43, .iconst 1, 1, 0, 0, 0, 0), (44, .aload_n 0, 1, 3, 0, 0, 0), (45, .invokevirtual 358, 3, 23, 163, 0, 0), (48, .ishl, 1, 7, 0, 0, 0), (49, .if_icmp .ge 42, 3, 12, 0, 0, 0), (52, .iload 4, 2, 2, 0, 0, 0), (54, .ifCond .lt 16, 3, 12, 0, 0, 0), (57, .iload 5, 2, 2, 0, 0, 0), (59, .invokestatic 339, 3, 23, 175, 0, 0), (62, .iload 4, 2, 2, 0, 0, 0), (64, .invokestatic 339, 3, 23, 175, 0, 0), (67, .if_icmp .ge 18, 3, 12, 0, 0, 0), (70, .aload_n 0, 1, 3, 0, 0, 0), (71, .iload 5, 2, 2, 0, 0, 0), (73, .iload_n 2, 1, 2, 0, 0, 0), (74, .invokevirtual 446, 3, 20, 0, 9, 0), (77, .iload_n 1, 1, 2, 0, 0, 0), (78, .if_icmp .ne 7, 3, 12, 0, 0, 0), (81, .iload 5, 2, 2, 0, 0, 0), (83, .istore 4, 2, 4, 0, 0, 0), (85, .iinc 5 1, 3, 6, 0, 0, 0), (88, .goto (-47), 3, 0, 0, 0, 0), (91, .iload 4, 2, 2, 0, 0, 0), (93, .ifCond .ge 7, 3, 12, 0, 0, 0), (96, .iconst (-1), 1, 0, 0, 0, 0), (97, .goto 17, 3, 0, 0, 0, 0), (100, .iload_n 3, 1, 2, 0, 0, 0), (101, .ifCond .ne 11, 3, 12, 0, 0, 0), (104, .iload 4, 2, 2, 0, 0, 0), (106, .invokestatic 339, 3, 23, 175, 0, 0), (109, .goto 5, 3, 0, 0, 0, 0), (112, .iload 4, 2, 2, 0, 0, 0), (114, .ireturn, 1, 21, 0, 0, 0)]
/- 179: PepperTablesModel.thing(II)I -/
def ee_T179 : List ee_en := [(0, .aload_n 0, 1, 3, 0, 0, 0), (1, .iload_n 1, 1, 2, 0, 0, 0), (2, .invokevirtual 422, 3, 23, 167, 0, 0), (5, .ifCond .ne 6, 3, 12, 0, 0, 0), (8, .bipush (-2), 2, 0, 0, 0, 0), (10, .ireturn, 1, 21, 0, 0, 0), (11, .iload_n 2, 1, 2, 0, 0, 0), (12, .tableswitch 74 0 4 #[36, 42, 48, 54, 63], 36, 13, 0, 0, 0), (48, .aload_n 0, 1, 3, 0, 0, 0), (49, .iload_n 1, 1, 2, 0, 0, 0), (50, .invokevirtual 389, 3, 20, 0, 9, 0), (53, .ireturn, 1, 21, 0, 0, 0), (54, .aload_n 0, 1, 3, 0, 0, 0), (55, .iload_n 1, 1, 2, 0, 0, 0), (56, .invokevirtual 392, 3, 20, 0, 9, 0), (59, .ireturn, 1, 21, 0, 0, 0), (60, .aload_n 0, 1, 3, 0, 0, 0), (61, .iload_n 1, 1, 2, 0, 0, 0), (62, .invokevirtual 333, 3, 20, 0, 9, 0), (65, .ireturn, 1, 21, 0, 0, 0), (66, .aload_n 0, 1, 3, 0, 0, 0), (67, .getfield 88, 3, 14, 128, 0, 0), (70, .iconst 2, 1, 0, 0, 0, 0), (71, .iload_n 1, 1, 2, 0, 0, 0), (72, .iadd, 1, 7, 0, 0, 0), (73, .iaload, 1, 22, 0, 0, 0), (74, .ireturn, 1, 21, 0, 0, 0), (75, .aload_n 0, 1, 3, 0, 0, 0), (76, .getfield 88, 3, 14, 128, 0, 0), (79, .iconst 1, 1, 0, 0, 0, 0), (80, .iaload, 1, 22, 0, 0, 0), (81, .iload_n 1, 1, 2, 0, 0, 0), (82, .ishr, 1, 7, 0, 0, 0), (83, .iconst 1, 1, 0, 0, 0, 0), (84, .iand, 1, 7, 0, 0, 0), (85, .ireturn, 1, 21, 0, 0, 0), (86, .bipush (-2), 2, 0, 0, 0, 0), (88, .ireturn, 1, 21, 0, 0, 0)]
/- 180: PepperTablesModel.undo()Z -/
def ee_T180 : List ee_en := [(0, .aload_n 0, 1, 3, 0, 0, 0), (1, .getfield 374, 3, 14, 144, 0, 0), (4, .ifCond .ne 5, 3, 12, 0, 0, 0), (7, .iconst 0, 1, 0, 0, 0, 0), (8, .ireturn, 1, 21, 0, 0, 0), (9, .aload_n 0, 1, 3, 0, 0, 0), (10, .dup, 1, 11, 0, 0, 0), (11, .getfield 374, 3, 14, 144, 0, 0), (14, .iconst 1, 1, 0, 0, 0, 0), (15, .isub, 1, 7, 0, 0, 0), (16, .putfield 374, 3, 15, 144, 0, 0), (19, .aload_n 0, 1, 3, 0, 0, 0), (20, .dup, 1, 11, 0, 0, 0), (21, .getfield 377, 3, 14, 145, 0, 0), (24, .iconst 1, 1, 0, 0, 0, 0), (25, .iadd, 1, 7, 0, 0, 0), (26, .putfield 377, 3, 15, 145, 0, 0), (29, .aload_n 0, 1, 3, 0, 0, 0), (30, .invokevirtual 443, 3, 20, 0, 9, 0), (33, .iconst 1, 1, 0, 0, 0, 0), (34, .ireturn, 1, 21, 0, 0, 0)]
/- 181: PepperTablesModel.untell(I)Z -/
def ee_T181 : List ee_en := [(0, .iload_n 1, 1, 2, 0, 0, 0), (1, .iconst 0, 1, 0, 0, 0, 0), (2, .aload_n 0, 1, 3, 0, 0, 0), (3, .getfield 380, 3, 14, 146, 0, 0), (6, .iconst 1, 1, 0, 0, 0, 0), (7, .isub, 1, 7, 0, 0, 0), (8, .invokestatic 361, 3, 23, 172, 0, 0), (11, .ifCond .eq 12, 3, 12, 0, 0, 0), (14, .aload_n 0, 1, 3, 0, 0, 0), (15, .getfield 121, 3, 14, 139, 0, 0), (18, .iload_n 1, 1, 2, 0, 0, 0), (19, .iaload, 1, 22, 0, 0, 0), (20, .ifCond .lt 5, 3, 12, 0, 0, 0), (23, .iconst 0, 1, 0, 0, 0, 0), (24, .ireturn, 1, 21, 0, 0, 0), (25, .aload_n 0, 1, 3, 0, 0, 0), (26, .getfield 121, 3, 14, 139, 0, 0), (29, .iload_n 1, 1, 2, 0, 0, 0), (30, .aload_n 0, 1, 3, 0, 0, 0), (31, .getfield 482, 3, 14, 147, 0, 0), (34, .iastore, 1, 17, 0, 0, 0), (35, .iconst 1, 1, 0, 0, 0, 0), (36, .ireturn, 1, 21, 0, 0, 0)]
/- 182: PepperTablesModel.would(I)I -/
def ee_T182 : List ee_en := [(0, .aload_n 0, 1, 3, 0, 0, 0), (1, .iload_n 1, 1, 2, 0, 0, 0), (2, .invokevirtual 425, 3, 23, 174, 0, 0), (5, .ifCond .eq 11, 3, 12, 0, 0, 0), (8, .aload_n 0, 1, 3, 0, 0, 0), (9, .iload_n 1, 1, 2, 0, 0, 0), (10, .invokevirtual 407, 3, 20, 0, 9, 0), (13, .goto 4, 3, 0, 0, 0, 0), (16, .iconst (-1), 1, 0, 0, 0, 0), (17, .ireturn, 1, 21, 0, 0, 0)]
def ee_M16 : List ee_me := [(9, ⟨"PepperTablesModel", "sit", "(I)I"⟩, prog_11_method_85_code, 2, (some .int), ee_T170, 0, 0), (9, ⟨"PepperTablesModel", "sneezed", "()I"⟩, prog_11_method_67_code, 3, (some .int), ee_T171, 0, 0), (9, ⟨"PepperTablesModel", "spark", "(I)I"⟩, prog_11_method_100_code, 5, (some .int), ee_T172, 0, 0), (9, ⟨"PepperTablesModel", "spine", "(I)I"⟩, prog_11_method_101_code, 4, (some .int), ee_T173, 0, 0), (9, ⟨"PepperTablesModel", "startAnew", "()V"⟩, prog_11_method_53_code, 2, none, ee_T174, 0, 0), (9, ⟨"PepperTablesModel", "store", "()I"⟩, prog_11_method_17_code, 2, (some .int), ee_T175, 0, 0), (9, ⟨"PepperTablesModel", "storm", "()I"⟩, prog_11_method_77_code, 1, (some .int), ee_T176, 0, 0), (9, ⟨"PepperTablesModel", "sure", "(II)I"⟩, prog_11_method_132_code, 4, (some .int), ee_T177, 0, 0), (9, ⟨"PepperTablesModel", "table", "(III)I"⟩, prog_11_method_97_code, 6, (some .int), ee_T178, 0, 0), (9, ⟨"PepperTablesModel", "thing", "(II)I"⟩, prog_11_method_69_code, 3, (some .int), ee_T179, 0, 0), (9, ⟨"PepperTablesModel", "undo", "()Z"⟩, prog_11_method_90_code, 1, (some .boolean), ee_T180, 0, 0), (9, ⟨"PepperTablesModel", "untell", "(I)Z"⟩, prog_11_method_123_code, 2, (some .boolean), ee_T181, 0, 0), (9, ⟨"PepperTablesModel", "would", "(I)I"⟩, prog_11_method_71_code, 2, (some .int), ee_T182, 0, 0)]
set_option maxRecDepth 100000 in
theorem ee_M16ok : ee_M16.all ee_Mb = true := by decide +kernel
end
section
/- 183: java/lang/Integer.bitCount(I)I -/
def ee_T183 : List ee_en := [(0, .iload_n 0, 1, 2, 0, 0, 0), (1, .iload_n 0, 1, 2, 0, 0, 0), (2, .iconst 1, 1, 0, 0, 0, 0), (3, .iushr, 1, 7, 0, 0, 0), (4, .ldc_w 265, 3, 1, 2, 0, 1431655765), (7, .iand, 1, 7, 0, 0, 0), (8, .isub, 1, 7, 0, 0, 0), (9, .istore_n 0, 1, 4, 0, 0, 0), (10, .iload_n 0, 1, 2, 0, 0, 0), (11, .ldc_w 266, 3, 1, 3, 0, 858993459), (14, .iand, 1, 7, 0, 0, 0), (15, .iload_n 0, 1, 2, 0, 0, 0), (16, .iconst 2, 1, 0, 0, 0, 0), (17, .iushr, 1, 7, 0, 0, 0), (18, .ldc_w 266, 3, 1, 3, 0, 858993459), (21, .iand, 1, 7, 0, 0, 0), (22, .iadd, 1, 7, 0, 0, 0), (23, .istore_n 0, 1, 4, 0, 0, 0), (24, .iload_n 0, 1, 2, 0, 0, 0), (25, .iload_n 0, 1, 2, 0, 0, 0), (26, .iconst 4, 1, 0, 0, 0, 0), (27, .iushr, 1, 7, 0, 0, 0), (28, .iadd, 1, 7, 0, 0, 0), (29, .ldc_w 267, 3, 1, 4, 0, 252645135), (32, .iand, 1, 7, 0, 0, 0), (33, .istore_n 0, 1, 4, 0, 0, 0), (34, .iload_n 0, 1, 2, 0, 0, 0), (35, .iload_n 0, 1, 2, 0, 0, 0), (36, .bipush 8, 2, 0, 0, 0, 0), (38, .iushr, 1, 7, 0, 0, 0), (39, .iadd, 1, 7, 0, 0, 0), (40, .istore_n 0, 1, 4, 0, 0, 0), (41, .iload_n 0, 1, 2, 0, 0, 0), (42, .iload_n 0, 1, 2, 0, 0, 0), (43, .bipush 16, 2, 0, 0, 0, 0), (45, .iushr, 1, 7, 0, 0, 0), (46, .iadd, 1, 7, 0, 0, 0), (47, .istore_n 0, 1, 4, 0, 0, 0), (48, .iload_n 0, 1, 2, 0, 0, 0), (49, .bipush 63, 2, 0, 0, 0, 0), (51, .iand, 1, 7, 0, 0, 0), (52, .ireturn, 1, 21, 0, 0, 0)]
/- 184: java/lang/String.charAt(I)C -/
def ee_T184 : List ee_en := [(0, .aload_n 0, 1, 3, 0, 0, 0), (1, .invokevirtual 492, 3, 23, 189, 0, 0), (4, .ifCond .eq 12, 3, 12, 0, 0, 0), (7, .aload_n 0, 1, 3, 0, 0, 0), (8, .getfield 9, 3, 14, 0, 1, 0), (11, .iload_n 1, 1, 2, 0, 0, 0), (12, .invokestatic 495, 3, 23, 190, 0, 0), (15, .ireturn, 1, 21, 0, 0, 0), (16, .aload_n 0, 1, 3, 0, 0, 0), (17, .getfield 9, 3, 14, 0, 1, 0), (20, .iload_n 1, 1, 2, 0, 0, 0), (21, .invokestatic 498, 3, 20, 0, 9, 0), (24, .ireturn, 1, 21, 0, 0, 0)]
/- 185: java/lang/String.checkIndex(II)V -/
def ee_T185 : List ee_en := [(0, .iload_n 0, 1, 2, 0, 0, 0), (1, .iload_n 1, 1, 2, 0, 0, 0), (2, .getstatic 1053, 3, 19, 0, 0, 0), (5, .invokestatic 1059, 3, 23, 191, 0, 0), (8, .pop, 1, 11, 0, 0, 0), (9, .return_, 1, 21, 0, 0, 0)]
/- 186: java/lang/String.coder()B -/
def ee_T186 : List ee_en := [(0, .getstatic 38, 3, 19, 1, 0, 0), (3, .ifCond .eq 10, 3, 12, 0, 0, 0), (6, .aload_n 0, 1, 3, 0, 0, 0), (7, .getfield 15, 3, 14, 1, 1, 0), (10, .goto 4, 3, 0, 0, 0, 0), (13, .iconst 1, 1, 0, 0, 0, 0), (14, .ireturn, 1, 21, 0, 0, 0)]
/- 187: java/lang/String.isLatin1()Z -/
def ee_T187 : List ee_en := [(0, .getstatic 38, 3, 19, 1, 0, 0), (3, .ifCond .eq 14, 3, 12, 0, 0, 0), (6, .aload_n 0, 1, 3, 0, 0, 0), (7, .getfield 15, 3, 14, 1, 1, 0), (10, .ifCond .ne 7, 3, 12, 0, 0, 0), (13, .iconst 1, 1, 0, 0, 0, 0), (14, .goto 4, 3, 0, 0, 0, 0), (17, .iconst 0, 1, 0, 0, 0, 0), (18, .ireturn, 1, 21, 0, 0, 0)]
/- 188: java/lang/String.length()I -/
def ee_T188 : List ee_en := [(0, .aload_n 0, 1, 3, 0, 0, 0), (1, .getfield 9, 3, 14, 0, 1, 0), (4, .arraylength, 1, 16, 0, 0, 0), (5, .aload_n 0, 1, 3, 0, 0, 0), (6, .invokevirtual 335, 3, 23, 192, 0, 0), (9, .ishr, 1, 7, 0, 0, 0), (10, .ireturn, 1, 21, 0, 0, 0)]
/- 189: java/lang/StringLatin1.charAt([BI)C -/
def ee_T189 : List ee_en := [(0, .iload_n 1, 1, 2, 0, 0, 0), (1, .aload_n 0, 1, 3, 0, 0, 0), (2, .arraylength, 1, 16, 0, 0, 0), (3, .invokestatic 9, 3, 23, 193, 0, 0), (6, .aload_n 0, 1, 3, 0, 0, 0), (7, .iload_n 1, 1, 2, 0, 0, 0), (8, .baload, 1, 22, 0, 0, 0), (9, .sipush 255, 3, 0, 0, 0, 0), (12, .iand, 1, 7, 0, 0, 0), (13, .i2c, 1, 10, 0, 0, 0), (14, .ireturn, 1, 21, 0, 0, 0)]
/- 190: jdk/internal/util/Preconditions.checkIndex(IILjava/util/function/BiFunction;)I -/
def ee_T190 : List ee_en := [(0, .iload_n 0, 1, 2, 0, 0, 0), (1, .ifCond .lt 8, 3, 12, 0, 0, 0), (4, .iload_n 0, 1, 2, 0, 0, 0), (5, .iload_n 1, 1, 2, 0, 0, 0), (6, .if_icmp .lt 10, 3, 12, 0, 0, 0), (9, .aload_n 2, 1, 3, 0, 0, 0), (10, .iload_n 0, 1, 2, 0, 0, 0), (11, .iload_n 1, 1, 2, 0, 0, 0), (12, .invokestatic 95, 3, 20, 0, 9, 0), (15, .athrow, 1, 25, 0, 0, 0), (16, .iload_n 0, 1, 2, 0, 0, 0), (17, .ireturn, 1, 21, 0, 0, 0)]
def ee_M17 : List ee_me := [(11, ⟨"java/lang/Integer", "bitCount", "(I)I"⟩, prog_13_method_49_code, 1, (some .int), ee_T183, 0, 0), (12, ⟨"java/lang/String", "charAt", "(I)C"⟩, prog_15_method_56_code, 2, (some .char), ee_T184, 0, 0), (12, ⟨"java/lang/String", "checkIndex", "(II)V"⟩, prog_15_method_155_code, 2, none, ee_T185, 0, 0), (12, ⟨"java/lang/String", "coder", "()B"⟩, prog_15_method_152_code, 1, (some .byte), ee_T186, 0, 0), (12, ⟨"java/lang/String", "isLatin1", "()Z"⟩, prog_15_method_154_code, 1, (some .boolean), ee_T187, 0, 0), (12, ⟨"java/lang/String", "length", "()I"⟩, prog_15_method_54_code, 1, (some .int), ee_T188, 0, 0), (13, ⟨"java/lang/StringLatin1", "charAt", "([BI)C"⟩, prog_16_method_2_code, 2, (some .char), ee_T189, 0, 0), (14, ⟨"jdk/internal/util/Preconditions", "checkIndex", "(IILjava/util/function/BiFunction;)I"⟩, prog_19_method_11_code, 3, (some .int), ee_T190, 0, 0)]
set_option maxRecDepth 100000 in
theorem ee_M17ok : ee_M17.all ee_Mb = true := by decide +kernel
end
section
def ee_MT : List ee_me := ee_M0 ++ (ee_M1 ++ (ee_M2 ++ (ee_M3 ++ (ee_M4 ++ (ee_M5 ++ (ee_M6 ++ (ee_M7 ++ (ee_M8 ++ (ee_M9 ++ (ee_M10 ++ (ee_M11 ++ (ee_M12 ++ (ee_M13 ++ (ee_M14 ++ (ee_M15 ++ (ee_M16 ++ (ee_M17)))))))))))))))))
theorem ee_MTall : ee_MT.all ee_Mb = true := by
  unfold ee_MT
  simp only [List.all_append, ee_M0ok, ee_M1ok, ee_M2ok, ee_M3ok, ee_M4ok, ee_M5ok, ee_M6ok, ee_M7ok, ee_M8ok, ee_M9ok, ee_M10ok, ee_M11ok, ee_M12ok, ee_M13ok, ee_M14ok, ee_M15ok, ee_M16ok, ee_M17ok, Bool.and_self]
theorem ee_MTok : ∀ (y : Nat) (M : ee_me), ee_MT[y]? = some M → ee_Mok M := fun y M h => ee_Mb.ok (List.all_eq_true.mp ee_MTall M (List.mem_of_getElem? h))
def ee_CP : List Nat := [138, 1208, 985, 1181, 1199, 1016, 1082, 1113, 885, 1078, 560, 1020, 755, 1036, 552, 981, 1032, 867, 1125, 1005, 1094, 989, 1190, 1065, 916, 881, 763, 795, 787, 1074, 1141, 1001, 1117, 1048, 940, 1098, 1106, 1110, 1028, 759, 877, 1086, 905, 863, 957, 1150, 1069, 791, 1102, 945, 1009, 849, 889, 949, 953, 564, 993, 1173, 913, 783, 893, 1133, 807, 408, 736, 857, 897, 909, 429, 1194, 747, 1203, 466, 751, 1145, 1154, 1137, 443, 1060, 1052, 1121, 392, 997, 146, 556, 568, 576, 356, 732, 767, 740, 152, 771, 157, 572, 803, 821, 0, 1213, 1963, 1863, 1935, 1704, 1947, 1959, 1634, 1673, 1851, 1839, 1218, 1688, 1760, 1898, 1684, 1971, 1855, 1575, 1816, 1967, 1843, 1587, 1808, 1434, 1748, 1902, 1646, 1927, 1847, 1692, 1696, 1955, 1812, 1472, 1590, 1583, 1630, 1618, 1740, 1831, 1680, 1602, 1910, 1732, 1923, 1919, 1226, 1776, 1871, 1230, 1788, 1716, 1720, 1895, 1728, 1579, 1756, 1827, 1887, 1772, 1744, 1824, 1915, 1891, 1626, 1708, 1792, 1712, 1796, 1867, 1438, 1736, 1724, 1800, 1804, 1222, 1430, 1700, 1943, 1780, 1614, 1764, 1906, 1650, 814, 275, 285, 269, 279, 265, 282, 290]
def ee_sox : Nat := 12
/-- what the tables say of a call -/
def ee_Cok (q : Nat × Nat × Nat × Nat × Nat × Nat × Nat × Nat × Nat) (N : ee_me) : Prop := (plainName N.2.1.cls = true ∧ Cond.code N.2.1 N.2.2.1 N.2.2.2.1 N.2.2.2.2.1 ∈ ee_tbl ∧ N.2.2.2.1 ≤ 45) ∧ (Cond.methodLink (ee_ow q.1) q.2.1 N.2.1 ∈ ee_tbl ∧ Cond.initialized N.2.1.cls ∈ ee_tbl) ∧ (N.2.1.cls ≠ "java/lang/invoke/MethodHandle" ∧ N.2.1.cls ≠ "java/lang/invoke/VarHandle" ∧ (parseMethodDescriptor N.2.1.desc).map (fun d => d.parameters.length) = some q.2.2.2.2.1) ∧ (q.2.2.2.1 = 0 → Cond.instanceMethod N.2.1 ∈ ee_tbl ∧ Cond.selects N.2.1.cls N.2.1 N.2.1 ∈ ee_tbl) ∧ (q.2.2.2.1 = 1 → Cond.static N.2.1 ∈ ee_tbl) ∧ (q.2.2.2.1 = 2 → Cond.instanceMethod N.2.1 ∈ ee_tbl ∧ N.2.1.name = "<init>" ∧ N.2.2.2.2.1 = none)
def ee_Cb (q : Nat × Nat × Nat × Nat × Nat × Nat × Nat × Nat × Nat) (N : ee_me) : Bool := ((plainName N.2.1.cls && (ee_at (ee_CP.getD q.2.2.1 0) (.code N.2.1 N.2.2.1 N.2.2.2.1 N.2.2.2.2.1) && decide (N.2.2.2.1 ≤ 45))) && (ee_at q.2.2.2.2.2.1 (.methodLink (ee_ow q.1) q.2.1 N.2.1) && ee_at q.2.2.2.2.2.2.2.2 (.initialized N.2.1.cls))) && ((decide (N.2.1.cls ≠ "java/lang/invoke/MethodHandle") && (decide (N.2.1.cls ≠ "java/lang/invoke/VarHandle") && decide ((parseMethodDescriptor N.2.1.desc).map (fun d => d.parameters.length) = some q.2.2.2.2.1))) && ((!decide (q.2.2.2.1 = 0) || (ee_at q.2.2.2.2.2.2.1 (.instanceMethod N.2.1) && ee_at q.2.2.2.2.2.2.2.1 (.selects N.2.1.cls N.2.1 N.2.1))) && ((!decide (q.2.2.2.1 = 1) || ee_at q.2.2.2.2.2.2.1 (.static N.2.1)) && (!decide (q.2.2.2.1 = 2) || (ee_at q.2.2.2.2.2.2.1 (.instanceMethod N.2.1) && (decide (N.2.1.name = "<init>") && decide (N.2.2.2.2.1 = none)))))))
theorem ee_imp {a b : Bool} (h : (!a || b) = true) (ha : a = true) : b = true := by
  rw [ha] at h
  simpa using h
theorem ee_Cb.ok {q : Nat × Nat × Nat × Nat × Nat × Nat × Nat × Nat × Nat} {N : ee_me} (h : ee_Cb q N = true) : ee_Cok q N := by
  have an : ∀ {a b : Bool}, (a && b) = true → a = true ∧ b = true := fun h => Bool.and_eq_true_iff.mp h
  obtain ⟨h, h2⟩ := an h
  obtain ⟨h, h1⟩ := an h
  obtain ⟨a1, a2⟩ := an h
  obtain ⟨a2, a3⟩ := an a2
  obtain ⟨b1, b2⟩ := an h1
  obtain ⟨c1, d1⟩ := an h2
  obtain ⟨c1, c2⟩ := an c1
  obtain ⟨c2, c3⟩ := an c2
  obtain ⟨d1, d2⟩ := an d1
  obtain ⟨d2, d3⟩ := an d2
  refine ⟨⟨a1, ee_at.mem a2, of_decide_eq_true a3⟩, ⟨ee_at.mem b1, ee_at.mem b2⟩, ⟨of_decide_eq_true c1, of_decide_eq_true c2, of_decide_eq_true c3⟩, fun z => ?_, fun z => ?_, fun z => ?_⟩
  · obtain ⟨x1, x2⟩ := an (ee_imp d1 (decide_eq_true z))
    exact ⟨ee_at.mem x1, ee_at.mem x2⟩
  · exact ee_at.mem (ee_imp d2 (decide_eq_true z))
  · obtain ⟨x1, x2⟩ := an (ee_imp d3 (decide_eq_true z))
    obtain ⟨x2, x3⟩ := an x2
    exact ⟨ee_at.mem x1, of_decide_eq_true x2, of_decide_eq_true x3⟩
def ee_clb (q : Nat × Nat × Nat × Nat × Nat × Nat × Nat × Nat × Nat) : Bool := match ee_MT[q.2.2.1]? with
    | some N => ee_Cb q N
    | none => false
set_option maxRecDepth 100000 in
theorem ee_CL0 : ((ee_CL.drop 0).take 15).all ee_clb = true := by decide +kernel
set_option maxRecDepth 100000 in
theorem ee_CL1 : ((ee_CL.drop 15).take 15).all ee_clb = true := by decide +kernel
set_option maxRecDepth 100000 in
theorem ee_CL2 : ((ee_CL.drop 30).take 15).all ee_clb = true := by decide +kernel
set_option maxRecDepth 100000 in
theorem ee_CL3 : ((ee_CL.drop 45).take 15).all ee_clb = true := by decide +kernel
set_option maxRecDepth 100000 in
theorem ee_CL4 : ((ee_CL.drop 60).take 15).all ee_clb = true := by decide +kernel
set_option maxRecDepth 100000 in
theorem ee_CL5 : ((ee_CL.drop 75).take 15).all ee_clb = true := by decide +kernel
set_option maxRecDepth 100000 in
theorem ee_CL6 : ((ee_CL.drop 90).take 15).all ee_clb = true := by decide +kernel
set_option maxRecDepth 100000 in
theorem ee_CL7 : ((ee_CL.drop 105).take 15).all ee_clb = true := by decide +kernel
set_option maxRecDepth 100000 in
theorem ee_CL8 : ((ee_CL.drop 120).take 15).all ee_clb = true := by decide +kernel
set_option maxRecDepth 100000 in
theorem ee_CL9 : ((ee_CL.drop 135).take 15).all ee_clb = true := by decide +kernel
set_option maxRecDepth 100000 in
theorem ee_CL10 : ((ee_CL.drop 150).take 15).all ee_clb = true := by decide +kernel
set_option maxRecDepth 100000 in
theorem ee_CL11 : ((ee_CL.drop 165).take 15).all ee_clb = true := by decide +kernel
set_option maxRecDepth 100000 in
theorem ee_CL12 : ((ee_CL.drop 180).take 15).all ee_clb = true := by decide +kernel
theorem ee_CLall : ee_CL.all ee_clb = true := by
  refine List.all_eq_true.mpr (fun q hq => ?_)
  obtain ⟨i, hi⟩ := List.getElem?_of_mem hq
  have hl : i < 194 := (List.getElem?_eq_some_iff.mp hi).1
  have hm : ∀ a, 15 * a ≤ i → i < 15 * a + 15 → q ∈ (ee_CL.drop (15 * a)).take 15 := fun a h1 h2 => List.mem_of_getElem? (i := i - 15 * a) (by rw [List.getElem?_take_of_lt (by omega), List.getElem?_drop, show 15 * a + (i - 15 * a) = i by omega]; exact hi)
  have hd : i / 15 < 13 := by omega
  have h0 := hm (i / 15) (by omega) (by omega)
  match h : i / 15, hd, h0 with
  | 0, _, h0 => exact List.all_eq_true.mp ee_CL0 q h0
  | 1, _, h0 => exact List.all_eq_true.mp ee_CL1 q h0
  | 2, _, h0 => exact List.all_eq_true.mp ee_CL2 q h0
  | 3, _, h0 => exact List.all_eq_true.mp ee_CL3 q h0
  | 4, _, h0 => exact List.all_eq_true.mp ee_CL4 q h0
  | 5, _, h0 => exact List.all_eq_true.mp ee_CL5 q h0
  | 6, _, h0 => exact List.all_eq_true.mp ee_CL6 q h0
  | 7, _, h0 => exact List.all_eq_true.mp ee_CL7 q h0
  | 8, _, h0 => exact List.all_eq_true.mp ee_CL8 q h0
  | 9, _, h0 => exact List.all_eq_true.mp ee_CL9 q h0
  | 10, _, h0 => exact List.all_eq_true.mp ee_CL10 q h0
  | 11, _, h0 => exact List.all_eq_true.mp ee_CL11 q h0
  | 12, _, h0 => exact List.all_eq_true.mp ee_CL12 q h0
  | n + 13, hd, _ => omega
theorem ee_CLok : ∀ (q : Nat × Nat × Nat × Nat × Nat × Nat × Nat × Nat × Nat) (N : ee_me), q ∈ ee_CL → ee_MT[q.2.2.1]? = some N → ee_Cok q N := fun q N hq hN => by
  have h := List.all_eq_true.mp ee_CLall q hq
  unfold ee_clb at h
  rw [hN] at h
  exact ee_Cb.ok h
def ee_lawno : Nat := 97
def ee_lawm : ee_me := (10, ⟨"PepperTablesLaw", "law", "([I)Z"⟩, code, 4, (some .boolean), ee_T97, 98, 11043)
theorem ee_lawM : ee_MT[ee_lawno]? = some ee_lawm := rfl
theorem ee_ls0 : Cond.laysStatic "java/lang/String" "COMPACT_STRINGS" "Z" ∈ lw_tbl := ee_atL.mem (i := 271) (by decide +kernel)
theorem ee_ini0 : Cond.initialized "java/lang/String" ∈ lw_tbl := ee_atL.mem (i := 119) (by decide +kernel)
theorem ee_ls1 : Cond.laysStatic "jdk/internal/util/Preconditions" "SIOOBE_FORMATTER" "Ljava/util/function/BiFunction;" ∈ lw_tbl := ee_atL.mem (i := 287) (by decide +kernel)
theorem ee_ini1 : Cond.initialized "jdk/internal/util/Preconditions" ∈ lw_tbl := ee_atL.mem (i := 121) (by decide +kernel)
theorem ee_srf : ∀ i, i < 2 → Cond.stringRef RX5 (ee_six.getD i 0) (ee_stx.getD i "") ∈ lw_tbl := by
  intro i hi
  rcases (show i = 0 ∨ i = 1 by omega) with rfl | rfl
  · exact ee_atL.mem (i := 261) (by decide +kernel)
  · exact ee_atL.mem (i := 585) (by decide +kernel)
end
section
/-! the walk of a whole method, its calls walked into -/
def ee_hn : ee_H := fun _ _ _ _ _ => none
theorem ee_hn.snd : ee_Snd ee_hn := fun _ _ _ _ _ _ _ _ _ _ _ _ _ _ _ _ _ _ _ h => ee_no h
def ee_hs : List ee_H := [ee_h0, ee_h1, ee_h2, ee_h3, ee_h4, ee_h5, ee_h6, ee_h7, ee_h8, ee_h9, ee_h10, ee_h11, ee_h12, ee_h13, ee_h14, ee_h15, ee_h16, ee_h17, ee_h18, ee_h19, ee_h20, ee_hn, ee_h22, ee_hn, ee_h24]
theorem ee_hs.snd : ∀ h ∈ ee_hs, ee_Snd h := by
  intro h hm
  simp only [ee_hs, List.mem_cons, List.not_mem_nil, or_false] at hm
  rcases hm with rfl | rfl | rfl | rfl | rfl | rfl | rfl | rfl | rfl | rfl | rfl | rfl | rfl | rfl | rfl | rfl | rfl | rfl | rfl | rfl | rfl | rfl | rfl | rfl | rfl
  · exact ee_h0.snd
  · exact ee_h1.snd
  · exact ee_h2.snd
  · exact ee_h3.snd
  · exact ee_h4.snd
  · exact ee_h5.snd
  · exact ee_h6.snd
  · exact ee_h7.snd
  · exact ee_h8.snd
  · exact ee_h9.snd
  · exact ee_h10.snd
  · exact ee_h11.snd
  · exact ee_h12.snd
  · exact ee_h13.snd
  · exact ee_h14.snd
  · exact ee_h15.snd
  · exact ee_h16.snd
  · exact ee_h17.snd
  · exact ee_h18.snd
  · exact ee_h19.snd
  · exact ee_h20.snd
  · exact ee_hn.snd
  · exact ee_h22.snd
  · exact ee_hn.snd
  · exact ee_h24.snd
def ee_bind (g : ee_st → Option (List ee_st)) : List ee_st → Option (List ee_st)
  | [] => some []
  | st :: l => match g st with
    | none => none
    | some a => match ee_bind g l with
      | none => none
      | some b => some (a ++ b)
theorem ee_bind.ok {g : ee_st → Option (List ee_st)} : ∀ {l : List ee_st} {r : List ee_st}, ee_bind g l = some r → ∀ st ∈ l, ∃ a, g st = some a ∧ ∀ q ∈ a, q ∈ r
  | [], r, _, st, h => by simp at h
  | x :: l, r, h, st, hm => by
    unfold ee_bind at h
    cases hx : g x with
    | none => rw [hx] at h; exact ee_no h
    | some a =>
      rw [hx] at h
      simp only at h
      cases hl : ee_bind g l with
      | none => rw [hl] at h; exact ee_no h
      | some b =>
        rw [hl] at h
        cases h
        rcases List.mem_cons.mp hm with rfl | hm
        · exact ⟨a, hx, fun q hq => List.mem_append_left _ hq⟩
        · obtain ⟨c, h1, h2⟩ := ee_bind.ok hl st hm
          exact ⟨c, h1, fun q hq => List.mem_append_right _ (h2 q hq)⟩
def ee_find (M : ee_me) (pc : Nat) : Option ee_en := M.2.2.2.2.2.1.find? (fun e => Nat.beq e.1 pc)
/-- what a method may return -/
def ee_rok (ret : Option FieldType) (e : ee_en) (stk : List Value) (iv : ee_iv) : Bool := match ret, e.2.1, stk with
  | none, .return_, [] => decide (e.2.2.1 = 1)
  | some .int, .ireturn, [x] => decide (e.2.2.1 = 1) && (ee_it iv x).isSome
  | some .boolean, .ireturn, [x] => decide (e.2.2.1 = 1) && (match ee_it iv x with
    | some (a, b) => decide (0 ≤ a) && decide (b ≤ 1)
    | none => false)
  | some .char, .ireturn, [x] => decide (e.2.2.1 = 1) && (match ee_it iv x with
    | some (a, b) => decide (0 ≤ a) && decide (b ≤ 65535)
    | none => false)
  | some .byte, .ireturn, [x] => decide (e.2.2.1 = 1) && (match ee_it iv x with
    | some (a, b) => decide (-128 ≤ a) && decide (b ≤ 127)
    | none => false)
  | some .long, .lreturn, [x] => decide (e.2.2.1 = 1) && ee_isl x
  | _, _, _ => false
def ee_end (M : ee_me) (q : ee_st) : Bool := match ee_find M q.1 with
  | some e => ee_rok M.2.2.2.2.1 e q.2.2.1 q.2.2.2.2.1 && (decide (q.2.2.2.2.2.1 ≤ M.2.2.2.2.2.2.1) && decide (q.2.2.2.2.2.2.1 ≤ M.2.2.2.2.2.2.2))
  | none => false
/-- the caller's state behind a call -/
def ee_next (pc : Nat) (ks0 : List Nat) (nr kc ks : Nat) (q : ee_st) : ee_st := match q with
  | (_, _, stk, w, iv, _, _, sv) => (pc + 3, ks0.zip (sv.take ks0.length), stk ++ (sv.drop ks0.length).take nr, w, iv, kc, ks, (sv.drop ks0.length).drop nr)
def ee_arg : Nat → List Value → List (Nat × Value)
  | _, [] => []
  | i, x :: l => (i, x) :: ee_arg (i + ee_cat x) l
def ee_isr (x : Value) : Bool := match x with
  | .ref _ => true
  | _ => false
/-- is the receiver of that file's kind? -/
def ee_rcv (oc : Nat) (w : ee_w) (x : Value) : Bool := match x with
  | .ref k => if k < 1000000 then (match w[k]? with
      | some (.inl (ci, _)) => decide (ci = oc)
      | _ => false) else decide (k < 1000002) && decide (oc = ee_sox)
  | _ => false
def ee_inv (kd : Nat) (ins : ClassFile.Instr) : Bool := match ins with
  | .invokevirtual _ => decide (kd = 0)
  | .invokestatic _ => decide (kd = 1)
  | .invokespecial _ => decide (kd = 2)
  | _ => false
/-- how many values a call takes -/
def ee_na (q : Nat × Nat × Nat × Nat × Nat × Nat × Nat × Nat × Nat) : Nat := q.2.2.2.2.1 + (if q.2.2.2.1 = 1 then 0 else 1)
/-- can the call be? -/
def ee_cc (q : Nat × Nat × Nat × Nat × Nat × Nat × Nat × Nat × Nat) (M N : ee_me) (e : ee_en) (stk : List Value) (w : ee_w) (kc ks : Nat) : Bool := decide (((ee_na q ≤ stk.length ∧ ((stk.drop (ee_na q)).map ee_cat).sum ≤ 8) ∧ ((stk.take (ee_na q)).reverse.map ee_cat).sum ≤ N.2.2.2.1) ∧ (((e.2.2.1 = 3 ∧ e.2.2.2.2.2.1 = 0) ∧ ee_inv q.2.2.2.1 e.2.1 = true) ∧ kc + N.2.2.2.2.2.2.1 ≤ M.2.2.2.2.2.2.1 ∧ ks + N.2.2.2.2.2.2.2 ≤ M.2.2.2.2.2.2.2) ∧ (if q.2.2.2.1 = 0 then ee_rcv N.1 w ((stk.take (q.2.2.2.2.1 + 1)).reverse.headD .null) = true else if q.2.2.2.1 = 2 then ee_isr ((stk.take (q.2.2.2.2.1 + 1)).reverse.headD .null) = true else q.2.2.2.1 = 1))
/-- the callee's first state, if the call can be -/
def ee_pre (q : Nat × Nat × Nat × Nat × Nat × Nat × Nat × Nat × Nat) (M N : ee_me) (e : ee_en) (st : ee_st) : Option ee_st := match st with
  | (_, lo, stk, w, iv, kc, ks, sv) => if ee_cc q M N e stk w kc ks = true then some (0, ee_arg 0 (stk.take (ee_na q)).reverse, [], w, iv, 0, 0, lo.map (fun z => z.2) ++ (stk.drop (ee_na q) ++ sv)) else none
def ee_exec : Nat → Nat → Nat → Nat → ee_st → Option (List ee_st)
  | 0, _, _, _, _ => none
  | f + 1, d, stop, y, st => if st.1 = stop then some [st] else (match ee_MT[y]? with
    | none => none
    | some M => (match ee_find M st.1 with
      | none => none
      | some e => if e.2.2.2.1 = 21 then some [st] else if e.2.2.2.1 = 23 then (match d with
          | 0 => none
          | d + 1 => (match ee_CL[e.2.2.2.2.1]? with
            | none => none
            | some q => (match ee_MT[q.2.2.1]? with
              | none => none
              | some N => (match ee_pre q M N e st with
                | none => none
                | some st0 => (match ee_exec f d 1000000 q.2.2.1 st0 with
                  | none => none
                  | some outs => if outs.all (ee_end N) = true then ee_bind (ee_exec f (d + 1) stop y) (outs.map (ee_next st.1 (st.2.1.map (fun z => z.1)) (st.2.2.1.length - ee_na q) (st.2.2.2.2.2.1 + N.2.2.2.2.2.2.1) (st.2.2.2.2.2.2.1 + N.2.2.2.2.2.2.2))) else none)))))
        else (match ee_hs[e.2.2.2.1]? with
          | none => none
          | some g => (match g M.2.2.2.1 M.2.2.2.2.2.2.1 M.2.2.2.2.2.2.2 e st with
            | none => none
            | some sts => ee_bind (ee_exec f d stop y) sts))))
end
section
/-! the walk is sound -/
theorem ee_find.ok {M : ee_me} {pc : Nat} {e : ee_en} (h : ee_find M pc = some e) : e ∈ M.2.2.2.2.2.1 ∧ e.1 = pc := by
  refine ⟨List.mem_of_find?_eq_some h, ?_⟩
  have := List.find?_some h
  exact Nat.eq_of_beq_eq_true this
def ee_Sf (f : Nat) : Prop := ∀ (d stop y : Nat) (st : ee_st) (outs : List ee_st) (M : ee_me) (X : ee_cx) (Y : ee_cy) (Q : State → Prop), ee_exec f d stop y st = some outs → ee_MT[y]? = some M → ee_F X Y M.2.1.cls M.2.2.1 ee_tbl (M.2.1.name = "<init>") (d + 1) M.2.2.2.2.2.2.1 M.2.2.2.2.2.2.2 → Y.2.2.2.2.2.2 = M.2.2.2.1 → (∀ q ∈ outs, ee_G X Y Q q) → ee_G X Y Q st
/-- how a callee ends -/
def ee_Q (outs : List ee_st) (D : va_G) (dA : Nat → ClassId) (ex : Nat → Nat) (x0 : List Int32) (sv0 : List Value) (A1 : Nat → Prop) : Array Value → State → Outcome → State → Prop := fun _ st oc t =>
  (∃ q ∈ outs, ∃ (ns : List Int32) (as : List Nat) (ws : va_W) (v : Option Value), oc = .returned v ∧ ee_all (ee_v ns as ex) q.2.2.1 v.toList ∧ ee_ok ns q.2.2.2.2.1 ∧ (∃ r, ns = x0 ++ r) ∧ ee_all (ee_v ns as ex) q.2.2.2.2.2.2.2 sv0 ∧ ee_wr ns as ex dA q.2.2.2.1 ws ∧ va_P D vwCl ws t.heap ∧ va_D A1 ws) ∧ va_F A1 st t
def ee_Pc (D : va_G) (dA : Nat → ClassId) (ex : Nat → Nat) (x0 : List Int32) (av : List Value) (ws : va_W) (sz : Nat) : Array Value → State → Prop := va_Pc av (fun U => U.heap.size = sz ∧ va_P D vwCl ws U.heap ∧ va_K D vwCl (ee_tys dA) U ∧ va_D (fun _ => True) ws ∧ ee_Ext U (va_A ws sz) ex x0)
theorem ee_Ext.same {u U : State} {A : Nat → Prop} {ex : Nat → Nat} {x0 : List Int32} (hv : U.vm = u.vm) (hh : U.heap = u.heap) (h : ee_Ext u A ex x0) : ee_Ext U A ex x0 := by
  obtain ⟨h1, h2, h3, h4, L, xs, h5, h6, h7⟩ := h
  have ha : u.vm.Alike U.vm := by rw [hv]; exact Vm.Alike.refl u.vm
  unfold ee_Ext
  rw [hh]
  exact ⟨h1.moved ha, fun i hi => (h2 i hi).same hv, h3.moved ha, h4.moved ha, L, xs, h5.moved ha, h6, h7⟩
theorem ee_Ext.call {s U : State} {A B : Nat → Prop} {ex : Nat → Nat} {x0 : List Int32} {H : Heap} {lc : List Loc} (h : ee_Ext s A ex x0) (hS : va_S A s.heap H lc) (hH : U.heap = H) (hW : s.WarmedH U.vm) (hAB : ∀ q, B q → A q) : ee_Ext U B ex x0 := by
  obtain ⟨h1, h2, h3, h4, L, xs, h5, h6, h7, h8⟩ := h
  have ha := hW.alike
  unfold ee_Ext
  rw [hH]
  refine ⟨((h1.kept hS.2.1).narrow hAB).moved ha, fun i hi => (h2 i hi).warm hW, ((h3.kept hS.2.1).narrow hAB).moved ha, ((h4.kept hS.2.1).narrow hAB).moved ha, L, xs, (h5.kept (hS.2.1 _ h6 h7)).moved ha, Nat.lt_of_lt_of_le h6 hS.1, fun q => h7 (hAB _ q), h8⟩
theorem ee_Pc.blind {D : va_G} {dA : Nat → ClassId} {ex : Nat → Nat} {x0 : List Int32} {av : List Value} {ws : va_W} {sz : Nat} : FrameBlind (ee_Pc D dA ex x0 av ws sz) := by
  intro a U g mk q
  obtain ⟨q0, q1, qP, qK, qD, qE⟩ := q
  exact ⟨q0, q1, qP, va_K.moved (u := U) (U := U.calling g mk a) (Vm.Alike.refl U.vm) qK, qD, ee_Ext.same (u := U) rfl rfl qE⟩
theorem ee_arg.ok {ns : List Int32} {as : List Nat} {ex : Nat → Nat} : ∀ {A av : List Value} (i : Nat), ee_all (ee_v ns as ex) A av → ee_all (ee_lr ns as ex) (ee_arg i A) (lv_args i av)
  | [], [], _, _ => trivial
  | x :: A, v :: av, i, h => by
    refine ⟨⟨rfl, h.1⟩, ?_⟩
    have e : (if v.category = 2 then i + 2 else i + 1) = i + ee_cat x := by
      have h1 := h.1.cat
      by_cases hc : v.category = 2
      · rw [if_pos hc, ← h1, hc]
      · rw [if_neg hc]
        have := lv_cat v
        omega
    show ee_all _ (ee_arg (i + ee_cat x) A) (lv_args (if v.category = 2 then i + 2 else i + 1) av)
    rw [e]
    exact ee_arg.ok (i + ee_cat x) h.2
  | [], _ :: _, _, h => h.elim
  | _ :: _, [], _, h => h.elim
theorem ee_sl_len : ∀ (av : List Value), (lg_sl av).length = (av.map fun v => v.category).sum
  | [] => rfl
  | v :: av => by
    unfold lg_sl
    rw [List.flatMap_cons, List.length_append, List.map_cons, List.sum_cons]
    have ih := ee_sl_len av
    unfold lg_sl at ih
    rw [ih]
    have := lv_cat v
    by_cases hc : v.category = 2
    · rw [if_pos hc, hc]; rfl
    · rw [if_neg hc]
      have : v.category = 1 := by omega
      rw [this]; rfl
theorem ee_cA_sum {ns : List Int32} {as : List Nat} {ex : Nat → Nat} {A av : List Value} (h : ee_all (ee_v ns as ex) A av) : (lg_sl av).length = (A.map ee_cat).sum := by
  rw [ee_sl_len, ee_cats h]
theorem ee_rok.ok {ret : Option FieldType} {e : ee_en} {stk : List Value} {iv : ee_iv} (h : ee_rok ret e stk iv = true) : e.2.2.1 = 1 ∧ ((ret = none ∧ e.2.1 = .return_ ∧ stk = []) ∨ (∃ (x : Value) (ty : FieldType), ret = some ty ∧ e.2.1 = .ireturn ∧ stk = [x] ∧ ∃ a b : Int, ee_it iv x = some (a, b) ∧ ∀ z : Int32, a ≤ z.toInt → z.toInt ≤ b → narrow ty (.int z) = .int z) ∨ (∃ x : Value, ret = some .long ∧ e.2.1 = .lreturn ∧ stk = [x] ∧ ee_isl x = true)) := by
  have bnd : ∀ {x : Value} {p q : Int}, (match ee_it iv x with
    | some (a, b) => decide (p ≤ a) && decide (b ≤ q)
    | none => false) = true → ∃ a b : Int, ee_it iv x = some (a, b) ∧ p ≤ a ∧ b ≤ q := by
    intro x p q hb
    cases hq : ee_it iv x with
    | none => rw [hq] at hb; cases hb
    | some r =>
      obtain ⟨a, b⟩ := r
      rw [hq] at hb
      obtain ⟨e1, e2⟩ := ee_and hb
      exact ⟨a, b, rfl, of_decide_eq_true e1, of_decide_eq_true e2⟩
  unfold ee_rok at h
  split at h
  · rename_i o2
    exact ⟨of_decide_eq_true h, Or.inl ⟨rfl, o2, rfl⟩⟩
  · rename_i x o2
    obtain ⟨hl, hi⟩ := ee_and h
    obtain ⟨q, hq⟩ := Option.isSome_iff_exists.mp hi
    obtain ⟨a, b⟩ := q
    exact ⟨of_decide_eq_true hl, Or.inr (Or.inl ⟨x, .int, rfl, o2, rfl, a, b, hq, fun z _ _ => rfl⟩)⟩
  · rename_i x o2
    obtain ⟨hl, hi⟩ := ee_and h
    obtain ⟨a, b, hq, h1, h2⟩ := bnd hi
    refine ⟨of_decide_eq_true hl, Or.inr (Or.inl ⟨x, .boolean, rfl, o2, rfl, a, b, hq, fun z z1 z2 => ?_⟩)⟩
    rcases ee_01 (z := z) (by omega) (by omega) with rfl | rfl <;> decide
  · rename_i x o2
    obtain ⟨hl, hi⟩ := ee_and h
    obtain ⟨a, b, hq, h1, h2⟩ := bnd hi
    refine ⟨of_decide_eq_true hl, Or.inr (Or.inl ⟨x, .char, rfl, o2, rfl, a, b, hq, fun z z1 z2 => ?_⟩)⟩
    obtain ⟨j, hj, rfl⟩ := nI_of2 (x := z) (M := 65535) (n := 65535) (by decide) (fun q => by
      have := Int32.lt_iff_toInt_lt.mp q
      rw [Int32.toInt_zero] at this
      omega) (Int32.le_iff_toInt_le.mpr (by rw [show (65535 : Int32).toInt = 65535 by decide]; omega))
    exact (pk_charN (by omega)).1
  · rename_i x o2
    obtain ⟨hl, hi⟩ := ee_and h
    obtain ⟨a, b, hq, h1, h2⟩ := bnd hi
    refine ⟨of_decide_eq_true hl, Or.inr (Or.inl ⟨x, .byte, rfl, o2, rfl, a, b, hq, fun z z1 z2 => ?_⟩)⟩
    have := ee_byte (x := z) (by omega) (by omega)
    rw [vp_nar_byte] at this
    show Value.int z.toInt8.toInt32 = Value.int z
    rw [this]
  · rename_i x o2
    obtain ⟨hl, hi⟩ := ee_and h
    exact ⟨of_decide_eq_true hl, Or.inr (Or.inr ⟨x, rfl, o2, rfl, hi⟩)⟩
  · cases h
/-- a return, with what the callee owes -/
theorem ee_retG {p : Program} {l : Launch} {en : Env} {R : Room} {s : State} {m : MethodId} {args : Array Value} {below : List Frame} {meth : Method} {c : Code} {A : Nat → Prop} {D : va_G} {dA : Nat → ClassId} {ex : Nat → Nat} {x0 : List Int32} {sv0 : List Value} {nL : Nat} {N : ee_me} {outs : List ee_st} {q : ee_st} (hx : p.tables.exec = Jvm.exec) (hb : c.code = N.2.2.1) (hr : meth.sig.returnType = N.2.2.2.2.1) (hlocks : meth.locks = false) (hN : ∀ e ∈ N.2.2.2.2.2.1, decode N.2.2.1 e.1 = .ok (e.2.1, e.2.2.1)) (hq : q ∈ outs) (he : ee_end N q = true) :
    ee_G (p, l, en, R, s, m, args, below, meth, c) (A, D, dA, ex, x0, sv0, nL) (MQ below (ee_Q outs D dA ex x0 sv0 A) args s N.2.2.2.2.2.2.1 N.2.2.2.2.2.2.2 A) q := by
  unfold ee_end at he
  cases hf : ee_find N q.1 with
  | none => rw [hf] at he; cases he
  | some e =>
    rw [hf] at he
    simp only at he
    obtain ⟨h1, h2⟩ := ee_and he
    obtain ⟨h2, h3⟩ := ee_and h2
    have h2 := of_decide_eq_true h2
    have h3 := of_decide_eq_true h3
    obtain ⟨g1, g2⟩ := ee_find.ok hf
    have hd := hN e g1
    rw [g2] at hd
    obtain ⟨pc, lo, stk, w, iv, kc, ks, sv⟩ := q
    intro ns as H lc ls vs C
    obtain ⟨c1, c2, c3, c4, c5, ws, c6w, hP, hD, hS⟩ := C
    show W p l en R s m args below meth c H lc kc ks _ (F0 m pc ls vs)
    refine W.widen h2 h3 ?_
    have hd : decode N.2.2.1 pc = .ok (e.2.1, e.2.2.1) := hd
    have fin : ∀ v : Option Value, ee_all (ee_v ns as ex) stk v.toList → ∀ t : State, t.heap = H → s.WarmedH t.vm → ee_Q outs D dA ex x0 sv0 A args s (.returned v) t := fun v hv t ht _ =>
      ⟨⟨_, hq, ns, as, ws, v, rfl, hv, c1, c2, c5, c6w, by rw [ht]; exact hP, hD⟩, hS.F ht⟩
    have h1 : ee_rok N.2.2.2.2.1 e stk iv = true := h1
    obtain ⟨hlen, hcase⟩ := ee_rok.ok h1
    rcases hcase with ⟨o1, o2, o3⟩ | ⟨x, ty, o1, o2, o3, a, b, hq1, hnar⟩ | ⟨x, o1, o2, o3, hi⟩
    · rw [o2, hlen] at hd
      rw [o3] at c4 fin
      cases vs with
      | cons v vs => exact c4.elim
      | nil => exact W.vret hx hb (hr.trans o1) (fin none trivial) hS.2.2 hd hlocks
    · rw [o2, hlen] at hd
      rw [o3] at c4 fin
      obtain ⟨v, vs1, rfl, cv, c4a⟩ := c4.cons
      cases vs1 with
      | cons v vs => exact c4a.elim
      | nil =>
        obtain ⟨z, rfl, z1, z2⟩ := ee_it.int c1 cv hq1
        exact W.zret hx hb (hr.trans o1) (hnar z z1 z2) (fin (some (.int z)) ⟨cv, trivial⟩) hS.2.2 hd hlocks
    · rw [o2, hlen] at hd
      rw [o3] at c4 fin
      obtain ⟨v, vs1, rfl, cv, c4a⟩ := c4.cons
      cases vs1 with
      | cons v vs => exact c4a.elim
      | nil =>
        obtain ⟨z, rfl⟩ := ee_isl.ok cv hi
        exact W.lret hx hb (hr.trans o1) (fin (some (.long z)) ⟨cv, trivial⟩) hS.2.2 hd hlocks
end
section
/-! a callee's contract out of its walk; the walk's soundness -/
def ee_rm (d mc ms : Nat) : Room := { frames := d + 1, cells := mc, slots := ms, locals := 64 * (d + 1) }
set_option maxHeartbeats 2000000 in
theorem ee_met {f : Nat} (IH : ee_Sf f) {d y : Nat} {N : ee_me} {A0 : List Value} {w : ee_w} {iv : ee_iv} {sv : List Value} {outs : List ee_st} (hex : ee_exec f d 1000000 y (0, ee_arg 0 A0, [], w, iv, 0, 0, sv) = some outs) (hN : ee_MT[y]? = some N) (hend : outs.all (ee_end N) = true) (hpl : plainName N.2.1.cls = true) (hcat : (A0.map ee_cat).sum ≤ N.2.2.2.1)
    (l : Launch) (D : va_G) (dA : Nat → ClassId) (ex : Nat → Nat) (x0 : List Int32) (sv0 : List Value) {ns : List Int32} {as : List Nat} {ws : va_W} (sz : Nat) {av : List Value} (h1 : ee_ok ns iv) (h2 : ∃ r, ns = x0 ++ r) (h3 : ee_all (ee_v ns as ex) A0 av) (h4 : ee_all (ee_v ns as ex) sv sv0) (h5 : ee_wr ns as ex dA w ws) :
    Met l N.2.1 (Cond.code N.2.1 N.2.2.1 N.2.2.2.1 N.2.2.2.2.1 :: ee_tbl) (ee_rm d N.2.2.2.2.2.2.1 N.2.2.2.2.2.2.2) (ee_Pc D dA ex x0 av ws sz) (ee_Q outs D dA ex x0 sv0 (va_A ws sz)) N.2.2.2.2.2.2.1 N.2.2.2.2.2.2.2 (va_A ws sz) := by
  refine Met.ofW (cc := N.2.2.1) (maxL := N.2.2.2.1) (ret := N.2.2.2.2.1) hpl rfl ?_
  intro p e s m args below meth c s₁ B hml hv
  obtain ⟨rfl, hsz, hP, hK, hD, hE⟩ := hv
  subst hsz
  have hN2 := (ee_MTok y N hN)
  have hts : ∀ w ∈ ee_tbl, w.before av.toArray s = true := fun w hw => atoms_spec (ws := Cond.code N.2.1 N.2.2.1 N.2.2.2.1 N.2.2.2.2.1 :: ee_tbl) B.pre w (List.mem_cons_of_mem _ hw)
  have hl := lv_entry av (n := N.2.2.2.1) (by rw [ee_cA_sum h3]; exact hcat)
  rw [lg_entry_eq]
  refine IH d 1000000 y (0, ee_arg 0 A0, [], w, iv, 0, 0, sv) outs N (p, l, e, (headSpec (Cond.code N.2.1 N.2.2.1 N.2.2.2.1 N.2.2.2.2.1 :: ee_tbl) (ee_rm d N.2.2.2.2.2.2.1 N.2.2.2.2.2.2.2)).room, s, m, av.toArray, below, meth, c) (va_A ws s.heap.size, D, dA, ex, x0, sv0, N.2.2.2.1) _ hex hN ?_ rfl ?_ ns as s.heap [] _ [] ⟨h1, h2, ⟨_, hl, ee_arg.ok 0 h3⟩, trivial, h4, ws, h5, hP, hD.self, va_S.rf⟩
  · exact ⟨B.exec, B.bytes, hml, findClass_of_methodNamed B.named, hts, hK, fun q hq => Or.inr hq, fun hi => (name_of_methodNamed B.named B.method).1.trans hi, ⟨Nat.le_refl _, Nat.le_refl _, Nat.le_refl _, Nat.le_refl _⟩, hE⟩
  · intro q hq
    exact ee_retG B.exec B.bytes B.returns B.notSynchronized (fun z hz => (hN2.2 z hz).1) hq (List.all_eq_true.mp hend q hq)
/-- behind a call, whatever it answers -/
theorem ee_back {p : Program} {l : Launch} {e : Env} {R : Room} {s : State} {m : MethodId} {args : Array Value} {below : List Frame} {meth : Method} {c : Code} {H : Heap} {lc : List Loc} {cells slots : Nat} {Q : State → Prop} {pc : Nat} {ls : Array Slot} {rest st0 : List Value} {a : Array Value} {A0 A1 : Nat → Prop} {H0 : Heap} {mc ms : Nat} {free : Addr → Prop} {outs : List ee_st} {D : va_G} {dA : Nat → ClassId} {ex : Nat → Nat} {x0 : List Int32} {sv0 : List Value}
    (hr : va_Run p l e R s m args below meth c H lc cells slots mc ms (F0 m pc ls st0) rest (ee_Q outs D dA ex x0 sv0 A1 a) free) (hS : va_S A0 H0 H lc) (hA : ∀ q, q < H.size → A1 q → A0 q) (hf : ∀ q, free q → A0 q)
    (kk : ∀ q ∈ outs, ∀ (ns : List Int32) (as : List Nat) (ws : va_W) (v : Option Value) (H1 : Heap) (lc1 : List Loc), ee_all (ee_v ns as ex) q.2.2.1 v.toList → ee_ok ns q.2.2.2.2.1 → (∃ r, ns = x0 ++ r) → ee_all (ee_v ns as ex) q.2.2.2.2.2.2.2 sv0 → ee_wr ns as ex dA q.2.2.2.1 ws → va_P D vwCl ws H1 → va_D A1 ws → va_S A0 H0 H1 lc1 → W p l e R s m args below meth c H1 lc1 (cells + mc) (slots + ms) Q (F0 m (pc + 3) ls (v.toList ++ rest))) : W p l e R s m args below meth c H lc cells slots Q (F0 m pc ls st0) := by
  intro T hT X
  obtain ⟨v, st₀, t, T', L, h0, X', hL, e1, e2, ⟨⟨q, hq, ns, as, ws, v', hv, g1, g2, g3, g4, g5, g6, g7⟩, hz, hk⟩, st⟩ := hr T hT X
  cases hv
  rw [h0] at hz hk
  obtain ⟨t2, a1, b1⟩ := kk q hq ns as ws v T'.heap (lc ++ L) g1 g2 g3 g4 g5 (by rw [e1]; exact g6) g7
    ⟨Nat.le_trans hS.1 (by rw [e1]; exact hz), fun q h1 h2 => by rw [e1, hk q (Nat.lt_of_lt_of_le h1 hS.1) (fun z => h2 (hA q (Nat.lt_of_lt_of_le h1 hS.1) z))]; exact hS.2.1 q h1 h2, fun q hq => by
      rcases List.mem_append.mp hq with h | h
      · exact hS.2.2 q h
      · exact hf _ (hL q h)⟩ T' rfl X'
  exact ⟨t2, st t2 a1, b1⟩
theorem ee_zip {ns : List Int32} {as : List Nat} {ex : Nat → Nat} : ∀ {l : List Value} {lv : List (Nat × Value)}, ee_all (ee_v ns as ex) l (lv.map (fun z => z.2)) → ee_all (ee_lr ns as ex) ((lv.map (fun z => z.1)).zip l) lv
  | [], [], _ => trivial
  | x :: l, (i, v) :: lv, h => ⟨⟨rfl, h.1⟩, ee_zip h.2⟩
  | [], _ :: _, h => h.elim
  | _ :: _, [], h => h.elim
theorem ee_keys {ns : List Int32} {as : List Nat} {ex : Nat → Nat} : ∀ {lo lv : List (Nat × Value)}, ee_all (ee_lr ns as ex) lo lv → lo.map (fun z => z.1) = lv.map (fun z => z.1) ∧ ee_all (ee_v ns as ex) (lo.map (fun z => z.2)) (lv.map (fun z => z.2))
  | [], [], _ => ⟨rfl, trivial⟩
  | (i, x) :: lo, (j, v) :: lv, h => by
    obtain ⟨h1, h2⟩ := ee_keys h.2
    exact ⟨by rw [List.map_cons, List.map_cons, h1, show i = j from h.1.1], ⟨h.1.2, h2⟩⟩
  | [], _ :: _, h => h.elim
  | _ :: _, [], h => h.elim
theorem ee_all.parts {α β : Type} {R : α → β → Prop} {l : List α} {k : List β} (n : Nat) (h : ee_all R l k) : ee_all R (l.take n) (k.take n) ∧ ee_all R (l.drop n) (k.drop n) := by
  induction n generalizing l k with
  | zero => exact ⟨by simp [ee_all], by simpa using h⟩
  | succ n ih =>
    match l, k, h with
    | [], [], _ => exact ⟨trivial, trivial⟩
    | a :: l, b :: k, h =>
      obtain ⟨h1, h2⟩ := ih h.2
      exact ⟨⟨h.1, h1⟩, h2⟩
/-- the words of a call -/
theorem ee_goodIn {N : ee_me} (h : Cond.code N.2.1 N.2.2.1 N.2.2.2.1 N.2.2.2.2.1 ∈ ee_tbl) : GoodIn ee_tbl (Cond.code N.2.1 N.2.2.1 N.2.2.2.1 N.2.2.2.2.1 :: ee_tbl) := by
  intro w hw
  have hm : w ∈ ee_tbl := by
    rcases List.mem_cons.mp hw with rfl | hw
    · exact h
    · exact hw
  exact ⟨hm, good_of_word (ee_tbl_good w hm)⟩
/-- a call, once its run is known -/
theorem ee_callG {p : Program} {l : Launch} {en : Env} {R : Room} {s : State} {m : MethodId} {args : Array Value} {below : List Frame} {meth : Method} {c : Code} {A : Nat → Prop} {D : va_G} {dA : Nat → ClassId} {ex : Nat → Nat} {x0 : List Int32} {sv0 : List Value} {nL : Nat} {Q : State → Prop} {pc na kc ks mc ms : Nat} {lo : List (Nat × Value)} {stk : List Value} {H : Heap} {lc : List Loc} {ls : Array Slot} {vs : List Value} {lv : List (Nat × Value)} {ns : List Int32} {as : List Nat} {ws : va_W} {outs : List ee_st} {a : Array Value}
    (c3 : lv_has ls nL lv) (c3l : ee_all (ee_lr ns as ex) lo lv) (c4 : ee_all (ee_v ns as ex) stk vs) (hA : ∀ q, s.heap.size ≤ q → A q) (hD : va_D A ws) (hS : va_S A s.heap H lc)
    (hr : va_Run p l en R s m args below meth c H lc kc ks mc ms (F0 m pc ls vs) (vs.drop na) (ee_Q outs D dA ex x0 (lv.map (fun z => z.2) ++ (vs.drop na ++ sv0)) (va_A ws H.size) a) (va_A ws H.size))
    (k : ∀ q ∈ outs, ee_G (p, l, en, R, s, m, args, below, meth, c) (A, D, dA, ex, x0, sv0, nL) Q (ee_next pc (lo.map (fun z => z.1)) (stk.length - na) (kc + mc) (ks + ms) q)) : W p l en R s m args below meth c H lc kc ks Q (F0 m pc ls vs) := by
  have hFc : ∀ q, va_A ws H.size q → A q := by
    intro q h
    rcases h with ⟨k, e, h⟩ | h
    · exact hD.2 k (q, e) h
    · exact hA q (Nat.le_trans hS.1 h)
  refine ee_back hr hS (fun q _ h => hFc q h) hFc (fun q hq ns2 as2 ws2 v H1 lc1 g1 g2 g3 g4 g5 g6 g7 hS1 => ?_)
  obtain ⟨pc2, lo2, stk2, w2, iv2, kc2, ks2, sv2⟩ := q
  have g1 : ee_all (ee_v ns2 as2 ex) stk2 v.toList := g1
  have g4 : ee_all (ee_v ns2 as2 ex) sv2 (lv.map (fun z => z.2) ++ (vs.drop na ++ sv0)) := g4
  have hk := (ee_keys c3l).1
  have hlen : (lo.map (fun z => z.1)).length = (lv.map (fun z => z.2)).length := by rw [hk, List.length_map, List.length_map]
  have hnr : stk.length - na = (vs.drop na).length := by rw [List.length_drop, c4.len]
  obtain ⟨p1, p2⟩ := g4.split2
  obtain ⟨p3, p4⟩ := p2.split2
  have key := k _ hq ns2 as2 H1 lc1 ls (v.toList ++ vs.drop na)
  refine key ⟨g2, g3, ⟨lv, c3, ?_⟩, ?_, ?_, ws2, g5, g6, g7.weaken (fun _ _ _ h => hFc _ h), hS1⟩
  · rw [hlen, hk]
    exact ee_zip p1
  · rw [hlen, hnr]
    exact g1.app p3
  · rw [hlen, hnr]
    exact p4
set_option maxHeartbeats 4000000 in
theorem ee_sound : ∀ f, ee_Sf f := by
  intro f
  induction f with
  | zero =>
    intro d stop y st outs M X Y Q h
    exact ee_no h
  | succ f IH =>
    intro d stop y st outs M X Y Q h hM F hnL k
    unfold ee_exec at h
    by_cases hs : st.1 = stop
    · rw [if_pos hs] at h
      cases h
      exact k _ List.mem_cons_self
    · rw [if_neg hs, hM] at h
      simp only at h
      cases he : ee_find M st.1 with
      | none => rw [he] at h; exact ee_no h
      | some e =>
        rw [he] at h
        simp only at h
        obtain ⟨m1, m2⟩ := ee_find.ok he
        obtain ⟨o1, o2⟩ := ee_MTok y M hM
        obtain ⟨hd, hk, hi⟩ := o2 e m1
        by_cases h21 : e.2.2.2.1 = 21
        · rw [if_pos h21] at h
          cases h
          exact k _ List.mem_cons_self
        · rw [if_neg h21] at h
          by_cases h23 : e.2.2.2.1 = 23
          · rw [if_pos h23] at h
            cases d with
            | zero => exact ee_no h
            | succ d =>
              simp only at h
              cases hq : ee_CL[e.2.2.2.2.1]? with
              | none => rw [hq] at h; exact ee_no h
              | some q =>
                rw [hq] at h
                simp only at h
                cases hN : ee_MT[q.2.2.1]? with
                | none => rw [hN] at h; exact ee_no h
                | some N =>
                  rw [hN] at h
                  simp only at h
                  cases hp : ee_pre q M N e st with
                  | none => rw [hp] at h; exact ee_no h
                  | some st0 =>
                    rw [hp] at h
                    simp only at h
                    cases hex : ee_exec f d 1000000 q.2.2.1 st0 with
                    | none => rw [hex] at h; exact ee_no h
                    | some os =>
                      rw [hex] at h
                      simp only at h
                      by_cases hend : os.all (ee_end N) = true
                      · rw [if_pos hend] at h
                        obtain ⟨⟨t1, t2, t3⟩, ⟨t4, t5⟩, t6, t7, t8, t9⟩ := ee_CLok q N (List.mem_of_getElem? hq) hN
                        obtain ⟨p, l, en, R, s, m, args, below, meth, c⟩ := X
                        obtain ⟨A, D, dA, ex, x0, sv0, nL⟩ := Y
                        obtain ⟨pc, lo, stk, w, iv, kc, ks, sv⟩ := st
                        obtain ⟨pc', ins, len, hn, ea, eb, ez⟩ := e
                        have F0' := F
                        obtain ⟨hx, hb, hml, hown, hts, hK, hA, hini, hR, hE⟩ := F0'
                        have hpc : pc' = pc := m2
                        subst hpc
                        have hd : decode M.2.2.1 pc' = .ok (ins, len) := hd
                        intro ns as H lc ls vs C
                        obtain ⟨c1, c2, ⟨lv, c3, c3l⟩, c4, c5, ws, c6w, hP, hD, hS⟩ := C
                        show W p l en R s m args below meth c H lc kc ks Q (F0 m pc' ls vs)
                        replace hp : (if ee_cc q M N (pc', ins, len, hn, ea, eb, ez) stk w kc ks = true then some (0, ee_arg 0 (stk.take (ee_na q)).reverse, [], w, iv, 0, 0, lo.map (fun z => z.2) ++ (stk.drop (ee_na q) ++ sv)) else none) = some st0 := hp
                        replace h : ee_bind (ee_exec f (d + 1) stop y) (os.map (ee_next pc' (lo.map (fun z => z.1)) (stk.length - ee_na q) (kc + N.2.2.2.2.2.2.1) (ks + N.2.2.2.2.2.2.2))) = some outs := h
                        by_cases hcc : ee_cc q M N (pc', ins, len, hn, ea, eb, ez) stk w kc ks = true
                        · rw [if_pos hcc] at hp
                          cases hp
                          have hc := of_decide_eq_true hcc
                          have hna0 : ee_na q = q.2.2.2.2.1 + (if q.2.2.2.1 = 1 then 0 else 1) := rfl
                          generalize ee_na q = na at hc hex h hna0
                          have hna := hna0.symm
                          obtain ⟨⟨⟨u1, u2⟩, u3⟩, ⟨⟨⟨u4, u5⟩, u9⟩, u6, u7⟩, u8⟩ := hc
                          have hFc : ∀ q, va_A ws H.size q → A q := by
                            intro q h
                            rcases h with ⟨k, e, h⟩ | h
                            · exact hD.2 k (q, e) h
                            · exact hA q (Nat.le_trans hS.1 h)
                          have next : ∀ z ∈ os, ee_G (p, l, en, R, s, m, args, below, meth, c) (A, D, dA, ex, x0, sv0, nL) Q (ee_next pc' (lo.map (fun z => z.1)) (stk.length - na) (kc + N.2.2.2.2.2.2.1) (ks + N.2.2.2.2.2.2.2) z) := by
                            intro z hz
                            obtain ⟨r, r1, r2⟩ := ee_bind.ok h _ (List.mem_map.mpr ⟨z, hz, rfl⟩)
                            exact IH (d + 1) stop y _ r M _ _ Q r1 hM F hnL (fun x hx => k x (r2 x hx))
                          obtain ⟨a1, a2⟩ := c4.parts na
                          have hmet := ee_met IH hex hN hend t1 u3 l D dA ex x0 (lv.map (fun z => z.2) ++ (vs.drop na ++ sv0)) H.size c1 c2 a1.rev ((ee_keys c3l).2.app (a2.app c5)) c6w
                          have hpre : ∀ U : State, U.heap = H → s.WarmedH U.vm → ee_Pc D dA ex x0 (vs.take na).reverse ws H.size (vs.take na).reverse.toArray U := fun U hU hW =>
                            ⟨rfl, by rw [hU], by rw [hU]; exact hP, va_K.moved hW.alike hK, hD.weaken (fun _ _ _ _ => trivial), hE.call hS hU hW hFc⟩
                          have hroom : (ee_rm d N.2.2.2.2.2.2.1 N.2.2.2.2.2.2.2).frames + 1 ≤ R.frames ∧ 8 + (N.2.2.2.1 + 11) + (ee_rm d N.2.2.2.2.2.2.1 N.2.2.2.2.2.2.2).locals ≤ R.locals := by
                            have r1 := hR.1
                            have r2 := hR.2.1
                            show d + 1 + 1 ≤ R.frames ∧ 8 + (N.2.2.2.1 + 11) + 64 * (d + 1) ≤ R.locals
                            omega
                          have hcells : kc + N.2.2.2.2.2.2.1 ≤ R.cells ∧ ks + N.2.2.2.2.2.2.2 ≤ R.slots := ⟨Nat.le_trans u6 hR.2.2.1, Nat.le_trans u7 hR.2.2.2⟩
                          have hwords : (((vs.drop na).map fun v => v.category)).sum ≤ 8 := by
                            rw [ee_cats a2]
                            exact u2
                          have hsplit : vs.take na ++ vs.drop na = vs := List.take_append_drop _ _
                          have hlen : (vs.take na).length = na := by
                            rw [List.length_take, ← c4.len]
                            exact Nat.min_eq_left u1
                          have u4 : len = 3 := u4
                          have u5 : eb = 0 := u5
                          subst u4
                          subst u5
                          have hk : ee_eok M.1 (pc', ins, 3, hn, ea, 0, ez) = true := hk
                          have hq : ee_CL[ea]? = some q := hq
                          have hini2 := hts _ t5
                          have u9 : ee_inv q.2.2.2.1 ins = true := u9
                          have hN1 := (ee_MTok q.2.2.1 N hN).1
                          have hlk : ∀ i kd : Nat, (match ee_CL[ea]? with
                            | some q => decide (q.1 = M.1) && (decide (q.2.1 = i) && decide (q.2.2.2.1 = kd))
                            | none => false) = true → Cond.methodLink M.2.1.cls i N.2.1 ∈ ee_tbl ∧ q.2.2.2.1 = kd := fun i kd z => by
                            rw [hq] at z
                            obtain ⟨z1, z2⟩ := ee_and z
                            obtain ⟨z2, z3⟩ := ee_and z2
                            have z1 := of_decide_eq_true z1
                            have z2 := of_decide_eq_true z2
                            rw [z1, ee_own_ow o1, z2] at t4
                            exact ⟨t4, of_decide_eq_true z3⟩
                          cases ins with
                          | invokevirtual i =>
                            obtain ⟨hl1, hkd⟩ := hlk i 0 hk
                            rw [if_pos hkd] at u8
                            rw [hkd, if_neg (by decide)] at hna
                            rw [hna] at u8
                            have ar := a1.rev
                            cases hA0 : (stk.take na).reverse with
                            | nil => rw [hA0] at u8; cases u8
                            | cons x A1 =>
                              rw [hA0] at ar u8
                              obtain ⟨v0, As, hav, cx, cAs⟩ := ar.cons
                              have u8 : ee_rcv N.1 w x = true := u8
                              cases x with
                              | ref j =>
                                obtain ⟨b, rfl⟩ := ee_v.ref cx
                                rw [hav] at hmet hpre
                                have htk : vs.take na = As.reverse ++ [Value.ref b] := by rw [← List.reverse_reverse (vs.take na), hav, List.reverse_cons]
                                have hstack : vs = As.reverse ++ Value.ref b :: vs.drop na := by
                                  have := hsplit.symm
                                  rw [htk] at this
                                  simpa using this
                                have hnA : As.length = q.2.2.2.2.1 := by
                                  have : (vs.take na).reverse.length = (Value.ref b :: As).length := by rw [hav]
                                  rw [List.length_reverse, hlen, List.length_cons] at this
                                  omega
                                have hrecv : ∃ cell : Cell, H[b]? = some cell ∧ cell.vm.isStatics = false ∧ s.vm.findClass N.2.1.cls = some cell.cls := by
                                  unfold ee_rcv at u8
                                  simp only at u8
                                  by_cases hj : j < 1000000
                                  · rw [if_pos hj] at u8
                                    split at u8
                                    · rename_i ci fs hw
                                      have hci := of_decide_eq_true u8
                                      obtain ⟨ec, g1, vs1, rfl, g3⟩ := c6w.at hw (cx.at hj)
                                      obtain ⟨r, hr1, -⟩ := hP j _ g1
                                      have hr2 := ee_okn ci r hr1
                                      rw [hci, hN1] at hr2
                                      rw [Option.some.inj hr2]
                                      exact va_recv hK hP hr1 g1
                                    · cases u8
                                  · rw [if_neg hj] at u8
                                    obtain ⟨z1, z2⟩ := ee_and u8
                                    have z1 := of_decide_eq_true z1
                                    have z2 := of_decide_eq_true z2
                                    rw [z2] at hN1
                                    rw [← Option.some.inj ((show ee_own[ee_sox]? = some "java/lang/String" from rfl).symm.trans hN1)]
                                    have hb1 := cx.out hj
                                    have hj1 : 1000000 ≤ j := Nat.not_lt.mp hj
                                    obtain ⟨i0, hi0, rfl⟩ : ∃ i0, i0 < 2 ∧ j = 1000000 + i0 := ⟨j - 1000000, Nat.sub_lt_left_of_lt_add hj1 z1, (Nat.add_sub_of_le hj1).symm⟩
                                    rw [hb1]
                                    exact vk_recv hE.1 (i := i0) hi0 hS
                                exact ee_callG c3 c3l c4 hA hD hS (va_runV (As := As) (rest := vs.drop na) ⟨hx, hb, hml, hown, hts⟩ hmet ⟨callB_of q.2.2.2.2.1 hts (ee_goodIn t2) rfl rfl rfl hini2 (hts _ hl1) t6 hroom, hts _ (t7 hkd).1, hts _ (t7 hkd).2⟩ ⟨ee_Pc.blind, hrecv, hpre⟩ rfl hnA c3.1 hstack (lv_room hwords) hd hcells) next
                              | _ => cases u8
                          | invokestatic i =>
                            obtain ⟨hl1, hkd⟩ := hlk i 1 hk
                            rw [hkd, if_pos rfl] at hna
                            have hstack : vs = (vs.take na).reverse.reverse ++ vs.drop na := by rw [List.reverse_reverse, hsplit]
                            have hnA : (vs.take na).reverse.length = q.2.2.2.2.1 := by
                              rw [List.length_reverse, hlen]
                              omega
                            exact ee_callG c3 c3l c4 hA hD hS (va_runS (As := (vs.take na).reverse) (rest := vs.drop na) ⟨hx, hb, hml, hown, hts⟩ hmet ⟨callB_of q.2.2.2.2.1 hts (ee_goodIn t2) rfl rfl rfl hini2 (hts _ hl1) t6 hroom, hts _ (t8 hkd)⟩ ⟨ee_Pc.blind, hpre⟩ rfl hnA c3.1 hstack (lv_room hwords) hd hcells) next
                          | invokespecial i =>
                            obtain ⟨hl1, hkd⟩ := hlk i 2 hk
                            rw [if_neg (by omega), if_pos hkd] at u8
                            rw [hkd, if_neg (by decide)] at hna
                            rw [hna] at u8
                            have ar := a1.rev
                            cases hA0 : (stk.take na).reverse with
                            | nil => rw [hA0] at u8; cases u8
                            | cons x A1 =>
                              rw [hA0] at ar u8
                              obtain ⟨v0, As, hav, cx, cAs⟩ := ar.cons
                              have u8 : ee_isr x = true := u8
                              cases x with
                              | ref j =>
                                obtain ⟨b, rfl⟩ := ee_v.ref cx
                                rw [hav] at hmet hpre
                                have htk : vs.take na = As.reverse ++ [Value.ref b] := by rw [← List.reverse_reverse (vs.take na), hav, List.reverse_cons]
                                have hstack : vs = As.reverse ++ Value.ref b :: vs.drop na := by
                                  have := hsplit.symm
                                  rw [htk] at this
                                  simpa using this
                                have hnA : As.length = q.2.2.2.2.1 := by
                                  have : (vs.take na).reverse.length = (Value.ref b :: As).length := by rw [hav]
                                  rw [List.length_reverse, hlen, List.length_cons] at this
                                  omega
                                obtain ⟨v1, v2, v3⟩ := t9 hkd
                                rw [v3] at hmet t2
                                exact ee_callG c3 c3l c4 hA hD hS (va_runI (As := As) (rest := vs.drop na) (bytes := N.2.2.1) (maxL := N.2.2.2.1) ⟨hx, hb, hml, hown, hts⟩ hmet ⟨callB_of q.2.2.2.2.1 hts (by have := ee_goodIn (N := (N.1, N.2.1, N.2.2.1, N.2.2.2.1, none, N.2.2.2.2.2)) t2; exact this) rfl rfl rfl hini2 (hts _ hl1) t6 hroom, v2, hts _ v1⟩ ⟨ee_Pc.blind, hpre⟩ rfl hnA c3.1 hstack (lv_room hwords) hd hcells) next
                              | _ => cases u8
                          | _ => cases u9
                        · rw [if_neg hcc] at hp
                          exact ee_no hp
                      · rw [if_neg hend] at h
                        exact ee_no h
          · rw [if_neg h23] at h
            cases hh : ee_hs[e.2.2.2.1]? with
            | none => rw [hh] at h; exact ee_no h
            | some g =>
              rw [hh] at h
              simp only at h
              cases hg : g M.2.2.2.1 M.2.2.2.2.2.2.1 M.2.2.2.2.2.2.2 e st with
              | none => rw [hg] at h; exact ee_no h
              | some sts =>
                rw [hg] at h
                simp only at h
                refine ee_hs.snd g (List.mem_of_getElem? hh) X Y M.1 M.2.1.cls M.2.2.1 (M.2.1.name = "<init>") d M.2.2.2.2.2.2.1 M.2.2.2.2.2.2.2 Q e st sts F o1 hi hd hk m2.symm (by rw [hnL]; exact hg) (fun q hq => ?_)
                obtain ⟨a, a1, a2⟩ := ee_bind.ok h q hq
                exact IH d stop y q a M X Y Q a1 hM F hnL (fun x hx => k x (a2 x hx))
end
section
/-! the law from its entry, by the walk -/
theorem ee_arrK {s : State} {args : Array Value} {ty : FieldType} (hp : ∀ C, ty ≠ .object C) (h : (Cond.arrayClass ty).before args s = true) : ∃ cA : ClassId, ArrOfT s cA ty ∧ va_RA s cA ty := by
  obtain ⟨cA, kA, comp, hfind, hk, hkind⟩ := Cond.arrayClass_spec h
  refine ⟨cA, fun n z => ⟨fun k h => (by cases h), kA, hk, comp, hkind⟩, ?_⟩
  cases ty with
  | object C => exact absurd rfl (hp C)
  | _ => exact hfind
/-- the start: the script's cell, six numbers, its length -/
def ee_st0 : ee_st := (0, [(0, .ref 2000000)], [], [], [(-2147483648, 2147483647, none), (-2147483648, 2147483647, none), (-2147483648, 2147483647, none), (-2147483648, 2147483647, none), (-2147483648, 2147483647, none), (-2147483648, 2147483647, none), (0, 6, none)], 0, 0, [])
/-- the end: at a return, with 1 -/
def ee_fin (M : ee_me) (q : ee_st) : Bool := match ee_find M q.1 with
  | some e => decide (e.2.1 = .ireturn) && (decide (e.2.2.1 = 1) && (decide (q.2.2.1 = [.int 1]) && (decide (q.2.2.2.2.2.1 ≤ 600000) && decide (q.2.2.2.2.2.2.1 ≤ 7302250))))
  | none => false
/-- the walk itself: the kernel does it -/
def ee_fuel : Nat := 20000
def ee_o1 : Option (List ee_st) := ee_exec ee_fuel 30 1000000 ee_lawno ee_st0
def ee_good1 (o : Option (List ee_st)) : Bool := match o with
  | some outs => outs.all (ee_fin ee_lawm)
  | none => false
theorem ee_good1.ok {o : Option (List ee_st)} (h : ee_good1 o = true) : ∃ outs, o = some outs ∧ outs.all (ee_fin ee_lawm) = true := by
  cases o with
  | none => cases h
  | some outs => exact ⟨outs, rfl, h⟩
def ee_tm (i : Nat) : Term := .string RX5 (ee_six.getD i 0)
theorem ee_t1 : ∀ i, i < 2 → Cond.exactly (ee_tm i) "java/lang/String" ∈ flatC (Jvm.Cond.and given_1 narrow_1) := by decide +kernel
theorem ee_t2 : ∀ i, i < 2 → Cond.eq (.field (ee_tm i) "java/lang/String" "coder" "B") (.int 0) ∈ flatC (Jvm.Cond.and given_1 narrow_1) := by decide +kernel
theorem ee_t3 : ∀ i, i < 2 → Cond.arrayOf (.field (ee_tm i) "java/lang/String" "value" "[B") .byte ∈ flatC (Jvm.Cond.and given_1 narrow_1) := by decide +kernel
theorem ee_t4 : ∀ i, i < 2 → Cond.eq (.length (.field (ee_tm i) "java/lang/String" "value" "[B")) (.int (Int32.ofNat (ee_len.getD i 0))) ∈ flatC (Jvm.Cond.and given_1 narrow_1) := by decide +kernel
theorem ee_t5 : ∀ i, i < 2 → ∀ j, j < ee_len.getD i 0 → Cond.eq (.elem (.field (ee_tm i) "java/lang/String" "value" "[B") (.int (Int32.ofNat j))) (.int ((ee_byt.getD i []).getD j 0)) ∈ flatC (Jvm.Cond.and given_1 narrow_1) := by decide +kernel
theorem ee_t6 : Cond.not (Cond.eq (ee_tm 0) (ee_tm 1)) ∈ flatC (Jvm.Cond.and given_1 narrow_1) := by decide +kernel
theorem ee_t7 : Cond.eq (.static "java/lang/String" "COMPACT_STRINGS" "Z") (.int 1) ∈ flatC (Jvm.Cond.and given_1 narrow_1) := by decide +kernel
theorem ee_t8 : Cond.isRef (.static "jdk/internal/util/Preconditions" "SIOOBE_FORMATTER" "Ljava/util/function/BiFunction;") ∈ flatC (Jvm.Cond.and given_1 narrow_1) := by decide +kernel
set_option maxHeartbeats 2000000 in
theorem ee_ext {s : State} {b L : Nat} {xs : Nat → Int32} (hL : L ≤ 6) (hts : ∀ w ∈ lw_tbl, w.before #[Value.ref b] s = true) (hX : va_X b L xs s s.heap) (hbl : b < s.heap.size) (hgv : (Jvm.Cond.and given_1 narrow_1).before #[Value.ref b] s = true) :
    ∃ ex : Nat → Nat, ex 2000000 = b ∧ ee_Ext s (fun q : Nat => s.heap.size ≤ q) ex [xs 0, xs 1, xs 2, xs 3, xs 4, xs 5, nI L] := by
  have hs := flat_of_before _ hgv
  have hA : ∀ a : Nat, a < s.heap.size → ¬ (fun q : Nat => s.heap.size ≤ q) a := fun a h => Nat.not_le.mpr h
  obtain ⟨adK, adV, g1, g2⟩ := vk_Sof (N := 2) (tm := ee_tm) (len := ee_len) (byt := ee_byt) (A := fun q : Nat => s.heap.size ≤ q) (by decide) (fun i hi => hs _ (ee_t1 i hi)) (fun i hi => hs _ (ee_t2 i hi)) (fun i hi => hs _ (ee_t3 i hi)) (fun i hi => hs _ (ee_t4 i hi)) (fun i hi j hj => hs _ (ee_t5 i hi j hj)) (fun i j hi hj hne => by
    rcases (show i = 0 ∨ i = 1 by omega) with rfl | rfl
    · rcases (show j = 0 ∨ j = 1 by omega) with rfl | rfl
      · exact absurd rfl hne
      · exact Or.inl (hs _ ee_t6)
    · rcases (show j = 0 ∨ j = 1 by omega) with rfl | rfl
      · exact Or.inr (hs _ ee_t6)
      · exact absurd rfl hne) hA
  obtain ⟨ex, e1, e2, e3⟩ : ∃ ex : Nat → Nat, ex 2000000 = b ∧ (∀ i, i < 2 → ex (1000000 + i) = adK i) ∧ (∀ i, i < 2 → ex (1000100 + i) = adV i) :=
    ⟨fun k => if k = 2000000 then b else if k < 1000100 then adK (k - 1000000) else adV (k - 1000100), by simp, fun i hi => by
      show (if 1000000 + i = 2000000 then b else if 1000000 + i < 1000100 then adK (1000000 + i - 1000000) else adV (1000000 + i - 1000100)) = adK i
      rw [if_neg (by omega), if_pos (by omega), Nat.add_sub_cancel_left], fun i hi => by
      show (if 1000100 + i = 2000000 then b else if 1000100 + i < 1000100 then adK (1000100 + i - 1000000) else adV (1000100 + i - 1000100)) = adV i
      rw [if_neg (by omega), if_neg (by omega), Nat.add_sub_cancel_left]⟩
  refine ⟨ex, e1, ⟨fun i hi => ?_, fun i j hi hj h => ?_⟩, fun i hi => ?_, va_Zof (hts _ ee_ls0) (hts _ ee_ini0) (va_eqi (hs _ ee_t7)) hA, va_Zqof (hts _ ee_ls1) (hts _ ee_ini1) (hs _ ee_t8) hA, L, xs, by rw [e1]; exact hX, by rw [e1]; exact hbl, by rw [e1]; exact hA b hbl, rfl, hL, fun j hj => ?_⟩
  · simp only [e2 i hi, e3 i hi]
    exact g1.1 i hi
  · simp only [e2 i hi, e2 j hj] at h
    exact g1.2 i j hi hj h
  · rw [e2 i hi]
    exact vk_R.of (hts _ (ee_srf i hi)) (g2 i hi)
  · match j, hj with
    | 0, _ => rfl
    | 1, _ => rfl
    | 2, _ => rfl
    | 3, _ => rfl
    | 4, _ => rfl
    | 5, _ => rfl
    | j + 6, hj => omega
theorem ee_fin.ok {M : ee_me} {q : ee_st} (h : ee_fin M q = true) : ∃ e, ee_find M q.1 = some e ∧ e.2.1 = .ireturn ∧ e.2.2.1 = 1 ∧ q.2.2.1 = [.int 1] ∧ q.2.2.2.2.2.1 ≤ 600000 ∧ q.2.2.2.2.2.2.1 ≤ 7302250 := by
  unfold ee_fin at h
  cases hf : ee_find M q.1 with
  | none => rw [hf] at h; cases h
  | some e =>
    rw [hf] at h
    obtain ⟨h1, h2⟩ := ee_and h
    obtain ⟨h2, h3⟩ := ee_and h2
    obtain ⟨h3, h4⟩ := ee_and h3
    obtain ⟨h4, h5⟩ := ee_and h4
    exact ⟨e, rfl, of_decide_eq_true h1, of_decide_eq_true h2, of_decide_eq_true h3, of_decide_eq_true h4, of_decide_eq_true h5⟩
end
section
/-! two states, compared -/
def ee_ceq (a b : ee_cell) : Bool := match a, b with
  | .inl x, .inl y => decide (x = y)
  | .inr x, .inr y => decide (x = y)
  | _, _ => false
theorem ee_ceq.ok : ∀ {a b : ee_cell}, ee_ceq a b = true → a = b
  | .inl x, .inl y, h => by rw [of_decide_eq_true (show decide (x = y) = true from h)]
  | .inr x, .inr y, h => by rw [of_decide_eq_true (show decide (x = y) = true from h)]
  | .inl _, .inr _, h => by cases h
  | .inr _, .inl _, h => by cases h
def ee_weq : ee_w → ee_w → Bool
  | [], [] => true
  | a :: l, b :: k => ee_ceq a b && ee_weq l k
  | _, _ => false
theorem ee_weq.ok : ∀ {a b : ee_w}, ee_weq a b = true → a = b
  | [], [], _ => rfl
  | a :: l, b :: k, h => by
    obtain ⟨h1, h2⟩ := ee_and h
    rw [ee_ceq.ok h1, ee_weq.ok h2]
  | [], _ :: _, h => by cases h
  | _ :: _, [], h => by cases h
def ee_seq (a b : ee_st) : Bool := decide (a.1 = b.1) && (decide (a.2.1 = b.2.1) && (decide (a.2.2.1 = b.2.2.1) && (ee_weq a.2.2.2.1 b.2.2.2.1 && decide (a.2.2.2.2 = b.2.2.2.2))))
theorem ee_seq.ok {a b : ee_st} (h : ee_seq a b = true) : a = b := by
  obtain ⟨h1, h2⟩ := ee_and h
  obtain ⟨h2, h3⟩ := ee_and h2
  obtain ⟨h3, h4⟩ := ee_and h3
  obtain ⟨h4, h5⟩ := ee_and h4
  have h1 := of_decide_eq_true h1
  have h2 := of_decide_eq_true h2
  have h3 := of_decide_eq_true h3
  have h4 := ee_weq.ok h4
  have h5 := of_decide_eq_true h5
  obtain ⟨a1, a2, a3, a4, a5⟩ := a
  obtain ⟨b1, b2, b3, b4, b5⟩ := b
  cases h1; cases h2; cases h3; cases h4; cases h5
  rfl
end
section
/-! THE CLAIM OUT OF ONE WALK OF THE LAW'S BODY. Your part is whole_start (and what it stands on); all else here is the same for every law, but numbers. -/
def R_law : String := "PepperTablesLaw"
def lw_P (b : Addr) (xs : List Int32) (args : Array Value) (s : State) : Prop := args = #[.ref b] ∧ s.IntsAt b xs ∧ xs.length ≤ 6 ∧ (Jvm.Cond.and given_1 narrow_1).before args s = true
def lw_Q (_ : Array Value) (s : State) (o : Outcome) (t : State) : Prop := o = .returned (some (.int 1)) ∧ Framed s o t [] 600000 7302250
def lw_Z (below : List Frame) (a : Array Value) (s : State) : State → Prop := fun t => ∃ o, t.status = .running ∧ Ended t below o ∧ lw_Q a s o t
/-- the law's own end, with 1 on the stack, nothing written that was there before, its room as the claim has it -/
theorem lw_ret {p : Program} {l : Launch} {e : Env} {s : State} {m : MethodId} {below : List Frame} {meth : Method} {c : Code} {b : Nat} (hx : p.tables.exec = Jvm.exec) (hb : c.code = code) (hr : meth.sig.returnType = ret) (hlocks : meth.locks = false) {pc : Nat} {H : Heap} {ls : Array Slot} (hdg : decode code pc = .ok (.ireturn, 1)) : W p l e room_1 s m #[Value.ref b] below meth c H [] 600000 7302250 (lw_Z below #[Value.ref b] s) (F0 m pc ls [.int 1]) := by
  intro T hT X
  obtain ⟨fs, hret, hrun, hended, hW, hframe⟩ := X.leave (v := some (.int 1)) (hlocks := hlocks) (fun h => by rw [hr] at h; cases h)
  have hmeth' : T.vm.method? m = some meth := X.method'
  refine ⟨T.setFrames fs, ?_, .returned (some (.int 1)), hrun, hended, rfl, ⟨_, rfl⟩, hW, hframe⟩
  jvm_step X.here [X.here.top, hx, hb, hdg, hmeth', hr, ret, narrow_b1]
  (try refine ⟨rfl, ?_⟩); (try refine ⟨rfl, ?_⟩)
  first | (intro acts; rw [hret _ acts rfl rfl rfl]) | rw [hret _ _ rfl rfl rfl]
  exact Steps.refl _
/-- what holds at the law's entry: the machine, the code, the tables' words (any of lw_tbl by 'hts w (by decide +kernel)'), the script of L ints xs at the cell b, what the Statement gives of the start (any of its parts by flat_of_before) -/
def lw_At (p : Program) (s : State) (m : MethodId) (meth : Method) (c : Code) (b L : Nat) (xs : Nat → Int32) : Prop :=
  p.tables.exec = Jvm.exec ∧ c.code = code ∧ meth.sig.returnType = ret ∧ c.maxLocals = 4 ∧ s.vm.findClass R_law = some m.cls ∧ (∀ w ∈ lw_tbl, w.before #[Value.ref b] s = true) ∧ va_X b L xs s s.heap ∧ b < s.heap.size ∧ meth.locks = false ∧ (Jvm.Cond.and given_1 narrow_1).before #[Value.ref b] s = true
end
section
/-! the law behind both constructors, at its switch -/
def ee_w1 : ee_w := [.inl (8, [.ref 1, .ref 14, .ref 24, .ref 27, .ref 30, .ref 34, .ref 36, .ref 39, .ref 43, .ref 55, .ref 56, .ref 57]),
  .inl (5, [.int 0, .int 0, .int (-1), .ref 2, .ref 12, .ref 13, .int 0, .int 0, .int 0, .int 0, .long 0]),
  .inl (7, [.int 0, .int 0, .int 0, .int 0, .int 0, .int 0, .int 3, .int 0, .int 0, .int 0, .ref 3, .ref 4, .ref 5, .ref 6, .ref 7, .ref 8, .ref 9, .ref 10, .ref 11]),
  .inr (0, 6, 0, 0, []),
  .inr (0, 10, 0, 0, []),
  .inr (0, 10, 0, 0, []),
  .inr (0, 10, 0, 0, []),
  .inr (0, 10, 0, 0, []),
  .inr (0, 320, 0, 0, [(2, .int 62), (1, .int 17), (0, .int 16)]),
  .inr (3, 6, 0, 0, []),
  .inr (3, 5, 0, 0, []),
  .inr (3, 10, 0, 0, []),
  .inr (0, 1600, 0, 0, []),
  .inr (3, 18, 0, 0, []),
  .inl (7, [.int 0, .int 0, .int 0, .int 0, .int 0, .int 0, .int 3, .int 0, .int 0, .int 0, .ref 15, .ref 16, .ref 17, .ref 18, .ref 19, .ref 20, .ref 21, .ref 22, .ref 23]),
  .inr (0, 6, 0, 0, []),
  .inr (0, 10, 0, 0, []),
  .inr (0, 10, 0, 0, []),
  .inr (0, 10, 0, 0, []),
  .inr (0, 10, 0, 0, []),
  .inr (0, 320, 0, 0, [(2, .int 62), (1, .int 17), (0, .int 16)]),
  .inr (3, 6, 0, 0, []),
  .inr (3, 5, 0, 0, []),
  .inr (3, 10, 0, 0, []),
  .inl (6, [.int 0, .int 0, .int 0, .int 0, .ref 25, .ref 26]),
  .inr (0, 10, 0, 0, []),
  .inr (0, 5, 0, 0, []),
  .inl (6, [.int 0, .int 0, .int 0, .int 0, .ref 28, .ref 29]),
  .inr (0, 10, 0, 0, []),
  .inr (0, 5, 0, 0, []),
  .inl (4, [.ref 31, .ref 32, .ref 33]),
  .inr (0, 6, 0, 0, []),
  .inr (0, 64, 0, 0, []),
  .inr (0, 7, 0, 0, []),
  .inl (0, [.int 0, .int 0, .int 0, .ref 35]),
  .inr (0, 779, 0, 0, []),
  .inl (1, [.ref 37, .ref 38]),
  .inr (0, 57, 0, 0, []),
  .inr (2, 3, 0, 0, []),
  .inl (3, [.int 0, .ref 40, .ref 41, .ref 42, .int 0]),
  .inr (0, 6, 0, 0, []),
  .inr (0, 6, 0, 0, []),
  .inr (0, 6, 0, 0, []),
  .inl (2, [.int 0, .int 0, .int 0, .int 0, .ref 44, .ref 45, .ref 46, .ref 47, .ref 48, .ref 49, .ref 50, .ref 51, .ref 52]),
  .inr (0, 30, 0, 0, []),
  .inr (0, 30, 0, 0, []),
  .inr (2, 30, 0, 0, []),
  .inr (0, 30, 0, 0, []),
  .inr (0, 30, 0, 0, []),
  .inr (0, 180, 0, 0, []),
  .inr (2, 36, 0, 0, []),
  .inr (0, 11, 0, 0, []),
  .inl (6, [.int 0, .int 0, .int 0, .int 0, .ref 53, .ref 54]),
  .inr (0, 10, 0, 0, []),
  .inr (0, 5, 0, 0, []),
  .inr (0, 20, 0, 0, []),
  .inr (0, 4, 0, 0, []),
  .inr (0, 4, 0, 0, []),
  .inl (9, [.ref 59, .ref 60, .int 0, .int 0, .int 0, .int (-1), .int 0, .int 0, .int 0, .int 0, .long 0, .ref 61, .ref 62, .ref 63, .ref 64, .ref 65, .ref 66, .ref 67, .ref 68, .ref 69, .ref 70, .ref 71, .ref 72, .ref 73, .ref 74, .ref 75, .ref 76, .ref 77, .ref 78, .ref 79, .ref 80, .ref 81, .ref 82, .int 0, .int 0, .int 0, .int 0, .int 0, .int 0, .int 0, .int 0, .int 0, .ref 83, .int (-1), .int 0, .ref 84, .int 0, .int 0, .ref 85, .ref 86, .int 0, .ref 87, .ref 88, .ref 89, .ref 90, .ref 91, .ref 92, .ref 93, .ref 94, .ref 95, .int 0, .int 0, .int 0, .ref 96, .ref 97]),
  .inr (1, 1620, 0, 0, []),
  .inr (1, 1600, 0, 0, []),
  .inr (0, 2, 0, 0, [(0, .int 0)]),
  .inr (0, 2, 0, 0, [(0, .int 0)]),
  .inr (0, 2, 0, 0, [(0, .int 0)]),
  .inr (0, 2, 0, 0, [(0, .int 0)]),
  .inr (0, 2, 0, 0, [(0, .int 0)]),
  .inr (0, 2, 0, 0, [(0, .int 0)]),
  .inr (0, 2, 0, 0, [(0, .int 0)]),
  .inr (0, 12, 0, 0, []),
  .inr (0, 20, 0, 0, []),
  .inr (0, 20, 0, 0, []),
  .inr (0, 20, 0, 0, []),
  .inr (0, 20, 0, 0, []),
  .inr (0, 2, 0, 0, []),
  .inr (0, 2, 0, 0, []),
  .inr (3, 12, 0, 0, []),
  .inr (3, 10, 0, 0, []),
  .inr (3, 20, 0, 0, []),
  .inr (0, 1120, 0, 0, []),
  .inr (0, 1120, 0, 0, []),
  .inr (0, 90, 0, 0, []),
  .inr (0, 90, 0, 0, []),
  .inr (0, 60, 0, 0, []),
  .inr (0, 19, 0, 0, [(18, .int 0), (11, .int (-1)), (10, .int (-1)), (9, .int (-1)), (8, .int (-1)), (7, .int (-1)), (6, .int (-1)), (5, .int (-1)), (4, .int (-1)), (3, .int (-1)), (2, .int (-1)), (18, .int 0), (17, .int 0), (16, .int 0), (15, .int 0), (14, .int 0), (13, .int 0), (12, .int 0), (11, .int 0), (10, .int 0), (9, .int 0), (8, .int 0), (7, .int 0), (6, .int 0), (5, .int 0), (4, .int 0), (3, .int 0), (2, .int 0), (1, .int 0), (0, .int 0)]),
  .inr (0, 779, 0, 0, []),
  .inr (0, 19, 0, 0, []),
  .inr (0, 6, 0, 0, []),
  .inr (0, 8, 0, 0, []),
  .inr (0, 180, 0, 0, []),
  .inr (0, 30, 0, 0, []),
  .inr (0, 30, 0, 0, []),
  .inr (0, 30, 0, 0, []),
  .inr (0, 30, 0, 0, []),
  .inr (0, 30, 0, 0, []),
  .inr (0, 12, 0, 0, []),
  .inr (0, 11, 0, 0, []),
  .inr (0, 57, 0, 0, []),
  .inr (2, 3, 0, 0, [(2, .int 0), (1, .int 0), (0, .int 0)])]
def ee_s1 : ee_st := (33, [(3, .int 0), (2, .ref 58), (1, .ref 0), (0, .ref 2000000)], [.retAddr 7], ee_w1, [((-2147483648), 2147483647, none), ((-2147483648), 2147483647, none), ((-2147483648), 2147483647, none), ((-2147483648), 2147483647, none), ((-2147483648), 2147483647, none), ((-2147483648), 2147483647, none), (6, 6, none), (0, 63, none)], 98, 11043, [])
def ee_okA (q : ee_st) : Bool := ee_fin ee_lawm q || ee_seq q ee_s1
def ee_goodA (o : Option (List ee_st)) : Bool := match o with
  | some outs => outs.all ee_okA
  | none => false
set_option maxRecDepth 1000000 in
theorem ee_runA : ee_goodA (ee_exec ee_fuel 30 33 ee_lawno ee_st0) = true := by decide +kernel
end
section
def ee_s2 (a b : Int) : ee_st := (33, [(3, .int 0), (2, .ref 58), (1, .ref 0), (0, .ref 2000000)], [.retAddr 7], ee_w1, [((-2147483648), 2147483647, none), ((-2147483648), 2147483647, none), ((-2147483648), 2147483647, none), ((-2147483648), 2147483647, none), ((-2147483648), 2147483647, none), ((-2147483648), 2147483647, none), (6, 6, none), (a, b, none)], 98, 11043, [])
set_option maxRecDepth 1000000 in
theorem ee_runB0 : ee_good1 (ee_exec ee_fuel 30 1000000 ee_lawno (ee_s2 0 7)) = true := by decide +kernel
end
section
set_option maxRecDepth 1000000 in
theorem ee_runB1 : ee_good1 (ee_exec ee_fuel 30 1000000 ee_lawno (ee_s2 8 15)) = true := by decide +kernel
end
section
set_option maxRecDepth 1000000 in
theorem ee_runB2 : ee_good1 (ee_exec ee_fuel 30 1000000 ee_lawno (ee_s2 16 19)) = true := by decide +kernel
end
section
set_option maxRecDepth 1000000 in
theorem ee_runB3 : ee_good1 (ee_exec ee_fuel 30 1000000 ee_lawno (ee_s2 20 27)) = true := by decide +kernel
end
section
set_option maxRecDepth 1000000 in
theorem ee_runB4 : ee_good1 (ee_exec ee_fuel 30 1000000 ee_lawno (ee_s2 28 29)) = true := by decide +kernel
end
section
set_option maxRecDepth 1000000 in
theorem ee_runB5 : ee_good1 (ee_exec ee_fuel 30 1000000 ee_lawno (ee_s2 30 39)) = true := by decide +kernel
end
section
set_option maxRecDepth 1000000 in
theorem ee_runB6 : ee_good1 (ee_exec ee_fuel 30 1000000 ee_lawno (ee_s2 40 47)) = true := by decide +kernel
end
section
set_option maxRecDepth 1000000 in
theorem ee_runB7 : ee_good1 (ee_exec ee_fuel 30 1000000 ee_lawno (ee_s2 48 51)) = true := by decide +kernel
end
section
set_option maxRecDepth 1000000 in
theorem ee_runB8 : ee_good1 (ee_exec ee_fuel 30 1000000 ee_lawno (ee_s2 52 53)) = true := by decide +kernel
end
section
set_option maxRecDepth 1000000 in
theorem ee_runB9 : ee_good1 (ee_exec ee_fuel 30 1000000 ee_lawno (ee_s2 54 63)) = true := by decide +kernel
end
section
/-! THE LAW, from its entry -/
set_option maxHeartbeats 4000000 in
set_option maxRecDepth 100000 in
theorem whole_law {p : Program} {e : Env} {s : State} {m : MethodId} {below : List Frame} {meth : Method} {c : Code} (l : Launch) (hflags : l.flags = flags0) {b L : Nat} {xs : Nat → Int32} (hL : L ≤ 6) (C0 : lw_At p s m meth c b L xs) {outs : List ee_st} {fu : Nat} (hex : ee_exec fu 30 33 ee_lawno ee_st0 = some outs) (hrun : ∀ q ∈ outs, ee_fin ee_lawm q = true ∨ q = ee_s1) (hB : ∀ z : Int, 0 ≤ z → z ≤ 63 → ∃ (a b : Int) (outs2 : List ee_st), a ≤ z ∧ z ≤ b ∧ ee_exec ee_fuel 30 1000000 ee_lawno (ee_s2 a b) = some outs2 ∧ outs2.all (ee_fin ee_lawm) = true) : W p l e room_1 s m #[Value.ref b] below meth c s.heap [] 0 0 (lw_Z below #[Value.ref b] s) (entryFrame m ([Value.ref b] : List Value).toArray 4) := by
  obtain ⟨hx, hb, hr, hml, hown, hts, hX, hbl, hlocks, hgv⟩ := id C0
  have hts' : ∀ w ∈ ee_tbl, w.before #[Value.ref b] s = true := fun w hw => hts w (ee_tbl_lw w hw)
  have hall : ∀ k : Nat, ∃ u : ClassId × (Nat → Nat), ∀ q, vwCl[k]? = some q → u_Kn s q.1 q.2.1 q.2.2 u.1 u.2 := by
    intro k
    cases hq : vwCl[k]? with
    | none => exact ⟨(0, fun _ => 0), fun q h => by cases h⟩
    | some q =>
      obtain ⟨cC, iS, h⟩ := u_known (C := q.1) (T := q.2.1) (N := q.2.2) (n := q.2.2) hts' (ee_kd k q hq).1 (hts' _ (ee_inst k q hq))
      exact ⟨(cC, iS), fun q' h' => by cases h'; exact h⟩
  obtain ⟨a1, a2, a3, a4⟩ := ee_arr
  obtain ⟨d0, k0⟩ := ee_arrK (ty := .int) (fun _ q => by cases q) (hts' _ a1)
  obtain ⟨d1, k1⟩ := ee_arrK (ty := .byte) (fun _ q => by cases q) (hts' _ a2)
  obtain ⟨d2, k2⟩ := ee_arrK (ty := .boolean) (fun _ q => by cases q) (hts' _ a3)
  obtain ⟨d3, k3⟩ := ee_arrK (ty := .long) (fun _ q => by cases q) (hts' _ a4)
  obtain ⟨D, hD0⟩ : ∃ D : va_G, ∀ (k : Nat) (q : vw_C), vwCl[k]? = some q → u_Kn s q.1 q.2.1 q.2.2 (D.1 k) (D.2 k) := ⟨(fun k => (Classical.choose (hall k)).1, fun k => (Classical.choose (hall k)).2), fun k q hq => Classical.choose_spec (hall k) q hq⟩
  obtain ⟨dA, g0, g1, g2, g3⟩ : ∃ dA : Nat → ClassId, dA 0 = d0 ∧ dA 1 = d1 ∧ dA 2 = d2 ∧ dA 3 = d3 := ⟨fun t => if t = 0 then d0 else if t = 1 then d1 else if t = 2 then d2 else d3, rfl, rfl, rfl, rfl⟩
  have hK : va_K D vwCl (ee_tys dA) s := ⟨hD0, fun k q hk => by
    match k, hk with
    | 0, hk => cases hk; rw [g0]; exact k0
    | 1, hk => cases hk; rw [g1]; exact k1
    | 2, hk => cases hk; rw [g2]; exact k2
    | 3, hk => cases hk; rw [g3]; exact k3
    | k + 4, hk => simp [ee_tys] at hk⟩
  obtain ⟨ex, e1, hE⟩ := ee_ext hL hts hX hbl hgv
  have hP : va_P D vwCl [] s.heap := fun k q h => by simp at h
  have hD : va_D (fun q : Nat => s.heap.size ≤ q) [] := ⟨fun i j p q h => by simp at h, fun k q h => by simp at h⟩
  have hl := lv_entry ([.ref b]) (n := 4) (Nat.le_of_ble_eq_true rfl)
  rw [lg_entry_eq]
  have hfin : ∀ q, ee_fin ee_lawm q = true → ee_G (p, l, e, room_1, s, m, #[Value.ref b], below, meth, c) (fun q : Nat => s.heap.size ≤ q, D, dA, ex, [xs 0, xs 1, xs 2, xs 3, xs 4, xs 5, nI L], [], 4) (lw_Z below #[Value.ref b] s) q := by
    intro q hq
    obtain ⟨en, f1, f2, f3, f4, f5, f6⟩ := ee_fin.ok hq
    obtain ⟨m1, m2⟩ := ee_find.ok f1
    have hd := ((ee_MTok _ _ ee_lawM).2 en m1).1
    rw [m2, f2, f3] at hd
    obtain ⟨pc, lo, stk, w, iv, kc, ks, sv⟩ := q
    have f4 : stk = [.int 1] := f4
    subst f4
    intro ns as H lc ls vs C
    obtain ⟨c1, c2, c3, c4, c5, ws, c6w, hP1, hD1, hS1⟩ := C
    obtain ⟨v, vs1, rfl, cv, c4⟩ := c4.cons
    cases vs1 with
    | cons v2 vs2 => exact c4.elim
    | nil =>
      cases (show v = .int 1 from cv)
      refine va_forget (fun q hq => hS1.2.2 q hq) ?_
      refine W.widen f5 f6 ?_
      exact lw_ret hx hb hr hlocks hd
  have F : ee_F (p, l, e, room_1, s, m, #[Value.ref b], below, meth, c) (fun q : Nat => s.heap.size ≤ q, D, dA, ex, [xs 0, xs 1, xs 2, xs 3, xs 4, xs 5, nI L], [], 4) ee_lawm.2.1.cls ee_lawm.2.2.1 ee_tbl (ee_lawm.2.1.name = "<init>") (30 + 1) ee_lawm.2.2.2.2.2.2.1 ee_lawm.2.2.2.2.2.2.2 :=
    ⟨hx, hb, hml, hown, hts', hK, fun q hq => hq, fun h => absurd h (by decide), ⟨Nat.le_of_ble_eq_true rfl, Nat.le_of_ble_eq_true rfl, Nat.le_of_ble_eq_true rfl, Nat.le_of_ble_eq_true rfl⟩, hE⟩
  have hends : ∀ q ∈ outs, ee_G (p, l, e, room_1, s, m, #[Value.ref b], below, meth, c) (fun q : Nat => s.heap.size ≤ q, D, dA, ex, [xs 0, xs 1, xs 2, xs 3, xs 4, xs 5, nI L], [], 4) (lw_Z below #[Value.ref b] s) q := by
    intro q hq
    rcases hrun q hq with h | h
    · exact hfin q h
    · subst h
      intro ns as H lc ls vs C
      obtain ⟨c1, c2⟩ := C
      obtain ⟨z, g1, g2, g3, -⟩ := c1.2 7 (0, 63, none) rfl
      obtain ⟨a, b', outs2, h1, h2, h3, h4⟩ := hB z.toInt g2 g3
      exact ee_sound ee_fuel 30 1000000 ee_lawno (ee_s2 a b') outs2 ee_lawm _ _ _ h3 ee_lawM F rfl (fun q hq => hfin q (List.all_eq_true.mp h4 q hq)) ns as H lc ls vs ⟨ee_put.ok (as := as) (ex := ex) (x := .retAddr 7) c1 ⟨z, g1, rfl⟩ h1 h2, c2⟩
  refine ee_sound fu 30 33 ee_lawno ee_st0 outs ee_lawm _ _ _ hex ee_lawM F rfl hends [xs 0, xs 1, xs 2, xs 3, xs 4, xs 5, nI L] [] s.heap [] _ [] ⟨?_, ⟨[], (List.append_nil _).symm⟩, ⟨_, hl, ⟨⟨rfl, ?_⟩, trivial⟩⟩, trivial, trivial, [], ⟨rfl, trivial⟩, hP, hD, va_S.rf⟩
  · refine ⟨rfl, fun k q hk => ?_⟩
    have full : ∀ z : Int32, ∃ y, some z = some y ∧ (-2147483648 : Int) ≤ y.toInt ∧ y.toInt ≤ 2147483647 ∧ ∀ (j : Nat) (d : Int32), (none : Option (Nat × Int32)) = some (j, d) → ∃ u, ([xs 0, xs 1, xs 2, xs 3, xs 4, xs 5, nI L] : List Int32)[j]? = some u ∧ y = u + d := fun z => ⟨z, rfl, (ee_rng z).1, (ee_rng z).2, fun _ _ q => by cases q⟩
    match k, hk with
    | 0, hk => cases hk; exact full _
    | 1, hk => cases hk; exact full _
    | 2, hk => cases hk; exact full _
    | 3, hk => cases hk; exact full _
    | 4, hk => cases hk; exact full _
    | 5, hk => cases hk; exact full _
    | 6, hk =>
      cases hk
      have hn := nI_toInt (n := L) (by omega)
      exact ⟨nI L, rfl, by show (0 : Int) ≤ (nI L).toInt; omega, by show (nI L).toInt ≤ 6; omega, fun _ _ q => by cases q⟩
    | k + 7, hk => cases hk
  · show ee_v _ _ ex (.ref 2000000) (.ref b)
    rw [← e1]
    exact ee_v.outs (by decide)

theorem whole_start {p : Program} {e : Env} {s : State} {m : MethodId} {below : List Frame} {meth : Method} {c : Code} (l : Launch) (hflags : l.flags = flags0) {b L : Nat} {xs : Nat → Int32} (hL : L ≤ 6) (C0 : lw_At p s m meth c b L xs) : W p l e room_1 s m #[Value.ref b] below meth c s.heap [] 0 0 (lw_Z below #[Value.ref b] s) (entryFrame m ([Value.ref b] : List Value).toArray 4) := by
  have hA : ∃ outs, ee_exec ee_fuel 30 33 ee_lawno ee_st0 = some outs ∧ ∀ q ∈ outs, ee_fin ee_lawm q = true ∨ q = ee_s1 := by
    have h := ee_runA
    generalize ee_exec ee_fuel 30 33 ee_lawno ee_st0 = o at h ⊢
    cases o with
    | none => cases h
    | some outs =>
      refine ⟨outs, rfl, fun q hq => ?_⟩
      have h2 := List.all_eq_true.mp (show outs.all ee_okA = true from h) q hq
      rcases (Bool.or_eq_true _ _).mp (show (ee_fin ee_lawm q || ee_seq q ee_s1) = true from h2) with h3 | h3
      · exact Or.inl h3
      · exact Or.inr (ee_seq.ok h3)
  obtain ⟨outs, h1, h2⟩ := hA
  refine whole_law l hflags hL C0 h1 h2 (fun z z1 z2 => ?_)
  by_cases e0 : z ≤ 7
  · obtain ⟨o, o1, o2⟩ := ee_good1.ok ee_runB0
    exact ⟨0, 7, o, by omega, e0, o1, o2⟩
  by_cases e1 : z ≤ 15
  · obtain ⟨o, o1, o2⟩ := ee_good1.ok ee_runB1
    exact ⟨8, 15, o, by omega, e1, o1, o2⟩
  by_cases e2 : z ≤ 19
  · obtain ⟨o, o1, o2⟩ := ee_good1.ok ee_runB2
    exact ⟨16, 19, o, by omega, e2, o1, o2⟩
  by_cases e3 : z ≤ 27
  · obtain ⟨o, o1, o2⟩ := ee_good1.ok ee_runB3
    exact ⟨20, 27, o, by omega, e3, o1, o2⟩
  by_cases e4 : z ≤ 29
  · obtain ⟨o, o1, o2⟩ := ee_good1.ok ee_runB4
    exact ⟨28, 29, o, by omega, e4, o1, o2⟩
  by_cases e5 : z ≤ 39
  · obtain ⟨o, o1, o2⟩ := ee_good1.ok ee_runB5
    exact ⟨30, 39, o, by omega, e5, o1, o2⟩
  by_cases e6 : z ≤ 47
  · obtain ⟨o, o1, o2⟩ := ee_good1.ok ee_runB6
    exact ⟨40, 47, o, by omega, e6, o1, o2⟩
  by_cases e7 : z ≤ 51
  · obtain ⟨o, o1, o2⟩ := ee_good1.ok ee_runB7
    exact ⟨48, 51, o, by omega, e7, o1, o2⟩
  by_cases e8 : z ≤ 53
  · obtain ⟨o, o1, o2⟩ := ee_good1.ok ee_runB8
    exact ⟨52, 53, o, by omega, e8, o1, o2⟩
  obtain ⟨o, o1, o2⟩ := ee_good1.ok ee_runB9
  exact ⟨54, 63, o, by omega, z2, o1, o2⟩
end
section
set_option maxHeartbeats 4000000 in
theorem lw_walk (l : Launch) (hflags : l.flags = flags0) (b : Addr) (xs : List Int32) : MetFree l x (headSpec (Jvm.Cond.code x code maxLocals ret :: tables_1) room_1) (lw_P b xs) (fun _ _ _ _ _ => True) lw_Q := by
  refine MetFree.of_bodyS (code := code) (maxLocals := maxLocals) (ret := ret) (by decide) ?_ ?_
  · intro args s m h hn
    obtain ⟨meth, c, h1, h2, h3, h4, h5, h6, -, -⟩ := Cond.code_spec hn (atoms_spec (ws := Jvm.Cond.code x code maxLocals ret :: tables_1) h _ List.mem_cons_self)
    exact ⟨meth, c, h1, h2, h3, h4, h5, h6⟩
  · intro p e s m args below meth c s₁ B hml0 hP _
    obtain ⟨rfl, hx, hbd, hgv⟩ := hP
    obtain ⟨scr, harrAt, hlist, hof, hsmall⟩ := hx
    obtain ⟨hcb, hkn, -, -⟩ := State.arrayAt?_spec harrAt
    have hown : s.vm.findClass R_law = some m.cls := findClass_of_methodNamed B.named
    have hts0 : ∀ c ∈ (Jvm.Cond.code x code maxLocals ret :: tables_1), c.before #[Value.ref b] s = true := atoms_spec (ws := Jvm.Cond.code x code maxLocals ret :: tables_1) B.pre
    have hts : ∀ w ∈ lw_tbl, w.before #[Value.ref b] s = true := k2_hts_sels lw_privs (fun w hw => hts0 w (List.mem_cons_of_mem _ hw)) lw_privs_ok
    have hml : c.maxLocals = 4 := B.maxLocals_eq (hts0 _ List.mem_cons_self)
    have X₀ : Stand p l e room_1 s m #[Value.ref b] below meth c s₁ [] 0 0 := Stand.of_body B
    have hh0 : s₁.heap = s.heap := by rw [B.state]; rfl
    have hsz : scr.slots.size = xs.length := by rw [← Array.length_toList, hlist, List.length_map]
    have hval : ∀ j : Nat, j < xs.length → scr.slots[j]? = some (.int (xs.getD j 0)) := fun j hj => by
      rw [← Array.getElem?_toList, hlist]
      simp [hj]
    have hbl : b < s.heap.size := (Array.getElem?_eq_some_iff.mp hcb).1
    have hX : va_X b xs.length (fun j => xs.getD j 0) s s.heap := ⟨scr, hcb, hof, hkn, hsz, hval⟩
    have K : W p l e room_1 s m #[Value.ref b] below meth c s₁.heap [] 0 0 (lw_Z below #[Value.ref b] s) (entryFrame m ([Value.ref b] : List Value).toArray 4) := by
      rw [hh0]
      exact whole_start l hflags hbd ⟨B.exec, B.bytes, B.returns, hml, hown, hts, hX, hbl, B.notSynchronized, hgv⟩
    obtain ⟨t, a1, o, b1, b2, b3⟩ := K s₁ rfl X₀
    exact ⟨t, o, a1, b1, b2, b3⟩
theorem lw_pre_spec {args : Array Value} {s : State} (h : (Jvm.Cond.and given_1 narrow_1).before args s = true) (hr : rest_1_c.before args s = true) : ∃ (b : Addr) (xs : List Int32), lw_P b xs args s := by
  have hs := flat_of_before _ h
  have hq := flat_of_before _ hr
  have hc : (Cond.count 1).before args s = true := hs _ (by decide +kernel)
  have harr : (Cond.arrayOf (.arg 0) .int).before args s = true := hs _ (by decide +kernel)
  have hle : (Cond.le (.length (.arg 0)) (.int 6)).before args s = true := hs _ (by decide +kernel)
  have hlen : (Cond.isInt (.length (.arg 0))).before args s = true := hq _ (by decide +kernel)
  have hall : (Cond.all (.arg 0) (.isInt (.elem (.arg 0) (.index 0)))).before args s = true := hq _ (by decide +kernel)
  obtain ⟨b, xs, hb, hx⟩ := State.ints_of_pre rfl harr hlen hall
  have hsm : xs.length < 2 ^ 31 := hx.choose_spec.2.2.2
  have hev : (Term.length (.arg 0)).eval args s none [] s = some (.int xs.length.toInt32) := hx.length_eval hb
  have hv := Cond.le_ints hev (show (Term.int 6).eval args s none [] s = some (.int 6) from rfl)
  have hd : xs.length.toInt32 ≤ 6 := by
    simpa [Cond.before, Cond.holds, hv] using hle
  have hN : xs.length ≤ 6 := (Int32.ofNat_le_ofNat hsm (by decide)).mp (show Int32.ofNat xs.length ≤ Int32.ofNat 6 from hd)
  exact ⟨b, xs, Cond.one_arg hc (show args[0]? = some (.ref b) from hb), hx, hN, h⟩
theorem lw_comes (l : Launch) (hflags : l.flags = flags0) : Comes l x (Jvm.Cond.code x code maxLocals ret :: tables_1) room_1 (fun tb e args s => Calls_1 tb e args s ∧ rest_1 tb e args s ∧ Pre_1 tb e args s)
    (fun _ _ args s o t => lw_Q args s o t) := by
  intro p e ha hc hk s m args below hf hfit hheap happ hpre
  obtain ⟨b, xs, hP⟩ := lw_pre_spec hpre.2.2 hpre.2.1
  obtain ⟨k, o, h1, h2, h3, hQ⟩ := lw_walk l hflags b xs p e ha hc hk s m args below hf ((Spec.applies_iff_loose hf).mp happ).1 hP trivial
  exact ⟨k, o, h1, h2, h3, hQ⟩
theorem lw_frame {s t : State} {o : Outcome} {args : Array Value} (h : Framed s o t [] 600000 7302250) :
    Framed s o t (fieldLocs frame_1_writes args s ++ arrayLocs frame_1_arrays args s ++ staticLocs frame_1_statics s) 600000 7302250 := h
theorem lw_limb (L : Cond) (hL : ∀ (args : Array Value) (s t : State), L.after args s (.returned (some (.int 1))) t = true) :
    ArmFor flags0 classFile x code maxLocals ret World_1 tables_1 room_1 Calls_1 rest_1 Pre_1
      (fun tb e a s o t => postC L tb e a s o t ∧ Framed s o t (fieldLocs frame_1_writes a s ++ arrayLocs frame_1_arrays a s ++ staticLocs frame_1_statics s) 600000 7302250) := by
  intro l hflags _ _ p e ha hc hk s m args below hf hfit hheap happ hpre
  obtain ⟨k, o, h1, h2, h3, rfl, hF⟩ := lw_comes l hflags p e ha hc hk s m args below hf hfit hheap happ hpre
  exact ⟨k, _, h1, h2, h3, hL args s _, lw_frame hF⟩
theorem i_vc : Claimed_1_1 ∧ Claimed_1_2 := ⟨lw_limb limb_1_1 (fun args s t => by simp [limb_1_1, Cond.after, Cond.holds, Cond.value]), lw_limb limb_1_2 (fun args s t => Cond.after_iff.mpr (by
  first | (rw [show limb_1_2 = Cond.eq .result (.int 1) from rfl, Cond.eq_ints (x := 1) (y := 1) rfl rfl]; simp; done) | (simp [limb_1_2, Cond.value, Term.eval]; done)))⟩
end
