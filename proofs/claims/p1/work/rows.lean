section
-- ===== PART A: goes FIRST, ahead of the names: the tables' words, and 'selects' of the private methods out of them =====
/-- a private method of a class that the tables say can be made, by its rows of tables_1 -/
def lw_okq (q : MethodName × Nat) : Prop := (q.1.cls ≠ "java/lang/invoke/MethodHandle" ∧ q.1.cls ≠ "java/lang/invoke/VarHandle") ∧ Cond.instantiable q.1.cls q.2 ∈ tables_1 ∧ Cond.privateMethod q.1 ∈ tables_1 ∧ Cond.instanceMethod q.1 ∈ tables_1
theorem lw_p0 : lw_okq (⟨"PepperTables$Told", "beginFormula", "()V"⟩, 19) := ⟨⟨by decide +kernel, by decide +kernel⟩, List.mem_of_getElem? (i := 34) (by decide +kernel), List.mem_of_getElem? (i := 40) (by decide +kernel), List.mem_of_getElem? (i := 41) (by decide +kernel)⟩
theorem lw_p1 : lw_okq (⟨"PepperTables$Reader", "step", "()V"⟩, 11) := ⟨⟨by decide +kernel, by decide +kernel⟩, List.mem_of_getElem? (i := 28) (by decide +kernel), List.mem_of_getElem? (i := 459) (by decide +kernel), List.mem_of_getElem? (i := 460) (by decide +kernel)⟩
theorem lw_p2 : lw_okq (⟨"PepperTables$Reader", "stepWord", "()V"⟩, 11) := ⟨⟨by decide +kernel, by decide +kernel⟩, List.mem_of_getElem? (i := 28) (by decide +kernel), List.mem_of_getElem? (i := 463) (by decide +kernel), List.mem_of_getElem? (i := 464) (by decide +kernel)⟩
theorem lw_p3 : lw_okq (⟨"PepperTables$Reader", "stepNumber", "()V"⟩, 11) := ⟨⟨by decide +kernel, by decide +kernel⟩, List.mem_of_getElem? (i := 28) (by decide +kernel), List.mem_of_getElem? (i := 467) (by decide +kernel), List.mem_of_getElem? (i := 468) (by decide +kernel)⟩
theorem lw_p4 : lw_okq (⟨"PepperTables$Reader", "readLine", "()V"⟩, 11) := ⟨⟨by decide +kernel, by decide +kernel⟩, List.mem_of_getElem? (i := 28) (by decide +kernel), List.mem_of_getElem? (i := 531) (by decide +kernel), List.mem_of_getElem? (i := 532) (by decide +kernel)⟩
theorem lw_p5 : lw_okq (⟨"PepperTables$Reader", "readPerson", "()V"⟩, 11) := ⟨⟨by decide +kernel, by decide +kernel⟩, List.mem_of_getElem? (i := 28) (by decide +kernel), List.mem_of_getElem? (i := 535) (by decide +kernel), List.mem_of_getElem? (i := 536) (by decide +kernel)⟩
theorem lw_p6 : lw_okq (⟨"PepperTables$Reader", "refuse", "()V"⟩, 11) := ⟨⟨by decide +kernel, by decide +kernel⟩, List.mem_of_getElem? (i := 28) (by decide +kernel), List.mem_of_getElem? (i := 539) (by decide +kernel), List.mem_of_getElem? (i := 540) (by decide +kernel)⟩
theorem lw_p7 : lw_okq (⟨"PepperTables$Reader", "fail", "(I)V"⟩, 11) := ⟨⟨by decide +kernel, by decide +kernel⟩, List.mem_of_getElem? (i := 28) (by decide +kernel), List.mem_of_getElem? (i := 543) (by decide +kernel), List.mem_of_getElem? (i := 544) (by decide +kernel)⟩
theorem lw_p8 : lw_okq (⟨"PepperTables$Reader", "takeNewName", "([JI)V"⟩, 11) := ⟨⟨by decide +kernel, by decide +kernel⟩, List.mem_of_getElem? (i := 28) (by decide +kernel), List.mem_of_getElem? (i := 547) (by decide +kernel), List.mem_of_getElem? (i := 548) (by decide +kernel)⟩
theorem lw_p9 : lw_okq (⟨"PepperTables$Reader", "indexOfName", "([JI)I"⟩, 11) := ⟨⟨by decide +kernel, by decide +kernel⟩, List.mem_of_getElem? (i := 28) (by decide +kernel), List.mem_of_getElem? (i := 551) (by decide +kernel), List.mem_of_getElem? (i := 552) (by decide +kernel)⟩
theorem lw_p10 : lw_okq (⟨"PepperTables$Reader", "takeNumber", "(II)I"⟩, 11) := ⟨⟨by decide +kernel, by decide +kernel⟩, List.mem_of_getElem? (i := 28) (by decide +kernel), List.mem_of_getElem? (i := 555) (by decide +kernel), List.mem_of_getElem? (i := 556) (by decide +kernel)⟩
theorem lw_p11 : lw_okq (⟨"PepperTables$Reader", "readSack", "()V"⟩, 11) := ⟨⟨by decide +kernel, by decide +kernel⟩, List.mem_of_getElem? (i := 28) (by decide +kernel), List.mem_of_getElem? (i := 559) (by decide +kernel), List.mem_of_getElem? (i := 560) (by decide +kernel)⟩
theorem lw_p12 : lw_okq (⟨"PepperTables$Reader", "readThing", "()V"⟩, 11) := ⟨⟨by decide +kernel, by decide +kernel⟩, List.mem_of_getElem? (i := 28) (by decide +kernel), List.mem_of_getElem? (i := 563) (by decide +kernel), List.mem_of_getElem? (i := 564) (by decide +kernel)⟩
theorem lw_p13 : lw_okq (⟨"PepperTables$Reader", "take", "(I)V"⟩, 11) := ⟨⟨by decide +kernel, by decide +kernel⟩, List.mem_of_getElem? (i := 28) (by decide +kernel), List.mem_of_getElem? (i := 567) (by decide +kernel), List.mem_of_getElem? (i := 568) (by decide +kernel)⟩
theorem lw_p14 : lw_okq (⟨"PepperTables$Reader", "takeKnownName", "([JII)I"⟩, 11) := ⟨⟨by decide +kernel, by decide +kernel⟩, List.mem_of_getElem? (i := 28) (by decide +kernel), List.mem_of_getElem? (i := 571) (by decide +kernel), List.mem_of_getElem? (i := 572) (by decide +kernel)⟩
theorem lw_p15 : lw_okq (⟨"PepperTables$Reader", "readFormula", "()V"⟩, 11) := ⟨⟨by decide +kernel, by decide +kernel⟩, List.mem_of_getElem? (i := 28) (by decide +kernel), List.mem_of_getElem? (i := 575) (by decide +kernel), List.mem_of_getElem? (i := 576) (by decide +kernel)⟩
def lw_privs_1 : List (MethodName × Nat) := [(⟨"PepperTables$Told", "beginFormula", "()V"⟩, 19), (⟨"PepperTables$Reader", "step", "()V"⟩, 11), (⟨"PepperTables$Reader", "stepWord", "()V"⟩, 11), (⟨"PepperTables$Reader", "stepNumber", "()V"⟩, 11), (⟨"PepperTables$Reader", "readLine", "()V"⟩, 11), (⟨"PepperTables$Reader", "readPerson", "()V"⟩, 11), (⟨"PepperTables$Reader", "refuse", "()V"⟩, 11), (⟨"PepperTables$Reader", "fail", "(I)V"⟩, 11), (⟨"PepperTables$Reader", "takeNewName", "([JI)V"⟩, 11), (⟨"PepperTables$Reader", "indexOfName", "([JI)I"⟩, 11), (⟨"PepperTables$Reader", "takeNumber", "(II)I"⟩, 11), (⟨"PepperTables$Reader", "readSack", "()V"⟩, 11), (⟨"PepperTables$Reader", "readThing", "()V"⟩, 11), (⟨"PepperTables$Reader", "take", "(I)V"⟩, 11), (⟨"PepperTables$Reader", "takeKnownName", "([JII)I"⟩, 11), (⟨"PepperTables$Reader", "readFormula", "()V"⟩, 11)]
theorem lw_r1 : ∀ q ∈ lw_privs_1, lw_okq q := List.forall_mem_cons.mpr ⟨lw_p0, List.forall_mem_cons.mpr ⟨lw_p1, List.forall_mem_cons.mpr ⟨lw_p2, List.forall_mem_cons.mpr ⟨lw_p3, List.forall_mem_cons.mpr ⟨lw_p4, List.forall_mem_cons.mpr ⟨lw_p5, List.forall_mem_cons.mpr ⟨lw_p6, List.forall_mem_cons.mpr ⟨lw_p7, List.forall_mem_cons.mpr ⟨lw_p8, List.forall_mem_cons.mpr ⟨lw_p9, List.forall_mem_cons.mpr ⟨lw_p10, List.forall_mem_cons.mpr ⟨lw_p11, List.forall_mem_cons.mpr ⟨lw_p12, List.forall_mem_cons.mpr ⟨lw_p13, List.forall_mem_cons.mpr ⟨lw_p14, List.forall_mem_cons.mpr ⟨lw_p15, fun _ h => absurd h List.not_mem_nil⟩⟩⟩⟩⟩⟩⟩⟩⟩⟩⟩⟩⟩⟩⟩⟩
theorem lw_p16 : lw_okq (⟨"PepperTables$Reader", "readEither", "(I)V"⟩, 11) := ⟨⟨by decide +kernel, by decide +kernel⟩, List.mem_of_getElem? (i := 28) (by decide +kernel), List.mem_of_getElem? (i := 579) (by decide +kernel), List.mem_of_getElem? (i := 580) (by decide +kernel)⟩
theorem lw_p17 : lw_okq (⟨"PepperTables$Reader", "readBoth", "(I)V"⟩, 11) := ⟨⟨by decide +kernel, by decide +kernel⟩, List.mem_of_getElem? (i := 28) (by decide +kernel), List.mem_of_getElem? (i := 583) (by decide +kernel), List.mem_of_getElem? (i := 584) (by decide +kernel)⟩
theorem lw_p18 : lw_okq (⟨"PepperTables$Reader", "readOne", "(I)V"⟩, 11) := ⟨⟨by decide +kernel, by decide +kernel⟩, List.mem_of_getElem? (i := 28) (by decide +kernel), List.mem_of_getElem? (i := 587) (by decide +kernel), List.mem_of_getElem? (i := 588) (by decide +kernel)⟩
theorem lw_p19 : lw_okq (⟨"PepperTables$Reader", "write", "(I)V"⟩, 11) := ⟨⟨by decide +kernel, by decide +kernel⟩, List.mem_of_getElem? (i := 28) (by decide +kernel), List.mem_of_getElem? (i := 591) (by decide +kernel), List.mem_of_getElem? (i := 592) (by decide +kernel)⟩
theorem lw_p20 : lw_okq (⟨"PepperTables$Reader", "readSum", "(I)V"⟩, 11) := ⟨⟨by decide +kernel, by decide +kernel⟩, List.mem_of_getElem? (i := 28) (by decide +kernel), List.mem_of_getElem? (i := 595) (by decide +kernel), List.mem_of_getElem? (i := 596) (by decide +kernel)⟩
theorem lw_p21 : lw_okq (⟨"PepperTables$Reader", "readTerm", "(I)V"⟩, 11) := ⟨⟨by decide +kernel, by decide +kernel⟩, List.mem_of_getElem? (i := 28) (by decide +kernel), List.mem_of_getElem? (i := 599) (by decide +kernel), List.mem_of_getElem? (i := 600) (by decide +kernel)⟩
theorem lw_p22 : lw_okq (⟨"PepperTables$Reader", "readUnit", "(I)V"⟩, 11) := ⟨⟨by decide +kernel, by decide +kernel⟩, List.mem_of_getElem? (i := 28) (by decide +kernel), List.mem_of_getElem? (i := 603) (by decide +kernel), List.mem_of_getElem? (i := 604) (by decide +kernel)⟩
theorem lw_p23 : lw_okq (⟨"PepperTables$Reader", "readSneeze", "()V"⟩, 11) := ⟨⟨by decide +kernel, by decide +kernel⟩, List.mem_of_getElem? (i := 28) (by decide +kernel), List.mem_of_getElem? (i := 607) (by decide +kernel), List.mem_of_getElem? (i := 608) (by decide +kernel)⟩
theorem lw_p24 : lw_okq (⟨"PepperTables$Reader", "readDraw", "()V"⟩, 11) := ⟨⟨by decide +kernel, by decide +kernel⟩, List.mem_of_getElem? (i := 28) (by decide +kernel), List.mem_of_getElem? (i := 611) (by decide +kernel), List.mem_of_getElem? (i := 612) (by decide +kernel)⟩
theorem lw_p25 : lw_okq (⟨"PepperTables", "isPerson", "(I)Z"⟩, 12) := ⟨⟨by decide +kernel, by decide +kernel⟩, List.mem_of_getElem? (i := 20) (by decide +kernel), List.mem_of_getElem? (i := 646) (by decide +kernel), List.mem_of_getElem? (i := 647) (by decide +kernel)⟩
theorem lw_p26 : lw_okq (⟨"PepperTables", "isThing", "(I)Z"⟩, 12) := ⟨⟨by decide +kernel, by decide +kernel⟩, List.mem_of_getElem? (i := 20) (by decide +kernel), List.mem_of_getElem? (i := 670) (by decide +kernel), List.mem_of_getElem? (i := 671) (by decide +kernel)⟩
theorem lw_p27 : lw_okq (⟨"PepperTables", "isSack", "(I)Z"⟩, 12) := ⟨⟨by decide +kernel, by decide +kernel⟩, List.mem_of_getElem? (i := 20) (by decide +kernel), List.mem_of_getElem? (i := 678) (by decide +kernel), List.mem_of_getElem? (i := 679) (by decide +kernel)⟩
theorem lw_p28 : lw_okq (⟨"PepperTables$Mill", "operand", "(I)I"⟩, 3) := ⟨⟨by decide +kernel, by decide +kernel⟩, List.mem_of_getElem? (i := 274) (by decide +kernel), List.mem_of_getElem? (i := 725) (by decide +kernel), List.mem_of_getElem? (i := 726) (by decide +kernel)⟩
theorem lw_p29 : lw_okq (⟨"PepperTables", "isSitting", "(I)Z"⟩, 12) := ⟨⟨by decide +kernel, by decide +kernel⟩, List.mem_of_getElem? (i := 20) (by decide +kernel), List.mem_of_getElem? (i := 736) (by decide +kernel), List.mem_of_getElem? (i := 737) (by decide +kernel)⟩
theorem lw_p30 : lw_okq (⟨"PepperTables", "isKept", "(I)Z"⟩, 12) := ⟨⟨by decide +kernel, by decide +kernel⟩, List.mem_of_getElem? (i := 20) (by decide +kernel), List.mem_of_getElem? (i := 764) (by decide +kernel), List.mem_of_getElem? (i := 765) (by decide +kernel)⟩
theorem lw_p31 : lw_okq (⟨"PepperTables", "sneezed", "()I"⟩, 12) := ⟨⟨by decide +kernel, by decide +kernel⟩, List.mem_of_getElem? (i := 20) (by decide +kernel), List.mem_of_getElem? (i := 772) (by decide +kernel), List.mem_of_getElem? (i := 773) (by decide +kernel)⟩
def lw_privs_2 : List (MethodName × Nat) := [(⟨"PepperTables$Reader", "readEither", "(I)V"⟩, 11), (⟨"PepperTables$Reader", "readBoth", "(I)V"⟩, 11), (⟨"PepperTables$Reader", "readOne", "(I)V"⟩, 11), (⟨"PepperTables$Reader", "write", "(I)V"⟩, 11), (⟨"PepperTables$Reader", "readSum", "(I)V"⟩, 11), (⟨"PepperTables$Reader", "readTerm", "(I)V"⟩, 11), (⟨"PepperTables$Reader", "readUnit", "(I)V"⟩, 11), (⟨"PepperTables$Reader", "readSneeze", "()V"⟩, 11), (⟨"PepperTables$Reader", "readDraw", "()V"⟩, 11), (⟨"PepperTables", "isPerson", "(I)Z"⟩, 12), (⟨"PepperTables", "isThing", "(I)Z"⟩, 12), (⟨"PepperTables", "isSack", "(I)Z"⟩, 12), (⟨"PepperTables$Mill", "operand", "(I)I"⟩, 3), (⟨"PepperTables", "isSitting", "(I)Z"⟩, 12), (⟨"PepperTables", "isKept", "(I)Z"⟩, 12), (⟨"PepperTables", "sneezed", "()I"⟩, 12)]
theorem lw_r2 : ∀ q ∈ lw_privs_2, lw_okq q := List.forall_mem_cons.mpr ⟨lw_p16, List.forall_mem_cons.mpr ⟨lw_p17, List.forall_mem_cons.mpr ⟨lw_p18, List.forall_mem_cons.mpr ⟨lw_p19, List.forall_mem_cons.mpr ⟨lw_p20, List.forall_mem_cons.mpr ⟨lw_p21, List.forall_mem_cons.mpr ⟨lw_p22, List.forall_mem_cons.mpr ⟨lw_p23, List.forall_mem_cons.mpr ⟨lw_p24, List.forall_mem_cons.mpr ⟨lw_p25, List.forall_mem_cons.mpr ⟨lw_p26, List.forall_mem_cons.mpr ⟨lw_p27, List.forall_mem_cons.mpr ⟨lw_p28, List.forall_mem_cons.mpr ⟨lw_p29, List.forall_mem_cons.mpr ⟨lw_p30, List.forall_mem_cons.mpr ⟨lw_p31, fun _ h => absurd h List.not_mem_nil⟩⟩⟩⟩⟩⟩⟩⟩⟩⟩⟩⟩⟩⟩⟩⟩
theorem lw_p32 : lw_okq (⟨"PepperTables", "scoreGrindings", "(I)V"⟩, 12) := ⟨⟨by decide +kernel, by decide +kernel⟩, List.mem_of_getElem? (i := 20) (by decide +kernel), List.mem_of_getElem? (i := 844) (by decide +kernel), List.mem_of_getElem? (i := 845) (by decide +kernel)⟩
theorem lw_p33 : lw_okq (⟨"PepperTables", "scoreOfRow", "(II)I"⟩, 12) := ⟨⟨by decide +kernel, by decide +kernel⟩, List.mem_of_getElem? (i := 20) (by decide +kernel), List.mem_of_getElem? (i := 852) (by decide +kernel), List.mem_of_getElem? (i := 853) (by decide +kernel)⟩
theorem lw_p34 : lw_okq (⟨"PepperTables", "layRow", "(II)V"⟩, 12) := ⟨⟨by decide +kernel, by decide +kernel⟩, List.mem_of_getElem? (i := 20) (by decide +kernel), List.mem_of_getElem? (i := 856) (by decide +kernel), List.mem_of_getElem? (i := 857) (by decide +kernel)⟩
theorem lw_p35 : lw_okq (⟨"PepperTables", "saidIfExchanged", "(III)I"⟩, 12) := ⟨⟨by decide +kernel, by decide +kernel⟩, List.mem_of_getElem? (i := 20) (by decide +kernel), List.mem_of_getElem? (i := 907) (by decide +kernel), List.mem_of_getElem? (i := 908) (by decide +kernel)⟩
theorem lw_p36 : lw_okq (⟨"PepperTables", "reckonGains", "(II)V"⟩, 12) := ⟨⟨by decide +kernel, by decide +kernel⟩, List.mem_of_getElem? (i := 20) (by decide +kernel), List.mem_of_getElem? (i := 923) (by decide +kernel), List.mem_of_getElem? (i := 924) (by decide +kernel)⟩
theorem lw_p37 : lw_okq (⟨"PepperTables", "gainOf", "(II)I"⟩, 12) := ⟨⟨by decide +kernel, by decide +kernel⟩, List.mem_of_getElem? (i := 20) (by decide +kernel), List.mem_of_getElem? (i := 927) (by decide +kernel), List.mem_of_getElem? (i := 928) (by decide +kernel)⟩
theorem lw_p38 : lw_okq (⟨"PepperTables$Lying", "goFurther", "(II)V"⟩, 5) := ⟨⟨by decide +kernel, by decide +kernel⟩, List.mem_of_getElem? (i := 325) (by decide +kernel), List.mem_of_getElem? (i := 943) (by decide +kernel), List.mem_of_getElem? (i := 944) (by decide +kernel)⟩
theorem lw_p39 : lw_okq (⟨"PepperTables", "hottestKeeper", "(I)I"⟩, 12) := ⟨⟨by decide +kernel, by decide +kernel⟩, List.mem_of_getElem? (i := 20) (by decide +kernel), List.mem_of_getElem? (i := 973) (by decide +kernel), List.mem_of_getElem? (i := 974) (by decide +kernel)⟩
theorem lw_p40 : lw_okq (⟨"PepperTables$Hearsay", "reckon", "(LPepperTables$Told;LPepperTables$Mill;)V"⟩, 13) := ⟨⟨by decide +kernel, by decide +kernel⟩, List.mem_of_getElem? (i := 348) (by decide +kernel), List.mem_of_getElem? (i := 1041) (by decide +kernel), List.mem_of_getElem? (i := 1042) (by decide +kernel)⟩
theorem lw_p41 : lw_okq (⟨"PepperTables$Hearsay", "agrees", "(II)Z"⟩, 13) := ⟨⟨by decide +kernel, by decide +kernel⟩, List.mem_of_getElem? (i := 348) (by decide +kernel), List.mem_of_getElem? (i := 1052) (by decide +kernel), List.mem_of_getElem? (i := 1053) (by decide +kernel)⟩
theorem lw_p42 : lw_okq (⟨"PepperTablesModel", "clearBank", "()V"⟩, 65) := ⟨⟨by decide +kernel, by decide +kernel⟩, List.mem_of_getElem? (i := 1095) (by decide +kernel), List.mem_of_getElem? (i := 1101) (by decide +kernel), List.mem_of_getElem? (i := 1102) (by decide +kernel)⟩
theorem lw_p43 : lw_okq (⟨"PepperTablesModel", "startAnew", "()V"⟩, 65) := ⟨⟨by decide +kernel, by decide +kernel⟩, List.mem_of_getElem? (i := 1095) (by decide +kernel), List.mem_of_getElem? (i := 1105) (by decide +kernel), List.mem_of_getElem? (i := 1106) (by decide +kernel)⟩
theorem lw_p44 : lw_okq (⟨"PepperTablesModel", "layTold", "()V"⟩, 65) := ⟨⟨by decide +kernel, by decide +kernel⟩, List.mem_of_getElem? (i := 1095) (by decide +kernel), List.mem_of_getElem? (i := 1109) (by decide +kernel), List.mem_of_getElem? (i := 1110) (by decide +kernel)⟩
theorem lw_p45 : lw_okq (⟨"PepperTablesModel", "many", "()I"⟩, 65) := ⟨⟨by decide +kernel, by decide +kernel⟩, List.mem_of_getElem? (i := 1095) (by decide +kernel), List.mem_of_getElem? (i := 1113) (by decide +kernel), List.mem_of_getElem? (i := 1114) (by decide +kernel)⟩
theorem lw_p46 : lw_okq (⟨"PepperTablesModel", "goOn", "()V"⟩, 65) := ⟨⟨by decide +kernel, by decide +kernel⟩, List.mem_of_getElem? (i := 1095) (by decide +kernel), List.mem_of_getElem? (i := 1317) (by decide +kernel), List.mem_of_getElem? (i := 1318) (by decide +kernel)⟩
theorem lw_p47 : lw_okq (⟨"PepperTablesModel", "sign", "(I)I"⟩, 65) := ⟨⟨by decide +kernel, by decide +kernel⟩, List.mem_of_getElem? (i := 1095) (by decide +kernel), List.mem_of_getElem? (i := 1321) (by decide +kernel), List.mem_of_getElem? (i := 1322) (by decide +kernel)⟩
def lw_privs_3 : List (MethodName × Nat) := [(⟨"PepperTables", "scoreGrindings", "(I)V"⟩, 12), (⟨"PepperTables", "scoreOfRow", "(II)I"⟩, 12), (⟨"PepperTables", "layRow", "(II)V"⟩, 12), (⟨"PepperTables", "saidIfExchanged", "(III)I"⟩, 12), (⟨"PepperTables", "reckonGains", "(II)V"⟩, 12), (⟨"PepperTables", "gainOf", "(II)I"⟩, 12), (⟨"PepperTables$Lying", "goFurther", "(II)V"⟩, 5), (⟨"PepperTables", "hottestKeeper", "(I)I"⟩, 12), (⟨"PepperTables$Hearsay", "reckon", "(LPepperTables$Told;LPepperTables$Mill;)V"⟩, 13), (⟨"PepperTables$Hearsay", "agrees", "(II)Z"⟩, 13), (⟨"PepperTablesModel", "clearBank", "()V"⟩, 65), (⟨"PepperTablesModel", "startAnew", "()V"⟩, 65), (⟨"PepperTablesModel", "layTold", "()V"⟩, 65), (⟨"PepperTablesModel", "many", "()I"⟩, 65), (⟨"PepperTablesModel", "goOn", "()V"⟩, 65), (⟨"PepperTablesModel", "sign", "(I)I"⟩, 65)]
theorem lw_r3 : ∀ q ∈ lw_privs_3, lw_okq q := List.forall_mem_cons.mpr ⟨lw_p32, List.forall_mem_cons.mpr ⟨lw_p33, List.forall_mem_cons.mpr ⟨lw_p34, List.forall_mem_cons.mpr ⟨lw_p35, List.forall_mem_cons.mpr ⟨lw_p36, List.forall_mem_cons.mpr ⟨lw_p37, List.forall_mem_cons.mpr ⟨lw_p38, List.forall_mem_cons.mpr ⟨lw_p39, List.forall_mem_cons.mpr ⟨lw_p40, List.forall_mem_cons.mpr ⟨lw_p41, List.forall_mem_cons.mpr ⟨lw_p42, List.forall_mem_cons.mpr ⟨lw_p43, List.forall_mem_cons.mpr ⟨lw_p44, List.forall_mem_cons.mpr ⟨lw_p45, List.forall_mem_cons.mpr ⟨lw_p46, List.forall_mem_cons.mpr ⟨lw_p47, fun _ h => absurd h List.not_mem_nil⟩⟩⟩⟩⟩⟩⟩⟩⟩⟩⟩⟩⟩⟩⟩⟩
theorem lw_p48 : lw_okq (⟨"PepperTablesModel", "isGood", "()Z"⟩, 65) := ⟨⟨by decide +kernel, by decide +kernel⟩, List.mem_of_getElem? (i := 1095) (by decide +kernel), List.mem_of_getElem? (i := 1355) (by decide +kernel), List.mem_of_getElem? (i := 1356) (by decide +kernel)⟩
theorem lw_p49 : lw_okq (⟨"PepperTablesModel", "readLine", "()V"⟩, 65) := ⟨⟨by decide +kernel, by decide +kernel⟩, List.mem_of_getElem? (i := 1095) (by decide +kernel), List.mem_of_getElem? (i := 1359) (by decide +kernel), List.mem_of_getElem? (i := 1360) (by decide +kernel)⟩
theorem lw_p50 : lw_okq (⟨"PepperTablesModel", "isFull", "()Z"⟩, 65) := ⟨⟨by decide +kernel, by decide +kernel⟩, List.mem_of_getElem? (i := 1095) (by decide +kernel), List.mem_of_getElem? (i := 1363) (by decide +kernel), List.mem_of_getElem? (i := 1364) (by decide +kernel)⟩
theorem lw_p51 : lw_okq (⟨"PepperTablesModel", "isWord", "(J)Z"⟩, 65) := ⟨⟨by decide +kernel, by decide +kernel⟩, List.mem_of_getElem? (i := 1095) (by decide +kernel), List.mem_of_getElem? (i := 1367) (by decide +kernel), List.mem_of_getElem? (i := 1368) (by decide +kernel)⟩
theorem lw_p52 : lw_okq (⟨"PepperTablesModel", "misplaced", "()V"⟩, 65) := ⟨⟨by decide +kernel, by decide +kernel⟩, List.mem_of_getElem? (i := 1095) (by decide +kernel), List.mem_of_getElem? (i := 1374) (by decide +kernel), List.mem_of_getElem? (i := 1375) (by decide +kernel)⟩
theorem lw_p53 : lw_okq (⟨"PepperTablesModel", "fails", "(II)V"⟩, 65) := ⟨⟨by decide +kernel, by decide +kernel⟩, List.mem_of_getElem? (i := 1095) (by decide +kernel), List.mem_of_getElem? (i := 1378) (by decide +kernel), List.mem_of_getElem? (i := 1379) (by decide +kernel)⟩
theorem lw_p54 : lw_okq (⟨"PepperTablesModel", "personHere", "()I"⟩, 65) := ⟨⟨by decide +kernel, by decide +kernel⟩, List.mem_of_getElem? (i := 1095) (by decide +kernel), List.mem_of_getElem? (i := 1382) (by decide +kernel), List.mem_of_getElem? (i := 1383) (by decide +kernel)⟩
theorem lw_p55 : lw_okq (⟨"PepperTablesModel", "here", "([JII)I"⟩, 65) := ⟨⟨by decide +kernel, by decide +kernel⟩, List.mem_of_getElem? (i := 1095) (by decide +kernel), List.mem_of_getElem? (i := 1386) (by decide +kernel), List.mem_of_getElem? (i := 1387) (by decide +kernel)⟩
theorem lw_p56 : lw_okq (⟨"PepperTablesModel", "fresh", "(I)J"⟩, 65) := ⟨⟨by decide +kernel, by decide +kernel⟩, List.mem_of_getElem? (i := 1095) (by decide +kernel), List.mem_of_getElem? (i := 1390) (by decide +kernel), List.mem_of_getElem? (i := 1391) (by decide +kernel)⟩
theorem lw_p57 : lw_okq (⟨"PepperTablesModel", "afterWord", "(JII)I"⟩, 65) := ⟨⟨by decide +kernel, by decide +kernel⟩, List.mem_of_getElem? (i := 1095) (by decide +kernel), List.mem_of_getElem? (i := 1394) (by decide +kernel), List.mem_of_getElem? (i := 1395) (by decide +kernel)⟩
theorem lw_p58 : lw_okq (⟨"PepperTablesModel", "must", "(Z)V"⟩, 65) := ⟨⟨by decide +kernel, by decide +kernel⟩, List.mem_of_getElem? (i := 1095) (by decide +kernel), List.mem_of_getElem? (i := 1398) (by decide +kernel), List.mem_of_getElem? (i := 1399) (by decide +kernel)⟩
theorem lw_p59 : lw_okq (⟨"PepperTablesModel", "numeral", "(II)I"⟩, 65) := ⟨⟨by decide +kernel, by decide +kernel⟩, List.mem_of_getElem? (i := 1095) (by decide +kernel), List.mem_of_getElem? (i := 1402) (by decide +kernel), List.mem_of_getElem? (i := 1403) (by decide +kernel)⟩
theorem lw_p60 : lw_okq (⟨"PepperTablesModel", "sackHere", "()I"⟩, 65) := ⟨⟨by decide +kernel, by decide +kernel⟩, List.mem_of_getElem? (i := 1095) (by decide +kernel), List.mem_of_getElem? (i := 1406) (by decide +kernel), List.mem_of_getElem? (i := 1407) (by decide +kernel)⟩
theorem lw_p61 : lw_okq (⟨"PepperTablesModel", "readThing", "()V"⟩, 65) := ⟨⟨by decide +kernel, by decide +kernel⟩, List.mem_of_getElem? (i := 1095) (by decide +kernel), List.mem_of_getElem? (i := 1410) (by decide +kernel), List.mem_of_getElem? (i := 1411) (by decide +kernel)⟩
theorem lw_p62 : lw_okq (⟨"PepperTablesModel", "known", "(I)I"⟩, 65) := ⟨⟨by decide +kernel, by decide +kernel⟩, List.mem_of_getElem? (i := 1095) (by decide +kernel), List.mem_of_getElem? (i := 1414) (by decide +kernel), List.mem_of_getElem? (i := 1415) (by decide +kernel)⟩
theorem lw_p63 : lw_okq (⟨"PepperTablesModel", "readRule", "()V"⟩, 65) := ⟨⟨by decide +kernel, by decide +kernel⟩, List.mem_of_getElem? (i := 1095) (by decide +kernel), List.mem_of_getElem? (i := 1418) (by decide +kernel), List.mem_of_getElem? (i := 1419) (by decide +kernel)⟩
def lw_privs_4 : List (MethodName × Nat) := [(⟨"PepperTablesModel", "isGood", "()Z"⟩, 65), (⟨"PepperTablesModel", "readLine", "()V"⟩, 65), (⟨"PepperTablesModel", "isFull", "()Z"⟩, 65), (⟨"PepperTablesModel", "isWord", "(J)Z"⟩, 65), (⟨"PepperTablesModel", "misplaced", "()V"⟩, 65), (⟨"PepperTablesModel", "fails", "(II)V"⟩, 65), (⟨"PepperTablesModel", "personHere", "()I"⟩, 65), (⟨"PepperTablesModel", "here", "([JII)I"⟩, 65), (⟨"PepperTablesModel", "fresh", "(I)J"⟩, 65), (⟨"PepperTablesModel", "afterWord", "(JII)I"⟩, 65), (⟨"PepperTablesModel", "must", "(Z)V"⟩, 65), (⟨"PepperTablesModel", "numeral", "(II)I"⟩, 65), (⟨"PepperTablesModel", "sackHere", "()I"⟩, 65), (⟨"PepperTablesModel", "readThing", "()V"⟩, 65), (⟨"PepperTablesModel", "known", "(I)I"⟩, 65), (⟨"PepperTablesModel", "readRule", "()V"⟩, 65)]
theorem lw_r4 : ∀ q ∈ lw_privs_4, lw_okq q := List.forall_mem_cons.mpr ⟨lw_p48, List.forall_mem_cons.mpr ⟨lw_p49, List.forall_mem_cons.mpr ⟨lw_p50, List.forall_mem_cons.mpr ⟨lw_p51, List.forall_mem_cons.mpr ⟨lw_p52, List.forall_mem_cons.mpr ⟨lw_p53, List.forall_mem_cons.mpr ⟨lw_p54, List.forall_mem_cons.mpr ⟨lw_p55, List.forall_mem_cons.mpr ⟨lw_p56, List.forall_mem_cons.mpr ⟨lw_p57, List.forall_mem_cons.mpr ⟨lw_p58, List.forall_mem_cons.mpr ⟨lw_p59, List.forall_mem_cons.mpr ⟨lw_p60, List.forall_mem_cons.mpr ⟨lw_p61, List.forall_mem_cons.mpr ⟨lw_p62, List.forall_mem_cons.mpr ⟨lw_p63, fun _ h => absurd h List.not_mem_nil⟩⟩⟩⟩⟩⟩⟩⟩⟩⟩⟩⟩⟩⟩⟩⟩
theorem lw_p64 : lw_okq (⟨"PepperTablesModel", "e", "()V"⟩, 65) := ⟨⟨by decide +kernel, by decide +kernel⟩, List.mem_of_getElem? (i := 1095) (by decide +kernel), List.mem_of_getElem? (i := 1422) (by decide +kernel), List.mem_of_getElem? (i := 1423) (by decide +kernel)⟩
theorem lw_p65 : lw_okq (⟨"PepperTablesModel", "pushE", "(II)V"⟩, 65) := ⟨⟨by decide +kernel, by decide +kernel⟩, List.mem_of_getElem? (i := 1095) (by decide +kernel), List.mem_of_getElem? (i := 1426) (by decide +kernel), List.mem_of_getElem? (i := 1427) (by decide +kernel)⟩
theorem lw_p66 : lw_okq (⟨"PepperTablesModel", "unit", "()Z"⟩, 65) := ⟨⟨by decide +kernel, by decide +kernel⟩, List.mem_of_getElem? (i := 1095) (by decide +kernel), List.mem_of_getElem? (i := 1430) (by decide +kernel), List.mem_of_getElem? (i := 1431) (by decide +kernel)⟩
theorem lw_p67 : lw_okq (⟨"PepperTablesModel", "isSignHere", "(I)Z"⟩, 65) := ⟨⟨by decide +kernel, by decide +kernel⟩, List.mem_of_getElem? (i := 1095) (by decide +kernel), List.mem_of_getElem? (i := 1434) (by decide +kernel), List.mem_of_getElem? (i := 1435) (by decide +kernel)⟩
theorem lw_p68 : lw_okq (⟨"PepperTablesModel", "wordHere", "()I"⟩, 65) := ⟨⟨by decide +kernel, by decide +kernel⟩, List.mem_of_getElem? (i := 1095) (by decide +kernel), List.mem_of_getElem? (i := 1438) (by decide +kernel), List.mem_of_getElem? (i := 1439) (by decide +kernel)⟩
theorem lw_p69 : lw_okq (⟨"PepperTablesModel", "emit", "(II)V"⟩, 65) := ⟨⟨by decide +kernel, by decide +kernel⟩, List.mem_of_getElem? (i := 1095) (by decide +kernel), List.mem_of_getElem? (i := 1442) (by decide +kernel), List.mem_of_getElem? (i := 1443) (by decide +kernel)⟩
theorem lw_p70 : lw_okq (⟨"PepperTablesModel", "behindUnit", "()Z"⟩, 65) := ⟨⟨by decide +kernel, by decide +kernel⟩, List.mem_of_getElem? (i := 1095) (by decide +kernel), List.mem_of_getElem? (i := 1446) (by decide +kernel), List.mem_of_getElem? (i := 1447) (by decide +kernel)⟩
theorem lw_p71 : lw_okq (⟨"PepperTablesModel", "rankHere", "()I"⟩, 65) := ⟨⟨by decide +kernel, by decide +kernel⟩, List.mem_of_getElem? (i := 1095) (by decide +kernel), List.mem_of_getElem? (i := 1450) (by decide +kernel), List.mem_of_getElem? (i := 1451) (by decide +kernel)⟩
theorem lw_p72 : lw_okq (⟨"PepperTablesModel", "isCompared", "()Z"⟩, 65) := ⟨⟨by decide +kernel, by decide +kernel⟩, List.mem_of_getElem? (i := 1095) (by decide +kernel), List.mem_of_getElem? (i := 1454) (by decide +kernel), List.mem_of_getElem? (i := 1455) (by decide +kernel)⟩
theorem lw_p73 : lw_okq (⟨"PepperTablesModel", "isPerson", "(I)Z"⟩, 65) := ⟨⟨by decide +kernel, by decide +kernel⟩, List.mem_of_getElem? (i := 1095) (by decide +kernel), List.mem_of_getElem? (i := 1466) (by decide +kernel), List.mem_of_getElem? (i := 1467) (by decide +kernel)⟩
theorem lw_p74 : lw_okq (⟨"PepperTablesModel", "folk", "()I"⟩, 65) := ⟨⟨by decide +kernel, by decide +kernel⟩, List.mem_of_getElem? (i := 1095) (by decide +kernel), List.mem_of_getElem? (i := 1470) (by decide +kernel), List.mem_of_getElem? (i := 1471) (by decide +kernel)⟩
theorem lw_p75 : lw_okq (⟨"PepperTablesModel", "byOf", "(I)I"⟩, 65) := ⟨⟨by decide +kernel, by decide +kernel⟩, List.mem_of_getElem? (i := 1095) (by decide +kernel), List.mem_of_getElem? (i := 1477) (by decide +kernel), List.mem_of_getElem? (i := 1478) (by decide +kernel)⟩
theorem lw_p76 : lw_okq (⟨"PepperTablesModel", "fromOf", "(I)I"⟩, 65) := ⟨⟨by decide +kernel, by decide +kernel⟩, List.mem_of_getElem? (i := 1095) (by decide +kernel), List.mem_of_getElem? (i := 1481) (by decide +kernel), List.mem_of_getElem? (i := 1482) (by decide +kernel)⟩
theorem lw_p77 : lw_okq (⟨"PepperTablesModel", "keptNow", "()I"⟩, 65) := ⟨⟨by decide +kernel, by decide +kernel⟩, List.mem_of_getElem? (i := 1095) (by decide +kernel), List.mem_of_getElem? (i := 1485) (by decide +kernel), List.mem_of_getElem? (i := 1486) (by decide +kernel)⟩
theorem lw_p78 : lw_okq (⟨"PepperTablesModel", "toOf", "(I)I"⟩, 65) := ⟨⟨by decide +kernel, by decide +kernel⟩, List.mem_of_getElem? (i := 1095) (by decide +kernel), List.mem_of_getElem? (i := 1489) (by decide +kernel), List.mem_of_getElem? (i := 1490) (by decide +kernel)⟩
theorem lw_p79 : lw_okq (⟨"PepperTablesModel", "whomOf", "(I)I"⟩, 65) := ⟨⟨by decide +kernel, by decide +kernel⟩, List.mem_of_getElem? (i := 1095) (by decide +kernel), List.mem_of_getElem? (i := 1493) (by decide +kernel), List.mem_of_getElem? (i := 1494) (by decide +kernel)⟩
def lw_privs_5 : List (MethodName × Nat) := [(⟨"PepperTablesModel", "e", "()V"⟩, 65), (⟨"PepperTablesModel", "pushE", "(II)V"⟩, 65), (⟨"PepperTablesModel", "unit", "()Z"⟩, 65), (⟨"PepperTablesModel", "isSignHere", "(I)Z"⟩, 65), (⟨"PepperTablesModel", "wordHere", "()I"⟩, 65), (⟨"PepperTablesModel", "emit", "(II)V"⟩, 65), (⟨"PepperTablesModel", "behindUnit", "()Z"⟩, 65), (⟨"PepperTablesModel", "rankHere", "()I"⟩, 65), (⟨"PepperTablesModel", "isCompared", "()Z"⟩, 65), (⟨"PepperTablesModel", "isPerson", "(I)Z"⟩, 65), (⟨"PepperTablesModel", "folk", "()I"⟩, 65), (⟨"PepperTablesModel", "byOf", "(I)I"⟩, 65), (⟨"PepperTablesModel", "fromOf", "(I)I"⟩, 65), (⟨"PepperTablesModel", "keptNow", "()I"⟩, 65), (⟨"PepperTablesModel", "toOf", "(I)I"⟩, 65), (⟨"PepperTablesModel", "whomOf", "(I)I"⟩, 65)]
theorem lw_r5 : ∀ q ∈ lw_privs_5, lw_okq q := List.forall_mem_cons.mpr ⟨lw_p64, List.forall_mem_cons.mpr ⟨lw_p65, List.forall_mem_cons.mpr ⟨lw_p66, List.forall_mem_cons.mpr ⟨lw_p67, List.forall_mem_cons.mpr ⟨lw_p68, List.forall_mem_cons.mpr ⟨lw_p69, List.forall_mem_cons.mpr ⟨lw_p70, List.forall_mem_cons.mpr ⟨lw_p71, List.forall_mem_cons.mpr ⟨lw_p72, List.forall_mem_cons.mpr ⟨lw_p73, List.forall_mem_cons.mpr ⟨lw_p74, List.forall_mem_cons.mpr ⟨lw_p75, List.forall_mem_cons.mpr ⟨lw_p76, List.forall_mem_cons.mpr ⟨lw_p77, List.forall_mem_cons.mpr ⟨lw_p78, List.forall_mem_cons.mpr ⟨lw_p79, fun _ h => absurd h List.not_mem_nil⟩⟩⟩⟩⟩⟩⟩⟩⟩⟩⟩⟩⟩⟩⟩⟩
theorem lw_p80 : lw_okq (⟨"PepperTablesModel", "isThing", "(I)Z"⟩, 65) := ⟨⟨by decide +kernel, by decide +kernel⟩, List.mem_of_getElem? (i := 1095) (by decide +kernel), List.mem_of_getElem? (i := 1501) (by decide +kernel), List.mem_of_getElem? (i := 1502) (by decide +kernel)⟩
theorem lw_p81 : lw_okq (⟨"PepperTablesModel", "hotOf", "(I)I"⟩, 65) := ⟨⟨by decide +kernel, by decide +kernel⟩, List.mem_of_getElem? (i := 1095) (by decide +kernel), List.mem_of_getElem? (i := 1505) (by decide +kernel), List.mem_of_getElem? (i := 1506) (by decide +kernel)⟩
theorem lw_p82 : lw_okq (⟨"PepperTablesModel", "isSack", "(I)Z"⟩, 65) := ⟨⟨by decide +kernel, by decide +kernel⟩, List.mem_of_getElem? (i := 1095) (by decide +kernel), List.mem_of_getElem? (i := 1513) (by decide +kernel), List.mem_of_getElem? (i := 1514) (by decide +kernel)⟩
theorem lw_p83 : lw_okq (⟨"PepperTablesModel", "bags", "()I"⟩, 65) := ⟨⟨by decide +kernel, by decide +kernel⟩, List.mem_of_getElem? (i := 1095) (by decide +kernel), List.mem_of_getElem? (i := 1517) (by decide +kernel), List.mem_of_getElem? (i := 1518) (by decide +kernel)⟩
theorem lw_p84 : lw_okq (⟨"PepperTablesModel", "inOf", "(I)I"⟩, 65) := ⟨⟨by decide +kernel, by decide +kernel⟩, List.mem_of_getElem? (i := 1095) (by decide +kernel), List.mem_of_getElem? (i := 1521) (by decide +kernel), List.mem_of_getElem? (i := 1522) (by decide +kernel)⟩
theorem lw_p85 : lw_okq (⟨"PepperTablesModel", "isStill", "(I)Z"⟩, 65) := ⟨⟨by decide +kernel, by decide +kernel⟩, List.mem_of_getElem? (i := 1095) (by decide +kernel), List.mem_of_getElem? (i := 1525) (by decide +kernel), List.mem_of_getElem? (i := 1526) (by decide +kernel)⟩
theorem lw_p86 : lw_okq (⟨"PepperTablesModel", "heatOf", "(I)I"⟩, 65) := ⟨⟨by decide +kernel, by decide +kernel⟩, List.mem_of_getElem? (i := 1095) (by decide +kernel), List.mem_of_getElem? (i := 1529) (by decide +kernel), List.mem_of_getElem? (i := 1530) (by decide +kernel)⟩
theorem lw_p87 : lw_okq (⟨"PepperTablesModel", "wouldOf", "(I)I"⟩, 65) := ⟨⟨by decide +kernel, by decide +kernel⟩, List.mem_of_getElem? (i := 1095) (by decide +kernel), List.mem_of_getElem? (i := 1537) (by decide +kernel), List.mem_of_getElem? (i := 1538) (by decide +kernel)⟩
theorem lw_p88 : lw_okq (⟨"PepperTablesModel", "isLetOut", "(II)Z"⟩, 65) := ⟨⟨by decide +kernel, by decide +kernel⟩, List.mem_of_getElem? (i := 1095) (by decide +kernel), List.mem_of_getElem? (i := 1541) (by decide +kernel), List.mem_of_getElem? (i := 1542) (by decide +kernel)⟩
theorem lw_p89 : lw_okq (⟨"PepperTablesModel", "doBothSit", "(I)Z"⟩, 65) := ⟨⟨by decide +kernel, by decide +kernel⟩, List.mem_of_getElem? (i := 1095) (by decide +kernel), List.mem_of_getElem? (i := 1545) (by decide +kernel), List.mem_of_getElem? (i := 1546) (by decide +kernel)⟩
theorem lw_p90 : lw_okq (⟨"PepperTablesModel", "comes", "()I"⟩, 65) := ⟨⟨by decide +kernel, by decide +kernel⟩, List.mem_of_getElem? (i := 1095) (by decide +kernel), List.mem_of_getElem? (i := 1549) (by decide +kernel), List.mem_of_getElem? (i := 1550) (by decide +kernel)⟩
theorem lw_p91 : lw_okq (⟨"PepperTablesModel", "asked", "(II)I"⟩, 65) := ⟨⟨by decide +kernel, by decide +kernel⟩, List.mem_of_getElem? (i := 1095) (by decide +kernel), List.mem_of_getElem? (i := 1553) (by decide +kernel), List.mem_of_getElem? (i := 1554) (by decide +kernel)⟩
theorem lw_p92 : lw_okq (⟨"PepperTablesModel", "allSacks", "()I"⟩, 65) := ⟨⟨by decide +kernel, by decide +kernel⟩, List.mem_of_getElem? (i := 1095) (by decide +kernel), List.mem_of_getElem? (i := 1587) (by decide +kernel), List.mem_of_getElem? (i := 1588) (by decide +kernel)⟩
theorem lw_p93 : lw_okq (⟨"PepperTablesModel", "saidBy", "(I)I"⟩, 65) := ⟨⟨by decide +kernel, by decide +kernel⟩, List.mem_of_getElem? (i := 1095) (by decide +kernel), List.mem_of_getElem? (i := 1591) (by decide +kernel), List.mem_of_getElem? (i := 1592) (by decide +kernel)⟩
theorem lw_p94 : lw_okq (⟨"PepperTablesModel", "sneezed", "()I"⟩, 65) := ⟨⟨by decide +kernel, by decide +kernel⟩, List.mem_of_getElem? (i := 1095) (by decide +kernel), List.mem_of_getElem? (i := 1607) (by decide +kernel), List.mem_of_getElem? (i := 1608) (by decide +kernel)⟩
theorem lw_p95 : lw_okq (⟨"PepperTablesModel", "keepAct", "()V"⟩, 65) := ⟨⟨by decide +kernel, by decide +kernel⟩, List.mem_of_getElem? (i := 1095) (by decide +kernel), List.mem_of_getElem? (i := 1623) (by decide +kernel), List.mem_of_getElem? (i := 1624) (by decide +kernel)⟩
def lw_privs_6 : List (MethodName × Nat) := [(⟨"PepperTablesModel", "isThing", "(I)Z"⟩, 65), (⟨"PepperTablesModel", "hotOf", "(I)I"⟩, 65), (⟨"PepperTablesModel", "isSack", "(I)Z"⟩, 65), (⟨"PepperTablesModel", "bags", "()I"⟩, 65), (⟨"PepperTablesModel", "inOf", "(I)I"⟩, 65), (⟨"PepperTablesModel", "isStill", "(I)Z"⟩, 65), (⟨"PepperTablesModel", "heatOf", "(I)I"⟩, 65), (⟨"PepperTablesModel", "wouldOf", "(I)I"⟩, 65), (⟨"PepperTablesModel", "isLetOut", "(II)Z"⟩, 65), (⟨"PepperTablesModel", "doBothSit", "(I)Z"⟩, 65), (⟨"PepperTablesModel", "comes", "()I"⟩, 65), (⟨"PepperTablesModel", "asked", "(II)I"⟩, 65), (⟨"PepperTablesModel", "allSacks", "()I"⟩, 65), (⟨"PepperTablesModel", "saidBy", "(I)I"⟩, 65), (⟨"PepperTablesModel", "sneezed", "()I"⟩, 65), (⟨"PepperTablesModel", "keepAct", "()V"⟩, 65)]
theorem lw_r6 : ∀ q ∈ lw_privs_6, lw_okq q := List.forall_mem_cons.mpr ⟨lw_p80, List.forall_mem_cons.mpr ⟨lw_p81, List.forall_mem_cons.mpr ⟨lw_p82, List.forall_mem_cons.mpr ⟨lw_p83, List.forall_mem_cons.mpr ⟨lw_p84, List.forall_mem_cons.mpr ⟨lw_p85, List.forall_mem_cons.mpr ⟨lw_p86, List.forall_mem_cons.mpr ⟨lw_p87, List.forall_mem_cons.mpr ⟨lw_p88, List.forall_mem_cons.mpr ⟨lw_p89, List.forall_mem_cons.mpr ⟨lw_p90, List.forall_mem_cons.mpr ⟨lw_p91, List.forall_mem_cons.mpr ⟨lw_p92, List.forall_mem_cons.mpr ⟨lw_p93, List.forall_mem_cons.mpr ⟨lw_p94, List.forall_mem_cons.mpr ⟨lw_p95, fun _ h => absurd h List.not_mem_nil⟩⟩⟩⟩⟩⟩⟩⟩⟩⟩⟩⟩⟩⟩⟩⟩
theorem lw_p96 : lw_okq (⟨"PepperTablesModel", "goGrind", "(I)I"⟩, 65) := ⟨⟨by decide +kernel, by decide +kernel⟩, List.mem_of_getElem? (i := 1095) (by decide +kernel), List.mem_of_getElem? (i := 1635) (by decide +kernel), List.mem_of_getElem? (i := 1636) (by decide +kernel)⟩
theorem lw_p97 : lw_okq (⟨"PepperTablesModel", "swapAll", "()V"⟩, 65) := ⟨⟨by decide +kernel, by decide +kernel⟩, List.mem_of_getElem? (i := 1095) (by decide +kernel), List.mem_of_getElem? (i := 1651) (by decide +kernel), List.mem_of_getElem? (i := 1652) (by decide +kernel)⟩
theorem lw_p98 : lw_okq (⟨"PepperTablesModel", "wouldWith", "(II)I"⟩, 65) := ⟨⟨by decide +kernel, by decide +kernel⟩, List.mem_of_getElem? (i := 1095) (by decide +kernel), List.mem_of_getElem? (i := 1667) (by decide +kernel), List.mem_of_getElem? (i := 1668) (by decide +kernel)⟩
theorem lw_p99 : lw_okq (⟨"PepperTablesModel", "saidWith", "(I)I"⟩, 65) := ⟨⟨by decide +kernel, by decide +kernel⟩, List.mem_of_getElem? (i := 1095) (by decide +kernel), List.mem_of_getElem? (i := 1675) (by decide +kernel), List.mem_of_getElem? (i := 1676) (by decide +kernel)⟩
theorem lw_p100 : lw_okq (⟨"PepperTablesModel", "worthTo", "(II)I"⟩, 65) := ⟨⟨by decide +kernel, by decide +kernel⟩, List.mem_of_getElem? (i := 1095) (by decide +kernel), List.mem_of_getElem? (i := 1703) (by decide +kernel), List.mem_of_getElem? (i := 1704) (by decide +kernel)⟩
theorem lw_p101 : lw_okq (⟨"PepperTablesModel", "keepNow", "()V"⟩, 65) := ⟨⟨by decide +kernel, by decide +kernel⟩, List.mem_of_getElem? (i := 1095) (by decide +kernel), List.mem_of_getElem? (i := 1714) (by decide +kernel), List.mem_of_getElem? (i := 1715) (by decide +kernel)⟩
theorem lw_p102 : lw_okq (⟨"PepperTablesModel", "inRow", "(III)I"⟩, 65) := ⟨⟨by decide +kernel, by decide +kernel⟩, List.mem_of_getElem? (i := 1095) (by decide +kernel), List.mem_of_getElem? (i := 1718) (by decide +kernel), List.mem_of_getElem? (i := 1719) (by decide +kernel)⟩
theorem lw_p103 : lw_okq (⟨"PepperTablesModel", "bringBack", "()V"⟩, 65) := ⟨⟨by decide +kernel, by decide +kernel⟩, List.mem_of_getElem? (i := 1095) (by decide +kernel), List.mem_of_getElem? (i := 1722) (by decide +kernel), List.mem_of_getElem? (i := 1723) (by decide +kernel)⟩
theorem lw_p104 : lw_okq (⟨"PepperTablesModel", "canChange", "(II)Z"⟩, 65) := ⟨⟨by decide +kernel, by decide +kernel⟩, List.mem_of_getElem? (i := 1095) (by decide +kernel), List.mem_of_getElem? (i := 1742) (by decide +kernel), List.mem_of_getElem? (i := 1743) (by decide +kernel)⟩
theorem lw_p105 : lw_okq (⟨"PepperTablesModel", "isLine", "(II)Z"⟩, 65) := ⟨⟨by decide +kernel, by decide +kernel⟩, List.mem_of_getElem? (i := 1095) (by decide +kernel), List.mem_of_getElem? (i := 1758) (by decide +kernel), List.mem_of_getElem? (i := 1759) (by decide +kernel)⟩
theorem lw_p106 : lw_okq (⟨"PepperTablesModel", "inOrder", "(III)I"⟩, 65) := ⟨⟨by decide +kernel, by decide +kernel⟩, List.mem_of_getElem? (i := 1095) (by decide +kernel), List.mem_of_getElem? (i := 1762) (by decide +kernel), List.mem_of_getElem? (i := 1763) (by decide +kernel)⟩
theorem lw_p107 : lw_okq (⟨"PepperTablesModel", "doesKeep", "(II)Z"⟩, 65) := ⟨⟨by decide +kernel, by decide +kernel⟩, List.mem_of_getElem? (i := 1095) (by decide +kernel), List.mem_of_getElem? (i := 1766) (by decide +kernel), List.mem_of_getElem? (i := 1767) (by decide +kernel)⟩
theorem lw_p108 : lw_okq (⟨"PepperTablesModel", "layRows", "(I)V"⟩, 65) := ⟨⟨by decide +kernel, by decide +kernel⟩, List.mem_of_getElem? (i := 1095) (by decide +kernel), List.mem_of_getElem? (i := 1802) (by decide +kernel), List.mem_of_getElem? (i := 1803) (by decide +kernel)⟩
theorem lw_p109 : lw_okq (⟨"PepperTablesModel", "layMany", "()V"⟩, 65) := ⟨⟨by decide +kernel, by decide +kernel⟩, List.mem_of_getElem? (i := 1095) (by decide +kernel), List.mem_of_getElem? (i := 1806) (by decide +kernel), List.mem_of_getElem? (i := 1807) (by decide +kernel)⟩
theorem lw_p110 : lw_okq (⟨"PepperTablesModel", "hidden", "()I"⟩, 65) := ⟨⟨by decide +kernel, by decide +kernel⟩, List.mem_of_getElem? (i := 1095) (by decide +kernel), List.mem_of_getElem? (i := 1810) (by decide +kernel), List.mem_of_getElem? (i := 1811) (by decide +kernel)⟩
theorem lw_p111 : lw_okq (⟨"PepperTablesModel", "sackIn", "(II)I"⟩, 65) := ⟨⟨by decide +kernel, by decide +kernel⟩, List.mem_of_getElem? (i := 1095) (by decide +kernel), List.mem_of_getElem? (i := 1814) (by decide +kernel), List.mem_of_getElem? (i := 1815) (by decide +kernel)⟩
def lw_privs_7 : List (MethodName × Nat) := [(⟨"PepperTablesModel", "goGrind", "(I)I"⟩, 65), (⟨"PepperTablesModel", "swapAll", "()V"⟩, 65), (⟨"PepperTablesModel", "wouldWith", "(II)I"⟩, 65), (⟨"PepperTablesModel", "saidWith", "(I)I"⟩, 65), (⟨"PepperTablesModel", "worthTo", "(II)I"⟩, 65), (⟨"PepperTablesModel", "keepNow", "()V"⟩, 65), (⟨"PepperTablesModel", "inRow", "(III)I"⟩, 65), (⟨"PepperTablesModel", "bringBack", "()V"⟩, 65), (⟨"PepperTablesModel", "canChange", "(II)Z"⟩, 65), (⟨"PepperTablesModel", "isLine", "(II)Z"⟩, 65), (⟨"PepperTablesModel", "inOrder", "(III)I"⟩, 65), (⟨"PepperTablesModel", "doesKeep", "(II)Z"⟩, 65), (⟨"PepperTablesModel", "layRows", "(I)V"⟩, 65), (⟨"PepperTablesModel", "layMany", "()V"⟩, 65), (⟨"PepperTablesModel", "hidden", "()I"⟩, 65), (⟨"PepperTablesModel", "sackIn", "(II)I"⟩, 65)]
theorem lw_r7 : ∀ q ∈ lw_privs_7, lw_okq q := List.forall_mem_cons.mpr ⟨lw_p96, List.forall_mem_cons.mpr ⟨lw_p97, List.forall_mem_cons.mpr ⟨lw_p98, List.forall_mem_cons.mpr ⟨lw_p99, List.forall_mem_cons.mpr ⟨lw_p100, List.forall_mem_cons.mpr ⟨lw_p101, List.forall_mem_cons.mpr ⟨lw_p102, List.forall_mem_cons.mpr ⟨lw_p103, List.forall_mem_cons.mpr ⟨lw_p104, List.forall_mem_cons.mpr ⟨lw_p105, List.forall_mem_cons.mpr ⟨lw_p106, List.forall_mem_cons.mpr ⟨lw_p107, List.forall_mem_cons.mpr ⟨lw_p108, List.forall_mem_cons.mpr ⟨lw_p109, List.forall_mem_cons.mpr ⟨lw_p110, List.forall_mem_cons.mpr ⟨lw_p111, fun _ h => absurd h List.not_mem_nil⟩⟩⟩⟩⟩⟩⟩⟩⟩⟩⟩⟩⟩⟩⟩⟩
theorem lw_p112 : lw_okq (⟨"PepperTablesModel", "allRows", "()I"⟩, 65) := ⟨⟨by decide +kernel, by decide +kernel⟩, List.mem_of_getElem? (i := 1095) (by decide +kernel), List.mem_of_getElem? (i := 1818) (by decide +kernel), List.mem_of_getElem? (i := 1819) (by decide +kernel)⟩
theorem lw_p113 : lw_okq (⟨"PepperTablesModel", "doesFit", "(II)Z"⟩, 65) := ⟨⟨by decide +kernel, by decide +kernel⟩, List.mem_of_getElem? (i := 1095) (by decide +kernel), List.mem_of_getElem? (i := 1822) (by decide +kernel), List.mem_of_getElem? (i := 1823) (by decide +kernel)⟩
theorem lw_p114 : lw_okq (⟨"PepperTablesModel", "mostBy", "(II)I"⟩, 65) := ⟨⟨by decide +kernel, by decide +kernel⟩, List.mem_of_getElem? (i := 1095) (by decide +kernel), List.mem_of_getElem? (i := 1834) (by decide +kernel), List.mem_of_getElem? (i := 1835) (by decide +kernel)⟩
def lw_privs_8 : List (MethodName × Nat) := [(⟨"PepperTablesModel", "allRows", "()I"⟩, 65), (⟨"PepperTablesModel", "doesFit", "(II)Z"⟩, 65), (⟨"PepperTablesModel", "mostBy", "(II)I"⟩, 65)]
theorem lw_r8 : ∀ q ∈ lw_privs_8, lw_okq q := List.forall_mem_cons.mpr ⟨lw_p112, List.forall_mem_cons.mpr ⟨lw_p113, List.forall_mem_cons.mpr ⟨lw_p114, fun _ h => absurd h List.not_mem_nil⟩⟩⟩
def lw_privs : List (MethodName × Nat) := lw_privs_1 ++ (lw_privs_2 ++ (lw_privs_3 ++ (lw_privs_4 ++ (lw_privs_5 ++ (lw_privs_6 ++ (lw_privs_7 ++ (lw_privs_8)))))))
def lw_tbl : List Cond := k2_sels lw_privs ++ tables_1
theorem lw_privs_ok : ∀ q ∈ lw_privs, lw_okq q := by
  show ∀ q ∈ lw_privs_1 ++ (lw_privs_2 ++ (lw_privs_3 ++ (lw_privs_4 ++ (lw_privs_5 ++ (lw_privs_6 ++ (lw_privs_7 ++ (lw_privs_8))))))), lw_okq q
  exact List.forall_mem_append.mpr ⟨lw_r1, List.forall_mem_append.mpr ⟨lw_r2, List.forall_mem_append.mpr ⟨lw_r3, List.forall_mem_append.mpr ⟨lw_r4, List.forall_mem_append.mpr ⟨lw_r5, List.forall_mem_append.mpr ⟨lw_r6, List.forall_mem_append.mpr ⟨lw_r7, lw_r8⟩⟩⟩⟩⟩⟩⟩
end
section
theorem goodIn_r {big : List Cond} (ws : List Cond) (ps : List Nat) (hp : ws = ps.filterMap (fun i => big[i]?)) (h : ws.all goodWord = true) : GoodIn big ws := by
  intro w hw
  have h1 := List.all_eq_true.mp h w hw
  rw [hp] at hw
  obtain ⟨i, -, hi⟩ := List.mem_filterMap.mp hw
  have hm : w ∈ big := by first | exact List.mem_of_getElem? hi | exact List.getElem?_mem hi
  exact ⟨hm, good_of_word h1⟩
theorem goodIn_app {big a b : List Cond} (ha : GoodIn big a) (hb : GoodIn big b) : GoodIn big (a ++ b) := fun w h => (List.mem_append.mp h).elim (ha w) (hb w)
theorem goodIn_ca {big a b : List Cond} {c : Cond} (ha : GoodIn big (c :: a)) (hb : GoodIn big b) : GoodIn big (c :: (a ++ b)) := fun w h => (List.mem_cons.mp h).elim (fun e => ha w (List.mem_cons.mpr (Or.inl e))) (fun h => (List.mem_append.mp h).elim (fun h => ha w (List.mem_cons.mpr (Or.inr h))) (hb w))
theorem goodIn_sub {big ws : List Cond} (hm : ∀ w ∈ ws, w ∈ big) (h : ws.all goodWord = true) : GoodIn big ws := fun w hw => ⟨hm w hw, good_of_word (List.all_eq_true.mp h w hw)⟩
def RX0 : String := "PepperTables$Acts"
def TX0 : u_T := fun k => match k with
  | 0 => ("PepperTables$Acts", "undoable", "I", false)
  | 1 => ("PepperTables$Acts", "redoable", "I", false)
  | 2 => ("PepperTables$Acts", "row", "I", false)
  | _ => ("PepperTables$Acts", "rows", "[I", true)
def tyX0 : Nat → FieldType := fun k => match k with
  | 0 => .int
  | 1 => .int
  | 2 => .int
  | _ => .array .int
theorem nmX0 : ∀ a, a < 4 → ∀ b, b < 4 → a ≠ b → (TX0 a).2.1 ≠ (TX0 b).2.1 := by decide +kernel
theorem tyX0_ok : ∀ k, k < 4 → parseFieldDescriptor (TX0 k).2.2.1 = some (tyX0 k) := by decide +kernel
theorem ee_dcX0 : ∀ k, k < 4 → (TX0 k).1 = RX0 := by decide +kernel
def RX1 : String := "PepperTables$Boxes"
def TX1 : u_T := fun k => match k with
  | 0 => ("PepperTables$Boxes", "rows", "[I", true)
  | _ => ("PepperTables$Boxes", "filled", "[Z", true)
def tyX1 : Nat → FieldType := fun k => match k with
  | 0 => .array .int
  | _ => .array .boolean
theorem nmX1 : ∀ a, a < 2 → ∀ b, b < 2 → a ≠ b → (TX1 a).2.1 ≠ (TX1 b).2.1 := by decide +kernel
theorem tyX1_ok : ∀ k, k < 2 → parseFieldDescriptor (TX1 k).2.2.1 = some (tyX1 k) := by decide +kernel
theorem ee_dcX1 : ∀ k, k < 2 → (TX1 k).1 = RX1 := by decide +kernel
def RX2 : String := "PepperTables$Hearsay"
def TX2 : u_T := fun k => match k with
  | 0 => ("PepperTables$Hearsay", "count", "I", false)
  | 1 => ("PepperTables$Hearsay", "time", "I", false)
  | 2 => ("PepperTables$Hearsay", "isReckoned", "Z", false)
  | 3 => ("PepperTables$Hearsay", "rowCount", "I", false)
  | 4 => ("PepperTables$Hearsay", "sacks", "[I", true)
  | 5 => ("PepperTables$Hearsay", "many", "[I", true)
  | 6 => ("PepperTables$Hearsay", "is", "[Z", true)
  | 7 => ("PepperTables$Hearsay", "toldAt", "[I", true)
  | 8 => ("PepperTables$Hearsay", "untoldAt", "[I", true)
  | 9 => ("PepperTables$Hearsay", "outs", "[I", true)
  | 10 => ("PepperTables$Hearsay", "isLeft", "[Z", true)
  | 11 => ("PepperTables$Hearsay", "tally", "[I", true)
  | _ => ("PepperTables$Hearsay", "scene", "LPepperTables$State;", true)
def tyX2 : Nat → FieldType := fun k => match k with
  | 0 => .int
  | 1 => .int
  | 2 => .boolean
  | 3 => .int
  | 4 => .array .int
  | 5 => .array .int
  | 6 => .array .boolean
  | 7 => .array .int
  | 8 => .array .int
  | 9 => .array .int
  | 10 => .array .boolean
  | 11 => .array .int
  | _ => .object "PepperTables$State"
theorem nmX2 : ∀ a, a < 13 → ∀ b, b < 13 → a ≠ b → (TX2 a).2.1 ≠ (TX2 b).2.1 := by decide +kernel
theorem tyX2_ok : ∀ k, k < 13 → parseFieldDescriptor (TX2 k).2.2.1 = some (tyX2 k) := by decide +kernel
theorem ee_dcX2 : ∀ k, k < 13 → (TX2 k).1 = RX2 := by decide +kernel
def RX3 : String := "PepperTables$Lying"
def TX3 : u_T := fun k => match k with
  | 0 => ("PepperTables$Lying", "count", "I", false)
  | 1 => ("PepperTables$Lying", "numbers", "[I", true)
  | 2 => ("PepperTables$Lying", "path", "[I", true)
  | 3 => ("PepperTables$Lying", "listeners", "[I", true)
  | _ => ("PepperTables$Lying", "people", "I", false)
def tyX3 : Nat → FieldType := fun k => match k with
  | 0 => .int
  | 1 => .array .int
  | 2 => .array .int
  | 3 => .array .int
  | _ => .int
theorem nmX3 : ∀ a, a < 5 → ∀ b, b < 5 → a ≠ b → (TX3 a).2.1 ≠ (TX3 b).2.1 := by decide +kernel
theorem tyX3_ok : ∀ k, k < 5 → parseFieldDescriptor (TX3 k).2.2.1 = some (tyX3 k) := by decide +kernel
theorem ee_dcX3 : ∀ k, k < 5 → (TX3 k).1 = RX3 := by decide +kernel
def RX4 : String := "PepperTables$Mill"
def TX4 : u_T := fun k => match k with
  | 0 => ("PepperTables$Mill", "inputs", "[I", true)
  | 1 => ("PepperTables$Mill", "stack", "[I", true)
  | _ => ("PepperTables$Mill", "passingBySize", "[I", true)
def tyX4 : Nat → FieldType := fun k => match k with
  | 0 => .array .int
  | 1 => .array .int
  | _ => .array .int
theorem nmX4 : ∀ a, a < 3 → ∀ b, b < 3 → a ≠ b → (TX4 a).2.1 ≠ (TX4 b).2.1 := by decide +kernel
theorem tyX4_ok : ∀ k, k < 3 → parseFieldDescriptor (TX4 k).2.2.1 = some (tyX4 k) := by decide +kernel
theorem ee_dcX4 : ∀ k, k < 3 → (TX4 k).1 = RX4 := by decide +kernel
def RX5 : String := "PepperTables$Reader"
def TX5 : u_T := fun k => match k with
  | 0 => ("PepperTables$Reader", "length", "I", false)
  | 1 => ("PepperTables$Reader", "fault", "I", false)
  | 2 => ("PepperTables$Reader", "faultPlace", "I", false)
  | 3 => ("PepperTables$Reader", "target", "LPepperTables$Told;", false)
  | 4 => ("PepperTables$Reader", "text", "[I", true)
  | 5 => ("PepperTables$Reader", "words", "[J", true)
  | 6 => ("PepperTables$Reader", "at", "I", false)
  | 7 => ("PepperTables$Reader", "kind", "I", false)
  | 8 => ("PepperTables$Reader", "place", "I", false)
  | 9 => ("PepperTables$Reader", "number", "I", false)
  | _ => ("PepperTables$Reader", "name", "J", false)
def tyX5 : Nat → FieldType := fun k => match k with
  | 0 => .int
  | 1 => .int
  | 2 => .int
  | 3 => .object "PepperTables$Told"
  | 4 => .array .int
  | 5 => .array .long
  | 6 => .int
  | 7 => .int
  | 8 => .int
  | 9 => .int
  | _ => .long
theorem nmX5 : ∀ a, a < 11 → ∀ b, b < 11 → a ≠ b → (TX5 a).2.1 ≠ (TX5 b).2.1 := by decide +kernel
theorem tyX5_ok : ∀ k, k < 11 → parseFieldDescriptor (TX5 k).2.2.1 = some (tyX5 k) := by decide +kernel
theorem ee_dcX5 : ∀ k, k < 11 → (TX5 k).1 = RX5 := by decide +kernel
def RX6 : String := "PepperTables$State"
def TX6 : u_T := fun k => match k with
  | 0 => ("PepperTables$State", "sits", "I", false)
  | 1 => ("PepperTables$State", "said", "I", false)
  | 2 => ("PepperTables$State", "course", "I", false)
  | 3 => ("PepperTables$State", "seed", "I", false)
  | 4 => ("PepperTables$State", "where", "[I", true)
  | _ => ("PepperTables$State", "ground", "[I", true)
def tyX6 : Nat → FieldType := fun k => match k with
  | 0 => .int
  | 1 => .int
  | 2 => .int
  | 3 => .int
  | 4 => .array .int
  | _ => .array .int
theorem nmX6 : ∀ a, a < 6 → ∀ b, b < 6 → a ≠ b → (TX6 a).2.1 ≠ (TX6 b).2.1 := by decide +kernel
theorem tyX6_ok : ∀ k, k < 6 → parseFieldDescriptor (TX6 k).2.2.1 = some (tyX6 k) := by decide +kernel
theorem ee_dcX6 : ∀ k, k < 6 → (TX6 k).1 = RX6 := by decide +kernel
def RX7 : String := "PepperTables$Told"
def TX7 : u_T := fun k => match k with
  | 0 => ("PepperTables$Told", "people", "I", false)
  | 1 => ("PepperTables$Told", "sacks", "I", false)
  | 2 => ("PepperTables$Told", "things", "I", false)
  | 3 => ("PepperTables$Told", "units", "I", false)
  | 4 => ("PepperTables$Told", "sneeze", "I", false)
  | 5 => ("PepperTables$Told", "draw", "I", false)
  | 6 => ("PepperTables$Told", "codeLength", "I", false)
  | 7 => ("PepperTables$Told", "hasFormula", "Z", false)
  | 8 => ("PepperTables$Told", "hasSneeze", "Z", false)
  | 9 => ("PepperTables$Told", "hasDraw", "Z", false)
  | 10 => ("PepperTables$Told", "shy", "[I", true)
  | 11 => ("PepperTables$Told", "by", "[I", true)
  | 12 => ("PepperTables$Told", "to", "[I", true)
  | 13 => ("PepperTables$Told", "hot", "[I", true)
  | 14 => ("PepperTables$Told", "in", "[I", true)
  | 15 => ("PepperTables$Told", "code", "[I", true)
  | 16 => ("PepperTables$Told", "personNames", "[J", true)
  | 17 => ("PepperTables$Told", "sackNames", "[J", true)
  | _ => ("PepperTables$Told", "thingNames", "[J", true)
def tyX7 : Nat → FieldType := fun k => match k with
  | 0 => .int
  | 1 => .int
  | 2 => .int
  | 3 => .int
  | 4 => .int
  | 5 => .int
  | 6 => .int
  | 7 => .boolean
  | 8 => .boolean
  | 9 => .boolean
  | 10 => .array .int
  | 11 => .array .int
  | 12 => .array .int
  | 13 => .array .int
  | 14 => .array .int
  | 15 => .array .int
  | 16 => .array .long
  | 17 => .array .long
  | _ => .array .long
theorem nmX7 : ∀ a, a < 19 → ∀ b, b < 19 → a ≠ b → (TX7 a).2.1 ≠ (TX7 b).2.1 := by decide +kernel
theorem tyX7_ok : ∀ k, k < 19 → parseFieldDescriptor (TX7 k).2.2.1 = some (tyX7 k) := by decide +kernel
theorem ee_dcX7 : ∀ k, k < 19 → (TX7 k).1 = RX7 := by decide +kernel
def RX8 : String := "PepperTables"
def TX8 : u_T := fun k => match k with
  | 0 => ("PepperTables", "reader", "LPepperTables$Reader;", true)
  | 1 => ("PepperTables", "told", "LPepperTables$Told;", false)
  | 2 => ("PepperTables", "now", "LPepperTables$State;", true)
  | 3 => ("PepperTables", "trial", "LPepperTables$State;", true)
  | 4 => ("PepperTables", "mill", "LPepperTables$Mill;", true)
  | 5 => ("PepperTables", "acts", "LPepperTables$Acts;", true)
  | 6 => ("PepperTables", "boxes", "LPepperTables$Boxes;", true)
  | 7 => ("PepperTables", "lying", "LPepperTables$Lying;", true)
  | 8 => ("PepperTables", "hearsay", "LPepperTables$Hearsay;", true)
  | 9 => ("PepperTables", "scores", "[I", true)
  | 10 => ("PepperTables", "firstGains", "[I", true)
  | _ => ("PepperTables", "otherGains", "[I", true)
def tyX8 : Nat → FieldType := fun k => match k with
  | 0 => .object "PepperTables$Reader"
  | 1 => .object "PepperTables$Told"
  | 2 => .object "PepperTables$State"
  | 3 => .object "PepperTables$State"
  | 4 => .object "PepperTables$Mill"
  | 5 => .object "PepperTables$Acts"
  | 6 => .object "PepperTables$Boxes"
  | 7 => .object "PepperTables$Lying"
  | 8 => .object "PepperTables$Hearsay"
  | 9 => .array .int
  | 10 => .array .int
  | _ => .array .int
theorem nmX8 : ∀ a, a < 12 → ∀ b, b < 12 → a ≠ b → (TX8 a).2.1 ≠ (TX8 b).2.1 := by decide +kernel
theorem tyX8_ok : ∀ k, k < 12 → parseFieldDescriptor (TX8 k).2.2.1 = some (tyX8 k) := by decide +kernel
theorem ee_dcX8 : ∀ k, k < 12 → (TX8 k).1 = RX8 := by decide +kernel
def RX9 : String := "PepperTablesModel"
def TX9 : u_T := fun k => match k with
  | 0 => ("PepperTablesModel", "tape", "[B", true)
  | 1 => ("PepperTablesModel", "text", "[B", true)
  | 2 => ("PepperTablesModel", "taped", "I", false)
  | 3 => ("PepperTablesModel", "size", "I", false)
  | 4 => ("PepperTablesModel", "faultKind", "I", false)
  | 5 => ("PepperTablesModel", "faultPlace", "I", false)
  | 6 => ("PepperTablesModel", "at", "I", false)
  | 7 => ("PepperTablesModel", "end", "I", false)
  | 8 => ("PepperTablesModel", "token", "I", false)
  | 9 => ("PepperTablesModel", "number", "I", false)
  | 10 => ("PepperTablesModel", "name", "J", false)
  | 11 => ("PepperTablesModel", "people", "[I", true)
  | 12 => ("PepperTablesModel", "sacks", "[I", true)
  | 13 => ("PepperTablesModel", "things", "[I", true)
  | 14 => ("PepperTablesModel", "units", "[I", true)
  | 15 => ("PepperTablesModel", "sneeze", "[I", true)
  | 16 => ("PepperTablesModel", "draw", "[I", true)
  | 17 => ("PepperTablesModel", "told", "[I", true)
  | 18 => ("PepperTablesModel", "shy", "[I", true)
  | 19 => ("PepperTablesModel", "from", "[I", true)
  | 20 => ("PepperTablesModel", "whom", "[I", true)
  | 21 => ("PepperTablesModel", "hot", "[I", true)
  | 22 => ("PepperTablesModel", "inSack", "[I", true)
  | 23 => ("PepperTablesModel", "ruleFrom", "[I", true)
  | 24 => ("PepperTablesModel", "ruleTo", "[I", true)
  | 25 => ("PepperTablesModel", "pName", "[J", true)
  | 26 => ("PepperTablesModel", "sName", "[J", true)
  | 27 => ("PepperTablesModel", "tName", "[J", true)
  | 28 => ("PepperTablesModel", "code", "[I", true)
  | 29 => ("PepperTablesModel", "codeNumber", "[I", true)
  | 30 => ("PepperTablesModel", "eWhat", "[I", true)
  | 31 => ("PepperTablesModel", "eSign", "[I", true)
  | 32 => ("PepperTablesModel", "pile", "[I", true)
  | 33 => ("PepperTablesModel", "bank", "I", false)
  | 34 => ("PepperTablesModel", "rb", "I", false)
  | 35 => ("PepperTablesModel", "codes", "I", false)
  | 36 => ("PepperTablesModel", "within", "I", false)
  | 37 => ("PepperTablesModel", "piled", "I", false)
  | 38 => ("PepperTablesModel", "unitsInRule", "I", false)
  | 39 => ("PepperTablesModel", "askThing", "I", false)
  | 40 => ("PepperTablesModel", "askSack", "I", false)
  | 41 => ("PepperTablesModel", "askShy", "I", false)
  | 42 => ("PepperTablesModel", "all", "[I", true)
  | 43 => ("PepperTablesModel", "thoughtThing", "I", false)
  | 44 => ("PepperTablesModel", "thoughtShy", "I", false)
  | 45 => ("PepperTablesModel", "was", "[I", true)
  | 46 => ("PepperTablesModel", "acts", "I", false)
  | 47 => ("PepperTablesModel", "undone", "I", false)
  | 48 => ("PepperTablesModel", "kept", "[I", true)
  | 49 => ("PepperTablesModel", "laidRow", "[I", true)
  | 50 => ("PepperTablesModel", "laid", "I", false)
  | 51 => ("PepperTablesModel", "feasts", "[I", true)
  | 52 => ("PepperTablesModel", "manyBy", "[I", true)
  | 53 => ("PepperTablesModel", "sSack", "[I", true)
  | 54 => ("PepperTablesModel", "sMany", "[I", true)
  | 55 => ("PepperTablesModel", "sIs", "[I", true)
  | 56 => ("PepperTablesModel", "sTold", "[I", true)
  | 57 => ("PepperTablesModel", "sUntold", "[I", true)
  | 58 => ("PepperTablesModel", "parts", "[I", true)
  | 59 => ("PepperTablesModel", "byMany", "[I", true)
  | 60 => ("PepperTablesModel", "heards", "I", false)
  | 61 => ("PepperTablesModel", "time", "I", false)
  | 62 => ("PepperTablesModel", "fitting", "I", false)
  | 63 => ("PepperTablesModel", "boxAll", "[I", true)
  | _ => ("PepperTablesModel", "isBoxed", "[Z", true)
def tyX9 : Nat → FieldType := fun k => match k with
  | 0 => .array .byte
  | 1 => .array .byte
  | 2 => .int
  | 3 => .int
  | 4 => .int
  | 5 => .int
  | 6 => .int
  | 7 => .int
  | 8 => .int
  | 9 => .int
  | 10 => .long
  | 11 => .array .int
  | 12 => .array .int
  | 13 => .array .int
  | 14 => .array .int
  | 15 => .array .int
  | 16 => .array .int
  | 17 => .array .int
  | 18 => .array .int
  | 19 => .array .int
  | 20 => .array .int
  | 21 => .array .int
  | 22 => .array .int
  | 23 => .array .int
  | 24 => .array .int
  | 25 => .array .long
  | 26 => .array .long
  | 27 => .array .long
  | 28 => .array .int
  | 29 => .array .int
  | 30 => .array .int
  | 31 => .array .int
  | 32 => .array .int
  | 33 => .int
  | 34 => .int
  | 35 => .int
  | 36 => .int
  | 37 => .int
  | 38 => .int
  | 39 => .int
  | 40 => .int
  | 41 => .int
  | 42 => .array .int
  | 43 => .int
  | 44 => .int
  | 45 => .array .int
  | 46 => .int
  | 47 => .int
  | 48 => .array .int
  | 49 => .array .int
  | 50 => .int
  | 51 => .array .int
  | 52 => .array .int
  | 53 => .array .int
  | 54 => .array .int
  | 55 => .array .int
  | 56 => .array .int
  | 57 => .array .int
  | 58 => .array .int
  | 59 => .array .int
  | 60 => .int
  | 61 => .int
  | 62 => .int
  | 63 => .array .int
  | _ => .array .boolean
theorem nmX9 : ∀ a, a < 65 → ∀ b, b < 65 → a ≠ b → (TX9 a).2.1 ≠ (TX9 b).2.1 := by decide +kernel
theorem tyX9_ok : ∀ k, k < 65 → parseFieldDescriptor (TX9 k).2.2.1 = some (tyX9 k) := by decide +kernel
theorem ee_dcX9 : ∀ k, k < 65 → (TX9 k).1 = RX9 := by decide +kernel
abbrev vwCl : List vw_C := [(RX0, TX0, 4), (RX1, TX1, 2), (RX2, TX2, 13), (RX3, TX3, 5), (RX4, TX4, 3), (RX5, TX5, 11), (RX6, TX6, 6), (RX7, TX7, 19), (RX8, TX8, 12), (RX9, TX9, 65)]
/-- the words that a callee may keep -/
def ee_tbl : List Cond := lw_tbl.filter goodWord
def ee_own : List String := [RX0, RX1, RX2, RX3, RX4, RX5, RX6, RX7, RX8, RX9, "PepperTablesLaw", "java/lang/Integer", "java/lang/String", "java/lang/StringLatin1", "jdk/internal/util/Preconditions"]
def ee_at (i : Nat) (w : Cond) : Bool := decide (lw_tbl[i]? = some w) && goodWord w
theorem ee_at.mem {i : Nat} {w : Cond} (h : ee_at i w = true) : w ∈ ee_tbl := by
  have h := Bool.and_eq_true_iff.mp h
  exact List.mem_filter.mpr ⟨List.mem_of_getElem? (of_decide_eq_true h.1), h.2⟩
def ee_atL (i : Nat) (w : Cond) : Bool := decide (lw_tbl[i]? = some w)
theorem ee_atL.mem {i : Nat} {w : Cond} (h : ee_atL i w = true) : w ∈ lw_tbl := List.mem_of_getElem? (of_decide_eq_true h)
theorem ee_tbl_good : ∀ w ∈ ee_tbl, goodWord w = true := fun w h => (List.mem_filter.mp h).2
theorem ee_tbl_lw : ∀ w ∈ ee_tbl, w ∈ lw_tbl := fun w h => (List.mem_filter.mp h).1
theorem ee_wsX0 : u_ws RX0 TX0 4 = [416, 418, 420, 422].filterMap (fun i => lw_tbl[i]?) ∧ (u_ws RX0 TX0 4).all goodWord = true := by decide +kernel
theorem ee_wsX1 : u_ws RX1 TX1 2 = [433, 435].filterMap (fun i => lw_tbl[i]?) ∧ (u_ws RX1 TX1 2).all goodWord = true := by decide +kernel
theorem ee_wsX2 : u_ws RX2 TX2 13 = [485, 487, 489, 491, 493, 495, 497, 499, 501, 503, 505, 507, 509].filterMap (fun i => lw_tbl[i]?) ∧ (u_ws RX2 TX2 13).all goodWord = true := by decide +kernel
theorem ee_wsX3 : u_ws RX3 TX3 5 = [451, 453, 455, 457, 459].filterMap (fun i => lw_tbl[i]?) ∧ (u_ws RX3 TX3 5).all goodWord = true := by decide +kernel
theorem ee_wsX4 : u_ws RX4 TX4 3 = [397, 399, 401].filterMap (fun i => lw_tbl[i]?) ∧ (u_ws RX4 TX4 3).all goodWord = true := by decide +kernel
theorem ee_wsX5 : u_ws RX5 TX5 11 = [326, 328, 330, 332, 334, 336, 338, 340, 342, 344, 346].filterMap (fun i => lw_tbl[i]?) ∧ (u_ws RX5 TX5 11).all goodWord = true := by decide +kernel
theorem ee_wsX6 : u_ws RX6 TX6 6 = [375, 377, 379, 381, 383, 385].filterMap (fun i => lw_tbl[i]?) ∧ (u_ws RX6 TX6 6).all goodWord = true := by decide +kernel
theorem ee_wsX7 : u_ws RX7 TX7 19 = [220, 222, 224, 226, 228, 230, 232, 234, 236, 238, 240, 242, 244, 246, 248, 250, 252, 254, 256].filterMap (fun i => lw_tbl[i]?) ∧ (u_ws RX7 TX7 19).all goodWord = true := by decide +kernel
theorem ee_wsX8 : u_ws RX8 TX8 12 = [524, 526, 528, 530, 532, 534, 536, 538, 540, 542, 544, 546].filterMap (fun i => lw_tbl[i]?) ∧ (u_ws RX8 TX8 12).all goodWord = true := by decide +kernel
theorem ee_wsX9 : u_ws RX9 TX9 65 = [1296, 1298, 1300, 1302, 1304, 1306, 1308, 1310, 1312, 1314, 1316, 1318, 1320, 1322, 1324, 1326, 1328, 1330, 1332, 1334, 1336, 1338, 1340, 1342, 1344, 1346, 1348, 1350, 1352, 1354, 1356, 1358, 1360, 1362, 1364, 1366, 1368, 1370, 1372, 1374, 1376, 1378, 1380, 1382, 1384, 1386, 1388, 1390, 1392, 1394, 1396, 1398, 1400, 1402, 1404, 1406, 1408, 1410, 1412, 1414, 1416, 1418, 1420, 1422, 1424].filterMap (fun i => lw_tbl[i]?) ∧ (u_ws RX9 TX9 65).all goodWord = true := by decide +kernel
theorem ee_in_of {ws : List Cond} {ps : List Nat} (h : ws = ps.filterMap (fun i => lw_tbl[i]?) ∧ ws.all goodWord = true) : ∀ w ∈ ws, w ∈ ee_tbl := fun w hw => by
  have hg := List.all_eq_true.mp h.2 w hw
  rw [h.1] at hw
  obtain ⟨i, -, hi⟩ := List.mem_filterMap.mp hw
  exact List.mem_filter.mpr ⟨List.mem_of_getElem? hi, hg⟩
/-- what the tables say of a kind -/
def ee_Kd (q : vw_C) : Prop := (∀ w ∈ u_ws q.1 q.2.1 q.2.2, w ∈ ee_tbl) ∧ (∀ a, a < q.2.2 → ∀ b, b < q.2.2 → a ≠ b → (q.2.1 a).2.1 ≠ (q.2.1 b).2.1) ∧ ∃ ty : Nat → FieldType, ∀ k, k < q.2.2 → (parseFieldDescriptor (q.2.1 k).2.2.1 = some (ty k) ∧ (q.2.1 k).1 = q.1)
theorem ee_kd : ∀ (k : Nat) (q : vw_C), vwCl[k]? = some q → ee_Kd q := by
  intro k q h
  match k, h with
  | 0, h => cases h; exact ⟨ee_in_of ee_wsX0, nmX0, tyX0, fun k hk => ⟨tyX0_ok k hk, ee_dcX0 k hk⟩⟩
  | 1, h => cases h; exact ⟨ee_in_of ee_wsX1, nmX1, tyX1, fun k hk => ⟨tyX1_ok k hk, ee_dcX1 k hk⟩⟩
  | 2, h => cases h; exact ⟨ee_in_of ee_wsX2, nmX2, tyX2, fun k hk => ⟨tyX2_ok k hk, ee_dcX2 k hk⟩⟩
  | 3, h => cases h; exact ⟨ee_in_of ee_wsX3, nmX3, tyX3, fun k hk => ⟨tyX3_ok k hk, ee_dcX3 k hk⟩⟩
  | 4, h => cases h; exact ⟨ee_in_of ee_wsX4, nmX4, tyX4, fun k hk => ⟨tyX4_ok k hk, ee_dcX4 k hk⟩⟩
  | 5, h => cases h; exact ⟨ee_in_of ee_wsX5, nmX5, tyX5, fun k hk => ⟨tyX5_ok k hk, ee_dcX5 k hk⟩⟩
  | 6, h => cases h; exact ⟨ee_in_of ee_wsX6, nmX6, tyX6, fun k hk => ⟨tyX6_ok k hk, ee_dcX6 k hk⟩⟩
  | 7, h => cases h; exact ⟨ee_in_of ee_wsX7, nmX7, tyX7, fun k hk => ⟨tyX7_ok k hk, ee_dcX7 k hk⟩⟩
  | 8, h => cases h; exact ⟨ee_in_of ee_wsX8, nmX8, tyX8, fun k hk => ⟨tyX8_ok k hk, ee_dcX8 k hk⟩⟩
  | 9, h => cases h; exact ⟨ee_in_of ee_wsX9, nmX9, tyX9, fun k hk => ⟨tyX9_ok k hk, ee_dcX9 k hk⟩⟩
  | k + 10, h => simp [vwCl] at h
theorem ee_okn : ∀ (k : Nat) (q : vw_C), vwCl[k]? = some q → ee_own[k]? = some q.1 := by
  intro k q h
  match k, h with
  | 0, h => cases h; rfl
  | 1, h => cases h; rfl
  | 2, h => cases h; rfl
  | 3, h => cases h; rfl
  | 4, h => cases h; rfl
  | 5, h => cases h; rfl
  | 6, h => cases h; rfl
  | 7, h => cases h; rfl
  | 8, h => cases h; rfl
  | 9, h => cases h; rfl
  | k + 10, h => simp [vwCl] at h
theorem ee_inst : ∀ (k : Nat) (q : vw_C), vwCl[k]? = some q → Cond.instantiable q.1 q.2.2 ∈ ee_tbl := by
  intro k q h
  match k, h with
  | 0, h => cases h; exact ee_at.mem (i := 405) (by decide +kernel)
  | 1, h => cases h; exact ee_at.mem (i := 426) (by decide +kernel)
  | 2, h => cases h; exact ee_at.mem (i := 463) (by decide +kernel)
  | 3, h => cases h; exact ee_at.mem (i := 440) (by decide +kernel)
  | 4, h => cases h; exact ee_at.mem (i := 389) (by decide +kernel)
  | 5, h => cases h; exact ee_at.mem (i := 143) (by decide +kernel)
  | 6, h => cases h; exact ee_at.mem (i := 353) (by decide +kernel)
  | 7, h => cases h; exact ee_at.mem (i := 149) (by decide +kernel)
  | 8, h => cases h; exact ee_at.mem (i := 135) (by decide +kernel)
  | 9, h => cases h; exact ee_at.mem (i := 1210) (by decide +kernel)
  | k + 10, h => simp [vwCl] at h
def ee_len : List Nat := [89, 11]
def ee_byt : List (List Int32) := [[112, 101, 114, 115, 111, 110, 32, 115, 97, 99, 107, 32, 116, 104, 105, 110, 103, 32, 115, 97, 105, 100, 32, 115, 110, 101, 101, 122, 101, 32, 100, 114, 97, 119, 32, 98, 121, 32, 116, 111, 32, 105, 110, 32, 111, 114, 32, 97, 110, 100, 32, 110, 111, 116, 32, 104, 111, 116, 32, 115, 104, 121, 32, 103, 117, 101, 115, 116, 115, 32, 103, 114, 111, 117, 110, 100, 32, 104, 101, 97, 116, 32, 99, 111, 117, 114, 115, 101, 32], [59, 40, 41, 60, 62, 61, 43, 45, 42, 47, 37]]
def ee_six : List Nat := [30, 73]
def ee_stx : List String := ["person sack thing said sneeze draw by to in or and not hot shy guests ground heat course ", ";()<>=+-*/%"]
end
section
/-! a symbolic walker over the machine: values, cells, states, and what they stand for -/
/-- of each symbol: its bounds, and (if known) that it is another one plus a number -/
abbrev ee_iv : Type := List (Int × Int × Option (Nat × Int32))
/-- a cell: an object (its kind's number, its fields), or an array (its kind: 0 int, 1 byte, 2 boolean, 3 long; its length; bounds of its elements, but for those that are named) -/
abbrev ee_cell : Type := (Nat × List Value) ⊕ (Nat × Nat × Int × Int × List (Nat × Value))
abbrev ee_w : Type := List ee_cell
/-- pc, locals, stack, cells, symbols, cells and slots made so far, values kept for the callers -/
abbrev ee_st : Type := Nat × List (Nat × Value) × List Value × ee_w × ee_iv × Nat × Nat × List Value
abbrev ee_out : Type := Option Value × ee_w × ee_iv × Nat × Nat × List Value
def ee_all {α β : Type} (R : α → β → Prop) : List α → List β → Prop
  | [], [] => True
  | a :: l, b :: k => R a b ∧ ee_all R l k
  | _, _ => False
theorem ee_all.imp {α β : Type} {R S : α → β → Prop} (h : ∀ a b, R a b → S a b) : ∀ {l : List α} {k : List β}, ee_all R l k → ee_all S l k
  | [], [], _ => trivial
  | a :: l, b :: k, q => ⟨h a b q.1, ee_all.imp h q.2⟩
  | [], _ :: _, q => q.elim
  | _ :: _, [], q => q.elim
theorem ee_all.len {α β : Type} {R : α → β → Prop} : ∀ {l : List α} {k : List β}, ee_all R l k → l.length = k.length
  | [], [], _ => rfl
  | a :: l, b :: k, q => by rw [List.length_cons, List.length_cons, ee_all.len q.2]
  | [], _ :: _, q => q.elim
  | _ :: _, [], q => q.elim
theorem ee_all.get {α β : Type} {R : α → β → Prop} : ∀ {l : List α} {k : List β} {i : Nat} {a : α}, ee_all R l k → l[i]? = some a → ∃ b, k[i]? = some b ∧ R a b
  | [], [], i, a, _, h => by simp at h
  | x :: l, y :: k, 0, a, q, h => by
    rw [List.getElem?_cons_zero] at h
    cases h
    exact ⟨y, List.getElem?_cons_zero, q.1⟩
  | x :: l, y :: k, i + 1, a, q, h => by
    rw [List.getElem?_cons_succ] at h
    obtain ⟨b, h1, h2⟩ := ee_all.get q.2 h
    exact ⟨b, by rw [List.getElem?_cons_succ]; exact h1, h2⟩
  | [], _ :: _, _, _, q, _ => q.elim
  | _ :: _, [], _, _, q, _ => q.elim
theorem ee_all.set {α β : Type} {R : α → β → Prop} {a : α} {b : β} (hab : R a b) : ∀ {l : List α} {k : List β} {i : Nat}, ee_all R l k → ee_all R (l.set i a) (k.set i b)
  | [], [], _, _ => trivial
  | x :: l, y :: k, 0, q => ⟨hab, q.2⟩
  | x :: l, y :: k, i + 1, q => ⟨q.1, ee_all.set hab q.2⟩
  | [], _ :: _, _, q => q.elim
  | _ :: _, [], _, q => q.elim
theorem ee_all.app {α β : Type} {R : α → β → Prop} : ∀ {l l2 : List α} {k k2 : List β}, ee_all R l k → ee_all R l2 k2 → ee_all R (l ++ l2) (k ++ k2)
  | [], _, [], _, _, h => h
  | a :: l, _, b :: k, _, q, h => ⟨q.1, ee_all.app q.2 h⟩
  | [], _, _ :: _, _, q, _ => q.elim
  | _ :: _, _, [], _, q, _ => q.elim
theorem ee_all.split {α β : Type} {R : α → β → Prop} : ∀ {l l2 : List α} {k : List β}, ee_all R (l ++ l2) k → ∃ k1 k2, k = k1 ++ k2 ∧ ee_all R l k1 ∧ ee_all R l2 k2
  | [], _, k, h => ⟨[], k, rfl, trivial, h⟩
  | a :: l, l2, [], h => h.elim
  | a :: l, l2, b :: k, h => by
    obtain ⟨k1, k2, e, h1, h2⟩ := ee_all.split (l := l) (l2 := l2) (k := k) h.2
    exact ⟨b :: k1, k2, by rw [e]; rfl, ⟨h.1, h1⟩, h2⟩
theorem ee_all.split2 {α β : Type} {R : α → β → Prop} : ∀ {l : List α} {k1 k2 : List β}, ee_all R l (k1 ++ k2) → ee_all R (l.take k1.length) k1 ∧ ee_all R (l.drop k1.length) k2
  | l, [], k2, h => ⟨by simp [ee_all], by simpa using h⟩
  | [], b :: k1, k2, h => h.elim
  | a :: l, b :: k1, k2, h => by
    obtain ⟨h1, h2⟩ := ee_all.split2 (l := l) (k1 := k1) (k2 := k2) h.2
    exact ⟨⟨h.1, by simpa using h1⟩, by simpa using h2⟩
theorem ee_all.filter {α β : Type} {R : α → β → Prop} {p : α → Bool} {q : β → Bool} (h : ∀ a b, R a b → p a = q b) : ∀ {l : List α} {k : List β}, ee_all R l k → ee_all R (l.filter p) (k.filter q)
  | [], [], _ => trivial
  | a :: l, b :: k, z => by
    have ih := ee_all.filter h z.2
    have e := h a b z.1
    cases hp : p a with
    | true =>
      rw [List.filter_cons_of_pos hp, List.filter_cons_of_pos (by rw [← e]; exact hp)]
      exact ⟨z.1, ih⟩
    | false =>
      rw [List.filter_cons_of_neg (by rw [hp]; simp), List.filter_cons_of_neg (by rw [← e, hp]; simp)]
      exact ih
  | [], _ :: _, z => z.elim
  | _ :: _, [], z => z.elim
theorem ee_all.rev {α β : Type} {R : α → β → Prop} : ∀ {l : List α} {k : List β}, ee_all R l k → ee_all R l.reverse k.reverse
  | [], [], _ => trivial
  | a :: l, b :: k, q => by
    rw [List.reverse_cons, List.reverse_cons]
    exact ee_all.app (ee_all.rev q.2) ⟨q.1, trivial⟩
  | [], _ :: _, q => q.elim
  | _ :: _, [], q => q.elim
/-- what a symbolic value stands for: numbers of the symbols, addresses of the cells, addresses of what lies outside -/
def ee_v (ns : List Int32) (as : List Nat) (ex : Nat → Nat) (x v : Value) : Prop := match x with
  | .int c => v = .int c
  | .retAddr k => ∃ z, ns[k]? = some z ∧ v = .int z
  | .ref k => if k < 1000000 then ∃ a, as[k]? = some a ∧ v = .ref a else v = .ref (ex k)
  | .null => v = .null
  | .long _ => ∃ z, v = .long z
  | .float _ => v = .null ∨ ∃ a, v = .ref a
  | .double _ => False
theorem ee_get_app {α : Type} {l r : List α} {k : Nat} {a : α} (h : l[k]? = some a) : (l ++ r)[k]? = some a := by
  rw [List.getElem?_append_left (List.getElem?_eq_some_iff.mp h).1]
  exact h
theorem ee_v.mono {ns : List Int32} {as : List Nat} {ex : Nat → Nat} {x v : Value} (n2 : List Int32) (a2 : List Nat) (h : ee_v ns as ex x v) : ee_v (ns ++ n2) (as ++ a2) ex x v := by
  cases x with
  | int c => exact h
  | retAddr k =>
    obtain ⟨z, h1, h2⟩ := h
    exact ⟨z, ee_get_app h1, h2⟩
  | ref k =>
    unfold ee_v at h ⊢
    by_cases hk : k < 1000000
    · simp only [hk, if_true] at h ⊢
      obtain ⟨a, h1, h2⟩ := h
      exact ⟨a, ee_get_app h1, h2⟩
    · simp only [hk, if_false] at h ⊢
      exact h
  | null => exact h
  | long z => exact h
  | float z => exact h
  | double z => exact h
def ee_cat (x : Value) : Nat := match x with
  | .long _ => 2
  | _ => 1
theorem ee_v.cat {ns : List Int32} {as : List Nat} {ex : Nat → Nat} {x v : Value} (h : ee_v ns as ex x v) : v.category = ee_cat x := by
  cases x with
  | int c => rw [show v = .int c from h]; rfl
  | retAddr k =>
    obtain ⟨z, h1, h2⟩ := h
    rw [h2]; rfl
  | ref k =>
    unfold ee_v at h
    by_cases hk : k < 1000000
    · simp only [hk, if_true] at h
      obtain ⟨a, h1, h2⟩ := h
      rw [h2]; rfl
    · simp only [hk, if_false] at h
      rw [h]; rfl
  | null => rw [show v = .null from h]; rfl
  | long z =>
    obtain ⟨z, h2⟩ := h
    rw [h2]; rfl
  | float z =>
    rcases h with h | ⟨a, h⟩ <;> (rw [h]; rfl)
  | double z => exact h.elim
/-- what an array's element is -/
def ee_el (ns : List Int32) (as : List Nat) (ex : Nat → Nat) (lo hi : Int) (ov : List (Nat × Value)) (j : Nat) (z : Int32) : Prop := match ov.lookup j with
  | some x => ee_v ns as ex x (.int z)
  | none => lo ≤ z.toInt ∧ z.toInt ≤ hi
theorem ee_el.mono {ns : List Int32} {as : List Nat} {ex : Nat → Nat} {lo hi : Int} {ov : List (Nat × Value)} {j : Nat} {z : Int32} (n2 : List Int32) (a2 : List Nat) (h : ee_el ns as ex lo hi ov j z) : ee_el (ns ++ n2) (as ++ a2) ex lo hi ov j z := by
  unfold ee_el at h ⊢
  cases hl : ov.lookup j with
  | none => rw [hl] at h; exact h
  | some x => rw [hl] at h; exact ee_v.mono n2 a2 h
def ee_c (ns : List Int32) (as : List Nat) (ex : Nat → Nat) (dA : Nat → ClassId) (x : ee_cell) (e : va_E) : Prop := match x with
  | .inl (ci, fs) => ∃ vs, e = .inr (ci, vs) ∧ ee_all (ee_v ns as ex) fs vs
  | .inr (t, n, lo, hi, ov) => if t = 3 then ∃ f : Nat → Int64, e = .inl (dA 3, n, .inr (.inl f)) else t < 3 ∧ ∃ f : Nat → Int32, e = .inl (dA t, n, .inl f) ∧ ∀ j, j < n → ee_el ns as ex lo hi ov j (f j)
theorem ee_c.mono {ns : List Int32} {as : List Nat} {ex : Nat → Nat} {dA : Nat → ClassId} {x : ee_cell} {e : va_E} (n2 : List Int32) (a2 : List Nat) (h : ee_c ns as ex dA x e) : ee_c (ns ++ n2) (as ++ a2) ex dA x e := by
  match x, h with
  | .inl (ci, fs), ⟨vs, h1, h2⟩ => exact ⟨vs, h1, h2.imp (fun a b q => ee_v.mono n2 a2 q)⟩
  | .inr (t, n, lo, hi, ov), h =>
    unfold ee_c at h ⊢
    by_cases ht : t = 3
    · simp only [ht, if_true] at h ⊢
      exact h
    · simp only [ht, if_false] at h ⊢
      obtain ⟨h0, f, h1, h2⟩ := h
      exact ⟨h0, f, h1, fun j hj => (h2 j hj).mono n2 a2⟩
/-- the cells -/
def ee_wr (ns : List Int32) (as : List Nat) (ex : Nat → Nat) (dA : Nat → ClassId) (w : ee_w) (ws : va_W) : Prop := as = ws.map (fun q => q.1) ∧ ee_all (fun x q => ee_c ns as ex dA x q.2) w ws
/-- the symbols -/
def ee_ok (ns : List Int32) (iv : ee_iv) : Prop := iv.length = ns.length ∧ ∀ (k : Nat) (q : Int × Int × Option (Nat × Int32)), iv[k]? = some q → ∃ z, ns[k]? = some z ∧ q.1 ≤ z.toInt ∧ z.toInt ≤ q.2.1 ∧ ∀ j d, q.2.2 = some (j, d) → ∃ y, ns[j]? = some y ∧ z = y + d
theorem ee_ok.push {ns : List Int32} {iv : ee_iv} (h : ee_ok ns iv) {z : Int32} {lo hi : Int} {o : Option (Nat × Int32)} (h1 : lo ≤ z.toInt) (h2 : z.toInt ≤ hi) (h3 : ∀ j d, o = some (j, d) → ∃ y, ns[j]? = some y ∧ z = y + d) : ee_ok (ns ++ [z]) (iv ++ [(lo, hi, o)]) := by
  refine ⟨by rw [List.length_append, List.length_append, h.1]; rfl, fun k q hk => ?_⟩
  by_cases hl : k < iv.length
  · rw [List.getElem?_append_left hl] at hk
    obtain ⟨y, g1, g2, g3, g4⟩ := h.2 k q hk
    refine ⟨y, ee_get_app g1, g2, g3, fun j d hj => ?_⟩
    obtain ⟨x, f1, f2⟩ := g4 j d hj
    exact ⟨x, ee_get_app f1, f2⟩
  · rw [List.getElem?_append_right (by omega)] at hk
    have hz : k - iv.length < 1 := (List.getElem?_eq_some_iff.mp hk).1
    have hk0 : k = iv.length := by omega
    subst hk0
    rw [Nat.sub_self] at hk
    cases hk
    refine ⟨z, by rw [h.1, List.getElem?_append_right (Nat.le_refl _), Nat.sub_self]; rfl, h1, h2, fun j d hj => ?_⟩
    obtain ⟨x, f1, f2⟩ := h3 j d hj
    exact ⟨x, ee_get_app f1, f2⟩
theorem ee_ok.last {ns : List Int32} {iv : ee_iv} (h : ee_ok ns iv) (z : Int32) : (ns ++ [z])[iv.length]? = some z := by
  rw [h.1, List.getElem?_append_right (Nat.le_refl _), Nat.sub_self]; rfl
/-- an int's bounds -/
def ee_it (iv : ee_iv) (x : Value) : Option (Int × Int) := match x with
  | .int c => some (c.toInt, c.toInt)
  | .retAddr k => match iv[k]? with
    | some q => some (q.1, q.2.1)
    | none => none
  | _ => none
theorem ee_it.int {ns : List Int32} {as : List Nat} {ex : Nat → Nat} {iv : ee_iv} {x v : Value} {a b : Int} (hk : ee_ok ns iv) (h : ee_v ns as ex x v) (hi : ee_it iv x = some (a, b)) : ∃ z : Int32, v = .int z ∧ a ≤ z.toInt ∧ z.toInt ≤ b := by
  cases x with
  | int c =>
    cases hi
    exact ⟨c, h, Int.le_refl _, Int.le_refl _⟩
  | retAddr k =>
    obtain ⟨z, h1, h2⟩ := h
    simp only [ee_it] at hi
    cases hq : iv[k]? with
    | none => rw [hq] at hi; cases hi
    | some q =>
      rw [hq] at hi
      cases hi
      obtain ⟨y, g1, g2, g3, -⟩ := hk.2 k q hq
      rw [h1] at g1
      cases g1
      exact ⟨z, h2, g2, g3⟩
  | _ => cases hi
/-- an int that is known -/
def ee_cn (iv : ee_iv) (x : Value) : Option Int32 := match x with
  | .int c => some c
  | .retAddr k => match iv[k]? with
    | some q => if q.1 = q.2.1 then some (Int32.ofInt q.1) else none
    | none => none
  | _ => none
theorem ee_cn.int {ns : List Int32} {as : List Nat} {ex : Nat → Nat} {iv : ee_iv} {x v : Value} {c : Int32} (hk : ee_ok ns iv) (h : ee_v ns as ex x v) (hi : ee_cn iv x = some c) : v = .int c := by
  cases x with
  | int d =>
    cases hi
    exact h
  | retAddr k =>
    obtain ⟨z, h1, h2⟩ := h
    simp only [ee_cn] at hi
    cases hq : iv[k]? with
    | none => rw [hq] at hi; cases hi
    | some q =>
      rw [hq] at hi
      obtain ⟨y, g1, g2, g3, -⟩ := hk.2 k q hq
      rw [h1] at g1
      cases g1
      by_cases e : q.1 = q.2.1
      · simp only [e, if_true] at hi
        cases hi
        rw [h2, ← show z.toInt = q.2.1 by omega, Int32.ofInt_toInt]
      · simp only [e, if_false] at hi
        cases hi
  | _ => cases hi
/-- closer bounds -/
def ee_put (iv : ee_iv) (x : Value) (lo hi : Int) : ee_iv := match x with
  | .retAddr k => match iv[k]? with
    | some q => iv.set k (lo, hi, q.2.2)
    | none => iv
  | _ => iv
theorem ee_put.ok {ns : List Int32} {as : List Nat} {ex : Nat → Nat} {iv : ee_iv} {x : Value} {z : Int32} {lo hi : Int} (hk : ee_ok ns iv) (h : ee_v ns as ex x (.int z)) (h1 : lo ≤ z.toInt) (h2 : z.toInt ≤ hi) : ee_ok ns (ee_put iv x lo hi) := by
  cases x with
  | retAddr k =>
    obtain ⟨y, g1, g2⟩ := h
    cases g2
    simp only [ee_put]
    cases hq : iv[k]? with
    | none => exact hk
    | some q =>
      refine ⟨by rw [List.length_set]; exact hk.1, fun i r hr => ?_⟩
      by_cases hi : i = k
      · subst hi
        rw [List.getElem?_set_self (List.getElem?_eq_some_iff.mp hq).1] at hr
        cases hr
        obtain ⟨y, f1, -, -, f4⟩ := hk.2 i q hq
        rw [g1] at f1
        cases f1
        exact ⟨z, g1, h1, h2, f4⟩
      · rw [List.getElem?_set_ne (Ne.symm hi)] at hr
        exact hk.2 i r hr
  | _ => exact hk
def ee_mx (a b : Int) : Int := if a ≤ b then b else a
def ee_mn (a b : Int) : Int := if a ≤ b then a else b
theorem ee_mx_le {a b c : Int} (h1 : a ≤ c) (h2 : b ≤ c) : ee_mx a b ≤ c := by unfold ee_mx; split <;> assumption
theorem ee_le_mn {a b c : Int} (h1 : c ≤ a) (h2 : c ≤ b) : c ≤ ee_mn a b := by unfold ee_mn; split <;> assumption
/-- what the answer of a comparison says of both bounds; none: it cannot be -/
def ee_rf (c : ClassFile.Cond) (iv : ee_iv) (x y : Value) (a b d e : Int) : List ee_iv := match c with
  | .eq => if ee_mx a d ≤ ee_mn b e then [ee_put (ee_put iv x (ee_mx a d) (ee_mn b e)) y (ee_mx a d) (ee_mn b e)] else []
  | .ne => if x = y then [] else if d = e then
      (if a = d then (if b = d then [] else [ee_put iv x (a + 1) b]) else if b = d then [ee_put iv x a (b - 1)] else if a < d ∧ d < b then [ee_put iv x a (d - 1), ee_put iv x (d + 1) b] else [iv])
    else [iv]
  | .lt => if x = y then [] else if a ≤ ee_mn b (e - 1) ∧ ee_mx d (a + 1) ≤ e then [ee_put (ee_put iv x a (ee_mn b (e - 1))) y (ee_mx d (a + 1)) e] else []
  | .ge => if ee_mx a d ≤ b ∧ d ≤ ee_mn e b then [ee_put (ee_put iv x (ee_mx a d) b) y d (ee_mn e b)] else []
  | .gt => if x = y then [] else if d ≤ ee_mn e (b - 1) ∧ ee_mx a (d + 1) ≤ b then [ee_put (ee_put iv y d (ee_mn e (b - 1))) x (ee_mx a (d + 1)) b] else []
  | .le => if ee_mx d a ≤ e ∧ a ≤ ee_mn b e then [ee_put (ee_put iv y (ee_mx d a) e) x a (ee_mn b e)] else []
def ee_cd (c : ClassFile.Cond) (x y : Int) : Prop := match c with
  | .eq => x = y
  | .ne => x ≠ y
  | .lt => x < y
  | .ge => y ≤ x
  | .gt => y < x
  | .le => x ≤ y
theorem ee_v.one {ns : List Int32} {as : List Nat} {ex : Nat → Nat} {x : Value} {z y : Int32} (h : ee_v ns as ex x (.int z)) (h2 : ee_v ns as ex x (.int y)) : z = y := by
  cases x with
  | int c =>
    have e1 : Value.int z = Value.int c := h
    have e2 : Value.int y = Value.int c := h2
    cases e1; cases e2; rfl
  | retAddr k =>
    obtain ⟨q, g1, g2⟩ := h
    obtain ⟨r, g3, g4⟩ := h2
    rw [g1] at g3
    cases g3; cases g2; cases g4; rfl
  | ref k =>
    unfold ee_v at h
    by_cases hk : k < 1000000
    · simp only [hk, if_true] at h
      obtain ⟨a, h1, h2⟩ := h
      cases h2
    · simp only [hk, if_false] at h
      cases h
  | null => cases (show Value.int z = Value.null from h)
  | long q =>
    obtain ⟨q, h⟩ := h
    cases h
  | float q =>
    rcases h with h | ⟨a, h⟩ <;> cases h
  | double q => exact h.elim
theorem ee_rf.ok {ns : List Int32} {as : List Nat} {ex : Nat → Nat} {iv : ee_iv} {x y : Value} {p q : Int32} {a b d e : Int} {c : ClassFile.Cond} (hk : ee_ok ns iv) (hx : ee_v ns as ex x (.int p)) (hy : ee_v ns as ex y (.int q)) (h1 : a ≤ p.toInt) (h2 : p.toInt ≤ b) (h3 : d ≤ q.toInt) (h4 : q.toInt ≤ e) (hc : ee_cd c p.toInt q.toInt) : ∃ iv', iv' ∈ ee_rf c iv x y a b d e ∧ ee_ok ns iv' := by
  have same : x = y → p.toInt = q.toInt := fun h => by subst h; rw [ee_v.one hx hy]
  have mx : ∀ u v r : Int, u ≤ r → v ≤ r → ee_mx u v ≤ r := fun u v r => ee_mx_le
  have mn : ∀ u v r : Int, r ≤ u → r ≤ v → r ≤ ee_mn u v := fun u v r => ee_le_mn
  have one : ∀ {z : ee_iv}, ee_ok ns z → ∃ iv', iv' ∈ [z] ∧ ee_ok ns iv' := fun {z} h => ⟨z, List.mem_cons_self, h⟩
  cases c with
  | eq =>
    have hc : p.toInt = q.toInt := hc
    have e1 := mx a d p.toInt h1 (by omega)
    have e2 := mn b e p.toInt h2 (by omega)
    simp only [ee_rf]
    rw [if_pos (by omega)]
    exact one (ee_put.ok (ee_put.ok hk hx e1 e2) hy (by omega) (by omega))
  | ne =>
    have hc : p.toInt ≠ q.toInt := hc
    simp only [ee_rf]
    rw [if_neg (fun h => hc (same h))]
    by_cases e1 : d = e
    · rw [if_pos e1]
      by_cases e2 : a = d
      · rw [if_pos e2]
        by_cases e3 : b = d
        · exact absurd (by omega) hc
        · rw [if_neg e3]
          exact one (ee_put.ok hk hx (by omega) h2)
      · rw [if_neg e2]
        by_cases e3 : b = d
        · rw [if_pos e3]
          exact one (ee_put.ok hk hx h1 (by omega))
        · rw [if_neg e3]
          by_cases e4 : a < d ∧ d < b
          · rw [if_pos e4]
            by_cases e5 : p.toInt < d
            · exact ⟨_, List.mem_cons_self, ee_put.ok hk hx h1 (by omega)⟩
            · exact ⟨_, List.mem_cons_of_mem _ List.mem_cons_self, ee_put.ok hk hx (by omega) h2⟩
          · rw [if_neg e4]
            exact one hk
    · rw [if_neg e1]
      exact one hk
  | lt =>
    have hc : p.toInt < q.toInt := hc
    have e1 := mn b (e - 1) p.toInt h2 (by omega)
    have e2 := mx d (a + 1) q.toInt h3 (by omega)
    simp only [ee_rf]
    rw [if_neg (fun h => by have := same h; omega), if_pos ⟨by omega, by omega⟩]
    exact one (ee_put.ok (ee_put.ok hk hx h1 e1) hy e2 h4)
  | ge =>
    have hc : q.toInt ≤ p.toInt := hc
    have e1 := mx a d p.toInt h1 (by omega)
    have e2 := mn e b q.toInt h4 (by omega)
    simp only [ee_rf]
    rw [if_pos ⟨by omega, by omega⟩]
    exact one (ee_put.ok (ee_put.ok hk hx e1 h2) hy h3 e2)
  | gt =>
    have hc : q.toInt < p.toInt := hc
    have e1 := mn e (b - 1) q.toInt h4 (by omega)
    have e2 := mx a (d + 1) p.toInt h1 (by omega)
    simp only [ee_rf]
    rw [if_neg (fun h => by have := same h; omega), if_pos ⟨by omega, by omega⟩]
    exact one (ee_put.ok (ee_put.ok hk hy h3 e1) hx e2 h2)
  | le =>
    have hc : p.toInt ≤ q.toInt := hc
    have e1 := mx d a q.toInt h3 (by omega)
    have e2 := mn b e p.toInt h2 (by omega)
    simp only [ee_rf]
    rw [if_pos ⟨by omega, by omega⟩]
    exact one (ee_put.ok (ee_put.ok hk hy e1 h4) hx h1 e2)
end
section
/-! the links of the code, each by its place in the tables -/
abbrev ee_en : Type := Nat × ClassFile.Instr × Nat × Nat × Nat × Nat × Int
def ee_FL : List (Nat × Nat × Nat × Nat × Nat × Nat) := [(8, 10, 8, 0, 512, 3), (8, 19, 8, 1, 513, 3), (8, 26, 8, 2, 514, 3), (8, 30, 8, 3, 515, 3), (8, 36, 8, 4, 516, 3), (8, 43, 8, 5, 517, 3), (8, 50, 8, 6, 518, 3), (8, 57, 8, 7, 519, 3), (8, 64, 8, 8, 520, 3), (8, 68, 8, 9, 521, 3), (8, 72, 8, 10, 522, 3), (8, 75, 8, 11, 523, 3), (8, 107, 7, 2, 171, 0), (8, 236, 7, 0, 163, 0), (8, 233, 7, 1, 168, 0), (8, 123, 6, 0, 360, 0), (8, 137, 6, 1, 363, 0), (8, 189, 6, 2, 366, 0), (8, 192, 6, 3, 368, 0), (8, 325, 0, 0, 411, 0), (8, 328, 0, 1, 413, 0), (8, 331, 2, 0, 471, 0), (8, 332, 2, 1, 473, 0), (8, 78, 5, 0, 311, 0), (8, 335, 7, 3, 177, 0), (8, 103, 3, 0, 446, 0), (8, 195, 7, 4, 180, 0), (8, 152, 6, 4, 371, 3), (8, 110, 5, 1, 314, 0), (8, 113, 5, 2, 316, 0), (8, 165, 6, 5, 374, 3), (8, 120, 7, 10, 194, 3), (8, 143, 7, 11, 198, 3), (8, 149, 7, 13, 205, 3), (8, 90, 5, 3, 318, 3), (8, 146, 7, 12, 202, 3), (0, 11, 0, 3, 415, 3), (0, 15, 0, 0, 410, 0), (0, 19, 0, 1, 412, 0), (0, 22, 0, 2, 414, 0), (1, 11, 1, 0, 431, 3), (1, 17, 1, 1, 432, 3), (2, 11, 2, 4, 476, 3), (2, 15, 2, 5, 477, 3), (2, 18, 2, 6, 478, 3), (2, 22, 2, 7, 479, 3), (2, 25, 2, 8, 480, 3), (2, 28, 2, 9, 481, 3), (2, 31, 2, 10, 482, 3), (2, 34, 2, 11, 483, 3), (2, 40, 2, 12, 484, 3), (2, 44, 2, 0, 470, 0), (2, 48, 2, 2, 474, 1), (2, 52, 2, 1, 472, 0), (2, 56, 7, 2, 172, 0), (2, 65, 2, 3, 475, 0), (3, 9, 3, 1, 447, 3), (3, 15, 3, 2, 448, 3), (3, 18, 3, 3, 449, 3), (3, 21, 3, 0, 445, 0), (3, 30, 3, 4, 450, 0), (3, 25, 7, 0, 159, 0), (4, 9, 4, 0, 394, 3), (4, 15, 4, 1, 395, 3), (4, 18, 4, 2, 396, 3), (4, 42, 7, 1, 165, 0), (5, 9, 5, 2, 315, 0), (5, 18, 5, 3, 317, 3), (5, 22, 5, 4, 319, 3), (5, 26, 5, 5, 320, 3), (5, 44, 5, 0, 312, 0), (5, 49, 5, 1, 313, 0), (5, 52, 5, 6, 321, 0), (5, 58, 5, 7, 322, 0), (5, 64, 5, 8, 323, 0), (6, 9, 6, 4, 369, 3), (6, 15, 6, 5, 372, 3), (6, 18, 6, 0, 358, 0), (6, 22, 6, 1, 361, 0), (6, 25, 6, 2, 364, 0), (6, 28, 7, 5, 181, 0), (6, 33, 6, 3, 367, 0), (6, 36, 7, 2, 170, 0), (6, 39, 7, 14, 209, 3), (7, 9, 7, 10, 193, 3), (7, 15, 7, 11, 197, 3), (7, 18, 7, 12, 201, 3), (7, 21, 7, 13, 204, 3), (7, 24, 7, 14, 208, 3), (7, 27, 7, 15, 211, 3), (7, 30, 7, 16, 214, 3), (7, 34, 7, 17, 216, 3), (7, 37, 7, 18, 218, 3), (7, 50, 7, 2, 169, 0), (7, 72, 7, 6, 184, 0), (7, 43, 7, 0, 158, 0), (7, 47, 7, 1, 164, 0), (7, 53, 7, 3, 175, 0), (7, 56, 7, 4, 178, 0), (7, 59, 7, 5, 182, 0), (7, 62, 7, 7, 187, 1), (7, 66, 7, 8, 189, 1), (7, 69, 7, 9, 191, 1), (9, 7, 9, 0, 1231, 3), (9, 13, 9, 1, 1232, 3), (9, 16, 9, 5, 1236, 0), (9, 20, 9, 11, 1242, 3), (9, 24, 9, 12, 1243, 3), (9, 27, 9, 13, 1244, 3), (9, 30, 9, 14, 1245, 3), (9, 33, 9, 15, 1246, 3), (9, 36, 9, 16, 1247, 3), (9, 39, 9, 17, 1248, 3), (9, 42, 9, 18, 1249, 3), (9, 45, 9, 19, 1250, 3), (9, 48, 9, 20, 1251, 3), (9, 51, 9, 21, 1252, 3), (9, 54, 9, 22, 1253, 3), (9, 57, 9, 23, 1254, 3), (9, 60, 9, 24, 1255, 3), (9, 63, 9, 25, 1256, 3), (9, 67, 9, 26, 1257, 3), (9, 70, 9, 27, 1258, 3), (9, 73, 9, 28, 1259, 3), (9, 76, 9, 29, 1260, 3), (9, 79, 9, 30, 1261, 3), (9, 82, 9, 31, 1262, 3), (9, 85, 9, 32, 1263, 3), (9, 88, 9, 42, 1273, 3), (9, 91, 9, 43, 1274, 0), (9, 94, 9, 45, 1276, 3), (9, 97, 9, 48, 1279, 3), (9, 100, 9, 49, 1280, 3), (9, 103, 9, 51, 1282, 3), (9, 106, 9, 52, 1283, 3), (9, 109, 9, 53, 1284, 3), (9, 112, 9, 54, 1285, 3), (9, 115, 9, 55, 1286, 3), (9, 118, 9, 56, 1287, 3), (9, 121, 9, 57, 1288, 3), (9, 124, 9, 58, 1289, 3), (9, 127, 9, 59, 1290, 3), (9, 130, 9, 63, 1294, 3), (9, 133, 9, 64, 1295, 3), (9, 374, 9, 46, 1277, 0), (9, 377, 9, 47, 1278, 0), (9, 380, 9, 60, 1291, 0), (9, 482, 9, 61, 1292, 0), (9, 250, 9, 2, 1233, 0), (9, 253, 9, 33, 1264, 0), (9, 383, 9, 50, 1281, 0), (9, 492, 9, 62, 1293, 0), (9, 244, 9, 34, 1265, 0), (9, 247, 9, 35, 1266, 0), (9, 146, 9, 4, 1235, 0), (9, 185, 9, 7, 1238, 0), (9, 188, 9, 6, 1237, 0), (9, 143, 9, 3, 1234, 0), (9, 195, 9, 8, 1239, 0), (9, 202, 9, 10, 1241, 2), (9, 213, 9, 9, 1240, 0), (9, 398, 9, 44, 1275, 0)]
def ee_SL : List (Nat × Nat × Nat × Nat) := [(12, 9, 1, 1972), (12, 15, 0, 1973)]
def ee_ZL : List (Nat × Nat × Nat × Nat) := [(12, 1053, 1, 286), (12, 38, 0, 270)]
def ee_KL : List (Nat × Nat × Int × Nat) := [(2, 55, 100000, 1146), (9, 485, 100000, 1911), (11, 265, 1431655765, 815), (11, 266, 858993459, 816), (11, 267, 252645135, 817)]
def ee_LL : List (Nat × Nat × Int64 × Nat) := [(5, 42, 256, 310)]
def ee_NL : List (Nat × Nat × Nat × Nat × Nat × Nat) := [(8, 7, 5, 142, 143, 117), (8, 16, 7, 350, 149, 118), (8, 23, 6, 352, 353, 123), (8, 33, 4, 388, 389, 124), (8, 40, 0, 404, 405, 125), (8, 47, 1, 425, 426, 126), (8, 54, 3, 439, 440, 127), (8, 61, 2, 462, 463, 128), (2, 37, 6, 468, 353, 123), (5, 15, 7, 148, 149, 118), (10, 7, 8, 134, 135, 116), (10, 10, 9, 1209, 1210, 129)]
def ee_CL : List (Nat × Nat × Nat × Nat × Nat × Nat × Nat × Nat × Nat) := [(8, 9, 83, 2, 0, 144, 145, 0, 117), (8, 18, 91, 2, 0, 351, 151, 0, 118), (8, 25, 87, 2, 0, 354, 355, 0, 123), (8, 35, 81, 2, 0, 390, 391, 0, 124), (8, 42, 63, 2, 0, 406, 407, 0, 125), (8, 49, 68, 2, 0, 427, 428, 0, 126), (8, 56, 77, 2, 0, 441, 442, 0, 127), (8, 63, 72, 2, 0, 464, 465, 0, 128), (8, 126, 89, 0, 1, 764, 765, 766, 123), (8, 162, 95, 0, 1, 800, 801, 802, 118), (8, 186, 25, 0, 1, 878, 880, 30, 116), (8, 155, 27, 0, 1, 792, 794, 27, 116), (8, 209, 24, 1, 1, 914, 915, 0, 116), (8, 307, 75, 0, 3, 1151, 1152, 1153, 128), (8, 322, 71, 0, 2, 1200, 1201, 1202, 126), (8, 97, 64, 0, 1, 733, 734, 735, 125), (8, 178, 183, 1, 1, 859, 813, 0, 133), (8, 198, 52, 0, 0, 886, 888, 31, 116), (8, 175, 65, 0, 1, 854, 855, 856, 125), (8, 256, 82, 0, 2, 994, 995, 996, 124), (8, 116, 26, 0, 1, 760, 762, 25, 116), (8, 82, 84, 0, 1, 553, 554, 555, 117), (8, 318, 69, 0, 2, 1191, 1192, 1193, 126), (8, 140, 28, 0, 1, 784, 786, 26, 116), (8, 304, 74, 0, 1, 1142, 1143, 1144, 128), (8, 294, 80, 0, 1, 1118, 1119, 1120, 127), (8, 281, 79, 0, 2, 1049, 1050, 1051, 127), (8, 212, 92, 0, 0, 917, 769, 770, 118), (8, 260, 96, 0, 1, 1010, 819, 820, 118), (8, 291, 7, 1, 2, 1111, 1112, 0, 116), (8, 206, 67, 0, 1, 906, 907, 908, 125), (8, 86, 85, 0, 0, 565, 566, 567, 117), (8, 93, 88, 0, 1, 729, 730, 731, 123), (8, 101, 70, 0, 0, 744, 745, 746, 126), (8, 106, 73, 0, 0, 748, 749, 750, 128), (8, 202, 66, 0, 1, 894, 895, 896, 125), (8, 301, 76, 0, 1, 1134, 1135, 1136, 128), (0, 25, 90, 0, 2, 737, 738, 739, 123), (1, 21, 90, 0, 2, 1195, 738, 739, 123), (2, 39, 87, 2, 0, 469, 355, 0, 123), (3, 35, 78, 0, 2, 1057, 1059, 38, 127), (5, 17, 91, 2, 0, 150, 151, 0, 118), (5, 32, 188, 0, 0, 262, 263, 264, 119), (5, 38, 184, 0, 1, 272, 273, 274, 119), (5, 46, 94, 0, 0, 569, 570, 571, 118), (5, 55, 86, 0, 0, 573, 575, 1, 117), (6, 48, 92, 0, 0, 768, 769, 770, 118), (7, 40, 93, 0, 0, 154, 156, 0, 118), (10, 9, 0, 2, 0, 136, 137, 0, 116), (10, 12, 98, 2, 0, 1211, 1212, 0, 129), (10, 13, 14, 0, 5, 549, 550, 551, 116), (10, 17, 118, 0, 5, 1964, 1965, 1966, 129), (10, 18, 10, 0, 1, 557, 558, 559, 116), (10, 22, 114, 0, 1, 1968, 1969, 1970, 129), (10, 23, 55, 0, 0, 561, 562, 563, 116), (10, 27, 175, 0, 0, 1427, 1428, 1429, 129), (10, 28, 12, 0, 1, 752, 753, 754, 116), (10, 31, 116, 0, 1, 1572, 1573, 1574, 129), (10, 32, 39, 0, 2, 756, 757, 758, 116), (10, 36, 154, 0, 2, 1576, 1577, 1578, 129), (10, 37, 59, 0, 2, 780, 781, 782, 116), (10, 40, 179, 0, 2, 1611, 1612, 1613, 129), (10, 41, 47, 0, 2, 788, 789, 790, 116), (10, 44, 163, 0, 2, 1623, 1624, 1625, 129), (10, 45, 62, 0, 1, 804, 805, 806, 116), (10, 48, 182, 0, 1, 1647, 1648, 1649, 129), (10, 49, 51, 0, 1, 846, 847, 848, 116), (10, 52, 170, 0, 1, 1733, 1734, 1735, 129), (10, 53, 43, 0, 1, 860, 861, 862, 116), (10, 56, 159, 0, 1, 1741, 1742, 1743, 129), (10, 57, 17, 0, 1, 864, 865, 866, 116), (10, 60, 123, 0, 1, 1745, 1746, 1747, 129), (10, 61, 40, 0, 2, 874, 875, 876, 116), (10, 64, 155, 0, 2, 1753, 1754, 1755, 129), (10, 65, 8, 0, 0, 882, 883, 884, 116), (10, 68, 111, 0, 0, 1757, 1758, 1759, 129), (10, 69, 60, 0, 0, 890, 891, 892, 116), (10, 73, 180, 0, 0, 1761, 1762, 1763, 129), (10, 74, 42, 0, 0, 902, 903, 904, 116), (10, 77, 158, 0, 0, 1769, 1770, 1771, 129), (10, 78, 58, 0, 3, 910, 911, 912, 116), (10, 82, 178, 0, 3, 1777, 1778, 1779, 129), (10, 83, 44, 0, 2, 954, 955, 956, 116), (10, 86, 160, 0, 2, 1821, 1822, 1823, 129), (10, 87, 34, 0, 0, 937, 938, 939, 116), (10, 90, 149, 0, 0, 1785, 1786, 1787, 129), (10, 91, 15, 0, 1, 978, 979, 980, 116), (10, 94, 119, 0, 1, 1840, 1841, 1842, 129), (10, 95, 49, 0, 2, 942, 943, 944, 116), (10, 98, 167, 0, 2, 1793, 1794, 1795, 129), (10, 99, 19, 0, 2, 1002, 1003, 1004, 116), (10, 102, 127, 0, 2, 1844, 1845, 1846, 129), (10, 103, 38, 0, 0, 1025, 1026, 1027, 116), (10, 106, 153, 0, 0, 1725, 1726, 1727, 129), (10, 107, 16, 0, 1, 1029, 1030, 1031, 116), (10, 110, 121, 0, 1, 1805, 1806, 1807, 129), (10, 111, 13, 0, 2, 1033, 1034, 1035, 116), (10, 114, 117, 0, 2, 1813, 1814, 1815, 129), (10, 115, 50, 0, 1, 1006, 1007, 1008, 116), (10, 118, 168, 0, 1, 1864, 1865, 1866, 129), (10, 119, 33, 0, 0, 1045, 1046, 1047, 116), (10, 122, 147, 0, 0, 1868, 1869, 1870, 129), (10, 123, 23, 0, 1, 1062, 1063, 1064, 116), (10, 126, 131, 0, 1, 1809, 1810, 1811, 129), (10, 127, 5, 0, 2, 1013, 1014, 1015, 116), (10, 130, 107, 0, 2, 1848, 1849, 1850, 129), (10, 131, 11, 0, 1, 1017, 1018, 1019, 116), (10, 134, 115, 0, 1, 1852, 1853, 1854, 129), (10, 135, 2, 0, 1, 982, 983, 984, 116), (10, 138, 100, 0, 1, 1860, 1861, 1862, 129), (10, 139, 46, 0, 2, 1066, 1067, 1068, 116), (10, 142, 162, 0, 2, 1888, 1889, 1890, 129), (10, 143, 29, 0, 2, 1071, 1072, 1073, 116), (10, 146, 139, 0, 2, 1677, 1678, 1679, 129), (10, 147, 9, 0, 0, 1075, 1076, 1077, 116), (10, 150, 113, 0, 0, 1681, 1682, 1683, 129), (10, 151, 53, 0, 1, 946, 947, 948, 116), (10, 154, 172, 0, 1, 1797, 1798, 1799, 129), (10, 155, 54, 0, 1, 950, 951, 952, 116), (10, 158, 173, 0, 1, 1801, 1802, 1803, 129), (10, 159, 21, 0, 0, 986, 987, 988, 116), (10, 162, 129, 0, 0, 1693, 1694, 1695, 129), (10, 163, 56, 0, 0, 990, 991, 992, 116), (10, 166, 176, 0, 0, 1697, 1698, 1699, 129), (10, 167, 20, 0, 0, 1091, 1092, 1093, 116), (10, 170, 128, 0, 0, 1689, 1690, 1691, 129), (10, 171, 6, 0, 0, 1079, 1080, 1081, 116), (10, 174, 110, 0, 0, 1685, 1686, 1687, 129), (10, 175, 41, 0, 0, 1083, 1084, 1085, 116), (10, 178, 157, 0, 0, 1884, 1885, 1886, 129), (10, 179, 35, 0, 0, 1095, 1096, 1097, 116), (10, 182, 150, 0, 0, 1713, 1714, 1715, 129), (10, 183, 48, 0, 0, 1099, 1100, 1101, 116), (10, 186, 166, 0, 0, 1709, 1710, 1711, 129), (10, 187, 31, 0, 2, 998, 999, 1000, 116), (10, 190, 142, 0, 2, 1729, 1730, 1731, 129), (10, 191, 36, 0, 0, 1103, 1104, 1105, 116), (10, 194, 151, 0, 0, 1717, 1718, 1719, 129), (10, 195, 37, 0, 2, 1107, 1108, 1109, 116), (10, 198, 152, 0, 2, 1892, 1893, 1894, 129), (10, 199, 32, 0, 1, 1114, 1115, 1116, 116), (10, 202, 146, 0, 1, 1773, 1774, 1775, 129), (10, 203, 18, 0, 3, 1122, 1123, 1124, 116), (10, 207, 124, 0, 3, 1899, 1900, 1901, 129), (10, 208, 61, 0, 1, 1130, 1131, 1132, 116), (10, 212, 181, 0, 1, 1903, 1904, 1905, 129), (10, 213, 30, 0, 1, 1138, 1139, 1140, 116), (10, 216, 141, 0, 1, 1907, 1908, 1909, 129), (10, 217, 45, 0, 1, 1147, 1148, 1149, 116), (10, 220, 161, 0, 1, 1912, 1913, 1914, 129), (10, 221, 57, 0, 2, 1170, 1171, 1172, 116), (10, 224, 177, 0, 2, 1940, 1941, 1942, 129), (10, 225, 3, 0, 2, 1178, 1179, 1180, 116), (10, 228, 103, 0, 2, 1944, 1945, 1946, 129), (10, 229, 22, 0, 1, 1187, 1188, 1189, 116), (10, 232, 130, 0, 1, 1952, 1953, 1954, 129), (10, 233, 4, 0, 1, 1196, 1197, 1198, 116), (10, 236, 104, 0, 1, 1956, 1957, 1958, 129), (10, 237, 1, 0, 1, 1205, 1206, 1207, 116), (10, 240, 99, 0, 1, 1960, 1961, 1962, 129), (9, 137, 109, 0, 0, 1215, 1217, 42, 129), (9, 140, 174, 0, 0, 1219, 1221, 43, 129), (9, 368, 148, 0, 0, 1227, 1229, 45, 129), (9, 358, 120, 0, 0, 1584, 1586, 74, 129), (9, 365, 105, 0, 0, 1631, 1633, 83, 129), (9, 416, 140, 0, 0, 1599, 1601, 77, 129), (9, 348, 125, 0, 1, 1643, 1645, 86, 129), (9, 422, 136, 0, 1, 1615, 1617, 80, 129), (9, 458, 138, 0, 0, 1828, 1830, 101, 129), (9, 464, 108, 0, 0, 1836, 1838, 103, 129), (9, 486, 126, 0, 0, 1924, 1926, 110, 129), (9, 455, 156, 1, 2, 1825, 1826, 0, 129), (9, 361, 133, 1, 3, 1588, 1589, 0, 129), (9, 504, 144, 0, 1, 1916, 1918, 108, 129), (9, 425, 135, 0, 1, 1627, 1629, 82, 129), (9, 339, 106, 1, 1, 1671, 1672, 0, 129), (9, 437, 137, 0, 0, 1737, 1739, 95, 129), (9, 434, 171, 0, 0, 1721, 1723, 94, 129), (9, 428, 102, 0, 0, 1701, 1703, 92, 129), (9, 431, 164, 0, 1, 1705, 1707, 93, 129), (9, 410, 134, 0, 1, 1580, 1582, 73, 129), (9, 449, 165, 0, 1, 1789, 1791, 99, 129), (9, 191, 169, 0, 1, 1435, 1437, 47, 129), (9, 371, 145, 0, 0, 1223, 1225, 44, 129), (9, 495, 143, 0, 0, 1920, 1922, 109, 129), (9, 498, 101, 0, 0, 1932, 1934, 112, 129), (9, 479, 112, 1, 2, 1896, 1897, 0, 129), (9, 227, 122, 0, 0, 1431, 1433, 46, 129), (9, 223, 132, 0, 0, 1469, 1471, 48, 129), (12, 492, 187, 0, 0, 276, 277, 278, 119), (12, 495, 189, 1, 2, 280, 281, 0, 120), (12, 1059, 190, 1, 3, 288, 289, 0, 121), (12, 335, 186, 0, 0, 266, 267, 268, 119), (13, 9, 185, 1, 2, 283, 284, 0, 119)]
def ee_OL : List (Nat × Nat × Nat) := [(8, 1, 139), (0, 3, 409), (1, 3, 430), (2, 5, 467), (3, 3, 444), (4, 3, 393), (5, 3, 147), (6, 3, 357), (7, 3, 153), (9, 1, 1214)]
def ee_AL : List (Nat × Nat × Nat) := [(3, 39, 1061), (6, 42, 741)]
def ee_XL : List (Nat × Nat × Nat × Nat) := [(0, 29, 3, 858)]
def ee_ow (i : Nat) : String := ee_own.getD i ""
def ee_tc (ty : FieldType) : Nat := match ty with
  | .int => 0
  | .boolean => 1
  | .long => 2
  | .object _ => 3
  | .array _ => 3
  | _ => 9
theorem ee_FLok : ∀ q ∈ ee_FL, ∃ r : vw_C, vwCl[q.2.2.1]? = some r ∧ q.2.2.2.1 < r.2.2 ∧ Cond.fieldLink (ee_ow q.1) q.2.1 (r.2.1 q.2.2.2.1).1 (r.2.1 q.2.2.2.1).2.1 (r.2.1 q.2.2.2.1).2.2.1 ∈ ee_tbl ∧ ∃ ty, parseFieldDescriptor (r.2.1 q.2.2.2.1).2.2.1 = some ty ∧ ee_tc ty = q.2.2.2.2.2 := by
  intro q hq
  have h : ee_FL.all (fun q => match vwCl[q.2.2.1]? with
    | some r => decide (q.2.2.2.1 < r.2.2) && (ee_at q.2.2.2.2.1 (.fieldLink (ee_ow q.1) q.2.1 (r.2.1 q.2.2.2.1).1 (r.2.1 q.2.2.2.1).2.1 (r.2.1 q.2.2.2.1).2.2.1) && (match parseFieldDescriptor (r.2.1 q.2.2.2.1).2.2.1 with
      | some ty => decide (ee_tc ty = q.2.2.2.2.2)
      | none => false))
    | none => false) = true := by decide +kernel
  have h := List.all_eq_true.mp h q hq
  cases hr : vwCl[q.2.2.1]? with
  | none => rw [hr] at h; cases h
  | some r =>
    rw [hr] at h
    have h := Bool.and_eq_true_iff.mp h
    have h2 := Bool.and_eq_true_iff.mp h.2
    refine ⟨r, rfl, of_decide_eq_true h.1, ee_at.mem h2.1, ?_⟩
    cases hp : parseFieldDescriptor (r.2.1 q.2.2.2.1).2.2.1 with
    | none => have h3 := h2.2; rw [hp] at h3; cases h3
    | some ty => have h3 := h2.2; rw [hp] at h3; exact ⟨ty, rfl, of_decide_eq_true h3⟩
def ee_sf (i : Nat) : String × String := if i = 0 then ("coder", "B") else ("value", "[B")
theorem ee_SLok : ∀ q ∈ ee_SL, Cond.fieldLink (ee_ow q.1) q.2.1 "java/lang/String" (ee_sf q.2.2.1).1 (ee_sf q.2.2.1).2 ∈ ee_tbl := by
  intro q hq
  have h : ee_SL.all (fun q => ee_at q.2.2.2 (.fieldLink (ee_ow q.1) q.2.1 "java/lang/String" (ee_sf q.2.2.1).1 (ee_sf q.2.2.1).2)) = true := by decide +kernel
  exact ee_at.mem (List.all_eq_true.mp h q hq)
def ee_zf (i : Nat) : String × String × String := if i = 0 then ("java/lang/String", "COMPACT_STRINGS", "Z") else ("jdk/internal/util/Preconditions", "SIOOBE_FORMATTER", "Ljava/util/function/BiFunction;")
theorem ee_ZLok : ∀ q ∈ ee_ZL, Cond.fieldLink (ee_ow q.1) q.2.1 (ee_zf q.2.2.1).1 (ee_zf q.2.2.1).2.1 (ee_zf q.2.2.1).2.2 ∈ ee_tbl := by
  intro q hq
  have h : ee_ZL.all (fun q => ee_at q.2.2.2 (.fieldLink (ee_ow q.1) q.2.1 (ee_zf q.2.2.1).1 (ee_zf q.2.2.1).2.1 (ee_zf q.2.2.1).2.2)) = true := by decide +kernel
  exact ee_at.mem (List.all_eq_true.mp h q hq)
theorem ee_KLok : ∀ q ∈ ee_KL, Cond.constant (ee_ow q.1) q.2.1 (Int32.ofInt q.2.2.1) ∈ ee_tbl := by
  intro q hq
  have h : ee_KL.all (fun q => ee_at q.2.2.2 (.constant (ee_ow q.1) q.2.1 (Int32.ofInt q.2.2.1))) = true := by decide +kernel
  exact ee_at.mem (List.all_eq_true.mp h q hq)
theorem ee_LLok : ∀ q ∈ ee_LL, Cond.constantLong (ee_ow q.1) q.2.1 q.2.2.1 ∈ ee_tbl := by
  intro q hq
  have h : ee_LL.all (fun q => ee_at q.2.2.2 (.constantLong (ee_ow q.1) q.2.1 q.2.2.1)) = true := by decide +kernel
  exact ee_at.mem (List.all_eq_true.mp h q hq)
theorem ee_NLok : ∀ q ∈ ee_NL, ∃ r : vw_C, vwCl[q.2.2.1]? = some r ∧ Cond.classLink (ee_ow q.1) q.2.1 r.1 ∈ ee_tbl ∧ Cond.instantiable r.1 r.2.2 ∈ ee_tbl ∧ Cond.initialized r.1 ∈ ee_tbl := by
  intro q hq
  have h : ee_NL.all (fun q => match vwCl[q.2.2.1]? with
    | some r => ee_at q.2.2.2.1 (.classLink (ee_ow q.1) q.2.1 r.1) && (ee_at q.2.2.2.2.1 (.instantiable r.1 r.2.2) && ee_at q.2.2.2.2.2 (.initialized r.1))
    | none => false) = true := by decide +kernel
  have h := List.all_eq_true.mp h q hq
  cases hr : vwCl[q.2.2.1]? with
  | none => rw [hr] at h; cases h
  | some r =>
    rw [hr] at h
    have h := Bool.and_eq_true_iff.mp h
    have h2 := Bool.and_eq_true_iff.mp h.2
    exact ⟨r, rfl, ee_at.mem h.1, ee_at.mem h2.1, ee_at.mem h2.2⟩
theorem ee_OLok : ∀ q ∈ ee_OL, Cond.methodLink (ee_ow q.1) q.2.1 objectInit ∈ ee_tbl := by
  intro q hq
  have h : ee_OL.all (fun q => ee_at q.2.2 (.methodLink (ee_ow q.1) q.2.1 objectInit)) = true := by decide +kernel
  exact ee_at.mem (List.all_eq_true.mp h q hq)
theorem ee_ALok : ∀ q ∈ ee_AL, Cond.methodLink (ee_ow q.1) q.2.1 arraycopyName ∈ ee_tbl := by
  intro q hq
  have h : ee_AL.all (fun q => ee_at q.2.2 (.methodLink (ee_ow q.1) q.2.1 arraycopyName)) = true := by decide +kernel
  exact ee_at.mem (List.all_eq_true.mp h q hq)
theorem ee_obj : Cond.instanceMethod objectInit ∈ ee_tbl ∧ Cond.code objectInit ⟨#[0xb1]⟩ 1 none ∈ ee_tbl := ⟨ee_at.mem (i := 140) (by decide +kernel), ee_at.mem (i := 141) (by decide +kernel)⟩
theorem ee_cpy : Cond.native arraycopyName ∈ ee_tbl ∧ Cond.static arraycopyName ∈ ee_tbl ∧ Cond.initialized "java/lang/System" ∈ ee_tbl := ⟨ee_at.mem (i := 743) (by decide +kernel), ee_at.mem (i := 742) (by decide +kernel), ee_at.mem (i := 132) (by decide +kernel)⟩
def ee_mname (k : Nat) : MethodName := if k = 3 then Lib.Math.min.name else Lib.Math.max.name
theorem ee_XLok : ∀ q ∈ ee_XL, Cond.methodLink (ee_ow q.1) q.2.1 (ee_mname q.2.2.1) ∈ ee_tbl := by
  intro q hq
  have h : ee_XL.all (fun q => ee_at q.2.2.2 (.methodLink (ee_ow q.1) q.2.1 (ee_mname q.2.2.1))) = true := by decide +kernel
  exact ee_at.mem (List.all_eq_true.mp h q hq)
theorem ee_math : Cond.static Lib.Math.min.name ∈ ee_tbl ∧ Cond.code Lib.Math.min.name Lib.Math.min.code 2 (some .int) ∈ ee_tbl ∧ Cond.static Lib.Math.max.name ∈ ee_tbl ∧ Cond.code Lib.Math.max.name Lib.Math.max.code 2 (some .int) ∈ ee_tbl ∧ Cond.initialized "java/lang/Math" ∈ ee_tbl := ⟨ee_at.mem (i := 605) (by decide +kernel), ee_at.mem (i := 606) (by decide +kernel), ee_at.mem (i := 602) (by decide +kernel), ee_at.mem (i := 603) (by decide +kernel), ee_at.mem (i := 130) (by decide +kernel)⟩
theorem ee_arr : Cond.arrayClass .int ∈ ee_tbl ∧ Cond.arrayClass .byte ∈ ee_tbl ∧ Cond.arrayClass .boolean ∈ ee_tbl ∧ Cond.arrayClass .long ∈ ee_tbl := ⟨ee_at.mem (i := 259) (by decide +kernel), ee_at.mem (i := 349) (by decide +kernel), ee_at.mem (i := 438) (by decide +kernel), ee_at.mem (i := 260) (by decide +kernel)⟩
/-- a final field is put -/
def ee_ini (e : ee_en) : Bool := match e.2.1 with
  | .putfield _ => (match ee_FL[e.2.2.2.2.1]? with
      | some q => (match vwCl[q.2.2.1]? with
        | some r => (r.2.1 q.2.2.2.1).2.2.2
        | none => false)
      | none => false)
  | _ => false
/-- an entry of the code: its links are those of its own file -/
def ee_eok (oc : Nat) (e : ee_en) : Bool := match e.2.1 with
  | .getfield i => if e.2.2.2.2.2.1 = 0 then (match ee_FL[e.2.2.2.2.1]? with
      | some q => decide (q.1 = oc) && decide (q.2.1 = i)
      | none => false) else (match ee_SL[e.2.2.2.2.1]? with
      | some q => decide (q.1 = oc) && decide (q.2.1 = i)
      | none => false)
  | .putfield i => (match ee_FL[e.2.2.2.2.1]? with
      | some q => decide (q.1 = oc) && (decide (q.2.1 = i) && (!ee_ini e || decide (q.2.2.1 = oc)))
      | none => false)
  | .getstatic i => if e.2.2.2.2.2.1 = 0 then (match ee_ZL[e.2.2.2.2.1]? with
      | some q => decide (q.1 = oc) && decide (q.2.1 = i)
      | none => false) else true
  | .ldc i => if e.2.2.2.2.2.1 = 0 then (match ee_KL[e.2.2.2.2.1]? with
      | some q => decide (q.1 = oc) && (decide (q.2.1 = i) && decide (q.2.2.1 = e.2.2.2.2.2.2))
      | none => false) else if e.2.2.2.2.2.1 = 1 then decide (oc = 5) && (decide (e.2.2.2.2.1 < 2) && decide (ee_six.getD e.2.2.2.2.1 0 = i)) else true
  | .ldc_w i => if e.2.2.2.2.2.1 = 0 then (match ee_KL[e.2.2.2.2.1]? with
      | some q => decide (q.1 = oc) && (decide (q.2.1 = i) && decide (q.2.2.1 = e.2.2.2.2.2.2))
      | none => false) else true
  | .ldc2_w i => (match ee_LL[e.2.2.2.2.1]? with
      | some q => decide (q.1 = oc) && decide (q.2.1 = i)
      | none => false)
  | .new i => (match ee_NL[e.2.2.2.2.1]? with
      | some q => decide (q.1 = oc) && decide (q.2.1 = i)
      | none => false)
  | .invokespecial i => if e.2.2.2.2.2.1 = 0 then (match ee_CL[e.2.2.2.2.1]? with
      | some q => decide (q.1 = oc) && (decide (q.2.1 = i) && decide (q.2.2.2.1 = 2))
      | none => false) else if e.2.2.2.2.2.1 = 1 then (match ee_OL[e.2.2.2.2.1]? with
      | some q => decide (q.1 = oc) && decide (q.2.1 = i)
      | none => false) else true
  | .invokevirtual i => if e.2.2.2.2.2.1 = 0 then (match ee_CL[e.2.2.2.2.1]? with
      | some q => decide (q.1 = oc) && (decide (q.2.1 = i) && decide (q.2.2.2.1 = 0))
      | none => false) else true
  | .invokestatic i => if e.2.2.2.2.2.1 = 0 then (match ee_CL[e.2.2.2.2.1]? with
      | some q => decide (q.1 = oc) && (decide (q.2.1 = i) && decide (q.2.2.2.1 = 1))
      | none => false) else if e.2.2.2.2.2.1 = 2 then (match ee_AL[e.2.2.2.2.1]? with
      | some q => decide (q.1 = oc) && decide (q.2.1 = i)
      | none => false) else if e.2.2.2.2.2.1 = 3 ∨ e.2.2.2.2.2.1 = 4 then (match ee_XL[e.2.2.2.2.1]? with
      | some q => decide (q.1 = oc) && (decide (q.2.1 = i) && decide (q.2.2.1 = e.2.2.2.2.2.1))
      | none => false) else true
  | _ => true
end
section
/-! the walker's frame: what holds while a method is walked -/
/-- program, launch, environment, room, start, method, arguments, frames below, method, code -/
abbrev ee_cx : Type := Program × Launch × Env × Room × State × MethodId × Array Value × List Frame × Method × Code
/-- which cells may change, numbers of the kinds, kinds of arrays, addresses outside, the first symbols, the callers' values, how many locals -/
abbrev ee_cy : Type := (Nat → Prop) × va_G × (Nat → ClassId) × (Nat → Nat) × List Int32 × List Value × Nat
def ee_lr (ns : List Int32) (as : List Nat) (ex : Nat → Nat) (a b : Nat × Value) : Prop := a.1 = b.1 ∧ ee_v ns as ex a.2 b.2
def ee_Wd (s : State) (A : Nat → Prop) (D : va_G) (dA : Nat → ClassId) (ex : Nat → Nat) (ns : List Int32) (as : List Nat) (w : ee_w) (H : Heap) (lc : List Loc) : Prop :=
  ∃ ws, ee_wr ns as ex dA w ws ∧ va_P D vwCl ws H ∧ va_D A ws ∧ va_S A s.heap H lc
def ee_Con (s : State) (A : Nat → Prop) (D : va_G) (dA : Nat → ClassId) (ex : Nat → Nat) (x0 : List Int32) (sv0 : List Value) (nL : Nat) (lo : List (Nat × Value)) (stk : List Value) (w : ee_w) (iv : ee_iv) (sv : List Value)
    (ns : List Int32) (as : List Nat) (H : Heap) (lc : List Loc) (ls : Array Slot) (vs : List Value) : Prop :=
  ee_ok ns iv ∧ (∃ r, ns = x0 ++ r) ∧ (∃ lv, lv_has ls nL lv ∧ ee_all (ee_lr ns as ex) lo lv) ∧ ee_all (ee_v ns as ex) stk vs ∧ ee_all (ee_v ns as ex) sv sv0 ∧ ee_Wd s A D dA ex ns as w H lc
/-- the goal at a state: from all that it stands for the machine comes to Q -/
def ee_G (X : ee_cx) (Y : ee_cy) (Q : State → Prop) (st : ee_st) : Prop := match X, Y, st with
  | (p, l, e, R, s, m, args, below, meth, c), (A, D, dA, ex, x0, sv0, nL), (pc, lo, stk, w, iv, kc, ks, sv) =>
    ∀ (ns : List Int32) (as : List Nat) (H : Heap) (lc : List Loc) (ls : Array Slot) (vs : List Value), ee_Con s A D dA ex x0 sv0 nL lo stk w iv sv ns as H lc ls vs → W p l e R s m args below meth c H lc kc ks Q (F0 m pc ls vs)
abbrev ee_tys (dA : Nat → ClassId) : List (ClassId × FieldType) := [(dA 0, .int), (dA 1, .byte), (dA 2, .boolean), (dA 3, .long)]
/-- what lies outside: the texts, two statics, the script -/
def ee_Ext (s : State) (A : Nat → Prop) (ex : Nat → Nat) (x0 : List Int32) : Prop :=
  vk_S 2 ee_len ee_byt (fun i => ex (1000000 + i)) (fun i => ex (1000100 + i)) A s s.heap ∧ (∀ i, i < 2 → vk_R RX5 (ee_six.getD i 0) (ee_stx.getD i "") (ex (1000000 + i)) s) ∧
  va_Z "java/lang/String" "COMPACT_STRINGS" "Z" (.int 1) A s s.heap ∧ va_Zq "jdk/internal/util/Preconditions" "SIOOBE_FORMATTER" "Ljava/util/function/BiFunction;" A s s.heap ∧
  (∃ (L : Nat) (xs : Nat → Int32), va_X (ex 2000000) L xs s s.heap ∧ ex 2000000 < s.heap.size ∧ ¬ A (ex 2000000) ∧ x0[6]? = some (nI L) ∧ L ≤ 6 ∧ ∀ j, j < L → x0[j]? = some (xs j))
/-- what holds at a method's entry and stays -/
def ee_F (X : ee_cx) (Y : ee_cy) (own : String) (cc : ByteArray) (Ts : List Cond) (ini : Prop) (dm bc bs : Nat) : Prop := match X, Y with
  | (p, _, _, R, s, m, args, _, meth, c), (A, D, dA, ex, x0, _, nL) =>
    p.tables.exec = Jvm.exec ∧ c.code = cc ∧ c.maxLocals = nL ∧ s.vm.findClass own = some m.cls ∧ (∀ w ∈ Ts, w.before args s = true) ∧ va_K D vwCl (ee_tys dA) s ∧ (∀ q, s.heap.size ≤ q → A q) ∧ (ini → meth.name = "<init>") ∧
    (dm ≤ R.frames ∧ 64 * dm ≤ R.locals ∧ bc ≤ R.cells ∧ bs ≤ R.slots) ∧ ee_Ext s A ex x0
/-- one more symbol -/
theorem ee_Con.grow {s : State} {A : Nat → Prop} {D : va_G} {dA : Nat → ClassId} {ex : Nat → Nat} {x0 : List Int32} {sv0 : List Value} {nL : Nat} {lo : List (Nat × Value)} {stk : List Value} {w : ee_w} {iv : ee_iv} {sv : List Value} {ns : List Int32} {as : List Nat} {H : Heap} {lc : List Loc} {ls : Array Slot} {vs : List Value}
    (h : ee_Con s A D dA ex x0 sv0 nL lo stk w iv sv ns as H lc ls vs) {z : Int32} {a b : Int} {o : Option (Nat × Int32)} (h1 : a ≤ z.toInt) (h2 : z.toInt ≤ b) (h3 : ∀ j d, o = some (j, d) → ∃ y, ns[j]? = some y ∧ z = y + d) :
    ee_Con s A D dA ex x0 sv0 nL lo stk w (iv ++ [(a, b, o)]) sv (ns ++ [z]) as H lc ls vs := by
  obtain ⟨hk, ⟨r, hr⟩, ⟨lv, hl, hll⟩, hs, hv, ws, ⟨ha, hw⟩, hP, hD, hS⟩ := h
  have mv : ∀ x v, ee_v ns as ex x v → ee_v (ns ++ [z]) as ex x v := fun x v q => by simpa using ee_v.mono [z] [] q
  refine ⟨hk.push h1 h2 h3, ⟨r ++ [z], by rw [hr, List.append_assoc]⟩, ⟨lv, hl, hll.imp (fun a b q => ⟨q.1, mv _ _ q.2⟩)⟩, hs.imp mv, hv.imp mv, ws, ⟨ha, hw.imp (fun x q g => by simpa using ee_c.mono [z] [] g)⟩, hP, hD, hS⟩
theorem ee_look {ns : List Int32} {as : List Nat} {ex : Nat → Nat} {i : Nat} {x : Value} : ∀ {lo lv : List (Nat × Value)}, ee_all (ee_lr ns as ex) lo lv → lo.lookup i = some x → ∃ v, (i, v) ∈ lv ∧ ee_v ns as ex x v
  | [], [], _, h => by simp at h
  | (a, y) :: lo, (b, u) :: lv, q, h => by
    rw [List.lookup_cons] at h
    obtain ⟨⟨q1, q2⟩, q3⟩ := q
    by_cases e : i = a
    · simp only [e, beq_self_eq_true] at h
      cases h
      refine ⟨u, ?_, q2⟩
      rw [e, show a = b from q1]
      exact List.mem_cons_self
    · have e' : (i == a) = false := by simpa using e
      rw [e'] at h
      obtain ⟨v, h1, h2⟩ := ee_look q3 h
      exact ⟨v, List.mem_cons_of_mem _ h1, h2⟩
  | [], _ :: _, q, _ => q.elim
  | _ :: _, [], q, _ => q.elim
theorem ee_no {α : Type} {x : α} {P : Prop} (h : (none : Option α) = some x) : P := by cases h
def ee_nx {α : Type} (n k : Nat) (r : α) : Option α := if n = k then some r else none
theorem ee_nx_some {α : Type} {n k : Nat} {r q : α} (h : ee_nx n k r = some q) : n = k ∧ r = q := by
  unfold ee_nx at h
  by_cases e : n = k
  · rw [if_pos e] at h
    cases h
    exact ⟨e, rfl⟩
  · rw [if_neg e] at h
    cases h
/-- a handler of instructions: how many locals, room for cells and slots, the entry, the state -/
abbrev ee_H : Type := Nat → Nat → Nat → ee_en → ee_st → Option (List ee_st)
def ee_Snd (h : ee_H) : Prop := ∀ (X : ee_cx) (Y : ee_cy) (oc : Nat) (own : String) (cc : ByteArray) (ini : Prop) (dm bc bs : Nat) (Q : State → Prop) (e : ee_en) (st : ee_st) (sts : List ee_st), ee_F X Y own cc ee_tbl ini (dm + 1) bc bs → ee_own[oc]? = some own → (ee_ini e = true → ini) → decode cc e.1 = .ok (e.2.1, e.2.2.1) → ee_eok oc e = true → st.1 = e.1 → h Y.2.2.2.2.2.2 bc bs e st = some sts → (∀ q ∈ sts, ee_G X Y Q q) → ee_G X Y Q st
/-- numbers pushed -/
def ee_h0 : ee_H := fun _ _ _ e st => match st with
  | (pc, lo, stk, w, iv, kc, ks, sv) => match e.2.1 with
    | .iconst n => ee_nx e.2.2.1 1 [(pc + 1, lo, .int (Int32.ofInt n) :: stk, w, iv, kc, ks, sv)]
    | .bipush n => ee_nx e.2.2.1 2 [(pc + 2, lo, .int (Int8.ofInt n).toInt32 :: stk, w, iv, kc, ks, sv)]
    | .sipush n => ee_nx e.2.2.1 3 [(pc + 3, lo, .int (Int16.ofInt n).toInt32 :: stk, w, iv, kc, ks, sv)]
    | .lconst _ => ee_nx e.2.2.1 1 [(pc + 1, lo, .long 0 :: stk, w, iv, kc, ks, sv)]
    | .goto o => if 0 ≤ (pc : Int) + o then ee_nx e.2.2.1 3 [(((pc : Int) + o).toNat, lo, stk, w, iv, kc, ks, sv)] else none
    | _ => none
set_option maxHeartbeats 1000000 in
theorem ee_h0.snd : ee_Snd ee_h0 := by
  intro X Y oc own cc ini dm bc bs Q e st sts F ho hi hd he hpc h k
  obtain ⟨p, l, en, R, s, m, args, below, meth, c⟩ := X
  obtain ⟨A, D, dA, ex, x0, sv0, nL⟩ := Y
  obtain ⟨pc, lo, stk, w, iv, kc, ks, sv⟩ := st
  obtain ⟨pc', ins, len, hn, ea, eb, ez⟩ := e
  obtain ⟨hx, hb, hml, hown, hts, hK, hA, hini, hR, hE⟩ := F
  have hpc : pc = pc' := hpc
  subst hpc
  have hd : decode cc pc = .ok (ins, len) := hd
  intro ns as H lc ls vs C
  obtain ⟨c1, c2, c3, c4, c5, c6⟩ := C
  show W p l en R s m args below meth c H lc kc ks Q (F0 m pc ls vs)
  cases ins with
  | iconst n =>
    obtain ⟨rfl, rfl⟩ := ee_nx_some (show ee_nx len 1 _ = some sts from h)
    exact lv_iconst hx hb hd rfl (k _ List.mem_cons_self ns as H lc ls _ ⟨c1, c2, c3, ⟨rfl, c4⟩, c5, c6⟩)
  | bipush n =>
    obtain ⟨rfl, rfl⟩ := ee_nx_some (show ee_nx len 2 _ = some sts from h)
    exact lv_bipush hx hb hd rfl (k _ List.mem_cons_self ns as H lc ls _ ⟨c1, c2, c3, ⟨rfl, c4⟩, c5, c6⟩)
  | sipush n =>
    obtain ⟨rfl, rfl⟩ := ee_nx_some (show ee_nx len 3 _ = some sts from h)
    exact lv_sipush hx hb hd rfl (k _ List.mem_cons_self ns as H lc ls _ ⟨c1, c2, c3, ⟨rfl, c4⟩, c5, c6⟩)
  | lconst n =>
    obtain ⟨rfl, rfl⟩ := ee_nx_some (show ee_nx len 1 _ = some sts from h)
    exact lv_lconst hx hb hd rfl (k _ List.mem_cons_self ns as H lc ls _ ⟨c1, c2, c3, ⟨⟨_, rfl⟩, c4⟩, c5, c6⟩)
  | goto o =>
    have h : (if 0 ≤ (pc : Int) + o then ee_nx len 3 [(((pc : Int) + o).toNat, lo, stk, w, iv, kc, ks, sv)] else none) = some sts := h
    by_cases ho : 0 ≤ (pc : Int) + o
    · rw [if_pos ho] at h
      obtain ⟨rfl, rfl⟩ := ee_nx_some h
      exact lv_goto hx hb hd (by omega) (k _ List.mem_cons_self ns as H lc ls _ ⟨c1, c2, c3, c4, c5, c6⟩)
    · rw [if_neg ho] at h
      exact ee_no h
  | _ => exact ee_no h
end
section
/-! handlers: loads, stores, numbers -/
theorem ee_own_ow {oc : Nat} {own : String} (h : ee_own[oc]? = some own) : ee_ow oc = own := by
  unfold ee_ow
  rw [List.getD_eq_getElem?_getD, h]; rfl
theorem ee_and {a b : Bool} (h : (a && b) = true) : a = true ∧ b = true := Bool.and_eq_true_iff.mp h
/-- an int out of the locals -/
def ee_ld (iv : ee_iv) (lo : List (Nat × Value)) (i : Nat) : Option Value := match lo.lookup i with
  | some x => (match ee_it iv x with
    | some _ => some x
    | none => none)
  | none => none
theorem ee_ld.ok {ns : List Int32} {as : List Nat} {ex : Nat → Nat} {iv : ee_iv} {lo lv : List (Nat × Value)} {ls : Array Slot} {nL i : Nat} {x : Value} (hk : ee_ok ns iv) (hl : lv_has ls nL lv) (ha : ee_all (ee_lr ns as ex) lo lv) (h : ee_ld iv lo i = some x) : ∃ z : Int32, (i, Value.int z) ∈ lv ∧ ls[i]? = some (.val (.int z)) ∧ ee_v ns as ex x (.int z) := by
  unfold ee_ld at h
  cases h1 : lo.lookup i with
  | none => rw [h1] at h; cases h
  | some y =>
    rw [h1] at h
    simp only at h
    cases h2 : ee_it iv y with
    | none => rw [h2] at h; cases h
    | some q =>
      rw [h2] at h
      cases h
      obtain ⟨v, g1, g2⟩ := ee_look ha h1
      obtain ⟨z, rfl, -, -⟩ := ee_it.int hk g2 h2
      exact ⟨z, g1, hl.2.2 _ g1, g2⟩
def ee_la (lo : List (Nat × Value)) (i : Nat) : Option Nat := match lo.lookup i with
  | some (.ref k) => some k
  | _ => none
theorem ee_v.ref {ns : List Int32} {as : List Nat} {ex : Nat → Nat} {k : Nat} {v : Value} (h : ee_v ns as ex (.ref k) v) : ∃ a, v = .ref a := by
  unfold ee_v at h
  by_cases hk : k < 1000000
  · simp only [hk, if_true] at h
    obtain ⟨a, -, h⟩ := h
    exact ⟨a, h⟩
  · simp only [hk, if_false] at h
    exact ⟨_, h⟩
theorem ee_la.ok {ns : List Int32} {as : List Nat} {ex : Nat → Nat} {lo lv : List (Nat × Value)} {ls : Array Slot} {nL i k : Nat} (hl : lv_has ls nL lv) (ha : ee_all (ee_lr ns as ex) lo lv) (h : ee_la lo i = some k) : ∃ a, ls[i]? = some (.val (.ref a)) ∧ ee_v ns as ex (.ref k) (.ref a) := by
  unfold ee_la at h
  split at h
  · rename_i j h1
    cases h
    obtain ⟨v, g1, g2⟩ := ee_look ha h1
    obtain ⟨a, rfl⟩ := ee_v.ref g2
    exact ⟨a, hl.2.2 _ g1, g2⟩
  · cases h
def ee_ll (lo : List (Nat × Value)) (i : Nat) : Bool := match lo.lookup i with
  | some (.long _) => true
  | _ => false
theorem ee_ll.ok {ns : List Int32} {as : List Nat} {ex : Nat → Nat} {lo lv : List (Nat × Value)} {ls : Array Slot} {nL i : Nat} (hl : lv_has ls nL lv) (ha : ee_all (ee_lr ns as ex) lo lv) (h : ee_ll lo i = true) : ∃ z, ls[i]? = some (.val (.long z)) := by
  unfold ee_ll at h
  split at h
  · rename_i j h1
    obtain ⟨v, g1, ⟨z, g2⟩⟩ := ee_look ha h1
    subst g2
    exact ⟨z, hl.2.2 _ g1⟩
  · cases h
theorem ee_v.outs {ns : List Int32} {as : List Nat} {ex : Nat → Nat} {k : Nat} (hk : ¬ k < 1000000) : ee_v ns as ex (.ref k) (.ref (ex k)) := by
  show (if k < 1000000 then ∃ a, as[k]? = some a ∧ Value.ref (ex k) = Value.ref a else Value.ref (ex k) = Value.ref (ex k))
  rw [if_neg hk]
theorem ee_v.inw {ns : List Int32} {as : List Nat} {ex : Nat → Nat} {k a : Nat} (hk : k < 1000000) (h : as[k]? = some a) : ee_v ns as ex (.ref k) (.ref a) := by
  show (if k < 1000000 then ∃ b, as[k]? = some b ∧ Value.ref a = Value.ref b else Value.ref a = Value.ref (ex k))
  rw [if_pos hk]
  exact ⟨a, h, rfl⟩
def ee_h1 : ee_H := fun _ _ _ e st => match st with
  | (pc, lo, stk, w, iv, kc, ks, sv) => match e.2.1 with
    | .ldc _ => if e.2.2.2.2.2.1 = 0 then ee_nx e.2.2.1 2 [(pc + 2, lo, .int (Int32.ofInt e.2.2.2.2.2.2) :: stk, w, iv, kc, ks, sv)] else if e.2.2.2.2.2.1 = 1 then ee_nx e.2.2.1 2 [(pc + 2, lo, .ref (1000000 + e.2.2.2.2.1) :: stk, w, iv, kc, ks, sv)] else none
    | .ldc_w _ => if e.2.2.2.2.2.1 = 0 then ee_nx e.2.2.1 3 [(pc + 3, lo, .int (Int32.ofInt e.2.2.2.2.2.2) :: stk, w, iv, kc, ks, sv)] else none
    | .ldc2_w _ => ee_nx e.2.2.1 3 [(pc + 3, lo, .long 0 :: stk, w, iv, kc, ks, sv)]
    | _ => none
set_option maxHeartbeats 2000000 in
theorem ee_h1.snd : ee_Snd ee_h1 := by
  intro X Y oc own cc ini dm bc bs Q e st sts F ho hi hd he hpc h k
  obtain ⟨p, l, en, R, s, m, args, below, meth, c⟩ := X
  obtain ⟨A, D, dA, ex, x0, sv0, nL⟩ := Y
  obtain ⟨pc, lo, stk, w, iv, kc, ks, sv⟩ := st
  obtain ⟨pc', ins, len, hn, ea, eb, ez⟩ := e
  obtain ⟨hx, hb, hml, hown, hts, hK, hA, hini, hR, hE⟩ := F
  have hpc : pc = pc' := hpc
  subst hpc
  have hd : decode cc pc = .ok (ins, len) := hd
  intro ns as H lc ls vs C
  obtain ⟨c1, c2, c3, c4, c5, c6⟩ := C
  show W p l en R s m args below meth c H lc kc ks Q (F0 m pc ls vs)
  cases ins with
  | ldc i =>
    replace h : (if eb = 0 then ee_nx len 2 [(pc + 2, lo, Value.int (Int32.ofInt ez) :: stk, w, iv, kc, ks, sv)] else if eb = 1 then ee_nx len 2 [(pc + 2, lo, Value.ref (1000000 + ea) :: stk, w, iv, kc, ks, sv)] else none) = some sts := h
    have hee : (if eb = 0 then (match ee_KL[ea]? with
      | some q => decide (q.1 = oc) && (decide (q.2.1 = i) && decide (q.2.2.1 = ez))
      | none => false) else if eb = 1 then decide (oc = 5) && (decide (ea < 2) && decide (ee_six.getD ea 0 = i)) else true) = true := he
    by_cases h0 : eb = 0
    · rw [if_pos h0] at h hee
      obtain ⟨rfl, rfl⟩ := ee_nx_some h
      cases hq : ee_KL[ea]? with
      | none => rw [hq] at hee; cases hee
      | some q =>
        rw [hq] at hee
        obtain ⟨e1, e2⟩ := ee_and hee
        obtain ⟨e2, e3⟩ := ee_and e2
        have e1 := of_decide_eq_true e1
        have e2 := of_decide_eq_true e2
        have e3 := of_decide_eq_true e3
        have hm := ee_KLok q (List.mem_of_getElem? hq)
        rw [e1, ee_own_ow ho, e2, e3] at hm
        exact lv_ldc hx hb hown (hts _ hm) hd (k _ List.mem_cons_self ns as H lc ls _ ⟨c1, c2, c3, ⟨rfl, c4⟩, c5, c6⟩)
    · rw [if_neg h0] at h hee
      by_cases h1 : eb = 1
      · rw [if_pos h1] at h hee
        obtain ⟨rfl, rfl⟩ := ee_nx_some h
        obtain ⟨e1, e2⟩ := ee_and hee
        obtain ⟨e2, e3⟩ := ee_and e2
        have e1 := of_decide_eq_true e1
        have e2 := of_decide_eq_true e2
        have e3 := of_decide_eq_true e3
        have hR5 : own = RX5 := by
          rw [e1] at ho
          exact (Option.some.inj (ho.symm.trans rfl))
        have hz := hE.2.1 ea e2
        rw [e3, ← hR5] at hz
        exact va_ldcS hx hb hown hz hd (k _ List.mem_cons_self ns as H lc ls _ ⟨c1, c2, c3, ⟨ee_v.outs (by omega), c4⟩, c5, c6⟩)
      · rw [if_neg h1] at h
        exact ee_no h
  | ldc_w i =>
    replace h : (if eb = 0 then ee_nx len 3 [(pc + 3, lo, Value.int (Int32.ofInt ez) :: stk, w, iv, kc, ks, sv)] else none) = some sts := h
    have hee : (if eb = 0 then (match ee_KL[ea]? with
      | some q => decide (q.1 = oc) && (decide (q.2.1 = i) && decide (q.2.2.1 = ez))
      | none => false) else true) = true := he
    by_cases h0 : eb = 0
    · rw [if_pos h0] at h hee
      obtain ⟨rfl, rfl⟩ := ee_nx_some h
      cases hq : ee_KL[ea]? with
      | none => rw [hq] at hee; cases hee
      | some q =>
        rw [hq] at hee
        obtain ⟨e1, e2⟩ := ee_and hee
        obtain ⟨e2, e3⟩ := ee_and e2
        have e1 := of_decide_eq_true e1
        have e2 := of_decide_eq_true e2
        have e3 := of_decide_eq_true e3
        have hm := ee_KLok q (List.mem_of_getElem? hq)
        rw [e1, ee_own_ow ho, e2, e3] at hm
        exact lv_ldcw hx hb hown (hts _ hm) hd (k _ List.mem_cons_self ns as H lc ls _ ⟨c1, c2, c3, ⟨rfl, c4⟩, c5, c6⟩)
    · rw [if_neg h0] at h
      exact ee_no h
  | ldc2_w i =>
    replace h : ee_nx len 3 [(pc + 3, lo, Value.long 0 :: stk, w, iv, kc, ks, sv)] = some sts := h
    have hee : (match ee_LL[ea]? with
      | some q => decide (q.1 = oc) && decide (q.2.1 = i)
      | none => false) = true := he
    obtain ⟨rfl, rfl⟩ := ee_nx_some h
    cases hq : ee_LL[ea]? with
    | none => rw [hq] at hee; cases hee
    | some q =>
      rw [hq] at hee
      obtain ⟨e1, e2⟩ := ee_and hee
      have e1 := of_decide_eq_true e1
      have e2 := of_decide_eq_true e2
      have hm := ee_LLok q (List.mem_of_getElem? hq)
      rw [e1, ee_own_ow ho, e2] at hm
      exact lv_ldc2 hx hb hown (hts _ hm) hd (k _ List.mem_cons_self ns as H lc ls _ ⟨c1, c2, c3, ⟨⟨_, rfl⟩, c4⟩, c5, c6⟩)
  | _ => exact ee_no h
def ee_h2 : ee_H := fun _ _ _ e st => match st with
  | (pc, lo, stk, w, iv, kc, ks, sv) => match e.2.1 with
    | .iload i => (match ee_ld iv lo i with
      | some x => ee_nx e.2.2.1 2 [(pc + 2, lo, x :: stk, w, iv, kc, ks, sv)]
      | none => none)
    | .iload_n i => (match ee_ld iv lo i.val with
      | some x => ee_nx e.2.2.1 1 [(pc + 1, lo, x :: stk, w, iv, kc, ks, sv)]
      | none => none)
    | _ => none
set_option maxHeartbeats 2000000 in
theorem ee_h2.snd : ee_Snd ee_h2 := by
  intro X Y oc own cc ini dm bc bs Q e st sts F ho hi hd he hpc h k
  obtain ⟨p, l, en, R, s, m, args, below, meth, c⟩ := X
  obtain ⟨A, D, dA, ex, x0, sv0, nL⟩ := Y
  obtain ⟨pc, lo, stk, w, iv, kc, ks, sv⟩ := st
  obtain ⟨pc', ins, len, hn, ea, eb, ez⟩ := e
  obtain ⟨hx, hb, hml, hown, hts, hK, hA, hini, hR, hE⟩ := F
  have hpc : pc = pc' := hpc
  subst hpc
  have hd : decode cc pc = .ok (ins, len) := hd
  intro ns as H lc ls vs C
  obtain ⟨c1, c2, c3, c4, c5, c6⟩ := C
  show W p l en R s m args below meth c H lc kc ks Q (F0 m pc ls vs)
  obtain ⟨lv, c3, c3l⟩ := c3
  cases ins with
  | iload i =>
    replace h : (match ee_ld iv lo i with
      | some x => ee_nx len 2 [(pc + 2, lo, x :: stk, w, iv, kc, ks, sv)]
      | none => none) = some sts := h
    cases hq : ee_ld iv lo i with
    | none => rw [hq] at h; exact ee_no h
    | some x =>
      rw [hq] at h
      obtain ⟨rfl, rfl⟩ := ee_nx_some h
      obtain ⟨z, -, g1, g2⟩ := ee_ld.ok c1 c3 c3l hq
      exact lv_iload hx hb hd g1 (k _ List.mem_cons_self ns as H lc ls _ ⟨c1, c2, ⟨lv, c3, c3l⟩, ⟨g2, c4⟩, c5, c6⟩)
  | iload_n i =>
    replace h : (match ee_ld iv lo i.val with
      | some x => ee_nx len 1 [(pc + 1, lo, x :: stk, w, iv, kc, ks, sv)]
      | none => none) = some sts := h
    cases hq : ee_ld iv lo i.val with
    | none => rw [hq] at h; exact ee_no h
    | some x =>
      rw [hq] at h
      obtain ⟨rfl, rfl⟩ := ee_nx_some h
      obtain ⟨z, -, g1, g2⟩ := ee_ld.ok c1 c3 c3l hq
      exact lv_iload_n hx hb hd rfl g1 (k _ List.mem_cons_self ns as H lc ls _ ⟨c1, c2, ⟨lv, c3, c3l⟩, ⟨g2, c4⟩, c5, c6⟩)
  | _ => exact ee_no h
def ee_h3 : ee_H := fun _ _ _ e st => match st with
  | (pc, lo, stk, w, iv, kc, ks, sv) => match e.2.1 with
    | .aload i => (match ee_la lo i with
      | some x => ee_nx e.2.2.1 2 [(pc + 2, lo, .ref x :: stk, w, iv, kc, ks, sv)]
      | none => none)
    | .aload_n i => (match ee_la lo i.val with
      | some x => ee_nx e.2.2.1 1 [(pc + 1, lo, .ref x :: stk, w, iv, kc, ks, sv)]
      | none => none)
    | .lload i => if ee_ll lo i = true then ee_nx e.2.2.1 2 [(pc + 2, lo, .long 0 :: stk, w, iv, kc, ks, sv)] else none
    | .lload_n i => if ee_ll lo i.val = true then ee_nx e.2.2.1 1 [(pc + 1, lo, .long 0 :: stk, w, iv, kc, ks, sv)] else none
    | _ => none
set_option maxHeartbeats 2000000 in
theorem ee_h3.snd : ee_Snd ee_h3 := by
  intro X Y oc own cc ini dm bc bs Q e st sts F ho hi hd he hpc h k
  obtain ⟨p, l, en, R, s, m, args, below, meth, c⟩ := X
  obtain ⟨A, D, dA, ex, x0, sv0, nL⟩ := Y
  obtain ⟨pc, lo, stk, w, iv, kc, ks, sv⟩ := st
  obtain ⟨pc', ins, len, hn, ea, eb, ez⟩ := e
  obtain ⟨hx, hb, hml, hown, hts, hK, hA, hini, hR, hE⟩ := F
  have hpc : pc = pc' := hpc
  subst hpc
  have hd : decode cc pc = .ok (ins, len) := hd
  intro ns as H lc ls vs C
  obtain ⟨c1, c2, c3, c4, c5, c6⟩ := C
  show W p l en R s m args below meth c H lc kc ks Q (F0 m pc ls vs)
  obtain ⟨lv, c3, c3l⟩ := c3
  cases ins with
  | aload i =>
    replace h : (match ee_la lo i with
      | some x => ee_nx len 2 [(pc + 2, lo, Value.ref x :: stk, w, iv, kc, ks, sv)]
      | none => none) = some sts := h
    cases hq : ee_la lo i with
    | none => rw [hq] at h; exact ee_no h
    | some x =>
      rw [hq] at h
      obtain ⟨rfl, rfl⟩ := ee_nx_some h
      obtain ⟨a, g1, g2⟩ := ee_la.ok c3 c3l hq
      exact lv_aload hx hb hd g1 (k _ List.mem_cons_self ns as H lc ls _ ⟨c1, c2, ⟨lv, c3, c3l⟩, ⟨g2, c4⟩, c5, c6⟩)
  | aload_n i =>
    replace h : (match ee_la lo i.val with
      | some x => ee_nx len 1 [(pc + 1, lo, Value.ref x :: stk, w, iv, kc, ks, sv)]
      | none => none) = some sts := h
    cases hq : ee_la lo i.val with
    | none => rw [hq] at h; exact ee_no h
    | some x =>
      rw [hq] at h
      obtain ⟨rfl, rfl⟩ := ee_nx_some h
      obtain ⟨a, g1, g2⟩ := ee_la.ok c3 c3l hq
      exact lv_aload_n hx hb hd rfl g1 (k _ List.mem_cons_self ns as H lc ls _ ⟨c1, c2, ⟨lv, c3, c3l⟩, ⟨g2, c4⟩, c5, c6⟩)
  | lload i =>
    replace h : (if ee_ll lo i = true then ee_nx len 2 [(pc + 2, lo, Value.long 0 :: stk, w, iv, kc, ks, sv)] else none) = some sts := h
    by_cases hq : ee_ll lo i = true
    · rw [if_pos hq] at h
      obtain ⟨rfl, rfl⟩ := ee_nx_some h
      obtain ⟨z, g1⟩ := ee_ll.ok c3 c3l hq
      exact lv_lload hx hb hd g1 (k _ List.mem_cons_self ns as H lc ls _ ⟨c1, c2, ⟨lv, c3, c3l⟩, ⟨⟨_, rfl⟩, c4⟩, c5, c6⟩)
    · rw [if_neg hq] at h
      exact ee_no h
  | lload_n i =>
    replace h : (if ee_ll lo i.val = true then ee_nx len 1 [(pc + 1, lo, Value.long 0 :: stk, w, iv, kc, ks, sv)] else none) = some sts := h
    by_cases hq : ee_ll lo i.val = true
    · rw [if_pos hq] at h
      obtain ⟨rfl, rfl⟩ := ee_nx_some h
      obtain ⟨z, g1⟩ := ee_ll.ok c3 c3l hq
      exact lv_lload_n hx hb hd rfl g1 (k _ List.mem_cons_self ns as H lc ls _ ⟨c1, c2, ⟨lv, c3, c3l⟩, ⟨⟨_, rfl⟩, c4⟩, c5, c6⟩)
    · rw [if_neg hq] at h
      exact ee_no h
  | _ => exact ee_no h
def ee_sl (i : Nat) (x : Value) (lo : List (Nat × Value)) : List (Nat × Value) := (i, x) :: lo.filter (fun q => !(q.1 == i) && !(q.1 + 1 == i && ee_cat q.2 == 2))
theorem ee_sl.ok {ns : List Int32} {as : List Nat} {ex : Nat → Nat} {i : Nat} {x v : Value} {lo lv : List (Nat × Value)} (h : ee_all (ee_lr ns as ex) lo lv) (hv : ee_v ns as ex x v) : ee_all (ee_lr ns as ex) (ee_sl i x lo) ((i, v) :: lv.filter (fun q => !(q.1 == i) && !(q.1 + 1 == i && q.2.category == 2))) :=
  ⟨⟨rfl, hv⟩, h.filter (fun a b q => by rw [q.1, q.2.cat])⟩
def ee_sl2 (i : Nat) (lo : List (Nat × Value)) : List (Nat × Value) := (i, .long 0) :: lo.filter (fun q => !(q.1 == i) && (!(q.1 == i + 1) && !(q.1 + 1 == i && ee_cat q.2 == 2)))
theorem ee_sl2.ok {ns : List Int32} {as : List Nat} {ex : Nat → Nat} {i : Nat} {z : Int64} {lo lv : List (Nat × Value)} (h : ee_all (ee_lr ns as ex) lo lv) : ee_all (ee_lr ns as ex) (ee_sl2 i lo) ((i, .long z) :: lv.filter (fun q => !(q.1 == i) && (!(q.1 == i + 1) && !(q.1 + 1 == i && q.2.category == 2)))) :=
  ⟨⟨rfl, ⟨z, rfl⟩⟩, h.filter (fun a b q => by rw [q.1, q.2.cat])⟩
def ee_h4 : ee_H := fun nL _ _ e st => match st with
  | (pc, lo, x :: stk, w, iv, kc, ks, sv) => (match ee_it iv x with
    | some _ => (match e.2.1 with
      | .istore i => if i < nL then ee_nx e.2.2.1 2 [(pc + 2, ee_sl i x lo, stk, w, iv, kc, ks, sv)] else none
      | .istore_n i => if i.val < nL then ee_nx e.2.2.1 1 [(pc + 1, ee_sl i.val x lo, stk, w, iv, kc, ks, sv)] else none
      | _ => none)
    | none => none)
  | _ => none
set_option maxHeartbeats 2000000 in
theorem ee_h4.snd : ee_Snd ee_h4 := by
  intro X Y oc own cc ini dm bc bs Q e st sts F ho hi hd he hpc h k
  obtain ⟨p, l, en, R, s, m, args, below, meth, c⟩ := X
  obtain ⟨A, D, dA, ex, x0, sv0, nL⟩ := Y
  obtain ⟨pc, lo, stk, w, iv, kc, ks, sv⟩ := st
  obtain ⟨pc', ins, len, hn, ea, eb, ez⟩ := e
  obtain ⟨hx, hb, hml, hown, hts, hK, hA, hini, hR, hE⟩ := F
  have hpc : pc = pc' := hpc
  subst hpc
  have hd : decode cc pc = .ok (ins, len) := hd
  intro ns as H lc ls vs C
  obtain ⟨c1, c2, c3, c4, c5, c6⟩ := C
  show W p l en R s m args below meth c H lc kc ks Q (F0 m pc ls vs)
  obtain ⟨lv, c3, c3l⟩ := c3
  cases stk with
  | nil => exact ee_no h
  | cons x stk =>
    cases vs with
    | nil => exact c4.elim
    | cons v vs =>
      obtain ⟨c4v, c4⟩ := c4
      replace h : (match ee_it iv x with
        | some _ => (match (generalizing := false) ins with
          | .istore i => if i < nL then ee_nx len 2 [(pc + 2, ee_sl i x lo, stk, w, iv, kc, ks, sv)] else none
          | .istore_n i => if i.val < nL then ee_nx len 1 [(pc + 1, ee_sl i.val x lo, stk, w, iv, kc, ks, sv)] else none
          | _ => none)
        | none => none) = some sts := h
      cases hq : ee_it iv x with
      | none => rw [hq] at h; exact ee_no h
      | some q =>
        rw [hq] at h
        obtain ⟨z, rfl, -, -⟩ := ee_it.int c1 c4v hq
        cases ins with
        | istore i =>
          replace h : (if i < nL then ee_nx len 2 [(pc + 2, ee_sl i x lo, stk, w, iv, kc, ks, sv)] else none) = some sts := h
          by_cases hl : i < nL
          · rw [if_pos hl] at h
            obtain ⟨rfl, rfl⟩ := ee_nx_some h
            exact lv_istore hx hb hd c3 hl rfl (fun ls' hl' => k _ List.mem_cons_self ns as H lc ls' _ ⟨c1, c2, ⟨_, hl', ee_sl.ok c3l c4v⟩, c4, c5, c6⟩)
          · rw [if_neg hl] at h
            exact ee_no h
        | istore_n i =>
          replace h : (if i.val < nL then ee_nx len 1 [(pc + 1, ee_sl i.val x lo, stk, w, iv, kc, ks, sv)] else none) = some sts := h
          by_cases hl : i.val < nL
          · rw [if_pos hl] at h
            obtain ⟨rfl, rfl⟩ := ee_nx_some h
            exact lv_istore_n hx hb hd rfl c3 hl rfl (fun ls' hl' => k _ List.mem_cons_self ns as H lc ls' _ ⟨c1, c2, ⟨_, hl', ee_sl.ok c3l c4v⟩, c4, c5, c6⟩)
          · rw [if_neg hl] at h
            exact ee_no h
        | _ => exact ee_no h
def ee_h5 : ee_H := fun nL _ _ e st => match st with
  | (pc, lo, .ref x :: stk, w, iv, kc, ks, sv) => (match e.2.1 with
      | .astore i => if i < nL then ee_nx e.2.2.1 2 [(pc + 2, ee_sl i (.ref x) lo, stk, w, iv, kc, ks, sv)] else none
      | .astore_n i => if i.val < nL then ee_nx e.2.2.1 1 [(pc + 1, ee_sl i.val (.ref x) lo, stk, w, iv, kc, ks, sv)] else none
      | _ => none)
  | (pc, lo, .long _ :: stk, w, iv, kc, ks, sv) => (match e.2.1 with
      | .lstore i => if i + 1 < nL then ee_nx e.2.2.1 2 [(pc + 2, ee_sl2 i lo, stk, w, iv, kc, ks, sv)] else none
      | .lstore_n i => if i.val + 1 < nL then ee_nx e.2.2.1 1 [(pc + 1, ee_sl2 i.val lo, stk, w, iv, kc, ks, sv)] else none
      | _ => none)
  | _ => none
set_option maxHeartbeats 2000000 in
theorem ee_h5.snd : ee_Snd ee_h5 := by
  intro X Y oc own cc ini dm bc bs Q e st sts F ho hi hd he hpc h k
  obtain ⟨p, l, en, R, s, m, args, below, meth, c⟩ := X
  obtain ⟨A, D, dA, ex, x0, sv0, nL⟩ := Y
  obtain ⟨pc, lo, stk, w, iv, kc, ks, sv⟩ := st
  obtain ⟨pc', ins, len, hn, ea, eb, ez⟩ := e
  obtain ⟨hx, hb, hml, hown, hts, hK, hA, hini, hR, hE⟩ := F
  have hpc : pc = pc' := hpc
  subst hpc
  have hd : decode cc pc = .ok (ins, len) := hd
  intro ns as H lc ls vs C
  obtain ⟨c1, c2, c3, c4, c5, c6⟩ := C
  show W p l en R s m args below meth c H lc kc ks Q (F0 m pc ls vs)
  obtain ⟨lv, c3, c3l⟩ := c3
  cases stk with
  | nil => exact ee_no h
  | cons x stk =>
    cases vs with
    | nil => exact c4.elim
    | cons v vs =>
      obtain ⟨c4v, c4⟩ := c4
      cases x with
      | ref x =>
        obtain ⟨a, rfl⟩ := ee_v.ref c4v
        cases ins with
        | astore i =>
          replace h : (if i < nL then ee_nx len 2 [(pc + 2, ee_sl i (.ref x) lo, stk, w, iv, kc, ks, sv)] else none) = some sts := h
          by_cases hl : i < nL
          · rw [if_pos hl] at h
            obtain ⟨rfl, rfl⟩ := ee_nx_some h
            exact lv_astore hx hb hd c3 hl rfl (fun ls' hl' => k _ List.mem_cons_self ns as H lc ls' _ ⟨c1, c2, ⟨_, hl', ee_sl.ok c3l c4v⟩, c4, c5, c6⟩)
          · rw [if_neg hl] at h
            exact ee_no h
        | astore_n i =>
          replace h : (if i.val < nL then ee_nx len 1 [(pc + 1, ee_sl i.val (.ref x) lo, stk, w, iv, kc, ks, sv)] else none) = some sts := h
          by_cases hl : i.val < nL
          · rw [if_pos hl] at h
            obtain ⟨rfl, rfl⟩ := ee_nx_some h
            exact lv_astore_n hx hb hd rfl c3 hl rfl (fun ls' hl' => k _ List.mem_cons_self ns as H lc ls' _ ⟨c1, c2, ⟨_, hl', ee_sl.ok c3l c4v⟩, c4, c5, c6⟩)
          · rw [if_neg hl] at h
            exact ee_no h
        | _ => exact ee_no h
      | long x =>
        obtain ⟨z, rfl⟩ := c4v
        cases ins with
        | lstore i =>
          replace h : (if i + 1 < nL then ee_nx len 2 [(pc + 2, ee_sl2 i lo, stk, w, iv, kc, ks, sv)] else none) = some sts := h
          by_cases hl : i + 1 < nL
          · rw [if_pos hl] at h
            obtain ⟨rfl, rfl⟩ := ee_nx_some h
            exact lv_lstore hx hb hd c3 hl rfl (fun ls' hl' => k _ List.mem_cons_self ns as H lc ls' _ ⟨c1, c2, ⟨_, hl', ee_sl2.ok c3l⟩, c4, c5, c6⟩)
          · rw [if_neg hl] at h
            exact ee_no h
        | lstore_n i =>
          replace h : (if i.val + 1 < nL then ee_nx len 1 [(pc + 1, ee_sl2 i.val lo, stk, w, iv, kc, ks, sv)] else none) = some sts := h
          by_cases hl : i.val + 1 < nL
          · rw [if_pos hl] at h
            obtain ⟨rfl, rfl⟩ := ee_nx_some h
            exact lv_lstore_n hx hb hd rfl c3 hl rfl (fun ls' hl' => k _ List.mem_cons_self ns as H lc ls' _ ⟨c1, c2, ⟨_, hl', ee_sl2.ok c3l⟩, c4, c5, c6⟩)
          · rw [if_neg hl] at h
            exact ee_no h
        | _ => exact ee_no h
      | _ => exact ee_no h
end
section
/-! handlers: arithmetic, comparisons -/
theorem ee_rng (x : Int32) : -2147483648 ≤ x.toInt ∧ x.toInt ≤ 2147483647 := by
  have h1 := Int32.le_toInt x
  have h2 := Int32.toInt_lt x
  omega
theorem ee_bmod {z : Int} (h1 : -2147483648 ≤ z) (h2 : z ≤ 2147483647) : z.bmod (2 ^ 32) = z := by
  rw [Int.bmod_eq_of_le (by omega) (by omega)]
def ee_op (ins : ClassFile.Instr) (x y : Int32) : Int32 := match ins with
  | .iadd => x + y
  | .isub => x - y
  | .imul => x * y
  | .iand => x &&& y
  | .ior => x ||| y
  | .ixor => x ^^^ y
  | .ishl => x <<< (y &&& 31)
  | .ishr => x >>> (y &&& 31)
  | .iushr => (x.toUInt32 >>> (y.toUInt32 &&& Int32.toUInt32 31)).toInt32
  | .idiv => x / y
  | .irem => x - x / y * y
  | _ => 0
def ee_rg (a b : Int) : Int × Int := if -2147483648 ≤ a ∧ b ≤ 2147483647 then (a, b) else (-2147483648, 2147483647)
theorem ee_rg.ok {a b : Int} {z : Int32} {t : Int} (e : z.toInt = t.bmod (2 ^ 32)) (h1 : a ≤ t) (h2 : t ≤ b) : (ee_rg a b).1 ≤ z.toInt ∧ z.toInt ≤ (ee_rg a b).2 := by
  unfold ee_rg
  by_cases h : -2147483648 ≤ a ∧ b ≤ 2147483647
  · rw [if_pos h, e, ee_bmod (by omega) (by omega)]
    exact ⟨h1, h2⟩
  · rw [if_neg h]
    exact ee_rng z
/-- bounds of what comes -/
def ee_ap (ins : ClassFile.Instr) (a b d e : Int) : Int × Int := match ins with
  | .iadd => ee_rg (a + d) (b + e)
  | .isub => ee_rg (a - e) (b - d)
  | .iand => if 0 ≤ d then (0, e) else if 0 ≤ a then (0, b) else (-2147483648, 2147483647)
  | _ => (-2147483648, 2147483647)
theorem ee_toNat {y : Int32} (h : 0 ≤ y.toInt) : (y.toBitVec.toNat : Int) = y.toInt ∧ y.toBitVec.toNat < 2 ^ 31 := by
  have h1 : y.toInt = y.toBitVec.toInt := rfl
  have h2 := BitVec.toInt_eq_toNat_cond y.toBitVec
  have h3 := y.toBitVec.isLt
  rw [h1] at h ⊢
  rw [h2] at h ⊢
  split at h
  · rename_i q
    rw [if_pos q]
    exact ⟨rfl, by omega⟩
  · omega
theorem ee_and_le (x y : Int32) (h : 0 ≤ y.toInt) : 0 ≤ (x &&& y).toInt ∧ (x &&& y).toInt ≤ y.toInt := by
  obtain ⟨h1, h2⟩ := ee_toNat h
  have e : (x &&& y).toBitVec.toNat = x.toBitVec.toNat &&& y.toBitVec.toNat := by
    rw [show (x &&& y).toBitVec = x.toBitVec &&& y.toBitVec from rfl, BitVec.toNat_and]
  have hle : (x &&& y).toBitVec.toNat ≤ y.toBitVec.toNat := by rw [e]; exact Nat.and_le_right
  have q : (x &&& y).toInt = ((x &&& y).toBitVec.toNat : Int) := by
    show (x &&& y).toBitVec.toInt = _
    rw [BitVec.toInt_eq_toNat_cond, if_pos (by omega)]
  omega
theorem ee_and_comm (x y : Int32) : x &&& y = y &&& x := by
  apply Int32.toBitVec_inj.mp
  show x.toBitVec &&& y.toBitVec = y.toBitVec &&& x.toBitVec
  exact BitVec.and_comm _ _
theorem ee_ap.ok {ins : ClassFile.Instr} {a b d e : Int} {x y : Int32} (h1 : a ≤ x.toInt) (h2 : x.toInt ≤ b) (h3 : d ≤ y.toInt) (h4 : y.toInt ≤ e) : (ee_ap ins a b d e).1 ≤ (ee_op ins x y).toInt ∧ (ee_op ins x y).toInt ≤ (ee_ap ins a b d e).2 := by
  cases ins with
  | iadd => exact ee_rg.ok (Int32.toInt_add x y) (by omega) (by omega)
  | isub => exact ee_rg.ok (Int32.toInt_sub x y) (by omega) (by omega)
  | iand =>
    show (if 0 ≤ d then ((0 : Int), e) else if 0 ≤ a then (0, b) else (-2147483648, 2147483647)).1 ≤ (x &&& y).toInt ∧ (x &&& y).toInt ≤ (if 0 ≤ d then ((0 : Int), e) else if 0 ≤ a then (0, b) else (-2147483648, 2147483647)).2
    by_cases q : 0 ≤ d
    · rw [if_pos q]
      have := ee_and_le x y (by omega)
      exact ⟨this.1, by show (x &&& y).toInt ≤ e; omega⟩
    · rw [if_neg q]
      by_cases r : 0 ≤ a
      · rw [if_pos r]
        have := ee_and_le y x (by omega)
        rw [ee_and_comm y x] at this
        exact ⟨this.1, by show (x &&& y).toInt ≤ b; omega⟩
      · rw [if_neg r]
        exact ee_rng _
  | _ => exact ee_rng _
def ee_add (ins : ClassFile.Instr) : Bool := match ins with
  | .iadd => true
  | _ => false
/-- an operation on two ints -/
def ee_bin (ins : ClassFile.Instr) (iv : ee_iv) (x y : Value) : Option (Value × ee_iv) := match ee_cn iv x, ee_cn iv y with
  | some a, some b => some (.int (ee_op ins a b), iv)
  | _, _ => (match ee_it iv x, ee_it iv y with
    | some (a, b), some (d, e) => if ee_add ins = true ∧ d = 0 ∧ e = 0 then some (x, iv) else if ee_add ins = true ∧ a = 0 ∧ b = 0 then some (y, iv) else some (.retAddr iv.length, iv ++ [((ee_ap ins a b d e).1, (ee_ap ins a b d e).2, none)])
    | _, _ => none)
theorem ee_zero {z : Int32} (h1 : 0 ≤ z.toInt) (h2 : z.toInt ≤ 0) : z = 0 := Int32.toInt_inj.mp (by rw [Int32.toInt_zero]; omega)
theorem ee_bin.it {ins : ClassFile.Instr} {iv iv' : ee_iv} {x y r : Value} (h : ee_bin ins iv x y = some (r, iv')) : (∃ a, ee_cn iv x = some a) ∨ (∃ q, ee_it iv x = some q) := by
  unfold ee_bin at h
  split at h
  · rename_i a b h1 h2
    exact Or.inl ⟨a, h1⟩
  · split at h
    · rename_i a b d e h1 h2
      exact Or.inr ⟨_, h1⟩
    · cases h
theorem ee_bin.ok {ns : List Int32} {as : List Nat} {ex : Nat → Nat} {ins : ClassFile.Instr} {iv iv' : ee_iv} {x y r vx vy : Value} (hk : ee_ok ns iv) (hx : ee_v ns as ex x vx) (hy : ee_v ns as ex y vy) (h : ee_bin ins iv x y = some (r, iv')) :
    ∃ a b : Int32, vx = .int a ∧ vy = .int b ∧ ((iv' = iv ∧ ee_v ns as ex r (.int (ee_op ins a b))) ∨ ∃ lo hi : Int, r = .retAddr iv.length ∧ iv' = iv ++ [(lo, hi, none)] ∧ lo ≤ (ee_op ins a b).toInt ∧ (ee_op ins a b).toInt ≤ hi) := by
  unfold ee_bin at h
  split at h
  · rename_i a b h1 h2
    cases h
    exact ⟨a, b, ee_cn.int hk hx h1, ee_cn.int hk hy h2, Or.inl ⟨rfl, rfl⟩⟩
  · split at h
    · rename_i a b d e h1 h2
      obtain ⟨p, rfl, p1, p2⟩ := ee_it.int hk hx h1
      obtain ⟨q, rfl, q1, q2⟩ := ee_it.int hk hy h2
      refine ⟨p, q, rfl, rfl, ?_⟩
      split at h
      · rename_i hc
        cases h
        obtain ⟨h0, rfl, rfl⟩ := hc
        have hz := ee_zero q1 q2
        subst hz
        left
        refine ⟨rfl, ?_⟩
        cases ins with
        | iadd => rw [show ee_op .iadd p 0 = p from Int32.add_zero p]; exact hx
        | _ => cases h0
      · split at h
        · rename_i hc
          cases h
          obtain ⟨h0, rfl, rfl⟩ := hc
          have hz := ee_zero p1 p2
          subst hz
          left
          refine ⟨rfl, ?_⟩
          cases ins with
          | iadd => rw [show ee_op .iadd 0 q = q from Int32.zero_add q]; exact hy
          | _ => cases h0
        · cases h
          right
          have := ee_ap.ok (ins := ins) p1 p2 q1 q2
          exact ⟨_, _, rfl, rfl, this.1, this.2⟩
    · cases h
def ee_h6 : ee_H := fun nL _ _ e st => match st with
  | (pc, lo, stk, w, iv, kc, ks, sv) => (match e.2.1 with
      | .iinc i n => (match ee_ld iv lo i with
        | some x => (match ee_bin .iadd iv x (.int (Int32.ofInt n)) with
          | some (r, iv') => if i < nL then ee_nx e.2.2.1 3 [(pc + 3, ee_sl i r lo, stk, w, iv', kc, ks, sv)] else none
          | none => none)
        | none => none)
      | _ => none)
set_option maxHeartbeats 2000000 in
theorem ee_h6.snd : ee_Snd ee_h6 := by
  intro X Y oc own cc ini dm bc bs Q e st sts F ho hi hd he hpc h k
  obtain ⟨p, l, en, R, s, m, args, below, meth, c⟩ := X
  obtain ⟨A, D, dA, ex, x0, sv0, nL⟩ := Y
  obtain ⟨pc, lo, stk, w, iv, kc, ks, sv⟩ := st
  obtain ⟨pc', ins, len, hn, ea, eb, ez⟩ := e
  obtain ⟨hx, hb, hml, hown, hts, hK, hA, hini, hR, hE⟩ := F
  have hpc : pc = pc' := hpc
  subst hpc
  have hd : decode cc pc = .ok (ins, len) := hd
  intro ns as H lc ls vs C
  obtain ⟨c1, c2, c3, c4, c5, c6⟩ := C
  show W p l en R s m args below meth c H lc kc ks Q (F0 m pc ls vs)
  cases ins with
  | iinc i n =>
    replace h : (match ee_ld iv lo i with
        | some x => (match ee_bin .iadd iv x (.int (Int32.ofInt n)) with
          | some (r, iv') => if i < nL then ee_nx len 3 [(pc + 3, ee_sl i r lo, stk, w, iv', kc, ks, sv)] else none
          | none => none)
        | none => none) = some sts := h
    cases hq : ee_ld iv lo i with
    | none => rw [hq] at h; exact ee_no h
    | some x =>
      rw [hq] at h
      simp only at h
      cases hr : ee_bin .iadd iv x (.int (Int32.ofInt n)) with
      | none => rw [hr] at h; exact ee_no h
      | some r =>
        obtain ⟨r, iv'⟩ := r
        rw [hr] at h
        simp only at h
        by_cases hl : i < nL
        · rw [if_pos hl] at h
          obtain ⟨rfl, rfl⟩ := ee_nx_some h
          obtain ⟨lv, c3, c3l⟩ := c3
          obtain ⟨z, g0, g1, g2⟩ := ee_ld.ok c1 c3 c3l hq
          obtain ⟨j, hj⟩ := List.getElem?_of_mem g0
          obtain ⟨a, b, ea1, eb1, g3⟩ := ee_bin.ok c1 g2 (show ee_v ns as ex (.int (Int32.ofInt n)) (.int (Int32.ofInt n)) from rfl) hr
          cases ea1
          cases eb1
          rcases g3 with ⟨rfl, g3⟩ | ⟨lo1, hi1, rfl, rfl, g4, g5⟩
          · exact lv_iinc hx hb hd c3 hj rfl hl rfl (fun ls' hl' => k _ List.mem_cons_self ns as H lc ls' _ ⟨c1, c2, ⟨_, hl', ee_sl.ok c3l g3⟩, c4, c5, c6⟩)
          · refine lv_iinc hx hb hd c3 hj rfl hl rfl (fun ls' hl' => ?_)
            obtain ⟨d1, d2, d3, d4, d5, d6⟩ := ee_Con.grow (s := s) (A := A) (D := D) (dA := dA) (ex := ex) (x0 := x0) (sv0 := sv0) (nL := nL) (lo := lo) (ls := ls) ⟨c1, c2, ⟨lv, c3, c3l⟩, c4, c5, c6⟩ g4 g5 (o := none) (fun _ _ q => by cases q)
            refine k _ List.mem_cons_self _ as H lc ls' _ ⟨d1, d2, ⟨_, hl', ee_sl.ok (c3l.imp (fun a b q => ⟨q.1, by simpa using ee_v.mono [_] [] q.2⟩)) ⟨_, c1.last _, rfl⟩⟩, d4, d5, d6⟩
        · rw [if_neg hl] at h
          exact ee_no h
  | _ => exact ee_no h
/-- a symbol of few numbers, one by one -/
def ee_sp (iv : ee_iv) (x : Value) : List ee_iv := match x with
  | .retAddr k => (match iv[k]? with
    | some q => if q.1 < q.2.1 ∧ q.2.1 - q.1 < 8 then (List.range (q.2.1 - q.1 + 1).toNat).map (fun (j : Nat) => ee_put iv x (q.1 + j) (q.1 + j)) else []
    | none => [])
  | _ => []
theorem ee_sp.ok {ns : List Int32} {as : List Nat} {ex : Nat → Nat} {iv : ee_iv} {x v : Value} (hk : ee_ok ns iv) (hx : ee_v ns as ex x v) (h : ee_sp iv x ≠ []) : ∃ iv', iv' ∈ ee_sp iv x ∧ ee_ok ns iv' := by
  cases x with
  | retAddr k =>
    obtain ⟨z, h1, h2⟩ := hx
    cases hq : iv[k]? with
    | none => exact absurd (by simp only [ee_sp, hq]) h
    | some q =>
      obtain ⟨y, g1, g2, g3, -⟩ := hk.2 k q hq
      rw [h1] at g1
      cases g1
      have e : ee_sp iv (.retAddr k) = if q.1 < q.2.1 ∧ q.2.1 - q.1 < 8 then (List.range (q.2.1 - q.1 + 1).toNat).map (fun (j : Nat) => ee_put iv (.retAddr k) (q.1 + j) (q.1 + j)) else [] := by simp only [ee_sp, hq]
      by_cases hc : q.1 < q.2.1 ∧ q.2.1 - q.1 < 8
      · rw [if_pos hc] at e
        rw [e]
        refine ⟨_, List.mem_map.mpr ⟨(z.toInt - q.1).toNat, List.mem_range.mpr (by omega), rfl⟩, ?_⟩
        exact ee_put.ok (as := as) (ex := ex) hk (z := z) ⟨z, h1, rfl⟩ (by omega) (by omega)
      · rw [if_neg hc] at e
        exact absurd e h
  | _ => exact absurd rfl h
def ee_wide (ins : ClassFile.Instr) : Bool := match ins with
  | .isub => true
  | .imul => true
  | _ => false
def ee_two (ins : ClassFile.Instr) : Bool := match ins with
  | .iadd => true
  | .isub => true
  | .imul => true
  | .iand => true
  | .ior => true
  | .ixor => true
  | .ishl => true
  | .ishr => true
  | .iushr => true
  | _ => false
def ee_h7 : ee_H := fun _ _ _ e st => match st with
  | (pc, lo, y :: x :: stk, w, iv, kc, ks, sv) => if ee_wide e.2.1 = true ∧ ee_sp iv x ≠ [] then some ((ee_sp iv x).map (fun iv' => (pc, lo, y :: x :: stk, w, iv', kc, ks, sv))) else if ee_two e.2.1 = true then (match ee_bin e.2.1 iv x y with
      | some (r, iv') => ee_nx e.2.2.1 1 [(pc + 1, lo, r :: stk, w, iv', kc, ks, sv)]
      | none => none) else none
  | _ => none
set_option maxHeartbeats 2000000 in
theorem ee_h7.snd : ee_Snd ee_h7 := by
  intro X Y oc own cc ini dm bc bs Q e st sts F ho hi hd he hpc h k
  obtain ⟨p, l, en, R, s, m, args, below, meth, c⟩ := X
  obtain ⟨A, D, dA, ex, x0, sv0, nL⟩ := Y
  obtain ⟨pc, lo, stk, w, iv, kc, ks, sv⟩ := st
  obtain ⟨pc', ins, len, hn, ea, eb, ez⟩ := e
  obtain ⟨hx, hb, hml, hown, hts, hK, hA, hini, hR, hE⟩ := F
  have hpc : pc = pc' := hpc
  subst hpc
  have hd : decode cc pc = .ok (ins, len) := hd
  intro ns as H lc ls vs C
  obtain ⟨c1, c2, c3, c4, c5, c6⟩ := C
  show W p l en R s m args below meth c H lc kc ks Q (F0 m pc ls vs)
  match stk, vs, c4, h with
  | [], _, _, h => exact ee_no h
  | [_], _, _, h => exact ee_no h
  | y :: x :: stk, [], c4, h => exact c4.elim
  | y :: x :: stk, [_], c4, h => exact c4.2.elim
  | y :: x :: stk, vy :: vx :: vs, ⟨cy, cx, c4⟩, h =>
    replace h : (if ee_wide ins = true ∧ ee_sp iv x ≠ [] then some ((ee_sp iv x).map (fun iv' => (pc, lo, y :: x :: stk, w, iv', kc, ks, sv))) else if ee_two ins = true then (match ee_bin ins iv x y with
      | some (r, iv') => ee_nx len 1 [(pc + 1, lo, r :: stk, w, iv', kc, ks, sv)]
      | none => none) else none) = some sts := h
    by_cases hw : ee_wide ins = true ∧ ee_sp iv x ≠ []
    · rw [if_pos hw] at h
      cases h
      obtain ⟨iv', g1, g2⟩ := ee_sp.ok c1 cx hw.2
      exact k _ (List.mem_map.mpr ⟨iv', g1, rfl⟩) ns as H lc ls _ ⟨g2, c2, c3, ⟨cy, cx, c4⟩, c5, c6⟩
    · rw [if_neg hw] at h
      by_cases ht : ee_two ins = true
      · rw [if_pos ht] at h
        cases hr : ee_bin ins iv x y with
        | none => rw [hr] at h; exact ee_no h
        | some r =>
          obtain ⟨r, iv'⟩ := r
          rw [hr] at h
          obtain ⟨rfl, rfl⟩ := ee_nx_some h
          obtain ⟨a, b, rfl, rfl, g3⟩ := ee_bin.ok c1 cx cy hr
          have key : W p l en R s m args below meth c H lc kc ks Q (F0 m (pc + 1) ls (.int (ee_op ins a b) :: vs)) := by
            rcases g3 with ⟨rfl, g3⟩ | ⟨lo1, hi1, rfl, rfl, g4, g5⟩
            · exact k _ List.mem_cons_self ns as H lc ls _ ⟨c1, c2, c3, ⟨g3, c4⟩, c5, c6⟩
            · obtain ⟨d1, d2, d3, d4, d5, d6⟩ := ee_Con.grow (s := s) (A := A) (D := D) (dA := dA) (ex := ex) (x0 := x0) (sv0 := sv0) (nL := nL) (lo := lo) (ls := ls) ⟨c1, c2, c3, c4, c5, c6⟩ g4 g5 (o := none) (fun _ _ q => by cases q)
              exact k _ List.mem_cons_self _ as H lc ls _ ⟨d1, d2, d3, ⟨⟨_, c1.last _, rfl⟩, d4⟩, d5, d6⟩
          cases ins with
          | iadd => exact lv_iadd hx hb hd key
          | isub => exact lv_isub hx hb hd key
          | imul => exact lv_imul hx hb hd key
          | iand => exact lv_iand hx hb hd key
          | ior => exact lv_ior hx hb hd key
          | ixor => exact lv_ixor hx hb hd key
          | ishl => exact lv_ishl hx hb hd key
          | ishr => exact lv_ishr hx hb hd key
          | iushr => exact lv_iushr hx hb hd rfl key
          | _ => cases ht
      · rw [if_neg ht] at h
        exact ee_no h
def ee_h8 : ee_H := fun _ _ _ e st => match st with
  | (pc, lo, y :: x :: stk, w, iv, kc, ks, sv) => (match ee_it iv y with
    | some (d, u) => if 0 < d ∨ u < 0 then (match e.2.1 with
      | .idiv => (match ee_bin .idiv iv x y with
        | some (r, iv') => ee_nx e.2.2.1 1 [(pc + 1, lo, r :: stk, w, iv', kc, ks, sv)]
        | none => none)
      | .irem => (match ee_bin .irem iv x y with
        | some (r, iv') => ee_nx e.2.2.1 1 [(pc + 1, lo, r :: stk, w, iv', kc, ks, sv)]
        | none => none)
      | _ => none) else none
    | none => none)
  | _ => none
set_option maxHeartbeats 2000000 in
theorem ee_h8.snd : ee_Snd ee_h8 := by
  intro X Y oc own cc ini dm bc bs Q e st sts F ho hi hd he hpc h k
  obtain ⟨p, l, en, R, s, m, args, below, meth, c⟩ := X
  obtain ⟨A, D, dA, ex, x0, sv0, nL⟩ := Y
  obtain ⟨pc, lo, stk, w, iv, kc, ks, sv⟩ := st
  obtain ⟨pc', ins, len, hn, ea, eb, ez⟩ := e
  obtain ⟨hx, hb, hml, hown, hts, hK, hA, hini, hR, hE⟩ := F
  have hpc : pc = pc' := hpc
  subst hpc
  have hd : decode cc pc = .ok (ins, len) := hd
  intro ns as H lc ls vs C
  obtain ⟨c1, c2, c3, c4, c5, c6⟩ := C
  show W p l en R s m args below meth c H lc kc ks Q (F0 m pc ls vs)
  match stk, vs, c4, h with
  | [], _, _, h => exact ee_no h
  | [_], _, _, h => exact ee_no h
  | y :: x :: stk, [], c4, h => exact c4.elim
  | y :: x :: stk, [_], c4, h => exact c4.2.elim
  | y :: x :: stk, vy :: vx :: vs, ⟨cy, cx, c4⟩, h =>
    replace h : (match ee_it iv y with
      | some (d, u) => if 0 < d ∨ u < 0 then (match (generalizing := false) ins with
        | .idiv => (match ee_bin .idiv iv x y with
          | some (r, iv') => ee_nx len 1 [(pc + 1, lo, r :: stk, w, iv', kc, ks, sv)]
          | none => none)
        | .irem => (match ee_bin .irem iv x y with
          | some (r, iv') => ee_nx len 1 [(pc + 1, lo, r :: stk, w, iv', kc, ks, sv)]
          | none => none)
        | _ => none) else none
      | none => none) = some sts := h
    cases hq : ee_it iv y with
    | none => rw [hq] at h; exact ee_no h
    | some q =>
      obtain ⟨d, u⟩ := q
      rw [hq] at h
      simp only at h
      by_cases hc : 0 < d ∨ u < 0
      · rw [if_pos hc] at h
        obtain ⟨b0, rfl, b1, b2⟩ := ee_it.int c1 cy hq
        have hne : ¬ b0 = 0 := fun z => by
          rw [z, Int32.toInt_zero] at b1 b2
          omega
        have go : ∀ ins' : ClassFile.Instr, (match ee_bin ins' iv x y with
          | some (r, iv') => ee_nx len 1 [(pc + 1, lo, r :: stk, w, iv', kc, ks, sv)]
          | none => none) = some sts → len = 1 ∧ ∃ a : Int32, vx = .int a ∧ W p l en R s m args below meth c H lc kc ks Q (F0 m (pc + 1) ls (.int (ee_op ins' a b0) :: vs)) := by
          intro ins' h
          cases hr : ee_bin ins' iv x y with
          | none => rw [hr] at h; exact ee_no h
          | some r =>
            obtain ⟨r, iv'⟩ := r
            rw [hr] at h
            obtain ⟨rfl, rfl⟩ := ee_nx_some h
            obtain ⟨a, b, rfl, eb1, g3⟩ := ee_bin.ok c1 cx cy hr
            cases eb1
            refine ⟨rfl, a, rfl, ?_⟩
            rcases g3 with ⟨rfl, g3⟩ | ⟨lo1, hi1, rfl, rfl, g4, g5⟩
            · exact k _ List.mem_cons_self ns as H lc ls _ ⟨c1, c2, c3, ⟨g3, c4⟩, c5, c6⟩
            · obtain ⟨d1, d2, d3, d4, d5, d6⟩ := ee_Con.grow (s := s) (A := A) (D := D) (dA := dA) (ex := ex) (x0 := x0) (sv0 := sv0) (nL := nL) (lo := lo) (ls := ls) ⟨c1, c2, c3, c4, c5, c6⟩ g4 g5 (o := none) (fun _ _ q => by cases q)
              exact k _ List.mem_cons_self _ as H lc ls _ ⟨d1, d2, d3, ⟨⟨_, c1.last _, rfl⟩, d4⟩, d5, d6⟩
        cases ins with
        | idiv =>
          obtain ⟨rfl, a, rfl, key⟩ := go .idiv h
          exact lv_idiv hx hb hd hne key
        | irem =>
          obtain ⟨rfl, a, rfl, key⟩ := go .irem h
          exact lv_irem hx hb hd hne key
        | _ => exact ee_no h
      · rw [if_neg hc] at h
        exact ee_no h
end
section
/-! handlers: longs, narrow ints, the stack, branches -/
theorem ee_lcmp (x y : Int64) : -1 ≤ (lg_cmp x y).toInt ∧ (lg_cmp x y).toInt ≤ 1 := by
  unfold lg_cmp
  split
  · decide
  · split <;> decide
def ee_isl (x : Value) : Bool := match x with
  | .long _ => true
  | _ => false
theorem ee_isl.ok {ns : List Int32} {as : List Nat} {ex : Nat → Nat} {x v : Value} (h : ee_v ns as ex x v) (hl : ee_isl x = true) : ∃ z, v = .long z := by
  cases x with
  | long q => exact h
  | _ => cases hl
def ee_h9 : ee_H := fun _ _ _ e st => match st with
  | (pc, lo, x :: y :: stk, w, iv, kc, ks, sv) => if ee_isl x = true ∧ ee_isl y = true then (match e.2.1 with
      | .ladd => ee_nx e.2.2.1 1 [(pc + 1, lo, .long 0 :: stk, w, iv, kc, ks, sv)]
      | .lmul => ee_nx e.2.2.1 1 [(pc + 1, lo, .long 0 :: stk, w, iv, kc, ks, sv)]
      | .lor => ee_nx e.2.2.1 1 [(pc + 1, lo, .long 0 :: stk, w, iv, kc, ks, sv)]
      | .lcmp => ee_nx e.2.2.1 1 [(pc + 1, lo, .retAddr iv.length :: stk, w, iv ++ [(-1, 1, none)], kc, ks, sv)]
      | _ => none) else (match ee_it iv x with
      | some _ => (match e.2.1 with
        | .i2l => ee_nx e.2.2.1 1 [(pc + 1, lo, .long 0 :: y :: stk, w, iv, kc, ks, sv)]
        | .lshl => if ee_isl y = true then ee_nx e.2.2.1 1 [(pc + 1, lo, .long 0 :: stk, w, iv, kc, ks, sv)] else none
        | _ => none)
      | none => none)
  | _ => none
set_option maxHeartbeats 2000000 in
theorem ee_h9.snd : ee_Snd ee_h9 := by
  intro X Y oc own cc ini dm bc bs Q e st sts F ho hi hd he hpc h k
  obtain ⟨p, l, en, R, s, m, args, below, meth, c⟩ := X
  obtain ⟨A, D, dA, ex, x0, sv0, nL⟩ := Y
  obtain ⟨pc, lo, stk, w, iv, kc, ks, sv⟩ := st
  obtain ⟨pc', ins, len, hn, ea, eb, ez⟩ := e
  obtain ⟨hx, hb, hml, hown, hts, hK, hA, hini, hR, hE⟩ := F
  have hpc : pc = pc' := hpc
  subst hpc
  have hd : decode cc pc = .ok (ins, len) := hd
  intro ns as H lc ls vs C
  obtain ⟨c1, c2, c3, c4, c5, c6⟩ := C
  show W p l en R s m args below meth c H lc kc ks Q (F0 m pc ls vs)
  match stk, vs, c4, h with
  | [], _, _, h => exact ee_no h
  | [_], _, _, h => exact ee_no h
  | x :: y :: stk, [], c4, h => exact c4.elim
  | x :: y :: stk, [_], c4, h => exact c4.2.elim
  | x :: y :: stk, vx :: vy :: vs, ⟨cx, cy, c4⟩, h =>
    replace h : (if ee_isl x = true ∧ ee_isl y = true then (match (generalizing := false) ins with
      | .ladd => ee_nx len 1 [(pc + 1, lo, .long 0 :: stk, w, iv, kc, ks, sv)]
      | .lmul => ee_nx len 1 [(pc + 1, lo, .long 0 :: stk, w, iv, kc, ks, sv)]
      | .lor => ee_nx len 1 [(pc + 1, lo, .long 0 :: stk, w, iv, kc, ks, sv)]
      | .lcmp => ee_nx len 1 [(pc + 1, lo, .retAddr iv.length :: stk, w, iv ++ [(-1, 1, none)], kc, ks, sv)]
      | _ => none) else (match ee_it iv x with
      | some _ => (match (generalizing := false) ins with
        | .i2l => ee_nx len 1 [(pc + 1, lo, .long 0 :: y :: stk, w, iv, kc, ks, sv)]
        | .lshl => if ee_isl y = true then ee_nx len 1 [(pc + 1, lo, .long 0 :: stk, w, iv, kc, ks, sv)] else none
        | _ => none)
      | none => none)) = some sts := h
    by_cases hc : ee_isl x = true ∧ ee_isl y = true
    · rw [if_pos hc] at h
      obtain ⟨a, rfl⟩ := ee_isl.ok cx hc.1
      obtain ⟨b, rfl⟩ := ee_isl.ok cy hc.2
      cases ins with
      | ladd =>
        obtain ⟨rfl, rfl⟩ := ee_nx_some (show ee_nx len 1 _ = some sts from h)
        exact lv_ladd hx hb hd (k _ List.mem_cons_self ns as H lc ls _ ⟨c1, c2, c3, ⟨⟨_, rfl⟩, c4⟩, c5, c6⟩)
      | lmul =>
        obtain ⟨rfl, rfl⟩ := ee_nx_some (show ee_nx len 1 _ = some sts from h)
        exact lv_lmul hx hb hd (k _ List.mem_cons_self ns as H lc ls _ ⟨c1, c2, c3, ⟨⟨_, rfl⟩, c4⟩, c5, c6⟩)
      | lor =>
        obtain ⟨rfl, rfl⟩ := ee_nx_some (show ee_nx len 1 _ = some sts from h)
        exact lv_lor hx hb hd (k _ List.mem_cons_self ns as H lc ls _ ⟨c1, c2, c3, ⟨⟨_, rfl⟩, c4⟩, c5, c6⟩)
      | lcmp =>
        obtain ⟨rfl, rfl⟩ := ee_nx_some (show ee_nx len 1 _ = some sts from h)
        have g := ee_lcmp b a
        obtain ⟨d1, d2, d3, d4, d5, d6⟩ := ee_Con.grow (s := s) (A := A) (D := D) (dA := dA) (ex := ex) (x0 := x0) (sv0 := sv0) (nL := nL) (lo := lo) (ls := ls) ⟨c1, c2, c3, c4, c5, c6⟩ g.1 g.2 (o := none) (fun _ _ q => by cases q)
        exact W.lcmp hx hb hd (k _ List.mem_cons_self _ as H lc ls _ ⟨d1, d2, d3, ⟨⟨_, c1.last _, rfl⟩, d4⟩, d5, d6⟩)
      | _ => exact ee_no h
    · rw [if_neg hc] at h
      cases hq : ee_it iv x with
      | none => rw [hq] at h; exact ee_no h
      | some q =>
        rw [hq] at h
        obtain ⟨z, rfl, -, -⟩ := ee_it.int c1 cx hq
        cases ins with
        | i2l =>
          obtain ⟨rfl, rfl⟩ := ee_nx_some (show ee_nx len 1 _ = some sts from h)
          exact lv_i2l hx hb hd rfl (k _ List.mem_cons_self ns as H lc ls _ ⟨c1, c2, c3, ⟨⟨_, rfl⟩, cy, c4⟩, c5, c6⟩)
        | lshl =>
          replace h : (if ee_isl y = true then ee_nx len 1 [(pc + 1, lo, Value.long 0 :: stk, w, iv, kc, ks, sv)] else none) = some sts := h
          by_cases hy : ee_isl y = true
          · rw [if_pos hy] at h
            obtain ⟨rfl, rfl⟩ := ee_nx_some h
            obtain ⟨b, rfl⟩ := ee_isl.ok cy hy
            exact lv_lshl hx hb hd rfl (k _ List.mem_cons_self ns as H lc ls _ ⟨c1, c2, c3, ⟨⟨_, rfl⟩, c4⟩, c5, c6⟩)
          · rw [if_neg hy] at h
            exact ee_no h
        | _ => exact ee_no h
theorem ee_i2c (x : Int32) : 0 ≤ (x.toUInt32 % 65536).toInt32.toInt ∧ (x.toUInt32 % 65536).toInt32.toInt ≤ 65535 := by
  rw [pk_char, nI_toInt (by have := Nat.mod_lt x.toBitVec.toNat (show 0 < 65536 by decide); omega)]
  have := Nat.mod_lt x.toBitVec.toNat (show 0 < 65536 by decide)
  omega
theorem ee_i2b (x : Int32) : -128 ≤ x.toInt8.toInt32.toInt ∧ x.toInt8.toInt32.toInt ≤ 127 := by
  rw [Int8.toInt_toInt32]
  have h1 := Int8.le_toInt x.toInt8
  have h2 := Int8.toInt_lt x.toInt8
  omega
def ee_h10 : ee_H := fun _ _ _ e st => match st with
  | (pc, lo, x :: stk, w, iv, kc, ks, sv) => (match ee_cn iv x with
    | some z => (match e.2.1 with
      | .i2b => ee_nx e.2.2.1 1 [(pc + 1, lo, .int z.toInt8.toInt32 :: stk, w, iv, kc, ks, sv)]
      | .i2c => ee_nx e.2.2.1 1 [(pc + 1, lo, .int (z.toUInt32 % 65536).toInt32 :: stk, w, iv, kc, ks, sv)]
      | _ => none)
    | none => (match ee_it iv x with
      | some _ => (match e.2.1 with
        | .i2b => ee_nx e.2.2.1 1 [(pc + 1, lo, .retAddr iv.length :: stk, w, iv ++ [(-128, 127, none)], kc, ks, sv)]
        | .i2c => ee_nx e.2.2.1 1 [(pc + 1, lo, .retAddr iv.length :: stk, w, iv ++ [(0, 65535, none)], kc, ks, sv)]
        | _ => none)
      | none => none))
  | _ => none
set_option maxHeartbeats 2000000 in
theorem ee_h10.snd : ee_Snd ee_h10 := by
  intro X Y oc own cc ini dm bc bs Q e st sts F ho hi hd he hpc h k
  obtain ⟨p, l, en, R, s, m, args, below, meth, c⟩ := X
  obtain ⟨A, D, dA, ex, x0, sv0, nL⟩ := Y
  obtain ⟨pc, lo, stk, w, iv, kc, ks, sv⟩ := st
  obtain ⟨pc', ins, len, hn, ea, eb, ez⟩ := e
  obtain ⟨hx, hb, hml, hown, hts, hK, hA, hini, hR, hE⟩ := F
  have hpc : pc = pc' := hpc
  subst hpc
  have hd : decode cc pc = .ok (ins, len) := hd
  intro ns as H lc ls vs C
  obtain ⟨c1, c2, c3, c4, c5, c6⟩ := C
  show W p l en R s m args below meth c H lc kc ks Q (F0 m pc ls vs)
  cases stk with
  | nil => exact ee_no h
  | cons x stk =>
    cases vs with
    | nil => exact c4.elim
    | cons v vs =>
      obtain ⟨c4v, c4⟩ := c4
      replace h : (match ee_cn iv x with
        | some z => (match (generalizing := false) ins with
          | .i2b => ee_nx len 1 [(pc + 1, lo, .int z.toInt8.toInt32 :: stk, w, iv, kc, ks, sv)]
          | .i2c => ee_nx len 1 [(pc + 1, lo, .int (z.toUInt32 % 65536).toInt32 :: stk, w, iv, kc, ks, sv)]
          | _ => none)
        | none => (match ee_it iv x with
          | some _ => (match (generalizing := false) ins with
            | .i2b => ee_nx len 1 [(pc + 1, lo, .retAddr iv.length :: stk, w, iv ++ [(-128, 127, none)], kc, ks, sv)]
            | .i2c => ee_nx len 1 [(pc + 1, lo, .retAddr iv.length :: stk, w, iv ++ [(0, 65535, none)], kc, ks, sv)]
            | _ => none)
          | none => none)) = some sts := h
      cases hq : ee_cn iv x with
      | some z =>
        rw [hq] at h
        have hv := ee_cn.int c1 c4v hq
        subst hv
        cases ins with
        | i2b =>
          obtain ⟨rfl, rfl⟩ := ee_nx_some (show ee_nx len 1 _ = some sts from h)
          exact lv_i2b hx hb hd rfl (k _ List.mem_cons_self ns as H lc ls _ ⟨c1, c2, c3, ⟨rfl, c4⟩, c5, c6⟩)
        | i2c =>
          obtain ⟨rfl, rfl⟩ := ee_nx_some (show ee_nx len 1 _ = some sts from h)
          exact lv_i2c hx hb hd rfl (k _ List.mem_cons_self ns as H lc ls _ ⟨c1, c2, c3, ⟨rfl, c4⟩, c5, c6⟩)
        | _ => exact ee_no h
      | none =>
        rw [hq] at h
        simp only at h
        cases hr : ee_it iv x with
        | none => rw [hr] at h; exact ee_no h
        | some q =>
          rw [hr] at h
          obtain ⟨z, rfl, -, -⟩ := ee_it.int c1 c4v hr
          cases ins with
          | i2b =>
            obtain ⟨rfl, rfl⟩ := ee_nx_some (show ee_nx len 1 _ = some sts from h)
            have g := ee_i2b z
            obtain ⟨d1, d2, d3, d4, d5, d6⟩ := ee_Con.grow (s := s) (A := A) (D := D) (dA := dA) (ex := ex) (x0 := x0) (sv0 := sv0) (nL := nL) (lo := lo) (ls := ls) ⟨c1, c2, c3, c4, c5, c6⟩ g.1 g.2 (o := none) (fun _ _ q => by cases q)
            exact lv_i2b hx hb hd rfl (k _ List.mem_cons_self _ as H lc ls _ ⟨d1, d2, d3, ⟨⟨_, c1.last _, rfl⟩, d4⟩, d5, d6⟩)
          | i2c =>
            obtain ⟨rfl, rfl⟩ := ee_nx_some (show ee_nx len 1 _ = some sts from h)
            have g := ee_i2c z
            obtain ⟨d1, d2, d3, d4, d5, d6⟩ := ee_Con.grow (s := s) (A := A) (D := D) (dA := dA) (ex := ex) (x0 := x0) (sv0 := sv0) (nL := nL) (lo := lo) (ls := ls) ⟨c1, c2, c3, c4, c5, c6⟩ g.1 g.2 (o := none) (fun _ _ q => by cases q)
            exact lv_i2c hx hb hd rfl (k _ List.mem_cons_self _ as H lc ls _ ⟨d1, d2, d3, ⟨⟨_, c1.last _, rfl⟩, d4⟩, d5, d6⟩)
          | _ => exact ee_no h
def ee_h11 : ee_H := fun _ _ _ e st => match st with
  | (pc, lo, x :: stk, w, iv, kc, ks, sv) => if ee_cat x = 1 then (match e.2.1 with
      | .dup => ee_nx e.2.2.1 1 [(pc + 1, lo, x :: x :: stk, w, iv, kc, ks, sv)]
      | .pop => ee_nx e.2.2.1 1 [(pc + 1, lo, stk, w, iv, kc, ks, sv)]
      | .dup2 => (match stk with
        | y :: stk => if ee_cat y = 1 then ee_nx e.2.2.1 1 [(pc + 1, lo, x :: y :: x :: y :: stk, w, iv, kc, ks, sv)] else none
        | [] => none)
      | _ => none) else none
  | _ => none
set_option maxHeartbeats 2000000 in
theorem ee_h11.snd : ee_Snd ee_h11 := by
  intro X Y oc own cc ini dm bc bs Q e st sts F ho hi hd he hpc h k
  obtain ⟨p, l, en, R, s, m, args, below, meth, c⟩ := X
  obtain ⟨A, D, dA, ex, x0, sv0, nL⟩ := Y
  obtain ⟨pc, lo, stk, w, iv, kc, ks, sv⟩ := st
  obtain ⟨pc', ins, len, hn, ea, eb, ez⟩ := e
  obtain ⟨hx, hb, hml, hown, hts, hK, hA, hini, hR, hE⟩ := F
  have hpc : pc = pc' := hpc
  subst hpc
  have hd : decode cc pc = .ok (ins, len) := hd
  intro ns as H lc ls vs C
  obtain ⟨c1, c2, c3, c4, c5, c6⟩ := C
  show W p l en R s m args below meth c H lc kc ks Q (F0 m pc ls vs)
  cases stk with
  | nil => exact ee_no h
  | cons x stk =>
    cases vs with
    | nil => exact c4.elim
    | cons v vs =>
      obtain ⟨c4v, c4⟩ := c4
      replace h : (if ee_cat x = 1 then (match (generalizing := false) ins with
        | .dup => ee_nx len 1 [(pc + 1, lo, x :: x :: stk, w, iv, kc, ks, sv)]
        | .pop => ee_nx len 1 [(pc + 1, lo, stk, w, iv, kc, ks, sv)]
        | .dup2 => (match (generalizing := false) stk with
          | y :: stk => if ee_cat y = 1 then ee_nx len 1 [(pc + 1, lo, x :: y :: x :: y :: stk, w, iv, kc, ks, sv)] else none
          | [] => none)
        | _ => none) else none) = some sts := h
      by_cases hc : ee_cat x = 1
      · rw [if_pos hc] at h
        have hc1 : v.category = 1 := by rw [c4v.cat, hc]
        cases ins with
        | dup =>
          obtain ⟨rfl, rfl⟩ := ee_nx_some (show ee_nx len 1 _ = some sts from h)
          exact lv_dup hx hb hd hc1 (k _ List.mem_cons_self ns as H lc ls _ ⟨c1, c2, c3, ⟨c4v, c4v, c4⟩, c5, c6⟩)
        | pop =>
          obtain ⟨rfl, rfl⟩ := ee_nx_some (show ee_nx len 1 _ = some sts from h)
          exact lv_pop hx hb hd hc1 (k _ List.mem_cons_self ns as H lc ls _ ⟨c1, c2, c3, c4, c5, c6⟩)
        | dup2 =>
          cases stk with
          | nil => exact ee_no h
          | cons y stk =>
            cases vs with
            | nil => exact c4.elim
            | cons u vs =>
              obtain ⟨c4u, c4⟩ := c4
              replace h : (if ee_cat y = 1 then ee_nx len 1 [(pc + 1, lo, x :: y :: x :: y :: stk, w, iv, kc, ks, sv)] else none) = some sts := h
              by_cases hy : ee_cat y = 1
              · rw [if_pos hy] at h
                obtain ⟨rfl, rfl⟩ := ee_nx_some h
                exact lv_dup2_11 hx hb hd hc1 (by rw [c4u.cat, hy]) (k _ List.mem_cons_self ns as H lc ls _ ⟨c1, c2, c3, ⟨c4v, c4u, c4v, c4u, c4⟩, c5, c6⟩)
              · rw [if_neg hy] at h
                exact ee_no h
        | _ => exact ee_no h
      · rw [if_neg hc] at h
        exact ee_no h
def ee_ng (c : ClassFile.Cond) : ClassFile.Cond := match c with
  | .eq => .ne
  | .ne => .eq
  | .lt => .ge
  | .ge => .lt
  | .gt => .le
  | .le => .gt
/-- both ways of a comparison -/
def ee_fork (c : ClassFile.Cond) (pc : Nat) (o : Int) (lo : List (Nat × Value)) (stk : List Value) (w : ee_w) (iv : ee_iv) (kc ks : Nat) (sv : List Value) (x y : Value) : Option (List ee_st) := match ee_it iv x, ee_it iv y with
  | some (a, b), some (d, e) => if 0 ≤ (pc : Int) + o then some ((ee_rf c iv x y a b d e).map (fun iv' => (((pc : Int) + o).toNat, lo, stk, w, iv', kc, ks, sv)) ++ (ee_rf (ee_ng c) iv x y a b d e).map (fun iv' => (pc + 3, lo, stk, w, iv', kc, ks, sv))) else none
  | _, _ => none
theorem ee_fork.ok {X : ee_cx} {Y : ee_cy} {Q : State → Prop} {c : ClassFile.Cond} {pc : Nat} {o : Int} {lo : List (Nat × Value)} {stk : List Value} {w : ee_w} {iv : ee_iv} {kc ks : Nat} {sv : List Value} {x y : Value} {sts : List ee_st} (h : ee_fork c pc o lo stk w iv kc ks sv x y = some sts) (k : ∀ q ∈ sts, ee_G X Y Q q) :
    ∃ t : Nat, (pc : Int) + o = t ∧ ∀ (ns : List Int32) (as : List Nat) (vx vy : Value), ee_ok ns iv → ee_v ns as Y.2.2.2.1 x vx → ee_v ns as Y.2.2.2.1 y vy → ∃ p q : Int32, vx = .int p ∧ vy = .int q ∧ (ee_cd c p.toInt q.toInt → ∃ iv', ee_ok ns iv' ∧ ee_G X Y Q (t, lo, stk, w, iv', kc, ks, sv)) ∧ (ee_cd (ee_ng c) p.toInt q.toInt → ∃ iv', ee_ok ns iv' ∧ ee_G X Y Q (pc + 3, lo, stk, w, iv', kc, ks, sv)) := by
  unfold ee_fork at h
  split at h
  · rename_i a b d e h1 h2
    split at h
    · rename_i ht
      cases h
      refine ⟨((pc : Int) + o).toNat, by omega, fun ns as vx vy hk hvx hvy => ?_⟩
      obtain ⟨p, rfl, p1, p2⟩ := ee_it.int hk hvx h1
      obtain ⟨q, rfl, q1, q2⟩ := ee_it.int hk hvy h2
      refine ⟨p, q, rfl, rfl, fun hc => ?_, fun hc => ?_⟩
      · obtain ⟨iv', g1, g2⟩ := ee_rf.ok hk hvx hvy p1 p2 q1 q2 hc
        exact ⟨iv', g2, k _ (List.mem_append_left _ (List.mem_map.mpr ⟨iv', g1, rfl⟩))⟩
      · obtain ⟨iv', g1, g2⟩ := ee_rf.ok hk hvx hvy p1 p2 q1 q2 hc
        exact ⟨iv', g2, k _ (List.mem_append_right _ (List.mem_map.mpr ⟨iv', g1, rfl⟩))⟩
    · cases h
  · cases h
def ee_h12 : ee_H := fun _ _ _ e st => match st with
  | (pc, lo, x :: stk, w, iv, kc, ks, sv) => (match e.2.1 with
      | .ifCond c o => if e.2.2.1 = 3 then ee_fork c pc o lo stk w iv kc ks sv x (.int 0) else none
      | .if_icmp c o => (match stk with
        | y :: stk => if e.2.2.1 = 3 then ee_fork c pc o lo stk w iv kc ks sv y x else none
        | [] => none)
      | _ => none)
  | _ => none
theorem ee_lt (a b : Int32) : a < b ↔ a.toInt < b.toInt := Int32.lt_iff_toInt_lt
theorem ee_le (a b : Int32) : a ≤ b ↔ a.toInt ≤ b.toInt := Int32.le_iff_toInt_le
theorem ee_eq (a b : Int32) : a = b ↔ a.toInt = b.toInt := Int32.toInt_inj.symm
set_option maxHeartbeats 2000000 in
theorem ee_h12.snd : ee_Snd ee_h12 := by
  intro X Y oc own cc ini dm bc bs Q e st sts F ho hi hd he hpc h k
  obtain ⟨p, l, en, R, s, m, args, below, meth, c⟩ := X
  obtain ⟨A, D, dA, ex, x0, sv0, nL⟩ := Y
  obtain ⟨pc, lo, stk, w, iv, kc, ks, sv⟩ := st
  obtain ⟨pc', ins, len, hn, ea, eb, ez⟩ := e
  obtain ⟨hx, hb, hml, hown, hts, hK, hA, hini, hR, hE⟩ := F
  have hpc : pc = pc' := hpc
  subst hpc
  have hd : decode cc pc = .ok (ins, len) := hd
  intro ns as H lc ls vs C
  obtain ⟨c1, c2, c3, c4, c5, c6⟩ := C
  show W p l en R s m args below meth c H lc kc ks Q (F0 m pc ls vs)
  cases stk with
  | nil => exact ee_no h
  | cons x stk =>
    cases vs with
    | nil => exact c4.elim
    | cons v vs =>
      obtain ⟨c4v, c4⟩ := c4
      cases ins with
      | ifCond cd o =>
        replace h : (if len = 3 then ee_fork cd pc o lo stk w iv kc ks sv x (.int 0) else none) = some sts := h
        by_cases hl : len = 3
        · subst hl
          rw [if_pos rfl] at h
          obtain ⟨t, ht, g⟩ := ee_fork.ok (X := (p, l, en, R, s, m, args, below, meth, c)) (Y := (A, D, dA, ex, x0, sv0, nL)) (Q := Q) h k
          obtain ⟨a, b, rfl, eb1, gt, gf⟩ := g ns as v (.int 0) c1 c4v rfl
          cases eb1
          have kt : ee_cd cd a.toInt (0 : Int32).toInt → W p l en R s m args below meth c H lc kc ks Q (F0 m t ls vs) := fun hc => by
            obtain ⟨iv', g1, g2⟩ := gt hc
            exact g2 ns as H lc ls _ ⟨g1, c2, c3, c4, c5, c6⟩
          have kf : ee_cd (ee_ng cd) a.toInt (0 : Int32).toInt → W p l en R s m args below meth c H lc kc ks Q (F0 m (pc + 3) ls vs) := fun hc => by
            obtain ⟨iv', g1, g2⟩ := gf hc
            exact g2 ns as H lc ls _ ⟨g1, c2, c3, c4, c5, c6⟩
          cases cd with
          | eq => exact lv_if_eq hx hb hd ht (fun q => kt ((ee_eq _ _).mp q)) (fun q => kf (fun z => q ((ee_eq _ _).mpr z)))
          | ne => exact lv_if_ne hx hb hd ht (fun q => kt (fun z => q ((ee_eq _ _).mpr z))) (fun q => kf ((ee_eq _ _).mp q))
          | lt => exact lv_if_lt hx hb hd ht (fun q => kt ((ee_lt _ _).mp q)) (fun q => kf (Int.not_lt.mp (fun z => q ((ee_lt _ _).mpr z))))
          | ge => exact lv_if_ge hx hb hd ht (fun q => kt ((ee_le _ _).mp q)) (fun q => kf (Int.not_le.mp (fun z => q ((ee_le _ _).mpr z))))
          | gt => exact lv_if_gt hx hb hd ht (fun q => kt ((ee_lt _ _).mp q)) (fun q => kf (Int.not_lt.mp (fun z => q ((ee_lt _ _).mpr z))))
          | le => exact lv_if_le hx hb hd ht (fun q => kt ((ee_le _ _).mp q)) (fun q => kf (Int.not_le.mp (fun z => q ((ee_le _ _).mpr z))))
        · rw [if_neg hl] at h
          exact ee_no h
      | if_icmp cd o =>
        cases stk with
        | nil => exact ee_no h
        | cons y stk =>
          cases vs with
          | nil => exact c4.elim
          | cons u vs =>
            obtain ⟨c4u, c4⟩ := c4
            replace h : (if len = 3 then ee_fork cd pc o lo stk w iv kc ks sv y x else none) = some sts := h
            by_cases hl : len = 3
            · subst hl
              rw [if_pos rfl] at h
              obtain ⟨t, ht, g⟩ := ee_fork.ok (X := (p, l, en, R, s, m, args, below, meth, c)) (Y := (A, D, dA, ex, x0, sv0, nL)) (Q := Q) h k
              obtain ⟨a, b, rfl, rfl, gt, gf⟩ := g ns as u v c1 c4u c4v
              have kt : ee_cd cd a.toInt b.toInt → W p l en R s m args below meth c H lc kc ks Q (F0 m t ls vs) := fun hc => by
                obtain ⟨iv', g1, g2⟩ := gt hc
                exact g2 ns as H lc ls _ ⟨g1, c2, c3, c4, c5, c6⟩
              have kf : ee_cd (ee_ng cd) a.toInt b.toInt → W p l en R s m args below meth c H lc kc ks Q (F0 m (pc + 3) ls vs) := fun hc => by
                obtain ⟨iv', g1, g2⟩ := gf hc
                exact g2 ns as H lc ls _ ⟨g1, c2, c3, c4, c5, c6⟩
              cases cd with
              | eq => exact lv_icmp_eq hx hb hd ht (fun q => kt ((ee_eq _ _).mp q)) (fun q => kf (fun z => q ((ee_eq _ _).mpr z)))
              | ne => exact lv_icmp_ne hx hb hd ht (fun q => kt (fun z => q ((ee_eq _ _).mpr z))) (fun q => kf ((ee_eq _ _).mp q))
              | lt => exact lv_icmp_lt hx hb hd ht (fun q => kt ((ee_lt _ _).mp q)) (fun q => kf (Int.not_lt.mp (fun z => q ((ee_lt _ _).mpr z))))
              | ge => exact lv_icmp_ge hx hb hd ht (fun q => kt ((ee_le _ _).mp q)) (fun q => kf (Int.not_le.mp (fun z => q ((ee_le _ _).mpr z))))
              | gt => exact lv_icmp_gt hx hb hd ht (fun q => kt ((ee_lt _ _).mp q)) (fun q => kf (Int.not_lt.mp (fun z => q ((ee_lt _ _).mpr z))))
              | le => exact lv_icmp_le hx hb hd ht (fun q => kt ((ee_le _ _).mp q)) (fun q => kf (Int.not_le.mp (fun z => q ((ee_le _ _).mpr z))))
            · rw [if_neg hl] at h
              exact ee_no h
      | _ => exact ee_no h
/-- the states behind a table of places -/
def ee_sw (pc : Nat) (df lw hg : Int) (os : List Int) (lo : List (Nat × Value)) (stk : List Value) (w : ee_w) (iv : ee_iv) (kc ks : Nat) (sv : List Value) (x : Value) (a b : Int) : List ee_st :=
  (if a < lw then [(((pc : Int) + df).toNat, lo, stk, w, ee_put iv x a (ee_mn b (lw - 1)), kc, ks, sv)] else []) ++ ((if hg < b then [(((pc : Int) + df).toNat, lo, stk, w, ee_put iv x (ee_mx a (hg + 1)) b, kc, ks, sv)] else []) ++
  (List.range os.length).flatMap (fun (j : Nat) => if a ≤ lw + j ∧ lw + j ≤ b then [(((pc : Int) + os.getD j 0).toNat, lo, stk, w, ee_put iv x (lw + j) (lw + j), kc, ks, sv)] else []))
def ee_h13 : ee_H := fun _ _ _ e st => match st with
  | (pc, lo, x :: stk, w, iv, kc, ks, sv) => (match e.2.1 with
      | .tableswitch df lw hg os => (match ee_it iv x with
        | some (a, b) => if 0 ≤ (pc : Int) + df ∧ hg - lw + 1 = (os.toList.length : Int) ∧ os.toList.all (fun o => decide (0 ≤ (pc : Int) + o)) = true then some (ee_sw pc df lw hg os.toList lo stk w iv kc ks sv x a b) else none
        | none => none)
      | _ => none)
  | _ => none
set_option maxHeartbeats 2000000 in
theorem ee_h13.snd : ee_Snd ee_h13 := by
  intro X Y oc own cc ini dm bc bs Q e st sts F ho hi hd he hpc h k
  obtain ⟨p, l, en, R, s, m, args, below, meth, c⟩ := X
  obtain ⟨A, D, dA, ex, x0, sv0, nL⟩ := Y
  obtain ⟨pc, lo, stk, w, iv, kc, ks, sv⟩ := st
  obtain ⟨pc', ins, len, hn, ea, eb, ez⟩ := e
  obtain ⟨hx, hb, hml, hown, hts, hK, hA, hini, hR, hE⟩ := F
  have hpc : pc = pc' := hpc
  subst hpc
  have hd : decode cc pc = .ok (ins, len) := hd
  intro ns as H lc ls vs C
  obtain ⟨c1, c2, c3, c4, c5, c6⟩ := C
  show W p l en R s m args below meth c H lc kc ks Q (F0 m pc ls vs)
  cases stk with
  | nil => exact ee_no h
  | cons x stk =>
    cases vs with
    | nil => exact c4.elim
    | cons v vs =>
      obtain ⟨c4v, c4⟩ := c4
      cases ins with
      | tableswitch df lw hg os =>
        replace h : (match ee_it iv x with
          | some (a, b) => if 0 ≤ (pc : Int) + df ∧ hg - lw + 1 = (os.toList.length : Int) ∧ os.toList.all (fun o => decide (0 ≤ (pc : Int) + o)) = true then some (ee_sw pc df lw hg os.toList lo stk w iv kc ks sv x a b) else none
          | none => none) = some sts := h
        cases hq : ee_it iv x with
        | none => rw [hq] at h; exact ee_no h
        | some q =>
          obtain ⟨a, b⟩ := q
          rw [hq] at h
          simp only at h
          by_cases hc : 0 ≤ (pc : Int) + df ∧ hg - lw + 1 = (os.toList.length : Int) ∧ os.toList.all (fun o => decide (0 ≤ (pc : Int) + o)) = true
          · rw [if_pos hc] at h
            cases h
            obtain ⟨z, rfl, z1, z2⟩ := ee_it.int c1 c4v hq
            obtain ⟨hc1, hc2, hc3⟩ := hc
            by_cases h1 : z.toInt < lw
            · refine lv_tableOut hx hb hd (Or.inl h1) (tgt := ((pc : Int) + df).toNat) (by omega) ?_
              refine k _ (List.mem_append_left _ (by rw [if_pos (by omega)]; exact List.mem_cons_self)) ns as H lc ls _ ⟨ee_put.ok (lo := a) (hi := ee_mn b (lw - 1)) c1 c4v z1 (ee_le_mn z2 (by omega)), c2, c3, c4, c5, c6⟩
            · by_cases h2 : hg < z.toInt
              · refine lv_tableOut hx hb hd (Or.inr h2) (tgt := ((pc : Int) + df).toNat) (by omega) ?_
                refine k _ (List.mem_append_right _ (List.mem_append_left _ (by rw [if_pos (by omega)]; exact List.mem_cons_self))) ns as H lc ls _ ⟨ee_put.ok (lo := ee_mx a (hg + 1)) (hi := b) c1 c4v (ee_mx_le z1 (by omega)) z2, c2, c3, c4, c5, c6⟩
              · have hj : (z.toInt - lw).toNat < os.toList.length := by omega
                have ho' : os[(z.toInt - lw).toNat]? = some (os.toList.getD (z.toInt - lw).toNat 0) := by
                  rw [← Array.getElem?_toList, List.getD_eq_getElem?_getD, List.getElem?_eq_getElem hj]; rfl
                have hp := of_decide_eq_true (List.all_eq_true.mp hc3 (os.toList.getD (z.toInt - lw).toNat 0) (by
                  rw [List.getD_eq_getElem?_getD, List.getElem?_eq_getElem hj]
                  exact List.getElem_mem hj))
                refine lv_tableIn hx hb hd h1 h2 ho' (tgt := ((pc : Int) + os.toList.getD (z.toInt - lw).toNat 0).toNat) (by omega) ?_
                refine k _ (List.mem_append_right _ (List.mem_append_right _ (List.mem_flatMap.mpr ⟨(z.toInt - lw).toNat, List.mem_range.mpr hj, by rw [if_pos (by omega)]; exact List.mem_cons_self⟩))) ns as H lc ls _ ⟨ee_put.ok (lo := lw + ((z.toInt - lw).toNat : Nat)) (hi := lw + ((z.toInt - lw).toNat : Nat)) c1 c4v (by omega) (by omega), c2, c3, c4, c5, c6⟩
          · rw [if_neg hc] at h
            exact ee_no h
      | _ => exact ee_no h
end
section
/-! handlers: the heap -/
theorem ee_v.at {ns : List Int32} {as : List Nat} {ex : Nat → Nat} {k : Nat} {a : Nat} (h : ee_v ns as ex (.ref k) (.ref a)) (hk : k < 1000000) : as[k]? = some a := by
  unfold ee_v at h
  simp only [hk, if_true] at h
  obtain ⟨b, h1, h2⟩ := h
  cases h2
  exact h1
theorem ee_v.out {ns : List Int32} {as : List Nat} {ex : Nat → Nat} {k : Nat} {a : Nat} (h : ee_v ns as ex (.ref k) (.ref a)) (hk : ¬ k < 1000000) : a = ex k := by
  unfold ee_v at h
  simp only [hk, if_false] at h
  cases h
  rfl
/-- the cell at a place of the world -/
theorem ee_wr.at {ns : List Int32} {as : List Nat} {ex : Nat → Nat} {dA : Nat → ClassId} {w : ee_w} {ws : va_W} {k a : Nat} {x : ee_cell} (h : ee_wr ns as ex dA w ws) (hk : w[k]? = some x) (ha : as[k]? = some a) : ∃ e, ws[k]? = some (a, e) ∧ ee_c ns as ex dA x e := by
  obtain ⟨⟨b, e⟩, h1, h2⟩ := h.2.get hk
  rw [h.1, List.getElem?_map, h1] at ha
  cases ha
  exact ⟨e, h1, h2⟩
theorem ee_map_set {ws : va_W} {k a : Nat} {e e2 : va_E} (h : ws[k]? = some (a, e)) : (ws.set k (a, e2)).map (fun q => q.1) = ws.map (fun q => q.1) := by
  apply List.ext_getElem?
  intro i
  rw [List.getElem?_map, List.getElem?_map]
  by_cases hi : i = k
  · subst hi
    rw [List.getElem?_set_self (List.getElem?_eq_some_iff.mp h).1, h]; rfl
  · rw [List.getElem?_set_ne (Ne.symm hi)]
theorem ee_wr.set {ns : List Int32} {as : List Nat} {ex : Nat → Nat} {dA : Nat → ClassId} {w : ee_w} {ws : va_W} {k a : Nat} {x : ee_cell} {e e2 : va_E} (h : ee_wr ns as ex dA w ws) (ha : ws[k]? = some (a, e)) (hc : ee_c ns as ex dA x e2) : ee_wr ns as ex dA (w.set k x) (ws.set k (a, e2)) :=
  ⟨by rw [ee_map_set ha]; exact h.1, h.2.set (a := x) (b := (a, e2)) hc⟩
theorem ee_wr.push {ns : List Int32} {as : List Nat} {ex : Nat → Nat} {dA : Nat → ClassId} {w : ee_w} {ws : va_W} {a : Nat} {x : ee_cell} {e : va_E} (h : ee_wr ns as ex dA w ws) (hc : ee_c ns (as ++ [a]) ex dA x e) : ee_wr ns (as ++ [a]) ex dA (w ++ [x]) (ws ++ [(a, e)]) :=
  ⟨by rw [h.1, List.map_append]; rfl, (h.2.imp (fun x q g => by simpa using ee_c.mono [] [a] g)).app ⟨hc, trivial⟩⟩
theorem ee_wr.len {ns : List Int32} {as : List Nat} {ex : Nat → Nat} {dA : Nat → ClassId} {w : ee_w} {ws : va_W} (h : ee_wr ns as ex dA w ws) : as.length = w.length := by
  rw [h.1, List.length_map, h.2.len]
/-- a new cell -/
theorem ee_Con.born {s : State} {A : Nat → Prop} {D : va_G} {dA : Nat → ClassId} {ex : Nat → Nat} {x0 : List Int32} {sv0 : List Value} {nL : Nat} {lo : List (Nat × Value)} {stk : List Value} {w : ee_w} {iv : ee_iv} {sv : List Value} {ns : List Int32} {as : List Nat} {H1 : Heap} {lc : List Loc} {ls : Array Slot} {vs : List Value} {ws : va_W} {a : Nat} {x : ee_cell} {e : va_E}
    (c1 : ee_ok ns iv) (c2 : ∃ r, ns = x0 ++ r) (c3 : ∃ lv, lv_has ls nL lv ∧ ee_all (ee_lr ns as ex) lo lv) (c4 : ee_all (ee_v ns as ex) stk vs) (c5 : ee_all (ee_v ns as ex) sv sv0) (hw : ee_wr ns as ex dA w ws) (hc : ee_c ns (as ++ [a]) ex dA x e) (hP : va_P D vwCl (ws ++ [(a, e)]) H1) (hD : va_D A (ws ++ [(a, e)])) (hS : va_S A s.heap H1 lc) (hl : w.length < 1000000) :
    ee_Con s A D dA ex x0 sv0 nL lo (.ref w.length :: stk) (w ++ [x]) iv sv ns (as ++ [a]) H1 lc ls (.ref a :: vs) := by
  have mv : ∀ x v, ee_v ns as ex x v → ee_v ns (as ++ [a]) ex x v := fun x v q => by simpa using ee_v.mono [] [a] q
  obtain ⟨lv, c3, c3l⟩ := c3
  refine ⟨c1, c2, ⟨lv, c3, c3l.imp (fun x y q => ⟨q.1, mv _ _ q.2⟩)⟩, ⟨?_, c4.imp mv⟩, c5.imp mv, _, hw.push hc, hP, hD, hS⟩
  refine ee_v.inw hl ?_
  rw [← hw.len, List.getElem?_append_right (Nat.le_refl _), Nat.sub_self]; rfl
def ee_h14 : ee_H := fun _ _ _ e st => match st with
  | (pc, lo, .ref k :: stk, w, iv, kc, ks, sv) => (match e.2.1 with
      | .getfield _ => if e.2.2.2.2.2.1 = 0 then (match ee_FL[e.2.2.2.2.1]?, w[k]? with
          | some q, some (.inl (ci, fs)) => (match fs[q.2.2.2.1]? with
            | some x => if k < 1000000 ∧ ci = q.2.2.1 then ee_nx e.2.2.1 3 [(pc + 3, lo, x :: stk, w, iv, kc, ks, sv)] else none
            | none => none)
          | _, _ => none)
        else (match ee_SL[e.2.2.2.2.1]? with
          | some q => if 1000000 ≤ k ∧ k < 1000002 then ee_nx e.2.2.1 3 [(pc + 3, lo, (if q.2.2.1 = 0 then .int 0 else .ref (k + 100)) :: stk, w, iv, kc, ks, sv)] else none
          | none => none)
      | _ => none)
  | _ => none
set_option maxHeartbeats 2000000 in
theorem ee_h14.snd : ee_Snd ee_h14 := by
  intro X Y oc own cc ini dm bc bs Q e st sts F ho hi hd he hpc h k
  obtain ⟨p, l, en, R, s, m, args, below, meth, c⟩ := X
  obtain ⟨A, D, dA, ex, x0, sv0, nL⟩ := Y
  obtain ⟨pc, lo, stk, w, iv, kc, ks, sv⟩ := st
  obtain ⟨pc', ins, len, hn, ea, eb, ez⟩ := e
  obtain ⟨hx, hb, hml, hown, hts, hK, hA, hini, hR, hE⟩ := F
  have hpc : pc = pc' := hpc
  subst hpc
  have hd : decode cc pc = .ok (ins, len) := hd
  intro ns as H lc ls vs C
  obtain ⟨c1, c2, c3, c4, c5, c6⟩ := C
  show W p l en R s m args below meth c H lc kc ks Q (F0 m pc ls vs)
  cases stk with
  | nil => exact ee_no h
  | cons x stk =>
    cases vs with
    | nil => exact c4.elim
    | cons v vs =>
      obtain ⟨c4v, c4⟩ := c4
      cases x with
      | ref j =>
        obtain ⟨a, rfl⟩ := ee_v.ref c4v
        cases ins with
        | getfield i =>
          replace h : (if eb = 0 then (match ee_FL[ea]?, w[j]? with
              | some q, some (.inl (ci, fs)) => (match fs[q.2.2.2.1]? with
                | some x => if j < 1000000 ∧ ci = q.2.2.1 then ee_nx len 3 [(pc + 3, lo, x :: stk, w, iv, kc, ks, sv)] else none
                | none => none)
              | _, _ => none)
            else (match ee_SL[ea]? with
              | some q => if 1000000 ≤ j ∧ j < 1000002 then ee_nx len 3 [(pc + 3, lo, (if q.2.2.1 = 0 then .int 0 else .ref (j + 100)) :: stk, w, iv, kc, ks, sv)] else none
              | none => none)) = some sts := h
          have hee : (if eb = 0 then (match ee_FL[ea]? with
              | some q => decide (q.1 = oc) && decide (q.2.1 = i)
              | none => false) else (match ee_SL[ea]? with
              | some q => decide (q.1 = oc) && decide (q.2.1 = i)
              | none => false)) = true := he
          by_cases h0 : eb = 0
          · rw [if_pos h0] at h hee
            cases hq : ee_FL[ea]? with
            | none => rw [hq] at hee; cases hee
            | some q =>
              rw [hq] at h hee
              simp only at h hee
              obtain ⟨e1, e2⟩ := ee_and hee
              have e1 := of_decide_eq_true e1
              have e2 := of_decide_eq_true e2
              obtain ⟨r, f1, f2, f3, -⟩ := ee_FLok q (List.mem_of_getElem? hq)
              rw [e1, ee_own_ow ho, e2] at f3
              split at h
              · rename_i q0 ci fs hq0 hw
                cases hq0
                cases hf : fs[q.2.2.2.1]? with
                | none => rw [hf] at h; exact ee_no h
                | some x =>
                  rw [hf] at h
                  simp only at h
                  by_cases hc : j < 1000000 ∧ ci = q.2.2.1
                  · rw [if_pos hc] at h
                    obtain ⟨rfl, rfl⟩ := ee_nx_some h
                    obtain ⟨ws, c6w, hP, hD, hS⟩ := c6
                    obtain ⟨ec, g1, vs1, rfl, g3⟩ := c6w.at hw (c4v.at hc.1)
                    obtain ⟨u, g4, g5⟩ := g3.get hf
                    rw [hc.2] at g1
                    obtain ⟨C, T, N⟩ := r
                    exact va_get (C := C) (T := T) (N := N) hx hb hts (ee_kd _ _ f1).1 hown hK hP j g1 f1 q.2.2.2.1 f2 (hts _ f3) (fun _ z => z) g4 hd (k _ List.mem_cons_self ns as H lc ls _ ⟨c1, c2, c3, ⟨g5, c4⟩, c5, ws, c6w, hP, hD, hS⟩)
                  · rw [if_neg hc] at h
                    exact ee_no h
              · exact ee_no h
          · rw [if_neg h0] at h hee
            cases hq : ee_SL[ea]? with
            | none => rw [hq] at hee; cases hee
            | some q =>
              rw [hq] at h hee
              simp only at h hee
              obtain ⟨e1, e2⟩ := ee_and hee
              have e1 := of_decide_eq_true e1
              have e2 := of_decide_eq_true e2
              have f3 := ee_SLok q (List.mem_of_getElem? hq)
              rw [e1, ee_own_ow ho, e2] at f3
              by_cases hc : 1000000 ≤ j ∧ j < 1000002
              · rw [if_pos hc] at h
                obtain ⟨rfl, rfl⟩ := ee_nx_some h
                obtain ⟨hc1, hc2⟩ := hc
                have ha := c4v.out (Nat.not_lt.mpr hc1)
                subst ha
                obtain ⟨ws, c6w, hP, hD, hS⟩ := c6
                obtain ⟨i0, hi0, rfl⟩ : ∃ i0, i0 < 2 ∧ j = 1000000 + i0 := ⟨j - 1000000, Nat.sub_lt_left_of_lt_add hc1 hc2, (Nat.add_sub_of_le hc1).symm⟩
                obtain ⟨g1, g2, g3, g4⟩ := hE.1.1 i0 hi0
                have g3 : va_OF "java/lang/String" "value" "[B" (.ref (ex (1000000 + i0 + 100))) (ex (1000000 + i0)) A s s.heap := by
                  rw [show 1000000 + i0 + 100 = 1000100 + i0 from Nat.add_right_comm 1000000 i0 100]
                  exact g3
                by_cases hz : q.2.2.1 = 0
                · rw [if_pos hz] at k
                  rw [hz] at f3
                  exact vk_getf hx hb g2 hS hown (hts _ f3) (fun _ z => z) hd (k _ List.mem_cons_self ns as H lc ls _ ⟨c1, c2, c3, ⟨rfl, c4⟩, c5, ws, c6w, hP, hD, hS⟩)
                · rw [if_neg hz] at k
                  rw [show ee_sf q.2.2.1 = ("value", "[B") by unfold ee_sf; rw [if_neg hz]] at f3
                  exact vk_getf hx hb g3 hS hown (hts _ f3) (fun _ z => z) hd (k _ List.mem_cons_self ns as H lc ls _ ⟨c1, c2, c3, ⟨ee_v.outs (Nat.not_lt.mpr (Nat.le_trans hc1 (Nat.le_add_right _ _))), c4⟩, c5, ws, c6w, hP, hD, hS⟩)
              · rw [if_neg hc] at h
                exact ee_no h
        | _ => exact ee_no h
      | _ => exact ee_no h
end
section
/-! handlers: fields put, arrays, new cells, statics -/
def ee_fit (tc : Nat) (iv : ee_iv) (x : Value) : Bool := match tc with
  | 0 => (ee_it iv x).isSome
  | 1 => (match ee_it iv x with
    | some (a, b) => decide (0 ≤ a) && decide (b ≤ 1)
    | none => false)
  | 2 => ee_isl x
  | 3 => (match x with
    | .ref _ => true
    | .null => true
    | _ => false)
  | _ => false
theorem ee_01 {z : Int32} (h1 : 0 ≤ z.toInt) (h2 : z.toInt ≤ 1) : z = 0 ∨ z = 1 := by
  by_cases h : z.toInt = 0
  · exact Or.inl (ee_zero (by omega) (by omega))
  · exact Or.inr (Int32.toInt_inj.mp (by rw [show (1 : Int32).toInt = 1 by decide]; omega))
theorem ee_fit.ok {ns : List Int32} {as : List Nat} {ex : Nat → Nat} {iv : ee_iv} {x v : Value} {tc : Nat} {ty : FieldType} (hk : ee_ok ns iv) (hx : ee_v ns as ex x v) (hf : ee_fit tc iv x = true) (ht : ee_tc ty = tc) : narrow ty v = v ∧ fits ty v = true := by
  subst ht
  cases ty with
  | int =>
    have hf : (ee_it iv x).isSome = true := hf
    obtain ⟨q, hq⟩ := Option.isSome_iff_exists.mp hf
    obtain ⟨z, rfl, -, -⟩ := ee_it.int hk hx hq
    exact ⟨rfl, rfl⟩
  | boolean =>
    have hf : (match ee_it iv x with
      | some (a, b) => decide (0 ≤ a) && decide (b ≤ 1)
      | none => false) = true := hf
    cases hq : ee_it iv x with
    | none => rw [hq] at hf; cases hf
    | some q =>
      obtain ⟨a, b⟩ := q
      rw [hq] at hf
      obtain ⟨e1, e2⟩ := ee_and hf
      have e1 := of_decide_eq_true e1
      have e2 := of_decide_eq_true e2
      obtain ⟨z, rfl, z1, z2⟩ := ee_it.int hk hx hq
      rcases ee_01 (z := z) (by omega) (by omega) with rfl | rfl <;> exact ⟨by decide, by decide⟩
  | long =>
    obtain ⟨z, rfl⟩ := ee_isl.ok hx hf
    exact ⟨rfl, rfl⟩
  | object n =>
    cases x with
    | ref j =>
      obtain ⟨a, rfl⟩ := ee_v.ref hx
      exact ⟨rfl, rfl⟩
    | null =>
      cases (show v = .null from hx)
      exact ⟨rfl, rfl⟩
    | _ => cases hf
  | array n =>
    cases x with
    | ref j =>
      obtain ⟨a, rfl⟩ := ee_v.ref hx
      exact ⟨rfl, rfl⟩
    | null =>
      cases (show v = .null from hx)
      exact ⟨rfl, rfl⟩
    | _ => cases hf
  | _ => cases hf
def ee_h15 : ee_H := fun _ _ _ e st => match st with
  | (pc, lo, x :: .ref k :: stk, w, iv, kc, ks, sv) => (match e.2.1 with
      | .putfield _ => (match ee_FL[e.2.2.2.2.1]?, w[k]? with
          | some q, some (.inl (ci, fs)) => if (k < 1000000 ∧ ci = q.2.2.1) ∧ q.2.2.2.1 < fs.length ∧ ee_fit q.2.2.2.2.2 iv x = true then ee_nx e.2.2.1 3 [(pc + 3, lo, stk, w.set k (.inl (ci, fs.set q.2.2.2.1 x)), iv, kc, ks, sv)] else none
          | _, _ => none)
      | _ => none)
  | _ => none
set_option maxHeartbeats 2000000 in
theorem ee_h15.snd : ee_Snd ee_h15 := by
  intro X Y oc own cc ini dm bc bs Q e st sts F ho hi hd he hpc h k
  obtain ⟨p, l, en, R, s, m, args, below, meth, c⟩ := X
  obtain ⟨A, D, dA, ex, x0, sv0, nL⟩ := Y
  obtain ⟨pc, lo, stk, w, iv, kc, ks, sv⟩ := st
  obtain ⟨pc', ins, len, hn, ea, eb, ez⟩ := e
  obtain ⟨hx, hb, hml, hown, hts, hK, hA, hini, hR, hE⟩ := F
  have hpc : pc = pc' := hpc
  subst hpc
  have hd : decode cc pc = .ok (ins, len) := hd
  intro ns as H lc ls vs C
  obtain ⟨c1, c2, c3, c4, c5, c6⟩ := C
  show W p l en R s m args below meth c H lc kc ks Q (F0 m pc ls vs)
  match stk, vs, c4, h with
  | [], _, _, h => exact ee_no h
  | [_], _, _, h => exact ee_no h
  | y :: x :: stk, [], c4, h => exact c4.elim
  | y :: x :: stk, [_], c4, h => exact c4.2.elim
  | x :: y :: stk, vx :: vy :: vs, ⟨cx, cy, c4⟩, h =>
    cases y with
    | ref j =>
      obtain ⟨a, rfl⟩ := ee_v.ref cy
      cases ins with
      | putfield i =>
        replace h : (match ee_FL[ea]?, w[j]? with
          | some q, some (.inl (ci, fs)) => if (j < 1000000 ∧ ci = q.2.2.1) ∧ q.2.2.2.1 < fs.length ∧ ee_fit q.2.2.2.2.2 iv x = true then ee_nx len 3 [(pc + 3, lo, stk, w.set j (.inl (ci, fs.set q.2.2.2.1 x)), iv, kc, ks, sv)] else none
          | _, _ => none) = some sts := h
        have hee : (match ee_FL[ea]? with
          | some q => decide (q.1 = oc) && (decide (q.2.1 = i) && (!ee_ini (pc, ClassFile.Instr.putfield i, len, hn, ea, eb, ez) || decide (q.2.2.1 = oc)))
          | none => false) = true := he
        cases hq : ee_FL[ea]? with
        | none => rw [hq] at hee; cases hee
        | some q =>
          rw [hq] at h hee
          simp only at h hee
          obtain ⟨e1, e2⟩ := ee_and hee
          obtain ⟨e2, e3⟩ := ee_and e2
          have e1 := of_decide_eq_true e1
          have e2 := of_decide_eq_true e2
          obtain ⟨r, f1, f2, f3, ty, f4, f5⟩ := ee_FLok q (List.mem_of_getElem? hq)
          rw [e1, ee_own_ow ho, e2] at f3
          split at h
          · rename_i q0 ci fs hq0 hw
            cases hq0
            by_cases hc : (j < 1000000 ∧ ci = q.2.2.1) ∧ q.2.2.2.1 < fs.length ∧ ee_fit q.2.2.2.2.2 iv x = true
            · rw [if_pos hc] at h
              obtain ⟨rfl, rfl⟩ := ee_nx_some h
              obtain ⟨⟨hc1, hc2⟩, hc3, hc4⟩ := hc
              obtain ⟨ws, c6w, hP, hD, hS⟩ := c6
              obtain ⟨ec, g1, vs1, rfl, g3⟩ := c6w.at hw (cy.at hc1)
              subst hc2
              obtain ⟨n1, n2⟩ := ee_fit.ok c1 cx hc4 f5
              have hlen : q.2.2.2.1 < vs1.length := by rw [← g3.len]; exact hc3
              obtain ⟨C, T, N⟩ := r
              obtain ⟨k1, k2, ty0, k3⟩ := ee_kd _ _ f1
              have next : ∀ (H1 : Heap) (lc1 : List Loc), va_P D vwCl (ws.set j (a, .inr (q.2.2.1, vs1.set q.2.2.2.1 vx))) H1 → va_D A (ws.set j (a, .inr (q.2.2.1, vs1.set q.2.2.2.1 vx))) → va_S A s.heap H1 lc1 → W p l en R s m args below meth c H1 lc1 kc ks Q (F0 m (pc + 3) ls vs) := fun H1 lc1 hP1 hD1 hS1 =>
                k _ List.mem_cons_self ns as H1 lc1 ls _ ⟨c1, c2, c3, c4, c5, _, c6w.set g1 ⟨_, rfl, g3.set cx⟩, hP1, hD1, hS1⟩
              by_cases hf : (T q.2.2.2.1).2.2.2 = true
              · have hi2 : ee_ini (pc, ClassFile.Instr.putfield i, 3, hn, ea, eb, ez) = true := by
                  show (match ee_FL[ea]? with
                    | some q => (match vwCl[q.2.2.1]? with
                      | some r => (r.2.1 q.2.2.2.1).2.2.2
                      | none => false)
                    | none => false) = true
                  rw [hq]
                  simp only
                  rw [f1]
                  exact hf
                have hoc : q.2.2.1 = oc := by
                  rw [hi2] at e3
                  exact of_decide_eq_true (by simpa using e3)
                have hdc : (T q.2.2.2.1).1 = own := by
                  rw [(k3 _ f2).2]
                  have := ee_okn _ _ f1
                  rw [hoc, ho] at this
                  exact (Option.some.inj this).symm
                exact va_putF (C := C) (T := T) (N := N) hx hb hts k1 ty0 (fun z hz => (k3 z hz).1) k2 hown hK hP hD hS j g1 f1 q.2.2.2.1 f2 (hts _ f3) (fun _ z => z) hf (hini (hi hi2)) hdc f4 n1 n2 hlen hd next
              · exact va_put (C := C) (T := T) (N := N) hx hb hts k1 ty0 (fun z hz => (k3 z hz).1) k2 hown hK hP hD hS j g1 f1 q.2.2.2.1 f2 (hts _ f3) (fun _ z => z) (by simpa using hf) f4 n1 n2 hlen hd next
            · rw [if_neg hc] at h
              exact ee_no h
          · exact ee_no h
      | _ => exact ee_no h
    | _ => exact ee_no h
/-- an index that is known and in its row -/
def ee_ix (iv : ee_iv) (i : Value) (n : Nat) : Option Nat := match ee_cn iv i with
  | some z => if 0 ≤ z.toInt ∧ z.toInt < (n : Int) then some z.toInt.toNat else none
  | none => none
theorem ee_ix.ok {ns : List Int32} {as : List Nat} {ex : Nat → Nat} {iv : ee_iv} {i v : Value} {n j : Nat} (hk : ee_ok ns iv) (hv : ee_v ns as ex i v) (h : ee_ix iv i n = some j) : ∃ z : Int32, v = .int z ∧ z.toNatClampNeg = j ∧ j < n ∧ vp_in z n := by
  unfold ee_ix at h
  cases hq : ee_cn iv i with
  | none => rw [hq] at h; cases h
  | some z =>
    rw [hq] at h
    simp only at h
    by_cases hc : 0 ≤ z.toInt ∧ z.toInt < (n : Int)
    · rw [if_pos hc] at h
      cases h
      exact ⟨z, ee_cn.int hk hv hq, rfl, by omega, vp_in_iff.mpr hc⟩
    · rw [if_neg hc] at h
      cases h
/-- an index in its row -/
def ee_ib (iv : ee_iv) (i : Value) (n : Nat) : Bool := match ee_it iv i with
  | some (a, b) => decide (0 ≤ a) && decide (b < (n : Int))
  | none => false
theorem ee_ib.ok {ns : List Int32} {as : List Nat} {ex : Nat → Nat} {iv : ee_iv} {i v : Value} {n : Nat} (hk : ee_ok ns iv) (hv : ee_v ns as ex i v) (h : ee_ib iv i n = true) : ∃ z : Int32, v = .int z ∧ vp_in z n := by
  unfold ee_ib at h
  cases hq : ee_it iv i with
  | none => rw [hq] at h; cases h
  | some q =>
    obtain ⟨a, b⟩ := q
    rw [hq] at h
    obtain ⟨e1, e2⟩ := ee_and h
    have e1 := of_decide_eq_true e1
    have e2 := of_decide_eq_true e2
    obtain ⟨z, rfl, z1, z2⟩ := ee_it.int hk hv hq
    exact ⟨z, rfl, vp_in_iff.mpr ⟨by omega, by omega⟩⟩
/-- an element that is known -/
def ee_rd (lo hi : Int) (ov : List (Nat × Value)) (j : Nat) : Option Value := match ov.lookup j with
  | some x => some x
  | none => if lo = hi then some (.int (Int32.ofInt lo)) else none
theorem ee_rd.ok {ns : List Int32} {as : List Nat} {ex : Nat → Nat} {lo hi : Int} {ov : List (Nat × Value)} {j : Nat} {z : Int32} {x : Value} (hee : ee_el ns as ex lo hi ov j z) (h : ee_rd lo hi ov j = some x) : ee_v ns as ex x (.int z) := by
  unfold ee_rd at h
  unfold ee_el at hee
  cases hq : ov.lookup j with
  | some y =>
    rw [hq] at h hee
    cases h
    exact hee
  | none =>
    rw [hq] at h hee
    simp only at h hee
    by_cases hc : lo = hi
    · rw [if_pos hc] at h
      cases h
      show Value.int z = Value.int (Int32.ofInt lo)
      rw [← show z.toInt = lo by omega, Int32.ofInt_toInt]
    · rw [if_neg hc] at h
      cases h
end
section
/-! handlers: arrays read -/
def ee_h16 : ee_H := fun _ _ _ e st => match st with
  | (pc, lo, .ref k :: stk, w, iv, kc, ks, sv) => (match e.2.1 with
      | .arraylength => if k = 2000000 then ee_nx e.2.2.1 1 [(pc + 1, lo, .retAddr 6 :: stk, w, iv, kc, ks, sv)] else if 1000100 ≤ k ∧ k < 1000102 then ee_nx e.2.2.1 1 [(pc + 1, lo, .int (Int32.ofNat (ee_len.getD (k - 1000100) 0)) :: stk, w, iv, kc, ks, sv)] else (match w[k]? with
        | some (.inr (_, n, _, _, _)) => if k < 1000000 then ee_nx e.2.2.1 1 [(pc + 1, lo, .int (Int32.ofNat n) :: stk, w, iv, kc, ks, sv)] else none
        | _ => none)
      | _ => none)
  | _ => none
theorem ee_x0 {ns x0 : List Int32} {j : Nat} {z : Int32} (h : ∃ r, ns = x0 ++ r) (hz : x0[j]? = some z) : ns[j]? = some z := by
  obtain ⟨r, rfl⟩ := h
  exact ee_get_app hz
/-- an array's cell, whatever its kind -/
theorem ee_c.arr {ns : List Int32} {as : List Nat} {ex : Nat → Nat} {dA : Nat → ClassId} {t n : Nat} {a b : Int} {ov : List (Nat × Value)} {e : va_E} (h : ee_c ns as ex dA (.inr (t, n, a, b, ov)) e) : t < 4 ∧ ∃ y : vp_A, e = .inl (dA t, y) ∧ y.1 = n := by
  unfold ee_c at h
  by_cases ht : t = 3
  · simp only [ht, if_true] at h
    obtain ⟨f, rfl⟩ := h
    exact ⟨by omega, _, by rw [ht], rfl⟩
  · simp only [ht, if_false] at h
    obtain ⟨h0, f, rfl, -⟩ := h
    exact ⟨by omega, _, rfl, rfl⟩
theorem ee_c.ints {ns : List Int32} {as : List Nat} {ex : Nat → Nat} {dA : Nat → ClassId} {t n : Nat} {a b : Int} {ov : List (Nat × Value)} {e : va_E} (h : ee_c ns as ex dA (.inr (t, n, a, b, ov)) e) (ht : t < 3) : ∃ f : Nat → Int32, e = .inl (dA t, n, .inl f) ∧ ∀ j, j < n → ee_el ns as ex a b ov j (f j) := by
  unfold ee_c at h
  simp only [show ¬ t = 3 by omega, if_false] at h
  obtain ⟨-, f, h1, h2⟩ := h
  exact ⟨f, h1, h2⟩
theorem ee_tys_at {dA : Nat → ClassId} {t : Nat} (h : t < 4) : ∃ ty, (ee_tys dA)[t]? = some (dA t, ty) := by
  match t, h with
  | 0, _ => exact ⟨_, rfl⟩
  | 1, _ => exact ⟨_, rfl⟩
  | 2, _ => exact ⟨_, rfl⟩
  | 3, _ => exact ⟨_, rfl⟩
set_option maxHeartbeats 2000000 in
theorem ee_h16.snd : ee_Snd ee_h16 := by
  intro X Y oc own cc ini dm bc bs Q e st sts F ho hi hd he hpc h k
  obtain ⟨p, l, en, R, s, m, args, below, meth, c⟩ := X
  obtain ⟨A, D, dA, ex, x0, sv0, nL⟩ := Y
  obtain ⟨pc, lo, stk, w, iv, kc, ks, sv⟩ := st
  obtain ⟨pc', ins, len, hn, ea, eb, ez⟩ := e
  obtain ⟨hx, hb, hml, hown, hts, hK, hA, hini, hR, hE⟩ := F
  have hpc : pc = pc' := hpc
  subst hpc
  have hd : decode cc pc = .ok (ins, len) := hd
  intro ns as H lc ls vs C
  obtain ⟨c1, c2, c3, c4, c5, c6⟩ := C
  show W p l en R s m args below meth c H lc kc ks Q (F0 m pc ls vs)
  cases stk with
  | nil => exact ee_no h
  | cons x stk =>
    cases vs with
    | nil => exact c4.elim
    | cons v vs =>
      obtain ⟨c4v, c4⟩ := c4
      cases x with
      | ref j =>
        obtain ⟨a, rfl⟩ := ee_v.ref c4v
        cases ins with
        | arraylength =>
          replace h : (if j = 2000000 then ee_nx len 1 [(pc + 1, lo, .retAddr 6 :: stk, w, iv, kc, ks, sv)] else if 1000100 ≤ j ∧ j < 1000102 then ee_nx len 1 [(pc + 1, lo, .int (Int32.ofNat (ee_len.getD (j - 1000100) 0)) :: stk, w, iv, kc, ks, sv)] else (match w[j]? with
            | some (.inr (_, n, _, _, _)) => if j < 1000000 then ee_nx len 1 [(pc + 1, lo, .int (Int32.ofNat n) :: stk, w, iv, kc, ks, sv)] else none
            | _ => none)) = some sts := h
          obtain ⟨ws, c6w, hP, hD, hS⟩ := c6
          by_cases h1 : j = 2000000
          · rw [if_pos h1] at h
            obtain ⟨rfl, rfl⟩ := ee_nx_some h
            subst h1
            have ha := c4v.out (by decide)
            subst ha
            obtain ⟨L, xs, g1, g2, g3, g4, g5, g6⟩ := hE.2.2.2.2
            exact va_slen hx hb g1 g2 g3 hS hd (k _ List.mem_cons_self ns as H lc ls _ ⟨c1, c2, c3, ⟨⟨_, ee_x0 c2 g4, rfl⟩, c4⟩, c5, ws, c6w, hP, hD, hS⟩)
          · rw [if_neg h1] at h
            by_cases h2 : 1000100 ≤ j ∧ j < 1000102
            · rw [if_pos h2] at h
              obtain ⟨rfl, rfl⟩ := ee_nx_some h
              obtain ⟨h21, h22⟩ := h2
              have ha := c4v.out (Nat.not_lt.mpr (Nat.le_trans (by decide) h21))
              subst ha
              obtain ⟨i0, hi0, rfl⟩ : ∃ i0, i0 < 2 ∧ j = 1000100 + i0 := ⟨j - 1000100, Nat.sub_lt_left_of_lt_add h21 h22, (Nat.add_sub_of_le h21).symm⟩
              obtain ⟨-, -, -, g4⟩ := hE.1.1 i0 hi0
              rw [Nat.add_sub_cancel_left] at k
              exact va_tlen hx hb g4 hS rfl hd (k _ List.mem_cons_self ns as H lc ls _ ⟨c1, c2, c3, ⟨rfl, c4⟩, c5, ws, c6w, hP, hD, hS⟩)
            · rw [if_neg h2] at h
              split at h
              · rename_i t n a1 b1 ov hw
                by_cases h3 : j < 1000000
                · rw [if_pos h3] at h
                  obtain ⟨rfl, rfl⟩ := ee_nx_some h
                  obtain ⟨ec, g1, g2⟩ := c6w.at hw (c4v.at h3)
                  obtain ⟨t4, y, rfl, g3⟩ := g2.arr
                  obtain ⟨ty, hty⟩ := ee_tys_at (dA := dA) t4
                  exact va_alen hx hb hK hP j t g1 hty (by rw [g3]) hd (k _ List.mem_cons_self ns as H lc ls _ ⟨c1, c2, c3, ⟨rfl, c4⟩, c5, ws, c6w, hP, hD, hS⟩)
                · rw [if_neg h3] at h
                  exact ee_no h
              · exact ee_no h
        | _ => exact ee_no h
      | _ => exact ee_no h
def ee_h22 : ee_H := fun _ _ _ e st => match st with
  | (pc, lo, i :: .ref k :: stk, w, iv, kc, ks, sv) => (match e.2.1 with
      | .iaload => if k = 2000000 then (match ee_cn iv (.retAddr 6) with
          | some z => (match ee_ix iv i z.toInt.toNat with
            | some j => ee_nx e.2.2.1 1 [(pc + 1, lo, .retAddr j :: stk, w, iv, kc, ks, sv)]
            | none => none)
          | none => none) else (match w[k]? with
          | some (.inr (t, n, a, b, ov)) => if t = 0 ∧ k < 1000000 then (match ee_ix iv i n with
            | some j => (match ee_rd a b ov j with
              | some x => ee_nx e.2.2.1 1 [(pc + 1, lo, x :: stk, w, iv, kc, ks, sv)]
              | none => none)
            | none => if ee_sp iv i ≠ [] then some ((ee_sp iv i).map (fun iv' => (pc, lo, i :: .ref k :: stk, w, iv', kc, ks, sv))) else none) else none
          | _ => none)
      | .baload => if 1000100 ≤ k ∧ k < 1000102 then (match ee_ix iv i (ee_len.getD (k - 1000100) 0) with
          | some j => ee_nx e.2.2.1 1 [(pc + 1, lo, .int ((ee_byt.getD (k - 1000100) []).getD j 0) :: stk, w, iv, kc, ks, sv)]
          | none => none) else (match w[k]? with
          | some (.inr (t, n, a, b, ov)) => if (t = 1 ∨ t = 2) ∧ k < 1000000 then (match ee_ix iv i n with
            | some j => (match ee_rd a b ov j with
              | some x => ee_nx e.2.2.1 1 [(pc + 1, lo, x :: stk, w, iv, kc, ks, sv)]
              | none => none)
            | none => if ee_sp iv i ≠ [] then some ((ee_sp iv i).map (fun iv' => (pc, lo, i :: .ref k :: stk, w, iv', kc, ks, sv))) else none) else none
          | _ => none)
      | .laload => (match w[k]? with
          | some (.inr (t, n, _, _, _)) => if t = 3 ∧ k < 1000000 ∧ ee_ib iv i n = true then ee_nx e.2.2.1 1 [(pc + 1, lo, .long 0 :: stk, w, iv, kc, ks, sv)] else none
          | _ => none)
      | _ => none)
  | _ => none
set_option maxHeartbeats 2000000 in
theorem ee_h22.snd : ee_Snd ee_h22 := by
  intro X Y oc own cc ini dm bc bs Q e st sts F ho hi hd he hpc h k
  obtain ⟨p, l, en, R, s, m, args, below, meth, c⟩ := X
  obtain ⟨A, D, dA, ex, x0, sv0, nL⟩ := Y
  obtain ⟨pc, lo, stk, w, iv, kc, ks, sv⟩ := st
  obtain ⟨pc', ins, len, hn, ea, eb, ez⟩ := e
  obtain ⟨hx, hb, hml, hown, hts, hK, hA, hini, hR, hE⟩ := F
  have hpc : pc = pc' := hpc
  subst hpc
  have hd : decode cc pc = .ok (ins, len) := hd
  intro ns as H lc ls vs C
  obtain ⟨c1, c2, c3, c4, c5, c6⟩ := C
  show W p l en R s m args below meth c H lc kc ks Q (F0 m pc ls vs)
  match stk, vs, c4, h with
  | [], _, _, h => exact ee_no h
  | [_], _, _, h => exact ee_no h
  | y :: x :: stk, [], c4, h => exact c4.elim
  | y :: x :: stk, [_], c4, h => exact c4.2.elim
  | i :: y :: stk, vi :: vy :: vs, ⟨ci, cy, c4⟩, h =>
    cases y with
    | ref j =>
      obtain ⟨a, rfl⟩ := ee_v.ref cy
      obtain ⟨ws, c6w, hP, hD, hS⟩ := c6
      have halve : ee_sp iv i ≠ [] → sts = (ee_sp iv i).map (fun iv' => (pc, lo, i :: .ref j :: stk, w, iv', kc, ks, sv)) → W p l en R s m args below meth c H lc kc ks Q (F0 m pc ls (vi :: .ref a :: vs)) := fun hs hq => by
        obtain ⟨iv', g1, g2⟩ := ee_sp.ok c1 ci hs
        exact k (pc, lo, i :: .ref j :: stk, w, iv', kc, ks, sv) (by rw [hq]; exact List.mem_map.mpr ⟨iv', g1, rfl⟩) ns as H lc ls _ ⟨g2, c2, c3, ⟨ci, cy, c4⟩, c5, ws, c6w, hP, hD, hS⟩
      cases ins with
      | iaload =>
        replace h : (if j = 2000000 then (match ee_cn iv (.retAddr 6) with
          | some z => (match ee_ix iv i z.toInt.toNat with
            | some j => ee_nx len 1 [(pc + 1, lo, .retAddr j :: stk, w, iv, kc, ks, sv)]
            | none => none)
          | none => none) else (match w[j]? with
          | some (.inr (t, n, a, b, ov)) => if t = 0 ∧ j < 1000000 then (match ee_ix iv i n with
            | some z => (match ee_rd a b ov z with
              | some x => ee_nx len 1 [(pc + 1, lo, x :: stk, w, iv, kc, ks, sv)]
              | none => none)
            | none => if ee_sp iv i ≠ [] then some ((ee_sp iv i).map (fun iv' => (pc, lo, i :: .ref j :: stk, w, iv', kc, ks, sv))) else none) else none
          | _ => none)) = some sts := h
        by_cases h1 : j = 2000000
        · rw [if_pos h1] at h
          subst h1
          have ha := cy.out (by decide)
          subst ha
          obtain ⟨L, xs, g1, g2, g3, g4, g5, g6⟩ := hE.2.2.2.2
          cases hq : ee_cn iv (.retAddr 6) with
          | none => rw [hq] at h; exact ee_no h
          | some z =>
            rw [hq] at h
            simp only at h
            have hz0 : ee_v ns as ex (.retAddr 6) (.int (nI L)) := ⟨_, ee_x0 c2 g4, rfl⟩
            have hz : Value.int (nI L) = Value.int z := ee_cn.int c1 hz0 hq
            cases hz
            rw [nI_toInt (by omega), Int.toNat_natCast] at h
            cases hr : ee_ix iv i L with
            | none => rw [hr] at h; exact ee_no h
            | some j =>
              rw [hr] at h
              obtain ⟨rfl, rfl⟩ := ee_nx_some h
              obtain ⟨z, rfl, f1, f2, f3⟩ := ee_ix.ok c1 ci hr
              refine va_sld hx hb g1 g2 g3 hS f3 hd (k _ List.mem_cons_self ns as H lc ls _ ⟨c1, c2, c3, ⟨⟨_, ee_x0 c2 (g6 j f2), by rw [f1]⟩, c4⟩, c5, ws, c6w, hP, hD, hS⟩)
        · rw [if_neg h1] at h
          split at h
          · rename_i t n a1 b1 ov hw
            by_cases h2 : t = 0 ∧ j < 1000000
            · rw [if_pos h2] at h
              obtain ⟨rfl, h3⟩ := h2
              obtain ⟨ec, g1, g2⟩ := c6w.at hw (cy.at h3)
              obtain ⟨f, rfl, g3⟩ := g2.ints (by omega)
              cases hr : ee_ix iv i n with
              | none =>
                rw [hr] at h
                simp only at h
                by_cases hs : ee_sp iv i ≠ []
                · rw [if_pos hs] at h
                  cases h
                  exact halve hs rfl
                · rw [if_neg hs] at h
                  exact ee_no h
              | some z =>
                rw [hr] at h
                simp only at h
                cases hrd : ee_rd a1 b1 ov z with
                | none => rw [hrd] at h; exact ee_no h
                | some x =>
                  rw [hrd] at h
                  obtain ⟨rfl, rfl⟩ := ee_nx_some h
                  obtain ⟨q, rfl, f1, f2, f3⟩ := ee_ix.ok c1 ci hr
                  exact va_iald hx hb hK hP j 0 g1 rfl f3 hd (k _ List.mem_cons_self ns as H lc ls _ ⟨c1, c2, c3, ⟨by rw [f1]; exact ee_rd.ok (g3 z f2) hrd, c4⟩, c5, ws, c6w, hP, hD, hS⟩)
            · rw [if_neg h2] at h
              exact ee_no h
          · exact ee_no h
      | baload =>
        replace h : (if 1000100 ≤ j ∧ j < 1000102 then (match ee_ix iv i (ee_len.getD (j - 1000100) 0) with
          | some z => ee_nx len 1 [(pc + 1, lo, .int ((ee_byt.getD (j - 1000100) []).getD z 0) :: stk, w, iv, kc, ks, sv)]
          | none => none) else (match w[j]? with
          | some (.inr (t, n, a, b, ov)) => if (t = 1 ∨ t = 2) ∧ j < 1000000 then (match ee_ix iv i n with
            | some z => (match ee_rd a b ov z with
              | some x => ee_nx len 1 [(pc + 1, lo, x :: stk, w, iv, kc, ks, sv)]
              | none => none)
            | none => if ee_sp iv i ≠ [] then some ((ee_sp iv i).map (fun iv' => (pc, lo, i :: .ref j :: stk, w, iv', kc, ks, sv))) else none) else none
          | _ => none)) = some sts := h
        by_cases h1 : 1000100 ≤ j ∧ j < 1000102
        · rw [if_pos h1] at h
          obtain ⟨h21, h22⟩ := h1
          have ha := cy.out (Nat.not_lt.mpr (Nat.le_trans (by decide) h21))
          subst ha
          obtain ⟨i0, hi0, rfl⟩ : ∃ i0, i0 < 2 ∧ j = 1000100 + i0 := ⟨j - 1000100, Nat.sub_lt_left_of_lt_add h21 h22, (Nat.add_sub_of_le h21).symm⟩
          obtain ⟨-, -, -, g4⟩ := hE.1.1 i0 hi0
          rw [Nat.add_sub_cancel_left] at h
          cases hr : ee_ix iv i (ee_len.getD i0 0) with
          | none => rw [hr] at h; exact ee_no h
          | some z =>
            rw [hr] at h
            obtain ⟨rfl, rfl⟩ := ee_nx_some h
            obtain ⟨q, rfl, f1, f2, f3⟩ := ee_ix.ok c1 ci hr
            exact va_tb hx hb g4 hS f3 rfl hd (k _ List.mem_cons_self ns as H lc ls _ ⟨c1, c2, c3, ⟨by rw [f1]; rfl, c4⟩, c5, ws, c6w, hP, hD, hS⟩)
        · rw [if_neg h1] at h
          split at h
          · rename_i t n a1 b1 ov hw
            by_cases h2 : (t = 1 ∨ t = 2) ∧ j < 1000000
            · rw [if_pos h2] at h
              obtain ⟨ht, h3⟩ := h2
              obtain ⟨ec, g1, g2⟩ := c6w.at hw (cy.at h3)
              obtain ⟨f, rfl, g3⟩ := g2.ints (by omega)
              cases hr : ee_ix iv i n with
              | none =>
                rw [hr] at h
                simp only at h
                by_cases hs : ee_sp iv i ≠ []
                · rw [if_pos hs] at h
                  cases h
                  exact halve hs rfl
                · rw [if_neg hs] at h
                  exact ee_no h
              | some z =>
                rw [hr] at h
                simp only at h
                cases hrd : ee_rd a1 b1 ov z with
                | none => rw [hrd] at h; exact ee_no h
                | some x =>
                  rw [hrd] at h
                  obtain ⟨rfl, rfl⟩ := ee_nx_some h
                  obtain ⟨q, rfl, f1, f2, f3⟩ := ee_ix.ok c1 ci hr
                  have kk := k _ List.mem_cons_self ns as H lc ls (.int (f q.toNatClampNeg) :: vs) ⟨c1, c2, c3, ⟨by rw [f1]; exact ee_rd.ok (g3 z f2) hrd, c4⟩, c5, ws, c6w, hP, hD, hS⟩
                  rcases ht with rfl | rfl
                  · exact va_bald hx hb hK hP j 1 g1 rfl f3 hd kk
                  · exact va_zald hx hb hK hP j 2 g1 rfl f3 hd kk
            · rw [if_neg h2] at h
              exact ee_no h
          · exact ee_no h
      | laload =>
        replace h : (match w[j]? with
          | some (.inr (t, n, _, _, _)) => if t = 3 ∧ j < 1000000 ∧ ee_ib iv i n = true then ee_nx len 1 [(pc + 1, lo, .long 0 :: stk, w, iv, kc, ks, sv)] else none
          | _ => none) = some sts := h
        split at h
        · rename_i t n a1 b1 ov hw
          by_cases h2 : t = 3 ∧ j < 1000000 ∧ ee_ib iv i n = true
          · rw [if_pos h2] at h
            obtain ⟨rfl, rfl⟩ := ee_nx_some h
            obtain ⟨rfl, h3, h4⟩ := h2
            obtain ⟨ec, g1, g2⟩ := c6w.at hw (cy.at h3)
            unfold ee_c at g2
            simp only [if_true] at g2
            obtain ⟨f, rfl⟩ := g2
            obtain ⟨q, rfl, f3⟩ := ee_ib.ok c1 ci h4
            exact va_lald hx hb hK hP j 3 g1 rfl f3 hd (k _ List.mem_cons_self ns as H lc ls _ ⟨c1, c2, c3, ⟨⟨_, rfl⟩, c4⟩, c5, ws, c6w, hP, hD, hS⟩)
          · rw [if_neg h2] at h
            exact ee_no h
        · exact ee_no h
      | _ => exact ee_no h
    | _ => exact ee_no h
end
section
/-! handlers: arrays written, cells made, statics read -/
theorem ee_el.put {ns : List Int32} {as : List Nat} {ex : Nat → Nat} {a b : Int} {ov : List (Nat × Value)} {f : Nat → Int32} {n j : Nat} {x : Value} {z : Int32} (h : ∀ i, i < n → ee_el ns as ex a b ov i (f i)) (hx : ee_v ns as ex x (.int z)) : ∀ i, i < n → ee_el ns as ex a b ((j, x) :: ov) i (upd f j z i) := by
  intro i hi
  unfold ee_el
  rw [List.lookup_cons]
  by_cases e : i = j
  · subst e
    simp only [beq_self_eq_true, upd, if_true]
    exact hx
  · have e' : (i == j) = false := by simpa using e
    rw [e']
    simp only [upd, e, if_false]
    exact h i hi
theorem ee_byte {x : Int32} (h1 : -128 ≤ x.toInt) (h2 : x.toInt ≤ 127) : vp_nar .byte x = x := by
  rw [vp_nar_byte]
  apply Int32.toInt_inj.mp
  rw [Int8.toInt_toInt32, Int32.toInt_toInt8]
  exact Int.bmod_eq_of_le (by omega) (by omega)
def ee_h17 : ee_H := fun _ _ _ e st => match st with
  | (pc, lo, x :: i :: .ref k :: stk, w, iv, kc, ks, sv) => (match w[k]? with
      | some (.inr (t, n, a, b, ov)) => if k < 1000000 then (match e.2.1 with
        | .iastore => (match ee_ix iv i n with
          | some j => if t = 0 ∧ (ee_it iv x).isSome = true then ee_nx e.2.2.1 1 [(pc + 1, lo, stk, w.set k (.inr (t, n, a, b, (j, x) :: ov)), iv, kc, ks, sv)] else none
          | none => if ee_sp iv i ≠ [] then some ((ee_sp iv i).map (fun iv' => (pc, lo, x :: i :: .ref k :: stk, w, iv', kc, ks, sv))) else none)
        | .bastore => (match ee_ix iv i n, ee_it iv x with
          | some j, some (u, v) => if (t = 1 ∧ -128 ≤ u ∧ v ≤ 127) ∨ (t = 2 ∧ 0 ≤ u ∧ v ≤ 1) then ee_nx e.2.2.1 1 [(pc + 1, lo, stk, w.set k (.inr (t, n, a, b, (j, x) :: ov)), iv, kc, ks, sv)] else none
          | none, _ => if ee_sp iv i ≠ [] then some ((ee_sp iv i).map (fun iv' => (pc, lo, x :: i :: .ref k :: stk, w, iv', kc, ks, sv))) else none
          | _, _ => none)
        | .lastore => if t = 3 ∧ ee_isl x = true ∧ ee_ib iv i n = true then ee_nx e.2.2.1 1 [(pc + 1, lo, stk, w.set k (.inr (t, n, a, b, ov)), iv, kc, ks, sv)] else none
        | _ => none) else none
      | _ => none)
  | _ => none
set_option maxHeartbeats 2000000 in
theorem ee_h17.snd : ee_Snd ee_h17 := by
  intro X Y oc own cc ini dm bc bs Q e st sts F ho hi hd he hpc h k
  obtain ⟨p, l, en, R, s, m, args, below, meth, c⟩ := X
  obtain ⟨A, D, dA, ex, x0, sv0, nL⟩ := Y
  obtain ⟨pc, lo, stk, w, iv, kc, ks, sv⟩ := st
  obtain ⟨pc', ins, len, hn, ea, eb, ez⟩ := e
  obtain ⟨hx, hb, hml, hown, hts, hK, hA, hini, hR, hE⟩ := F
  have hpc : pc = pc' := hpc
  subst hpc
  have hd : decode cc pc = .ok (ins, len) := hd
  intro ns as H lc ls vs C
  obtain ⟨c1, c2, c3, c4, c5, c6⟩ := C
  show W p l en R s m args below meth c H lc kc ks Q (F0 m pc ls vs)
  match stk, vs, c4, h with
  | [], _, _, h => exact ee_no h
  | [_], _, _, h => exact ee_no h
  | [_, _], _, _, h => exact ee_no h
  | _ :: _ :: _ :: _, [], c4, h => exact c4.elim
  | _ :: _ :: _ :: _, [_], c4, h => exact c4.2.elim
  | _ :: _ :: _ :: _, [_, _], c4, h => exact c4.2.2.elim
  | x :: i :: y :: stk, vx :: vi :: vy :: vs, ⟨cx, ci, cy, c4⟩, h =>
    cases y with
    | ref j =>
      obtain ⟨a, rfl⟩ := ee_v.ref cy
      obtain ⟨ws, c6w, hP, hD, hS⟩ := c6
      have halve : ee_sp iv i ≠ [] → sts = (ee_sp iv i).map (fun iv' => (pc, lo, x :: i :: .ref j :: stk, w, iv', kc, ks, sv)) → W p l en R s m args below meth c H lc kc ks Q (F0 m pc ls (vx :: vi :: .ref a :: vs)) := fun hs hq => by
        obtain ⟨iv', g1, g2⟩ := ee_sp.ok c1 ci hs
        exact k (pc, lo, x :: i :: .ref j :: stk, w, iv', kc, ks, sv) (by rw [hq]; exact List.mem_map.mpr ⟨iv', g1, rfl⟩) ns as H lc ls _ ⟨g2, c2, c3, ⟨cx, ci, cy, c4⟩, c5, ws, c6w, hP, hD, hS⟩
      replace h : (match w[j]? with
        | some (.inr (t, n, a, b, ov)) => if j < 1000000 then (match (generalizing := false) ins with
          | .iastore => (match ee_ix iv i n with
            | some z => if t = 0 ∧ (ee_it iv x).isSome = true then ee_nx len 1 [(pc + 1, lo, stk, w.set j (.inr (t, n, a, b, (z, x) :: ov)), iv, kc, ks, sv)] else none
            | none => if ee_sp iv i ≠ [] then some ((ee_sp iv i).map (fun iv' => (pc, lo, x :: i :: .ref j :: stk, w, iv', kc, ks, sv))) else none)
          | .bastore => (match ee_ix iv i n, ee_it iv x with
            | some z, some (u, v) => if (t = 1 ∧ -128 ≤ u ∧ v ≤ 127) ∨ (t = 2 ∧ 0 ≤ u ∧ v ≤ 1) then ee_nx len 1 [(pc + 1, lo, stk, w.set j (.inr (t, n, a, b, (z, x) :: ov)), iv, kc, ks, sv)] else none
            | none, _ => if ee_sp iv i ≠ [] then some ((ee_sp iv i).map (fun iv' => (pc, lo, x :: i :: .ref j :: stk, w, iv', kc, ks, sv))) else none
            | _, _ => none)
          | .lastore => if t = 3 ∧ ee_isl x = true ∧ ee_ib iv i n = true then ee_nx len 1 [(pc + 1, lo, stk, w.set j (.inr (t, n, a, b, ov)), iv, kc, ks, sv)] else none
          | _ => none) else none
        | _ => none) = some sts := h
      split at h
      · rename_i t n a1 b1 ov hw
        by_cases h3 : j < 1000000
        · rw [if_pos h3] at h
          obtain ⟨ec, g1, g2⟩ := c6w.at hw (cy.at h3)
          cases ins with
          | iastore =>
            replace h : (match ee_ix iv i n with
              | some z => if t = 0 ∧ (ee_it iv x).isSome = true then ee_nx len 1 [(pc + 1, lo, stk, w.set j (.inr (t, n, a1, b1, (z, x) :: ov)), iv, kc, ks, sv)] else none
              | none => if ee_sp iv i ≠ [] then some ((ee_sp iv i).map (fun iv' => (pc, lo, x :: i :: .ref j :: stk, w, iv', kc, ks, sv))) else none) = some sts := h
            cases hr : ee_ix iv i n with
            | none =>
              rw [hr] at h
              simp only at h
              by_cases hs : ee_sp iv i ≠ []
              · rw [if_pos hs] at h
                cases h
                exact halve hs rfl
              · rw [if_neg hs] at h
                exact ee_no h
            | some z =>
              rw [hr] at h
              simp only at h
              by_cases hc : t = 0 ∧ (ee_it iv x).isSome = true
              · rw [if_pos hc] at h
                obtain ⟨rfl, rfl⟩ := ee_nx_some h
                obtain ⟨rfl, hi1⟩ := hc
                obtain ⟨q, hq⟩ := Option.isSome_iff_exists.mp hi1
                obtain ⟨u, rfl, -, -⟩ := ee_it.int c1 cx hq
                obtain ⟨zi, rfl, f1, f2, f3⟩ := ee_ix.ok c1 ci hr
                obtain ⟨f, rfl, g3⟩ := g2.ints (by omega)
                refine va_iast hx hb hK hP hD hS j 0 g1 rfl f3 hd (fun H1 lc1 hP1 hD1 hS1 => k _ List.mem_cons_self ns as H1 lc1 ls _ ⟨c1, c2, c3, c4, c5, _, c6w.set g1 ?_, hP1, hD1, hS1⟩)
                rw [f1]
                exact ⟨by omega, _, rfl, ee_el.put g3 cx⟩
              · rw [if_neg hc] at h
                exact ee_no h
          | bastore =>
            replace h : (match ee_ix iv i n, ee_it iv x with
              | some z, some (u, v) => if (t = 1 ∧ -128 ≤ u ∧ v ≤ 127) ∨ (t = 2 ∧ 0 ≤ u ∧ v ≤ 1) then ee_nx len 1 [(pc + 1, lo, stk, w.set j (.inr (t, n, a1, b1, (z, x) :: ov)), iv, kc, ks, sv)] else none
              | none, _ => if ee_sp iv i ≠ [] then some ((ee_sp iv i).map (fun iv' => (pc, lo, x :: i :: .ref j :: stk, w, iv', kc, ks, sv))) else none
              | _, _ => none) = some sts := h
            cases hr : ee_ix iv i n with
            | none =>
              rw [hr] at h
              simp only at h
              by_cases hs : ee_sp iv i ≠ []
              · rw [if_pos hs] at h
                cases h
                exact halve hs rfl
              · rw [if_neg hs] at h
                exact ee_no h
            | some z =>
              rw [hr] at h
              cases hq : ee_it iv x with
              | none => rw [hq] at h; exact ee_no h
              | some q =>
                obtain ⟨u, v⟩ := q
                rw [hq] at h
                simp only at h
                by_cases hc : (t = 1 ∧ -128 ≤ u ∧ v ≤ 127) ∨ (t = 2 ∧ 0 ≤ u ∧ v ≤ 1)
                · rw [if_pos hc] at h
                  obtain ⟨rfl, rfl⟩ := ee_nx_some h
                  obtain ⟨xz, rfl, x1, x2⟩ := ee_it.int c1 cx hq
                  obtain ⟨zi, rfl, f1, f2, f3⟩ := ee_ix.ok c1 ci hr
                  obtain ⟨f, rfl, g3⟩ := g2.ints (by omega)
                  rcases hc with ⟨rfl, hc⟩ | ⟨rfl, hc⟩
                  · refine va_bast hx hb hK hP hD hS j 1 g1 rfl f3 hd (fun H1 lc1 hP1 hD1 hS1 => k _ List.mem_cons_self ns as H1 lc1 ls _ ⟨c1, c2, c3, c4, c5, _, c6w.set g1 ?_, hP1, hD1, hS1⟩)
                    rw [f1, ee_byte (by omega) (by omega)]
                    exact ⟨by omega, _, rfl, ee_el.put g3 cx⟩
                  · refine va_zast hx hb hK hP hD hS j 2 g1 rfl f3 hd (fun H1 lc1 hP1 hD1 hS1 => k _ List.mem_cons_self ns as H1 lc1 ls _ ⟨c1, c2, c3, c4, c5, _, c6w.set g1 ?_, hP1, hD1, hS1⟩)
                    have hb1 : vp_nar .boolean xz = xz := by
                      rcases ee_01 (z := xz) (by omega) (by omega) with rfl | rfl <;> decide
                    rw [f1, hb1]
                    exact ⟨by omega, _, rfl, ee_el.put g3 cx⟩
                · rw [if_neg hc] at h
                  exact ee_no h
          | lastore =>
            replace h : (if t = 3 ∧ ee_isl x = true ∧ ee_ib iv i n = true then ee_nx len 1 [(pc + 1, lo, stk, w.set j (.inr (t, n, a1, b1, ov)), iv, kc, ks, sv)] else none) = some sts := h
            by_cases hc : t = 3 ∧ ee_isl x = true ∧ ee_ib iv i n = true
            · rw [if_pos hc] at h
              obtain ⟨rfl, rfl⟩ := ee_nx_some h
              obtain ⟨rfl, hc1, hc2⟩ := hc
              obtain ⟨u, rfl⟩ := ee_isl.ok cx hc1
              obtain ⟨zi, rfl, f3⟩ := ee_ib.ok c1 ci hc2
              unfold ee_c at g2
              simp only [if_true] at g2
              obtain ⟨f, rfl⟩ := g2
              exact va_last hx hb hK hP hD hS j 3 g1 rfl f3 hd (fun H1 lc1 hP1 hD1 hS1 => k _ List.mem_cons_self ns as H1 lc1 ls _ ⟨c1, c2, c3, c4, c5, _, c6w.set g1 (by unfold ee_c; simp only [if_true]; exact ⟨_, rfl⟩), hP1, hD1, hS1⟩)
            · rw [if_neg hc] at h
              exact ee_no h
          | _ => exact ee_no h
        · rw [if_neg h3] at h
          exact ee_no h
      · exact ee_no h
    | _ => exact ee_no h
def ee_dv (o : Option FieldType) : Value := match o with
  | some ty => defaultValue ty
  | none => .null
def ee_df (r : vw_C) : List Value := (List.range r.2.2).map (fun j => ee_dv (parseFieldDescriptor (r.2.1 j).2.2.1))
def ee_dok (x : Value) : Bool := match x with
  | .int _ => true
  | .long _ => true
  | .null => true
  | _ => false
theorem ee_dok.all {ns : List Int32} {as : List Nat} {ex : Nat → Nat} : ∀ {l : List Value}, l.all ee_dok = true → ee_all (ee_v ns as ex) l l
  | [], _ => trivial
  | x :: l, h => by
    rw [List.all_cons] at h
    obtain ⟨h1, h2⟩ := ee_and h
    refine ⟨?_, ee_dok.all h2⟩
    cases x with
    | int c => rfl
    | long z => exact ⟨z, rfl⟩
    | null => rfl
    | _ => cases h1
def ee_atp (t : ClassFile.ArrayType) : Nat := match t with
  | .int => 0
  | .byte => 1
  | .boolean => 2
  | .long => 3
  | _ => 9
def ee_h18 : ee_H := fun _ bc bs e st => match st with
  | (pc, lo, stk, w, iv, kc, ks, sv) => if w.length < 1000000 ∧ kc + 1 ≤ bc then (match e.2.1 with
      | .new _ => (match ee_NL[e.2.2.2.2.1]? with
        | some q => (match vwCl[q.2.2.1]? with
          | some r => if ks + r.2.2 ≤ bs ∧ (ee_df r).all ee_dok = true then ee_nx e.2.2.1 3 [(pc + 3, lo, .ref w.length :: stk, w ++ [.inl (q.2.2.1, ee_df r)], iv, kc + 1, ks + r.2.2, sv)] else none
          | none => none)
        | none => none)
      | .newarray at' => (match stk with
        | x :: stk => (match ee_cn iv x with
          | some z => if 0 ≤ z.toInt ∧ z.toInt ≤ 100000 ∧ ks + z.toInt.toNat ≤ bs ∧ ee_atp at' < 4 then ee_nx e.2.2.1 2 [(pc + 2, lo, .ref w.length :: stk, w ++ [.inr (ee_atp at', z.toInt.toNat, 0, 0, [])], iv, kc + 1, ks + z.toInt.toNat, sv)] else none
          | none => none)
        | [] => none)
      | _ => none) else none
theorem ee_one {s : State} {D : va_G} {dA : Nat → ClassId} {cA : ClassId} {ty : FieldType} {t : Nat} (h : va_K D vwCl (ee_tys dA ++ [(cA, ty)]) s) (ht : (ee_tys dA)[t]? = some (dA t, ty)) (hp : ∀ C, ty ≠ .object C) : cA = dA t := by
  have h1 := (h.2 4 (cA, ty) rfl).2
  have h2 := (h.2 t (dA t, ty) (ee_get_app ht)).2
  cases ty with
  | object C => exact absurd rfl (hp C)
  | _ =>
    have h1 : s.vm.findClass _ = some cA := h1
    have h2 : s.vm.findClass _ = some (dA t) := h2
    rw [h1] at h2
    exact Option.some.inj h2
theorem ee_el0 {ns : List Int32} {as : List Nat} {ex : Nat → Nat} {n : Nat} : ∀ j, j < n → ee_el ns as ex 0 0 [] j ((fun _ => (0 : Int32)) j) := fun j _ => ⟨show (0 : Int) ≤ (0 : Int32).toInt by decide, show (0 : Int32).toInt ≤ 0 by decide⟩
set_option maxHeartbeats 2000000 in
theorem ee_h18.snd : ee_Snd ee_h18 := by
  intro X Y oc own cc ini dm bc bs Q e st sts F ho hi hd he hpc h k
  obtain ⟨p, l, en, R, s, m, args, below, meth, c⟩ := X
  obtain ⟨A, D, dA, ex, x0, sv0, nL⟩ := Y
  obtain ⟨pc, lo, stk, w, iv, kc, ks, sv⟩ := st
  obtain ⟨pc', ins, len, hn, ea, eb, ez⟩ := e
  obtain ⟨hx, hb, hml, hown, hts, hK, hA, hini, hR, hE⟩ := F
  have hpc : pc = pc' := hpc
  subst hpc
  have hd : decode cc pc = .ok (ins, len) := hd
  intro ns as H lc ls vs C
  obtain ⟨c1, c2, c3, c4, c5, c6⟩ := C
  show W p l en R s m args below meth c H lc kc ks Q (F0 m pc ls vs)
  replace h : (if w.length < 1000000 ∧ kc + 1 ≤ bc then (match (generalizing := false) ins with
      | .new _ => (match ee_NL[ea]? with
        | some q => (match vwCl[q.2.2.1]? with
          | some r => if ks + r.2.2 ≤ bs ∧ (ee_df r).all ee_dok = true then ee_nx len 3 [(pc + 3, lo, .ref w.length :: stk, w ++ [.inl (q.2.2.1, ee_df r)], iv, kc + 1, ks + r.2.2, sv)] else none
          | none => none)
        | none => none)
      | .newarray at' => (match (generalizing := false) stk with
        | x :: stk => (match ee_cn iv x with
          | some z => if 0 ≤ z.toInt ∧ z.toInt ≤ 100000 ∧ ks + z.toInt.toNat ≤ bs ∧ ee_atp at' < 4 then ee_nx len 2 [(pc + 2, lo, .ref w.length :: stk, w ++ [.inr (ee_atp at', z.toInt.toNat, 0, 0, [])], iv, kc + 1, ks + z.toInt.toNat, sv)] else none
          | none => none)
        | [] => none)
      | _ => none) else none) = some sts := h
  by_cases hc : w.length < 1000000 ∧ kc + 1 ≤ bc
  · rw [if_pos hc] at h
    obtain ⟨hwl, hkc⟩ := hc
    obtain ⟨ws, c6w, hP, hD, hS⟩ := c6
    cases ins with
    | new i =>
      replace h : (match ee_NL[ea]? with
        | some q => (match vwCl[q.2.2.1]? with
          | some r => if ks + r.2.2 ≤ bs ∧ (ee_df r).all ee_dok = true then ee_nx len 3 [(pc + 3, lo, Value.ref w.length :: stk, w ++ [.inl (q.2.2.1, ee_df r)], iv, kc + 1, ks + r.2.2, sv)] else none
          | none => none)
        | none => none) = some sts := h
      have hee : (match ee_NL[ea]? with
        | some q => decide (q.1 = oc) && decide (q.2.1 = i)
        | none => false) = true := he
      cases hq : ee_NL[ea]? with
      | none => rw [hq] at hee; cases hee
      | some q =>
        rw [hq] at h hee
        simp only at h hee
        obtain ⟨e1, e2⟩ := ee_and hee
        have e1 := of_decide_eq_true e1
        have e2 := of_decide_eq_true e2
        obtain ⟨r, f1, f2, f3, f4⟩ := ee_NLok q (List.mem_of_getElem? hq)
        rw [e1, ee_own_ow ho, e2] at f2
        rw [f1] at h
        simp only at h
        by_cases hc2 : ks + r.2.2 ≤ bs ∧ (ee_df r).all ee_dok = true
        · rw [if_pos hc2] at h
          obtain ⟨rfl, rfl⟩ := ee_nx_some h
          obtain ⟨C, T, N⟩ := r
          obtain ⟨k1, k2, ty0, k3⟩ := ee_kd _ _ f1
          have hks : ks + N ≤ bs := hc2.1
          refine va_new (C := C) (T := T) (N := N) (fs := ee_df (C, T, N)) hx hb hts k1 ty0 (fun z hz => (k3 z hz).1) hown (hts _ f2) (hts _ f3) (hts _ f4) hK hP hD hS hA f1 (fun j hj => ?_) (Nat.le_trans hkc hR.2.2.1) (Nat.le_trans hks hR.2.2.2) hd (fun q9 H1 hP1 hD1 hS1 => ?_)
          · unfold vp_V ee_df
            rw [List.getD_eq_getElem?_getD, List.getElem?_map, List.getElem?_range hj]
            simp only [Option.map_some, Option.getD_some]
            have h3 := (k3 j hj).1
            rw [show parseFieldDescriptor (((C, T, N) : vw_C).2.1 j).2.2.1 = some (ty0 j) from h3]
            rfl
          · exact k _ List.mem_cons_self ns (as ++ [q9]) H1 lc ls _ (ee_Con.born c1 c2 c3 c4 c5 c6w ⟨_, rfl, ee_dok.all hc2.2⟩ hP1 hD1 hS1 hwl)
        · rw [if_neg hc2] at h
          exact ee_no h
    | newarray at' =>
      cases stk with
      | nil => exact ee_no h
      | cons x stk =>
        cases vs with
        | nil => exact c4.elim
        | cons v vs =>
          obtain ⟨c4v, c4⟩ := c4
          replace h : (match ee_cn iv x with
            | some z => if 0 ≤ z.toInt ∧ z.toInt ≤ 100000 ∧ ks + z.toInt.toNat ≤ bs ∧ ee_atp at' < 4 then ee_nx len 2 [(pc + 2, lo, Value.ref w.length :: stk, w ++ [.inr (ee_atp at', z.toInt.toNat, 0, 0, [])], iv, kc + 1, ks + z.toInt.toNat, sv)] else none
            | none => none) = some sts := h
          cases hq : ee_cn iv x with
          | none => rw [hq] at h; exact ee_no h
          | some z =>
            rw [hq] at h
            simp only at h
            have hv := ee_cn.int c1 c4v hq
            subst hv
            by_cases hc2 : 0 ≤ z.toInt ∧ z.toInt ≤ 100000 ∧ ks + z.toInt.toNat ≤ bs ∧ ee_atp at' < 4
            · rw [if_pos hc2] at h
              obtain ⟨rfl, rfl⟩ := ee_nx_some h
              obtain ⟨z1, z2, z3, z4⟩ := hc2
              have zn : ¬ z < 0 := fun q => by
                have := Int32.lt_iff_toInt_lt.mp q
                rw [Int32.toInt_zero] at this
                omega
              have zc : z.toNatClampNeg = z.toInt.toNat := rfl
              have hcl : kc + 1 ≤ R.cells := Nat.le_trans hkc hR.2.2.1
              have hsl : ks + z.toInt.toNat ≤ R.slots := Nat.le_trans z3 hR.2.2.2
              obtain ⟨a1, a2, a3, a4⟩ := ee_arr
              cases at' with
              | int =>
                refine va_newa (atype := .int) (ty := .int) (a0 := (z.toInt.toNat, .inl (fun _ => 0))) hx hb (hts _ a1) rfl hK hP hD hS hA (fun cA => rfl) zn zc (by show z.toInt.toNat * 4 ≤ _; omega) hcl hsl hd (fun q9 cA H1 hK1 hP1 hD1 hS1 => ?_)
                have hcA := ee_one hK1 (t := 0) rfl (fun _ q => by cases q)
                subst hcA
                exact k _ List.mem_cons_self ns (as ++ [q9]) H1 lc ls _ (ee_Con.born c1 c2 c3 c4 c5 c6w ⟨by decide, _, rfl, ee_el0⟩ hP1 hD1 hS1 hwl)
              | byte =>
                refine va_newa (atype := .byte) (ty := .byte) (a0 := (z.toInt.toNat, .inl (fun _ => 0))) hx hb (hts _ a2) rfl hK hP hD hS hA (fun cA => rfl) zn zc (by show z.toInt.toNat * 1 ≤ _; omega) hcl hsl hd (fun q9 cA H1 hK1 hP1 hD1 hS1 => ?_)
                have hcA := ee_one hK1 (t := 1) rfl (fun _ q => by cases q)
                subst hcA
                exact k _ List.mem_cons_self ns (as ++ [q9]) H1 lc ls _ (ee_Con.born c1 c2 c3 c4 c5 c6w ⟨by decide, _, rfl, ee_el0⟩ hP1 hD1 hS1 hwl)
              | boolean =>
                refine va_newa (atype := .boolean) (ty := .boolean) (a0 := (z.toInt.toNat, .inl (fun _ => 0))) hx hb (hts _ a3) rfl hK hP hD hS hA (fun cA => rfl) zn zc (by show z.toInt.toNat * 1 ≤ _; omega) hcl hsl hd (fun q9 cA H1 hK1 hP1 hD1 hS1 => ?_)
                have hcA := ee_one hK1 (t := 2) rfl (fun _ q => by cases q)
                subst hcA
                exact k _ List.mem_cons_self ns (as ++ [q9]) H1 lc ls _ (ee_Con.born c1 c2 c3 c4 c5 c6w ⟨by decide, _, rfl, ee_el0⟩ hP1 hD1 hS1 hwl)
              | long =>
                refine va_newa (atype := .long) (ty := .long) (a0 := (z.toInt.toNat, .inr (.inl (fun _ => 0)))) hx hb (hts _ a4) rfl hK hP hD hS hA (fun cA => rfl) zn zc (by show z.toInt.toNat * 8 ≤ _; omega) hcl hsl hd (fun q9 cA H1 hK1 hP1 hD1 hS1 => ?_)
                have hcA := ee_one hK1 (t := 3) rfl (fun _ q => by cases q)
                subst hcA
                exact k _ List.mem_cons_self ns (as ++ [q9]) H1 lc ls _ (ee_Con.born c1 c2 c3 c4 c5 c6w ⟨_, rfl⟩ hP1 hD1 hS1 hwl)
              | _ => exact absurd z4 (by decide)
            · rw [if_neg hc2] at h
              exact ee_no h
    | _ => exact ee_no h
  · rw [if_neg hc] at h
    exact ee_no h
def ee_h19 : ee_H := fun _ _ _ e st => match st with
  | (pc, lo, stk, w, iv, kc, ks, sv) => (match e.2.1 with
      | .getstatic _ => if e.2.2.2.2.2.1 = 0 then (match ee_ZL[e.2.2.2.2.1]? with
        | some q => ee_nx e.2.2.1 3 [(pc + 3, lo, (if q.2.2.1 = 0 then .int 1 else .float 0) :: stk, w, iv, kc, ks, sv)]
        | none => none) else none
      | _ => none)
set_option maxHeartbeats 2000000 in
theorem ee_h19.snd : ee_Snd ee_h19 := by
  intro X Y oc own cc ini dm bc bs Q e st sts F ho hi hd he hpc h k
  obtain ⟨p, l, en, R, s, m, args, below, meth, c⟩ := X
  obtain ⟨A, D, dA, ex, x0, sv0, nL⟩ := Y
  obtain ⟨pc, lo, stk, w, iv, kc, ks, sv⟩ := st
  obtain ⟨pc', ins, len, hn, ea, eb, ez⟩ := e
  obtain ⟨hx, hb, hml, hown, hts, hK, hA, hini, hR, hE⟩ := F
  have hpc : pc = pc' := hpc
  subst hpc
  have hd : decode cc pc = .ok (ins, len) := hd
  intro ns as H lc ls vs C
  obtain ⟨c1, c2, c3, c4, c5, c6⟩ := C
  show W p l en R s m args below meth c H lc kc ks Q (F0 m pc ls vs)
  cases ins with
  | getstatic i =>
    replace h : (if eb = 0 then (match ee_ZL[ea]? with
        | some q => ee_nx len 3 [(pc + 3, lo, (if q.2.2.1 = 0 then .int 1 else .float 0) :: stk, w, iv, kc, ks, sv)]
        | none => none) else none) = some sts := h
    have hee : (if eb = 0 then (match ee_ZL[ea]? with
        | some q => decide (q.1 = oc) && decide (q.2.1 = i)
        | none => false) else true) = true := he
    by_cases h0 : eb = 0
    · rw [if_pos h0] at h hee
      cases hq : ee_ZL[ea]? with
      | none => rw [hq] at hee; cases hee
      | some q =>
        rw [hq] at h hee
        simp only at h hee
        obtain ⟨e1, e2⟩ := ee_and hee
        have e1 := of_decide_eq_true e1
        have e2 := of_decide_eq_true e2
        have f3 := ee_ZLok q (List.mem_of_getElem? hq)
        rw [e1, ee_own_ow ho, e2] at f3
        obtain ⟨rfl, rfl⟩ := ee_nx_some h
        obtain ⟨ws, c6w, hP, hD, hS⟩ := c6
        by_cases hz : q.2.2.1 = 0
        · rw [if_pos hz] at k
          rw [hz] at f3
          exact va_gets hx hb hE.2.2.1 hS hown (hts _ f3) (fun _ z => z) hd (k _ List.mem_cons_self ns as H lc ls _ ⟨c1, c2, c3, ⟨rfl, c4⟩, c5, ws, c6w, hP, hD, hS⟩)
        · rw [if_neg hz] at k
          rw [show ee_zf q.2.2.1 = ("jdk/internal/util/Preconditions", "SIOOBE_FORMATTER", "Ljava/util/function/BiFunction;") by unfold ee_zf; rw [if_neg hz]] at f3
          rcases hE.2.2.2.1 with g | ⟨t, g⟩
          · exact va_gets hx hb g hS hown (hts _ f3) (fun _ z => z) hd (k _ List.mem_cons_self ns as H lc ls _ ⟨c1, c2, c3, ⟨Or.inl rfl, c4⟩, c5, ws, c6w, hP, hD, hS⟩)
          · exact va_gets hx hb g hS hown (hts _ f3) (fun _ z => z) hd (k _ List.mem_cons_self ns as H lc ls _ ⟨c1, c2, c3, ⟨Or.inr ⟨t, rfl⟩, c4⟩, c5, ws, c6w, hP, hD, hS⟩)
    · rw [if_neg h0] at h
      exact ee_no h
  | _ => exact ee_no h
end
section
/-! the handler of Object's constructor and of arraycopy -/
def ee_cpl (a b : Int) (ov : List (Nat × Value)) (sp dp : Nat) : Nat → Option (List (Nat × Value))
  | 0 => some []
  | n + 1 => match ee_rd a b ov (sp + n), ee_cpl a b ov sp dp n with
    | some x, some l => some ((dp + n, x) :: l)
    | _, _ => none
theorem ee_cpl.out {a b : Int} {ov : List (Nat × Value)} {sp dp : Nat} : ∀ {n : Nat} {l : List (Nat × Value)} {j : Nat}, ee_cpl a b ov sp dp n = some l → (j < dp ∨ dp + n ≤ j) → l.lookup j = none
  | 0, l, j, h, _ => by cases h; rfl
  | n + 1, l, j, h, hj => by
    unfold ee_cpl at h
    split at h
    · rename_i x l' h1 h2
      cases h
      rw [List.lookup_cons]
      have e : (j == dp + n) = false := by simp; omega
      rw [e]
      exact ee_cpl.out h2 (by omega)
    · cases h
theorem ee_cpl.in {a b : Int} {ov : List (Nat × Value)} {sp dp : Nat} : ∀ {n : Nat} {l : List (Nat × Value)} {j : Nat}, ee_cpl a b ov sp dp n = some l → dp ≤ j → j < dp + n → ∃ x, l.lookup j = some x ∧ ee_rd a b ov (sp + (j - dp)) = some x
  | 0, l, j, h, h1, h2 => by omega
  | n + 1, l, j, h, h3, h4 => by
    unfold ee_cpl at h
    split at h
    · rename_i x l' h1 h2
      cases h
      rw [List.lookup_cons]
      by_cases e : j = dp + n
      · subst e
        simp only [beq_self_eq_true]
        exact ⟨x, rfl, by rw [show dp + n - dp = n by omega]; exact h1⟩
      · have e' : (j == dp + n) = false := by simpa using e
        rw [e']
        exact ee_cpl.in h2 h3 (by omega)
    · cases h
theorem ee_lookup_app {α : Type} {l r : List (Nat × α)} {j : Nat} : (l ++ r).lookup j = match l.lookup j with
    | some x => some x
    | none => r.lookup j := by
  induction l with
  | nil => rfl
  | cons p l ih =>
    obtain ⟨i, x⟩ := p
    rw [List.cons_append, List.lookup_cons, List.lookup_cons]
    cases h : j == i with
    | true => rfl
    | false => exact ih
theorem ee_cpl.ok {ns : List Int32} {as : List Nat} {ex : Nat → Nat} {a b a2 b2 : Int} {ov ov2 l : List (Nat × Value)} {sp dp n n0 n1 : Nat} {f g : Nat → Int32} (h : ee_cpl a b ov sp dp n = some l) (hf : ∀ j, j < n0 → ee_el ns as ex a b ov j (f j)) (hg : ∀ j, j < n1 → ee_el ns as ex a2 b2 ov2 j (g j)) (h4 : sp + n ≤ n0) : ∀ j, j < n1 → ee_el ns as ex a2 b2 (l ++ ov2) j (va_cpy f g sp dp n j) := by
  intro j hj
  unfold ee_el
  rw [ee_lookup_app]
  by_cases hc : dp ≤ j ∧ j < dp + n
  · obtain ⟨x, e1, e2⟩ := ee_cpl.in h hc.1 hc.2
    rw [e1]
    simp only
    rw [pk_cpy_in hc.1 hc.2]
    exact ee_rd.ok (hf _ (by omega)) e2
  · rw [ee_cpl.out h (by omega)]
    simp only
    rw [pk_cpy_out (by omega)]
    exact hg j hj
def ee_a5 (stk : List Value) : Option (Value × Value × Nat × Value × Nat × List Value) := match stk with
  | n :: dp :: .ref b :: sp :: .ref a :: r => some (n, dp, b, sp, a, r)
  | _ => none
theorem ee_a5.ok {stk r : List Value} {n dp sp : Value} {a b : Nat} (h : ee_a5 stk = some (n, dp, b, sp, a, r)) : stk = n :: dp :: .ref b :: sp :: .ref a :: r := by
  unfold ee_a5 at h
  split at h
  · cases h
    rfl
  · cases h
theorem ee_all.cons {α β : Type} {R : α → β → Prop} {a : α} {l : List α} {k : List β} (h : ee_all R (a :: l) k) : ∃ b k', k = b :: k' ∧ R a b ∧ ee_all R l k' := by
  cases k with
  | nil => exact h.elim
  | cons b k => exact ⟨b, k, rfl, h.1, h.2⟩
def ee_h20 : ee_H := fun _ _ _ e st => match st with
  | (pc, lo, stk, w, iv, kc, ks, sv) => (match e.2.1 with
      | .invokespecial _ => (match stk with
        | .ref _ :: stk => if e.2.2.2.2.2.1 = 1 ∧ (stk.map ee_cat).sum ≤ 8 then ee_nx e.2.2.1 3 [(pc + 3, lo, stk, w, iv, kc, ks, sv)] else none
        | _ => none)
      | .invokestatic _ => (match ee_a5 stk with
        | some (n, dp, b, sp, a, stk) => if (e.2.2.2.2.2.1 = 2 ∧ (stk.map ee_cat).sum ≤ 8) ∧ a < 1000000 ∧ b < 1000000 then (match w[a]?, w[b]? with
          | some (.inr (t0, n0, a0, b0, ov0)), some (.inr (t1, n1, a1, b1, ov1)) => (match ee_ix iv n (n0 + 1), ee_ix iv sp (n0 + 1), ee_ix iv dp (n1 + 1) with
            | some cn, some cs, some cd => if (t0 = 0 ∧ t1 = 0) ∧ cs + cn ≤ n0 ∧ cd + cn ≤ n1 then (match ee_cpl a0 b0 ov0 cs cd cn with
              | some l => ee_nx e.2.2.1 3 [(pc + 3, lo, stk, w.set b (.inr (t1, n1, a1, b1, l ++ ov1)), iv, kc, ks, sv)]
              | none => none) else none
            | _, _, _ => none)
          | _, _ => none) else none
        | none => none)
      | _ => none)
theorem ee_cats {ns : List Int32} {as : List Nat} {ex : Nat → Nat} : ∀ {stk vs : List Value}, ee_all (ee_v ns as ex) stk vs → (vs.map fun v => v.category) = stk.map ee_cat
  | [], [], _ => rfl
  | x :: stk, v :: vs, h => by
    rw [List.map_cons, List.map_cons, ee_cats h.2, h.1.cat]
  | [], _ :: _, h => h.elim
  | _ :: _, [], h => h.elim
set_option maxHeartbeats 2000000 in
theorem ee_h20.snd : ee_Snd ee_h20 := by
  intro X Y oc own cc ini dm bc bs Q e st sts F ho hi hd he hpc h k
  obtain ⟨p, l, en, R, s, m, args, below, meth, c⟩ := X
  obtain ⟨A, D, dA, ex, x0, sv0, nL⟩ := Y
  obtain ⟨pc, lo, stk, w, iv, kc, ks, sv⟩ := st
  obtain ⟨pc', ins, len, hn, ea, eb, ez⟩ := e
  obtain ⟨hx, hb, hml, hown, hts, hK, hA, hini, hR, hE⟩ := F
  have hpc : pc = pc' := hpc
  subst hpc
  have hd : decode cc pc = .ok (ins, len) := hd
  intro ns as H lc ls vs C
  obtain ⟨c1, c2, c3, c4, c5, c6⟩ := C
  show W p l en R s m args below meth c H lc kc ks Q (F0 m pc ls vs)
  cases ins with
  | invokespecial i =>
    cases stk with
    | nil => exact ee_no h
    | cons x stk =>
      cases vs with
      | nil => exact c4.elim
      | cons v vs =>
        obtain ⟨c4v, c4⟩ := c4
        cases x with
        | ref j =>
          obtain ⟨a, rfl⟩ := ee_v.ref c4v
          replace h : (if eb = 1 ∧ (stk.map ee_cat).sum ≤ 8 then ee_nx len 3 [(pc + 3, lo, stk, w, iv, kc, ks, sv)] else none) = some sts := h
          have hee : (if eb = 0 then (match ee_CL[ea]? with
            | some q => decide (q.1 = oc) && (decide (q.2.1 = i) && decide (q.2.2.2.1 = 2))
            | none => false) else if eb = 1 then (match ee_OL[ea]? with
            | some q => decide (q.1 = oc) && decide (q.2.1 = i)
            | none => false) else true) = true := he
          by_cases hc : eb = 1 ∧ (stk.map ee_cat).sum ≤ 8
          · rw [if_pos hc] at h
            obtain ⟨rfl, rfl⟩ := ee_nx_some h
            rw [if_neg (by omega), if_pos hc.1] at hee
            cases hq : ee_OL[ea]? with
            | none => rw [hq] at hee; cases hee
            | some q =>
              rw [hq] at hee
              obtain ⟨e1, e2⟩ := ee_and hee
              have e1 := of_decide_eq_true e1
              have e2 := of_decide_eq_true e2
              have hm := ee_OLok q (List.mem_of_getElem? hq)
              rw [e1, ee_own_ow ho, e2] at hm
              obtain ⟨lv, c3, c3l⟩ := c3
              refine W.objInit hx hb hown (hts _ hm) (hts _ ee_obj.1) (hts _ ee_obj.2) rfl (by rw [hml]; exact c3.1) rfl hd (by omega) ?_ (k _ List.mem_cons_self ns as H lc ls _ ⟨c1, c2, ⟨lv, c3, c3l⟩, c4, c5, c6⟩)
              have hs := hc.2
              rw [← ee_cats c4] at hs
              have := lv_room (m := m) (pc := pc) (ls := ls) (rest := Value.ref a :: vs) hs
              omega
          · rw [if_neg hc] at h
            exact ee_no h
        | _ => exact ee_no h
  | invokestatic i =>
    replace h : (match ee_a5 stk with
        | some (n, dp, b, sp, a, stk) => if (eb = 2 ∧ (stk.map ee_cat).sum ≤ 8) ∧ a < 1000000 ∧ b < 1000000 then (match w[a]?, w[b]? with
          | some (.inr (t0, n0, a0, b0, ov0)), some (.inr (t1, n1, a1, b1, ov1)) => (match ee_ix iv n (n0 + 1), ee_ix iv sp (n0 + 1), ee_ix iv dp (n1 + 1) with
            | some cn, some cs, some cd => if (t0 = 0 ∧ t1 = 0) ∧ cs + cn ≤ n0 ∧ cd + cn ≤ n1 then (match ee_cpl a0 b0 ov0 cs cd cn with
              | some l => ee_nx len 3 [(pc + 3, lo, stk, w.set b (.inr (t1, n1, a1, b1, l ++ ov1)), iv, kc, ks, sv)]
              | none => none) else none
            | _, _, _ => none)
          | _, _ => none) else none
        | none => none) = some sts := h
    cases h5 : ee_a5 stk with
    | none => rw [h5] at h; exact ee_no h
    | some t5 =>
      obtain ⟨n, dp, b, sp, a, stk2⟩ := t5
      rw [h5] at h
      simp only at h
      have e5 := ee_a5.ok h5
      subst e5
      obtain ⟨vn, vs1, rfl, cn0, c4a⟩ := c4.cons
      obtain ⟨vd, vs2, rfl, cd0, c4b⟩ := c4a.cons
      obtain ⟨vb, vs3, rfl, cb0, c4c⟩ := c4b.cons
      obtain ⟨vsp, vs4, rfl, cs0, c4d⟩ := c4c.cons
      obtain ⟨va, vs, rfl, ca0, c4e⟩ := c4d.cons
      obtain ⟨ab, rfl⟩ := ee_v.ref cb0
      obtain ⟨aa, rfl⟩ := ee_v.ref ca0
      have hee : (if eb = 0 then (match ee_CL[ea]? with
        | some q => decide (q.1 = oc) && (decide (q.2.1 = i) && decide (q.2.2.2.1 = 1))
        | none => false) else if eb = 2 then (match ee_AL[ea]? with
        | some q => decide (q.1 = oc) && decide (q.2.1 = i)
        | none => false) else if eb = 3 ∨ eb = 4 then (match ee_XL[ea]? with
        | some q => decide (q.1 = oc) && (decide (q.2.1 = i) && decide (q.2.2.1 = eb))
        | none => false) else true) = true := he
      by_cases hc : (eb = 2 ∧ (stk2.map ee_cat).sum ≤ 8) ∧ a < 1000000 ∧ b < 1000000
      · rw [if_pos hc] at h
        obtain ⟨⟨hc1, hc2⟩, hc3, hc4⟩ := hc
        rw [if_neg (by omega), if_pos hc1] at hee
        cases hq : ee_AL[ea]? with
        | none => rw [hq] at hee; cases hee
        | some q =>
          rw [hq] at hee
          obtain ⟨e1, e2⟩ := ee_and hee
          have e1 := of_decide_eq_true e1
          have e2 := of_decide_eq_true e2
          have hm := ee_ALok q (List.mem_of_getElem? hq)
          rw [e1, ee_own_ow ho, e2] at hm
          split at h
          · rename_i t0 n0 a0 b0 ov0 t1 n1 a1 b1 ov1 hw0 hw1
            split at h
            · rename_i xn xs xd hn1 hn2 hn3
              by_cases hc5 : (t0 = 0 ∧ t1 = 0) ∧ xs + xn ≤ n0 ∧ xd + xn ≤ n1
              · rw [if_pos hc5] at h
                obtain ⟨⟨rfl, rfl⟩, g5, g6⟩ := hc5
                cases hl : ee_cpl a0 b0 ov0 xs xd xn with
                | none => rw [hl] at h; exact ee_no h
                | some l =>
                  rw [hl] at h
                  obtain ⟨rfl, rfl⟩ := ee_nx_some h
                  obtain ⟨zn, rfl, f1, f2, f3⟩ := ee_ix.ok c1 cn0 hn1
                  obtain ⟨zs, rfl, f4, f5, f6⟩ := ee_ix.ok c1 cs0 hn2
                  obtain ⟨zd, rfl, f7, f8, f9⟩ := ee_ix.ok c1 cd0 hn3
                  obtain ⟨lv, c3, c3l⟩ := c3
                  obtain ⟨ws, c6w, hP, hD, hS⟩ := c6
                  obtain ⟨ec0, p1, p2⟩ := c6w.at hw0 (ca0.at hc3)
                  obtain ⟨ec1, p3, p4⟩ := c6w.at hw1 (cb0.at hc4)
                  obtain ⟨f, rfl, p5⟩ := p2.ints (by omega)
                  obtain ⟨g, rfl, p6⟩ := p4.ints (by omega)
                  subst f1
                  subst f4
                  subst f7
                  refine va_copyi hx hb (by rw [hml]; exact c3.1.symm) hown (hts _ hm) (hts _ ee_cpy.1) (hts _ ee_cpy.2.1) (hts _ ee_cpy.2.2) hK hP hD hS a b 0 0 p1 p3 rfl rfl rfl (fun z => f6 (Or.inl z)) (fun z => f9 (Or.inl z)) (fun z => f3 (Or.inl z)) g5 g6 (fun _ _ => rfl) (by omega) ?_ hd (fun H1 lc1 hP1 hD1 hS1 => k _ List.mem_cons_self ns as H1 lc1 ls _ ⟨c1, c2, ⟨lv, c3, c3l⟩, c4e, c5, _, c6w.set p3 ⟨by omega, _, rfl, ee_cpl.ok hl p5 p6 g5⟩, hP1, hD1, hS1⟩)
                  rw [ee_cats c4e]
                  have : nativeFrameWords "java/lang/System" "arraycopy" 5 = 7 := by decide +kernel
                  omega
              · rw [if_neg hc5] at h
                exact ee_no h
            · exact ee_no h
          · exact ee_no h
      · rw [if_neg hc] at h
        exact ee_no h
  | _ => exact ee_no h
end
section
/-! the handler of Math.min and Math.max -/
def ee_mm (k : Nat) (x y : Int32) : Int32 := if k = 3 then (if y < x then y else x) else (if x < y then y else x)
def ee_mb (k : Nat) (a b d e : Int) : Int × Int := if k = 3 then (ee_mn a d, ee_mn b e) else (ee_mx a d, ee_mx b e)
theorem ee_mb.ok {k : Nat} {a b d e : Int} {x y : Int32} (h1 : a ≤ x.toInt) (h2 : x.toInt ≤ b) (h3 : d ≤ y.toInt) (h4 : y.toInt ≤ e) : (ee_mb k a b d e).1 ≤ (ee_mm k x y).toInt ∧ (ee_mm k x y).toInt ≤ (ee_mb k a b d e).2 := by
  unfold ee_mb ee_mm ee_mn ee_mx
  by_cases hk : k = 3
  · rw [if_pos hk, if_pos hk]
    by_cases hc : y < x
    · rw [if_pos hc]
      have := (ee_lt y x).mp hc
      refine ⟨?_, ?_⟩
      · show (if a ≤ d then a else d) ≤ y.toInt
        split <;> omega
      · show y.toInt ≤ (if b ≤ e then b else e)
        split <;> omega
    · rw [if_neg hc]
      have : ¬ y.toInt < x.toInt := fun q => hc ((ee_lt y x).mpr q)
      refine ⟨?_, ?_⟩
      · show (if a ≤ d then a else d) ≤ x.toInt
        split <;> omega
      · show x.toInt ≤ (if b ≤ e then b else e)
        split <;> omega
  · rw [if_neg hk, if_neg hk]
    by_cases hc : x < y
    · rw [if_pos hc]
      have := (ee_lt x y).mp hc
      refine ⟨?_, ?_⟩
      · show (if a ≤ d then d else a) ≤ y.toInt
        split <;> omega
      · show y.toInt ≤ (if b ≤ e then e else b)
        split <;> omega
    · rw [if_neg hc]
      have : ¬ x.toInt < y.toInt := fun q => hc ((ee_lt x y).mpr q)
      refine ⟨?_, ?_⟩
      · show (if a ≤ d then d else a) ≤ x.toInt
        split <;> omega
      · show x.toInt ≤ (if b ≤ e then e else b)
        split <;> omega
def ee_h24 : ee_H := fun _ bc bs e st => match st with
  | (pc, lo, y :: x :: stk, w, iv, kc, ks, sv) => (match e.2.1 with
      | .invokestatic _ => if ((e.2.2.2.2.2.1 = 3 ∨ e.2.2.2.2.2.1 = 4) ∧ (stk.map ee_cat).sum ≤ 8) ∧ kc ≤ bc ∧ ks ≤ bs then (match ee_cn iv x, ee_cn iv y with
        | some a, some b => ee_nx e.2.2.1 3 [(pc + 3, lo, .int (ee_mm e.2.2.2.2.2.1 a b) :: stk, w, iv, kc, ks, sv)]
        | _, _ => (match ee_it iv x, ee_it iv y with
          | some (a, b), some (d, u) => ee_nx e.2.2.1 3 [(pc + 3, lo, .retAddr iv.length :: stk, w, iv ++ [((ee_mb e.2.2.2.2.2.1 a b d u).1, (ee_mb e.2.2.2.2.2.1 a b d u).2, none)], kc, ks, sv)]
          | _, _ => none)) else none
      | _ => none)
  | _ => none
set_option maxHeartbeats 2000000 in
theorem ee_h24.snd : ee_Snd ee_h24 := by
  intro X Y oc own cc ini dm bc bs Q e st sts F ho hi hd he hpc h k
  obtain ⟨p, l, en, R, s, m, args, below, meth, c⟩ := X
  obtain ⟨A, D, dA, ex, x0, sv0, nL⟩ := Y
  obtain ⟨pc, lo, stk, w, iv, kc, ks, sv⟩ := st
  obtain ⟨pc', ins, len, hn, ea, eb, ez⟩ := e
  obtain ⟨hx, hb, hml, hown, hts, hK, hA, hini, hR, hE⟩ := F
  have hpc : pc = pc' := hpc
  subst hpc
  have hd : decode cc pc = .ok (ins, len) := hd
  intro ns as H lc ls vs C
  obtain ⟨c1, c2, c3, c4, c5, c6⟩ := C
  show W p l en R s m args below meth c H lc kc ks Q (F0 m pc ls vs)
  match stk, vs, c4, h with
  | [], _, _, h => exact ee_no h
  | [_], _, _, h => exact ee_no h
  | y :: x :: stk, [], c4, h => exact c4.elim
  | y :: x :: stk, [_], c4, h => exact c4.2.elim
  | y :: x :: stk, vy :: vx :: vs, ⟨cy, cx, c4⟩, h =>
    cases ins with
    | invokestatic i =>
      replace h : (if ((eb = 3 ∨ eb = 4) ∧ (stk.map ee_cat).sum ≤ 8) ∧ kc ≤ bc ∧ ks ≤ bs then (match ee_cn iv x, ee_cn iv y with
        | some a, some b => ee_nx len 3 [(pc + 3, lo, .int (ee_mm eb a b) :: stk, w, iv, kc, ks, sv)]
        | _, _ => (match ee_it iv x, ee_it iv y with
          | some (a, b), some (d, u) => ee_nx len 3 [(pc + 3, lo, .retAddr iv.length :: stk, w, iv ++ [((ee_mb eb a b d u).1, (ee_mb eb a b d u).2, none)], kc, ks, sv)]
          | _, _ => none)) else none) = some sts := h
      have hee : (if eb = 0 then (match ee_CL[ea]? with
        | some q => decide (q.1 = oc) && (decide (q.2.1 = i) && decide (q.2.2.2.1 = 1))
        | none => false) else if eb = 2 then (match ee_AL[ea]? with
        | some q => decide (q.1 = oc) && decide (q.2.1 = i)
        | none => false) else if eb = 3 ∨ eb = 4 then (match ee_XL[ea]? with
        | some q => decide (q.1 = oc) && (decide (q.2.1 = i) && decide (q.2.2.1 = eb))
        | none => false) else true) = true := he
      by_cases hc : ((eb = 3 ∨ eb = 4) ∧ (stk.map ee_cat).sum ≤ 8) ∧ kc ≤ bc ∧ ks ≤ bs
      · rw [if_pos hc] at h
        obtain ⟨⟨hc1, hc2⟩, hc3, hc4⟩ := hc
        rw [if_neg (by omega), if_neg (by omega), if_pos hc1] at hee
        cases hq : ee_XL[ea]? with
        | none => rw [hq] at hee; cases hee
        | some q =>
          rw [hq] at hee
          obtain ⟨e1, e2⟩ := ee_and hee
          obtain ⟨e2, e3⟩ := ee_and e2
          have e1 := of_decide_eq_true e1
          have e2 := of_decide_eq_true e2
          have e3 := of_decide_eq_true e3
          have hm := ee_XLok q (List.mem_of_getElem? hq)
          rw [e1, ee_own_ow ho, e2, e3] at hm
          have key : len = 3 ∧ ∃ a b : Int32, vx = .int a ∧ vy = .int b ∧ W p l en R s m args below meth c H lc kc ks Q (F0 m (pc + 3) ls (.int (ee_mm eb a b) :: vs)) := by
            split at h
            · rename_i a b h1 h2
              obtain ⟨rfl, rfl⟩ := ee_nx_some h
              exact ⟨rfl, a, b, ee_cn.int c1 cx h1, ee_cn.int c1 cy h2, k _ List.mem_cons_self ns as H lc ls _ ⟨c1, c2, c3, ⟨rfl, c4⟩, c5, c6⟩⟩
            · split at h
              · rename_i a b d u h1 h2
                obtain ⟨rfl, rfl⟩ := ee_nx_some h
                obtain ⟨za, rfl, z1, z2⟩ := ee_it.int c1 cx h1
                obtain ⟨zb, rfl, z3, z4⟩ := ee_it.int c1 cy h2
                have g := ee_mb.ok (k := eb) z1 z2 z3 z4
                obtain ⟨d1, d2, d3, d4, d5, d6⟩ := ee_Con.grow (s := s) (A := A) (D := D) (dA := dA) (ex := ex) (x0 := x0) (sv0 := sv0) (nL := nL) (lo := lo) (ls := ls) ⟨c1, c2, c3, c4, c5, c6⟩ g.1 g.2 (o := none) (fun _ _ q => by cases q)
                exact ⟨rfl, za, zb, rfl, rfl, k _ List.mem_cons_self _ as H lc ls _ ⟨d1, d2, d3, ⟨⟨_, c1.last _, rfl⟩, d4⟩, d5, d6⟩⟩
              · exact ee_no h
          obtain ⟨rfl, a, b, rfl, rfl, kk⟩ := key
          obtain ⟨lv, c3, c3l⟩ := c3
          have hl1 : (vs.map fun v => v.category).sum + 13 ≤ R.locals := by
            rw [ee_cats c4]
            omega
          rcases hc1 with rfl | rfl
          · exact va_mmin hx hb (by rw [hml]; exact c3.1.symm) hown (hts _ hm) (hts _ ee_math.1) (hts _ ee_math.2.2.2.2) (hts _ ee_math.2.1) (by omega) hl1 (Nat.le_trans hc3 hR.2.2.1) (Nat.le_trans hc4 hR.2.2.2) hd kk
          · exact va_mmax hx hb (by rw [hml]; exact c3.1.symm) hown (hts _ hm) (hts _ ee_math.2.2.1) (hts _ ee_math.2.2.2.2) (hts _ ee_math.2.2.2.1) (by omega) hl1 (Nat.le_trans hc3 hR.2.2.1) (Nat.le_trans hc4 hR.2.2.2) hd kk
      · rw [if_neg hc] at h
        exact ee_no h
    | _ => exact ee_no h
end
