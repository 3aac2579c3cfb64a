section
-- ===== PART A: goes FIRST, ahead of the names: the tables' words, and 'selects' of the private methods out of them =====
/-- a private method of a class that the tables say can be made, by its rows of tables_1 -/
def lw_okq (q : MethodName × Nat) : Prop := (q.1.cls ≠ "java/lang/invoke/MethodHandle" ∧ q.1.cls ≠ "java/lang/invoke/VarHandle") ∧ Cond.instantiable q.1.cls q.2 ∈ tables_1 ∧ Cond.privateMethod q.1 ∈ tables_1 ∧ Cond.instanceMethod q.1 ∈ tables_1
theorem lw_p0 : lw_okq (⟨"PepperTables$Told", "beginFormula", "()V"⟩, 19) := ⟨⟨by decide +kernel, by decide +kernel⟩, List.mem_of_getElem? (i := 34) (by decide +kernel), List.mem_of_getElem? (i := 40) (by decide +kernel), List.mem_of_getElem? (i := 41) (by decide +kernel)⟩
theorem lw_p1 : lw_okq (⟨"PepperTables$Reader", "step", "()V"⟩, 11) := ⟨⟨by decide +kernel, by decide +kernel⟩, List.mem_of_getElem? (i := 28) (by decide +kernel), List.mem_of_getElem? (i := 459) (by decide +kernel), List.mem_of_getElem? (i := 460) (by decide +kernel)⟩
theorem lw_p2 : lw_okq (⟨"PepperTables$Reader", "stepWord", "()V"⟩, 11) := ⟨⟨by decide +kernel, by decide +kernel⟩, List.mem_of_getElem? (i := 28) (by decide +kernel), List.mem_of_getElem? (i := 463) (by decide +kernel), List.mem_of_getElem? (i := 464) (by decide +kernel)⟩
theorem lw_p3 : lw_okq (⟨"PepperTables$Reader", "stepNumber", "()V"⟩, 11) := ⟨⟨by decide +kernel, by decide +kernel⟩, List.mem_of_getElem? (i := 28) (by decide +kernel), List.mem_of_getElem? (i := 467) (by decide +kernel), List.mem_of_getElem? (i := 468) (by decide +kernel)⟩
theorem lw_p4 : lw_okq (⟨"PepperTables$Reader", "readLine", "()V"⟩, 11) := ⟨⟨by decide +kernel, by decide +kernel⟩, List.mem_of_getElem? (i := 28) (by decide +kernel), List.mem_of_getElem? (i := 531) (by decide +kernel), List.mem_of_getElem? (i := 532) (by decide +kernel)⟩
theorem lw_p5 : lw_okq (⟨"PepperTables$Reader", "readPerson", "()V"⟩, 11) := ⟨⟨by decide +kernel, by decide +kernel⟩, List.mem_of_getElem? (i := 28) (by decide +kernel), List.mem_of_getElem? (i := 535) (by decide +kernel), List.mem_of_getElem? (i := 536) (by decide +kernel)⟩
theorem lw_p6 : lw_okq (⟨"PepperTables$Reader", "refuse", "()V"⟩, 11) := ⟨⟨by decide +kernel, by decide +kernel⟩, List.mem_of_getElem? (i := 28) (by decide +kernel), List.mem_of_getElem? (i := 539) (by decide +kernel), List.mem_of_getElem? (i := 540) (by decide +kernel)⟩
theorem lw_p7 : lw_okq (⟨"PepperTables$Reader", "fail", "(I)V"⟩, 11) := ⟨⟨by decide +kernel, by decide +kernel⟩, List.mem_of_getElem? (i := 28) (by decide +kernel), List.mem_of_getElem? (i := 543) (by decide +kernel), List.mem_of_getElem? (i := 544) (by decide +kernel)⟩
theorem lw_p8 : lw_okq (⟨"PepperTables$Reader", "takeNewName", "([JI)V"⟩, 11) := ⟨⟨by decide +kernel, by decide +kernel⟩, List.mem_of_getElem? (i := 28) (by decide +kernel), List.mem_of_getElem? (i := 547) (by decide +kernel), List.mem_of_getElem? (i := 548) (by decide +kernel)⟩
theorem lw_p9 : lw_okq (⟨"PepperTables$Reader", "indexOfName", "([JI)I"⟩, 11) := ⟨⟨by decide +kernel, by decide +kernel⟩, List.mem_of_getElem? (i := 28) (by decide +kernel), List.mem_of_getElem? (i := 551) (by decide +kernel), List.mem_of_getElem? (i := 552) (by decide +kernel)⟩
theorem lw_p10 : lw_okq (⟨"PepperTables$Reader", "takeNumber", "(II)I"⟩, 11) := ⟨⟨by decide +kernel, by decide +kernel⟩, List.mem_of_getElem? (i := 28) (by decide +kernel), List.mem_of_getElem? (i := 555) (by decide +kernel), List.mem_of_getElem? (i := 556) (by decide +kernel)⟩
theorem lw_p11 : lw_okq (⟨"PepperTables$Reader", "readSack", "()V"⟩, 11) := ⟨⟨by decide +kernel, by decide +kernel⟩, List.mem_of_getElem? (i := 28) (by decide +kernel), List.mem_of_getElem? (i := 559) (by decide +kernel), List.mem_of_getElem? (i := 560) (by decide +kernel)⟩
theorem lw_p12 : lw_okq (⟨"PepperTables$Reader", "readThing", "()V"⟩, 11) := ⟨⟨by decide +kernel, by decide +kernel⟩, List.mem_of_getElem? (i := 28) (by decide +kernel), List.mem_of_getElem? (i := 563) (by decide +kernel), List.mem_of_getElem? (i := 564) (by decide +kernel)⟩
theorem lw_p13 : lw_okq (⟨"PepperTables$Reader", "take", "(I)V"⟩, 11) := ⟨⟨by decide +kernel, by decide +kernel⟩, List.mem_of_getElem? (i := 28) (by decide +kernel), List.mem_of_getElem? (i := 567) (by decide +kernel), List.mem_of_getElem? (i := 568) (by decide +kernel)⟩
theorem lw_p14 : lw_okq (⟨"PepperTables$Reader", "takeKnownName", "([JII)I"⟩, 11) := ⟨⟨by decide +kernel, by decide +kernel⟩, List.mem_of_getElem? (i := 28) (by decide +kernel), List.mem_of_getElem? (i := 571) (by decide +kernel), List.mem_of_getElem? (i := 572) (by decide +kernel)⟩
theorem lw_p15 : lw_okq (⟨"PepperTables$Reader", "readFormula", "()V"⟩, 11) := ⟨⟨by decide +kernel, by decide +kernel⟩, List.mem_of_getElem? (i := 28) (by decide +kernel), List.mem_of_getElem? (i := 575) (by decide +kernel), List.mem_of_getElem? (i := 576) (by decide +kernel)⟩
def lw_privs_1 : List (MethodName × Nat) := [(⟨"PepperTables$Told", "beginFormula", "()V"⟩, 19), (⟨"PepperTables$Reader", "step", "()V"⟩, 11), (⟨"PepperTables$Reader", "stepWord", "()V"⟩, 11), (⟨"PepperTables$Reader", "stepNumber", "()V"⟩, 11), (⟨"PepperTables$Reader", "readLine", "()V"⟩, 11), (⟨"PepperTables$Reader", "readPerson", "()V"⟩, 11), (⟨"PepperTables$Reader", "refuse", "()V"⟩, 11), (⟨"PepperTables$Reader", "fail", "(I)V"⟩, 11), (⟨"PepperTables$Reader", "takeNewName", "([JI)V"⟩, 11), (⟨"PepperTables$Reader", "indexOfName", "([JI)I"⟩, 11), (⟨"PepperTables$Reader", "takeNumber", "(II)I"⟩, 11), (⟨"PepperTables$Reader", "readSack", "()V"⟩, 11), (⟨"PepperTables$Reader", "readThing", "()V"⟩, 11), (⟨"PepperTables$Reader", "take", "(I)V"⟩, 11), (⟨"PepperTables$Reader", "takeKnownName", "([JII)I"⟩, 11), (⟨"PepperTables$Reader", "readFormula", "()V"⟩, 11)]
theorem lw_r1 : ∀ q ∈ lw_privs_1, lw_okq q := List.forall_mem_cons.mpr ⟨lw_p0, List.forall_mem_cons.mpr ⟨lw_p1, List.forall_mem_cons.mpr ⟨lw_p2, List.forall_mem_cons.mpr ⟨lw_p3, List.forall_mem_cons.mpr ⟨lw_p4, List.forall_mem_cons.mpr ⟨lw_p5, List.forall_mem_cons.mpr ⟨lw_p6, List.forall_mem_cons.mpr ⟨lw_p7, List.forall_mem_cons.mpr ⟨lw_p8, List.forall_mem_cons.mpr ⟨lw_p9, List.forall_mem_cons.mpr ⟨lw_p10, List.forall_mem_cons.mpr ⟨lw_p11, List.forall_mem_cons.mpr ⟨lw_p12, List.forall_mem_cons.mpr ⟨lw_p13, List.forall_mem_cons.mpr ⟨lw_p14, List.forall_mem_cons.mpr ⟨lw_p15, fun _ h => absurd h List.not_mem_nil⟩⟩⟩⟩⟩⟩⟩⟩⟩⟩⟩⟩⟩⟩⟩⟩
theorem lw_p16 : lw_okq (⟨"PepperTables$Reader", "readEither", "(I)V"⟩, 11) := ⟨⟨by decide +kernel, by decide +kernel⟩, List.mem_of_getElem? (i := 28) (by decide +kernel), List.mem_of_getElem? (i := 579) (by decide +kernel), List.mem_of_getElem? (i := 580) (by decide +kernel)⟩
theorem lw_p17 : lw_okq (⟨"PepperTables$Reader", "readBoth", "(I)V"⟩, 11) := ⟨⟨by decide +kernel, by decide +kernel⟩, List.mem_of_getElem? (i := 28) (by decide +kernel), List.mem_of_getElem? (i := 583) (by decide +kernel), List.mem_of_getElem? (i := 584) (by decide +kernel)⟩
theorem lw_p18 : lw_okq (⟨"PepperTables$Reader", "readOne", "(I)V"⟩, 11) := ⟨⟨by decide +kernel, by decide +kernel⟩, List.mem_of_getElem? (i := 28) (by decide +kernel), List.mem_of_getElem? (i := 587) (by decide +kernel), List.mem_of_getElem? (i := 588) (by decide +kernel)⟩
theorem lw_p19 : lw_okq (⟨"PepperTables$Reader", "write", "(I)V"⟩, 11) := ⟨⟨by decide +kernel, by decide +kernel⟩, List.mem_of_getElem? (i := 28) (by decide +kernel), List.mem_of_getElem? (i := 591) (by decide +kernel), List.mem_of_getElem? (i := 592) (by decide +kernel)⟩
theorem lw_p20 : lw_okq (⟨"PepperTables$Reader", "readSum", "(I)V"⟩, 11) := ⟨⟨by decide +kernel, by decide +kernel⟩, List.mem_of_getElem? (i := 28) (by decide +kernel), List.mem_of_getElem? (i := 595) (by decide +kernel), List.mem_of_getElem? (i := 596) (by decide +kernel)⟩
theorem lw_p21 : lw_okq (⟨"PepperTables$Reader", "readTerm", "(I)V"⟩, 11) := ⟨⟨by decide +kernel, by decide +kernel⟩, List.mem_of_getElem? (i := 28) (by decide +kernel), List.mem_of_getElem? (i := 599) (by decide +kernel), List.mem_of_getElem? (i := 600) (by decide +kernel)⟩
theorem lw_p22 : lw_okq (⟨"PepperTables$Reader", "readUnit", "(I)V"⟩, 11) := ⟨⟨by decide +kernel, by decide +kernel⟩, List.mem_of_getElem? (i := 28) (by decide +kernel), List.mem_of_getElem? (i := 603) (by decide +kernel), List.mem_of_getElem? (i := 604) (by decide +kernel)⟩
theorem lw_p23 : lw_okq (⟨"PepperTables$Reader", "readSneeze", "()V"⟩, 11) := ⟨⟨by decide +kernel, by decide +kernel⟩, List.mem_of_getElem? (i := 28) (by decide +kernel), List.mem_of_getElem? (i := 607) (by decide +kernel), List.mem_of_getElem? (i := 608) (by decide +kernel)⟩
theorem lw_p24 : lw_okq (⟨"PepperTables$Reader", "readDraw", "()V"⟩, 11) := ⟨⟨by decide +kernel, by decide +kernel⟩, List.mem_of_getElem? (i := 28) (by decide +kernel), List.mem_of_getElem? (i := 611) (by decide +kernel), List.mem_of_getElem? (i := 612) (by decide +kernel)⟩
theorem lw_p25 : lw_okq (⟨"PepperTables", "isPerson", "(I)Z"⟩, 12) := ⟨⟨by decide +kernel, by decide +kernel⟩, List.mem_of_getElem? (i := 20) (by decide +kernel), List.mem_of_getElem? (i := 646) (by decide +kernel), List.mem_of_getElem? (i := 647) (by decide +kernel)⟩
theorem lw_p26 : lw_okq (⟨"PepperTables", "isThing", "(I)Z"⟩, 12) := ⟨⟨by decide +kernel, by decide +kernel⟩, List.mem_of_getElem? (i := 20) (by decide +kernel), List.mem_of_getElem? (i := 670) (by decide +kernel), List.mem_of_getElem? (i := 671) (by decide +kernel)⟩
theorem lw_p27 : lw_okq (⟨"PepperTables", "isSack", "(I)Z"⟩, 12) := ⟨⟨by decide +kernel, by decide +kernel⟩, List.mem_of_getElem? (i := 20) (by decide +kernel), List.mem_of_getElem? (i := 678) (by decide +kernel), List.mem_of_getElem? (i := 679) (by decide +kernel)⟩
theorem lw_p28 : lw_okq (⟨"PepperTables$Mill", "operand", "(I)I"⟩, 3) := ⟨⟨by decide +kernel, by decide +kernel⟩, List.mem_of_getElem? (i := 274) (by decide +kernel), List.mem_of_getElem? (i := 725) (by decide +kernel), List.mem_of_getElem? (i := 726) (by decide +kernel)⟩
theorem lw_p29 : lw_okq (⟨"PepperTables", "isSitting", "(I)Z"⟩, 12) := ⟨⟨by decide +kernel, by decide +kernel⟩, List.mem_of_getElem? (i := 20) (by decide +kernel), List.mem_of_getElem? (i := 736) (by decide +kernel), List.mem_of_getElem? (i := 737) (by decide +kernel)⟩
theorem lw_p30 : lw_okq (⟨"PepperTables", "isKept", "(I)Z"⟩, 12) := ⟨⟨by decide +kernel, by decide +kernel⟩, List.mem_of_getElem? (i := 20) (by decide +kernel), List.mem_of_getElem? (i := 764) (by decide +kernel), List.mem_of_getElem? (i := 765) (by decide +kernel)⟩
theorem lw_p31 : lw_okq (⟨"PepperTables", "sneezed", "()I"⟩, 12) := ⟨⟨by decide +kernel, by decide +kernel⟩, List.mem_of_getElem? (i := 20) (by decide +kernel), List.mem_of_getElem? (i := 772) (by decide +kernel), List.mem_of_getElem? (i := 773) (by decide +kernel)⟩
def lw_privs_2 : List (MethodName × Nat) := [(⟨"PepperTables$Reader", "readEither", "(I)V"⟩, 11), (⟨"PepperTables$Reader", "readBoth", "(I)V"⟩, 11), (⟨"PepperTables$Reader", "readOne", "(I)V"⟩, 11), (⟨"PepperTables$Reader", "write", "(I)V"⟩, 11), (⟨"PepperTables$Reader", "readSum", "(I)V"⟩, 11), (⟨"PepperTables$Reader", "readTerm", "(I)V"⟩, 11), (⟨"PepperTables$Reader", "readUnit", "(I)V"⟩, 11), (⟨"PepperTables$Reader", "readSneeze", "()V"⟩, 11), (⟨"PepperTables$Reader", "readDraw", "()V"⟩, 11), (⟨"PepperTables", "isPerson", "(I)Z"⟩, 12), (⟨"PepperTables", "isThing", "(I)Z"⟩, 12), (⟨"PepperTables", "isSack", "(I)Z"⟩, 12), (⟨"PepperTables$Mill", "operand", "(I)I"⟩, 3), (⟨"PepperTables", "isSitting", "(I)Z"⟩, 12), (⟨"PepperTables", "isKept", "(I)Z"⟩, 12), (⟨"PepperTables", "sneezed", "()I"⟩, 12)]
theorem lw_r2 : ∀ q ∈ lw_privs_2, lw_okq q := List.forall_mem_cons.mpr ⟨lw_p16, List.forall_mem_cons.mpr ⟨lw_p17, List.forall_mem_cons.mpr ⟨lw_p18, List.forall_mem_cons.mpr ⟨lw_p19, List.forall_mem_cons.mpr ⟨lw_p20, List.forall_mem_cons.mpr ⟨lw_p21, List.forall_mem_cons.mpr ⟨lw_p22, List.forall_mem_cons.mpr ⟨lw_p23, List.forall_mem_cons.mpr ⟨lw_p24, List.forall_mem_cons.mpr ⟨lw_p25, List.forall_mem_cons.mpr ⟨lw_p26, List.forall_mem_cons.mpr ⟨lw_p27, List.forall_mem_cons.mpr ⟨lw_p28, List.forall_mem_cons.mpr ⟨lw_p29, List.forall_mem_cons.mpr ⟨lw_p30, List.forall_mem_cons.mpr ⟨lw_p31, fun _ h => absurd h List.not_mem_nil⟩⟩⟩⟩⟩⟩⟩⟩⟩⟩⟩⟩⟩⟩⟩⟩
theorem lw_p32 : lw_okq (⟨"PepperTables", "scoreGrindings", "(I)V"⟩, 12) := ⟨⟨by decide +kernel, by decide +kernel⟩, List.mem_of_getElem? (i := 20) (by decide +kernel), List.mem_of_getElem? (i := 844) (by decide +kernel), List.mem_of_getElem? (i := 845) (by decide +kernel)⟩
theorem lw_p33 : lw_okq (⟨"PepperTables", "scoreOfRow", "(II)I"⟩, 12) := ⟨⟨by decide +kernel, by decide +kernel⟩, List.mem_of_getElem? (i := 20) (by decide +kernel), List.mem_of_getElem? (i := 852) (by decide +kernel), List.mem_of_getElem? (i := 853) (by decide +kernel)⟩
theorem lw_p34 : lw_okq (⟨"PepperTables", "layRow", "(II)V"⟩, 12) := ⟨⟨by decide +kernel, by decide +kernel⟩, List.mem_of_getElem? (i := 20) (by decide +kernel), List.mem_of_getElem? (i := 856) (by decide +kernel), List.mem_of_getElem? (i := 857) (by decide +kernel)⟩
theorem lw_p35 : lw_okq (⟨"PepperTables", "saidIfExchanged", "(III)I"⟩, 12) := ⟨⟨by decide +kernel, by decide +kernel⟩, List.mem_of_getElem? (i := 20) (by decide +kernel), List.mem_of_getElem? (i := 907) (by decide +kernel), List.mem_of_getElem? (i := 908) (by decide +kernel)⟩
theorem lw_p36 : lw_okq (⟨"PepperTables", "reckonGains", "(II)V"⟩, 12) := ⟨⟨by decide +kernel, by decide +kernel⟩, List.mem_of_getElem? (i := 20) (by decide +kernel), List.mem_of_getElem? (i := 923) (by decide +kernel), List.mem_of_getElem? (i := 924) (by decide +kernel)⟩
theorem lw_p37 : lw_okq (⟨"PepperTables", "gainOf", "(II)I"⟩, 12) := ⟨⟨by decide +kernel, by decide +kernel⟩, List.mem_of_getElem? (i := 20) (by decide +kernel), List.mem_of_getElem? (i := 927) (by decide +kernel), List.mem_of_getElem? (i := 928) (by decide +kernel)⟩
theorem lw_p38 : lw_okq (⟨"PepperTables$Lying", "goFurther", "(II)V"⟩, 5) := ⟨⟨by decide +kernel, by decide +kernel⟩, List.mem_of_getElem? (i := 325) (by decide +kernel), List.mem_of_getElem? (i := 943) (by decide +kernel), List.mem_of_getElem? (i := 944) (by decide +kernel)⟩
theorem lw_p39 : lw_okq (⟨"PepperTables", "hottestKeeper", "(I)I"⟩, 12) := ⟨⟨by decide +kernel, by decide +kernel⟩, List.mem_of_getElem? (i := 20) (by decide +kernel), List.mem_of_getElem? (i := 973) (by decide +kernel), List.mem_of_getElem? (i := 974) (by decide +kernel)⟩
theorem lw_p40 : lw_okq (⟨"PepperTables$Hearsay", "reckon", "(LPepperTables$Told;LPepperTables$Mill;)V"⟩, 13) := ⟨⟨by decide +kernel, by decide +kernel⟩, List.mem_of_getElem? (i := 348) (by decide +kernel), List.mem_of_getElem? (i := 1041) (by decide +kernel), List.mem_of_getElem? (i := 1042) (by decide +kernel)⟩
theorem lw_p41 : lw_okq (⟨"PepperTables$Hearsay", "agrees", "(II)Z"⟩, 13) := ⟨⟨by decide +kernel, by decide +kernel⟩, List.mem_of_getElem? (i := 348) (by decide +kernel), List.mem_of_getElem? (i := 1052) (by decide +kernel), List.mem_of_getElem? (i := 1053) (by decide +kernel)⟩
theorem lw_p42 : lw_okq (⟨"PepperTablesModel", "clearBank", "()V"⟩, 65) := ⟨⟨by decide +kernel, by decide +kernel⟩, List.mem_of_getElem? (i := 1095) (by decide +kernel), List.mem_of_getElem? (i := 1101) (by decide +kernel), List.mem_of_getElem? (i := 1102) (by decide +kernel)⟩
theorem lw_p43 : lw_okq (⟨"PepperTablesModel", "startAnew", "()V"⟩, 65) := ⟨⟨by decide +kernel, by decide +kernel⟩, List.mem_of_getElem? (i := 1095) (by decide +kernel), List.mem_of_getElem? (i := 1105) (by decide +kernel), List.mem_of_getElem? (i := 1106) (by decide +kernel)⟩
theorem lw_p44 : lw_okq (⟨"PepperTablesModel", "layTold", "()V"⟩, 65) := ⟨⟨by decide +kernel, by decide +kernel⟩, List.mem_of_getElem? (i := 1095) (by decide +kernel), List.mem_of_getElem? (i := 1109) (by decide +kernel), List.mem_of_getElem? (i := 1110) (by decide +kernel)⟩
theorem lw_p45 : lw_okq (⟨"PepperTablesModel", "many", "()I"⟩, 65) := ⟨⟨by decide +kernel, by decide +kernel⟩, List.mem_of_getElem? (i := 1095) (by decide +kernel), List.mem_of_getElem? (i := 1113) (by decide +kernel), List.mem_of_getElem? (i := 1114) (by decide +kernel)⟩
theorem lw_p46 : lw_okq (⟨"PepperTablesModel", "goOn", "()V"⟩, 65) := ⟨⟨by decide +kernel, by decide +kernel⟩, List.mem_of_getElem? (i := 1095) (by decide +kernel), List.mem_of_getElem? (i := 1317) (by decide +kernel), List.mem_of_getElem? (i := 1318) (by decide +kernel)⟩
theorem lw_p47 : lw_okq (⟨"PepperTablesModel", "sign", "(I)I"⟩, 65) := ⟨⟨by decide +kernel, by decide +kernel⟩, List.mem_of_getElem? (i := 1095) (by decide +kernel), List.mem_of_getElem? (i := 1321) (by decide +kernel), List.mem_of_getElem? (i := 1322) (by decide +kernel)⟩
def lw_privs_3 : List (MethodName × Nat) := [(⟨"PepperTables", "scoreGrindings", "(I)V"⟩, 12), (⟨"PepperTables", "scoreOfRow", "(II)I"⟩, 12), (⟨"PepperTables", "layRow", "(II)V"⟩, 12), (⟨"PepperTables", "saidIfExchanged", "(III)I"⟩, 12), (⟨"PepperTables", "reckonGains", "(II)V"⟩, 12), (⟨"PepperTables", "gainOf", "(II)I"⟩, 12), (⟨"PepperTables$Lying", "goFurther", "(II)V"⟩, 5), (⟨"PepperTables", "hottestKeeper", "(I)I"⟩, 12), (⟨"PepperTables$Hearsay", "reckon", "(LPepperTables$Told;LPepperTables$Mill;)V"⟩, 13), (⟨"PepperTables$Hearsay", "agrees", "(II)Z"⟩, 13), (⟨"PepperTablesModel", "clearBank", "()V"⟩, 65), (⟨"PepperTablesModel", "startAnew", "()V"⟩, 65), (⟨"PepperTablesModel", "layTold", "()V"⟩, 65), (⟨"PepperTablesModel", "many", "()I"⟩, 65), (⟨"PepperTablesModel", "goOn", "()V"⟩, 65), (⟨"PepperTablesModel", "sign", "(I)I"⟩, 65)]
theorem lw_r3 : ∀ q ∈ lw_privs_3, lw_okq q := List.forall_mem_cons.mpr ⟨lw_p32, List.forall_mem_cons.mpr ⟨lw_p33, List.forall_mem_cons.mpr ⟨lw_p34, List.forall_mem_cons.mpr ⟨lw_p35, List.forall_mem_cons.mpr ⟨lw_p36, List.forall_mem_cons.mpr ⟨lw_p37, List.forall_mem_cons.mpr ⟨lw_p38, List.forall_mem_cons.mpr ⟨lw_p39, List.forall_mem_cons.mpr ⟨lw_p40, List.forall_mem_cons.mpr ⟨lw_p41, List.forall_mem_cons.mpr ⟨lw_p42, List.forall_mem_cons.mpr ⟨lw_p43, List.forall_mem_cons.mpr ⟨lw_p44, List.forall_mem_cons.mpr ⟨lw_p45, List.forall_mem_cons.mpr ⟨lw_p46, List.forall_mem_cons.mpr ⟨lw_p47, fun _ h => absurd h List.not_mem_nil⟩⟩⟩⟩⟩⟩⟩⟩⟩⟩⟩⟩⟩⟩⟩⟩
theorem lw_p48 : lw_okq (⟨"PepperTablesModel", "isGood", "()Z"⟩, 65) := ⟨⟨by decide +kernel, by decide +kernel⟩, List.mem_of_getElem? (i := 1095) (by decide +kernel), List.mem_of_getElem? (i := 1355) (by decide +kernel), List.mem_of_getElem? (i := 1356) (by decide +kernel)⟩
theorem lw_p49 : lw_okq (⟨"PepperTablesModel", "readLine", "()V"⟩, 65) := ⟨⟨by decide +kernel, by decide +kernel⟩, List.mem_of_getElem? (i := 1095) (by decide +kernel), List.mem_of_getElem? (i := 1359) (by decide +kernel), List.mem_of_getElem? (i := 1360) (by decide +kernel)⟩
theorem lw_p50 : lw_okq (⟨"PepperTablesModel", "isFull", "()Z"⟩, 65) := ⟨⟨by decide +kernel, by decide +kernel⟩, List.mem_of_getElem? (i := 1095) (by decide +kernel), List.mem_of_getElem? (i := 1363) (by decide +kernel), List.mem_of_getElem? (i := 1364) (by decide +kernel)⟩
theorem lw_p51 : lw_okq (⟨"PepperTablesModel", "isWord", "(J)Z"⟩, 65) := ⟨⟨by decide +kernel, by decide +kernel⟩, List.mem_of_getElem? (i := 1095) (by decide +kernel), List.mem_of_getElem? (i := 1367) (by decide +kernel), List.mem_of_getElem? (i := 1368) (by decide +kernel)⟩
theorem lw_p52 : lw_okq (⟨"PepperTablesModel", "misplaced", "()V"⟩, 65) := ⟨⟨by decide +kernel, by decide +kernel⟩, List.mem_of_getElem? (i := 1095) (by decide +kernel), List.mem_of_getElem? (i := 1374) (by decide +kernel), List.mem_of_getElem? (i := 1375) (by decide +kernel)⟩
theorem lw_p53 : lw_okq (⟨"PepperTablesModel", "fails", "(II)V"⟩, 65) := ⟨⟨by decide +kernel, by decide +kernel⟩, List.mem_of_getElem? (i := 1095) (by decide +kernel), List.mem_of_getElem? (i := 1378) (by decide +kernel), List.mem_of_getElem? (i := 1379) (by decide +kernel)⟩
theorem lw_p54 : lw_okq (⟨"PepperTablesModel", "personHere", "()I"⟩, 65) := ⟨⟨by decide +kernel, by decide +kernel⟩, List.mem_of_getElem? (i := 1095) (by decide +kernel), List.mem_of_getElem? (i := 1382) (by decide +kernel), List.mem_of_getElem? (i := 1383) (by decide +kernel)⟩
theorem lw_p55 : lw_okq (⟨"PepperTablesModel", "here", "([JII)I"⟩, 65) := ⟨⟨by decide +kernel, by decide +kernel⟩, List.mem_of_getElem? (i := 1095) (by decide +kernel), List.mem_of_getElem? (i := 1386) (by decide +kernel), List.mem_of_getElem? (i := 1387) (by decide +kernel)⟩
theorem lw_p56 : lw_okq (⟨"PepperTablesModel", "fresh", "(I)J"⟩, 65) := ⟨⟨by decide +kernel, by decide +kernel⟩, List.mem_of_getElem? (i := 1095) (by decide +kernel), List.mem_of_getElem? (i := 1390) (by decide +kernel), List.mem_of_getElem? (i := 1391) (by decide +kernel)⟩
theorem lw_p57 : lw_okq (⟨"PepperTablesModel", "afterWord", "(JII)I"⟩, 65) := ⟨⟨by decide +kernel, by decide +kernel⟩, List.mem_of_getElem? (i := 1095) (by decide +kernel), List.mem_of_getElem? (i := 1394) (by decide +kernel), List.mem_of_getElem? (i := 1395) (by decide +kernel)⟩
theorem lw_p58 : lw_okq (⟨"PepperTablesModel", "must", "(Z)V"⟩, 65) := ⟨⟨by decide +kernel, by decide +kernel⟩, List.mem_of_getElem? (i := 1095) (by decide +kernel), List.mem_of_getElem? (i := 1398) (by decide +kernel), List.mem_of_getElem? (i := 1399) (by decide +kernel)⟩
theorem lw_p59 : lw_okq (⟨"PepperTablesModel", "numeral", "(II)I"⟩, 65) := ⟨⟨by decide +kernel, by decide +kernel⟩, List.mem_of_getElem? (i := 1095) (by decide +kernel), List.mem_of_getElem? (i := 1402) (by decide +kernel), List.mem_of_getElem? (i := 1403) (by decide +kernel)⟩
theorem lw_p60 : lw_okq (⟨"PepperTablesModel", "sackHere", "()I"⟩, 65) := ⟨⟨by decide +kernel, by decide +kernel⟩, List.mem_of_getElem? (i := 1095) (by decide +kernel), List.mem_of_getElem? (i := 1406) (by decide +kernel), List.mem_of_getElem? (i := 1407) (by decide +kernel)⟩
theorem lw_p61 : lw_okq (⟨"PepperTablesModel", "readThing", "()V"⟩, 65) := ⟨⟨by decide +kernel, by decide +kernel⟩, List.mem_of_getElem? (i := 1095) (by decide +kernel), List.mem_of_getElem? (i := 1410) (by decide +kernel), List.mem_of_getElem? (i := 1411) (by decide +kernel)⟩
theorem lw_p62 : lw_okq (⟨"PepperTablesModel", "known", "(I)I"⟩, 65) := ⟨⟨by decide +kernel, by decide +kernel⟩, List.mem_of_getElem? (i := 1095) (by decide +kernel), List.mem_of_getElem? (i := 1414) (by decide +kernel), List.mem_of_getElem? (i := 1415) (by decide +kernel)⟩
theorem lw_p63 : lw_okq (⟨"PepperTablesModel", "readRule", "()V"⟩, 65) := ⟨⟨by decide +kernel, by decide +kernel⟩, List.mem_of_getElem? (i := 1095) (by decide +kernel), List.mem_of_getElem? (i := 1418) (by decide +kernel), List.mem_of_getElem? (i := 1419) (by decide +kernel)⟩
def lw_privs_4 : List (MethodName × Nat) := [(⟨"PepperTablesModel", "isGood", "()Z"⟩, 65), (⟨"PepperTablesModel", "readLine", "()V"⟩, 65), (⟨"PepperTablesModel", "isFull", "()Z"⟩, 65), (⟨"PepperTablesModel", "isWord", "(J)Z"⟩, 65), (⟨"PepperTablesModel", "misplaced", "()V"⟩, 65), (⟨"PepperTablesModel", "fails", "(II)V"⟩, 65), (⟨"PepperTablesModel", "personHere", "()I"⟩, 65), (⟨"PepperTablesModel", "here", "([JII)I"⟩, 65), (⟨"PepperTablesModel", "fresh", "(I)J"⟩, 65), (⟨"PepperTablesModel", "afterWord", "(JII)I"⟩, 65), (⟨"PepperTablesModel", "must", "(Z)V"⟩, 65), (⟨"PepperTablesModel", "numeral", "(II)I"⟩, 65), (⟨"PepperTablesModel", "sackHere", "()I"⟩, 65), (⟨"PepperTablesModel", "readThing", "()V"⟩, 65), (⟨"PepperTablesModel", "known", "(I)I"⟩, 65), (⟨"PepperTablesModel", "readRule", "()V"⟩, 65)]
theorem lw_r4 : ∀ q ∈ lw_privs_4, lw_okq q := List.forall_mem_cons.mpr ⟨lw_p48, List.forall_mem_cons.mpr ⟨lw_p49, List.forall_mem_cons.mpr ⟨lw_p50, List.forall_mem_cons.mpr ⟨lw_p51, List.forall_mem_cons.mpr ⟨lw_p52, List.forall_mem_cons.mpr ⟨lw_p53, List.forall_mem_cons.mpr ⟨lw_p54, List.forall_mem_cons.mpr ⟨lw_p55, List.forall_mem_cons.mpr ⟨lw_p56, List.forall_mem_cons.mpr ⟨lw_p57, List.forall_mem_cons.mpr ⟨lw_p58, List.forall_mem_cons.mpr ⟨lw_p59, List.forall_mem_cons.mpr ⟨lw_p60, List.forall_mem_cons.mpr ⟨lw_p61, List.forall_mem_cons.mpr ⟨lw_p62, List.forall_mem_cons.mpr ⟨lw_p63, fun _ h => absurd h List.not_mem_nil⟩⟩⟩⟩⟩⟩⟩⟩⟩⟩⟩⟩⟩⟩⟩⟩
theorem lw_p64 : lw_okq (⟨"PepperTablesModel", "e", "()V"⟩, 65) := ⟨⟨by decide +kernel, by decide +kernel⟩, List.mem_of_getElem? (i := 1095) (by decide +kernel), List.mem_of_getElem? (i := 1422) (by decide +kernel), List.mem_of_getElem? (i := 1423) (by decide +kernel)⟩
theorem lw_p65 : lw_okq (⟨"PepperTablesModel", "pushE", "(II)V"⟩, 65) := ⟨⟨by decide +kernel, by decide +kernel⟩, List.mem_of_getElem? (i := 1095) (by decide +kernel), List.mem_of_getElem? (i := 1426) (by decide +kernel), List.mem_of_getElem? (i := 1427) (by decide +kernel)⟩
theorem lw_p66 : lw_okq (⟨"PepperTablesModel", "unit", "()Z"⟩, 65) := ⟨⟨by decide +kernel, by decide +kernel⟩, List.mem_of_getElem? (i := 1095) (by decide +kernel), List.mem_of_getElem? (i := 1430) (by decide +kernel), List.mem_of_getElem? (i := 1431) (by decide +kernel)⟩
theorem lw_p67 : lw_okq (⟨"PepperTablesModel", "isSignHere", "(I)Z"⟩, 65) := ⟨⟨by decide +kernel, by decide +kernel⟩, List.mem_of_getElem? (i := 1095) (by decide +kernel), List.mem_of_getElem? (i := 1434) (by decide +kernel), List.mem_of_getElem? (i := 1435) (by decide +kernel)⟩
theorem lw_p68 : lw_okq (⟨"PepperTablesModel", "wordHere", "()I"⟩, 65) := ⟨⟨by decide +kernel, by decide +kernel⟩, List.mem_of_getElem? (i := 1095) (by decide +kernel), List.mem_of_getElem? (i := 1438) (by decide +kernel), List.mem_of_getElem? (i := 1439) (by decide +kernel)⟩
theorem lw_p69 : lw_okq (⟨"PepperTablesModel", "emit", "(II)V"⟩, 65) := ⟨⟨by decide +kernel, by decide +kernel⟩, List.mem_of_getElem? (i := 1095) (by decide +kernel), List.mem_of_getElem? (i := 1442) (by decide +kernel), List.mem_of_getElem? (i := 1443) (by decide +kernel)⟩
theorem lw_p70 : lw_okq (⟨"PepperTablesModel", "behindUnit", "()Z"⟩, 65) := ⟨⟨by decide +kernel, by decide +kernel⟩, List.mem_of_getElem? (i := 1095) (by decide +kernel), List.mem_of_getElem? (i := 1446) (by decide +kernel), List.mem_of_getElem? (i := 1447) (by decide +kernel)⟩
theorem lw_p71 : lw_okq (⟨"PepperTablesModel", "rankHere", "()I"⟩, 65) := ⟨⟨by decide +kernel, by decide +kernel⟩, List.mem_of_getElem? (i := 1095) (by decide +kernel), List.mem_of_getElem? (i := 1450) (by decide +kernel), List.mem_of_getElem? (i := 1451) (by decide +kernel)⟩
theorem lw_p72 : lw_okq (⟨"PepperTablesModel", "isCompared", "()Z"⟩, 65) := ⟨⟨by decide +kernel, by decide +kernel⟩, List.mem_of_getElem? (i := 1095) (by decide +kernel), List.mem_of_getElem? (i := 1454) (by decide +kernel), List.mem_of_getElem? (i := 1455) (by decide +kernel)⟩
theorem lw_p73 : lw_okq (⟨"PepperTablesModel", "isPerson", "(I)Z"⟩, 65) := ⟨⟨by decide +kernel, by decide +kernel⟩, List.mem_of_getElem? (i := 1095) (by decide +kernel), List.mem_of_getElem? (i := 1466) (by decide +kernel), List.mem_of_getElem? (i := 1467) (by decide +kernel)⟩
theorem lw_p74 : lw_okq (⟨"PepperTablesModel", "folk", "()I"⟩, 65) := ⟨⟨by decide +kernel, by decide +kernel⟩, List.mem_of_getElem? (i := 1095) (by decide +kernel), List.mem_of_getElem? (i := 1470) (by decide +kernel), List.mem_of_getElem? (i := 1471) (by decide +kernel)⟩
theorem lw_p75 : lw_okq (⟨"PepperTablesModel", "byOf", "(I)I"⟩, 65) := ⟨⟨by decide +kernel, by decide +kernel⟩, List.mem_of_getElem? (i := 1095) (by decide +kernel), List.mem_of_getElem? (i := 1477) (by decide +kernel), List.mem_of_getElem? (i := 1478) (by decide +kernel)⟩
theorem lw_p76 : lw_okq (⟨"PepperTablesModel", "fromOf", "(I)I"⟩, 65) := ⟨⟨by decide +kernel, by decide +kernel⟩, List.mem_of_getElem? (i := 1095) (by decide +kernel), List.mem_of_getElem? (i := 1481) (by decide +kernel), List.mem_of_getElem? (i := 1482) (by decide +kernel)⟩
theorem lw_p77 : lw_okq (⟨"PepperTablesModel", "keptNow", "()I"⟩, 65) := ⟨⟨by decide +kernel, by decide +kernel⟩, List.mem_of_getElem? (i := 1095) (by decide +kernel), List.mem_of_getElem? (i := 1485) (by decide +kernel), List.mem_of_getElem? (i := 1486) (by decide +kernel)⟩
theorem lw_p78 : lw_okq (⟨"PepperTablesModel", "toOf", "(I)I"⟩, 65) := ⟨⟨by decide +kernel, by decide +kernel⟩, List.mem_of_getElem? (i := 1095) (by decide +kernel), List.mem_of_getElem? (i := 1489) (by decide +kernel), List.mem_of_getElem? (i := 1490) (by decide +kernel)⟩
theorem lw_p79 : lw_okq (⟨"PepperTablesModel", "whomOf", "(I)I"⟩, 65) := ⟨⟨by decide +kernel, by decide +kernel⟩, List.mem_of_getElem? (i := 1095) (by decide +kernel), List.mem_of_getElem? (i := 1493) (by decide +kernel), List.mem_of_getElem? (i := 1494) (by decide +kernel)⟩
def lw_privs_5 : List (MethodName × Nat) := [(⟨"PepperTablesModel", "e", "()V"⟩, 65), (⟨"PepperTablesModel", "pushE", "(II)V"⟩, 65), (⟨"PepperTablesModel", "unit", "()Z"⟩, 65), (⟨"PepperTablesModel", "isSignHere", "(I)Z"⟩, 65), (⟨"PepperTablesModel", "wordHere", "()I"⟩, 65), (⟨"PepperTablesModel", "emit", "(II)V"⟩, 65), (⟨"PepperTablesModel", "behindUnit", "()Z"⟩, 65), (⟨"PepperTablesModel", "rankHere", "()I"⟩, 65), (⟨"PepperTablesModel", "isCompared", "()Z"⟩, 65), (⟨"PepperTablesModel", "isPerson", "(I)Z"⟩, 65), (⟨"PepperTablesModel", "folk", "()I"⟩, 65), (⟨"PepperTablesModel", "byOf", "(I)I"⟩, 65), (⟨"PepperTablesModel", "fromOf", "(I)I"⟩, 65), (⟨"PepperTablesModel", "keptNow", "()I"⟩, 65), (⟨"PepperTablesModel", "toOf", "(I)I"⟩, 65), (⟨"PepperTablesModel", "whomOf", "(I)I"⟩, 65)]
theorem lw_r5 : ∀ q ∈ lw_privs_5, lw_okq q := List.forall_mem_cons.mpr ⟨lw_p64, List.forall_mem_cons.mpr ⟨lw_p65, List.forall_mem_cons.mpr ⟨lw_p66, List.forall_mem_cons.mpr ⟨lw_p67, List.forall_mem_cons.mpr ⟨lw_p68, List.forall_mem_cons.mpr ⟨lw_p69, List.forall_mem_cons.mpr ⟨lw_p70, List.forall_mem_cons.mpr ⟨lw_p71, List.forall_mem_cons.mpr ⟨lw_p72, List.forall_mem_cons.mpr ⟨lw_p73, List.forall_mem_cons.mpr ⟨lw_p74, List.forall_mem_cons.mpr ⟨lw_p75, List.forall_mem_cons.mpr ⟨lw_p76, List.forall_mem_cons.mpr ⟨lw_p77, List.forall_mem_cons.mpr ⟨lw_p78, List.forall_mem_cons.mpr ⟨lw_p79, fun _ h => absurd h List.not_mem_nil⟩⟩⟩⟩⟩⟩⟩⟩⟩⟩⟩⟩⟩⟩⟩⟩
theorem lw_p80 : lw_okq (⟨"PepperTablesModel", "isThing", "(I)Z"⟩, 65) := ⟨⟨by decide +kernel, by decide +kernel⟩, List.mem_of_getElem? (i := 1095) (by decide +kernel), List.mem_of_getElem? (i := 1501) (by decide +kernel), List.mem_of_getElem? (i := 1502) (by decide +kernel)⟩
theorem lw_p81 : lw_okq (⟨"PepperTablesModel", "hotOf", "(I)I"⟩, 65) := ⟨⟨by decide +kernel, by decide +kernel⟩, List.mem_of_getElem? (i := 1095) (by decide +kernel), List.mem_of_getElem? (i := 1505) (by decide +kernel), List.mem_of_getElem? (i := 1506) (by decide +kernel)⟩
theorem lw_p82 : lw_okq (⟨"PepperTablesModel", "isSack", "(I)Z"⟩, 65) := ⟨⟨by decide +kernel, by decide +kernel⟩, List.mem_of_getElem? (i := 1095) (by decide +kernel), List.mem_of_getElem? (i := 1513) (by decide +kernel), List.mem_of_getElem? (i := 1514) (by decide +kernel)⟩
theorem lw_p83 : lw_okq (⟨"PepperTablesModel", "bags", "()I"⟩, 65) := ⟨⟨by decide +kernel, by decide +kernel⟩, List.mem_of_getElem? (i := 1095) (by decide +kernel), List.mem_of_getElem? (i := 1517) (by decide +kernel), List.mem_of_getElem? (i := 1518) (by decide +kernel)⟩
theorem lw_p84 : lw_okq (⟨"PepperTablesModel", "inOf", "(I)I"⟩, 65) := ⟨⟨by decide +kernel, by decide +kernel⟩, List.mem_of_getElem? (i := 1095) (by decide +kernel), List.mem_of_getElem? (i := 1521) (by decide +kernel), List.mem_of_getElem? (i := 1522) (by decide +kernel)⟩
theorem lw_p85 : lw_okq (⟨"PepperTablesModel", "isStill", "(I)Z"⟩, 65) := ⟨⟨by decide +kernel, by decide +kernel⟩, List.mem_of_getElem? (i := 1095) (by decide +kernel), List.mem_of_getElem? (i := 1525) (by decide +kernel), List.mem_of_getElem? (i := 1526) (by decide +kernel)⟩
theorem lw_p86 : lw_okq (⟨"PepperTablesModel", "heatOf", "(I)I"⟩, 65) := ⟨⟨by decide +kernel, by decide +kernel⟩, List.mem_of_getElem? (i := 1095) (by decide +kernel), List.mem_of_getElem? (i := 1529) (by decide +kernel), List.mem_of_getElem? (i := 1530) (by decide +kernel)⟩
theorem lw_p87 : lw_okq (⟨"PepperTablesModel", "wouldOf", "(I)I"⟩, 65) := ⟨⟨by decide +kernel, by decide +kernel⟩, List.mem_of_getElem? (i := 1095) (by decide +kernel), List.mem_of_getElem? (i := 1537) (by decide +kernel), List.mem_of_getElem? (i := 1538) (by decide +kernel)⟩
theorem lw_p88 : lw_okq (⟨"PepperTablesModel", "isLetOut", "(II)Z"⟩, 65) := ⟨⟨by decide +kernel, by decide +kernel⟩, List.mem_of_getElem? (i := 1095) (by decide +kernel), List.mem_of_getElem? (i := 1541) (by decide +kernel), List.mem_of_getElem? (i := 1542) (by decide +kernel)⟩
theorem lw_p89 : lw_okq (⟨"PepperTablesModel", "doBothSit", "(I)Z"⟩, 65) := ⟨⟨by decide +kernel, by decide +kernel⟩, List.mem_of_getElem? (i := 1095) (by decide +kernel), List.mem_of_getElem? (i := 1545) (by decide +kernel), List.mem_of_getElem? (i := 1546) (by decide +kernel)⟩
theorem lw_p90 : lw_okq (⟨"PepperTablesModel", "comes", "()I"⟩, 65) := ⟨⟨by decide +kernel, by decide +kernel⟩, List.mem_of_getElem? (i := 1095) (by decide +kernel), List.mem_of_getElem? (i := 1549) (by decide +kernel), List.mem_of_getElem? (i := 1550) (by decide +kernel)⟩
theorem lw_p91 : lw_okq (⟨"PepperTablesModel", "asked", "(II)I"⟩, 65) := ⟨⟨by decide +kernel, by decide +kernel⟩, List.mem_of_getElem? (i := 1095) (by decide +kernel), List.mem_of_getElem? (i := 1553) (by decide +kernel), List.mem_of_getElem? (i := 1554) (by decide +kernel)⟩
theorem lw_p92 : lw_okq (⟨"PepperTablesModel", "allSacks", "()I"⟩, 65) := ⟨⟨by decide +kernel, by decide +kernel⟩, List.mem_of_getElem? (i := 1095) (by decide +kernel), List.mem_of_getElem? (i := 1587) (by decide +kernel), List.mem_of_getElem? (i := 1588) (by decide +kernel)⟩
theorem lw_p93 : lw_okq (⟨"PepperTablesModel", "saidBy", "(I)I"⟩, 65) := ⟨⟨by decide +kernel, by decide +kernel⟩, List.mem_of_getElem? (i := 1095) (by decide +kernel), List.mem_of_getElem? (i := 1591) (by decide +kernel), List.mem_of_getElem? (i := 1592) (by decide +kernel)⟩
theorem lw_p94 : lw_okq (⟨"PepperTablesModel", "sneezed", "()I"⟩, 65) := ⟨⟨by decide +kernel, by decide +kernel⟩, List.mem_of_getElem? (i := 1095) (by decide +kernel), List.mem_of_getElem? (i := 1607) (by decide +kernel), List.mem_of_getElem? (i := 1608) (by decide +kernel)⟩
theorem lw_p95 : lw_okq (⟨"PepperTablesModel", "keepAct", "()V"⟩, 65) := ⟨⟨by decide +kernel, by decide +kernel⟩, List.mem_of_getElem? (i := 1095) (by decide +kernel), List.mem_of_getElem? (i := 1623) (by decide +kernel), List.mem_of_getElem? (i := 1624) (by decide +kernel)⟩
def lw_privs_6 : List (MethodName × Nat) := [(⟨"PepperTablesModel", "isThing", "(I)Z"⟩, 65), (⟨"PepperTablesModel", "hotOf", "(I)I"⟩, 65), (⟨"PepperTablesModel", "isSack", "(I)Z"⟩, 65), (⟨"PepperTablesModel", "bags", "()I"⟩, 65), (⟨"PepperTablesModel", "inOf", "(I)I"⟩, 65), (⟨"PepperTablesModel", "isStill", "(I)Z"⟩, 65), (⟨"PepperTablesModel", "heatOf", "(I)I"⟩, 65), (⟨"PepperTablesModel", "wouldOf", "(I)I"⟩, 65), (⟨"PepperTablesModel", "isLetOut", "(II)Z"⟩, 65), (⟨"PepperTablesModel", "doBothSit", "(I)Z"⟩, 65), (⟨"PepperTablesModel", "comes", "()I"⟩, 65), (⟨"PepperTablesModel", "asked", "(II)I"⟩, 65), (⟨"PepperTablesModel", "allSacks", "()I"⟩, 65), (⟨"PepperTablesModel", "saidBy", "(I)I"⟩, 65), (⟨"PepperTablesModel", "sneezed", "()I"⟩, 65), (⟨"PepperTablesModel", "keepAct", "()V"⟩, 65)]
theorem lw_r6 : ∀ q ∈ lw_privs_6, lw_okq q := List.forall_mem_cons.mpr ⟨lw_p80, List.forall_mem_cons.mpr ⟨lw_p81, List.forall_mem_cons.mpr ⟨lw_p82, List.forall_mem_cons.mpr ⟨lw_p83, List.forall_mem_cons.mpr ⟨lw_p84, List.forall_mem_cons.mpr ⟨lw_p85, List.forall_mem_cons.mpr ⟨lw_p86, List.forall_mem_cons.mpr ⟨lw_p87, List.forall_mem_cons.mpr ⟨lw_p88, List.forall_mem_cons.mpr ⟨lw_p89, List.forall_mem_cons.mpr ⟨lw_p90, List.forall_mem_cons.mpr ⟨lw_p91, List.forall_mem_cons.mpr ⟨lw_p92, List.forall_mem_cons.mpr ⟨lw_p93, List.forall_mem_cons.mpr ⟨lw_p94, List.forall_mem_cons.mpr ⟨lw_p95, fun _ h => absurd h List.not_mem_nil⟩⟩⟩⟩⟩⟩⟩⟩⟩⟩⟩⟩⟩⟩⟩⟩
theorem lw_p96 : lw_okq (⟨"PepperTablesModel", "goGrind", "(I)I"⟩, 65) := ⟨⟨by decide +kernel, by decide +kernel⟩, List.mem_of_getElem? (i := 1095) (by decide +kernel), List.mem_of_getElem? (i := 1635) (by decide +kernel), List.mem_of_getElem? (i := 1636) (by decide +kernel)⟩
theorem lw_p97 : lw_okq (⟨"PepperTablesModel", "swapAll", "()V"⟩, 65) := ⟨⟨by decide +kernel, by decide +kernel⟩, List.mem_of_getElem? (i := 1095) (by decide +kernel), List.mem_of_getElem? (i := 1651) (by decide +kernel), List.mem_of_getElem? (i := 1652) (by decide +kernel)⟩
theorem lw_p98 : lw_okq (⟨"PepperTablesModel", "wouldWith", "(II)I"⟩, 65) := ⟨⟨by decide +kernel, by decide +kernel⟩, List.mem_of_getElem? (i := 1095) (by decide +kernel), List.mem_of_getElem? (i := 1667) (by decide +kernel), List.mem_of_getElem? (i := 1668) (by decide +kernel)⟩
theorem lw_p99 : lw_okq (⟨"PepperTablesModel", "saidWith", "(I)I"⟩, 65) := ⟨⟨by decide +kernel, by decide +kernel⟩, List.mem_of_getElem? (i := 1095) (by decide +kernel), List.mem_of_getElem? (i := 1675) (by decide +kernel), List.mem_of_getElem? (i := 1676) (by decide +kernel)⟩
theorem lw_p100 : lw_okq (⟨"PepperTablesModel", "worthTo", "(II)I"⟩, 65) := ⟨⟨by decide +kernel, by decide +kernel⟩, List.mem_of_getElem? (i := 1095) (by decide +kernel), List.mem_of_getElem? (i := 1703) (by decide +kernel), List.mem_of_getElem? (i := 1704) (by decide +kernel)⟩
theorem lw_p101 : lw_okq (⟨"PepperTablesModel", "keepNow", "()V"⟩, 65) := ⟨⟨by decide +kernel, by decide +kernel⟩, List.mem_of_getElem? (i := 1095) (by decide +kernel), List.mem_of_getElem? (i := 1714) (by decide +kernel), List.mem_of_getElem? (i := 1715) (by decide +kernel)⟩
theorem lw_p102 : lw_okq (⟨"PepperTablesModel", "inRow", "(III)I"⟩, 65) := ⟨⟨by decide +kernel, by decide +kernel⟩, List.mem_of_getElem? (i := 1095) (by decide +kernel), List.mem_of_getElem? (i := 1718) (by decide +kernel), List.mem_of_getElem? (i := 1719) (by decide +kernel)⟩
theorem lw_p103 : lw_okq (⟨"PepperTablesModel", "bringBack", "()V"⟩, 65) := ⟨⟨by decide +kernel, by decide +kernel⟩, List.mem_of_getElem? (i := 1095) (by decide +kernel), List.mem_of_getElem? (i := 1722) (by decide +kernel), List.mem_of_getElem? (i := 1723) (by decide +kernel)⟩
theorem lw_p104 : lw_okq (⟨"PepperTablesModel", "canChange", "(II)Z"⟩, 65) := ⟨⟨by decide +kernel, by decide +kernel⟩, List.mem_of_getElem? (i := 1095) (by decide +kernel), List.mem_of_getElem? (i := 1742) (by decide +kernel), List.mem_of_getElem? (i := 1743) (by decide +kernel)⟩
theorem lw_p105 : lw_okq (⟨"PepperTablesModel", "isLine", "(II)Z"⟩, 65) := ⟨⟨by decide +kernel, by decide +kernel⟩, List.mem_of_getElem? (i := 1095) (by decide +kernel), List.mem_of_getElem? (i := 1758) (by decide +kernel), List.mem_of_getElem? (i := 1759) (by decide +kernel)⟩
theorem lw_p106 : lw_okq (⟨"PepperTablesModel", "inOrder", "(III)I"⟩, 65) := ⟨⟨by decide +kernel, by decide +kernel⟩, List.mem_of_getElem? (i := 1095) (by decide +kernel), List.mem_of_getElem? (i := 1762) (by decide +kernel), List.mem_of_getElem? (i := 1763) (by decide +kernel)⟩
theorem lw_p107 : lw_okq (⟨"PepperTablesModel", "doesKeep", "(II)Z"⟩, 65) := ⟨⟨by decide +kernel, by decide +kernel⟩, List.mem_of_getElem? (i := 1095) (by decide +kernel), List.mem_of_getElem? (i := 1766) (by decide +kernel), List.mem_of_getElem? (i := 1767) (by decide +kernel)⟩
theorem lw_p108 : lw_okq (⟨"PepperTablesModel", "layRows", "(I)V"⟩, 65) := ⟨⟨by decide +kernel, by decide +kernel⟩, List.mem_of_getElem? (i := 1095) (by decide +kernel), List.mem_of_getElem? (i := 1802) (by decide +kernel), List.mem_of_getElem? (i := 1803) (by decide +kernel)⟩
theorem lw_p109 : lw_okq (⟨"PepperTablesModel", "layMany", "()V"⟩, 65) := ⟨⟨by decide +kernel, by decide +kernel⟩, List.mem_of_getElem? (i := 1095) (by decide +kernel), List.mem_of_getElem? (i := 1806) (by decide +kernel), List.mem_of_getElem? (i := 1807) (by decide +kernel)⟩
theorem lw_p110 : lw_okq (⟨"PepperTablesModel", "hidden", "()I"⟩, 65) := ⟨⟨by decide +kernel, by decide +kernel⟩, List.mem_of_getElem? (i := 1095) (by decide +kernel), List.mem_of_getElem? (i := 1810) (by decide +kernel), List.mem_of_getElem? (i := 1811) (by decide +kernel)⟩
theorem lw_p111 : lw_okq (⟨"PepperTablesModel", "sackIn", "(II)I"⟩, 65) := ⟨⟨by decide +kernel, by decide +kernel⟩, List.mem_of_getElem? (i := 1095) (by decide +kernel), List.mem_of_getElem? (i := 1814) (by decide +kernel), List.mem_of_getElem? (i := 1815) (by decide +kernel)⟩
def lw_privs_7 : List (MethodName × Nat) := [(⟨"PepperTablesModel", "goGrind", "(I)I"⟩, 65), (⟨"PepperTablesModel", "swapAll", "()V"⟩, 65), (⟨"PepperTablesModel", "wouldWith", "(II)I"⟩, 65), (⟨"PepperTablesModel", "saidWith", "(I)I"⟩, 65), (⟨"PepperTablesModel", "worthTo", "(II)I"⟩, 65), (⟨"PepperTablesModel", "keepNow", "()V"⟩, 65), (⟨"PepperTablesModel", "inRow", "(III)I"⟩, 65), (⟨"PepperTablesModel", "bringBack", "()V"⟩, 65), (⟨"PepperTablesModel", "canChange", "(II)Z"⟩, 65), (⟨"PepperTablesModel", "isLine", "(II)Z"⟩, 65), (⟨"PepperTablesModel", "inOrder", "(III)I"⟩, 65), (⟨"PepperTablesModel", "doesKeep", "(II)Z"⟩, 65), (⟨"PepperTablesModel", "layRows", "(I)V"⟩, 65), (⟨"PepperTablesModel", "layMany", "()V"⟩, 65), (⟨"PepperTablesModel", "hidden", "()I"⟩, 65), (⟨"PepperTablesModel", "sackIn", "(II)I"⟩, 65)]
theorem lw_r7 : ∀ q ∈ lw_privs_7, lw_okq q := List.forall_mem_cons.mpr ⟨lw_p96, List.forall_mem_cons.mpr ⟨lw_p97, List.forall_mem_cons.mpr ⟨lw_p98, List.forall_mem_cons.mpr ⟨lw_p99, List.forall_mem_cons.mpr ⟨lw_p100, List.forall_mem_cons.mpr ⟨lw_p101, List.forall_mem_cons.mpr ⟨lw_p102, List.forall_mem_cons.mpr ⟨lw_p103, List.forall_mem_cons.mpr ⟨lw_p104, List.forall_mem_cons.mpr ⟨lw_p105, List.forall_mem_cons.mpr ⟨lw_p106, List.forall_mem_cons.mpr ⟨lw_p107, List.forall_mem_cons.mpr ⟨lw_p108, List.forall_mem_cons.mpr ⟨lw_p109, List.forall_mem_cons.mpr ⟨lw_p110, List.forall_mem_cons.mpr ⟨lw_p111, fun _ h => absurd h List.not_mem_nil⟩⟩⟩⟩⟩⟩⟩⟩⟩⟩⟩⟩⟩⟩⟩⟩
theorem lw_p112 : lw_okq (⟨"PepperTablesModel", "allRows", "()I"⟩, 65) := ⟨⟨by decide +kernel, by decide +kernel⟩, List.mem_of_getElem? (i := 1095) (by decide +kernel), List.mem_of_getElem? (i := 1818) (by decide +kernel), List.mem_of_getElem? (i := 1819) (by decide +kernel)⟩
theorem lw_p113 : lw_okq (⟨"PepperTablesModel", "doesFit", "(II)Z"⟩, 65) := ⟨⟨by decide +kernel, by decide +kernel⟩, List.mem_of_getElem? (i := 1095) (by decide +kernel), List.mem_of_getElem? (i := 1822) (by decide +kernel), List.mem_of_getElem? (i := 1823) (by decide +kernel)⟩
theorem lw_p114 : lw_okq (⟨"PepperTablesModel", "mostBy", "(II)I"⟩, 65) := ⟨⟨by decide +kernel, by decide +kernel⟩, List.mem_of_getElem? (i := 1095) (by decide +kernel), List.mem_of_getElem? (i := 1834) (by decide +kernel), List.mem_of_getElem? (i := 1835) (by decide +kernel)⟩
def lw_privs_8 : List (MethodName × Nat) := [(⟨"PepperTablesModel", "allRows", "()I"⟩, 65), (⟨"PepperTablesModel", "doesFit", "(II)Z"⟩, 65), (⟨"PepperTablesModel", "mostBy", "(II)I"⟩, 65)]
theorem lw_r8 : ∀ q ∈ lw_privs_8, lw_okq q := List.forall_mem_cons.mpr ⟨lw_p112, List.forall_mem_cons.mpr ⟨lw_p113, List.forall_mem_cons.mpr ⟨lw_p114, fun _ h => absurd h List.not_mem_nil⟩⟩⟩
def lw_privs : List (MethodName × Nat) := lw_privs_1 ++ (lw_privs_2 ++ (lw_privs_3 ++ (lw_privs_4 ++ (lw_privs_5 ++ (lw_privs_6 ++ (lw_privs_7 ++ (lw_privs_8)))))))
def lw_tbl : List Cond := k2_sels lw_privs ++ tables_1
theorem lw_privs_ok : ∀ q ∈ lw_privs, lw_okq q := by
  show ∀ q ∈ lw_privs_1 ++ (lw_privs_2 ++ (lw_privs_3 ++ (lw_privs_4 ++ (lw_privs_5 ++ (lw_privs_6 ++ (lw_privs_7 ++ (lw_privs_8))))))), lw_okq q
  exact List.forall_mem_append.mpr ⟨lw_r1, List.forall_mem_append.mpr ⟨lw_r2, List.forall_mem_append.mpr ⟨lw_r3, List.forall_mem_append.mpr ⟨lw_r4, List.forall_mem_append.mpr ⟨lw_r5, List.forall_mem_append.mpr ⟨lw_r6, List.forall_mem_append.mpr ⟨lw_r7, lw_r8⟩⟩⟩⟩⟩⟩⟩
end
section
theorem goodIn_r {big : List Cond} (ws : List Cond) (ps : List Nat) (hp : ws = ps.filterMap (fun i => big[i]?)) (h : ws.all goodWord = true) : GoodIn big ws := by
  intro w hw
  have h1 := List.all_eq_true.mp h w hw
  rw [hp] at hw
  obtain ⟨i, -, hi⟩ := List.mem_filterMap.mp hw
  have hm : w ∈ big := by first | exact List.mem_of_getElem? hi | exact List.getElem?_mem hi
  exact ⟨hm, good_of_word h1⟩
theorem goodIn_app {big a b : List Cond} (ha : GoodIn big a) (hb : GoodIn big b) : GoodIn big (a ++ b) := fun w h => (List.mem_append.mp h).elim (ha w) (hb w)
theorem goodIn_ca {big a b : List Cond} {c : Cond} (ha : GoodIn big (c :: a)) (hb : GoodIn big b) : GoodIn big (c :: (a ++ b)) := fun w h => (List.mem_cons.mp h).elim (fun e => ha w (List.mem_cons.mpr (Or.inl e))) (fun h => (List.mem_append.mp h).elim (fun h => ha w (List.mem_cons.mpr (Or.inr h))) (hb w))
theorem goodIn_sub {big ws : List Cond} (hm : ∀ w ∈ ws, w ∈ big) (h : ws.all goodWord = true) : GoodIn big ws := fun w hw => ⟨hm w hw, good_of_word (List.all_eq_true.mp h w hw)⟩
def RX0 : String := "PepperTables$Acts"
def TX0 : u_T := fun k => match k with
  | 0 => ("PepperTables$Acts", "undoable", "I", false)
  | 1 => ("PepperTables$Acts", "redoable", "I", false)
  | 2 => ("PepperTables$Acts", "row", "I", false)
  | _ => ("PepperTables$Acts", "rows", "[I", true)
def tyX0 : Nat → FieldType := fun k => match k with
  | 0 => .int
  | 1 => .int
  | 2 => .int
  | _ => .array .int
theorem nmX0 : ∀ a, a < 4 → ∀ b, b < 4 → a ≠ b → (TX0 a).2.1 ≠ (TX0 b).2.1 := by decide +kernel
theorem tyX0_ok : ∀ k, k < 4 → parseFieldDescriptor (TX0 k).2.2.1 = some (tyX0 k) := by decide +kernel
theorem ee_dcX0 : ∀ k, k < 4 → (TX0 k).1 = RX0 := by decide +kernel
def RX1 : String := "PepperTables$Boxes"
def TX1 : u_T := fun k => match k with
  | 0 => ("PepperTables$Boxes", "rows", "[I", true)
  | _ => ("PepperTables$Boxes", "filled", "[Z", true)
def tyX1 : Nat → FieldType := fun k => match k with
  | 0 => .array .int
  | _ => .array .boolean
theorem nmX1 : ∀ a, a < 2 → ∀ b, b < 2 → a ≠ b → (TX1 a).2.1 ≠ (TX1 b).2.1 := by decide +kernel
theorem tyX1_ok : ∀ k, k < 2 → parseFieldDescriptor (TX1 k).2.2.1 = some (tyX1 k) := by decide +kernel
theorem ee_dcX1 : ∀ k, k < 2 → (TX1 k).1 = RX1 := by decide +kernel
def RX2 : String := "PepperTables$Hearsay"
def TX2 : u_T := fun k => match k with
  | 0 => ("PepperTables$Hearsay", "count", "I", false)
  | 1 => ("PepperTables$Hearsay", "time", "I", false)
  | 2 => ("PepperTables$Hearsay", "isReckoned", "Z", false)
  | 3 => ("PepperTables$Hearsay", "rowCount", "I", false)
  | 4 => ("PepperTables$Hearsay", "sacks", "[I", true)
  | 5 => ("PepperTables$Hearsay", "many", "[I", true)
  | 6 => ("PepperTables$Hearsay", "is", "[Z", true)
  | 7 => ("PepperTables$Hearsay", "toldAt", "[I", true)
  | 8 => ("PepperTables$Hearsay", "untoldAt", "[I", true)
  | 9 => ("PepperTables$Hearsay", "outs", "[I", true)
  | 10 => ("PepperTables$Hearsay", "isLeft", "[Z", true)
  | 11 => ("PepperTables$Hearsay", "tally", "[I", true)
  | _ => ("PepperTables$Hearsay", "scene", "LPepperTables$State;", true)
def tyX2 : Nat → FieldType := fun k => match k with
  | 0 => .int
  | 1 => .int
  | 2 => .boolean
  | 3 => .int
  | 4 => .array .int
  | 5 => .array .int
  | 6 => .array .boolean
  | 7 => .array .int
  | 8 => .array .int
  | 9 => .array .int
  | 10 => .array .boolean
  | 11 => .array .int
  | _ => .object "PepperTables$State"
theorem nmX2 : ∀ a, a < 13 → ∀ b, b < 13 → a ≠ b → (TX2 a).2.1 ≠ (TX2 b).2.1 := by decide +kernel
theorem tyX2_ok : ∀ k, k < 13 → parseFieldDescriptor (TX2 k).2.2.1 = some (tyX2 k) := by decide +kernel
theorem ee_dcX2 : ∀ k, k < 13 → (TX2 k).1 = RX2 := by decide +kernel
def RX3 : String := "PepperTables$Lying"
def TX3 : u_T := fun k => match k with
  | 0 => ("PepperTables$Lying", "count", "I", false)
  | 1 => ("PepperTables$Lying", "numbers", "[I", true)
  | 2 => ("PepperTables$Lying", "path", "[I", true)
  | 3 => ("PepperTables$Lying", "listeners", "[I", true)
  | _ => ("PepperTables$Lying", "people", "I", false)
def tyX3 : Nat → FieldType := fun k => match k with
  | 0 => .int
  | 1 => .array .int
  | 2 => .array .int
  | 3 => .array .int
  | _ => .int
theorem nmX3 : ∀ a, a < 5 → ∀ b, b < 5 → a ≠ b → (TX3 a).2.1 ≠ (TX3 b).2.1 := by decide +kernel
theorem tyX3_ok : ∀ k, k < 5 → parseFieldDescriptor (TX3 k).2.2.1 = some (tyX3 k) := by decide +kernel
theorem ee_dcX3 : ∀ k, k < 5 → (TX3 k).1 = RX3 := by decide +kernel
def RX4 : String := "PepperTables$Mill"
def TX4 : u_T := fun k => match k with
  | 0 => ("PepperTables$Mill", "inputs", "[I", true)
  | 1 => ("PepperTables$Mill", "stack", "[I", true)
  | _ => ("PepperTables$Mill", "passingBySize", "[I", true)
def tyX4 : Nat → FieldType := fun k => match k with
  | 0 => .array .int
  | 1 => .array .int
  | _ => .array .int
theorem nmX4 : ∀ a, a < 3 → ∀ b, b < 3 → a ≠ b → (TX4 a).2.1 ≠ (TX4 b).2.1 := by decide +kernel
theorem tyX4_ok : ∀ k, k < 3 → parseFieldDescriptor (TX4 k).2.2.1 = some (tyX4 k) := by decide +kernel
theorem ee_dcX4 : ∀ k, k < 3 → (TX4 k).1 = RX4 := by decide +kernel
def RX5 : String := "PepperTables$Reader"
def TX5 : u_T := fun k => match k with
  | 0 => ("PepperTables$Reader", "length", "I", false)
  | 1 => ("PepperTables$Reader", "fault", "I", false)
  | 2 => ("PepperTables$Reader", "faultPlace", "I", false)
  | 3 => ("PepperTables$Reader", "target", "LPepperTables$Told;", false)
  | 4 => ("PepperTables$Reader", "text", "[I", true)
  | 5 => ("PepperTables$Reader", "words", "[J", true)
  | 6 => ("PepperTables$Reader", "at", "I", false)
  | 7 => ("PepperTables$Reader", "kind", "I", false)
  | 8 => ("PepperTables$Reader", "place", "I", false)
  | 9 => ("PepperTables$Reader", "number", "I", false)
  | _ => ("PepperTables$Reader", "name", "J", false)
def tyX5 : Nat → FieldType := fun k => match k with
  | 0 => .int
  | 1 => .int
  | 2 => .int
  | 3 => .object "PepperTables$Told"
  | 4 => .array .int
  | 5 => .array .long
  | 6 => .int
  | 7 => .int
  | 8 => .int
  | 9 => .int
  | _ => .long
theorem nmX5 : ∀ a, a < 11 → ∀ b, b < 11 → a ≠ b → (TX5 a).2.1 ≠ (TX5 b).2.1 := by decide +kernel
theorem tyX5_ok : ∀ k, k < 11 → parseFieldDescriptor (TX5 k).2.2.1 = some (tyX5 k) := by decide +kernel
theorem ee_dcX5 : ∀ k, k < 11 → (TX5 k).1 = RX5 := by decide +kernel
def RX6 : String := "PepperTables$State"
def TX6 : u_T := fun k => match k with
  | 0 => ("PepperTables$State", "sits", "I", false)
  | 1 => ("PepperTables$State", "said", "I", false)
  | 2 => ("PepperTables$State", "course", "I", false)
  | 3 => ("PepperTables$State", "seed", "I", false)
  | 4 => ("PepperTables$State", "where", "[I", true)
  | _ => ("PepperTables$State", "ground", "[I", true)
def tyX6 : Nat → FieldType := fun k => match k with
  | 0 => .int
  | 1 => .int
  | 2 => .int
  | 3 => .int
  | 4 => .array .int
  | _ => .array .int
theorem nmX6 : ∀ a, a < 6 → ∀ b, b < 6 → a ≠ b → (TX6 a).2.1 ≠ (TX6 b).2.1 := by decide +kernel
theorem tyX6_ok : ∀ k, k < 6 → parseFieldDescriptor (TX6 k).2.2.1 = some (tyX6 k) := by decide +kernel
theorem ee_dcX6 : ∀ k, k < 6 → (TX6 k).1 = RX6 := by decide +kernel
def RX7 : String := "PepperTables$Told"
def TX7 : u_T := fun k => match k with
  | 0 => ("PepperTables$Told", "people", "I", false)
  | 1 => ("PepperTables$Told", "sacks", "I", false)
  | 2 => ("PepperTables$Told", "things", "I", false)
  | 3 => ("PepperTables$Told", "units", "I", false)
  | 4 => ("PepperTables$Told", "sneeze", "I", false)
  | 5 => ("PepperTables$Told", "draw", "I", false)
  | 6 => ("PepperTables$Told", "codeLength", "I", false)
  | 7 => ("PepperTables$Told", "hasFormula", "Z", false)
  | 8 => ("PepperTables$Told", "hasSneeze", "Z", false)
  | 9 => ("PepperTables$Told", "hasDraw", "Z", false)
  | 10 => ("PepperTables$Told", "shy", "[I", true)
  | 11 => ("PepperTables$Told", "by", "[I", true)
  | 12 => ("PepperTables$Told", "to", "[I", true)
  | 13 => ("PepperTables$Told", "hot", "[I", true)
  | 14 => ("PepperTables$Told", "in", "[I", true)
  | 15 => ("PepperTables$Told", "code", "[I", true)
  | 16 => ("PepperTables$Told", "personNames", "[J", true)
  | 17 => ("PepperTables$Told", "sackNames", "[J", true)
  | _ => ("PepperTables$Told", "thingNames", "[J", true)
def tyX7 : Nat → FieldType := fun k => match k with
  | 0 => .int
  | 1 => .int
  | 2 => .int
  | 3 => .int
  | 4 => .int
  | 5 => .int
  | 6 => .int
  | 7 => .boolean
  | 8 => .boolean
  | 9 => .boolean
  | 10 => .array .int
  | 11 => .array .int
  | 12 => .array .int
  | 13 => .array .int
  | 14 => .array .int
  | 15 => .array .int
  | 16 => .array .long
  | 17 => .array .long
  | _ => .array .long
theorem nmX7 : ∀ a, a < 19 → ∀ b, b < 19 → a ≠ b → (TX7 a).2.1 ≠ (TX7 b).2.1 := by decide +kernel
theorem tyX7_ok : ∀ k, k < 19 → parseFieldDescriptor (TX7 k).2.2.1 = some (tyX7 k) := by decide +kernel
theorem ee_dcX7 : ∀ k, k < 19 → (TX7 k).1 = RX7 := by decide +kernel
def RX8 : String := "PepperTables"
def TX8 : u_T := fun k => match k with
  | 0 => ("PepperTables", "reader", "LPepperTables$Reader;", true)
  | 1 => ("PepperTables", "told", "LPepperTables$Told;", false)
  | 2 => ("PepperTables", "now", "LPepperTables$State;", true)
  | 3 => ("PepperTables", "trial", "LPepperTables$State;", true)
  | 4 => ("PepperTables", "mill", "LPepperTables$Mill;", true)
  | 5 => ("PepperTables", "acts", "LPepperTables$Acts;", true)
  | 6 => ("PepperTables", "boxes", "LPepperTables$Boxes;", true)
  | 7 => ("PepperTables", "lying", "LPepperTables$Lying;", true)
  | 8 => ("PepperTables", "hearsay", "LPepperTables$Hearsay;", true)
  | 9 => ("PepperTables", "scores", "[I", true)
  | 10 => ("PepperTables", "firstGains", "[I", true)
  | _ => ("PepperTables", "otherGains", "[I", true)
def tyX8 : Nat → FieldType := fun k => match k with
  | 0 => .object "PepperTables$Reader"
  | 1 => .object "PepperTables$Told"
  | 2 => .object "PepperTables$State"
  | 3 => .object "PepperTables$State"
  | 4 => .object "PepperTables$Mill"
  | 5 => .object "PepperTables$Acts"
  | 6 => .object "PepperTables$Boxes"
  | 7 => .object "PepperTables$Lying"
  | 8 => .object "PepperTables$Hearsay"
  | 9 => .array .int
  | 10 => .array .int
  | _ => .array .int
theorem nmX8 : ∀ a, a < 12 → ∀ b, b < 12 → a ≠ b → (TX8 a).2.1 ≠ (TX8 b).2.1 := by decide +kernel
theorem tyX8_ok : ∀ k, k < 12 → parseFieldDescriptor (TX8 k).2.2.1 = some (tyX8 k) := by decide +kernel
theorem ee_dcX8 : ∀ k, k < 12 → (TX8 k).1 = RX8 := by decide +kernel
def RX9 : String := "PepperTablesModel"
def TX9 : u_T := fun k => match k with
  | 0 => ("PepperTablesModel", "tape", "[B", true)
  | 1 => ("PepperTablesModel", "text", "[B", true)
  | 2 => ("PepperTablesModel", "taped", "I", false)
  | 3 => ("PepperTablesModel", "size", "I", false)
  | 4 => ("PepperTablesModel", "faultKind", "I", false)
  | 5 => ("PepperTablesModel", "faultPlace", "I", false)
  | 6 => ("PepperTablesModel", "at", "I", false)
  | 7 => ("PepperTablesModel", "end", "I", false)
  | 8 => ("PepperTablesModel", "token", "I", false)
  | 9 => ("PepperTablesModel", "number", "I", false)
  | 10 => ("PepperTablesModel", "name", "J", false)
  | 11 => ("PepperTablesModel", "people", "[I", true)
  | 12 => ("PepperTablesModel", "sacks", "[I", true)
  | 13 => ("PepperTablesModel", "things", "[I", true)
  | 14 => ("PepperTablesModel", "units", "[I", true)
  | 15 => ("PepperTablesModel", "sneeze", "[I", true)
  | 16 => ("PepperTablesModel", "draw", "[I", true)
  | 17 => ("PepperTablesModel", "told", "[I", true)
  | 18 => ("PepperTablesModel", "shy", "[I", true)
  | 19 => ("PepperTablesModel", "from", "[I", true)
  | 20 => ("PepperTablesModel", "whom", "[I", true)
  | 21 => ("PepperTablesModel", "hot", "[I", true)
  | 22 => ("PepperTablesModel", "inSack", "[I", true)
  | 23 => ("PepperTablesModel", "ruleFrom", "[I", true)
  | 24 => ("PepperTablesModel", "ruleTo", "[I", true)
  | 25 => ("PepperTablesModel", "pName", "[J", true)
  | 26 => ("PepperTablesModel", "sName", "[J", true)
  | 27 => ("PepperTablesModel", "tName", "[J", true)
  | 28 => ("PepperTablesModel", "code", "[I", true)
  | 29 => ("PepperTablesModel", "codeNumber", "[I", true)
  | 30 => ("PepperTablesModel", "eWhat", "[I", true)
  | 31 => ("PepperTablesModel", "eSign", "[I", true)
  | 32 => ("PepperTablesModel", "pile", "[I", true)
  | 33 => ("PepperTablesModel", "bank", "I", false)
  | 34 => ("PepperTablesModel", "rb", "I", false)
  | 35 => ("PepperTablesModel", "codes", "I", false)
  | 36 => ("PepperTablesModel", "within", "I", false)
  | 37 => ("PepperTablesModel", "piled", "I", false)
  | 38 => ("PepperTablesModel", "unitsInRule", "I", false)
  | 39 => ("PepperTablesModel", "askThing", "I", false)
  | 40 => ("PepperTablesModel", "askSack", "I", false)
  | 41 => ("PepperTablesModel", "askShy", "I", false)
  | 42 => ("PepperTablesModel", "all", "[I", true)
  | 43 => ("PepperTablesModel", "thoughtThing", "I", false)
  | 44 => ("PepperTablesModel", "thoughtShy", "I", false)
  | 45 => ("PepperTablesModel", "was", "[I", true)
  | 46 => ("PepperTablesModel", "acts", "I", false)
  | 47 => ("PepperTablesModel", "undone", "I", false)
  | 48 => ("PepperTablesModel", "kept", "[I", true)
  | 49 => ("PepperTablesModel", "laidRow", "[I", true)
  | 50 => ("PepperTablesModel", "laid", "I", false)
  | 51 => ("PepperTablesModel", "feasts", "[I", true)
  | 52 => ("PepperTablesModel", "manyBy", "[I", true)
  | 53 => ("PepperTablesModel", "sSack", "[I", true)
  | 54 => ("PepperTablesModel", "sMany", "[I", true)
  | 55 => ("PepperTablesModel", "sIs", "[I", true)
  | 56 => ("PepperTablesModel", "sTold", "[I", true)
  | 57 => ("PepperTablesModel", "sUntold", "[I", true)
  | 58 => ("PepperTablesModel", "parts", "[I", true)
  | 59 => ("PepperTablesModel", "byMany", "[I", true)
  | 60 => ("PepperTablesModel", "heards", "I", false)
  | 61 => ("PepperTablesModel", "time", "I", false)
  | 62 => ("PepperTablesModel", "fitting", "I", false)
  | 63 => ("PepperTablesModel", "boxAll", "[I", true)
  | _ => ("PepperTablesModel", "isBoxed", "[Z", true)
def tyX9 : Nat → FieldType := fun k => match k with
  | 0 => .array .byte
  | 1 => .array .byte
  | 2 => .int
  | 3 => .int
  | 4 => .int
  | 5 => .int
  | 6 => .int
  | 7 => .int
  | 8 => .int
  | 9 => .int
  | 10 => .long
  | 11 => .array .int
  | 12 => .array .int
  | 13 => .array .int
  | 14 => .array .int
  | 15 => .array .int
  | 16 => .array .int
  | 17 => .array .int
  | 18 => .array .int
  | 19 => .array .int
  | 20 => .array .int
  | 21 => .array .int
  | 22 => .array .int
  | 23 => .array .int
  | 24 => .array .int
  | 25 => .array .long
  | 26 => .array .long
  | 27 => .array .long
  | 28 => .array .int
  | 29 => .array .int
  | 30 => .array .int
  | 31 => .array .int
  | 32 => .array .int
  | 33 => .int
  | 34 => .int
  | 35 => .int
  | 36 => .int
  | 37 => .int
  | 38 => .int
  | 39 => .int
  | 40 => .int
  | 41 => .int
  | 42 => .array .int
  | 43 => .int
  | 44 => .int
  | 45 => .array .int
  | 46 => .int
  | 47 => .int
  | 48 => .array .int
  | 49 => .array .int
  | 50 => .int
  | 51 => .array .int
  | 52 => .array .int
  | 53 => .array .int
  | 54 => .array .int
  | 55 => .array .int
  | 56 => .array .int
  | 57 => .array .int
  | 58 => .array .int
  | 59 => .array .int
  | 60 => .int
  | 61 => .int
  | 62 => .int
  | 63 => .array .int
  | _ => .array .boolean
theorem nmX9 : ∀ a, a < 65 → ∀ b, b < 65 → a ≠ b → (TX9 a).2.1 ≠ (TX9 b).2.1 := by decide +kernel
theorem tyX9_ok : ∀ k, k < 65 → parseFieldDescriptor (TX9 k).2.2.1 = some (tyX9 k) := by decide +kernel
theorem ee_dcX9 : ∀ k, k < 65 → (TX9 k).1 = RX9 := by decide +kernel
abbrev vwCl : List vw_C := [(RX0, TX0, 4), (RX1, TX1, 2), (RX2, TX2, 13), (RX3, TX3, 5), (RX4, TX4, 3), (RX5, TX5, 11), (RX6, TX6, 6), (RX7, TX7, 19), (RX8, TX8, 12), (RX9, TX9, 65)]
/-- the words that a callee may keep -/
def ee_tbl : List Cond := lw_tbl.filter goodWord
def ee_own : List String := [RX0, RX1, RX2, RX3, RX4, RX5, RX6, RX7, RX8, RX9, "PepperTablesLaw", "java/lang/Character", "java/lang/Integer", "java/lang/Math", "java/lang/String", "java/lang/StringLatin1", "jdk/internal/util/Preconditions"]
def ee_at (i : Nat) (w : Cond) : Bool := decide (lw_tbl[i]? = some w) && goodWord w
theorem ee_at.mem {i : Nat} {w : Cond} (h : ee_at i w = true) : w ∈ ee_tbl := by
  have h := Bool.and_eq_true_iff.mp h
  exact List.mem_filter.mpr ⟨List.mem_of_getElem? (of_decide_eq_true h.1), h.2⟩
def ee_atL (i : Nat) (w : Cond) : Bool := decide (lw_tbl[i]? = some w)
theorem ee_atL.mem {i : Nat} {w : Cond} (h : ee_atL i w = true) : w ∈ lw_tbl := List.mem_of_getElem? (of_decide_eq_true h)
theorem ee_tbl_good : ∀ w ∈ ee_tbl, goodWord w = true := fun w h => (List.mem_filter.mp h).2
theorem ee_tbl_lw : ∀ w ∈ ee_tbl, w ∈ lw_tbl := fun w h => (List.mem_filter.mp h).1
theorem ee_wsX0 : u_ws RX0 TX0 4 = [416, 418, 420, 422].filterMap (fun i => lw_tbl[i]?) ∧ (u_ws RX0 TX0 4).all goodWord = true := by decide +kernel
theorem ee_wsX1 : u_ws RX1 TX1 2 = [433, 435].filterMap (fun i => lw_tbl[i]?) ∧ (u_ws RX1 TX1 2).all goodWord = true := by decide +kernel
theorem ee_wsX2 : u_ws RX2 TX2 13 = [485, 487, 489, 491, 493, 495, 497, 499, 501, 503, 505, 507, 509].filterMap (fun i => lw_tbl[i]?) ∧ (u_ws RX2 TX2 13).all goodWord = true := by decide +kernel
theorem ee_wsX3 : u_ws RX3 TX3 5 = [451, 453, 455, 457, 459].filterMap (fun i => lw_tbl[i]?) ∧ (u_ws RX3 TX3 5).all goodWord = true := by decide +kernel
theorem ee_wsX4 : u_ws RX4 TX4 3 = [397, 399, 401].filterMap (fun i => lw_tbl[i]?) ∧ (u_ws RX4 TX4 3).all goodWord = true := by decide +kernel
theorem ee_wsX5 : u_ws RX5 TX5 11 = [326, 328, 330, 332, 334, 336, 338, 340, 342, 344, 346].filterMap (fun i => lw_tbl[i]?) ∧ (u_ws RX5 TX5 11).all goodWord = true := by decide +kernel
theorem ee_wsX6 : u_ws RX6 TX6 6 = [375, 377, 379, 381, 383, 385].filterMap (fun i => lw_tbl[i]?) ∧ (u_ws RX6 TX6 6).all goodWord = true := by decide +kernel
theorem ee_wsX7 : u_ws RX7 TX7 19 = [220, 222, 224, 226, 228, 230, 232, 234, 236, 238, 240, 242, 244, 246, 248, 250, 252, 254, 256].filterMap (fun i => lw_tbl[i]?) ∧ (u_ws RX7 TX7 19).all goodWord = true := by decide +kernel
theorem ee_wsX8 : u_ws RX8 TX8 12 = [524, 526, 528, 530, 532, 534, 536, 538, 540, 542, 544, 546].filterMap (fun i => lw_tbl[i]?) ∧ (u_ws RX8 TX8 12).all goodWord = true := by decide +kernel
theorem ee_wsX9 : u_ws RX9 TX9 65 = [1296, 1298, 1300, 1302, 1304, 1306, 1308, 1310, 1312, 1314, 1316, 1318, 1320, 1322, 1324, 1326, 1328, 1330, 1332, 1334, 1336, 1338, 1340, 1342, 1344, 1346, 1348, 1350, 1352, 1354, 1356, 1358, 1360, 1362, 1364, 1366, 1368, 1370, 1372, 1374, 1376, 1378, 1380, 1382, 1384, 1386, 1388, 1390, 1392, 1394, 1396, 1398, 1400, 1402, 1404, 1406, 1408, 1410, 1412, 1414, 1416, 1418, 1420, 1422, 1424].filterMap (fun i => lw_tbl[i]?) ∧ (u_ws RX9 TX9 65).all goodWord = true := by decide +kernel
theorem ee_in_of {ws : List Cond} {ps : List Nat} (h : ws = ps.filterMap (fun i => lw_tbl[i]?) ∧ ws.all goodWord = true) : ∀ w ∈ ws, w ∈ ee_tbl := fun w hw => by
  have hg := List.all_eq_true.mp h.2 w hw
  rw [h.1] at hw
  obtain ⟨i, -, hi⟩ := List.mem_filterMap.mp hw
  exact List.mem_filter.mpr ⟨List.mem_of_getElem? hi, hg⟩
/-- what the tables say of a kind -/
def ee_Kd (q : vw_C) : Prop := (∀ w ∈ u_ws q.1 q.2.1 q.2.2, w ∈ ee_tbl) ∧ (∀ a, a < q.2.2 → ∀ b, b < q.2.2 → a ≠ b → (q.2.1 a).2.1 ≠ (q.2.1 b).2.1) ∧ ∃ ty : Nat → FieldType, ∀ k, k < q.2.2 → (parseFieldDescriptor (q.2.1 k).2.2.1 = some (ty k) ∧ (q.2.1 k).1 = q.1)
theorem ee_kd : ∀ (k : Nat) (q : vw_C), vwCl[k]? = some q → ee_Kd q := by
  intro k q h
  match k, h with
  | 0, h => cases h; exact ⟨ee_in_of ee_wsX0, nmX0, tyX0, fun k hk => ⟨tyX0_ok k hk, ee_dcX0 k hk⟩⟩
  | 1, h => cases h; exact ⟨ee_in_of ee_wsX1, nmX1, tyX1, fun k hk => ⟨tyX1_ok k hk, ee_dcX1 k hk⟩⟩
  | 2, h => cases h; exact ⟨ee_in_of ee_wsX2, nmX2, tyX2, fun k hk => ⟨tyX2_ok k hk, ee_dcX2 k hk⟩⟩
  | 3, h => cases h; exact ⟨ee_in_of ee_wsX3, nmX3, tyX3, fun k hk => ⟨tyX3_ok k hk, ee_dcX3 k hk⟩⟩
  | 4, h => cases h; exact ⟨ee_in_of ee_wsX4, nmX4, tyX4, fun k hk => ⟨tyX4_ok k hk, ee_dcX4 k hk⟩⟩
  | 5, h => cases h; exact ⟨ee_in_of ee_wsX5, nmX5, tyX5, fun k hk => ⟨tyX5_ok k hk, ee_dcX5 k hk⟩⟩
  | 6, h => cases h; exact ⟨ee_in_of ee_wsX6, nmX6, tyX6, fun k hk => ⟨tyX6_ok k hk, ee_dcX6 k hk⟩⟩
  | 7, h => cases h; exact ⟨ee_in_of ee_wsX7, nmX7, tyX7, fun k hk => ⟨tyX7_ok k hk, ee_dcX7 k hk⟩⟩
  | 8, h => cases h; exact ⟨ee_in_of ee_wsX8, nmX8, tyX8, fun k hk => ⟨tyX8_ok k hk, ee_dcX8 k hk⟩⟩
  | 9, h => cases h; exact ⟨ee_in_of ee_wsX9, nmX9, tyX9, fun k hk => ⟨tyX9_ok k hk, ee_dcX9 k hk⟩⟩
  | k + 10, h => simp [vwCl] at h
theorem ee_okn : ∀ (k : Nat) (q : vw_C), vwCl[k]? = some q → ee_own[k]? = some q.1 := by
  intro k q h
  match k, h with
  | 0, h => cases h; rfl
  | 1, h => cases h; rfl
  | 2, h => cases h; rfl
  | 3, h => cases h; rfl
  | 4, h => cases h; rfl
  | 5, h => cases h; rfl
  | 6, h => cases h; rfl
  | 7, h => cases h; rfl
  | 8, h => cases h; rfl
  | 9, h => cases h; rfl
  | k + 10, h => simp [vwCl] at h
theorem ee_inst : ∀ (k : Nat) (q : vw_C), vwCl[k]? = some q → Cond.instantiable q.1 q.2.2 ∈ ee_tbl := by
  intro k q h
  match k, h with
  | 0, h => cases h; exact ee_at.mem (i := 405) (by decide +kernel)
  | 1, h => cases h; exact ee_at.mem (i := 426) (by decide +kernel)
  | 2, h => cases h; exact ee_at.mem (i := 463) (by decide +kernel)
  | 3, h => cases h; exact ee_at.mem (i := 440) (by decide +kernel)
  | 4, h => cases h; exact ee_at.mem (i := 389) (by decide +kernel)
  | 5, h => cases h; exact ee_at.mem (i := 143) (by decide +kernel)
  | 6, h => cases h; exact ee_at.mem (i := 353) (by decide +kernel)
  | 7, h => cases h; exact ee_at.mem (i := 149) (by decide +kernel)
  | 8, h => cases h; exact ee_at.mem (i := 135) (by decide +kernel)
  | 9, h => cases h; exact ee_at.mem (i := 1210) (by decide +kernel)
  | k + 10, h => simp [vwCl] at h
def ee_len : List Nat := [89, 11]
def ee_byt : List (List Int32) := [[112, 101, 114, 115, 111, 110, 32, 115, 97, 99, 107, 32, 116, 104, 105, 110, 103, 32, 115, 97, 105, 100, 32, 115, 110, 101, 101, 122, 101, 32, 100, 114, 97, 119, 32, 98, 121, 32, 116, 111, 32, 105, 110, 32, 111, 114, 32, 97, 110, 100, 32, 110, 111, 116, 32, 104, 111, 116, 32, 115, 104, 121, 32, 103, 117, 101, 115, 116, 115, 32, 103, 114, 111, 117, 110, 100, 32, 104, 101, 97, 116, 32, 99, 111, 117, 114, 115, 101, 32], [59, 40, 41, 60, 62, 61, 43, 45, 42, 47, 37]]
def ee_six : List Nat := [30, 73]
def ee_stx : List String := ["person sack thing said sneeze draw by to in or and not hot shy guests ground heat course ", ";()<>=+-*/%"]
end
section
/-! values, cells, symbols, and what they stand for -/
/-- a fact of a symbol: its kind, another symbol (or a modulus), a number -/
abbrev ee_fa : Type := Nat × Nat × Int
/-- of a symbol: its number, its bounds, facts -/
abbrev ee_ve : Type := Nat × Int × Int × List ee_fa
/-- how many symbols there are; what is known of them, the newest first -/
abbrev ee_iv : Type := Nat × List ee_ve
/-- a cell: an object (its kind's number, its fields), or an array (its kind: 0 int, 1 byte, 2 boolean, 3 long, 4 the formulas' code; its length; the period and the segments of its elements' bounds; elements that are named) -/
abbrev ee_cell : Type := (Nat × List Value) ⊕ (Nat × Nat × Nat × List (Nat × Int × Int) × List (Nat × Value))
abbrev ee_w : Type := List ee_cell
/-- pc, locals, stack, cells, symbols, cells and slots made so far, values kept for the callers -/
abbrev ee_st : Type := Nat × List (Nat × Value) × List Value × ee_w × ee_iv × Nat × Nat × List Value
def ee_all {α β : Type} (R : α → β → Prop) : List α → List β → Prop
  | [], [] => True
  | a :: l, b :: k => R a b ∧ ee_all R l k
  | _, _ => False
theorem ee_all.imp {α β : Type} {R S : α → β → Prop} (h : ∀ a b, R a b → S a b) : ∀ {l : List α} {k : List β}, ee_all R l k → ee_all S l k
  | [], [], _ => trivial
  | a :: l, b :: k, q => ⟨h a b q.1, ee_all.imp h q.2⟩
  | [], _ :: _, q => q.elim
  | _ :: _, [], q => q.elim
theorem ee_all.len {α β : Type} {R : α → β → Prop} : ∀ {l : List α} {k : List β}, ee_all R l k → l.length = k.length
  | [], [], _ => rfl
  | a :: l, b :: k, q => by rw [List.length_cons, List.length_cons, ee_all.len q.2]
  | [], _ :: _, q => q.elim
  | _ :: _, [], q => q.elim
theorem ee_all.get {α β : Type} {R : α → β → Prop} : ∀ {l : List α} {k : List β} {i : Nat} {a : α}, ee_all R l k → l[i]? = some a → ∃ b, k[i]? = some b ∧ R a b
  | [], [], i, a, _, h => by simp at h
  | x :: l, y :: k, 0, a, q, h => by
    rw [List.getElem?_cons_zero] at h
    cases h
    exact ⟨y, List.getElem?_cons_zero, q.1⟩
  | x :: l, y :: k, i + 1, a, q, h => by
    rw [List.getElem?_cons_succ] at h
    obtain ⟨b, h1, h2⟩ := ee_all.get q.2 h
    exact ⟨b, by rw [List.getElem?_cons_succ]; exact h1, h2⟩
  | [], _ :: _, _, _, q, _ => q.elim
  | _ :: _, [], _, _, q, _ => q.elim
theorem ee_all.set {α β : Type} {R : α → β → Prop} {a : α} {b : β} (hab : R a b) : ∀ {l : List α} {k : List β} {i : Nat}, ee_all R l k → ee_all R (l.set i a) (k.set i b)
  | [], [], _, _ => trivial
  | x :: l, y :: k, 0, q => ⟨hab, q.2⟩
  | x :: l, y :: k, i + 1, q => ⟨q.1, ee_all.set hab q.2⟩
  | [], _ :: _, _, q => q.elim
  | _ :: _, [], _, q => q.elim
theorem ee_all.app {α β : Type} {R : α → β → Prop} : ∀ {l l2 : List α} {k k2 : List β}, ee_all R l k → ee_all R l2 k2 → ee_all R (l ++ l2) (k ++ k2)
  | [], _, [], _, _, h => h
  | a :: l, _, b :: k, _, q, h => ⟨q.1, ee_all.app q.2 h⟩
  | [], _, _ :: _, _, q, _ => q.elim
  | _ :: _, _, [], _, q, _ => q.elim
theorem ee_all.split {α β : Type} {R : α → β → Prop} : ∀ {l l2 : List α} {k : List β}, ee_all R (l ++ l2) k → ∃ k1 k2, k = k1 ++ k2 ∧ ee_all R l k1 ∧ ee_all R l2 k2
  | [], _, k, h => ⟨[], k, rfl, trivial, h⟩
  | a :: l, l2, [], h => h.elim
  | a :: l, l2, b :: k, h => by
    obtain ⟨k1, k2, e, h1, h2⟩ := ee_all.split (l := l) (l2 := l2) (k := k) h.2
    exact ⟨b :: k1, k2, by rw [e]; rfl, ⟨h.1, h1⟩, h2⟩
theorem ee_all.split2 {α β : Type} {R : α → β → Prop} : ∀ {l : List α} {k1 k2 : List β}, ee_all R l (k1 ++ k2) → ee_all R (l.take k1.length) k1 ∧ ee_all R (l.drop k1.length) k2
  | l, [], k2, h => ⟨by simp [ee_all], by simpa using h⟩
  | [], b :: k1, k2, h => h.elim
  | a :: l, b :: k1, k2, h => by
    obtain ⟨h1, h2⟩ := ee_all.split2 (l := l) (k1 := k1) (k2 := k2) h.2
    exact ⟨⟨h.1, by simpa using h1⟩, by simpa using h2⟩
theorem ee_all.filter {α β : Type} {R : α → β → Prop} {p : α → Bool} {q : β → Bool} (h : ∀ a b, R a b → p a = q b) : ∀ {l : List α} {k : List β}, ee_all R l k → ee_all R (l.filter p) (k.filter q)
  | [], [], _ => trivial
  | a :: l, b :: k, z => by
    have ih := ee_all.filter h z.2
    have e := h a b z.1
    cases hp : p a with
    | true =>
      rw [List.filter_cons_of_pos hp, List.filter_cons_of_pos (by rw [← e]; exact hp)]
      exact ⟨z.1, ih⟩
    | false =>
      rw [List.filter_cons_of_neg (by rw [hp]; simp), List.filter_cons_of_neg (by rw [← e, hp]; simp)]
      exact ih
  | [], _ :: _, z => z.elim
  | _ :: _, [], z => z.elim
theorem ee_all.rev {α β : Type} {R : α → β → Prop} : ∀ {l : List α} {k : List β}, ee_all R l k → ee_all R l.reverse k.reverse
  | [], [], _ => trivial
  | a :: l, b :: k, q => by
    rw [List.reverse_cons, List.reverse_cons]
    exact ee_all.app (ee_all.rev q.2) ⟨q.1, trivial⟩
  | [], _ :: _, q => q.elim
  | _ :: _, [], q => q.elim
/-- what a symbolic value stands for: numbers of the symbols, addresses of the cells, what lies outside (addresses, and from 3000000 on longs). retAddr: a symbol; double 0: any long; double (k + 1): the long k of those outside; float: any reference -/
def ee_v (ns : List Int32) (as : List Nat) (ex : Nat → Nat) (x v : Value) : Prop := match x with
  | .int c => v = .int c
  | .retAddr k => ∃ z, ns[k]? = some z ∧ v = .int z
  | .ref k => if k < 1000000 then ∃ a, as[k]? = some a ∧ v = .ref a else v = .ref (ex k)
  | .null => v = .null
  | .long c => v = .long c
  | .float _ => v = .null ∨ ∃ a, v = .ref a
  | .double k => if k = 0 then ∃ z, v = .long z else v = .long (Int64.ofNat (ex (3000000 + k.toNat)))
theorem ee_get_app {α : Type} {l r : List α} {k : Nat} {a : α} (h : l[k]? = some a) : (l ++ r)[k]? = some a := by
  rw [List.getElem?_append_left (List.getElem?_eq_some_iff.mp h).1]
  exact h
theorem ee_v.mono {ns : List Int32} {as : List Nat} {ex : Nat → Nat} {x v : Value} (n2 : List Int32) (a2 : List Nat) (h : ee_v ns as ex x v) : ee_v (ns ++ n2) (as ++ a2) ex x v := by
  cases x with
  | int c => exact h
  | retAddr k =>
    obtain ⟨z, h1, h2⟩ := h
    exact ⟨z, ee_get_app h1, h2⟩
  | ref k =>
    unfold ee_v at h ⊢
    by_cases hk : k < 1000000
    · simp only [hk, if_true] at h ⊢
      obtain ⟨a, h1, h2⟩ := h
      exact ⟨a, ee_get_app h1, h2⟩
    · simp only [hk, if_false] at h ⊢
      exact h
  | null => exact h
  | long z => exact h
  | float z => exact h
  | double z => exact h
theorem ee_v.dbl {ns : List Int32} {as : List Nat} {ex : Nat → Nat} {k : UInt64} {v : Value} (h : ee_v ns as ex (.double k) v) : ∃ z, v = .long z := by
  unfold ee_v at h
  by_cases hk : k = 0
  · simp only [hk, if_true] at h
    exact h
  · simp only [hk, if_false] at h
    exact ⟨_, h⟩
def ee_cat (x : Value) : Nat := match x with
  | .long _ => 2
  | .double _ => 2
  | _ => 1
theorem ee_v.cat {ns : List Int32} {as : List Nat} {ex : Nat → Nat} {x v : Value} (h : ee_v ns as ex x v) : v.category = ee_cat x := by
  cases x with
  | int c => rw [show v = .int c from h]; rfl
  | retAddr k =>
    obtain ⟨z, h1, h2⟩ := h
    rw [h2]; rfl
  | ref k =>
    unfold ee_v at h
    by_cases hk : k < 1000000
    · simp only [hk, if_true] at h
      obtain ⟨a, h1, h2⟩ := h
      rw [h2]; rfl
    · simp only [hk, if_false] at h
      rw [h]; rfl
  | null => rw [show v = .null from h]; rfl
  | long z => rw [show v = .long z from h]; rfl
  | float z =>
    rcases h with h | ⟨a, h⟩ <;> (rw [h]; rfl)
  | double z =>
    obtain ⟨z, h⟩ := h.dbl
    rw [h]; rfl
/-- the bounds of an array's element -/
def ee_seg (P : Nat) (sg : List (Nat × Int × Int)) (j : Nat) : Option (Int × Int) := match sg.find? (fun s => Nat.blt (if P = 0 then j else j % P) s.1) with
  | some s => some s.2
  | none => none
def ee_sgp (P : Nat) (sg : List (Nat × Int × Int)) (j : Nat) (z : Int32) : Prop := match ee_seg P sg j with
  | some q => q.1 ≤ z.toInt ∧ z.toInt ≤ q.2
  | none => True
/-- what an array's element is -/
def ee_el (ns : List Int32) (as : List Nat) (ex : Nat → Nat) (P : Nat) (sg : List (Nat × Int × Int)) (ov : List (Nat × Value)) (j : Nat) (z : Int32) : Prop := match ov.lookup j with
  | some x => ee_v ns as ex x (.int z)
  | none => ee_sgp P sg j z
theorem ee_el.mono {ns : List Int32} {as : List Nat} {ex : Nat → Nat} {P : Nat} {sg : List (Nat × Int × Int)} {ov : List (Nat × Value)} {j : Nat} {z : Int32} (n2 : List Int32) (a2 : List Nat) (h : ee_el ns as ex P sg ov j z) : ee_el (ns ++ n2) (as ++ a2) ex P sg ov j z := by
  unfold ee_el at h ⊢
  cases hl : ov.lookup j with
  | none => rw [hl] at h; exact h
  | some x => rw [hl] at h; exact ee_v.mono n2 a2 h
/-- a formula's code: how high the pile is behind a code -/
def ee_rs (c : Int32) (h : Nat) : Option Nat := if c = 126 then (if 1 ≤ h then some h else none) else if 97 ≤ c.toInt ∧ c.toInt ≤ 122 then (if h < 60 then some (h + 1) else none) else (if 2 ≤ h then some (h - 1) else none)
def ee_rw (f : Nat → Int32) : Nat → Nat → Nat → Option Nat
  | _, 0, h => some h
  | a, n + 1, h => match ee_rs (f a) h with
    | some h' => ee_rw f (a + 1) n h'
    | none => none
/-- a formula's code from a place to another one is whole -/
def ee_rp (f : Nat → Int32) (a b : Int32) : Prop := 0 ≤ a.toInt ∧ b.toInt ≤ 1120 ∧ ∃ h, ee_rw f a.toInt.toNat (b.toInt - a.toInt).toNat 0 = some h
/-- the codes of both banks: if the told one has a formula, it is whole -/
def ee_rq (ns : List Int32) (as : List Nat) (ex : Nat → Nat) (ov : List (Nat × Value)) (f : Nat → Int32) : Prop := match ov with
  | [(_, b), (_, f0), (_, e0), (_, t0), (_, f1), (_, e1), (_, t1)] => ∃ zb a0 c0 d0 a1 c1 d1 : Int32, ee_v ns as ex b (.int zb) ∧ (ee_v ns as ex f0 (.int a0) ∧ ee_v ns as ex e0 (.int c0) ∧ ee_v ns as ex t0 (.int d0)) ∧ (ee_v ns as ex f1 (.int a1) ∧ ee_v ns as ex e1 (.int c1) ∧ ee_v ns as ex t1 (.int d1)) ∧ (zb = 0 → d0.toInt % 2 = 1 → ee_rp f a0 c0) ∧ (zb = 1 → d1.toInt % 2 = 1 → ee_rp f a1 c1)
  | _ => True
theorem ee_rq.mono {ns : List Int32} {as : List Nat} {ex : Nat → Nat} {ov : List (Nat × Value)} {f : Nat → Int32} (n2 : List Int32) (a2 : List Nat) (h : ee_rq ns as ex ov f) : ee_rq (ns ++ n2) (as ++ a2) ex ov f := by
  unfold ee_rq at h ⊢
  split at h
  · obtain ⟨zb, x0, c0, d0, x1, c1, d1, g1, ⟨g2, g3, g4⟩, ⟨g5, g6, g7⟩, g8⟩ := h
    exact ⟨zb, x0, c0, d0, x1, c1, d1, g1.mono n2 a2, ⟨g2.mono n2 a2, g3.mono n2 a2, g4.mono n2 a2⟩, ⟨g5.mono n2 a2, g6.mono n2 a2, g7.mono n2 a2⟩, g8⟩
  · trivial
def ee_c (ns : List Int32) (as : List Nat) (ex : Nat → Nat) (dA : Nat → ClassId) (x : ee_cell) (e : va_E) : Prop := match x with
  | .inl (ci, fs) => ∃ vs, e = .inr (ci, vs) ∧ ee_all (ee_v ns as ex) fs vs
  | .inr (t, n, P, sg, ov) => if t = 3 then ∃ f : Nat → Int64, e = .inl (dA 3, n, .inr (.inl f)) else if t = 4 then ∃ f : Nat → Int32, e = .inl (dA 0, n, .inl f) ∧ ee_rq ns as ex ov f else t < 3 ∧ ∃ f : Nat → Int32, e = .inl (dA t, n, .inl f) ∧ ∀ j, j < n → ee_el ns as ex P sg ov j (f j)
theorem ee_c.mono {ns : List Int32} {as : List Nat} {ex : Nat → Nat} {dA : Nat → ClassId} {x : ee_cell} {e : va_E} (n2 : List Int32) (a2 : List Nat) (h : ee_c ns as ex dA x e) : ee_c (ns ++ n2) (as ++ a2) ex dA x e := by
  match x, h with
  | .inl (ci, fs), ⟨vs, h1, h2⟩ => exact ⟨vs, h1, h2.imp (fun a b q => ee_v.mono n2 a2 q)⟩
  | .inr (t, n, P, sg, ov), h =>
    unfold ee_c at h ⊢
    by_cases ht : t = 3
    · simp only [ht, if_true] at h ⊢
      exact h
    · simp only [ht, if_false] at h ⊢
      by_cases h4 : t = 4
      · simp only [h4, if_true] at h ⊢
        obtain ⟨f, h1, h2⟩ := h
        exact ⟨f, h1, h2.mono n2 a2⟩
      · simp only [h4, if_false] at h ⊢
        obtain ⟨h0, f, h1, h2⟩ := h
        exact ⟨h0, f, h1, fun j hj => (h2 j hj).mono n2 a2⟩
/-- the cells -/
def ee_wr (ns : List Int32) (as : List Nat) (ex : Nat → Nat) (dA : Nat → ClassId) (w : ee_w) (ws : va_W) : Prop := as = ws.map (fun q => q.1) ∧ ee_all (fun x q => ee_c ns as ex dA x q.2) w ws
/-! the symbols -/
def ee_fp (ns : List Int32) (z : Int32) (f : ee_fa) : Prop := match f with
  | (0, j, d) => ∃ y, ns[j]? = some y ∧ z.toInt = y.toInt + d
  | (1, j, d) => ∃ y, ns[j]? = some y ∧ z.toInt ≤ y.toInt + d
  | (2, j, d) => ∃ y, ns[j]? = some y ∧ y.toInt + d ≤ z.toInt
  | (3, j, d) => ∃ y u, ns[j]? = some y ∧ ns[d.toNat]? = some u ∧ z = y + u
  | (4, j, d) => z.toInt % (j : Int) = d
  | (5, j, d) => ∃ y, ns[j]? = some y ∧ z.toInt + y.toInt ≤ d
  | (6, _, _) => z.toInt ≠ 0
  | _ => True
theorem ee_fp.mono {ns : List Int32} {z : Int32} {f : ee_fa} (n2 : List Int32) (h : ee_fp ns z f) : ee_fp (ns ++ n2) z f := by
  unfold ee_fp at h ⊢
  split at h
  · obtain ⟨y, h1, h2⟩ := h; exact ⟨y, ee_get_app h1, h2⟩
  · obtain ⟨y, h1, h2⟩ := h; exact ⟨y, ee_get_app h1, h2⟩
  · obtain ⟨y, h1, h2⟩ := h; exact ⟨y, ee_get_app h1, h2⟩
  · obtain ⟨y, u, h1, h2, h3⟩ := h; exact ⟨y, u, ee_get_app h1, ee_get_app h2, h3⟩
  · exact h
  · obtain ⟨y, h1, h2⟩ := h; exact ⟨y, ee_get_app h1, h2⟩
  · exact h
  · trivial
/-- what is known of a symbol holds -/
def ee_tr (ns : List Int32) (q : ee_ve) : Prop := ∃ z, ns[q.1]? = some z ∧ q.2.1 ≤ z.toInt ∧ z.toInt ≤ q.2.2.1 ∧ ∀ f ∈ q.2.2.2, ee_fp ns z f
theorem ee_tr.mono {ns : List Int32} {q : ee_ve} (n2 : List Int32) (h : ee_tr ns q) : ee_tr (ns ++ n2) q := by
  obtain ⟨z, h1, h2, h3, h4⟩ := h
  exact ⟨z, ee_get_app h1, h2, h3, fun f hf => (h4 f hf).mono n2⟩
def ee_ok (ns : List Int32) (iv : ee_iv) : Prop := iv.1 = ns.length ∧ ∀ q ∈ iv.2, ee_tr ns q
/-- one more symbol -/
def ee_ps (iv : ee_iv) (lo hi : Int) (fs : List ee_fa) : ee_iv := (iv.1 + 1, (iv.1, lo, hi, fs) :: iv.2)
theorem ee_last {ns : List Int32} (z : Int32) : (ns ++ [z])[ns.length]? = some z := by
  rw [List.getElem?_append_right (Nat.le_refl _), Nat.sub_self]; rfl
theorem ee_ok.push {ns : List Int32} {iv : ee_iv} (h : ee_ok ns iv) {z : Int32} {lo hi : Int} {fs : List ee_fa} (h1 : lo ≤ z.toInt) (h2 : z.toInt ≤ hi) (h3 : ∀ f ∈ fs, ee_fp ns z f) : ee_ok (ns ++ [z]) (ee_ps iv lo hi fs) := by
  refine ⟨by rw [List.length_append, ← h.1]; rfl, fun q hq => ?_⟩
  rcases List.mem_cons.mp hq with rfl | hq
  · exact ⟨z, by show (ns ++ [z])[iv.1]? = some z; rw [h.1]; exact ee_last z, h1, h2, fun f hf => (h3 f hf).mono [z]⟩
  · exact (h.2 q hq).mono [z]
theorem ee_ok.last {ns : List Int32} {iv : ee_iv} (h : ee_ok ns iv) (z : Int32) : (ns ++ [z])[iv.1]? = some z := by
  rw [h.1]; exact ee_last z
/-- what is known of a symbol, the newest -/
def ee_at1 (iv : ee_iv) (k : Nat) : Option ee_ve := iv.2.find? (fun q => Nat.beq q.1 k)
theorem ee_at1.ok {ns : List Int32} {iv : ee_iv} {k : Nat} {q : ee_ve} (h : ee_ok ns iv) (hq : ee_at1 iv k = some q) : ∃ z, ns[k]? = some z ∧ q.2.1 ≤ z.toInt ∧ z.toInt ≤ q.2.2.1 ∧ ∀ f ∈ q.2.2.2, ee_fp ns z f := by
  have h1 := h.2 q (List.mem_of_find?_eq_some hq)
  have h2 : Nat.beq q.1 k = true := List.find?_some (p := fun q : ee_ve => Nat.beq q.1 k) hq
  have h2 := Nat.eq_of_beq_eq_true h2
  rw [← h2]
  exact h1
/-- an int's bounds -/
def ee_it (iv : ee_iv) (x : Value) : Option (Int × Int) := match x with
  | .int c => some (c.toInt, c.toInt)
  | .retAddr k => match ee_at1 iv k with
    | some q => some (q.2.1, q.2.2.1)
    | none => none
  | _ => none
theorem ee_it.int {ns : List Int32} {as : List Nat} {ex : Nat → Nat} {iv : ee_iv} {x v : Value} {a b : Int} (hk : ee_ok ns iv) (h : ee_v ns as ex x v) (hi : ee_it iv x = some (a, b)) : ∃ z : Int32, v = .int z ∧ a ≤ z.toInt ∧ z.toInt ≤ b := by
  cases x with
  | int c =>
    cases hi
    exact ⟨c, h, Int.le_refl _, Int.le_refl _⟩
  | retAddr k =>
    obtain ⟨z, h1, h2⟩ := h
    simp only [ee_it] at hi
    cases hq : ee_at1 iv k with
    | none => rw [hq] at hi; cases hi
    | some q =>
      rw [hq] at hi
      cases hi
      obtain ⟨y, g1, g2, g3, -⟩ := ee_at1.ok hk hq
      rw [h1] at g1
      cases g1
      exact ⟨z, h2, g2, g3⟩
  | _ => cases hi
/-- an int that is known -/
def ee_cn (iv : ee_iv) (x : Value) : Option Int32 := match x with
  | .int c => some c
  | .retAddr k => match ee_at1 iv k with
    | some q => if q.2.1 = q.2.2.1 then some (Int32.ofInt q.2.1) else none
    | none => none
  | _ => none
theorem ee_cn.int {ns : List Int32} {as : List Nat} {ex : Nat → Nat} {iv : ee_iv} {x v : Value} {c : Int32} (hk : ee_ok ns iv) (h : ee_v ns as ex x v) (hi : ee_cn iv x = some c) : v = .int c := by
  cases x with
  | int d =>
    cases hi
    exact h
  | retAddr k =>
    obtain ⟨z, h1, h2⟩ := h
    simp only [ee_cn] at hi
    cases hq : ee_at1 iv k with
    | none => rw [hq] at hi; cases hi
    | some q =>
      rw [hq] at hi
      obtain ⟨y, g1, g2, g3, -⟩ := ee_at1.ok hk hq
      rw [h1] at g1
      cases g1
      by_cases e : q.2.1 = q.2.2.1
      · simp only [e, if_true] at hi
        cases hi
        rw [h2, ← show z.toInt = q.2.2.1 by omega, Int32.ofInt_toInt]
      · simp only [e, if_false] at hi
        cases hi
  | _ => cases hi
/-- closer bounds -/
def ee_put (iv : ee_iv) (x : Value) (lo hi : Int) : ee_iv := match x with
  | .retAddr k => match ee_at1 iv k with
    | some q => (iv.1, (k, lo, hi, q.2.2.2) :: iv.2)
    | none => iv
  | _ => iv
theorem ee_put.ok {ns : List Int32} {as : List Nat} {ex : Nat → Nat} {iv : ee_iv} {x : Value} {z : Int32} {lo hi : Int} (hk : ee_ok ns iv) (h : ee_v ns as ex x (.int z)) (h1 : lo ≤ z.toInt) (h2 : z.toInt ≤ hi) : ee_ok ns (ee_put iv x lo hi) := by
  cases x with
  | retAddr k =>
    obtain ⟨y, g1, g2⟩ := h
    cases g2
    simp only [ee_put]
    cases hq : ee_at1 iv k with
    | none => exact hk
    | some q =>
      refine ⟨hk.1, fun r hr => ?_⟩
      rcases List.mem_cons.mp hr with rfl | hr
      · obtain ⟨y, f1, -, -, f4⟩ := ee_at1.ok hk hq
        rw [g1] at f1
        cases f1
        exact ⟨z, g1, h1, h2, f4⟩
      · exact hk.2 r hr
  | _ => exact hk
def ee_mx (a b : Int) : Int := if a ≤ b then b else a
def ee_mn (a b : Int) : Int := if a ≤ b then a else b
theorem ee_mx_le {a b c : Int} (h1 : a ≤ c) (h2 : b ≤ c) : ee_mx a b ≤ c := by unfold ee_mx; split <;> assumption
theorem ee_le_mn {a b c : Int} (h1 : c ≤ a) (h2 : c ≤ b) : c ≤ ee_mn a b := by unfold ee_mn; split <;> assumption
/-- is one known not to be 0, and the other one 0? -/
def ee_nz (iv : ee_iv) (x y : Value) : Bool := match x, y with
  | .retAddr k, .int c => (match ee_at1 iv k with
    | some q => (match q.2.2.2 with
      | (6, _, _) :: _ => decide (c = 0)
      | _ => false)
    | none => false)
  | _, _ => false
theorem ee_nz.ok {ns : List Int32} {as : List Nat} {ex : Nat → Nat} {iv : ee_iv} {x y : Value} {p q : Int32} (hk : ee_ok ns iv) (hx : ee_v ns as ex x (.int p)) (hy : ee_v ns as ex y (.int q)) (h : ee_nz iv x y = true) : p.toInt ≠ q.toInt := by
  unfold ee_nz at h
  split at h
  · rename_i k c
    cases hq : ee_at1 iv k with
    | none => rw [hq] at h; cases h
    | some r =>
      rw [hq] at h
      simp only at h
      split at h
      · rename_i j d l hl
        have hc := of_decide_eq_true h
        subst hc
        obtain ⟨z, g1, -, -, g4⟩ := ee_at1.ok hk hq
        obtain ⟨z2, g5, g6⟩ := hx
        cases g6
        rw [g1] at g5
        cases g5
        have := g4 (6, j, d) (by rw [hl]; exact List.mem_cons_self)
        cases (show Value.int q = Value.int 0 from hy)
        rw [Int32.toInt_zero]
        exact this
      · cases h
  · cases h
/-- what the answer of a comparison says of both bounds; none: it cannot be -/
def ee_rf (c : ClassFile.Cond) (iv : ee_iv) (x y : Value) (a b d e : Int) : List ee_iv := match c with
  | .eq => if ee_nz iv x y = true then [] else if ee_mx a d ≤ ee_mn b e then [ee_put (ee_put iv x (ee_mx a d) (ee_mn b e)) y (ee_mx a d) (ee_mn b e)] else []
  | .ne => if x = y then [] else if d = e then
      (if a = d then (if b = d then [] else [ee_put iv x (a + 1) b]) else if b = d then [ee_put iv x a (b - 1)] else [iv])
    else [iv]
  | .lt => if x = y then [] else if a ≤ ee_mn b (e - 1) ∧ ee_mx d (a + 1) ≤ e then [ee_put (ee_put iv x a (ee_mn b (e - 1))) y (ee_mx d (a + 1)) e] else []
  | .ge => if ee_mx a d ≤ b ∧ d ≤ ee_mn e b then [ee_put (ee_put iv x (ee_mx a d) b) y d (ee_mn e b)] else []
  | .gt => if x = y then [] else if d ≤ ee_mn e (b - 1) ∧ ee_mx a (d + 1) ≤ b then [ee_put (ee_put iv y d (ee_mn e (b - 1))) x (ee_mx a (d + 1)) b] else []
  | .le => if ee_mx d a ≤ e ∧ a ≤ ee_mn b e then [ee_put (ee_put iv y (ee_mx d a) e) x a (ee_mn b e)] else []
def ee_cd (c : ClassFile.Cond) (x y : Int) : Prop := match c with
  | .eq => x = y
  | .ne => x ≠ y
  | .lt => x < y
  | .ge => y ≤ x
  | .gt => y < x
  | .le => x ≤ y
theorem ee_v.one {ns : List Int32} {as : List Nat} {ex : Nat → Nat} {x : Value} {z y : Int32} (h : ee_v ns as ex x (.int z)) (h2 : ee_v ns as ex x (.int y)) : z = y := by
  cases x with
  | int c =>
    have e1 : Value.int z = Value.int c := h
    have e2 : Value.int y = Value.int c := h2
    cases e1; cases e2; rfl
  | retAddr k =>
    obtain ⟨q, g1, g2⟩ := h
    obtain ⟨r, g3, g4⟩ := h2
    rw [g1] at g3
    cases g3; cases g2; cases g4; rfl
  | ref k =>
    unfold ee_v at h
    by_cases hk : k < 1000000
    · simp only [hk, if_true] at h
      obtain ⟨a, h1, h2⟩ := h
      cases h2
    · simp only [hk, if_false] at h
      cases h
  | null => cases (show Value.int z = Value.null from h)
  | long q => cases (show Value.int z = Value.long q from h)
  | float q =>
    rcases h with h | ⟨a, h⟩ <;> cases h
  | double q =>
    obtain ⟨q, h⟩ := h.dbl
    cases h
theorem ee_rf.ok {ns : List Int32} {as : List Nat} {ex : Nat → Nat} {iv : ee_iv} {x y : Value} {p q : Int32} {a b d e : Int} {c : ClassFile.Cond} (hk : ee_ok ns iv) (hx : ee_v ns as ex x (.int p)) (hy : ee_v ns as ex y (.int q)) (h1 : a ≤ p.toInt) (h2 : p.toInt ≤ b) (h3 : d ≤ q.toInt) (h4 : q.toInt ≤ e) (hc : ee_cd c p.toInt q.toInt) : ∃ iv', iv' ∈ ee_rf c iv x y a b d e ∧ ee_ok ns iv' := by
  have same : x = y → p.toInt = q.toInt := fun h => by subst h; rw [ee_v.one hx hy]
  have mx : ∀ u v r : Int, u ≤ r → v ≤ r → ee_mx u v ≤ r := fun u v r => ee_mx_le
  have mn : ∀ u v r : Int, r ≤ u → r ≤ v → r ≤ ee_mn u v := fun u v r => ee_le_mn
  have one : ∀ {z : ee_iv}, ee_ok ns z → ∃ iv', iv' ∈ [z] ∧ ee_ok ns iv' := fun {z} h => ⟨z, List.mem_cons_self, h⟩
  cases c with
  | eq =>
    have hc : p.toInt = q.toInt := hc
    have e1 := mx a d p.toInt h1 (by omega)
    have e2 := mn b e p.toInt h2 (by omega)
    simp only [ee_rf]
    rw [if_neg (fun h => ee_nz.ok hk hx hy h hc), if_pos (by omega)]
    exact one (ee_put.ok (ee_put.ok hk hx e1 e2) hy (by omega) (by omega))
  | ne =>
    have hc : p.toInt ≠ q.toInt := hc
    simp only [ee_rf]
    rw [if_neg (fun h => hc (same h))]
    by_cases e1 : d = e
    · rw [if_pos e1]
      by_cases e2 : a = d
      · rw [if_pos e2]
        by_cases e3 : b = d
        · exact absurd (by omega) hc
        · rw [if_neg e3]
          exact one (ee_put.ok hk hx (by omega) h2)
      · rw [if_neg e2]
        by_cases e3 : b = d
        · rw [if_pos e3]
          exact one (ee_put.ok hk hx h1 (by omega))
        · rw [if_neg e3]
          exact one hk
    · rw [if_neg e1]
      exact one hk
  | lt =>
    have hc : p.toInt < q.toInt := hc
    have e1 := mn b (e - 1) p.toInt h2 (by omega)
    have e2 := mx d (a + 1) q.toInt h3 (by omega)
    simp only [ee_rf]
    rw [if_neg (fun h => by have := same h; omega), if_pos ⟨by omega, by omega⟩]
    exact one (ee_put.ok (ee_put.ok hk hx h1 e1) hy e2 h4)
  | ge =>
    have hc : q.toInt ≤ p.toInt := hc
    have e1 := mx a d p.toInt h1 (by omega)
    have e2 := mn e b q.toInt h4 (by omega)
    simp only [ee_rf]
    rw [if_pos ⟨by omega, by omega⟩]
    exact one (ee_put.ok (ee_put.ok hk hx e1 h2) hy h3 e2)
  | gt =>
    have hc : q.toInt < p.toInt := hc
    have e1 := mn e (b - 1) q.toInt h4 (by omega)
    have e2 := mx a (d + 1) p.toInt h1 (by omega)
    simp only [ee_rf]
    rw [if_neg (fun h => by have := same h; omega), if_pos ⟨by omega, by omega⟩]
    exact one (ee_put.ok (ee_put.ok hk hy h3 e1) hx e2 h2)
  | le =>
    have hc : p.toInt ≤ q.toInt := hc
    have e1 := mx d a q.toInt h3 (by omega)
    have e2 := mn b e p.toInt h2 (by omega)
    simp only [ee_rf]
    rw [if_pos ⟨by omega, by omega⟩]
    exact one (ee_put.ok (ee_put.ok hk hy e1 h4) hx h1 e2)
end
section
/-! the links of the code, each by its place in the tables -/
abbrev ee_en : Type := Nat × ClassFile.Instr × Nat × Nat × Nat × Nat × Int × Nat × Nat × Nat
def ee_FL : List (Nat × Nat × Nat × Nat × Nat × Nat) := [(8, 10, 8, 0, 512, 3), (8, 19, 8, 1, 513, 3), (8, 26, 8, 2, 514, 3), (8, 30, 8, 3, 515, 3), (8, 36, 8, 4, 516, 3), (8, 43, 8, 5, 517, 3), (8, 50, 8, 6, 518, 3), (8, 57, 8, 7, 519, 3), (8, 64, 8, 8, 520, 3), (8, 68, 8, 9, 521, 3), (8, 72, 8, 10, 522, 3), (8, 75, 8, 11, 523, 3), (8, 107, 7, 2, 171, 0), (8, 236, 7, 0, 163, 0), (8, 233, 7, 1, 168, 0), (8, 123, 6, 0, 360, 0), (8, 137, 6, 1, 363, 0), (8, 189, 6, 2, 366, 0), (8, 192, 6, 3, 368, 0), (8, 325, 0, 0, 411, 0), (8, 328, 0, 1, 413, 0), (8, 331, 2, 0, 471, 0), (8, 332, 2, 1, 473, 0), (8, 78, 5, 0, 311, 0), (8, 335, 7, 3, 177, 0), (8, 103, 3, 0, 446, 0), (8, 195, 7, 4, 180, 0), (8, 152, 6, 4, 371, 3), (8, 110, 5, 1, 314, 0), (8, 113, 5, 2, 316, 0), (8, 165, 6, 5, 374, 3), (8, 120, 7, 10, 194, 3), (8, 143, 7, 11, 198, 3), (8, 149, 7, 13, 205, 3), (8, 90, 5, 3, 318, 3), (8, 146, 7, 12, 202, 3), (0, 11, 0, 3, 415, 3), (0, 15, 0, 0, 410, 0), (0, 19, 0, 1, 412, 0), (0, 22, 0, 2, 414, 0), (1, 11, 1, 0, 431, 3), (1, 17, 1, 1, 432, 3), (2, 11, 2, 4, 476, 3), (2, 15, 2, 5, 477, 3), (2, 18, 2, 6, 478, 3), (2, 22, 2, 7, 479, 3), (2, 25, 2, 8, 480, 3), (2, 28, 2, 9, 481, 3), (2, 31, 2, 10, 482, 3), (2, 34, 2, 11, 483, 3), (2, 40, 2, 12, 484, 3), (2, 44, 2, 0, 470, 0), (2, 48, 2, 2, 474, 1), (2, 52, 2, 1, 472, 0), (2, 65, 2, 3, 475, 0), (2, 72, 7, 1, 166, 0), (2, 56, 7, 2, 172, 0), (2, 78, 6, 4, 370, 3), (2, 85, 7, 0, 161, 0), (3, 9, 3, 1, 447, 3), (3, 15, 3, 2, 448, 3), (3, 18, 3, 3, 449, 3), (3, 21, 3, 0, 445, 0), (3, 30, 3, 4, 450, 0), (3, 25, 7, 0, 159, 0), (4, 9, 4, 0, 394, 3), (4, 15, 4, 1, 395, 3), (4, 18, 4, 2, 396, 3), (4, 21, 6, 0, 359, 0), (4, 42, 7, 1, 165, 0), (4, 61, 7, 0, 160, 0), (4, 95, 7, 13, 206, 3), (4, 98, 7, 6, 185, 0), (4, 101, 7, 15, 212, 3), (4, 76, 7, 2, 173, 0), (4, 79, 7, 10, 195, 3), (4, 82, 7, 11, 199, 3), (4, 52, 6, 5, 373, 3), (4, 92, 6, 2, 365, 0), (4, 49, 6, 1, 362, 0), (5, 9, 5, 2, 315, 0), (5, 18, 5, 3, 317, 3), (5, 22, 5, 4, 319, 3), (5, 26, 5, 5, 320, 3), (5, 44, 5, 0, 312, 0), (5, 49, 5, 1, 313, 0), (5, 64, 5, 8, 323, 0), (5, 79, 5, 10, 325, 2), (5, 52, 5, 6, 321, 0), (5, 58, 5, 7, 322, 0), (5, 175, 7, 9, 192, 1), (5, 178, 7, 5, 183, 0), (5, 159, 7, 7, 188, 1), (5, 163, 7, 6, 186, 0), (5, 114, 7, 0, 162, 0), (5, 117, 7, 16, 215, 3), (5, 124, 7, 10, 196, 3), (5, 131, 7, 1, 167, 0), (5, 134, 7, 17, 217, 3), (5, 169, 7, 8, 190, 1), (5, 172, 7, 4, 179, 0), (5, 137, 7, 2, 174, 0), (5, 140, 7, 18, 219, 3), (5, 143, 7, 11, 200, 3), (5, 150, 7, 12, 203, 3), (5, 153, 7, 13, 207, 3), (5, 156, 7, 14, 210, 3), (5, 203, 7, 3, 176, 0), (5, 83, 5, 9, 324, 0), (5, 206, 7, 15, 213, 3), (6, 9, 6, 4, 369, 3), (6, 15, 6, 5, 372, 3), (6, 18, 6, 0, 358, 0), (6, 22, 6, 1, 361, 0), (6, 25, 6, 2, 364, 0), (6, 28, 7, 5, 181, 0), (6, 33, 6, 3, 367, 0), (6, 36, 7, 2, 170, 0), (6, 39, 7, 14, 209, 3), (7, 9, 7, 10, 193, 3), (7, 15, 7, 11, 197, 3), (7, 18, 7, 12, 201, 3), (7, 21, 7, 13, 204, 3), (7, 24, 7, 14, 208, 3), (7, 27, 7, 15, 211, 3), (7, 30, 7, 16, 214, 3), (7, 34, 7, 17, 216, 3), (7, 37, 7, 18, 218, 3), (7, 43, 7, 0, 158, 0), (7, 50, 7, 2, 169, 0), (7, 72, 7, 6, 184, 0), (7, 47, 7, 1, 164, 0), (7, 53, 7, 3, 175, 0), (7, 56, 7, 4, 178, 0), (7, 59, 7, 5, 182, 0), (7, 62, 7, 7, 187, 1), (7, 66, 7, 8, 189, 1), (7, 69, 7, 9, 191, 1), (9, 7, 9, 0, 1231, 3), (9, 13, 9, 1, 1232, 3), (9, 16, 9, 5, 1236, 0), (9, 20, 9, 11, 1242, 3), (9, 24, 9, 12, 1243, 3), (9, 27, 9, 13, 1244, 3), (9, 30, 9, 14, 1245, 3), (9, 33, 9, 15, 1246, 3), (9, 36, 9, 16, 1247, 3), (9, 39, 9, 17, 1248, 3), (9, 42, 9, 18, 1249, 3), (9, 45, 9, 19, 1250, 3), (9, 48, 9, 20, 1251, 3), (9, 51, 9, 21, 1252, 3), (9, 54, 9, 22, 1253, 3), (9, 57, 9, 23, 1254, 3), (9, 60, 9, 24, 1255, 3), (9, 63, 9, 25, 1256, 3), (9, 67, 9, 26, 1257, 3), (9, 70, 9, 27, 1258, 3), (9, 73, 9, 28, 1259, 3), (9, 76, 9, 29, 1260, 3), (9, 79, 9, 30, 1261, 3), (9, 82, 9, 31, 1262, 3), (9, 85, 9, 32, 1263, 3), (9, 88, 9, 42, 1273, 3), (9, 91, 9, 43, 1274, 0), (9, 94, 9, 45, 1276, 3), (9, 97, 9, 48, 1279, 3), (9, 100, 9, 49, 1280, 3), (9, 103, 9, 51, 1282, 3), (9, 106, 9, 52, 1283, 3), (9, 109, 9, 53, 1284, 3), (9, 112, 9, 54, 1285, 3), (9, 115, 9, 55, 1286, 3), (9, 118, 9, 56, 1287, 3), (9, 121, 9, 57, 1288, 3), (9, 124, 9, 58, 1289, 3), (9, 127, 9, 59, 1290, 3), (9, 130, 9, 63, 1294, 3), (9, 133, 9, 64, 1295, 3), (9, 374, 9, 46, 1277, 0), (9, 377, 9, 47, 1278, 0), (9, 380, 9, 60, 1291, 0), (9, 482, 9, 61, 1292, 0), (9, 250, 9, 2, 1233, 0), (9, 253, 9, 33, 1264, 0), (9, 383, 9, 50, 1281, 0), (9, 492, 9, 62, 1293, 0), (9, 330, 9, 39, 1270, 0), (9, 336, 9, 41, 1272, 0), (9, 342, 9, 40, 1271, 0), (9, 303, 9, 37, 1268, 0), (9, 306, 9, 36, 1267, 0), (9, 188, 9, 6, 1237, 0), (9, 244, 9, 34, 1265, 0), (9, 247, 9, 35, 1266, 0), (9, 146, 9, 4, 1235, 0), (9, 195, 9, 8, 1239, 0), (9, 202, 9, 10, 1241, 2), (9, 185, 9, 7, 1238, 0), (9, 143, 9, 3, 1234, 0), (9, 213, 9, 9, 1240, 0), (9, 398, 9, 44, 1275, 0), (9, 297, 9, 38, 1269, 0)]
def ee_SL : List (Nat × Nat × Nat × Nat) := [(14, 9, 1, 1972), (14, 15, 0, 1973)]
def ee_ZL : List (Nat × Nat × Nat × Nat) := [(14, 1053, 1, 286), (14, 38, 0, 270)]
def ee_KL : List (Nat × Nat × Int × Nat) := [(2, 55, 100000, 1146), (9, 485, 100000, 1911), (11, 110, 55232, 640), (11, 76, 56320, 644), (12, 265, 1431655765, 815), (12, 266, 858993459, 816), (12, 267, 252645135, 817)]
def ee_LL : List (Nat × Nat × Int64 × Nat) := [(5, 42, 256, 310), (9, 149, 123581014175598, 1445), (9, 153, 1935762283, 1447), (9, 155, 499967946343, 1448), (9, 165, 1935763812, 1453), (9, 167, 126917984746085, 1454), (9, 169, 1685217655, 1455), (9, 151, 7563385, 1446), (9, 157, 25209, 1449), (9, 159, 29807, 1450), (9, 161, 6844276, 1451), (9, 163, 26990, 1452), (9, 171, 113753910899827, 1456), (9, 173, 113741193899620, 1457), (9, 175, 1751474548, 1458), (9, 177, 109330362954597, 1459), (9, 179, 28530, 1460), (9, 181, 6385252, 1461), (9, 183, 7237492, 1462)]
def ee_NL : List (Nat × Nat × Nat × Nat × Nat × Nat) := [(8, 7, 5, 142, 143, 117), (8, 16, 7, 350, 149, 118), (8, 23, 6, 352, 353, 123), (8, 33, 4, 388, 389, 124), (8, 40, 0, 404, 405, 125), (8, 47, 1, 425, 426, 126), (8, 54, 3, 439, 440, 127), (8, 61, 2, 462, 463, 128), (2, 37, 6, 468, 353, 123), (5, 15, 7, 148, 149, 118), (10, 7, 8, 134, 135, 116), (10, 10, 9, 1209, 1210, 129)]
def ee_CL : List (Nat × Nat × Nat × Nat × Nat × Nat × Nat × Nat × Nat) := [(8, 9, 110, 2, 0, 144, 145, 0, 117), (8, 18, 144, 2, 0, 351, 151, 0, 118), (8, 25, 137, 2, 0, 354, 355, 0, 123), (8, 35, 98, 2, 0, 390, 391, 0, 124), (8, 42, 73, 2, 0, 406, 407, 0, 125), (8, 49, 78, 2, 0, 427, 428, 0, 126), (8, 56, 93, 2, 0, 441, 442, 0, 127), (8, 63, 82, 2, 0, 464, 465, 0, 128), (8, 126, 140, 0, 1, 764, 765, 766, 123), (8, 162, 149, 0, 1, 800, 801, 802, 118), (8, 186, 28, 0, 1, 878, 880, 30, 116), (8, 155, 30, 0, 1, 792, 794, 27, 116), (8, 253, 139, 0, 1, 962, 963, 964, 123), (8, 183, 109, 0, 3, 868, 869, 870, 124), (8, 209, 27, 1, 1, 914, 915, 0, 116), (8, 307, 90, 0, 3, 1151, 1152, 1153, 128), (8, 315, 86, 0, 1, 1182, 1183, 1184, 128), (8, 322, 81, 0, 2, 1200, 1201, 1202, 126), (8, 97, 74, 0, 1, 733, 734, 735, 125), (8, 158, 141, 0, 2, 796, 797, 798, 123), (8, 168, 101, 0, 3, 808, 809, 810, 124), (8, 178, 297, 1, 1, 859, 813, 0, 133), (8, 130, 152, 0, 1, 772, 773, 774, 118), (8, 198, 62, 0, 0, 886, 888, 31, 116), (8, 175, 75, 0, 1, 854, 855, 856, 125), (8, 134, 153, 0, 1, 776, 777, 778, 118), (8, 256, 103, 0, 2, 994, 995, 996, 124), (8, 271, 55, 0, 3, 1021, 1023, 35, 116), (8, 116, 29, 0, 1, 760, 762, 25, 116), (8, 275, 48, 0, 2, 1037, 1039, 36, 116), (8, 278, 94, 0, 1, 974, 975, 976, 127), (8, 82, 111, 0, 1, 553, 554, 555, 117), (8, 297, 92, 0, 3, 1126, 1127, 1128, 128), (8, 318, 79, 0, 2, 1191, 1192, 1193, 126), (8, 172, 31, 0, 1, 850, 852, 29, 116), (8, 140, 33, 0, 1, 784, 786, 26, 116), (8, 304, 85, 0, 1, 1142, 1143, 1144, 128), (8, 294, 97, 0, 1, 1118, 1119, 1120, 127), (8, 281, 96, 0, 2, 1049, 1050, 1051, 127), (8, 212, 146, 0, 0, 917, 769, 770, 118), (8, 239, 107, 0, 5, 941, 823, 824, 124), (8, 260, 151, 0, 1, 1010, 819, 820, 118), (8, 291, 7, 1, 2, 1111, 1112, 0, 116), (8, 288, 23, 0, 1, 1087, 1089, 39, 116), (8, 338, 18, 0, 2, 1041, 1043, 37, 116), (8, 206, 77, 0, 1, 906, 907, 908, 125), (8, 243, 57, 0, 1, 958, 960, 32, 116), (8, 246, 58, 0, 2, 966, 968, 33, 116), (8, 249, 37, 0, 2, 970, 972, 34, 116), (8, 285, 150, 0, 2, 1070, 1054, 1055, 118), (8, 215, 105, 0, 3, 918, 919, 920, 124), (8, 222, 102, 0, 2, 927, 928, 929, 124), (8, 225, 32, 1, 2, 931, 932, 0, 116), (8, 229, 8, 1, 2, 934, 935, 0, 116), (8, 263, 108, 0, 4, 1011, 828, 829, 124), (8, 267, 106, 0, 3, 1012, 833, 834, 124), (8, 219, 145, 0, 0, 923, 924, 925, 118), (8, 86, 114, 0, 0, 565, 566, 567, 117), (8, 93, 138, 0, 1, 729, 730, 731, 123), (8, 101, 80, 0, 0, 744, 745, 746, 126), (8, 106, 84, 0, 0, 748, 749, 750, 128), (8, 311, 89, 0, 2, 1174, 1175, 1176, 128), (8, 202, 76, 0, 1, 894, 895, 896, 125), (8, 301, 91, 0, 1, 1134, 1135, 1136, 128), (0, 25, 143, 0, 2, 737, 738, 739, 123), (0, 35, 142, 0, 2, 898, 899, 900, 123), (1, 21, 143, 0, 2, 1195, 738, 739, 123), (1, 25, 142, 0, 2, 1204, 899, 900, 123), (2, 39, 137, 2, 0, 469, 355, 0, 123), (2, 74, 138, 0, 1, 1159, 730, 731, 123), (2, 81, 87, 1, 3, 1160, 1161, 0, 128), (2, 88, 146, 0, 0, 1163, 769, 770, 118), (2, 92, 107, 0, 5, 1164, 823, 824, 124), (2, 98, 297, 1, 1, 1165, 813, 0, 133), (2, 61, 88, 0, 2, 1155, 1157, 40, 128), (2, 68, 83, 0, 2, 1166, 1168, 41, 128), (3, 35, 95, 0, 2, 1057, 1059, 38, 127), (3, 31, 150, 0, 2, 1053, 1054, 1055, 118), (4, 27, 297, 1, 1, 812, 813, 0, 133), (4, 33, 151, 0, 1, 818, 819, 820, 118), (4, 38, 107, 0, 5, 822, 823, 824, 124), (4, 45, 101, 0, 3, 872, 809, 810, 124), (4, 64, 146, 0, 0, 922, 769, 770, 118), (4, 104, 99, 1, 1, 836, 837, 0, 124), (4, 108, 104, 0, 1, 839, 841, 28, 124), (4, 113, 100, 1, 3, 843, 844, 0, 124), (4, 68, 141, 0, 2, 826, 797, 798, 123), (4, 72, 108, 0, 4, 827, 828, 829, 124), (4, 85, 106, 0, 3, 832, 833, 834, 124), (4, 89, 149, 0, 1, 831, 801, 802, 118), (5, 17, 144, 2, 0, 150, 151, 0, 118), (5, 32, 307, 0, 0, 262, 263, 264, 119), (5, 38, 300, 0, 1, 272, 273, 274, 119), (5, 46, 148, 0, 0, 569, 570, 571, 118), (5, 55, 129, 0, 0, 573, 575, 1, 117), (5, 61, 119, 0, 0, 645, 647, 4, 117), (5, 191, 120, 0, 1, 701, 703, 18, 117), (5, 188, 136, 0, 1, 705, 707, 19, 117), (5, 108, 128, 0, 0, 653, 655, 6, 117), (5, 127, 135, 0, 2, 669, 671, 10, 117), (5, 185, 115, 0, 1, 697, 699, 17, 117), (5, 166, 117, 0, 1, 693, 695, 16, 117), (5, 90, 121, 0, 0, 649, 651, 5, 117), (5, 93, 122, 0, 0, 673, 675, 11, 117), (5, 96, 126, 0, 0, 677, 679, 12, 117), (5, 99, 118, 0, 0, 689, 691, 15, 117), (5, 102, 123, 0, 0, 721, 723, 23, 117), (5, 105, 116, 0, 0, 725, 727, 24, 117), (5, 111, 132, 0, 1, 681, 683, 13, 117), (5, 194, 124, 0, 1, 709, 711, 20, 117), (5, 120, 134, 0, 2, 661, 663, 8, 117), (5, 197, 125, 0, 1, 713, 715, 21, 117), (5, 200, 127, 0, 1, 717, 719, 22, 117), (5, 146, 133, 0, 3, 685, 687, 14, 117), (5, 86, 112, 0, 1, 657, 659, 7, 117), (5, 67, 131, 0, 0, 577, 579, 2, 117), (5, 70, 130, 0, 0, 581, 583, 3, 117), (5, 75, 304, 0, 1, 586, 587, 588, 119), (5, 181, 113, 0, 2, 665, 667, 9, 117), (6, 48, 146, 0, 0, 768, 769, 770, 118), (7, 40, 147, 0, 0, 154, 156, 0, 118), (10, 9, 0, 2, 0, 136, 137, 0, 116), (10, 12, 155, 2, 0, 1211, 1212, 0, 129), (10, 13, 15, 0, 5, 549, 550, 551, 116), (10, 17, 188, 0, 5, 1964, 1965, 1966, 129), (10, 18, 11, 0, 1, 557, 558, 559, 116), (10, 22, 183, 0, 1, 1968, 1969, 1970, 129), (10, 23, 65, 0, 0, 561, 562, 563, 116), (10, 27, 277, 0, 0, 1427, 1428, 1429, 129), (10, 28, 13, 0, 1, 752, 753, 754, 116), (10, 31, 186, 0, 1, 1572, 1573, 1574, 129), (10, 32, 45, 0, 2, 756, 757, 758, 116), (10, 36, 248, 0, 2, 1576, 1577, 1578, 129), (10, 37, 69, 0, 2, 780, 781, 782, 116), (10, 40, 282, 0, 2, 1611, 1612, 1613, 129), (10, 41, 54, 0, 2, 788, 789, 790, 116), (10, 44, 263, 0, 2, 1623, 1624, 1625, 129), (10, 45, 72, 0, 1, 804, 805, 806, 116), (10, 48, 291, 0, 1, 1647, 1648, 1649, 129), (10, 49, 61, 0, 1, 846, 847, 848, 116), (10, 52, 272, 0, 1, 1733, 1734, 1735, 129), (10, 53, 50, 0, 1, 860, 861, 862, 116), (10, 56, 259, 0, 1, 1741, 1742, 1743, 129), (10, 57, 19, 0, 1, 864, 865, 866, 116), (10, 60, 196, 0, 1, 1745, 1746, 1747, 129), (10, 61, 46, 0, 2, 874, 875, 876, 116), (10, 64, 250, 0, 2, 1753, 1754, 1755, 129), (10, 65, 9, 0, 0, 882, 883, 884, 116), (10, 68, 175, 0, 0, 1757, 1758, 1759, 129), (10, 69, 70, 0, 0, 890, 891, 892, 116), (10, 73, 285, 0, 0, 1761, 1762, 1763, 129), (10, 74, 49, 0, 0, 902, 903, 904, 116), (10, 77, 258, 0, 0, 1769, 1770, 1771, 129), (10, 78, 68, 0, 3, 910, 911, 912, 116), (10, 82, 281, 0, 3, 1777, 1778, 1779, 129), (10, 83, 51, 0, 2, 954, 955, 956, 116), (10, 86, 260, 0, 2, 1821, 1822, 1823, 129), (10, 87, 40, 0, 0, 937, 938, 939, 116), (10, 90, 242, 0, 0, 1785, 1786, 1787, 129), (10, 91, 16, 0, 1, 978, 979, 980, 116), (10, 94, 189, 0, 1, 1840, 1841, 1842, 129), (10, 95, 59, 0, 2, 942, 943, 944, 116), (10, 98, 269, 0, 2, 1793, 1794, 1795, 129), (10, 99, 21, 0, 2, 1002, 1003, 1004, 116), (10, 102, 201, 0, 2, 1844, 1845, 1846, 129), (10, 103, 44, 0, 0, 1025, 1026, 1027, 116), (10, 106, 247, 0, 0, 1725, 1726, 1727, 129), (10, 107, 17, 0, 1, 1029, 1030, 1031, 116), (10, 110, 193, 0, 1, 1805, 1806, 1807, 129), (10, 111, 14, 0, 2, 1033, 1034, 1035, 116), (10, 114, 187, 0, 2, 1813, 1814, 1815, 129), (10, 115, 60, 0, 1, 1006, 1007, 1008, 116), (10, 118, 270, 0, 1, 1864, 1865, 1866, 129), (10, 119, 39, 0, 0, 1045, 1046, 1047, 116), (10, 122, 237, 0, 0, 1868, 1869, 1870, 129), (10, 123, 26, 0, 1, 1062, 1063, 1064, 116), (10, 126, 209, 0, 1, 1809, 1810, 1811, 129), (10, 127, 5, 0, 2, 1013, 1014, 1015, 116), (10, 130, 168, 0, 2, 1848, 1849, 1850, 129), (10, 131, 12, 0, 1, 1017, 1018, 1019, 116), (10, 134, 184, 0, 1, 1852, 1853, 1854, 129), (10, 135, 2, 0, 1, 982, 983, 984, 116), (10, 138, 157, 0, 1, 1860, 1861, 1862, 129), (10, 139, 53, 0, 2, 1066, 1067, 1068, 116), (10, 142, 262, 0, 2, 1888, 1889, 1890, 129), (10, 143, 34, 0, 2, 1071, 1072, 1073, 116), (10, 146, 228, 0, 2, 1677, 1678, 1679, 129), (10, 147, 10, 0, 0, 1075, 1076, 1077, 116), (10, 150, 180, 0, 0, 1681, 1682, 1683, 129), (10, 151, 63, 0, 1, 946, 947, 948, 116), (10, 154, 274, 0, 1, 1797, 1798, 1799, 129), (10, 155, 64, 0, 1, 950, 951, 952, 116), (10, 158, 275, 0, 1, 1801, 1802, 1803, 129), (10, 159, 24, 0, 0, 986, 987, 988, 116), (10, 162, 204, 0, 0, 1693, 1694, 1695, 129), (10, 163, 66, 0, 0, 990, 991, 992, 116), (10, 166, 278, 0, 0, 1697, 1698, 1699, 129), (10, 167, 22, 0, 0, 1091, 1092, 1093, 116), (10, 170, 203, 0, 0, 1689, 1690, 1691, 129), (10, 171, 6, 0, 0, 1079, 1080, 1081, 116), (10, 174, 173, 0, 0, 1685, 1686, 1687, 129), (10, 175, 47, 0, 0, 1083, 1084, 1085, 116), (10, 178, 253, 0, 0, 1884, 1885, 1886, 129), (10, 179, 41, 0, 0, 1095, 1096, 1097, 116), (10, 182, 243, 0, 0, 1713, 1714, 1715, 129), (10, 183, 56, 0, 0, 1099, 1100, 1101, 116), (10, 186, 268, 0, 0, 1709, 1710, 1711, 129), (10, 187, 36, 0, 2, 998, 999, 1000, 116), (10, 190, 232, 0, 2, 1729, 1730, 1731, 129), (10, 191, 42, 0, 0, 1103, 1104, 1105, 116), (10, 194, 244, 0, 0, 1717, 1718, 1719, 129), (10, 195, 43, 0, 2, 1107, 1108, 1109, 116), (10, 198, 246, 0, 2, 1892, 1893, 1894, 129), (10, 199, 38, 0, 1, 1114, 1115, 1116, 116), (10, 202, 236, 0, 1, 1773, 1774, 1775, 129), (10, 203, 20, 0, 3, 1122, 1123, 1124, 116), (10, 207, 197, 0, 3, 1899, 1900, 1901, 129), (10, 208, 71, 0, 1, 1130, 1131, 1132, 116), (10, 212, 287, 0, 1, 1903, 1904, 1905, 129), (10, 213, 35, 0, 1, 1138, 1139, 1140, 116), (10, 216, 231, 0, 1, 1907, 1908, 1909, 129), (10, 217, 52, 0, 1, 1147, 1148, 1149, 116), (10, 220, 261, 0, 1, 1912, 1913, 1914, 129), (10, 221, 67, 0, 2, 1170, 1171, 1172, 116), (10, 224, 279, 0, 2, 1940, 1941, 1942, 129), (10, 225, 3, 0, 2, 1178, 1179, 1180, 116), (10, 228, 161, 0, 2, 1944, 1945, 1946, 129), (10, 229, 25, 0, 1, 1187, 1188, 1189, 116), (10, 232, 205, 0, 1, 1952, 1953, 1954, 129), (10, 233, 4, 0, 1, 1196, 1197, 1198, 116), (10, 236, 163, 0, 1, 1956, 1957, 1958, 129), (10, 237, 1, 0, 1, 1205, 1206, 1207, 116), (10, 240, 156, 0, 1, 1960, 1961, 1962, 129), (9, 137, 172, 0, 0, 1215, 1217, 42, 129), (9, 140, 276, 0, 0, 1219, 1221, 43, 129), (9, 368, 238, 0, 0, 1227, 1229, 45, 129), (9, 358, 190, 0, 0, 1584, 1586, 74, 129), (9, 365, 164, 0, 0, 1631, 1633, 83, 129), (9, 416, 229, 0, 0, 1599, 1601, 77, 129), (9, 348, 198, 0, 1, 1643, 1645, 86, 129), (9, 422, 224, 0, 1, 1615, 1617, 80, 129), (9, 386, 223, 0, 1, 1639, 1641, 85, 129), (9, 458, 227, 0, 0, 1828, 1830, 101, 129), (9, 440, 194, 0, 1, 1749, 1751, 96, 129), (9, 464, 169, 0, 0, 1836, 1838, 103, 129), (9, 233, 225, 0, 1, 1481, 1483, 51, 129), (9, 236, 241, 0, 1, 1512, 1514, 58, 129), (9, 240, 245, 0, 2, 1516, 1518, 59, 129), (9, 486, 200, 0, 0, 1924, 1926, 110, 129), (9, 455, 251, 1, 2, 1825, 1826, 0, 129), (9, 361, 214, 1, 3, 1588, 1589, 0, 129), (9, 504, 234, 0, 1, 1916, 1918, 108, 129), (9, 508, 240, 0, 2, 1948, 1950, 114, 129), (9, 333, 202, 0, 1, 1619, 1621, 81, 129), (9, 339, 167, 1, 1, 1671, 1672, 0, 129), (9, 345, 206, 0, 1, 1635, 1637, 84, 129), (9, 324, 254, 0, 0, 1564, 1566, 71, 129), (9, 327, 210, 0, 0, 1568, 1570, 72, 129), (9, 230, 239, 0, 0, 1488, 1490, 52, 129), (9, 321, 182, 0, 2, 1556, 1558, 69, 129), (9, 191, 271, 0, 1, 1435, 1437, 47, 129), (9, 309, 252, 0, 2, 1540, 1542, 65, 129), (9, 227, 195, 0, 0, 1431, 1433, 46, 129), (9, 287, 222, 0, 1, 1548, 1550, 67, 129), (9, 425, 220, 0, 1, 1627, 1629, 82, 129), (9, 407, 292, 0, 1, 1651, 1653, 87, 129), (9, 389, 192, 0, 1, 1595, 1597, 76, 129), (9, 413, 170, 0, 1, 1591, 1593, 75, 129), (9, 198, 217, 1, 1, 1439, 1440, 0, 129), (9, 351, 162, 0, 2, 1667, 1669, 91, 129), (9, 354, 284, 1, 3, 1674, 1675, 0, 129), (9, 437, 226, 0, 0, 1737, 1739, 95, 129), (9, 434, 273, 0, 0, 1721, 1723, 94, 129), (9, 259, 166, 1, 2, 1485, 1486, 0, 129), (9, 392, 288, 0, 1, 1607, 1609, 79, 129), (9, 419, 283, 0, 1, 1603, 1605, 78, 129), (9, 223, 213, 0, 0, 1469, 1471, 48, 129), (9, 312, 286, 0, 0, 1544, 1546, 66, 129), (9, 315, 165, 0, 0, 1560, 1562, 70, 129), (9, 428, 160, 0, 0, 1701, 1703, 92, 129), (9, 431, 266, 0, 1, 1705, 1707, 93, 129), (9, 467, 171, 0, 2, 1856, 1858, 104, 129), (9, 410, 219, 0, 1, 1580, 1582, 73, 129), (9, 449, 267, 0, 1, 1789, 1791, 99, 129), (9, 452, 290, 0, 2, 1817, 1819, 100, 129), (9, 219, 185, 0, 2, 1492, 1494, 53, 129), (9, 206, 215, 1, 1, 1442, 1443, 0, 129), (9, 210, 211, 1, 1, 1463, 1464, 0, 129), (9, 216, 221, 1, 1, 1466, 1467, 0, 129), (9, 395, 177, 0, 1, 1659, 1661, 89, 129), (9, 401, 174, 0, 0, 1663, 1665, 90, 129), (9, 470, 207, 0, 3, 1876, 1878, 106, 129), (9, 473, 179, 0, 2, 1880, 1882, 107, 129), (9, 371, 235, 0, 0, 1223, 1225, 44, 129), (9, 489, 265, 0, 2, 1928, 1930, 111, 129), (9, 495, 233, 0, 0, 1920, 1922, 109, 129), (9, 498, 159, 0, 0, 1932, 1934, 112, 129), (9, 501, 178, 0, 2, 1936, 1938, 113, 129), (9, 476, 218, 0, 2, 1872, 1874, 105, 129), (9, 479, 176, 1, 2, 1896, 1897, 0, 129), (9, 290, 199, 0, 3, 1500, 1502, 55, 129), (9, 263, 212, 0, 0, 1477, 1479, 50, 129), (9, 266, 249, 0, 0, 1496, 1498, 54, 129), (9, 270, 191, 0, 1, 1504, 1506, 56, 129), (9, 274, 158, 0, 3, 1508, 1510, 57, 129), (9, 278, 264, 0, 0, 1520, 1522, 60, 129), (9, 281, 257, 0, 0, 1524, 1526, 61, 129), (9, 284, 256, 0, 0, 1532, 1534, 63, 129), (9, 300, 181, 0, 0, 1536, 1538, 64, 129), (9, 294, 230, 0, 1, 1528, 1530, 62, 129), (9, 443, 280, 0, 0, 1765, 1767, 97, 129), (9, 461, 208, 0, 3, 1832, 1834, 102, 129), (9, 446, 293, 0, 2, 1781, 1783, 98, 129), (9, 404, 216, 0, 2, 1655, 1657, 88, 129), (9, 256, 255, 0, 0, 1473, 1475, 49, 129), (9, 318, 289, 0, 0, 1552, 1554, 68, 129), (14, 492, 306, 0, 0, 276, 277, 278, 119), (14, 495, 309, 1, 2, 280, 281, 0, 120), (14, 1062, 312, 1, 4, 625, 626, 0, 121), (14, 1059, 313, 1, 3, 288, 289, 0, 121), (14, 633, 305, 0, 2, 590, 591, 592, 119), (14, 505, 307, 0, 0, 594, 263, 264, 119), (14, 637, 310, 1, 4, 595, 596, 0, 120), (14, 335, 303, 0, 0, 266, 267, 268, 119), (15, 9, 302, 1, 2, 283, 284, 0, 119), (15, 88, 308, 1, 1, 598, 599, 0, 120), (15, 95, 311, 1, 4, 607, 608, 0, 120)]
def ee_OL : List (Nat × Nat × Nat) := [(8, 1, 139), (0, 3, 409), (1, 3, 430), (2, 5, 467), (3, 3, 444), (4, 3, 393), (5, 3, 147), (6, 3, 357), (7, 3, 153), (9, 1, 1214)]
def ee_AL : List (Nat × Nat × Nat) := [(3, 39, 1061), (6, 42, 741)]
def ee_XL : List (Nat × Nat × Nat × Nat) := [(0, 29, 3, 858), (2, 104, 4, 1186), (4, 55, 3, 873), (15, 92, 4, 601), (15, 38, 3, 604)]
def ee_ow (i : Nat) : String := ee_own.getD i ""
def ee_tc (ty : FieldType) : Nat := match ty with
  | .int => 0
  | .boolean => 1
  | .long => 2
  | .object _ => 3
  | .array _ => 3
  | _ => 9
theorem ee_FLok : ∀ q ∈ ee_FL, ∃ r : vw_C, vwCl[q.2.2.1]? = some r ∧ q.2.2.2.1 < r.2.2 ∧ Cond.fieldLink (ee_ow q.1) q.2.1 (r.2.1 q.2.2.2.1).1 (r.2.1 q.2.2.2.1).2.1 (r.2.1 q.2.2.2.1).2.2.1 ∈ ee_tbl ∧ ∃ ty, parseFieldDescriptor (r.2.1 q.2.2.2.1).2.2.1 = some ty ∧ ee_tc ty = q.2.2.2.2.2 := by
  intro q hq
  have h : ee_FL.all (fun q => match vwCl[q.2.2.1]? with
    | some r => decide (q.2.2.2.1 < r.2.2) && (ee_at q.2.2.2.2.1 (.fieldLink (ee_ow q.1) q.2.1 (r.2.1 q.2.2.2.1).1 (r.2.1 q.2.2.2.1).2.1 (r.2.1 q.2.2.2.1).2.2.1) && (match parseFieldDescriptor (r.2.1 q.2.2.2.1).2.2.1 with
      | some ty => decide (ee_tc ty = q.2.2.2.2.2)
      | none => false))
    | none => false) = true := by decide +kernel
  have h := List.all_eq_true.mp h q hq
  cases hr : vwCl[q.2.2.1]? with
  | none => rw [hr] at h; cases h
  | some r =>
    rw [hr] at h
    have h := Bool.and_eq_true_iff.mp h
    have h2 := Bool.and_eq_true_iff.mp h.2
    refine ⟨r, rfl, of_decide_eq_true h.1, ee_at.mem h2.1, ?_⟩
    cases hp : parseFieldDescriptor (r.2.1 q.2.2.2.1).2.2.1 with
    | none => have h3 := h2.2; rw [hp] at h3; cases h3
    | some ty => have h3 := h2.2; rw [hp] at h3; exact ⟨ty, rfl, of_decide_eq_true h3⟩
def ee_sf (i : Nat) : String × String := if i = 0 then ("coder", "B") else ("value", "[B")
theorem ee_SLok : ∀ q ∈ ee_SL, Cond.fieldLink (ee_ow q.1) q.2.1 "java/lang/String" (ee_sf q.2.2.1).1 (ee_sf q.2.2.1).2 ∈ ee_tbl := by
  intro q hq
  have h : ee_SL.all (fun q => ee_at q.2.2.2 (.fieldLink (ee_ow q.1) q.2.1 "java/lang/String" (ee_sf q.2.2.1).1 (ee_sf q.2.2.1).2)) = true := by decide +kernel
  exact ee_at.mem (List.all_eq_true.mp h q hq)
def ee_zf (i : Nat) : String × String × String := if i = 0 then ("java/lang/String", "COMPACT_STRINGS", "Z") else ("jdk/internal/util/Preconditions", "SIOOBE_FORMATTER", "Ljava/util/function/BiFunction;")
theorem ee_ZLok : ∀ q ∈ ee_ZL, Cond.fieldLink (ee_ow q.1) q.2.1 (ee_zf q.2.2.1).1 (ee_zf q.2.2.1).2.1 (ee_zf q.2.2.1).2.2 ∈ ee_tbl := by
  intro q hq
  have h : ee_ZL.all (fun q => ee_at q.2.2.2 (.fieldLink (ee_ow q.1) q.2.1 (ee_zf q.2.2.1).1 (ee_zf q.2.2.1).2.1 (ee_zf q.2.2.1).2.2)) = true := by decide +kernel
  exact ee_at.mem (List.all_eq_true.mp h q hq)
theorem ee_KLok : ∀ q ∈ ee_KL, Cond.constant (ee_ow q.1) q.2.1 (Int32.ofInt q.2.2.1) ∈ ee_tbl := by
  intro q hq
  have h : ee_KL.all (fun q => ee_at q.2.2.2 (.constant (ee_ow q.1) q.2.1 (Int32.ofInt q.2.2.1))) = true := by decide +kernel
  exact ee_at.mem (List.all_eq_true.mp h q hq)
theorem ee_LLok : ∀ q ∈ ee_LL, Cond.constantLong (ee_ow q.1) q.2.1 q.2.2.1 ∈ ee_tbl := by
  intro q hq
  have h : ee_LL.all (fun q => ee_at q.2.2.2 (.constantLong (ee_ow q.1) q.2.1 q.2.2.1)) = true := by decide +kernel
  exact ee_at.mem (List.all_eq_true.mp h q hq)
theorem ee_NLok : ∀ q ∈ ee_NL, ∃ r : vw_C, vwCl[q.2.2.1]? = some r ∧ Cond.classLink (ee_ow q.1) q.2.1 r.1 ∈ ee_tbl ∧ Cond.instantiable r.1 r.2.2 ∈ ee_tbl ∧ Cond.initialized r.1 ∈ ee_tbl := by
  intro q hq
  have h : ee_NL.all (fun q => match vwCl[q.2.2.1]? with
    | some r => ee_at q.2.2.2.1 (.classLink (ee_ow q.1) q.2.1 r.1) && (ee_at q.2.2.2.2.1 (.instantiable r.1 r.2.2) && ee_at q.2.2.2.2.2 (.initialized r.1))
    | none => false) = true := by decide +kernel
  have h := List.all_eq_true.mp h q hq
  cases hr : vwCl[q.2.2.1]? with
  | none => rw [hr] at h; cases h
  | some r =>
    rw [hr] at h
    have h := Bool.and_eq_true_iff.mp h
    have h2 := Bool.and_eq_true_iff.mp h.2
    exact ⟨r, rfl, ee_at.mem h.1, ee_at.mem h2.1, ee_at.mem h2.2⟩
theorem ee_OLok : ∀ q ∈ ee_OL, Cond.methodLink (ee_ow q.1) q.2.1 objectInit ∈ ee_tbl := by
  intro q hq
  have h : ee_OL.all (fun q => ee_at q.2.2 (.methodLink (ee_ow q.1) q.2.1 objectInit)) = true := by decide +kernel
  exact ee_at.mem (List.all_eq_true.mp h q hq)
theorem ee_ALok : ∀ q ∈ ee_AL, Cond.methodLink (ee_ow q.1) q.2.1 arraycopyName ∈ ee_tbl := by
  intro q hq
  have h : ee_AL.all (fun q => ee_at q.2.2 (.methodLink (ee_ow q.1) q.2.1 arraycopyName)) = true := by decide +kernel
  exact ee_at.mem (List.all_eq_true.mp h q hq)
theorem ee_obj : Cond.instanceMethod objectInit ∈ ee_tbl ∧ Cond.code objectInit ⟨#[0xb1]⟩ 1 none ∈ ee_tbl := ⟨ee_at.mem (i := 140) (by decide +kernel), ee_at.mem (i := 141) (by decide +kernel)⟩
theorem ee_cpy : Cond.native arraycopyName ∈ ee_tbl ∧ Cond.static arraycopyName ∈ ee_tbl ∧ Cond.initialized "java/lang/System" ∈ ee_tbl := ⟨ee_at.mem (i := 743) (by decide +kernel), ee_at.mem (i := 742) (by decide +kernel), ee_at.mem (i := 132) (by decide +kernel)⟩
def ee_mname (k : Nat) : MethodName := if k = 3 then Lib.Math.min.name else Lib.Math.max.name
theorem ee_XLok : ∀ q ∈ ee_XL, Cond.methodLink (ee_ow q.1) q.2.1 (ee_mname q.2.2.1) ∈ ee_tbl := by
  intro q hq
  have h : ee_XL.all (fun q => ee_at q.2.2.2 (.methodLink (ee_ow q.1) q.2.1 (ee_mname q.2.2.1))) = true := by decide +kernel
  exact ee_at.mem (List.all_eq_true.mp h q hq)
theorem ee_math : Cond.static Lib.Math.min.name ∈ ee_tbl ∧ Cond.code Lib.Math.min.name Lib.Math.min.code 2 (some .int) ∈ ee_tbl ∧ Cond.static Lib.Math.max.name ∈ ee_tbl ∧ Cond.code Lib.Math.max.name Lib.Math.max.code 2 (some .int) ∈ ee_tbl ∧ Cond.initialized "java/lang/Math" ∈ ee_tbl := ⟨ee_at.mem (i := 605) (by decide +kernel), ee_at.mem (i := 606) (by decide +kernel), ee_at.mem (i := 602) (by decide +kernel), ee_at.mem (i := 603) (by decide +kernel), ee_at.mem (i := 130) (by decide +kernel)⟩
theorem ee_arr : Cond.arrayClass .int ∈ ee_tbl ∧ Cond.arrayClass .byte ∈ ee_tbl ∧ Cond.arrayClass .boolean ∈ ee_tbl ∧ Cond.arrayClass .long ∈ ee_tbl := ⟨ee_at.mem (i := 259) (by decide +kernel), ee_at.mem (i := 349) (by decide +kernel), ee_at.mem (i := 438) (by decide +kernel), ee_at.mem (i := 260) (by decide +kernel)⟩
/-- a final field is put -/
def ee_ini (e : ee_en) : Bool := match e.2.1 with
  | .putfield _ => (match ee_FL[e.2.2.2.2.1]? with
      | some q => (match vwCl[q.2.2.1]? with
        | some r => (r.2.1 q.2.2.2.1).2.2.2
        | none => false)
      | none => false)
  | _ => false
/-- an entry of the code: its links are those of its own file -/
def ee_eok (oc : Nat) (e : ee_en) : Bool := match e with
  | (_, ins, _, _, ea, eb, ez, qa, qb, qc) => match ins with
    | .getfield i => if eb = 0 then (match ee_FL[ea]? with
        | some q => decide (q.1 = oc) && (decide (q.2.1 = i) && (decide (q.2.2.1 = qa) && (decide (q.2.2.2.1 = qb) && decide (q.2.2.2.2.2 = qc))))
        | none => false) else (match ee_SL[ea]? with
        | some q => decide (q.1 = oc) && (decide (q.2.1 = i) && decide (q.2.2.1 = qa))
        | none => false)
    | .putfield i => (match ee_FL[ea]? with
        | some q => decide (q.1 = oc) && (decide (q.2.1 = i) && ((decide (q.2.2.1 = qa) && (decide (q.2.2.2.1 = qb) && decide (q.2.2.2.2.2 = qc))) && (!ee_ini e || decide (q.2.2.1 = oc))))
        | none => false)
    | .getstatic i => if eb = 0 then (match ee_ZL[ea]? with
        | some q => decide (q.1 = oc) && (decide (q.2.1 = i) && decide (q.2.2.1 = qa))
        | none => false) else true
    | .ldc i => if eb = 0 then (match ee_KL[ea]? with
        | some q => decide (q.1 = oc) && (decide (q.2.1 = i) && decide (q.2.2.1 = ez))
        | none => false) else if eb = 1 then decide (oc = 5) && (decide (ea < 2) && decide (ee_six.getD ea 0 = i)) else true
    | .ldc_w i => if eb = 0 then (match ee_KL[ea]? with
        | some q => decide (q.1 = oc) && (decide (q.2.1 = i) && decide (q.2.2.1 = ez))
        | none => false) else true
    | .ldc2_w i => (match ee_LL[ea]? with
        | some q => decide (q.1 = oc) && (decide (q.2.1 = i) && decide (q.2.2.1 = Int64.ofInt ez))
        | none => false)
    | .new i => (match ee_NL[ea]? with
        | some q => decide (q.1 = oc) && (decide (q.2.1 = i) && decide (q.2.2.1 = qa))
        | none => false)
    | .invokespecial i => if eb = 0 then (match ee_CL[ea]? with
        | some q => decide (q.1 = oc) && (decide (q.2.1 = i) && (decide (q.2.2.2.1 = 2) && (decide (q.2.2.1 = qa) && (decide (q.2.2.2.1 = qb) && decide (q.2.2.2.2.1 = qc)))))
        | none => false) else if eb = 1 then (match ee_OL[ea]? with
        | some q => decide (q.1 = oc) && decide (q.2.1 = i)
        | none => false) else true
    | .invokevirtual i => if eb = 0 then (match ee_CL[ea]? with
        | some q => decide (q.1 = oc) && (decide (q.2.1 = i) && (decide (q.2.2.2.1 = 0) && (decide (q.2.2.1 = qa) && (decide (q.2.2.2.1 = qb) && decide (q.2.2.2.2.1 = qc)))))
        | none => false) else true
    | .invokestatic i => if eb = 0 then (match ee_CL[ea]? with
        | some q => decide (q.1 = oc) && (decide (q.2.1 = i) && (decide (q.2.2.2.1 = 1) && (decide (q.2.2.1 = qa) && (decide (q.2.2.2.1 = qb) && decide (q.2.2.2.2.1 = qc)))))
        | none => false) else if eb = 2 then (match ee_AL[ea]? with
        | some q => decide (q.1 = oc) && decide (q.2.1 = i)
        | none => false) else if eb = 3 ∨ eb = 4 then (match ee_XL[ea]? with
        | some q => decide (q.1 = oc) && (decide (q.2.1 = i) && decide (q.2.2.1 = eb))
        | none => false) else true
    | _ => true
end
section
/-! the walker's frame: what holds while a method is walked -/
/-- program, launch, environment, room, start, method, arguments, frames below, method, code -/
abbrev ee_cx : Type := Program × Launch × Env × Room × State × MethodId × Array Value × List Frame × Method × Code
/-- which cells may change, numbers of the kinds, kinds of arrays, addresses outside, the first symbols, the first cells, the callers' values, how many locals -/
abbrev ee_cy : Type := (Nat → Prop) × va_G × (Nat → ClassId) × (Nat → Nat) × List Int32 × List Nat × List Value × Nat
def ee_lr (ns : List Int32) (as : List Nat) (ex : Nat → Nat) (a b : Nat × Value) : Prop := a.1 = b.1 ∧ ee_v ns as ex a.2 b.2
def ee_Wd (s : State) (A : Nat → Prop) (D : va_G) (dA : Nat → ClassId) (ex : Nat → Nat) (ns : List Int32) (as : List Nat) (w : ee_w) (H : Heap) (lc : List Loc) : Prop :=
  ∃ ws, ee_wr ns as ex dA w ws ∧ va_P D vwCl ws H ∧ va_D A ws ∧ va_S A s.heap H lc
def ee_Con (s : State) (A : Nat → Prop) (D : va_G) (dA : Nat → ClassId) (ex : Nat → Nat) (x0 : List Int32) (a0 : List Nat) (sv0 : List Value) (nL : Nat) (lo : List (Nat × Value)) (stk : List Value) (w : ee_w) (iv : ee_iv) (sv : List Value)
    (ns : List Int32) (as : List Nat) (H : Heap) (lc : List Loc) (ls : Array Slot) (vs : List Value) : Prop :=
  ee_ok ns iv ∧ ((∃ r, ns = x0 ++ r) ∧ ∃ r, as = a0 ++ r) ∧ (∃ lv, lv_has ls nL lv ∧ ee_all (ee_lr ns as ex) lo lv) ∧ ee_all (ee_v ns as ex) stk vs ∧ ee_all (ee_v ns as ex) sv sv0 ∧ ee_Wd s A D dA ex ns as w H lc
/-- the goal at a state: from all that it stands for the machine comes to Q -/
def ee_G (X : ee_cx) (Y : ee_cy) (Q : State → Prop) (st : ee_st) : Prop := match X, Y, st with
  | (p, l, e, R, s, m, args, below, meth, c), (A, D, dA, ex, x0, a0, sv0, nL), (pc, lo, stk, w, iv, kc, ks, sv) =>
    ∀ (ns : List Int32) (as : List Nat) (H : Heap) (lc : List Loc) (ls : Array Slot) (vs : List Value), ee_Con s A D dA ex x0 a0 sv0 nL lo stk w iv sv ns as H lc ls vs → W p l e R s m args below meth c H lc kc ks Q (F0 m pc ls vs)
abbrev ee_tys (dA : Nat → ClassId) : List (ClassId × FieldType) := [(dA 0, .int), (dA 1, .byte), (dA 2, .boolean), (dA 3, .long)]
/-- what lies outside: the texts, two statics -/
def ee_Ext (s : State) (A : Nat → Prop) (ex : Nat → Nat) : Prop :=
  vk_S 2 ee_len ee_byt (fun i => ex (1000000 + i)) (fun i => ex (1000100 + i)) A s s.heap ∧ (∀ i, i < 2 → vk_R RX5 (ee_six.getD i 0) (ee_stx.getD i "") (ex (1000000 + i)) s) ∧
  va_Z "java/lang/String" "COMPACT_STRINGS" "Z" (.int 1) A s s.heap ∧ va_Zq "jdk/internal/util/Preconditions" "SIOOBE_FORMATTER" "Ljava/util/function/BiFunction;" A s s.heap
/-- the law's script: its length, a place in it, the six numbers there -/
def ee_Scr (s : State) (A : Nat → Prop) (ex : Nat → Nat) (x0 : List Int32) : Prop :=
  ∃ (L i : Nat) (xs : Nat → Int32), va_X (ex 2000000) L xs s s.heap ∧ ex 2000000 < s.heap.size ∧ ¬ A (ex 2000000) ∧ L ≤ 3072 ∧ x0[0]? = some (nI i) ∧ x0[1]? = some (nI L) ∧ i + 6 ≤ L ∧ ∀ d, d < 6 → x0[2 + d]? = some (xs (i + d))
/-- what holds at a method's entry and stays -/
def ee_F (X : ee_cx) (Y : ee_cy) (own : String) (cc : ByteArray) (Ts : List Cond) (ini : Prop) (dm bc bs : Nat) : Prop := match X, Y with
  | (p, _, _, R, s, m, args, _, meth, c), (A, D, dA, ex, _, _, _, nL) =>
    p.tables.exec = Jvm.exec ∧ c.code = cc ∧ c.maxLocals = nL ∧ s.vm.findClass own = some m.cls ∧ (∀ w ∈ Ts, w.before args s = true) ∧ va_K D vwCl (ee_tys dA) s ∧ (∀ q, s.heap.size ≤ q → A q) ∧ (ini → meth.name = "<init>") ∧
    (dm ≤ R.frames ∧ 64 * dm ≤ R.locals ∧ bc ≤ R.cells ∧ bs ≤ R.slots) ∧ ee_Ext s A ex
/-- one more symbol -/
theorem ee_Con.grow {s : State} {A : Nat → Prop} {D : va_G} {dA : Nat → ClassId} {ex : Nat → Nat} {x0 : List Int32} {a0 : List Nat} {sv0 : List Value} {nL : Nat} {lo : List (Nat × Value)} {stk : List Value} {w : ee_w} {iv : ee_iv} {sv : List Value} {ns : List Int32} {as : List Nat} {H : Heap} {lc : List Loc} {ls : Array Slot} {vs : List Value}
    (h : ee_Con s A D dA ex x0 a0 sv0 nL lo stk w iv sv ns as H lc ls vs) {z : Int32} {a b : Int} {fs : List ee_fa} (h1 : a ≤ z.toInt) (h2 : z.toInt ≤ b) (h3 : ∀ f ∈ fs, ee_fp ns z f) :
    ee_Con s A D dA ex x0 a0 sv0 nL lo stk w (ee_ps iv a b fs) sv (ns ++ [z]) as H lc ls vs := by
  obtain ⟨hk, ⟨⟨r, hr⟩, ha0⟩, ⟨lv, hl, hll⟩, hs, hv, ws, ⟨ha, hw⟩, hP, hD, hS⟩ := h
  have mv : ∀ x v, ee_v ns as ex x v → ee_v (ns ++ [z]) as ex x v := fun x v q => by simpa using ee_v.mono [z] [] q
  refine ⟨hk.push h1 h2 h3, ⟨⟨r ++ [z], by rw [hr, List.append_assoc]⟩, ha0⟩, ⟨lv, hl, hll.imp (fun a b q => ⟨q.1, mv _ _ q.2⟩)⟩, hs.imp mv, hv.imp mv, ws, ⟨ha, hw.imp (fun x q g => by simpa using ee_c.mono [z] [] g)⟩, hP, hD, hS⟩
theorem ee_look {ns : List Int32} {as : List Nat} {ex : Nat → Nat} {i : Nat} {x : Value} : ∀ {lo lv : List (Nat × Value)}, ee_all (ee_lr ns as ex) lo lv → lo.lookup i = some x → ∃ v, (i, v) ∈ lv ∧ ee_v ns as ex x v
  | [], [], _, h => by simp at h
  | (a, y) :: lo, (b, u) :: lv, q, h => by
    rw [List.lookup_cons] at h
    obtain ⟨⟨q1, q2⟩, q3⟩ := q
    by_cases e : i = a
    · simp only [e, beq_self_eq_true] at h
      cases h
      refine ⟨u, ?_, q2⟩
      rw [e, show a = b from q1]
      exact List.mem_cons_self
    · have e' : (i == a) = false := by simpa using e
      rw [e'] at h
      obtain ⟨v, h1, h2⟩ := ee_look q3 h
      exact ⟨v, List.mem_cons_of_mem _ h1, h2⟩
  | [], _ :: _, q, _ => q.elim
  | _ :: _, [], q, _ => q.elim
theorem ee_no {α : Type} {x : α} {P : Prop} (h : (none : Option α) = some x) : P := by cases h
def ee_nx {α : Type} (n k : Nat) (r : α) : Option α := if n = k then some r else none
theorem ee_nx_some {α : Type} {n k : Nat} {r q : α} (h : ee_nx n k r = some q) : n = k ∧ r = q := by
  unfold ee_nx at h
  by_cases e : n = k
  · rw [if_pos e] at h
    cases h
    exact ⟨e, rfl⟩
  · rw [if_neg e] at h
    cases h
/-- a handler of instructions: how many locals, room for cells and slots, the entry, the state -/
abbrev ee_H : Type := Nat → Nat → Nat → ee_en → ee_st → Option (List ee_st)
def ee_Snd (h : ee_H) : Prop := ∀ (X : ee_cx) (Y : ee_cy) (oc : Nat) (own : String) (cc : ByteArray) (ini : Prop) (dm bc bs : Nat) (Q : State → Prop) (e : ee_en) (st : ee_st) (sts : List ee_st), ee_F X Y own cc ee_tbl ini (dm + 1) bc bs → ee_own[oc]? = some own → (ee_ini e = true → ini) → decode cc e.1 = .ok (e.2.1, e.2.2.1) → ee_eok oc e = true → st.1 = e.1 → h Y.2.2.2.2.2.2.2 bc bs e st = some sts → (∀ q ∈ sts, ee_G X Y Q q) → ee_G X Y Q st
/-- numbers pushed -/
def ee_h0 : ee_H := fun _ _ _ e st => match st with
  | (pc, lo, stk, w, iv, kc, ks, sv) => match e.2.1 with
    | .iconst n => ee_nx e.2.2.1 1 [(pc + 1, lo, .int (Int32.ofInt n) :: stk, w, iv, kc, ks, sv)]
    | .bipush n => ee_nx e.2.2.1 2 [(pc + 2, lo, .int (Int8.ofInt n).toInt32 :: stk, w, iv, kc, ks, sv)]
    | .sipush n => ee_nx e.2.2.1 3 [(pc + 3, lo, .int (Int16.ofInt n).toInt32 :: stk, w, iv, kc, ks, sv)]
    | .lconst _ => ee_nx e.2.2.1 1 [(pc + 1, lo, .double 0 :: stk, w, iv, kc, ks, sv)]
    | .goto o => if 0 ≤ (pc : Int) + o then ee_nx e.2.2.1 3 [(((pc : Int) + o).toNat, lo, stk, w, iv, kc, ks, sv)] else none
    | _ => none
set_option maxHeartbeats 2000000 in
theorem ee_h0.snd : ee_Snd ee_h0 := by
  intro X Y oc own cc ini dm bc bs Q e st sts F ho hi hd he hpc h k
  obtain ⟨p, l, en, R, s, m, args, below, meth, c⟩ := X
  obtain ⟨A, D, dA, ex, x0, a0, sv0, nL⟩ := Y
  obtain ⟨pc, lo, stk, w, iv, kc, ks, sv⟩ := st
  obtain ⟨pc', ins, len, hn, ea, eb, ez, qa, qb, qc⟩ := e
  obtain ⟨hx, hb, hml, hown, hts, hK, hA, hini, hR, hE⟩ := F
  have hpc : pc = pc' := hpc
  subst hpc
  have hd : decode cc pc = .ok (ins, len) := hd
  intro ns as H lc ls vs C
  obtain ⟨c1, c2, c3, c4, c5, c6⟩ := C
  show W p l en R s m args below meth c H lc kc ks Q (F0 m pc ls vs)
  cases ins with
  | iconst n =>
    obtain ⟨rfl, rfl⟩ := ee_nx_some (show ee_nx len 1 _ = some sts from h)
    exact lv_iconst hx hb hd rfl (k _ List.mem_cons_self ns as H lc ls _ ⟨c1, c2, c3, ⟨rfl, c4⟩, c5, c6⟩)
  | bipush n =>
    obtain ⟨rfl, rfl⟩ := ee_nx_some (show ee_nx len 2 _ = some sts from h)
    exact lv_bipush hx hb hd rfl (k _ List.mem_cons_self ns as H lc ls _ ⟨c1, c2, c3, ⟨rfl, c4⟩, c5, c6⟩)
  | sipush n =>
    obtain ⟨rfl, rfl⟩ := ee_nx_some (show ee_nx len 3 _ = some sts from h)
    exact lv_sipush hx hb hd rfl (k _ List.mem_cons_self ns as H lc ls _ ⟨c1, c2, c3, ⟨rfl, c4⟩, c5, c6⟩)
  | lconst n =>
    obtain ⟨rfl, rfl⟩ := ee_nx_some (show ee_nx len 1 _ = some sts from h)
    exact lv_lconst hx hb hd rfl (k _ List.mem_cons_self ns as H lc ls _ ⟨c1, c2, c3, ⟨⟨_, rfl⟩, c4⟩, c5, c6⟩)
  | goto o =>
    have h : (if 0 ≤ (pc : Int) + o then ee_nx len 3 [(((pc : Int) + o).toNat, lo, stk, w, iv, kc, ks, sv)] else none) = some sts := h
    by_cases ho : 0 ≤ (pc : Int) + o
    · rw [if_pos ho] at h
      obtain ⟨rfl, rfl⟩ := ee_nx_some h
      exact lv_goto hx hb hd (by omega) (k _ List.mem_cons_self ns as H lc ls _ ⟨c1, c2, c3, c4, c5, c6⟩)
    · rw [if_neg ho] at h
      exact ee_no h
  | _ => exact ee_no h
end
section
/-! handlers: loads, stores, numbers -/
theorem ee_own_ow {oc : Nat} {own : String} (h : ee_own[oc]? = some own) : ee_ow oc = own := by
  unfold ee_ow
  rw [List.getD_eq_getElem?_getD, h]; rfl
theorem ee_and {a b : Bool} (h : (a && b) = true) : a = true ∧ b = true := Bool.and_eq_true_iff.mp h
/-- an int out of the locals -/
def ee_ld (iv : ee_iv) (lo : List (Nat × Value)) (i : Nat) : Option Value := match lo.lookup i with
  | some x => (match ee_it iv x with
    | some _ => some x
    | none => none)
  | none => none
theorem ee_ld.ok {ns : List Int32} {as : List Nat} {ex : Nat → Nat} {iv : ee_iv} {lo lv : List (Nat × Value)} {ls : Array Slot} {nL i : Nat} {x : Value} (hk : ee_ok ns iv) (hl : lv_has ls nL lv) (ha : ee_all (ee_lr ns as ex) lo lv) (h : ee_ld iv lo i = some x) : ∃ z : Int32, (i, Value.int z) ∈ lv ∧ ls[i]? = some (.val (.int z)) ∧ ee_v ns as ex x (.int z) := by
  unfold ee_ld at h
  cases h1 : lo.lookup i with
  | none => rw [h1] at h; cases h
  | some y =>
    rw [h1] at h
    simp only at h
    cases h2 : ee_it iv y with
    | none => rw [h2] at h; cases h
    | some q =>
      rw [h2] at h
      cases h
      obtain ⟨v, g1, g2⟩ := ee_look ha h1
      obtain ⟨z, rfl, -, -⟩ := ee_it.int hk g2 h2
      exact ⟨z, g1, hl.2.2 _ g1, g2⟩
def ee_la (lo : List (Nat × Value)) (i : Nat) : Option Nat := match lo.lookup i with
  | some (.ref k) => some k
  | _ => none
theorem ee_v.ref {ns : List Int32} {as : List Nat} {ex : Nat → Nat} {k : Nat} {v : Value} (h : ee_v ns as ex (.ref k) v) : ∃ a, v = .ref a := by
  unfold ee_v at h
  by_cases hk : k < 1000000
  · simp only [hk, if_true] at h
    obtain ⟨a, -, h⟩ := h
    exact ⟨a, h⟩
  · simp only [hk, if_false] at h
    exact ⟨_, h⟩
theorem ee_la.ok {ns : List Int32} {as : List Nat} {ex : Nat → Nat} {lo lv : List (Nat × Value)} {ls : Array Slot} {nL i k : Nat} (hl : lv_has ls nL lv) (ha : ee_all (ee_lr ns as ex) lo lv) (h : ee_la lo i = some k) : ∃ a, ls[i]? = some (.val (.ref a)) ∧ ee_v ns as ex (.ref k) (.ref a) := by
  unfold ee_la at h
  split at h
  · rename_i j h1
    cases h
    obtain ⟨v, g1, g2⟩ := ee_look ha h1
    obtain ⟨a, rfl⟩ := ee_v.ref g2
    exact ⟨a, hl.2.2 _ g1, g2⟩
  · cases h
/-- a long, whatever is known of it -/
def ee_isl (x : Value) : Bool := match x with
  | .long _ => true
  | .double _ => true
  | _ => false
theorem ee_isl.ok {ns : List Int32} {as : List Nat} {ex : Nat → Nat} {x v : Value} (h : ee_v ns as ex x v) (hl : ee_isl x = true) : ∃ z, v = .long z := by
  cases x with
  | long q => exact ⟨q, h⟩
  | double q => exact h.dbl
  | _ => cases hl
def ee_ll (lo : List (Nat × Value)) (i : Nat) : Option Value := match lo.lookup i with
  | some x => if ee_isl x = true then some x else none
  | none => none
theorem ee_ll.ok {ns : List Int32} {as : List Nat} {ex : Nat → Nat} {lo lv : List (Nat × Value)} {ls : Array Slot} {nL i : Nat} {x : Value} (hl : lv_has ls nL lv) (ha : ee_all (ee_lr ns as ex) lo lv) (h : ee_ll lo i = some x) : ∃ z, ls[i]? = some (.val (.long z)) ∧ ee_v ns as ex x (.long z) := by
  unfold ee_ll at h
  cases h1 : lo.lookup i with
  | none => rw [h1] at h; cases h
  | some y =>
    rw [h1] at h
    simp only at h
    by_cases hc : ee_isl y = true
    · rw [if_pos hc] at h
      cases h
      obtain ⟨v, g1, g2⟩ := ee_look ha h1
      obtain ⟨z, rfl⟩ := ee_isl.ok g2 hc
      exact ⟨z, hl.2.2 _ g1, g2⟩
    · rw [if_neg hc] at h
      cases h
theorem ee_v.outs {ns : List Int32} {as : List Nat} {ex : Nat → Nat} {k : Nat} (hk : ¬ k < 1000000) : ee_v ns as ex (.ref k) (.ref (ex k)) := by
  show (if k < 1000000 then ∃ a, as[k]? = some a ∧ Value.ref (ex k) = Value.ref a else Value.ref (ex k) = Value.ref (ex k))
  rw [if_neg hk]
theorem ee_v.inw {ns : List Int32} {as : List Nat} {ex : Nat → Nat} {k a : Nat} (hk : k < 1000000) (h : as[k]? = some a) : ee_v ns as ex (.ref k) (.ref a) := by
  show (if k < 1000000 then ∃ b, as[k]? = some b ∧ Value.ref a = Value.ref b else Value.ref a = Value.ref (ex k))
  rw [if_pos hk]
  exact ⟨a, h, rfl⟩
def ee_isr (x : Value) : Bool := match x with
  | .ref _ => true
  | _ => false
theorem ee_isr.ok {ns : List Int32} {as : List Nat} {ex : Nat → Nat} {x v : Value} (h : ee_v ns as ex x v) (hl : ee_isr x = true) : ∃ a, v = .ref a := by
  cases x with
  | ref k => exact h.ref
  | _ => cases hl
def ee_h1 : ee_H := fun _ _ _ e st => match st with
  | (pc, lo, stk, w, iv, kc, ks, sv) => match e.2.1 with
    | .ldc _ => if e.2.2.2.2.2.1 = 0 then ee_nx e.2.2.1 2 [(pc + 2, lo, .int (Int32.ofInt e.2.2.2.2.2.2.1) :: stk, w, iv, kc, ks, sv)] else if e.2.2.2.2.2.1 = 1 then ee_nx e.2.2.1 2 [(pc + 2, lo, .ref (1000000 + e.2.2.2.2.1) :: stk, w, iv, kc, ks, sv)] else none
    | .ldc_w _ => if e.2.2.2.2.2.1 = 0 then ee_nx e.2.2.1 3 [(pc + 3, lo, .int (Int32.ofInt e.2.2.2.2.2.2.1) :: stk, w, iv, kc, ks, sv)] else none
    | .ldc2_w _ => ee_nx e.2.2.1 3 [(pc + 3, lo, .long (Int64.ofInt e.2.2.2.2.2.2.1) :: stk, w, iv, kc, ks, sv)]
    | _ => none
set_option maxHeartbeats 2000000 in
theorem ee_h1.snd : ee_Snd ee_h1 := by
  intro X Y oc own cc ini dm bc bs Q e st sts F ho hi hd he hpc h k
  obtain ⟨p, l, en, R, s, m, args, below, meth, c⟩ := X
  obtain ⟨A, D, dA, ex, x0, a0, sv0, nL⟩ := Y
  obtain ⟨pc, lo, stk, w, iv, kc, ks, sv⟩ := st
  obtain ⟨pc', ins, len, hn, ea, eb, ez, qa, qb, qc⟩ := e
  obtain ⟨hx, hb, hml, hown, hts, hK, hA, hini, hR, hE⟩ := F
  have hpc : pc = pc' := hpc
  subst hpc
  have hd : decode cc pc = .ok (ins, len) := hd
  intro ns as H lc ls vs C
  obtain ⟨c1, c2, c3, c4, c5, c6⟩ := C
  show W p l en R s m args below meth c H lc kc ks Q (F0 m pc ls vs)
  cases ins with
  | ldc i =>
    replace h : (if eb = 0 then ee_nx len 2 [(pc + 2, lo, Value.int (Int32.ofInt ez) :: stk, w, iv, kc, ks, sv)] else if eb = 1 then ee_nx len 2 [(pc + 2, lo, Value.ref (1000000 + ea) :: stk, w, iv, kc, ks, sv)] else none) = some sts := h
    have hee : (if eb = 0 then (match ee_KL[ea]? with
      | some q => decide (q.1 = oc) && (decide (q.2.1 = i) && decide (q.2.2.1 = ez))
      | none => false) else if eb = 1 then decide (oc = 5) && (decide (ea < 2) && decide (ee_six.getD ea 0 = i)) else true) = true := he
    by_cases h0 : eb = 0
    · rw [if_pos h0] at h hee
      obtain ⟨rfl, rfl⟩ := ee_nx_some h
      cases hq : ee_KL[ea]? with
      | none => rw [hq] at hee; cases hee
      | some q =>
        rw [hq] at hee
        obtain ⟨e1, e2⟩ := ee_and hee
        obtain ⟨e2, e3⟩ := ee_and e2
        have e1 := of_decide_eq_true e1
        have e2 := of_decide_eq_true e2
        have e3 := of_decide_eq_true e3
        have hm := ee_KLok q (List.mem_of_getElem? hq)
        rw [e1, ee_own_ow ho, e2, e3] at hm
        exact lv_ldc hx hb hown (hts _ hm) hd (k _ List.mem_cons_self ns as H lc ls _ ⟨c1, c2, c3, ⟨rfl, c4⟩, c5, c6⟩)
    · rw [if_neg h0] at h hee
      by_cases h1 : eb = 1
      · rw [if_pos h1] at h hee
        obtain ⟨rfl, rfl⟩ := ee_nx_some h
        obtain ⟨e1, e2⟩ := ee_and hee
        obtain ⟨e2, e3⟩ := ee_and e2
        have e1 := of_decide_eq_true e1
        have e2 := of_decide_eq_true e2
        have e3 := of_decide_eq_true e3
        have hR5 : own = RX5 := by
          rw [e1] at ho
          exact (Option.some.inj (ho.symm.trans rfl))
        have hz := hE.2.1 ea e2
        rw [e3, ← hR5] at hz
        exact va_ldcS hx hb hown hz hd (k _ List.mem_cons_self ns as H lc ls _ ⟨c1, c2, c3, ⟨ee_v.outs (by omega), c4⟩, c5, c6⟩)
      · rw [if_neg h1] at h
        exact ee_no h
  | ldc_w i =>
    replace h : (if eb = 0 then ee_nx len 3 [(pc + 3, lo, Value.int (Int32.ofInt ez) :: stk, w, iv, kc, ks, sv)] else none) = some sts := h
    have hee : (if eb = 0 then (match ee_KL[ea]? with
      | some q => decide (q.1 = oc) && (decide (q.2.1 = i) && decide (q.2.2.1 = ez))
      | none => false) else true) = true := he
    by_cases h0 : eb = 0
    · rw [if_pos h0] at h hee
      obtain ⟨rfl, rfl⟩ := ee_nx_some h
      cases hq : ee_KL[ea]? with
      | none => rw [hq] at hee; cases hee
      | some q =>
        rw [hq] at hee
        obtain ⟨e1, e2⟩ := ee_and hee
        obtain ⟨e2, e3⟩ := ee_and e2
        have e1 := of_decide_eq_true e1
        have e2 := of_decide_eq_true e2
        have e3 := of_decide_eq_true e3
        have hm := ee_KLok q (List.mem_of_getElem? hq)
        rw [e1, ee_own_ow ho, e2, e3] at hm
        exact lv_ldcw hx hb hown (hts _ hm) hd (k _ List.mem_cons_self ns as H lc ls _ ⟨c1, c2, c3, ⟨rfl, c4⟩, c5, c6⟩)
    · rw [if_neg h0] at h
      exact ee_no h
  | ldc2_w i =>
    replace h : ee_nx len 3 [(pc + 3, lo, Value.long (Int64.ofInt ez) :: stk, w, iv, kc, ks, sv)] = some sts := h
    have hee : (match ee_LL[ea]? with
      | some q => decide (q.1 = oc) && (decide (q.2.1 = i) && decide (q.2.2.1 = Int64.ofInt ez))
      | none => false) = true := he
    obtain ⟨rfl, rfl⟩ := ee_nx_some h
    cases hq : ee_LL[ea]? with
    | none => rw [hq] at hee; cases hee
    | some q =>
      rw [hq] at hee
      obtain ⟨e1, e2⟩ := ee_and hee
      obtain ⟨e2, e3⟩ := ee_and e2
      have e1 := of_decide_eq_true e1
      have e2 := of_decide_eq_true e2
      have e3 := of_decide_eq_true e3
      have hm := ee_LLok q (List.mem_of_getElem? hq)
      rw [e1, ee_own_ow ho, e2, e3] at hm
      exact lv_ldc2 hx hb hown (hts _ hm) hd (k _ List.mem_cons_self ns as H lc ls _ ⟨c1, c2, c3, ⟨rfl, c4⟩, c5, c6⟩)
  | _ => exact ee_no h
def ee_h2 : ee_H := fun _ _ _ e st => match st with
  | (pc, lo, stk, w, iv, kc, ks, sv) => match e.2.1 with
    | .iload i => (match ee_ld iv lo i with
      | some x => ee_nx e.2.2.1 2 [(pc + 2, lo, x :: stk, w, iv, kc, ks, sv)]
      | none => none)
    | .iload_n i => (match ee_ld iv lo i.val with
      | some x => ee_nx e.2.2.1 1 [(pc + 1, lo, x :: stk, w, iv, kc, ks, sv)]
      | none => none)
    | _ => none
set_option maxHeartbeats 2000000 in
theorem ee_h2.snd : ee_Snd ee_h2 := by
  intro X Y oc own cc ini dm bc bs Q e st sts F ho hi hd he hpc h k
  obtain ⟨p, l, en, R, s, m, args, below, meth, c⟩ := X
  obtain ⟨A, D, dA, ex, x0, a0, sv0, nL⟩ := Y
  obtain ⟨pc, lo, stk, w, iv, kc, ks, sv⟩ := st
  obtain ⟨pc', ins, len, hn, ea, eb, ez, qa, qb, qc⟩ := e
  obtain ⟨hx, hb, hml, hown, hts, hK, hA, hini, hR, hE⟩ := F
  have hpc : pc = pc' := hpc
  subst hpc
  have hd : decode cc pc = .ok (ins, len) := hd
  intro ns as H lc ls vs C
  obtain ⟨c1, c2, c3, c4, c5, c6⟩ := C
  show W p l en R s m args below meth c H lc kc ks Q (F0 m pc ls vs)
  obtain ⟨lv, c3, c3l⟩ := c3
  cases ins with
  | iload i =>
    replace h : (match ee_ld iv lo i with
      | some x => ee_nx len 2 [(pc + 2, lo, x :: stk, w, iv, kc, ks, sv)]
      | none => none) = some sts := h
    cases hq : ee_ld iv lo i with
    | none => rw [hq] at h; exact ee_no h
    | some x =>
      rw [hq] at h
      obtain ⟨rfl, rfl⟩ := ee_nx_some h
      obtain ⟨z, -, g1, g2⟩ := ee_ld.ok c1 c3 c3l hq
      exact lv_iload hx hb hd g1 (k _ List.mem_cons_self ns as H lc ls _ ⟨c1, c2, ⟨lv, c3, c3l⟩, ⟨g2, c4⟩, c5, c6⟩)
  | iload_n i =>
    replace h : (match ee_ld iv lo i.val with
      | some x => ee_nx len 1 [(pc + 1, lo, x :: stk, w, iv, kc, ks, sv)]
      | none => none) = some sts := h
    cases hq : ee_ld iv lo i.val with
    | none => rw [hq] at h; exact ee_no h
    | some x =>
      rw [hq] at h
      obtain ⟨rfl, rfl⟩ := ee_nx_some h
      obtain ⟨z, -, g1, g2⟩ := ee_ld.ok c1 c3 c3l hq
      exact lv_iload_n hx hb hd rfl g1 (k _ List.mem_cons_self ns as H lc ls _ ⟨c1, c2, ⟨lv, c3, c3l⟩, ⟨g2, c4⟩, c5, c6⟩)
  | _ => exact ee_no h
def ee_h3 : ee_H := fun _ _ _ e st => match st with
  | (pc, lo, stk, w, iv, kc, ks, sv) => match e.2.1 with
    | .aload i => (match ee_la lo i with
      | some x => ee_nx e.2.2.1 2 [(pc + 2, lo, .ref x :: stk, w, iv, kc, ks, sv)]
      | none => none)
    | .aload_n i => (match ee_la lo i.val with
      | some x => ee_nx e.2.2.1 1 [(pc + 1, lo, .ref x :: stk, w, iv, kc, ks, sv)]
      | none => none)
    | .lload i => (match ee_ll lo i with
      | some x => ee_nx e.2.2.1 2 [(pc + 2, lo, x :: stk, w, iv, kc, ks, sv)]
      | none => none)
    | .lload_n i => (match ee_ll lo i.val with
      | some x => ee_nx e.2.2.1 1 [(pc + 1, lo, x :: stk, w, iv, kc, ks, sv)]
      | none => none)
    | _ => none
set_option maxHeartbeats 2000000 in
theorem ee_h3.snd : ee_Snd ee_h3 := by
  intro X Y oc own cc ini dm bc bs Q e st sts F ho hi hd he hpc h k
  obtain ⟨p, l, en, R, s, m, args, below, meth, c⟩ := X
  obtain ⟨A, D, dA, ex, x0, a0, sv0, nL⟩ := Y
  obtain ⟨pc, lo, stk, w, iv, kc, ks, sv⟩ := st
  obtain ⟨pc', ins, len, hn, ea, eb, ez, qa, qb, qc⟩ := e
  obtain ⟨hx, hb, hml, hown, hts, hK, hA, hini, hR, hE⟩ := F
  have hpc : pc = pc' := hpc
  subst hpc
  have hd : decode cc pc = .ok (ins, len) := hd
  intro ns as H lc ls vs C
  obtain ⟨c1, c2, c3, c4, c5, c6⟩ := C
  show W p l en R s m args below meth c H lc kc ks Q (F0 m pc ls vs)
  obtain ⟨lv, c3, c3l⟩ := c3
  cases ins with
  | aload i =>
    replace h : (match ee_la lo i with
      | some x => ee_nx len 2 [(pc + 2, lo, Value.ref x :: stk, w, iv, kc, ks, sv)]
      | none => none) = some sts := h
    cases hq : ee_la lo i with
    | none => rw [hq] at h; exact ee_no h
    | some x =>
      rw [hq] at h
      obtain ⟨rfl, rfl⟩ := ee_nx_some h
      obtain ⟨a, g1, g2⟩ := ee_la.ok c3 c3l hq
      exact lv_aload hx hb hd g1 (k _ List.mem_cons_self ns as H lc ls _ ⟨c1, c2, ⟨lv, c3, c3l⟩, ⟨g2, c4⟩, c5, c6⟩)
  | aload_n i =>
    replace h : (match ee_la lo i.val with
      | some x => ee_nx len 1 [(pc + 1, lo, Value.ref x :: stk, w, iv, kc, ks, sv)]
      | none => none) = some sts := h
    cases hq : ee_la lo i.val with
    | none => rw [hq] at h; exact ee_no h
    | some x =>
      rw [hq] at h
      obtain ⟨rfl, rfl⟩ := ee_nx_some h
      obtain ⟨a, g1, g2⟩ := ee_la.ok c3 c3l hq
      exact lv_aload_n hx hb hd rfl g1 (k _ List.mem_cons_self ns as H lc ls _ ⟨c1, c2, ⟨lv, c3, c3l⟩, ⟨g2, c4⟩, c5, c6⟩)
  | lload i =>
    replace h : (match ee_ll lo i with
      | some x => ee_nx len 2 [(pc + 2, lo, x :: stk, w, iv, kc, ks, sv)]
      | none => none) = some sts := h
    cases hq : ee_ll lo i with
    | none => rw [hq] at h; exact ee_no h
    | some x =>
      rw [hq] at h
      obtain ⟨rfl, rfl⟩ := ee_nx_some h
      obtain ⟨z, g1, g2⟩ := ee_ll.ok c3 c3l hq
      exact lv_lload hx hb hd g1 (k _ List.mem_cons_self ns as H lc ls _ ⟨c1, c2, ⟨lv, c3, c3l⟩, ⟨g2, c4⟩, c5, c6⟩)
  | lload_n i =>
    replace h : (match ee_ll lo i.val with
      | some x => ee_nx len 1 [(pc + 1, lo, x :: stk, w, iv, kc, ks, sv)]
      | none => none) = some sts := h
    cases hq : ee_ll lo i.val with
    | none => rw [hq] at h; exact ee_no h
    | some x =>
      rw [hq] at h
      obtain ⟨rfl, rfl⟩ := ee_nx_some h
      obtain ⟨z, g1, g2⟩ := ee_ll.ok c3 c3l hq
      exact lv_lload_n hx hb hd rfl g1 (k _ List.mem_cons_self ns as H lc ls _ ⟨c1, c2, ⟨lv, c3, c3l⟩, ⟨g2, c4⟩, c5, c6⟩)
  | _ => exact ee_no h
def ee_sl (i : Nat) (x : Value) (lo : List (Nat × Value)) : List (Nat × Value) := (i, x) :: lo.filter (fun q => !(q.1 == i) && !(q.1 + 1 == i && ee_cat q.2 == 2))
theorem ee_sl.ok {ns : List Int32} {as : List Nat} {ex : Nat → Nat} {i : Nat} {x v : Value} {lo lv : List (Nat × Value)} (h : ee_all (ee_lr ns as ex) lo lv) (hv : ee_v ns as ex x v) : ee_all (ee_lr ns as ex) (ee_sl i x lo) ((i, v) :: lv.filter (fun q => !(q.1 == i) && !(q.1 + 1 == i && q.2.category == 2))) :=
  ⟨⟨rfl, hv⟩, h.filter (fun a b q => by rw [q.1, q.2.cat])⟩
def ee_sl2 (i : Nat) (x : Value) (lo : List (Nat × Value)) : List (Nat × Value) := (i, x) :: lo.filter (fun q => !(q.1 == i) && (!(q.1 == i + 1) && !(q.1 + 1 == i && ee_cat q.2 == 2)))
theorem ee_sl2.ok {ns : List Int32} {as : List Nat} {ex : Nat → Nat} {i : Nat} {x v : Value} {lo lv : List (Nat × Value)} (h : ee_all (ee_lr ns as ex) lo lv) (hv : ee_v ns as ex x v) : ee_all (ee_lr ns as ex) (ee_sl2 i x lo) ((i, v) :: lv.filter (fun q => !(q.1 == i) && (!(q.1 == i + 1) && !(q.1 + 1 == i && q.2.category == 2)))) :=
  ⟨⟨rfl, hv⟩, h.filter (fun a b q => by rw [q.1, q.2.cat])⟩
def ee_h4 : ee_H := fun nL _ _ e st => match st with
  | (pc, lo, x :: stk, w, iv, kc, ks, sv) => (match ee_it iv x with
    | some _ => (match e.2.1 with
      | .istore i => if i < nL then ee_nx e.2.2.1 2 [(pc + 2, ee_sl i x lo, stk, w, iv, kc, ks, sv)] else none
      | .istore_n i => if i.val < nL then ee_nx e.2.2.1 1 [(pc + 1, ee_sl i.val x lo, stk, w, iv, kc, ks, sv)] else none
      | _ => none)
    | none => none)
  | _ => none
set_option maxHeartbeats 2000000 in
theorem ee_h4.snd : ee_Snd ee_h4 := by
  intro X Y oc own cc ini dm bc bs Q e st sts F ho hi hd he hpc h k
  obtain ⟨p, l, en, R, s, m, args, below, meth, c⟩ := X
  obtain ⟨A, D, dA, ex, x0, a0, sv0, nL⟩ := Y
  obtain ⟨pc, lo, stk, w, iv, kc, ks, sv⟩ := st
  obtain ⟨pc', ins, len, hn, ea, eb, ez, qa, qb, qc⟩ := e
  obtain ⟨hx, hb, hml, hown, hts, hK, hA, hini, hR, hE⟩ := F
  have hpc : pc = pc' := hpc
  subst hpc
  have hd : decode cc pc = .ok (ins, len) := hd
  intro ns as H lc ls vs C
  obtain ⟨c1, c2, c3, c4, c5, c6⟩ := C
  show W p l en R s m args below meth c H lc kc ks Q (F0 m pc ls vs)
  obtain ⟨lv, c3, c3l⟩ := c3
  cases stk with
  | nil => exact ee_no h
  | cons x stk =>
    cases vs with
    | nil => exact c4.elim
    | cons v vs =>
      obtain ⟨c4v, c4⟩ := c4
      replace h : (match ee_it iv x with
        | some _ => (match (generalizing := false) ins with
          | .istore i => if i < nL then ee_nx len 2 [(pc + 2, ee_sl i x lo, stk, w, iv, kc, ks, sv)] else none
          | .istore_n i => if i.val < nL then ee_nx len 1 [(pc + 1, ee_sl i.val x lo, stk, w, iv, kc, ks, sv)] else none
          | _ => none)
        | none => none) = some sts := h
      cases hq : ee_it iv x with
      | none => rw [hq] at h; exact ee_no h
      | some q =>
        rw [hq] at h
        obtain ⟨z, rfl, -, -⟩ := ee_it.int c1 c4v hq
        cases ins with
        | istore i =>
          replace h : (if i < nL then ee_nx len 2 [(pc + 2, ee_sl i x lo, stk, w, iv, kc, ks, sv)] else none) = some sts := h
          by_cases hl : i < nL
          · rw [if_pos hl] at h
            obtain ⟨rfl, rfl⟩ := ee_nx_some h
            exact lv_istore hx hb hd c3 hl rfl (fun ls' hl' => k _ List.mem_cons_self ns as H lc ls' _ ⟨c1, c2, ⟨_, hl', ee_sl.ok c3l c4v⟩, c4, c5, c6⟩)
          · rw [if_neg hl] at h
            exact ee_no h
        | istore_n i =>
          replace h : (if i.val < nL then ee_nx len 1 [(pc + 1, ee_sl i.val x lo, stk, w, iv, kc, ks, sv)] else none) = some sts := h
          by_cases hl : i.val < nL
          · rw [if_pos hl] at h
            obtain ⟨rfl, rfl⟩ := ee_nx_some h
            exact lv_istore_n hx hb hd rfl c3 hl rfl (fun ls' hl' => k _ List.mem_cons_self ns as H lc ls' _ ⟨c1, c2, ⟨_, hl', ee_sl.ok c3l c4v⟩, c4, c5, c6⟩)
          · rw [if_neg hl] at h
            exact ee_no h
        | _ => exact ee_no h
def ee_h5 : ee_H := fun nL _ _ e st => match st with
  | (pc, lo, x :: stk, w, iv, kc, ks, sv) => (match e.2.1 with
      | .astore i => if ee_isr x = true ∧ i < nL then ee_nx e.2.2.1 2 [(pc + 2, ee_sl i x lo, stk, w, iv, kc, ks, sv)] else none
      | .astore_n i => if ee_isr x = true ∧ i.val < nL then ee_nx e.2.2.1 1 [(pc + 1, ee_sl i.val x lo, stk, w, iv, kc, ks, sv)] else none
      | .lstore i => if ee_isl x = true ∧ i + 1 < nL then ee_nx e.2.2.1 2 [(pc + 2, ee_sl2 i x lo, stk, w, iv, kc, ks, sv)] else none
      | .lstore_n i => if ee_isl x = true ∧ i.val + 1 < nL then ee_nx e.2.2.1 1 [(pc + 1, ee_sl2 i.val x lo, stk, w, iv, kc, ks, sv)] else none
      | _ => none)
  | _ => none
set_option maxHeartbeats 2000000 in
theorem ee_h5.snd : ee_Snd ee_h5 := by
  intro X Y oc own cc ini dm bc bs Q e st sts F ho hi hd he hpc h k
  obtain ⟨p, l, en, R, s, m, args, below, meth, c⟩ := X
  obtain ⟨A, D, dA, ex, x0, a0, sv0, nL⟩ := Y
  obtain ⟨pc, lo, stk, w, iv, kc, ks, sv⟩ := st
  obtain ⟨pc', ins, len, hn, ea, eb, ez, qa, qb, qc⟩ := e
  obtain ⟨hx, hb, hml, hown, hts, hK, hA, hini, hR, hE⟩ := F
  have hpc : pc = pc' := hpc
  subst hpc
  have hd : decode cc pc = .ok (ins, len) := hd
  intro ns as H lc ls vs C
  obtain ⟨c1, c2, c3, c4, c5, c6⟩ := C
  show W p l en R s m args below meth c H lc kc ks Q (F0 m pc ls vs)
  obtain ⟨lv, c3, c3l⟩ := c3
  cases stk with
  | nil => exact ee_no h
  | cons x stk =>
    cases vs with
    | nil => exact c4.elim
    | cons v vs =>
      obtain ⟨c4v, c4⟩ := c4
      cases ins with
      | astore i =>
        replace h : (if ee_isr x = true ∧ i < nL then ee_nx len 2 [(pc + 2, ee_sl i x lo, stk, w, iv, kc, ks, sv)] else none) = some sts := h
        by_cases hl : ee_isr x = true ∧ i < nL
        · rw [if_pos hl] at h
          obtain ⟨rfl, rfl⟩ := ee_nx_some h
          obtain ⟨a, rfl⟩ := ee_isr.ok c4v hl.1
          exact lv_astore hx hb hd c3 hl.2 rfl (fun ls' hl' => k _ List.mem_cons_self ns as H lc ls' _ ⟨c1, c2, ⟨_, hl', ee_sl.ok c3l c4v⟩, c4, c5, c6⟩)
        · rw [if_neg hl] at h
          exact ee_no h
      | astore_n i =>
        replace h : (if ee_isr x = true ∧ i.val < nL then ee_nx len 1 [(pc + 1, ee_sl i.val x lo, stk, w, iv, kc, ks, sv)] else none) = some sts := h
        by_cases hl : ee_isr x = true ∧ i.val < nL
        · rw [if_pos hl] at h
          obtain ⟨rfl, rfl⟩ := ee_nx_some h
          obtain ⟨a, rfl⟩ := ee_isr.ok c4v hl.1
          exact lv_astore_n hx hb hd rfl c3 hl.2 rfl (fun ls' hl' => k _ List.mem_cons_self ns as H lc ls' _ ⟨c1, c2, ⟨_, hl', ee_sl.ok c3l c4v⟩, c4, c5, c6⟩)
        · rw [if_neg hl] at h
          exact ee_no h
      | lstore i =>
        replace h : (if ee_isl x = true ∧ i + 1 < nL then ee_nx len 2 [(pc + 2, ee_sl2 i x lo, stk, w, iv, kc, ks, sv)] else none) = some sts := h
        by_cases hl : ee_isl x = true ∧ i + 1 < nL
        · rw [if_pos hl] at h
          obtain ⟨rfl, rfl⟩ := ee_nx_some h
          obtain ⟨z, rfl⟩ := ee_isl.ok c4v hl.1
          exact lv_lstore hx hb hd c3 hl.2 rfl (fun ls' hl' => k _ List.mem_cons_self ns as H lc ls' _ ⟨c1, c2, ⟨_, hl', ee_sl2.ok c3l c4v⟩, c4, c5, c6⟩)
        · rw [if_neg hl] at h
          exact ee_no h
      | lstore_n i =>
        replace h : (if ee_isl x = true ∧ i.val + 1 < nL then ee_nx len 1 [(pc + 1, ee_sl2 i.val x lo, stk, w, iv, kc, ks, sv)] else none) = some sts := h
        by_cases hl : ee_isl x = true ∧ i.val + 1 < nL
        · rw [if_pos hl] at h
          obtain ⟨rfl, rfl⟩ := ee_nx_some h
          obtain ⟨z, rfl⟩ := ee_isl.ok c4v hl.1
          exact lv_lstore_n hx hb hd rfl c3 hl.2 rfl (fun ls' hl' => k _ List.mem_cons_self ns as H lc ls' _ ⟨c1, c2, ⟨_, hl', ee_sl2.ok c3l c4v⟩, c4, c5, c6⟩)
        · rw [if_neg hl] at h
          exact ee_no h
      | _ => exact ee_no h
end
section
/-! handlers: arithmetic, comparisons -/
theorem ee_rng (x : Int32) : -2147483648 ≤ x.toInt ∧ x.toInt ≤ 2147483647 := by
  have h1 := Int32.le_toInt x
  have h2 := Int32.toInt_lt x
  omega
theorem ee_bmod {z : Int} (h1 : -2147483648 ≤ z) (h2 : z ≤ 2147483647) : z.bmod (2 ^ 32) = z := by
  rw [Int.bmod_eq_of_le (by omega) (by omega)]
def ee_op (ins : ClassFile.Instr) (x y : Int32) : Int32 := match ins with
  | .iadd => x + y
  | .isub => x - y
  | .imul => x * y
  | .iand => x &&& y
  | .ior => x ||| y
  | .ixor => x ^^^ y
  | .ishl => x <<< (y &&& 31)
  | .ishr => x >>> (y &&& 31)
  | .iushr => (x.toUInt32 >>> (y.toUInt32 &&& Int32.toUInt32 31)).toInt32
  | .idiv => x / y
  | .irem => x - x / y * y
  | _ => 0
def ee_rg (a b : Int) : Int × Int := if -2147483648 ≤ a ∧ b ≤ 2147483647 then (a, b) else (-2147483648, 2147483647)
theorem ee_rg.ok {a b : Int} {z : Int32} {t : Int} (e : z.toInt = t.bmod (2 ^ 32)) (h1 : a ≤ t) (h2 : t ≤ b) : (ee_rg a b).1 ≤ z.toInt ∧ z.toInt ≤ (ee_rg a b).2 := by
  unfold ee_rg
  by_cases h : -2147483648 ≤ a ∧ b ≤ 2147483647
  · rw [if_pos h, e, ee_bmod (by omega) (by omega)]
    exact ⟨h1, h2⟩
  · rw [if_neg h]
    exact ee_rng z
theorem ee_toNat {y : Int32} (h : 0 ≤ y.toInt) : (y.toBitVec.toNat : Int) = y.toInt ∧ y.toBitVec.toNat < 2 ^ 31 := by
  have h1 : y.toInt = y.toBitVec.toInt := rfl
  have h2 := BitVec.toInt_eq_toNat_cond y.toBitVec
  have h3 := y.toBitVec.isLt
  rw [h1] at h ⊢
  rw [h2] at h ⊢
  split at h
  · rename_i q
    rw [if_pos q]
    exact ⟨rfl, by omega⟩
  · omega
theorem ee_and_le (x y : Int32) (h : 0 ≤ y.toInt) : 0 ≤ (x &&& y).toInt ∧ (x &&& y).toInt ≤ y.toInt := by
  obtain ⟨h1, h2⟩ := ee_toNat h
  have e : (x &&& y).toBitVec.toNat = x.toBitVec.toNat &&& y.toBitVec.toNat := by
    rw [show (x &&& y).toBitVec = x.toBitVec &&& y.toBitVec from rfl, BitVec.toNat_and]
  have hle : (x &&& y).toBitVec.toNat ≤ y.toBitVec.toNat := by rw [e]; exact Nat.and_le_right
  have q : (x &&& y).toInt = ((x &&& y).toBitVec.toNat : Int) := by
    show (x &&& y).toBitVec.toInt = _
    rw [BitVec.toInt_eq_toNat_cond, if_pos (by omega)]
  omega
theorem ee_and_comm (x y : Int32) : x &&& y = y &&& x := by
  apply Int32.toBitVec_inj.mp
  show x.toBitVec &&& y.toBitVec = y.toBitVec &&& x.toBitVec
  exact BitVec.and_comm _ _
theorem ee_zero {z : Int32} (h1 : 0 ≤ z.toInt) (h2 : z.toInt ≤ 0) : z = 0 := Int32.toInt_inj.mp (by rw [Int32.toInt_zero]; omega)
theorem ee_cast {x : Int32} (h1 : 0 ≤ x.toInt) : (x.toBitVec.toNat : Int) = x.toInt := (ee_toNat h1).1
theorem ee_ofBits {x : Int32} {n : Nat} (h : x.toBitVec.toNat = n) (hn : n < 2 ^ 31) : x.toInt = (n : Int) := by
  show x.toBitVec.toInt = _
  rw [BitVec.toInt_eq_toNat_cond, if_pos (by omega), h]
/-- the least 2^k - 1 that is no less -/
def ee_up (m : Int) : Int := match [(1 : Int), 3, 7, 15, 31, 63, 127, 255, 511, 1023, 65535].find? (fun k => decide (m ≤ k)) with
  | some k => k
  | none => 2147483647
theorem ee_up.ok {m : Int} (h : m ≤ 2147483647) : m ≤ ee_up m ∧ ∃ n : Nat, n ≤ 31 ∧ ee_up m = 2 ^ n - 1 := by
  unfold ee_up
  cases hf : [(1 : Int), 3, 7, 15, 31, 63, 127, 255, 511, 1023, 65535].find? (fun k => decide (m ≤ k)) with
  | none => exact ⟨h, 31, by decide, by decide⟩
  | some k =>
    have h1 : decide (m ≤ k) = true := List.find?_some (p := fun k : Int => decide (m ≤ k)) hf
    have h1 := of_decide_eq_true h1
    have h2 := List.mem_of_find?_eq_some hf
    refine ⟨h1, ?_⟩
    simp only [List.mem_cons, List.not_mem_nil, or_false] at h2
    rcases h2 with rfl | rfl | rfl | rfl | rfl | rfl | rfl | rfl | rfl | rfl | rfl
    · exact ⟨1, by decide, by decide⟩
    · exact ⟨2, by decide, by decide⟩
    · exact ⟨3, by decide, by decide⟩
    · exact ⟨4, by decide, by decide⟩
    · exact ⟨5, by decide, by decide⟩
    · exact ⟨6, by decide, by decide⟩
    · exact ⟨7, by decide, by decide⟩
    · exact ⟨8, by decide, by decide⟩
    · exact ⟨9, by decide, by decide⟩
    · exact ⟨10, by decide, by decide⟩
    · exact ⟨16, by decide, by decide⟩
theorem ee_pow_lt {n k : Nat} {a : Int} (hk : k ≤ 31) (ha : (n : Int) ≤ a) (he : a = 2 ^ k - 1) : n < 2 ^ k := by
  have h1 : (n : Int) < 2 ^ k := by omega
  have h2 : ((2 ^ k : Nat) : Int) = 2 ^ k := by simp
  omega
theorem ee_orx {x y z : Int32} {b e : Int} (op : Nat → Nat → Nat) (hop : ∀ {m n k : Nat}, m < 2 ^ k → n < 2 ^ k → op m n < 2 ^ k) (hz : z.toBitVec.toNat = op x.toBitVec.toNat y.toBitVec.toNat) (h1 : 0 ≤ x.toInt) (h2 : x.toInt ≤ b) (h3 : 0 ≤ y.toInt) (h4 : y.toInt ≤ e) : 0 ≤ z.toInt ∧ z.toInt ≤ ee_up (ee_mx b e) := by
  have hb := ee_rng x
  have he := ee_rng y
  by_cases hm : ee_mx b e ≤ 2147483647
  · obtain ⟨g1, k, g2, g3⟩ := ee_up.ok hm
    have m1 : b ≤ ee_mx b e := by unfold ee_mx; split <;> omega
    have m2 : e ≤ ee_mx b e := by unfold ee_mx; split <;> omega
    have x1 := ee_cast h1
    have y1 := ee_cast h3
    have l1 : x.toBitVec.toNat < 2 ^ k := ee_pow_lt g2 (a := ee_up (ee_mx b e)) (by omega) g3
    have l2 : y.toBitVec.toNat < 2 ^ k := ee_pow_lt g2 (a := ee_up (ee_mx b e)) (by omega) g3
    have l3 := hop l1 l2
    have l4 : 2 ^ k ≤ 2 ^ 31 := Nat.pow_le_pow_right (by decide) g2
    rw [ee_ofBits hz (by omega)]
    have h2 : ((2 ^ k : Nat) : Int) = 2 ^ k := by simp
    omega
  · have e0 : ee_up (ee_mx b e) = 2147483647 := by
      unfold ee_up
      rw [show [(1 : Int), 3, 7, 15, 31, 63, 127, 255, 511, 1023, 65535].find? (fun k => decide (ee_mx b e ≤ k)) = none from ?_]
      rw [List.find?_eq_none]
      intro k hk
      simp only [List.mem_cons, List.not_mem_nil, or_false] at hk
      rcases hk with rfl | rfl | rfl | rfl | rfl | rfl | rfl | rfl | rfl | rfl | rfl <;> simp <;> omega
    rw [e0]
    have x1 := (ee_toNat h1).2
    have y1 := (ee_toNat h3).2
    have l3 := hop x1 y1
    rw [ee_ofBits hz l3]
    omega
theorem ee_or {x y : Int32} {b e : Int} (h1 : 0 ≤ x.toInt) (h2 : x.toInt ≤ b) (h3 : 0 ≤ y.toInt) (h4 : y.toInt ≤ e) : 0 ≤ (x ||| y).toInt ∧ (x ||| y).toInt ≤ ee_up (ee_mx b e) :=
  ee_orx (fun m n => m ||| n) (fun h1 h2 => Nat.or_lt_two_pow h1 h2) (by rw [show (x ||| y).toBitVec = x.toBitVec ||| y.toBitVec from rfl, BitVec.toNat_or]) h1 h2 h3 h4
theorem ee_xor {x y : Int32} {b e : Int} (h1 : 0 ≤ x.toInt) (h2 : x.toInt ≤ b) (h3 : 0 ≤ y.toInt) (h4 : y.toInt ≤ e) : 0 ≤ (x ^^^ y).toInt ∧ (x ^^^ y).toInt ≤ ee_up (ee_mx b e) :=
  ee_orx (fun m n => m ^^^ n) (fun h1 h2 => Nat.xor_lt_two_pow h1 h2) (by rw [show (x ^^^ y).toBitVec = x.toBitVec ^^^ y.toBitVec from rfl, BitVec.toNat_xor]) h1 h2 h3 h4
theorem ee_of {x : Int32} {n : Nat} (h : x.toInt = (n : Int)) : x = Int32.ofNat n := by
  rw [← Int32.ofInt_toInt x, h]; rfl
theorem ee_shl0 : ∀ n, n < 4 → ∀ k, k < 21 → ((Int32.ofNat n) <<< ((Int32.ofNat k) &&& 31)).toInt = (n : Int) * 2 ^ k := by decide +kernel
theorem ee_shl {x y : Int32} (h1 : 0 ≤ x.toInt) (h2 : x.toInt ≤ 3) (h3 : 0 ≤ y.toInt) (h4 : y.toInt ≤ 20) : (x <<< (y &&& 31)).toInt = x.toInt * 2 ^ y.toInt.toNat := by
  have e1 := ee_of (x := x) (n := x.toInt.toNat) (by omega)
  have e2 := ee_of (x := y) (n := y.toInt.toNat) (by omega)
  have h := ee_shl0 x.toInt.toNat (by omega) y.toInt.toNat (by omega)
  rw [← e1, ← e2] at h
  rw [h, show ((x.toInt.toNat : Nat) : Int) = x.toInt by omega]
theorem ee_shr {x y : Int32} (h1 : 0 ≤ x.toInt) : 0 ≤ (x >>> y).toInt ∧ (x >>> y).toInt ≤ x.toInt := by
  have e : (x >>> y).toInt = x.toInt >>> (y.toBitVec.smod 32).toNat := by
    show (x >>> y).toBitVec.toInt = x.toBitVec.toInt >>> _
    rw [show (x >>> y).toBitVec = x.toBitVec.sshiftRight' (y.toBitVec.smod 32) from rfl]
    exact BitVec.toInt_sshiftRight'
  rw [e, Int.shiftRight_eq_div_pow]
  have hp : (0 : Int) < ((2 ^ (y.toBitVec.smod 32).toNat : Nat) : Int) := by
    have := Nat.two_pow_pos (y.toBitVec.smod 32).toNat
    omega
  exact ⟨Int.ediv_nonneg h1 (by omega), Int.ediv_le_self _ h1⟩
theorem ee_div {x y : Int32} (h1 : 0 ≤ x.toInt) (h2 : 1 ≤ y.toInt) : (x / y).toInt = x.toInt / y.toInt := by
  have hx := ee_rng x
  rw [Int32.toInt_div, Int.tdiv_eq_ediv_of_nonneg h1]
  have g1 : 0 ≤ x.toInt / y.toInt := Int.ediv_nonneg h1 (by omega)
  have g2 : x.toInt / y.toInt ≤ x.toInt := Int.ediv_le_self _ h1
  exact ee_bmod (by omega) (by omega)
theorem ee_rem {x y : Int32} (h1 : 0 ≤ x.toInt) (h2 : 1 ≤ y.toInt) : (x - x / y * y).toInt = x.toInt % y.toInt := by
  have hx := ee_rng x
  have g1 : 0 ≤ x.toInt / y.toInt := Int.ediv_nonneg h1 (by omega)
  have g3 : 0 ≤ x.toInt % y.toInt := Int.emod_nonneg _ (by omega)
  have g4 : x.toInt % y.toInt + x.toInt / y.toInt * y.toInt = x.toInt := Int.emod_add_ediv_mul x.toInt y.toInt
  have g5 : 0 ≤ x.toInt / y.toInt * y.toInt := Int.mul_nonneg g1 (by omega)
  rw [Int32.toInt_sub, Int32.toInt_mul, ee_div h1 h2]
  generalize x.toInt / y.toInt * y.toInt = t at g4 g5 ⊢
  rw [ee_bmod (z := t) (by omega) (by omega), ee_bmod (by omega) (by omega)]
  omega
/-- bounds of what comes -/
def ee_ap (ins : ClassFile.Instr) (a b d e : Int) : Int × Int := match ins with
  | .iadd => ee_rg (a + d) (b + e)
  | .isub => ee_rg (a - e) (b - d)
  | .imul => if 0 ≤ a ∧ 0 ≤ d then ee_rg (a * d) (b * e) else (-2147483648, 2147483647)
  | .idiv => if 0 ≤ a ∧ 1 ≤ d then (0, b / d) else (-2147483648, 2147483647)
  | .irem => if 0 ≤ a ∧ 1 ≤ d then (0, ee_mn b (e - 1)) else (-2147483648, 2147483647)
  | .iand => if 0 ≤ d then (0, e) else if 0 ≤ a then (0, b) else (-2147483648, 2147483647)
  | .ior => if 0 ≤ a ∧ 0 ≤ d then (0, ee_up (ee_mx b e)) else (-2147483648, 2147483647)
  | .ixor => if 0 ≤ a ∧ 0 ≤ d then (0, ee_up (ee_mx b e)) else (-2147483648, 2147483647)
  | .ishl => if (0 ≤ a ∧ b ≤ 3) ∧ 0 ≤ d ∧ e ≤ 20 then (a * 2 ^ d.toNat, b * 2 ^ e.toNat) else (-2147483648, 2147483647)
  | .ishr => if 0 ≤ a then (0, b) else (-2147483648, 2147483647)
  | _ => (-2147483648, 2147483647)
theorem ee_mulb {a b d e p q : Int} (h0 : 0 ≤ a) (h0' : 0 ≤ d) (h1 : a ≤ p) (h2 : p ≤ b) (h3 : d ≤ q) (h4 : q ≤ e) : a * d ≤ p * q ∧ p * q ≤ b * e :=
  ⟨Int.mul_le_mul h1 h3 h0' (by omega), Int.mul_le_mul h2 h4 (by omega) (by omega)⟩
theorem ee_ap.ok {ins : ClassFile.Instr} {a b d e : Int} {x y : Int32} (h1 : a ≤ x.toInt) (h2 : x.toInt ≤ b) (h3 : d ≤ y.toInt) (h4 : y.toInt ≤ e) : (ee_ap ins a b d e).1 ≤ (ee_op ins x y).toInt ∧ (ee_op ins x y).toInt ≤ (ee_ap ins a b d e).2 := by
  cases ins with
  | iadd => exact ee_rg.ok (Int32.toInt_add x y) (by omega) (by omega)
  | isub => exact ee_rg.ok (Int32.toInt_sub x y) (by omega) (by omega)
  | imul =>
    simp only [ee_ap, ee_op]
    by_cases q : 0 ≤ a ∧ 0 ≤ d
    · rw [if_pos q]
      have := ee_mulb q.1 q.2 h1 h2 h3 h4
      exact ee_rg.ok (Int32.toInt_mul x y) this.1 this.2
    · rw [if_neg q]; exact ee_rng _
  | idiv =>
    simp only [ee_ap, ee_op]
    by_cases q : 0 ≤ a ∧ 1 ≤ d
    · rw [if_pos q, ee_div (by omega) (by omega)]
      refine ⟨Int.ediv_nonneg (by omega) (by omega), ?_⟩
      show x.toInt / y.toInt ≤ b / d
      have g0 : 0 ≤ x.toInt / y.toInt := Int.ediv_nonneg (by omega) (by omega)
      have g3 : x.toInt / y.toInt * d ≤ x.toInt / y.toInt * y.toInt := Int.mul_le_mul_of_nonneg_left h3 g0
      have g4 : x.toInt / y.toInt * y.toInt ≤ x.toInt := Int.ediv_mul_le _ (by omega)
      have g1 : x.toInt / y.toInt ≤ x.toInt / d := Int.le_ediv_of_mul_le (by omega) (by omega)
      have g2 : x.toInt / d ≤ b / d := Int.ediv_le_ediv (by omega) h2
      omega
    · rw [if_neg q]; exact ee_rng _
  | irem =>
    simp only [ee_ap, ee_op]
    by_cases q : 0 ≤ a ∧ 1 ≤ d
    · rw [if_pos q, ee_rem (by omega) (by omega)]
      have g1 : 0 ≤ x.toInt % y.toInt := Int.emod_nonneg _ (by omega)
      have g2 : x.toInt % y.toInt < y.toInt := Int.emod_lt_of_pos _ (by omega)
      have g0 : 0 ≤ x.toInt / y.toInt := Int.ediv_nonneg (by omega) (by omega)
      have g5 : 0 ≤ x.toInt / y.toInt * y.toInt := Int.mul_nonneg g0 (by omega)
      have g4 : x.toInt % y.toInt + x.toInt / y.toInt * y.toInt = x.toInt := Int.emod_add_ediv_mul x.toInt y.toInt
      have g3 : x.toInt % y.toInt ≤ x.toInt := by omega
      exact ⟨g1, ee_le_mn (by omega) (by omega)⟩
    · rw [if_neg q]; exact ee_rng _
  | iand =>
    simp only [ee_ap, ee_op]
    by_cases q : 0 ≤ d
    · rw [if_pos q]
      have := ee_and_le x y (by omega)
      exact ⟨this.1, by show (x &&& y).toInt ≤ e; omega⟩
    · rw [if_neg q]
      by_cases r : 0 ≤ a
      · rw [if_pos r]
        have := ee_and_le y x (by omega)
        rw [ee_and_comm y x] at this
        exact ⟨this.1, by show (x &&& y).toInt ≤ b; omega⟩
      · rw [if_neg r]
        exact ee_rng _
  | ior =>
    simp only [ee_ap, ee_op]
    by_cases q : 0 ≤ a ∧ 0 ≤ d
    · rw [if_pos q]; exact ee_or (by omega) h2 (by omega) h4
    · rw [if_neg q]; exact ee_rng _
  | ixor =>
    simp only [ee_ap, ee_op]
    by_cases q : 0 ≤ a ∧ 0 ≤ d
    · rw [if_pos q]; exact ee_xor (by omega) h2 (by omega) h4
    · rw [if_neg q]; exact ee_rng _
  | ishl =>
    simp only [ee_ap, ee_op]
    by_cases q : (0 ≤ a ∧ b ≤ 3) ∧ 0 ≤ d ∧ e ≤ 20
    · rw [if_pos q, ee_shl (by omega) (by omega) (by omega) (by omega)]
      obtain ⟨⟨q1, q2⟩, q3, q4⟩ := q
      have pw : ∀ {m n : Nat}, m ≤ n → (2 : Int) ^ m ≤ 2 ^ n := fun {m n} hmn => by
        have := Nat.pow_le_pow_right (show 0 < 2 by decide) hmn
        have e1 : ((2 ^ m : Nat) : Int) = 2 ^ m := by simp
        have e2 : ((2 ^ n : Nat) : Int) = 2 ^ n := by simp
        omega
      have p0 : ∀ m : Nat, (0 : Int) ≤ 2 ^ m := fun m => Int.pow_nonneg (by decide)
      exact ee_mulb q1 (p0 _) h1 h2 (pw (by omega)) (pw (by omega))
    · rw [if_neg q]; exact ee_rng _
  | ishr =>
    simp only [ee_ap, ee_op]
    by_cases q : 0 ≤ a
    · rw [if_pos q]
      have := ee_shr (x := x) (y := y &&& 31) (by omega)
      exact ⟨this.1, by show (x >>> (y &&& 31)).toInt ≤ b; omega⟩
    · rw [if_neg q]; exact ee_rng _
  | _ => exact ee_rng _
def ee_add (ins : ClassFile.Instr) : Bool := match ins with
  | .iadd => true
  | _ => false
end
section
/-! operations on two ints, with what is known of what comes -/
/-- a symbol as another one and a number -/
def ee_rt (iv : ee_iv) (j : Nat) : Nat × Int := match ee_at1 iv j with
  | some q => (match q.2.2.2 with
    | (0, j', d') :: _ => (j', d')
    | _ => (j, 0))
  | none => (j, 0)
theorem ee_rt.ok {ns : List Int32} {iv : ee_iv} {j : Nat} {z : Int32} (h : ee_ok ns iv) (hz : ns[j]? = some z) : ∃ y, ns[(ee_rt iv j).1]? = some y ∧ z.toInt = y.toInt + (ee_rt iv j).2 := by
  unfold ee_rt
  cases hq : ee_at1 iv j with
  | none => exact ⟨z, hz, by show z.toInt = z.toInt + 0; omega⟩
  | some q =>
    simp only
    split
    · rename_i j' d' l hl
      obtain ⟨y, g1, -, -, g4⟩ := ee_at1.ok h hq
      rw [hz] at g1
      cases g1
      exact g4 (0, j', d') (by rw [hl]; exact List.mem_cons_self)
    · exact ⟨z, hz, by show z.toInt = z.toInt + 0; omega⟩
/-- the rest that is known of a symbol -/
def ee_md (iv : ee_iv) (j : Nat) (d : Int) : List ee_fa := match ee_at1 iv j with
  | some q => (match q.2.2.2.find? (fun f => Nat.beq f.1 4) with
    | some f => [(4, f.2.1, (f.2.2 + d) % (f.2.1 : Int))]
    | none => [])
  | none => []
theorem ee_md.ok {ns : List Int32} {iv : ee_iv} {j : Nat} {z r : Int32} {d : Int} (h : ee_ok ns iv) (hz : ns[j]? = some z) (hr : r.toInt = z.toInt + d) : ∀ f ∈ ee_md iv j d, ee_fp ns r f := by
  intro f hf
  unfold ee_md at hf
  cases hq : ee_at1 iv j with
  | none => rw [hq] at hf; cases hf
  | some q =>
    rw [hq] at hf
    simp only at hf
    cases hg : q.2.2.2.find? (fun f => Nat.beq f.1 4) with
    | none => rw [hg] at hf; cases hf
    | some g =>
      rw [hg] at hf
      simp only [List.mem_cons, List.not_mem_nil, or_false] at hf
      subst hf
      obtain ⟨y, g1, -, -, g4⟩ := ee_at1.ok h hq
      rw [hz] at g1
      cases g1
      have e4 : Nat.beq g.1 4 = true := List.find?_some (p := fun f : ee_fa => Nat.beq f.1 4) hg
      have e4 := Nat.eq_of_beq_eq_true e4
      have g5 := g4 g (List.mem_of_find?_eq_some hg)
      obtain ⟨g, m, s⟩ := g
      have e4 : g = 4 := e4
      subst e4
      have g5 : z.toInt % (m : Int) = s := g5
      show r.toInt % (m : Int) = (s + d) % (m : Int)
      rw [hr, ← g5, Int.emod_add_emod]
def ee_fad (iv : ee_iv) (j : Nat) (d : Int) : List ee_fa := (0, (ee_rt iv j).1, (ee_rt iv j).2 + d) :: ee_md iv j d
theorem ee_fad.ok {ns : List Int32} {iv : ee_iv} {j : Nat} {z r : Int32} {d : Int} (h : ee_ok ns iv) (hz : ns[j]? = some z) (hr : r.toInt = z.toInt + d) : ∀ f ∈ ee_fad iv j d, ee_fp ns r f := by
  intro f hf
  rcases List.mem_cons.mp hf with rfl | hf
  · obtain ⟨y, g1, g2⟩ := ee_rt.ok h hz
    exact ⟨y, g1, by omega⟩
  · exact ee_md.ok h hz hr f hf
def ee_in (a b : Int) : Bool := decide (-2147483648 ≤ a) && decide (b ≤ 2147483647)
/-- what is known of what comes -/
def ee_fc (ins : ClassFile.Instr) (iv : ee_iv) (x y : Value) (a b d e : Int) : List ee_fa := match ins with
  | .iadd => if d = e then (match x with
      | .retAddr j => if ee_in (a + d) (b + d) = true then ee_fad iv j d else []
      | _ => []) else if a = b then (match y with
      | .retAddr j => if ee_in (d + a) (e + a) = true then ee_fad iv j a else []
      | _ => []) else (match x, y with
      | .retAddr j, .retAddr k => [(3, j, (k : Int))]
      | _, _ => [])
  | .isub => if d = e then (match x with
      | .retAddr j => if ee_in (a - d) (b - d) = true then ee_fad iv j (-d) else []
      | _ => []) else []
  | .imul => if (d = e ∧ 1 ≤ d) ∧ 0 ≤ a then (if ee_in (a * d) (b * d) = true then [(4, d.toNat, 0)] else []) else if (a = b ∧ 1 ≤ a) ∧ 0 ≤ d then (if ee_in (a * d) (a * e) = true then [(4, a.toNat, 0)] else []) else []
  | .irem => if 0 ≤ a ∧ 1 ≤ d then (match y with
      | .retAddr j => [(1, j, -1)]
      | _ => []) else []
  | _ => []
theorem ee_in.ok {a b : Int} (h : ee_in a b = true) : -2147483648 ≤ a ∧ b ≤ 2147483647 := by
  obtain ⟨h1, h2⟩ := ee_and h
  exact ⟨of_decide_eq_true h1, of_decide_eq_true h2⟩
theorem ee_v.sy {ns : List Int32} {as : List Nat} {ex : Nat → Nat} {j : Nat} {z : Int32} (h : ee_v ns as ex (.retAddr j) (.int z)) : ns[j]? = some z := by
  obtain ⟨y, h1, h2⟩ := h
  cases h2
  exact h1
theorem ee_fc.ok {ns : List Int32} {as : List Nat} {ex : Nat → Nat} {ins : ClassFile.Instr} {iv : ee_iv} {x y : Value} {p q : Int32} {a b d e : Int} (hk : ee_ok ns iv) (hx : ee_v ns as ex x (.int p)) (hy : ee_v ns as ex y (.int q)) (h1 : a ≤ p.toInt) (h2 : p.toInt ≤ b) (h3 : d ≤ q.toInt) (h4 : q.toInt ≤ e) : ∀ f ∈ ee_fc ins iv x y a b d e, ee_fp ns (ee_op ins p q) f := by
  intro f hf
  cases ins with
  | iadd =>
    simp only [ee_fc, ee_op] at hf ⊢
    by_cases e1 : d = e
    · rw [if_pos e1] at hf
      split at hf
      · by_cases e2 : ee_in (a + d) (b + d) = true
        · rw [if_pos e2] at hf
          have := ee_in.ok e2
          exact ee_fad.ok hk hx.sy (by rw [Int32.toInt_add, ee_bmod (by omega) (by omega)]; omega) f hf
        · rw [if_neg e2] at hf; cases hf
      · cases hf
    · rw [if_neg e1] at hf
      by_cases e3 : a = b
      · rw [if_pos e3] at hf
        split at hf
        · by_cases e2 : ee_in (d + a) (e + a) = true
          · rw [if_pos e2] at hf
            have := ee_in.ok e2
            exact ee_fad.ok hk hy.sy (by rw [Int32.toInt_add, ee_bmod (by omega) (by omega)]; omega) f hf
          · rw [if_neg e2] at hf; cases hf
        · cases hf
      · rw [if_neg e3] at hf
        split at hf
        · simp only [List.mem_cons, List.not_mem_nil, or_false] at hf
          subst hf
          exact ⟨p, q, hx.sy, by rw [Int.toNat_natCast]; exact hy.sy, rfl⟩
        · cases hf
  | isub =>
    simp only [ee_fc, ee_op] at hf ⊢
    by_cases e1 : d = e
    · rw [if_pos e1] at hf
      split at hf
      · by_cases e2 : ee_in (a - d) (b - d) = true
        · rw [if_pos e2] at hf
          have := ee_in.ok e2
          exact ee_fad.ok hk hx.sy (by rw [Int32.toInt_sub, ee_bmod (by omega) (by omega)]; omega) f hf
        · rw [if_neg e2] at hf; cases hf
      · cases hf
    · rw [if_neg e1] at hf; cases hf
  | imul =>
    simp only [ee_fc, ee_op] at hf ⊢
    by_cases e1 : (d = e ∧ 1 ≤ d) ∧ 0 ≤ a
    · rw [if_pos e1] at hf
      obtain ⟨⟨e1, e2⟩, e3⟩ := e1
      by_cases e4 : ee_in (a * d) (b * d) = true
      · rw [if_pos e4] at hf
        simp only [List.mem_cons, List.not_mem_nil, or_false] at hf
        subst hf
        have r := ee_in.ok e4
        have hq : q.toInt = d := by omega
        have mb := ee_mulb e3 (show 0 ≤ d by omega) h1 h2 (Int.le_refl d) (Int.le_refl d)
        show (p * q).toInt % ((d.toNat : Nat) : Int) = 0
        rw [Int32.toInt_mul, hq, ee_bmod (by omega) (by omega), show ((d.toNat : Nat) : Int) = d by omega, Int.mul_emod_left]
      · rw [if_neg e4] at hf; cases hf
    · rw [if_neg e1] at hf
      by_cases e1 : (a = b ∧ 1 ≤ a) ∧ 0 ≤ d
      · rw [if_pos e1] at hf
        obtain ⟨⟨e1, e2⟩, e3⟩ := e1
        by_cases e4 : ee_in (a * d) (a * e) = true
        · rw [if_pos e4] at hf
          simp only [List.mem_cons, List.not_mem_nil, or_false] at hf
          subst hf
          have r := ee_in.ok e4
          have hq : p.toInt = a := by omega
          have mb := ee_mulb (show 0 ≤ a by omega) e3 (Int.le_refl a) (Int.le_refl a) h3 h4
          show (p * q).toInt % ((a.toNat : Nat) : Int) = 0
          rw [Int32.toInt_mul, hq, ee_bmod (by omega) (by omega), show ((a.toNat : Nat) : Int) = a by omega, Int.mul_emod_right]
        · rw [if_neg e4] at hf; cases hf
      · rw [if_neg e1] at hf; cases hf
  | irem =>
    simp only [ee_fc, ee_op] at hf ⊢
    by_cases e1 : 0 ≤ a ∧ 1 ≤ d
    · rw [if_pos e1] at hf
      split at hf
      · simp only [List.mem_cons, List.not_mem_nil, or_false] at hf
        subst hf
        refine ⟨q, hy.sy, ?_⟩
        rw [ee_rem (by omega) (by omega)]
        have := Int.emod_lt_of_pos p.toInt (show 0 < q.toInt by omega)
        omega
      · cases hf
    · rw [if_neg e1] at hf; cases hf
  | _ => cases hf
/-- a symbol that is so already -/
def ee_old (iv : ee_iv) (fs : List ee_fa) : Option Nat := match fs with
  | f :: _ => if f.1 = 0 ∨ f.1 = 3 then (match iv.2.find? (fun q => match q.2.2.2 with
      | g :: _ => decide (g = f)
      | [] => false) with
    | some q => some q.1
    | none => none) else none
  | [] => none
theorem ee_fp.one {ns : List Int32} {z y : Int32} {f : ee_fa} (hf : f.1 = 0 ∨ f.1 = 3) (h1 : ee_fp ns z f) (h2 : ee_fp ns y f) : z = y := by
  obtain ⟨kd, j, d⟩ := f
  rcases hf with hf | hf
  · have hf : kd = 0 := hf
    subst hf
    obtain ⟨u, g1, g2⟩ := h1
    obtain ⟨v, g3, g4⟩ := h2
    rw [g1] at g3
    cases g3
    exact Int32.toInt_inj.mp (by omega)
  · have hf : kd = 3 := hf
    subst hf
    obtain ⟨u, u2, g1, g2, g3⟩ := h1
    obtain ⟨v, v2, g4, g5, g6⟩ := h2
    rw [g1] at g4
    rw [g2] at g5
    cases g4; cases g5
    rw [g3, g6]
theorem ee_old.ok {ns : List Int32} {as : List Nat} {ex : Nat → Nat} {iv : ee_iv} {fs : List ee_fa} {k : Nat} {z : Int32} (hk : ee_ok ns iv) (h : ee_old iv fs = some k) (hz : ∀ f ∈ fs, ee_fp ns z f) : ee_v ns as ex (.retAddr k) (.int z) := by
  unfold ee_old at h
  cases fs with
  | nil => cases h
  | cons f fs =>
    simp only at h
    by_cases hf : f.1 = 0 ∨ f.1 = 3
    · rw [if_pos hf] at h
      split at h
      · rename_i q hq
        cases h
        obtain ⟨y, g1, -, -, g4⟩ := hk.2 q (List.mem_of_find?_eq_some hq)
        have hp : (match q.2.2.2 with
          | g :: _ => decide (g = f)
          | [] => false) = true := List.find?_some (p := fun q : ee_ve => match q.2.2.2 with
            | g :: _ => decide (g = f)
            | [] => false) hq
        split at hp
        · rename_i g l hl
          have e := of_decide_eq_true hp
          subst e
          have := ee_fp.one hf (g4 g (by rw [hl]; exact List.mem_cons_self)) (hz g List.mem_cons_self)
          exact ⟨y, g1, by rw [this]⟩
        · cases hp
      · cases h
    · rw [if_neg hf] at h; cases h
/-- an operation on two ints -/
def ee_bin (ins : ClassFile.Instr) (iv : ee_iv) (x y : Value) : Option (Value × ee_iv) := match ee_cn iv x, ee_cn iv y with
  | some a, some b => some (.int (ee_op ins a b), iv)
  | _, _ => (match ee_it iv x, ee_it iv y with
    | some (a, b), some (d, e) => if ee_add ins = true ∧ d = 0 ∧ e = 0 then some (x, iv) else if ee_add ins = true ∧ a = 0 ∧ b = 0 then some (y, iv) else (match ee_old iv (ee_fc ins iv x y a b d e) with
      | some k => some (.retAddr k, iv)
      | none => some (.retAddr iv.1, ee_ps iv (ee_ap ins a b d e).1 (ee_ap ins a b d e).2 (ee_fc ins iv x y a b d e)))
    | _, _ => none)
theorem ee_bin.ok {ns : List Int32} {as : List Nat} {ex : Nat → Nat} {ins : ClassFile.Instr} {iv iv' : ee_iv} {x y r vx vy : Value} (hk : ee_ok ns iv) (hx : ee_v ns as ex x vx) (hy : ee_v ns as ex y vy) (h : ee_bin ins iv x y = some (r, iv')) :
    ∃ a b : Int32, vx = .int a ∧ vy = .int b ∧ ((iv' = iv ∧ ee_v ns as ex r (.int (ee_op ins a b))) ∨ ∃ (lo hi : Int) (fs : List ee_fa), r = .retAddr iv.1 ∧ iv' = ee_ps iv lo hi fs ∧ lo ≤ (ee_op ins a b).toInt ∧ (ee_op ins a b).toInt ≤ hi ∧ ∀ f ∈ fs, ee_fp ns (ee_op ins a b) f) := by
  unfold ee_bin at h
  split at h
  · rename_i a b h1 h2
    cases h
    exact ⟨a, b, ee_cn.int hk hx h1, ee_cn.int hk hy h2, Or.inl ⟨rfl, rfl⟩⟩
  · split at h
    · rename_i a b d e h1 h2
      obtain ⟨p, rfl, p1, p2⟩ := ee_it.int hk hx h1
      obtain ⟨q, rfl, q1, q2⟩ := ee_it.int hk hy h2
      refine ⟨p, q, rfl, rfl, ?_⟩
      split at h
      · rename_i hc
        cases h
        obtain ⟨h0, rfl, rfl⟩ := hc
        have hz := ee_zero q1 q2
        subst hz
        left
        refine ⟨rfl, ?_⟩
        cases ins with
        | iadd => rw [show ee_op .iadd p 0 = p from Int32.add_zero p]; exact hx
        | _ => cases h0
      · split at h
        · rename_i hc
          cases h
          obtain ⟨h0, rfl, rfl⟩ := hc
          have hz := ee_zero p1 p2
          subst hz
          left
          refine ⟨rfl, ?_⟩
          cases ins with
          | iadd => rw [show ee_op .iadd 0 q = q from Int32.zero_add q]; exact hy
          | _ => cases h0
        · have hfc := ee_fc.ok (ins := ins) hk hx hy p1 p2 q1 q2
          split at h
          · rename_i k ho
            cases h
            exact Or.inl ⟨rfl, ee_old.ok hk ho hfc⟩
          · cases h
            have := ee_ap.ok (ins := ins) p1 p2 q1 q2
            exact Or.inr ⟨_, _, _, rfl, rfl, this.1, this.2, hfc⟩
    · cases h
def ee_h6 : ee_H := fun nL _ _ e st => match st with
  | (pc, lo, stk, w, iv, kc, ks, sv) => (match e.2.1 with
      | .iinc i n => (match ee_ld iv lo i with
        | some x => (match ee_bin .iadd iv x (.int (Int32.ofInt n)) with
          | some (r, iv') => if i < nL then ee_nx e.2.2.1 3 [(pc + 3, ee_sl i r lo, stk, w, iv', kc, ks, sv)] else none
          | none => none)
        | none => none)
      | _ => none)
set_option maxHeartbeats 2000000 in
theorem ee_h6.snd : ee_Snd ee_h6 := by
  intro X Y oc own cc ini dm bc bs Q e st sts F ho hi hd he hpc h k
  obtain ⟨p, l, en, R, s, m, args, below, meth, c⟩ := X
  obtain ⟨A, D, dA, ex, x0, a0, sv0, nL⟩ := Y
  obtain ⟨pc, lo, stk, w, iv, kc, ks, sv⟩ := st
  obtain ⟨pc', ins, len, hn, ea, eb, ez, qa, qb, qc⟩ := e
  obtain ⟨hx, hb, hml, hown, hts, hK, hA, hini, hR, hE⟩ := F
  have hpc : pc = pc' := hpc
  subst hpc
  have hd : decode cc pc = .ok (ins, len) := hd
  intro ns as H lc ls vs C
  obtain ⟨c1, c2, c3, c4, c5, c6⟩ := C
  show W p l en R s m args below meth c H lc kc ks Q (F0 m pc ls vs)
  cases ins with
  | iinc i n =>
    replace h : (match ee_ld iv lo i with
        | some x => (match ee_bin .iadd iv x (.int (Int32.ofInt n)) with
          | some (r, iv') => if i < nL then ee_nx len 3 [(pc + 3, ee_sl i r lo, stk, w, iv', kc, ks, sv)] else none
          | none => none)
        | none => none) = some sts := h
    cases hq : ee_ld iv lo i with
    | none => rw [hq] at h; exact ee_no h
    | some x =>
      rw [hq] at h
      simp only at h
      cases hr : ee_bin .iadd iv x (.int (Int32.ofInt n)) with
      | none => rw [hr] at h; exact ee_no h
      | some r =>
        obtain ⟨r, iv'⟩ := r
        rw [hr] at h
        simp only at h
        by_cases hl : i < nL
        · rw [if_pos hl] at h
          obtain ⟨rfl, rfl⟩ := ee_nx_some h
          obtain ⟨lv, c3, c3l⟩ := c3
          obtain ⟨z, g0, g1, g2⟩ := ee_ld.ok c1 c3 c3l hq
          obtain ⟨j, hj⟩ := List.getElem?_of_mem g0
          obtain ⟨a, b, ea1, eb1, g3⟩ := ee_bin.ok c1 g2 (show ee_v ns as ex (.int (Int32.ofInt n)) (.int (Int32.ofInt n)) from rfl) hr
          cases ea1
          cases eb1
          rcases g3 with ⟨rfl, g3⟩ | ⟨lo1, hi1, fs1, rfl, rfl, g4, g5, g6⟩
          · exact lv_iinc hx hb hd c3 hj rfl hl rfl (fun ls' hl' => k _ List.mem_cons_self ns as H lc ls' _ ⟨c1, c2, ⟨_, hl', ee_sl.ok c3l g3⟩, c4, c5, c6⟩)
          · refine lv_iinc hx hb hd c3 hj rfl hl rfl (fun ls' hl' => ?_)
            obtain ⟨d1, d2, d3, d4, d5, d6⟩ := ee_Con.grow (s := s) (A := A) (D := D) (dA := dA) (ex := ex) (x0 := x0) (a0 := a0) (sv0 := sv0) (nL := nL) (lo := lo) (ls := ls) ⟨c1, c2, ⟨lv, c3, c3l⟩, c4, c5, c6⟩ g4 g5 (fs := fs1) g6
            refine k _ List.mem_cons_self _ as H lc ls' _ ⟨d1, d2, ⟨_, hl', ee_sl.ok (c3l.imp (fun a b q => ⟨q.1, by simpa using ee_v.mono [_] [] q.2⟩)) ⟨_, c1.last _, rfl⟩⟩, d4, d5, d6⟩
        · rw [if_neg hl] at h
          exact ee_no h
  | _ => exact ee_no h
/-- a symbol of few numbers, one by one -/
def ee_sp (iv : ee_iv) (x : Value) : List ee_iv := match ee_it iv x with
  | some q => if q.1 < q.2 ∧ q.2 - q.1 < 1100 then (List.range (q.2 - q.1 + 1).toNat).map (fun (j : Nat) => ee_put iv x (q.1 + j) (q.1 + j)) else []
  | none => []
theorem ee_sp.ok {ns : List Int32} {as : List Nat} {ex : Nat → Nat} {iv : ee_iv} {x v : Value} (hk : ee_ok ns iv) (hx : ee_v ns as ex x v) (h : ee_sp iv x ≠ []) : ∃ iv', iv' ∈ ee_sp iv x ∧ ee_ok ns iv' := by
  unfold ee_sp at h ⊢
  cases hq : ee_it iv x with
  | none => rw [hq] at h; exact absurd rfl h
  | some q =>
    rw [hq] at h
    simp only at h ⊢
    obtain ⟨z, rfl, z1, z2⟩ := ee_it.int hk hx hq
    by_cases hc : q.1 < q.2 ∧ q.2 - q.1 < 1100
    · rw [if_pos hc]
      refine ⟨_, List.mem_map.mpr ⟨(z.toInt - q.1).toNat, List.mem_range.mpr (by omega), rfl⟩, ?_⟩
      exact ee_put.ok hk hx (by omega) (by omega)
    · rw [if_neg hc] at h
      exact absurd rfl h
def ee_two (ins : ClassFile.Instr) : Bool := match ins with
  | .iadd => true
  | .isub => true
  | .imul => true
  | .iand => true
  | .ior => true
  | .ixor => true
  | .ishl => true
  | .ishr => true
  | .iushr => true
  | _ => false
def ee_h7 : ee_H := fun _ _ _ e st => match st with
  | (pc, lo, y :: x :: stk, w, iv, kc, ks, sv) => if ee_two e.2.1 = true then (match ee_bin e.2.1 iv x y with
      | some (r, iv') => ee_nx e.2.2.1 1 [(pc + 1, lo, r :: stk, w, iv', kc, ks, sv)]
      | none => none) else none
  | _ => none
set_option maxHeartbeats 2000000 in
theorem ee_h7.snd : ee_Snd ee_h7 := by
  intro X Y oc own cc ini dm bc bs Q e st sts F ho hi hd he hpc h k
  obtain ⟨p, l, en, R, s, m, args, below, meth, c⟩ := X
  obtain ⟨A, D, dA, ex, x0, a0, sv0, nL⟩ := Y
  obtain ⟨pc, lo, stk, w, iv, kc, ks, sv⟩ := st
  obtain ⟨pc', ins, len, hn, ea, eb, ez, qa, qb, qc⟩ := e
  obtain ⟨hx, hb, hml, hown, hts, hK, hA, hini, hR, hE⟩ := F
  have hpc : pc = pc' := hpc
  subst hpc
  have hd : decode cc pc = .ok (ins, len) := hd
  intro ns as H lc ls vs C
  obtain ⟨c1, c2, c3, c4, c5, c6⟩ := C
  show W p l en R s m args below meth c H lc kc ks Q (F0 m pc ls vs)
  match stk, vs, c4, h with
  | [], _, _, h => exact ee_no h
  | [_], _, _, h => exact ee_no h
  | y :: x :: stk, [], c4, h => exact c4.elim
  | y :: x :: stk, [_], c4, h => exact c4.2.elim
  | y :: x :: stk, vy :: vx :: vs, ⟨cy, cx, c4⟩, h =>
    replace h : (if ee_two ins = true then (match ee_bin ins iv x y with
      | some (r, iv') => ee_nx len 1 [(pc + 1, lo, r :: stk, w, iv', kc, ks, sv)]
      | none => none) else none) = some sts := h
    by_cases ht : ee_two ins = true
    · rw [if_pos ht] at h
      cases hr : ee_bin ins iv x y with
      | none => rw [hr] at h; exact ee_no h
      | some r =>
        obtain ⟨r, iv'⟩ := r
        rw [hr] at h
        obtain ⟨rfl, rfl⟩ := ee_nx_some h
        obtain ⟨a, b, rfl, rfl, g3⟩ := ee_bin.ok c1 cx cy hr
        have key : W p l en R s m args below meth c H lc kc ks Q (F0 m (pc + 1) ls (.int (ee_op ins a b) :: vs)) := by
          rcases g3 with ⟨rfl, g3⟩ | ⟨lo1, hi1, fs1, rfl, rfl, g4, g5, g6⟩
          · exact k _ List.mem_cons_self ns as H lc ls _ ⟨c1, c2, c3, ⟨g3, c4⟩, c5, c6⟩
          · obtain ⟨d1, d2, d3, d4, d5, d6⟩ := ee_Con.grow (s := s) (A := A) (D := D) (dA := dA) (ex := ex) (x0 := x0) (a0 := a0) (sv0 := sv0) (nL := nL) (lo := lo) (ls := ls) ⟨c1, c2, c3, c4, c5, c6⟩ g4 g5 (fs := fs1) g6
            exact k _ List.mem_cons_self _ as H lc ls _ ⟨d1, d2, d3, ⟨⟨_, c1.last _, rfl⟩, d4⟩, d5, d6⟩
        cases ins with
        | iadd => exact lv_iadd hx hb hd key
        | isub => exact lv_isub hx hb hd key
        | imul => exact lv_imul hx hb hd key
        | iand => exact lv_iand hx hb hd key
        | ior => exact lv_ior hx hb hd key
        | ixor => exact lv_ixor hx hb hd key
        | ishl => exact lv_ishl hx hb hd key
        | ishr => exact lv_ishr hx hb hd key
        | iushr => exact lv_iushr hx hb hd rfl key
        | _ => cases ht
    · rw [if_neg ht] at h
      exact ee_no h
def ee_h8 : ee_H := fun _ _ _ e st => match st with
  | (pc, lo, y :: x :: stk, w, iv, kc, ks, sv) => (match ee_it iv y with
    | some (d, u) => if 0 < d ∨ u < 0 then (match e.2.1 with
      | .idiv => (match ee_bin .idiv iv x y with
        | some (r, iv') => ee_nx e.2.2.1 1 [(pc + 1, lo, r :: stk, w, iv', kc, ks, sv)]
        | none => none)
      | .irem => (match ee_bin .irem iv x y with
        | some (r, iv') => ee_nx e.2.2.1 1 [(pc + 1, lo, r :: stk, w, iv', kc, ks, sv)]
        | none => none)
      | _ => none) else none
    | none => none)
  | _ => none
set_option maxHeartbeats 2000000 in
theorem ee_h8.snd : ee_Snd ee_h8 := by
  intro X Y oc own cc ini dm bc bs Q e st sts F ho hi hd he hpc h k
  obtain ⟨p, l, en, R, s, m, args, below, meth, c⟩ := X
  obtain ⟨A, D, dA, ex, x0, a0, sv0, nL⟩ := Y
  obtain ⟨pc, lo, stk, w, iv, kc, ks, sv⟩ := st
  obtain ⟨pc', ins, len, hn, ea, eb, ez, qa, qb, qc⟩ := e
  obtain ⟨hx, hb, hml, hown, hts, hK, hA, hini, hR, hE⟩ := F
  have hpc : pc = pc' := hpc
  subst hpc
  have hd : decode cc pc = .ok (ins, len) := hd
  intro ns as H lc ls vs C
  obtain ⟨c1, c2, c3, c4, c5, c6⟩ := C
  show W p l en R s m args below meth c H lc kc ks Q (F0 m pc ls vs)
  match stk, vs, c4, h with
  | [], _, _, h => exact ee_no h
  | [_], _, _, h => exact ee_no h
  | y :: x :: stk, [], c4, h => exact c4.elim
  | y :: x :: stk, [_], c4, h => exact c4.2.elim
  | y :: x :: stk, vy :: vx :: vs, ⟨cy, cx, c4⟩, h =>
    replace h : (match ee_it iv y with
      | some (d, u) => if 0 < d ∨ u < 0 then (match (generalizing := false) ins with
        | .idiv => (match ee_bin .idiv iv x y with
          | some (r, iv') => ee_nx len 1 [(pc + 1, lo, r :: stk, w, iv', kc, ks, sv)]
          | none => none)
        | .irem => (match ee_bin .irem iv x y with
          | some (r, iv') => ee_nx len 1 [(pc + 1, lo, r :: stk, w, iv', kc, ks, sv)]
          | none => none)
        | _ => none) else none
      | none => none) = some sts := h
    cases hq : ee_it iv y with
    | none => rw [hq] at h; exact ee_no h
    | some q =>
      obtain ⟨d, u⟩ := q
      rw [hq] at h
      simp only at h
      by_cases hc : 0 < d ∨ u < 0
      · rw [if_pos hc] at h
        obtain ⟨b0, rfl, b1, b2⟩ := ee_it.int c1 cy hq
        have hne : ¬ b0 = 0 := fun z => by
          rw [z, Int32.toInt_zero] at b1 b2
          omega
        have go : ∀ ins' : ClassFile.Instr, (match ee_bin ins' iv x y with
          | some (r, iv') => ee_nx len 1 [(pc + 1, lo, r :: stk, w, iv', kc, ks, sv)]
          | none => none) = some sts → len = 1 ∧ ∃ a : Int32, vx = .int a ∧ W p l en R s m args below meth c H lc kc ks Q (F0 m (pc + 1) ls (.int (ee_op ins' a b0) :: vs)) := by
          intro ins' h
          cases hr : ee_bin ins' iv x y with
          | none => rw [hr] at h; exact ee_no h
          | some r =>
            obtain ⟨r, iv'⟩ := r
            rw [hr] at h
            obtain ⟨rfl, rfl⟩ := ee_nx_some h
            obtain ⟨a, b, rfl, eb1, g3⟩ := ee_bin.ok c1 cx cy hr
            cases eb1
            refine ⟨rfl, a, rfl, ?_⟩
            rcases g3 with ⟨rfl, g3⟩ | ⟨lo1, hi1, fs1, rfl, rfl, g4, g5, g6⟩
            · exact k _ List.mem_cons_self ns as H lc ls _ ⟨c1, c2, c3, ⟨g3, c4⟩, c5, c6⟩
            · obtain ⟨d1, d2, d3, d4, d5, d6⟩ := ee_Con.grow (s := s) (A := A) (D := D) (dA := dA) (ex := ex) (x0 := x0) (a0 := a0) (sv0 := sv0) (nL := nL) (lo := lo) (ls := ls) ⟨c1, c2, c3, c4, c5, c6⟩ g4 g5 (fs := fs1) g6
              exact k _ List.mem_cons_self _ as H lc ls _ ⟨d1, d2, d3, ⟨⟨_, c1.last _, rfl⟩, d4⟩, d5, d6⟩
        cases ins with
        | idiv =>
          obtain ⟨rfl, a, rfl, key⟩ := go .idiv h
          exact lv_idiv hx hb hd hne key
        | irem =>
          obtain ⟨rfl, a, rfl, key⟩ := go .irem h
          exact lv_irem hx hb hd hne key
        | _ => exact ee_no h
      · rw [if_neg hc] at h
        exact ee_no h
end
section
/-! handlers: longs, narrow ints, the stack, branches -/
theorem ee_lcmp (x y : Int64) : -1 ≤ (lg_cmp x y).toInt ∧ (lg_cmp x y).toInt ≤ 1 := by
  unfold lg_cmp
  split
  · decide
  · split <;> decide
theorem ee_lcmp0 (x : Int64) : lg_cmp x x = 0 := by
  unfold lg_cmp
  rw [if_neg (fun h => absurd (Int64.lt_iff_toInt_lt.mp h) (by omega)), if_pos rfl]
theorem ee_lcmpn {x y : Int64} (h : x ≠ y) : (lg_cmp x y).toInt ≠ 0 := by
  unfold lg_cmp
  split
  · decide
  · first | decide | (rw [if_neg h]; decide)
/-- a long of those outside, by its number -/
def ee_lk (x : Value) : Option UInt64 := match x with
  | .double k => if k = 0 then none else some k
  | _ => none
def ee_lc (x : Value) : Option Int64 := match x with
  | .long c => some c
  | _ => none
theorem ee_lk.ok {x : Value} {k : UInt64} (h : ee_lk x = some k) : x = .double k ∧ k ≠ 0 := by
  unfold ee_lk at h
  split at h
  · rename_i j
    by_cases hj : j = 0
    · rw [if_pos hj] at h; cases h
    · rw [if_neg hj] at h
      cases h
      exact ⟨rfl, hj⟩
  · cases h
theorem ee_lc.ok {x : Value} {c : Int64} (h : ee_lc x = some c) : x = .long c := by
  unfold ee_lc at h
  split at h
  · cases h; rfl
  · cases h
theorem ee_v.lsy {ns : List Int32} {as : List Nat} {ex : Nat → Nat} {k : UInt64} {z : Int64} (hk : k ≠ 0) (h : ee_v ns as ex (.double k) (.long z)) : z = Int64.ofNat (ex (3000000 + k.toNat)) := by
  unfold ee_v at h
  simp only [hk, if_false] at h
  cases h
  rfl
/-- that long put in place of its name -/
def ee_sb (k : UInt64) (c : Int64) (x : Value) : Value := if x = .double k then .long c else x
theorem ee_sb.ok {ns : List Int32} {as : List Nat} {ex : Nat → Nat} {k : UInt64} {c : Int64} {x v : Value} (hk : k ≠ 0) (hc : Int64.ofNat (ex (3000000 + k.toNat)) = c) (h : ee_v ns as ex x v) : ee_v ns as ex (ee_sb k c x) v := by
  unfold ee_sb
  by_cases e : x = .double k
  · rw [if_pos e]
    subst e
    obtain ⟨z, rfl⟩ := h.dbl
    rw [ee_v.lsy hk h, hc]
    rfl
  · rw [if_neg e]; exact h
def ee_sbc (k : UInt64) (c : Int64) (x : ee_cell) : ee_cell := match x with
  | .inl (ci, fs) => .inl (ci, fs.map (ee_sb k c))
  | .inr q => .inr q
theorem ee_all.mapl {α β : Type} {R : α → β → Prop} {g : α → α} (h : ∀ a b, R a b → R (g a) b) : ∀ {l : List α} {k : List β}, ee_all R l k → ee_all R (l.map g) k
  | [], [], _ => trivial
  | a :: l, b :: k, q => ⟨h a b q.1, ee_all.mapl h q.2⟩
  | [], _ :: _, q => q.elim
  | _ :: _, [], q => q.elim
theorem ee_sbc.ok {ns : List Int32} {as : List Nat} {ex : Nat → Nat} {dA : Nat → ClassId} {k : UInt64} {c : Int64} {x : ee_cell} {e : va_E} (hk : k ≠ 0) (hc : Int64.ofNat (ex (3000000 + k.toNat)) = c) (h : ee_c ns as ex dA x e) : ee_c ns as ex dA (ee_sbc k c x) e := by
  match x, h with
  | .inl (ci, fs), ⟨vs, h1, h2⟩ => exact ⟨vs, h1, h2.mapl (fun a b q => ee_sb.ok hk hc q)⟩
  | .inr q, h => exact h
def ee_lq (pc : Nat) (k : UInt64) (c : Int64) (lo : List (Nat × Value)) (stk : List Value) (w : ee_w) (iv : ee_iv) (kc ks : Nat) (sv : List Value) : List ee_st :=
  [(pc + 1, lo.map (fun q => (q.1, ee_sb k c q.2)), .int 0 :: stk.map (ee_sb k c), w.map (ee_sbc k c), iv, kc, ks, sv.map (ee_sb k c)), (pc + 1, lo, .retAddr iv.1 :: stk, w, ee_ps iv (-1) 1 [(6, 0, 0)], kc, ks, sv)]
def ee_la2 (pc : Nat) (lo : List (Nat × Value)) (stk : List Value) (w : ee_w) (iv : ee_iv) (kc ks : Nat) (sv : List Value) : List ee_st := [(pc + 1, lo, .retAddr iv.1 :: stk, w, ee_ps iv (-1) 1 [], kc, ks, sv)]
/-- the states behind lcmp of y and x -/
def ee_lcm (pc : Nat) (y x : Value) (lo : List (Nat × Value)) (stk : List Value) (w : ee_w) (iv : ee_iv) (kc ks : Nat) (sv : List Value) : List ee_st := match ee_lc x with
  | some c => (match ee_lc y with
    | some d => [(pc + 1, lo, .int (lg_cmp d c) :: stk, w, iv, kc, ks, sv)]
    | none => (match ee_lk y with
      | some k => ee_lq pc k c lo stk w iv kc ks sv
      | none => ee_la2 pc lo stk w iv kc ks sv))
  | none => (match ee_lc y with
    | some d => (match ee_lk x with
      | some k => ee_lq pc k d lo stk w iv kc ks sv
      | none => ee_la2 pc lo stk w iv kc ks sv)
    | none => ee_la2 pc lo stk w iv kc ks sv)
theorem ee_lcm.ok {p : Program} {l : Launch} {en : Env} {R : Room} {s : State} {m : MethodId} {args : Array Value} {below : List Frame} {meth : Method} {c : Code} {A : Nat → Prop} {D : va_G} {dA : Nat → ClassId} {ex : Nat → Nat} {x0 : List Int32} {a0 : List Nat} {sv0 : List Value} {nL : Nat} {Q : State → Prop} {pc : Nat} {y x : Value} {lo : List (Nat × Value)} {stk : List Value} {w : ee_w} {iv : ee_iv} {kc ks : Nat} {sv : List Value} (k : ∀ q ∈ ee_lcm pc y x lo stk w iv kc ks sv, ee_G (p, l, en, R, s, m, args, below, meth, c) (A, D, dA, ex, x0, a0, sv0, nL) Q q) {ns : List Int32} {as : List Nat} {H : Heap} {lc : List Loc} {ls : Array Slot} {vs : List Value} {a b : Int64} (C : ee_Con s A D dA ex x0 a0 sv0 nL lo stk w iv sv ns as H lc ls vs) (hx : ee_v ns as ex x (.long a)) (hy : ee_v ns as ex y (.long b)) :
    W p l en R s m args below meth c H lc kc ks Q (F0 m (pc + 1) ls (.int (lg_cmp b a) :: vs)) := by
  have any : (∀ q ∈ ee_la2 pc lo stk w iv kc ks sv, ee_G (p, l, en, R, s, m, args, below, meth, c) (A, D, dA, ex, x0, a0, sv0, nL) Q q) → W p l en R s m args below meth c H lc kc ks Q (F0 m (pc + 1) ls (.int (lg_cmp b a) :: vs)) := fun k => by
    have g := ee_lcmp b a
    obtain ⟨d1, d2, d3, d4, d5, d6⟩ := C.grow g.1 g.2 (fs := []) (fun _ q => by cases q)
    exact k _ List.mem_cons_self _ as H lc ls _ ⟨d1, d2, d3, ⟨⟨_, C.1.last _, rfl⟩, d4⟩, d5, d6⟩
  have one : ∀ (j : UInt64) (d : Int64), j ≠ 0 → (Int64.ofNat (ex (3000000 + j.toNat)) = d ↔ b = a) → (∀ q ∈ ee_lq pc j d lo stk w iv kc ks sv, ee_G (p, l, en, R, s, m, args, below, meth, c) (A, D, dA, ex, x0, a0, sv0, nL) Q q) → W p l en R s m args below meth c H lc kc ks Q (F0 m (pc + 1) ls (.int (lg_cmp b a) :: vs)) := fun j d hj hq k => by
    by_cases e : b = a
    · have hc := hq.mpr e
      subst e
      rw [ee_lcmp0]
      obtain ⟨c1, c2, ⟨lv, c3, c3l⟩, c4, c5, ws, ⟨cw1, cw2⟩, c6⟩ := C
      exact k _ List.mem_cons_self ns as H lc ls _ ⟨c1, c2, ⟨lv, c3, c3l.mapl (fun q r z => ⟨z.1, ee_sb.ok hj hc z.2⟩)⟩, ⟨rfl, c4.mapl (fun _ _ z => ee_sb.ok hj hc z)⟩, c5.mapl (fun _ _ z => ee_sb.ok hj hc z), ws, ⟨cw1, ee_all.mapl (R := fun (x : ee_cell) (q : Nat × va_E) => ee_c ns as ex dA x q.2) (fun _ _ z => ee_sbc.ok hj hc z) cw2⟩, c6⟩
    · have g := ee_lcmp b a
      obtain ⟨d1, d2, d3, d4, d5, d6⟩ := C.grow g.1 g.2 (fs := [(6, 0, 0)]) (fun f q => by
        simp only [List.mem_cons, List.not_mem_nil, or_false] at q
        subst q
        exact ee_lcmpn e)
      exact k _ (List.mem_cons_of_mem _ List.mem_cons_self) _ as H lc ls _ ⟨d1, d2, d3, ⟨⟨_, C.1.last _, rfl⟩, d4⟩, d5, d6⟩
  unfold ee_lcm at k
  cases hlx : ee_lc x with
  | some c =>
    rw [hlx] at k
    have ex1 := ee_lc.ok hlx
    subst ex1
    cases (show Value.long a = Value.long c from hx)
    simp only at k
    cases hly : ee_lc y with
    | some d =>
      rw [hly] at k
      have ey1 := ee_lc.ok hly
      subst ey1
      cases (show Value.long b = Value.long d from hy)
      obtain ⟨c1, c2, c3, c4, c5, c6⟩ := C
      exact k _ List.mem_cons_self ns as H lc ls _ ⟨c1, c2, c3, ⟨rfl, c4⟩, c5, c6⟩
    | none =>
      rw [hly] at k
      simp only at k
      cases hky : ee_lk y with
      | none => rw [hky] at k; exact any k
      | some j =>
        rw [hky] at k
        obtain ⟨e1, e2⟩ := ee_lk.ok hky
        subst e1
        exact one j a e2 (by rw [ee_v.lsy e2 hy]) k
  | none =>
    rw [hlx] at k
    simp only at k
    cases hly : ee_lc y with
    | none => rw [hly] at k; exact any k
    | some d =>
      rw [hly] at k
      have ey1 := ee_lc.ok hly
      subst ey1
      cases (show Value.long b = Value.long d from hy)
      simp only at k
      cases hkx : ee_lk x with
      | none => rw [hkx] at k; exact any k
      | some j =>
        rw [hkx] at k
        obtain ⟨e1, e2⟩ := ee_lk.ok hkx
        subst e1
        exact one j b e2 (by rw [ee_v.lsy e2 hx]; exact eq_comm) k
def ee_h9 : ee_H := fun _ _ _ e st => match st with
  | (pc, lo, x :: y :: stk, w, iv, kc, ks, sv) => if ee_isl x = true ∧ ee_isl y = true then (match e.2.1 with
      | .ladd => ee_nx e.2.2.1 1 [(pc + 1, lo, .double 0 :: stk, w, iv, kc, ks, sv)]
      | .lmul => ee_nx e.2.2.1 1 [(pc + 1, lo, .double 0 :: stk, w, iv, kc, ks, sv)]
      | .lor => ee_nx e.2.2.1 1 [(pc + 1, lo, .double 0 :: stk, w, iv, kc, ks, sv)]
      | .lcmp => ee_nx e.2.2.1 1 (ee_lcm pc y x lo stk w iv kc ks sv)
      | _ => none) else (match ee_it iv x with
      | some _ => (match e.2.1 with
        | .i2l => ee_nx e.2.2.1 1 [(pc + 1, lo, .double 0 :: y :: stk, w, iv, kc, ks, sv)]
        | .lshl => if ee_isl y = true then ee_nx e.2.2.1 1 [(pc + 1, lo, .double 0 :: stk, w, iv, kc, ks, sv)] else none
        | _ => none)
      | none => none)
  | _ => none
set_option maxHeartbeats 2000000 in
theorem ee_h9.snd : ee_Snd ee_h9 := by
  intro X Y oc own cc ini dm bc bs Q e st sts F ho hi hd he hpc h k
  obtain ⟨p, l, en, R, s, m, args, below, meth, c⟩ := X
  obtain ⟨A, D, dA, ex, x0, a0, sv0, nL⟩ := Y
  obtain ⟨pc, lo, stk, w, iv, kc, ks, sv⟩ := st
  obtain ⟨pc', ins, len, hn, ea, eb, ez, qa, qb, qc⟩ := e
  obtain ⟨hx, hb, hml, hown, hts, hK, hA, hini, hR, hE⟩ := F
  have hpc : pc = pc' := hpc
  subst hpc
  have hd : decode cc pc = .ok (ins, len) := hd
  intro ns as H lc ls vs C
  obtain ⟨c1, c2, c3, c4, c5, c6⟩ := C
  show W p l en R s m args below meth c H lc kc ks Q (F0 m pc ls vs)
  match stk, vs, c4, h with
  | [], _, _, h => exact ee_no h
  | [_], _, _, h => exact ee_no h
  | x :: y :: stk, [], c4, h => exact c4.elim
  | x :: y :: stk, [_], c4, h => exact c4.2.elim
  | x :: y :: stk, vx :: vy :: vs, ⟨cx, cy, c4⟩, h =>
    replace h : (if ee_isl x = true ∧ ee_isl y = true then (match (generalizing := false) ins with
      | .ladd => ee_nx len 1 [(pc + 1, lo, .double 0 :: stk, w, iv, kc, ks, sv)]
      | .lmul => ee_nx len 1 [(pc + 1, lo, .double 0 :: stk, w, iv, kc, ks, sv)]
      | .lor => ee_nx len 1 [(pc + 1, lo, .double 0 :: stk, w, iv, kc, ks, sv)]
      | .lcmp => ee_nx len 1 (ee_lcm pc y x lo stk w iv kc ks sv)
      | _ => none) else (match ee_it iv x with
      | some _ => (match (generalizing := false) ins with
        | .i2l => ee_nx len 1 [(pc + 1, lo, .double 0 :: y :: stk, w, iv, kc, ks, sv)]
        | .lshl => if ee_isl y = true then ee_nx len 1 [(pc + 1, lo, .double 0 :: stk, w, iv, kc, ks, sv)] else none
        | _ => none)
      | none => none)) = some sts := h
    by_cases hc : ee_isl x = true ∧ ee_isl y = true
    · rw [if_pos hc] at h
      obtain ⟨a, rfl⟩ := ee_isl.ok cx hc.1
      obtain ⟨b, rfl⟩ := ee_isl.ok cy hc.2
      cases ins with
      | ladd =>
        obtain ⟨rfl, rfl⟩ := ee_nx_some (show ee_nx len 1 _ = some sts from h)
        exact lv_ladd hx hb hd (k _ List.mem_cons_self ns as H lc ls _ ⟨c1, c2, c3, ⟨⟨_, rfl⟩, c4⟩, c5, c6⟩)
      | lmul =>
        obtain ⟨rfl, rfl⟩ := ee_nx_some (show ee_nx len 1 _ = some sts from h)
        exact lv_lmul hx hb hd (k _ List.mem_cons_self ns as H lc ls _ ⟨c1, c2, c3, ⟨⟨_, rfl⟩, c4⟩, c5, c6⟩)
      | lor =>
        obtain ⟨rfl, rfl⟩ := ee_nx_some (show ee_nx len 1 _ = some sts from h)
        exact lv_lor hx hb hd (k _ List.mem_cons_self ns as H lc ls _ ⟨c1, c2, c3, ⟨⟨_, rfl⟩, c4⟩, c5, c6⟩)
      | lcmp =>
        obtain ⟨rfl, rfl⟩ := ee_nx_some (show ee_nx len 1 (ee_lcm pc y x lo stk w iv kc ks sv) = some sts from h)
        exact W.lcmp hx hb hd (ee_lcm.ok k ⟨c1, c2, c3, c4, c5, c6⟩ cx cy)
      | _ => exact ee_no h
    · rw [if_neg hc] at h
      cases hq : ee_it iv x with
      | none => rw [hq] at h; exact ee_no h
      | some q =>
        rw [hq] at h
        obtain ⟨z, rfl, -, -⟩ := ee_it.int c1 cx hq
        cases ins with
        | i2l =>
          obtain ⟨rfl, rfl⟩ := ee_nx_some (show ee_nx len 1 _ = some sts from h)
          exact lv_i2l hx hb hd rfl (k _ List.mem_cons_self ns as H lc ls _ ⟨c1, c2, c3, ⟨⟨_, rfl⟩, cy, c4⟩, c5, c6⟩)
        | lshl =>
          replace h : (if ee_isl y = true then ee_nx len 1 [(pc + 1, lo, Value.double 0 :: stk, w, iv, kc, ks, sv)] else none) = some sts := h
          by_cases hy : ee_isl y = true
          · rw [if_pos hy] at h
            obtain ⟨rfl, rfl⟩ := ee_nx_some h
            obtain ⟨b, rfl⟩ := ee_isl.ok cy hy
            exact lv_lshl hx hb hd rfl (k _ List.mem_cons_self ns as H lc ls _ ⟨c1, c2, c3, ⟨⟨_, rfl⟩, c4⟩, c5, c6⟩)
          · rw [if_neg hy] at h
            exact ee_no h
        | _ => exact ee_no h
theorem ee_i2c (x : Int32) : 0 ≤ (x.toUInt32 % 65536).toInt32.toInt ∧ (x.toUInt32 % 65536).toInt32.toInt ≤ 65535 := by
  rw [pk_char, nI_toInt (by have := Nat.mod_lt x.toBitVec.toNat (show 0 < 65536 by decide); omega)]
  have := Nat.mod_lt x.toBitVec.toNat (show 0 < 65536 by decide)
  omega
theorem ee_i2b (x : Int32) : -128 ≤ x.toInt8.toInt32.toInt ∧ x.toInt8.toInt32.toInt ≤ 127 := by
  rw [Int8.toInt_toInt32]
  have h1 := Int8.le_toInt x.toInt8
  have h2 := Int8.toInt_lt x.toInt8
  omega
def ee_h10 : ee_H := fun _ _ _ e st => match st with
  | (pc, lo, x :: stk, w, iv, kc, ks, sv) => (match ee_cn iv x with
    | some z => (match e.2.1 with
      | .i2b => ee_nx e.2.2.1 1 [(pc + 1, lo, .int z.toInt8.toInt32 :: stk, w, iv, kc, ks, sv)]
      | .i2c => ee_nx e.2.2.1 1 [(pc + 1, lo, .int (z.toUInt32 % 65536).toInt32 :: stk, w, iv, kc, ks, sv)]
      | _ => none)
    | none => (match ee_it iv x with
      | some _ => (match e.2.1 with
        | .i2b => ee_nx e.2.2.1 1 [(pc + 1, lo, .retAddr iv.1 :: stk, w, ee_ps iv (-128) 127 [], kc, ks, sv)]
        | .i2c => ee_nx e.2.2.1 1 [(pc + 1, lo, .retAddr iv.1 :: stk, w, ee_ps iv 0 65535 [], kc, ks, sv)]
        | _ => none)
      | none => none))
  | _ => none
set_option maxHeartbeats 2000000 in
theorem ee_h10.snd : ee_Snd ee_h10 := by
  intro X Y oc own cc ini dm bc bs Q e st sts F ho hi hd he hpc h k
  obtain ⟨p, l, en, R, s, m, args, below, meth, c⟩ := X
  obtain ⟨A, D, dA, ex, x0, a0, sv0, nL⟩ := Y
  obtain ⟨pc, lo, stk, w, iv, kc, ks, sv⟩ := st
  obtain ⟨pc', ins, len, hn, ea, eb, ez, qa, qb, qc⟩ := e
  obtain ⟨hx, hb, hml, hown, hts, hK, hA, hini, hR, hE⟩ := F
  have hpc : pc = pc' := hpc
  subst hpc
  have hd : decode cc pc = .ok (ins, len) := hd
  intro ns as H lc ls vs C
  obtain ⟨c1, c2, c3, c4, c5, c6⟩ := C
  show W p l en R s m args below meth c H lc kc ks Q (F0 m pc ls vs)
  cases stk with
  | nil => exact ee_no h
  | cons x stk =>
    cases vs with
    | nil => exact c4.elim
    | cons v vs =>
      obtain ⟨c4v, c4⟩ := c4
      replace h : (match ee_cn iv x with
        | some z => (match (generalizing := false) ins with
          | .i2b => ee_nx len 1 [(pc + 1, lo, .int z.toInt8.toInt32 :: stk, w, iv, kc, ks, sv)]
          | .i2c => ee_nx len 1 [(pc + 1, lo, .int (z.toUInt32 % 65536).toInt32 :: stk, w, iv, kc, ks, sv)]
          | _ => none)
        | none => (match ee_it iv x with
          | some _ => (match (generalizing := false) ins with
            | .i2b => ee_nx len 1 [(pc + 1, lo, .retAddr iv.1 :: stk, w, ee_ps iv (-128) 127 [], kc, ks, sv)]
            | .i2c => ee_nx len 1 [(pc + 1, lo, .retAddr iv.1 :: stk, w, ee_ps iv 0 65535 [], kc, ks, sv)]
            | _ => none)
          | none => none)) = some sts := h
      cases hq : ee_cn iv x with
      | some z =>
        rw [hq] at h
        have hv := ee_cn.int c1 c4v hq
        subst hv
        cases ins with
        | i2b =>
          obtain ⟨rfl, rfl⟩ := ee_nx_some (show ee_nx len 1 _ = some sts from h)
          exact lv_i2b hx hb hd rfl (k _ List.mem_cons_self ns as H lc ls _ ⟨c1, c2, c3, ⟨rfl, c4⟩, c5, c6⟩)
        | i2c =>
          obtain ⟨rfl, rfl⟩ := ee_nx_some (show ee_nx len 1 _ = some sts from h)
          exact lv_i2c hx hb hd rfl (k _ List.mem_cons_self ns as H lc ls _ ⟨c1, c2, c3, ⟨rfl, c4⟩, c5, c6⟩)
        | _ => exact ee_no h
      | none =>
        rw [hq] at h
        simp only at h
        cases hr : ee_it iv x with
        | none => rw [hr] at h; exact ee_no h
        | some q =>
          rw [hr] at h
          obtain ⟨z, rfl, -, -⟩ := ee_it.int c1 c4v hr
          cases ins with
          | i2b =>
            obtain ⟨rfl, rfl⟩ := ee_nx_some (show ee_nx len 1 _ = some sts from h)
            have g := ee_i2b z
            obtain ⟨d1, d2, d3, d4, d5, d6⟩ := ee_Con.grow (s := s) (A := A) (D := D) (dA := dA) (ex := ex) (x0 := x0) (a0 := a0) (sv0 := sv0) (nL := nL) (lo := lo) (ls := ls) ⟨c1, c2, c3, c4, c5, c6⟩ g.1 g.2 (fs := []) (fun _ q => by cases q)
            exact lv_i2b hx hb hd rfl (k _ List.mem_cons_self _ as H lc ls _ ⟨d1, d2, d3, ⟨⟨_, c1.last _, rfl⟩, d4⟩, d5, d6⟩)
          | i2c =>
            obtain ⟨rfl, rfl⟩ := ee_nx_some (show ee_nx len 1 _ = some sts from h)
            have g := ee_i2c z
            obtain ⟨d1, d2, d3, d4, d5, d6⟩ := ee_Con.grow (s := s) (A := A) (D := D) (dA := dA) (ex := ex) (x0 := x0) (a0 := a0) (sv0 := sv0) (nL := nL) (lo := lo) (ls := ls) ⟨c1, c2, c3, c4, c5, c6⟩ g.1 g.2 (fs := []) (fun _ q => by cases q)
            exact lv_i2c hx hb hd rfl (k _ List.mem_cons_self _ as H lc ls _ ⟨d1, d2, d3, ⟨⟨_, c1.last _, rfl⟩, d4⟩, d5, d6⟩)
          | _ => exact ee_no h
def ee_h11 : ee_H := fun _ _ _ e st => match st with
  | (pc, lo, x :: stk, w, iv, kc, ks, sv) => if ee_cat x = 1 then (match e.2.1 with
      | .dup => ee_nx e.2.2.1 1 [(pc + 1, lo, x :: x :: stk, w, iv, kc, ks, sv)]
      | .pop => ee_nx e.2.2.1 1 [(pc + 1, lo, stk, w, iv, kc, ks, sv)]
      | .dup2 => (match stk with
        | y :: stk => if ee_cat y = 1 then ee_nx e.2.2.1 1 [(pc + 1, lo, x :: y :: x :: y :: stk, w, iv, kc, ks, sv)] else none
        | [] => none)
      | _ => none) else none
  | _ => none
set_option maxHeartbeats 2000000 in
theorem ee_h11.snd : ee_Snd ee_h11 := by
  intro X Y oc own cc ini dm bc bs Q e st sts F ho hi hd he hpc h k
  obtain ⟨p, l, en, R, s, m, args, below, meth, c⟩ := X
  obtain ⟨A, D, dA, ex, x0, a0, sv0, nL⟩ := Y
  obtain ⟨pc, lo, stk, w, iv, kc, ks, sv⟩ := st
  obtain ⟨pc', ins, len, hn, ea, eb, ez, qa, qb, qc⟩ := e
  obtain ⟨hx, hb, hml, hown, hts, hK, hA, hini, hR, hE⟩ := F
  have hpc : pc = pc' := hpc
  subst hpc
  have hd : decode cc pc = .ok (ins, len) := hd
  intro ns as H lc ls vs C
  obtain ⟨c1, c2, c3, c4, c5, c6⟩ := C
  show W p l en R s m args below meth c H lc kc ks Q (F0 m pc ls vs)
  cases stk with
  | nil => exact ee_no h
  | cons x stk =>
    cases vs with
    | nil => exact c4.elim
    | cons v vs =>
      obtain ⟨c4v, c4⟩ := c4
      replace h : (if ee_cat x = 1 then (match (generalizing := false) ins with
        | .dup => ee_nx len 1 [(pc + 1, lo, x :: x :: stk, w, iv, kc, ks, sv)]
        | .pop => ee_nx len 1 [(pc + 1, lo, stk, w, iv, kc, ks, sv)]
        | .dup2 => (match (generalizing := false) stk with
          | y :: stk => if ee_cat y = 1 then ee_nx len 1 [(pc + 1, lo, x :: y :: x :: y :: stk, w, iv, kc, ks, sv)] else none
          | [] => none)
        | _ => none) else none) = some sts := h
      by_cases hc : ee_cat x = 1
      · rw [if_pos hc] at h
        have hc1 : v.category = 1 := by rw [c4v.cat, hc]
        cases ins with
        | dup =>
          obtain ⟨rfl, rfl⟩ := ee_nx_some (show ee_nx len 1 _ = some sts from h)
          exact lv_dup hx hb hd hc1 (k _ List.mem_cons_self ns as H lc ls _ ⟨c1, c2, c3, ⟨c4v, c4v, c4⟩, c5, c6⟩)
        | pop =>
          obtain ⟨rfl, rfl⟩ := ee_nx_some (show ee_nx len 1 _ = some sts from h)
          exact lv_pop hx hb hd hc1 (k _ List.mem_cons_self ns as H lc ls _ ⟨c1, c2, c3, c4, c5, c6⟩)
        | dup2 =>
          cases stk with
          | nil => exact ee_no h
          | cons y stk =>
            cases vs with
            | nil => exact c4.elim
            | cons u vs =>
              obtain ⟨c4u, c4⟩ := c4
              replace h : (if ee_cat y = 1 then ee_nx len 1 [(pc + 1, lo, x :: y :: x :: y :: stk, w, iv, kc, ks, sv)] else none) = some sts := h
              by_cases hy : ee_cat y = 1
              · rw [if_pos hy] at h
                obtain ⟨rfl, rfl⟩ := ee_nx_some h
                exact lv_dup2_11 hx hb hd hc1 (by rw [c4u.cat, hy]) (k _ List.mem_cons_self ns as H lc ls _ ⟨c1, c2, c3, ⟨c4v, c4u, c4v, c4u, c4⟩, c5, c6⟩)
              · rw [if_neg hy] at h
                exact ee_no h
        | _ => exact ee_no h
      · rw [if_neg hc] at h
        exact ee_no h
def ee_ng (c : ClassFile.Cond) : ClassFile.Cond := match c with
  | .eq => .ne
  | .ne => .eq
  | .lt => .ge
  | .ge => .lt
  | .gt => .le
  | .le => .gt
/-- both ways of a comparison -/
def ee_fork (c : ClassFile.Cond) (pc : Nat) (o : Int) (lo : List (Nat × Value)) (stk : List Value) (w : ee_w) (iv : ee_iv) (kc ks : Nat) (sv : List Value) (x y : Value) : Option (List ee_st) := match ee_it iv x, ee_it iv y with
  | some (a, b), some (d, e) => if 0 ≤ (pc : Int) + o then some ((ee_rf c iv x y a b d e).map (fun iv' => (((pc : Int) + o).toNat, lo, stk, w, iv', kc, ks, sv)) ++ (ee_rf (ee_ng c) iv x y a b d e).map (fun iv' => (pc + 3, lo, stk, w, iv', kc, ks, sv))) else none
  | _, _ => none
theorem ee_fork.ok {X : ee_cx} {Y : ee_cy} {Q : State → Prop} {c : ClassFile.Cond} {pc : Nat} {o : Int} {lo : List (Nat × Value)} {stk : List Value} {w : ee_w} {iv : ee_iv} {kc ks : Nat} {sv : List Value} {x y : Value} {sts : List ee_st} (h : ee_fork c pc o lo stk w iv kc ks sv x y = some sts) (k : ∀ q ∈ sts, ee_G X Y Q q) :
    ∃ t : Nat, (pc : Int) + o = t ∧ ∀ (ns : List Int32) (as : List Nat) (vx vy : Value), ee_ok ns iv → ee_v ns as Y.2.2.2.1 x vx → ee_v ns as Y.2.2.2.1 y vy → ∃ p q : Int32, vx = .int p ∧ vy = .int q ∧ (ee_cd c p.toInt q.toInt → ∃ iv', ee_ok ns iv' ∧ ee_G X Y Q (t, lo, stk, w, iv', kc, ks, sv)) ∧ (ee_cd (ee_ng c) p.toInt q.toInt → ∃ iv', ee_ok ns iv' ∧ ee_G X Y Q (pc + 3, lo, stk, w, iv', kc, ks, sv)) := by
  unfold ee_fork at h
  split at h
  · rename_i a b d e h1 h2
    split at h
    · rename_i ht
      cases h
      refine ⟨((pc : Int) + o).toNat, by omega, fun ns as vx vy hk hvx hvy => ?_⟩
      obtain ⟨p, rfl, p1, p2⟩ := ee_it.int hk hvx h1
      obtain ⟨q, rfl, q1, q2⟩ := ee_it.int hk hvy h2
      refine ⟨p, q, rfl, rfl, fun hc => ?_, fun hc => ?_⟩
      · obtain ⟨iv', g1, g2⟩ := ee_rf.ok hk hvx hvy p1 p2 q1 q2 hc
        exact ⟨iv', g2, k _ (List.mem_append_left _ (List.mem_map.mpr ⟨iv', g1, rfl⟩))⟩
      · obtain ⟨iv', g1, g2⟩ := ee_rf.ok hk hvx hvy p1 p2 q1 q2 hc
        exact ⟨iv', g2, k _ (List.mem_append_right _ (List.mem_map.mpr ⟨iv', g1, rfl⟩))⟩
    · cases h
  · cases h
def ee_h12 : ee_H := fun _ _ _ e st => match st with
  | (pc, lo, x :: stk, w, iv, kc, ks, sv) => (match e.2.1 with
      | .ifCond c o => if e.2.2.1 = 3 then ee_fork c pc o lo stk w iv kc ks sv x (.int 0) else none
      | .if_icmp c o => (match stk with
        | y :: stk => if e.2.2.1 = 3 then ee_fork c pc o lo stk w iv kc ks sv y x else none
        | [] => none)
      | _ => none)
  | _ => none
theorem ee_lt (a b : Int32) : a < b ↔ a.toInt < b.toInt := Int32.lt_iff_toInt_lt
theorem ee_le (a b : Int32) : a ≤ b ↔ a.toInt ≤ b.toInt := Int32.le_iff_toInt_le
theorem ee_eq (a b : Int32) : a = b ↔ a.toInt = b.toInt := Int32.toInt_inj.symm
set_option maxHeartbeats 2000000 in
theorem ee_h12.snd : ee_Snd ee_h12 := by
  intro X Y oc own cc ini dm bc bs Q e st sts F ho hi hd he hpc h k
  obtain ⟨p, l, en, R, s, m, args, below, meth, c⟩ := X
  obtain ⟨A, D, dA, ex, x0, a0, sv0, nL⟩ := Y
  obtain ⟨pc, lo, stk, w, iv, kc, ks, sv⟩ := st
  obtain ⟨pc', ins, len, hn, ea, eb, ez, qa, qb, qc⟩ := e
  obtain ⟨hx, hb, hml, hown, hts, hK, hA, hini, hR, hE⟩ := F
  have hpc : pc = pc' := hpc
  subst hpc
  have hd : decode cc pc = .ok (ins, len) := hd
  intro ns as H lc ls vs C
  obtain ⟨c1, c2, c3, c4, c5, c6⟩ := C
  show W p l en R s m args below meth c H lc kc ks Q (F0 m pc ls vs)
  cases stk with
  | nil => exact ee_no h
  | cons x stk =>
    cases vs with
    | nil => exact c4.elim
    | cons v vs =>
      obtain ⟨c4v, c4⟩ := c4
      cases ins with
      | ifCond cd o =>
        replace h : (if len = 3 then ee_fork cd pc o lo stk w iv kc ks sv x (.int 0) else none) = some sts := h
        by_cases hl : len = 3
        · subst hl
          rw [if_pos rfl] at h
          obtain ⟨t, ht, g⟩ := ee_fork.ok (X := (p, l, en, R, s, m, args, below, meth, c)) (Y := (A, D, dA, ex, x0, a0, sv0, nL)) (Q := Q) h k
          obtain ⟨a, b, rfl, eb1, gt, gf⟩ := g ns as v (.int 0) c1 c4v rfl
          cases eb1
          have kt : ee_cd cd a.toInt (0 : Int32).toInt → W p l en R s m args below meth c H lc kc ks Q (F0 m t ls vs) := fun hc => by
            obtain ⟨iv', g1, g2⟩ := gt hc
            exact g2 ns as H lc ls _ ⟨g1, c2, c3, c4, c5, c6⟩
          have kf : ee_cd (ee_ng cd) a.toInt (0 : Int32).toInt → W p l en R s m args below meth c H lc kc ks Q (F0 m (pc + 3) ls vs) := fun hc => by
            obtain ⟨iv', g1, g2⟩ := gf hc
            exact g2 ns as H lc ls _ ⟨g1, c2, c3, c4, c5, c6⟩
          cases cd with
          | eq => exact lv_if_eq hx hb hd ht (fun q => kt ((ee_eq _ _).mp q)) (fun q => kf (fun z => q ((ee_eq _ _).mpr z)))
          | ne => exact lv_if_ne hx hb hd ht (fun q => kt (fun z => q ((ee_eq _ _).mpr z))) (fun q => kf ((ee_eq _ _).mp q))
          | lt => exact lv_if_lt hx hb hd ht (fun q => kt ((ee_lt _ _).mp q)) (fun q => kf (Int.not_lt.mp (fun z => q ((ee_lt _ _).mpr z))))
          | ge => exact lv_if_ge hx hb hd ht (fun q => kt ((ee_le _ _).mp q)) (fun q => kf (Int.not_le.mp (fun z => q ((ee_le _ _).mpr z))))
          | gt => exact lv_if_gt hx hb hd ht (fun q => kt ((ee_lt _ _).mp q)) (fun q => kf (Int.not_lt.mp (fun z => q ((ee_lt _ _).mpr z))))
          | le => exact lv_if_le hx hb hd ht (fun q => kt ((ee_le _ _).mp q)) (fun q => kf (Int.not_le.mp (fun z => q ((ee_le _ _).mpr z))))
        · rw [if_neg hl] at h
          exact ee_no h
      | if_icmp cd o =>
        cases stk with
        | nil => exact ee_no h
        | cons y stk =>
          cases vs with
          | nil => exact c4.elim
          | cons u vs =>
            obtain ⟨c4u, c4⟩ := c4
            replace h : (if len = 3 then ee_fork cd pc o lo stk w iv kc ks sv y x else none) = some sts := h
            by_cases hl : len = 3
            · subst hl
              rw [if_pos rfl] at h
              obtain ⟨t, ht, g⟩ := ee_fork.ok (X := (p, l, en, R, s, m, args, below, meth, c)) (Y := (A, D, dA, ex, x0, a0, sv0, nL)) (Q := Q) h k
              obtain ⟨a, b, rfl, rfl, gt, gf⟩ := g ns as u v c1 c4u c4v
              have kt : ee_cd cd a.toInt b.toInt → W p l en R s m args below meth c H lc kc ks Q (F0 m t ls vs) := fun hc => by
                obtain ⟨iv', g1, g2⟩ := gt hc
                exact g2 ns as H lc ls _ ⟨g1, c2, c3, c4, c5, c6⟩
              have kf : ee_cd (ee_ng cd) a.toInt b.toInt → W p l en R s m args below meth c H lc kc ks Q (F0 m (pc + 3) ls vs) := fun hc => by
                obtain ⟨iv', g1, g2⟩ := gf hc
                exact g2 ns as H lc ls _ ⟨g1, c2, c3, c4, c5, c6⟩
              cases cd with
              | eq => exact lv_icmp_eq hx hb hd ht (fun q => kt ((ee_eq _ _).mp q)) (fun q => kf (fun z => q ((ee_eq _ _).mpr z)))
              | ne => exact lv_icmp_ne hx hb hd ht (fun q => kt (fun z => q ((ee_eq _ _).mpr z))) (fun q => kf ((ee_eq _ _).mp q))
              | lt => exact lv_icmp_lt hx hb hd ht (fun q => kt ((ee_lt _ _).mp q)) (fun q => kf (Int.not_lt.mp (fun z => q ((ee_lt _ _).mpr z))))
              | ge => exact lv_icmp_ge hx hb hd ht (fun q => kt ((ee_le _ _).mp q)) (fun q => kf (Int.not_le.mp (fun z => q ((ee_le _ _).mpr z))))
              | gt => exact lv_icmp_gt hx hb hd ht (fun q => kt ((ee_lt _ _).mp q)) (fun q => kf (Int.not_lt.mp (fun z => q ((ee_lt _ _).mpr z))))
              | le => exact lv_icmp_le hx hb hd ht (fun q => kt ((ee_le _ _).mp q)) (fun q => kf (Int.not_le.mp (fun z => q ((ee_le _ _).mpr z))))
            · rw [if_neg hl] at h
              exact ee_no h
      | _ => exact ee_no h
/-- the states behind a table of places -/
def ee_sw (pc : Nat) (df lw hg : Int) (os : List Int) (lo : List (Nat × Value)) (stk : List Value) (w : ee_w) (iv : ee_iv) (kc ks : Nat) (sv : List Value) (x : Value) (a b : Int) : List ee_st :=
  (if a < lw then [(((pc : Int) + df).toNat, lo, stk, w, ee_put iv x a (ee_mn b (lw - 1)), kc, ks, sv)] else []) ++ ((if hg < b then [(((pc : Int) + df).toNat, lo, stk, w, ee_put iv x (ee_mx a (hg + 1)) b, kc, ks, sv)] else []) ++
  (List.range os.length).flatMap (fun (j : Nat) => if a ≤ lw + j ∧ lw + j ≤ b then [(((pc : Int) + os.getD j 0).toNat, lo, stk, w, ee_put iv x (lw + j) (lw + j), kc, ks, sv)] else []))
def ee_h13 : ee_H := fun _ _ _ e st => match st with
  | (pc, lo, x :: stk, w, iv, kc, ks, sv) => (match e.2.1 with
      | .tableswitch df lw hg os => (match ee_it iv x with
        | some (a, b) => if 0 ≤ (pc : Int) + df ∧ hg - lw + 1 = (os.toList.length : Int) ∧ os.toList.all (fun o => decide (0 ≤ (pc : Int) + o)) = true then some (ee_sw pc df lw hg os.toList lo stk w iv kc ks sv x a b) else none
        | none => none)
      | .lookupswitch df ps => (match ee_it iv x with
        | some (a, b) => if 0 ≤ (pc : Int) + df ∧ (ps.toList.zip (ps.toList.drop 1)).all (fun (a, next) => a.1 < next.1) = true ∧ ps.toList.all (fun o => decide (0 ≤ (pc : Int) + o.2)) = true then some ((((pc : Int) + df).toNat, lo, stk, w, iv, kc, ks, sv) :: ps.toList.filterMap (fun o => if a ≤ o.1 ∧ o.1 ≤ b then some (((pc : Int) + o.2).toNat, lo, stk, w, ee_put iv x o.1 o.1, kc, ks, sv) else none)) else none
        | none => none)
      | _ => none)
  | _ => none
theorem ee_lsw : ∀ (l : List (Int × Int)) (df z : Int), Op.lookupswitch.offset l df z = df ∨ ∃ o, (z, o) ∈ l ∧ Op.lookupswitch.offset l df z = o
  | [], df, z => Or.inl rfl
  | (a, o) :: l, df, z => by
    rw [Op.lookupswitch.offset_cons]
    by_cases e : a = z
    · rw [if_pos e]
      subst e
      exact Or.inr ⟨o, List.mem_cons_self, rfl⟩
    · rw [if_neg e]
      rcases ee_lsw l df z with h | ⟨o', h1, h2⟩
      · exact Or.inl h
      · exact Or.inr ⟨o', List.mem_cons_of_mem _ h1, h2⟩
set_option maxHeartbeats 2000000 in
theorem ee_h13.snd : ee_Snd ee_h13 := by
  intro X Y oc own cc ini dm bc bs Q e st sts F ho hi hd he hpc h k
  obtain ⟨p, l, en, R, s, m, args, below, meth, c⟩ := X
  obtain ⟨A, D, dA, ex, x0, a0, sv0, nL⟩ := Y
  obtain ⟨pc, lo, stk, w, iv, kc, ks, sv⟩ := st
  obtain ⟨pc', ins, len, hn, ea, eb, ez, qa, qb, qc⟩ := e
  obtain ⟨hx, hb, hml, hown, hts, hK, hA, hini, hR, hE⟩ := F
  have hpc : pc = pc' := hpc
  subst hpc
  have hd : decode cc pc = .ok (ins, len) := hd
  intro ns as H lc ls vs C
  obtain ⟨c1, c2, c3, c4, c5, c6⟩ := C
  show W p l en R s m args below meth c H lc kc ks Q (F0 m pc ls vs)
  cases stk with
  | nil => exact ee_no h
  | cons x stk =>
    cases vs with
    | nil => exact c4.elim
    | cons v vs =>
      obtain ⟨c4v, c4⟩ := c4
      cases ins with
      | tableswitch df lw hg os =>
        replace h : (match ee_it iv x with
          | some (a, b) => if 0 ≤ (pc : Int) + df ∧ hg - lw + 1 = (os.toList.length : Int) ∧ os.toList.all (fun o => decide (0 ≤ (pc : Int) + o)) = true then some (ee_sw pc df lw hg os.toList lo stk w iv kc ks sv x a b) else none
          | none => none) = some sts := h
        cases hq : ee_it iv x with
        | none => rw [hq] at h; exact ee_no h
        | some q =>
          obtain ⟨a, b⟩ := q
          rw [hq] at h
          simp only at h
          by_cases hc : 0 ≤ (pc : Int) + df ∧ hg - lw + 1 = (os.toList.length : Int) ∧ os.toList.all (fun o => decide (0 ≤ (pc : Int) + o)) = true
          · rw [if_pos hc] at h
            cases h
            obtain ⟨z, rfl, z1, z2⟩ := ee_it.int c1 c4v hq
            obtain ⟨hc1, hc2, hc3⟩ := hc
            by_cases h1 : z.toInt < lw
            · refine lv_tableOut hx hb hd (Or.inl h1) (tgt := ((pc : Int) + df).toNat) (by omega) ?_
              refine k _ (List.mem_append_left _ (by rw [if_pos (by omega)]; exact List.mem_cons_self)) ns as H lc ls _ ⟨ee_put.ok (lo := a) (hi := ee_mn b (lw - 1)) c1 c4v z1 (ee_le_mn z2 (by omega)), c2, c3, c4, c5, c6⟩
            · by_cases h2 : hg < z.toInt
              · refine lv_tableOut hx hb hd (Or.inr h2) (tgt := ((pc : Int) + df).toNat) (by omega) ?_
                refine k _ (List.mem_append_right _ (List.mem_append_left _ (by rw [if_pos (by omega)]; exact List.mem_cons_self))) ns as H lc ls _ ⟨ee_put.ok (lo := ee_mx a (hg + 1)) (hi := b) c1 c4v (ee_mx_le z1 (by omega)) z2, c2, c3, c4, c5, c6⟩
              · have hj : (z.toInt - lw).toNat < os.toList.length := by omega
                have ho' : os[(z.toInt - lw).toNat]? = some (os.toList.getD (z.toInt - lw).toNat 0) := by
                  rw [← Array.getElem?_toList, List.getD_eq_getElem?_getD, List.getElem?_eq_getElem hj]; rfl
                have hp := of_decide_eq_true (List.all_eq_true.mp hc3 (os.toList.getD (z.toInt - lw).toNat 0) (by
                  rw [List.getD_eq_getElem?_getD, List.getElem?_eq_getElem hj]
                  exact List.getElem_mem hj))
                refine lv_tableIn hx hb hd h1 h2 ho' (tgt := ((pc : Int) + os.toList.getD (z.toInt - lw).toNat 0).toNat) (by omega) ?_
                refine k _ (List.mem_append_right _ (List.mem_append_right _ (List.mem_flatMap.mpr ⟨(z.toInt - lw).toNat, List.mem_range.mpr hj, by rw [if_pos (by omega)]; exact List.mem_cons_self⟩))) ns as H lc ls _ ⟨ee_put.ok (lo := lw + ((z.toInt - lw).toNat : Nat)) (hi := lw + ((z.toInt - lw).toNat : Nat)) c1 c4v (by omega) (by omega), c2, c3, c4, c5, c6⟩
          · rw [if_neg hc] at h
            exact ee_no h
      | lookupswitch df ps =>
        replace h : (match ee_it iv x with
          | some (a, b) => if 0 ≤ (pc : Int) + df ∧ (ps.toList.zip (ps.toList.drop 1)).all (fun (a, next) => a.1 < next.1) = true ∧ ps.toList.all (fun o => decide (0 ≤ (pc : Int) + o.2)) = true then some ((((pc : Int) + df).toNat, lo, stk, w, iv, kc, ks, sv) :: ps.toList.filterMap (fun o => if a ≤ o.1 ∧ o.1 ≤ b then some (((pc : Int) + o.2).toNat, lo, stk, w, ee_put iv x o.1 o.1, kc, ks, sv) else none)) else none
          | none => none) = some sts := h
        cases hq : ee_it iv x with
        | none => rw [hq] at h; exact ee_no h
        | some q =>
          obtain ⟨a, b⟩ := q
          rw [hq] at h
          simp only at h
          by_cases hc : 0 ≤ (pc : Int) + df ∧ (ps.toList.zip (ps.toList.drop 1)).all (fun (a, next) => a.1 < next.1) = true ∧ ps.toList.all (fun o => decide (0 ≤ (pc : Int) + o.2)) = true
          · rw [if_pos hc] at h
            cases h
            obtain ⟨z, rfl, z1, z2⟩ := ee_it.int c1 c4v hq
            obtain ⟨hc1, hc2, hc3⟩ := hc
            rcases ee_lsw ps.toList df z.toInt with hz | ⟨o, hz1, hz2⟩
            · exact lv_lookup hx hb hd hc2 hz (tgt := ((pc : Int) + df).toNat) (by omega) (k _ List.mem_cons_self ns as H lc ls _ ⟨c1, c2, c3, c4, c5, c6⟩)
            · have hp := of_decide_eq_true (List.all_eq_true.mp hc3 (z.toInt, o) hz1)
              refine lv_lookup hx hb hd hc2 hz2 (tgt := ((pc : Int) + o).toNat) (by omega) ?_
              refine k _ (List.mem_cons_of_mem _ (List.mem_filterMap.mpr ⟨(z.toInt, o), hz1, by rw [if_pos ⟨z1, z2⟩]⟩)) ns as H lc ls _ ⟨ee_put.ok c1 c4v (Int.le_refl _) (Int.le_refl _), c2, c3, c4, c5, c6⟩
          · rw [if_neg hc] at h
            exact ee_no h
      | _ => exact ee_no h
end
section
/-! handlers: the heap -/
theorem ee_v.at {ns : List Int32} {as : List Nat} {ex : Nat → Nat} {k : Nat} {a : Nat} (h : ee_v ns as ex (.ref k) (.ref a)) (hk : k < 1000000) : as[k]? = some a := by
  unfold ee_v at h
  simp only [hk, if_true] at h
  obtain ⟨b, h1, h2⟩ := h
  cases h2
  exact h1
theorem ee_v.out {ns : List Int32} {as : List Nat} {ex : Nat → Nat} {k : Nat} {a : Nat} (h : ee_v ns as ex (.ref k) (.ref a)) (hk : ¬ k < 1000000) : a = ex k := by
  unfold ee_v at h
  simp only [hk, if_false] at h
  cases h
  rfl
/-- the cell at a place of the world -/
theorem ee_wr.at {ns : List Int32} {as : List Nat} {ex : Nat → Nat} {dA : Nat → ClassId} {w : ee_w} {ws : va_W} {k a : Nat} {x : ee_cell} (h : ee_wr ns as ex dA w ws) (hk : w[k]? = some x) (ha : as[k]? = some a) : ∃ e, ws[k]? = some (a, e) ∧ ee_c ns as ex dA x e := by
  obtain ⟨⟨b, e⟩, h1, h2⟩ := h.2.get hk
  rw [h.1, List.getElem?_map, h1] at ha
  cases ha
  exact ⟨e, h1, h2⟩
theorem ee_map_set {ws : va_W} {k a : Nat} {e e2 : va_E} (h : ws[k]? = some (a, e)) : (ws.set k (a, e2)).map (fun q => q.1) = ws.map (fun q => q.1) := by
  apply List.ext_getElem?
  intro i
  rw [List.getElem?_map, List.getElem?_map]
  by_cases hi : i = k
  · subst hi
    rw [List.getElem?_set_self (List.getElem?_eq_some_iff.mp h).1, h]; rfl
  · rw [List.getElem?_set_ne (Ne.symm hi)]
theorem ee_wr.set {ns : List Int32} {as : List Nat} {ex : Nat → Nat} {dA : Nat → ClassId} {w : ee_w} {ws : va_W} {k a : Nat} {x : ee_cell} {e e2 : va_E} (h : ee_wr ns as ex dA w ws) (ha : ws[k]? = some (a, e)) (hc : ee_c ns as ex dA x e2) : ee_wr ns as ex dA (w.set k x) (ws.set k (a, e2)) :=
  ⟨by rw [ee_map_set ha]; exact h.1, h.2.set (a := x) (b := (a, e2)) hc⟩
theorem ee_wr.push {ns : List Int32} {as : List Nat} {ex : Nat → Nat} {dA : Nat → ClassId} {w : ee_w} {ws : va_W} {a : Nat} {x : ee_cell} {e : va_E} (h : ee_wr ns as ex dA w ws) (hc : ee_c ns (as ++ [a]) ex dA x e) : ee_wr ns (as ++ [a]) ex dA (w ++ [x]) (ws ++ [(a, e)]) :=
  ⟨by rw [h.1, List.map_append]; rfl, (h.2.imp (fun x q g => by simpa using ee_c.mono [] [a] g)).app ⟨hc, trivial⟩⟩
theorem ee_wr.len {ns : List Int32} {as : List Nat} {ex : Nat → Nat} {dA : Nat → ClassId} {w : ee_w} {ws : va_W} (h : ee_wr ns as ex dA w ws) : as.length = w.length := by
  rw [h.1, List.length_map, h.2.len]
/-- a new cell -/
theorem ee_Con.born {s : State} {A : Nat → Prop} {D : va_G} {dA : Nat → ClassId} {ex : Nat → Nat} {x0 : List Int32} {a0 : List Nat} {sv0 : List Value} {nL : Nat} {lo : List (Nat × Value)} {stk : List Value} {w : ee_w} {iv : ee_iv} {sv : List Value} {ns : List Int32} {as : List Nat} {H1 : Heap} {lc : List Loc} {ls : Array Slot} {vs : List Value} {ws : va_W} {a : Nat} {x : ee_cell} {e : va_E}
    (c1 : ee_ok ns iv) (c2 : (∃ r, ns = x0 ++ r) ∧ ∃ r, as = a0 ++ r) (c3 : ∃ lv, lv_has ls nL lv ∧ ee_all (ee_lr ns as ex) lo lv) (c4 : ee_all (ee_v ns as ex) stk vs) (c5 : ee_all (ee_v ns as ex) sv sv0) (hw : ee_wr ns as ex dA w ws) (hc : ee_c ns (as ++ [a]) ex dA x e) (hP : va_P D vwCl (ws ++ [(a, e)]) H1) (hD : va_D A (ws ++ [(a, e)])) (hS : va_S A s.heap H1 lc) (hl : w.length < 1000000) :
    ee_Con s A D dA ex x0 a0 sv0 nL lo (.ref w.length :: stk) (w ++ [x]) iv sv ns (as ++ [a]) H1 lc ls (.ref a :: vs) := by
  have mv : ∀ x v, ee_v ns as ex x v → ee_v ns (as ++ [a]) ex x v := fun x v q => by simpa using ee_v.mono [] [a] q
  obtain ⟨lv, c3, c3l⟩ := c3
  obtain ⟨c2, r, c2a⟩ := c2
  refine ⟨c1, ⟨c2, r ++ [a], by rw [c2a, List.append_assoc]⟩, ⟨lv, c3, c3l.imp (fun x y q => ⟨q.1, mv _ _ q.2⟩)⟩, ⟨?_, c4.imp mv⟩, c5.imp mv, _, hw.push hc, hP, hD, hS⟩
  refine ee_v.inw hl ?_
  rw [← hw.len, List.getElem?_append_right (Nat.le_refl _), Nat.sub_self]; rfl
def ee_h14 : ee_H := fun _ _ _ e st => match st with
  | (pc, lo, .ref k :: stk, w, iv, kc, ks, sv) => (match e with
    | (_, .getfield _, len, _, _, eb, _, qa, qb, _) => if eb = 0 then (match w[k]? with
          | some (.inl (ci, fs)) => (match fs[qb]? with
            | some x => if k < 1000000 ∧ ci = qa then ee_nx len 3 [(pc + 3, lo, x :: stk, w, iv, kc, ks, sv)] else none
            | none => none)
          | _ => none)
        else if 1000000 ≤ k ∧ k < 1000002 then ee_nx len 3 [(pc + 3, lo, (if qa = 0 then .int 0 else .ref (k + 100)) :: stk, w, iv, kc, ks, sv)] else none
    | _ => none)
  | _ => none
set_option maxHeartbeats 2000000 in
theorem ee_h14.snd : ee_Snd ee_h14 := by
  intro X Y oc own cc ini dm bc bs Q e st sts F ho hi hd he hpc h k
  obtain ⟨p, l, en, R, s, m, args, below, meth, c⟩ := X
  obtain ⟨A, D, dA, ex, x0, a0, sv0, nL⟩ := Y
  obtain ⟨pc, lo, stk, w, iv, kc, ks, sv⟩ := st
  obtain ⟨pc', ins, len, hn, ea, eb, ez, qa, qb, qc⟩ := e
  obtain ⟨hx, hb, hml, hown, hts, hK, hA, hini, hR, hE⟩ := F
  have hpc : pc = pc' := hpc
  subst hpc
  have hd : decode cc pc = .ok (ins, len) := hd
  intro ns as H lc ls vs C
  obtain ⟨c1, c2, c3, c4, c5, c6⟩ := C
  show W p l en R s m args below meth c H lc kc ks Q (F0 m pc ls vs)
  cases stk with
  | nil => exact ee_no h
  | cons x stk =>
    cases vs with
    | nil => exact c4.elim
    | cons v vs =>
      obtain ⟨c4v, c4⟩ := c4
      cases x with
      | ref j =>
        obtain ⟨a, rfl⟩ := ee_v.ref c4v
        cases ins with
        | getfield i =>
          replace h : (if eb = 0 then (match w[j]? with
              | some (.inl (ci, fs)) => (match fs[qb]? with
                | some x => if j < 1000000 ∧ ci = qa then ee_nx len 3 [(pc + 3, lo, x :: stk, w, iv, kc, ks, sv)] else none
                | none => none)
              | _ => none)
            else if 1000000 ≤ j ∧ j < 1000002 then ee_nx len 3 [(pc + 3, lo, (if qa = 0 then .int 0 else .ref (j + 100)) :: stk, w, iv, kc, ks, sv)] else none) = some sts := h
          have hee : (if eb = 0 then (match ee_FL[ea]? with
              | some q => decide (q.1 = oc) && (decide (q.2.1 = i) && (decide (q.2.2.1 = qa) && (decide (q.2.2.2.1 = qb) && decide (q.2.2.2.2.2 = qc))))
              | none => false) else (match ee_SL[ea]? with
              | some q => decide (q.1 = oc) && (decide (q.2.1 = i) && decide (q.2.2.1 = qa))
              | none => false)) = true := he
          by_cases h0 : eb = 0
          · rw [if_pos h0] at h hee
            cases hq : ee_FL[ea]? with
            | none => rw [hq] at hee; cases hee
            | some q =>
              rw [hq] at hee
              simp only at hee
              obtain ⟨u1, u2⟩ := ee_and hee
              obtain ⟨u3, u4⟩ := ee_and u2
              obtain ⟨u5, u6⟩ := ee_and u4
              obtain ⟨u7, -⟩ := ee_and u6
              have e1 := of_decide_eq_true u1
              have e2 := of_decide_eq_true u3
              have e3 := of_decide_eq_true u5
              have e4 := of_decide_eq_true u7
              subst e3
              subst e4
              obtain ⟨r, f1, f2, f3, -⟩ := ee_FLok q (List.mem_of_getElem? hq)
              rw [e1, ee_own_ow ho, e2] at f3
              split at h
              · rename_i ci fs hw
                cases hf : fs[q.2.2.2.1]? with
                | none => rw [hf] at h; exact ee_no h
                | some x =>
                  rw [hf] at h
                  simp only at h
                  by_cases hc : j < 1000000 ∧ ci = q.2.2.1
                  · rw [if_pos hc] at h
                    obtain ⟨rfl, rfl⟩ := ee_nx_some h
                    obtain ⟨ws, c6w, hP, hD, hS⟩ := c6
                    obtain ⟨ec, g1, vs1, rfl, g3⟩ := c6w.at hw (c4v.at hc.1)
                    obtain ⟨u, g4, g5⟩ := g3.get hf
                    rw [hc.2] at g1
                    obtain ⟨C, T, N⟩ := r
                    exact va_get (C := C) (T := T) (N := N) hx hb hts (ee_kd _ _ f1).1 hown hK hP j g1 f1 q.2.2.2.1 f2 (hts _ f3) (fun _ z => z) g4 hd (k _ List.mem_cons_self ns as H lc ls _ ⟨c1, c2, c3, ⟨g5, c4⟩, c5, ws, c6w, hP, hD, hS⟩)
                  · rw [if_neg hc] at h
                    exact ee_no h
              · exact ee_no h
          · rw [if_neg h0] at h hee
            cases hq : ee_SL[ea]? with
            | none => rw [hq] at hee; cases hee
            | some q =>
              rw [hq] at hee
              simp only at hee
              obtain ⟨e1, e2⟩ := ee_and hee
              obtain ⟨e2, e3⟩ := ee_and e2
              have e1 := of_decide_eq_true e1
              have e2 := of_decide_eq_true e2
              have e3 := of_decide_eq_true e3
              have f3 := ee_SLok q (List.mem_of_getElem? hq)
              rw [e1, ee_own_ow ho, e2, e3] at f3
              by_cases hc : 1000000 ≤ j ∧ j < 1000002
              · rw [if_pos hc] at h
                obtain ⟨rfl, rfl⟩ := ee_nx_some h
                obtain ⟨hc1, hc2⟩ := hc
                have ha := c4v.out (Nat.not_lt.mpr hc1)
                subst ha
                obtain ⟨ws, c6w, hP, hD, hS⟩ := c6
                obtain ⟨i0, hi0, rfl⟩ : ∃ i0, i0 < 2 ∧ j = 1000000 + i0 := ⟨j - 1000000, Nat.sub_lt_left_of_lt_add hc1 hc2, (Nat.add_sub_of_le hc1).symm⟩
                obtain ⟨g1, g2, g3, g4⟩ := hE.1.1 i0 hi0
                have g3 : va_OF "java/lang/String" "value" "[B" (.ref (ex (1000000 + i0 + 100))) (ex (1000000 + i0)) A s s.heap := by
                  rw [show 1000000 + i0 + 100 = 1000100 + i0 from Nat.add_right_comm 1000000 i0 100]
                  exact g3
                by_cases hz : qa = 0
                · rw [if_pos hz] at k
                  rw [hz] at f3
                  exact vk_getf hx hb g2 hS hown (hts _ f3) (fun _ z => z) hd (k _ List.mem_cons_self ns as H lc ls _ ⟨c1, c2, c3, ⟨rfl, c4⟩, c5, ws, c6w, hP, hD, hS⟩)
                · rw [if_neg hz] at k
                  rw [show ee_sf qa = ("value", "[B") by unfold ee_sf; rw [if_neg hz]] at f3
                  exact vk_getf hx hb g3 hS hown (hts _ f3) (fun _ z => z) hd (k _ List.mem_cons_self ns as H lc ls _ ⟨c1, c2, c3, ⟨ee_v.outs (Nat.not_lt.mpr (Nat.le_trans hc1 (Nat.le_add_right _ _))), c4⟩, c5, ws, c6w, hP, hD, hS⟩)
              · rw [if_neg hc] at h
                exact ee_no h
        | _ => exact ee_no h
      | _ => exact ee_no h
end
section
/-! handlers: fields put, arrays, new cells, statics -/
def ee_fit (tc : Nat) (iv : ee_iv) (x : Value) : Bool := match tc with
  | 0 => (ee_it iv x).isSome
  | 1 => (match ee_it iv x with
    | some (a, b) => decide (0 ≤ a) && decide (b ≤ 1)
    | none => false)
  | 2 => ee_isl x
  | 3 => (match x with
    | .ref _ => true
    | .null => true
    | _ => false)
  | _ => false
theorem ee_01 {z : Int32} (h1 : 0 ≤ z.toInt) (h2 : z.toInt ≤ 1) : z = 0 ∨ z = 1 := by
  by_cases h : z.toInt = 0
  · exact Or.inl (ee_zero (by omega) (by omega))
  · exact Or.inr (Int32.toInt_inj.mp (by rw [show (1 : Int32).toInt = 1 by decide]; omega))
theorem ee_fit.ok {ns : List Int32} {as : List Nat} {ex : Nat → Nat} {iv : ee_iv} {x v : Value} {tc : Nat} {ty : FieldType} (hk : ee_ok ns iv) (hx : ee_v ns as ex x v) (hf : ee_fit tc iv x = true) (ht : ee_tc ty = tc) : narrow ty v = v ∧ fits ty v = true := by
  subst ht
  cases ty with
  | int =>
    have hf : (ee_it iv x).isSome = true := hf
    obtain ⟨q, hq⟩ := Option.isSome_iff_exists.mp hf
    obtain ⟨z, rfl, -, -⟩ := ee_it.int hk hx hq
    exact ⟨rfl, rfl⟩
  | boolean =>
    have hf : (match ee_it iv x with
      | some (a, b) => decide (0 ≤ a) && decide (b ≤ 1)
      | none => false) = true := hf
    cases hq : ee_it iv x with
    | none => rw [hq] at hf; cases hf
    | some q =>
      obtain ⟨a, b⟩ := q
      rw [hq] at hf
      obtain ⟨e1, e2⟩ := ee_and hf
      have e1 := of_decide_eq_true e1
      have e2 := of_decide_eq_true e2
      obtain ⟨z, rfl, z1, z2⟩ := ee_it.int hk hx hq
      rcases ee_01 (z := z) (by omega) (by omega) with rfl | rfl <;> exact ⟨by decide, by decide⟩
  | long =>
    obtain ⟨z, rfl⟩ := ee_isl.ok hx hf
    exact ⟨rfl, rfl⟩
  | object n =>
    cases x with
    | ref j =>
      obtain ⟨a, rfl⟩ := ee_v.ref hx
      exact ⟨rfl, rfl⟩
    | null =>
      cases (show v = .null from hx)
      exact ⟨rfl, rfl⟩
    | _ => cases hf
  | array n =>
    cases x with
    | ref j =>
      obtain ⟨a, rfl⟩ := ee_v.ref hx
      exact ⟨rfl, rfl⟩
    | null =>
      cases (show v = .null from hx)
      exact ⟨rfl, rfl⟩
    | _ => cases hf
  | _ => cases hf
def ee_h15 : ee_H := fun _ _ _ e st => match st with
  | (pc, lo, x :: .ref k :: stk, w, iv, kc, ks, sv) => (match e with
    | (_, .putfield _, len, _, _, _, _, qa, qb, qc) => (match w[k]? with
          | some (.inl (ci, fs)) => if (k < 1000000 ∧ ci = qa) ∧ qb < fs.length ∧ ee_fit qc iv x = true then ee_nx len 3 [(pc + 3, lo, stk, w.set k (.inl (ci, fs.set qb x)), iv, kc, ks, sv)] else none
          | _ => none)
    | _ => none)
  | _ => none
set_option maxHeartbeats 2000000 in
theorem ee_h15.snd : ee_Snd ee_h15 := by
  intro X Y oc own cc ini dm bc bs Q e st sts F ho hi hd he hpc h k
  obtain ⟨p, l, en, R, s, m, args, below, meth, c⟩ := X
  obtain ⟨A, D, dA, ex, x0, a0, sv0, nL⟩ := Y
  obtain ⟨pc, lo, stk, w, iv, kc, ks, sv⟩ := st
  obtain ⟨pc', ins, len, hn, ea, eb, ez, qa, qb, qc⟩ := e
  obtain ⟨hx, hb, hml, hown, hts, hK, hA, hini, hR, hE⟩ := F
  have hpc : pc = pc' := hpc
  subst hpc
  have hd : decode cc pc = .ok (ins, len) := hd
  intro ns as H lc ls vs C
  obtain ⟨c1, c2, c3, c4, c5, c6⟩ := C
  show W p l en R s m args below meth c H lc kc ks Q (F0 m pc ls vs)
  match stk, vs, c4, h with
  | [], _, _, h => exact ee_no h
  | [_], _, _, h => exact ee_no h
  | y :: x :: stk, [], c4, h => exact c4.elim
  | y :: x :: stk, [_], c4, h => exact c4.2.elim
  | x :: y :: stk, vx :: vy :: vs, ⟨cx, cy, c4⟩, h =>
    cases y with
    | ref j =>
      obtain ⟨a, rfl⟩ := ee_v.ref cy
      cases ins with
      | putfield i =>
        replace h : (match w[j]? with
          | some (.inl (ci, fs)) => if (j < 1000000 ∧ ci = qa) ∧ qb < fs.length ∧ ee_fit qc iv x = true then ee_nx len 3 [(pc + 3, lo, stk, w.set j (.inl (ci, fs.set qb x)), iv, kc, ks, sv)] else none
          | _ => none) = some sts := h
        have hee : (match ee_FL[ea]? with
          | some q => decide (q.1 = oc) && (decide (q.2.1 = i) && ((decide (q.2.2.1 = qa) && (decide (q.2.2.2.1 = qb) && decide (q.2.2.2.2.2 = qc))) && (!ee_ini (pc, ClassFile.Instr.putfield i, len, hn, ea, eb, ez, qa, qb, qc) || decide (q.2.2.1 = oc))))
          | none => false) = true := he
        cases hq : ee_FL[ea]? with
        | none => rw [hq] at hee; cases hee
        | some q =>
          rw [hq] at hee
          simp only at hee
          obtain ⟨u1, u2⟩ := ee_and hee
          obtain ⟨u3, u4⟩ := ee_and u2
          obtain ⟨u5, e3⟩ := ee_and u4
          obtain ⟨u6, u7⟩ := ee_and u5
          obtain ⟨u8, u9⟩ := ee_and u7
          have e1 := of_decide_eq_true u1
          have e2 := of_decide_eq_true u3
          have eqa := of_decide_eq_true u6
          have eqb := of_decide_eq_true u8
          have eqc := of_decide_eq_true u9
          obtain ⟨r, f1, f2, f3, ty, f4, f5⟩ := ee_FLok q (List.mem_of_getElem? hq)
          rw [e1, ee_own_ow ho, e2] at f3
          rw [eqa] at f1
          rw [eqb] at f2 f3 f4
          rw [eqc] at f5
          split at h
          · rename_i ci fs hw
            by_cases hc : (j < 1000000 ∧ ci = qa) ∧ qb < fs.length ∧ ee_fit qc iv x = true
            · rw [if_pos hc] at h
              obtain ⟨rfl, rfl⟩ := ee_nx_some h
              obtain ⟨⟨hc1, hc2⟩, hc3, hc4⟩ := hc
              obtain ⟨ws, c6w, hP, hD, hS⟩ := c6
              obtain ⟨ec, g1, vs1, rfl, g3⟩ := c6w.at hw (cy.at hc1)
              subst hc2
              obtain ⟨n1, n2⟩ := ee_fit.ok c1 cx hc4 f5
              have hlen : qb < vs1.length := by rw [← g3.len]; exact hc3
              obtain ⟨C, T, N⟩ := r
              obtain ⟨k1, k2, ty0, k3⟩ := ee_kd _ _ f1
              have next : ∀ (H1 : Heap) (lc1 : List Loc), va_P D vwCl (ws.set j (a, .inr (ci, vs1.set qb vx))) H1 → va_D A (ws.set j (a, .inr (ci, vs1.set qb vx))) → va_S A s.heap H1 lc1 → W p l en R s m args below meth c H1 lc1 kc ks Q (F0 m (pc + 3) ls vs) := fun H1 lc1 hP1 hD1 hS1 =>
                k _ List.mem_cons_self ns as H1 lc1 ls _ ⟨c1, c2, c3, c4, c5, _, c6w.set g1 ⟨_, rfl, g3.set cx⟩, hP1, hD1, hS1⟩
              by_cases hf : (T qb).2.2.2 = true
              · have hi2 : ee_ini (pc, ClassFile.Instr.putfield i, 3, hn, ea, eb, ez, ci, qb, qc) = true := by
                  show (match ee_FL[ea]? with
                    | some q => (match vwCl[q.2.2.1]? with
                      | some r => (r.2.1 q.2.2.2.1).2.2.2
                      | none => false)
                    | none => false) = true
                  rw [hq]
                  simp only
                  rw [eqa, f1, eqb]
                  exact hf
                have hoc : ci = oc := by
                  rw [hi2] at e3
                  rw [← eqa]
                  exact of_decide_eq_true (by simpa using e3)
                have hdc : (T qb).1 = own := by
                  rw [(k3 _ f2).2]
                  have := ee_okn _ _ f1
                  rw [hoc, ho] at this
                  exact (Option.some.inj this).symm
                exact va_putF (C := C) (T := T) (N := N) hx hb hts k1 ty0 (fun z hz => (k3 z hz).1) k2 hown hK hP hD hS j g1 f1 qb f2 (hts _ f3) (fun _ z => z) hf (hini (hi hi2)) hdc f4 n1 n2 hlen hd next
              · exact va_put (C := C) (T := T) (N := N) hx hb hts k1 ty0 (fun z hz => (k3 z hz).1) k2 hown hK hP hD hS j g1 f1 qb f2 (hts _ f3) (fun _ z => z) (by simpa using hf) f4 n1 n2 hlen hd next
            · rw [if_neg hc] at h
              exact ee_no h
          · exact ee_no h
      | _ => exact ee_no h
    | _ => exact ee_no h
/-- an index that is known and in its row -/
def ee_ix (iv : ee_iv) (i : Value) (n : Nat) : Option Nat := match ee_cn iv i with
  | some z => if 0 ≤ z.toInt ∧ z.toInt < (n : Int) then some z.toInt.toNat else none
  | none => none
theorem ee_ix.ok {ns : List Int32} {as : List Nat} {ex : Nat → Nat} {iv : ee_iv} {i v : Value} {n j : Nat} (hk : ee_ok ns iv) (hv : ee_v ns as ex i v) (h : ee_ix iv i n = some j) : ∃ z : Int32, v = .int z ∧ z.toNatClampNeg = j ∧ j < n ∧ vp_in z n := by
  unfold ee_ix at h
  cases hq : ee_cn iv i with
  | none => rw [hq] at h; cases h
  | some z =>
    rw [hq] at h
    simp only at h
    by_cases hc : 0 ≤ z.toInt ∧ z.toInt < (n : Int)
    · rw [if_pos hc] at h
      cases h
      exact ⟨z, ee_cn.int hk hv hq, rfl, by omega, vp_in_iff.mpr hc⟩
    · rw [if_neg hc] at h
      cases h
/-- an index in its row -/
def ee_ib (iv : ee_iv) (i : Value) (n : Nat) : Bool := match ee_it iv i with
  | some (a, b) => decide (0 ≤ a) && decide (b < (n : Int))
  | none => false
theorem ee_ib.ok {ns : List Int32} {as : List Nat} {ex : Nat → Nat} {iv : ee_iv} {i v : Value} {n : Nat} (hk : ee_ok ns iv) (hv : ee_v ns as ex i v) (h : ee_ib iv i n = true) : ∃ z : Int32, v = .int z ∧ vp_in z n := by
  unfold ee_ib at h
  cases hq : ee_it iv i with
  | none => rw [hq] at h; cases h
  | some q =>
    obtain ⟨a, b⟩ := q
    rw [hq] at h
    obtain ⟨e1, e2⟩ := ee_and h
    have e1 := of_decide_eq_true e1
    have e2 := of_decide_eq_true e2
    obtain ⟨z, rfl, z1, z2⟩ := ee_it.int hk hv hq
    exact ⟨z, rfl, vp_in_iff.mpr ⟨by omega, by omega⟩⟩
end
section
/-! handlers: arrays read -/
def ee_h16 : ee_H := fun _ _ _ e st => match st with
  | (pc, lo, .ref k :: stk, w, iv, kc, ks, sv) => (match e.2.1 with
      | .arraylength => if 1000100 ≤ k ∧ k < 1000102 then ee_nx e.2.2.1 1 [(pc + 1, lo, .int (Int32.ofNat (ee_len.getD (k - 1000100) 0)) :: stk, w, iv, kc, ks, sv)] else (match w[k]? with
        | some (.inr (_, n, _, _, _)) => if k < 1000000 then ee_nx e.2.2.1 1 [(pc + 1, lo, .int (Int32.ofNat n) :: stk, w, iv, kc, ks, sv)] else none
        | _ => none)
      | _ => none)
  | _ => none
/-- an array's cell, whatever its kind -/
theorem ee_c.arr {ns : List Int32} {as : List Nat} {ex : Nat → Nat} {dA : Nat → ClassId} {t n P : Nat} {sg : List (Nat × Int × Int)} {ov : List (Nat × Value)} {e : va_E} (h : ee_c ns as ex dA (.inr (t, n, P, sg, ov)) e) : ∃ t', t' < 4 ∧ ∃ y : vp_A, e = .inl (dA t', y) ∧ y.1 = n := by
  unfold ee_c at h
  by_cases ht : t = 3
  · simp only [ht, if_true] at h
    obtain ⟨f, rfl⟩ := h
    exact ⟨3, by omega, _, rfl, rfl⟩
  · simp only [ht, if_false] at h
    by_cases h4 : t = 4
    · simp only [h4, if_true] at h
      obtain ⟨f, rfl, -⟩ := h
      exact ⟨0, by omega, _, rfl, rfl⟩
    · simp only [h4, if_false] at h
      obtain ⟨h0, f, rfl, -⟩ := h
      exact ⟨t, by omega, _, rfl, rfl⟩
theorem ee_c.ints {ns : List Int32} {as : List Nat} {ex : Nat → Nat} {dA : Nat → ClassId} {t n P : Nat} {sg : List (Nat × Int × Int)} {ov : List (Nat × Value)} {e : va_E} (h : ee_c ns as ex dA (.inr (t, n, P, sg, ov)) e) (ht : t < 3) : ∃ f : Nat → Int32, e = .inl (dA t, n, .inl f) ∧ ∀ j, j < n → ee_el ns as ex P sg ov j (f j) := by
  unfold ee_c at h
  simp only [show ¬ t = 3 by omega, show ¬ t = 4 by omega, if_false] at h
  obtain ⟨-, f, h1, h2⟩ := h
  exact ⟨f, h1, h2⟩
theorem ee_c.mk {ns : List Int32} {as : List Nat} {ex : Nat → Nat} {dA : Nat → ClassId} {t n P : Nat} {sg : List (Nat × Int × Int)} {ov : List (Nat × Value)} {f : Nat → Int32} (ht : t < 3) (h : ∀ j, j < n → ee_el ns as ex P sg ov j (f j)) : ee_c ns as ex dA (.inr (t, n, P, sg, ov)) (.inl (dA t, n, .inl f)) := by
  unfold ee_c
  simp only [show ¬ t = 3 by omega, show ¬ t = 4 by omega, if_false]
  exact ⟨ht, f, rfl, h⟩
theorem ee_c.lngs {ns : List Int32} {as : List Nat} {ex : Nat → Nat} {dA : Nat → ClassId} {n P : Nat} {sg : List (Nat × Int × Int)} {ov : List (Nat × Value)} {e : va_E} (h : ee_c ns as ex dA (.inr (3, n, P, sg, ov)) e) : ∃ f : Nat → Int64, e = .inl (dA 3, n, .inr (.inl f)) := by
  unfold ee_c at h
  simp only [if_true] at h
  exact h
theorem ee_c.mkl {ns : List Int32} {as : List Nat} {ex : Nat → Nat} {dA : Nat → ClassId} {n P : Nat} {sg : List (Nat × Int × Int)} {ov : List (Nat × Value)} {f : Nat → Int64} : ee_c ns as ex dA (.inr (3, n, P, sg, ov)) (.inl (dA 3, n, .inr (.inl f))) := by
  unfold ee_c
  simp only [if_true]
  exact ⟨f, rfl⟩
theorem ee_tys_at {dA : Nat → ClassId} {t : Nat} (h : t < 4) : ∃ ty, (ee_tys dA)[t]? = some (dA t, ty) := by
  match t, h with
  | 0, _ => exact ⟨_, rfl⟩
  | 1, _ => exact ⟨_, rfl⟩
  | 2, _ => exact ⟨_, rfl⟩
  | 3, _ => exact ⟨_, rfl⟩
set_option maxHeartbeats 2000000 in
theorem ee_h16.snd : ee_Snd ee_h16 := by
  intro X Y oc own cc ini dm bc bs Q e st sts F ho hi hd he hpc h k
  obtain ⟨p, l, en, R, s, m, args, below, meth, c⟩ := X
  obtain ⟨A, D, dA, ex, x0, a0, sv0, nL⟩ := Y
  obtain ⟨pc, lo, stk, w, iv, kc, ks, sv⟩ := st
  obtain ⟨pc', ins, len, hn, ea, eb, ez, qa, qb, qc⟩ := e
  obtain ⟨hx, hb, hml, hown, hts, hK, hA, hini, hR, hE⟩ := F
  have hpc : pc = pc' := hpc
  subst hpc
  have hd : decode cc pc = .ok (ins, len) := hd
  intro ns as H lc ls vs C
  obtain ⟨c1, c2, c3, c4, c5, c6⟩ := C
  show W p l en R s m args below meth c H lc kc ks Q (F0 m pc ls vs)
  cases stk with
  | nil => exact ee_no h
  | cons x stk =>
    cases vs with
    | nil => exact c4.elim
    | cons v vs =>
      obtain ⟨c4v, c4⟩ := c4
      cases x with
      | ref j =>
        obtain ⟨a, rfl⟩ := ee_v.ref c4v
        cases ins with
        | arraylength =>
          replace h : (if 1000100 ≤ j ∧ j < 1000102 then ee_nx len 1 [(pc + 1, lo, .int (Int32.ofNat (ee_len.getD (j - 1000100) 0)) :: stk, w, iv, kc, ks, sv)] else (match w[j]? with
            | some (.inr (_, n, _, _, _)) => if j < 1000000 then ee_nx len 1 [(pc + 1, lo, .int (Int32.ofNat n) :: stk, w, iv, kc, ks, sv)] else none
            | _ => none)) = some sts := h
          obtain ⟨ws, c6w, hP, hD, hS⟩ := c6
          by_cases h2 : 1000100 ≤ j ∧ j < 1000102
          · rw [if_pos h2] at h
            obtain ⟨rfl, rfl⟩ := ee_nx_some h
            obtain ⟨h21, h22⟩ := h2
            have ha := c4v.out (Nat.not_lt.mpr (Nat.le_trans (by decide) h21))
            subst ha
            obtain ⟨i0, hi0, rfl⟩ : ∃ i0, i0 < 2 ∧ j = 1000100 + i0 := ⟨j - 1000100, Nat.sub_lt_left_of_lt_add h21 h22, (Nat.add_sub_of_le h21).symm⟩
            obtain ⟨-, -, -, g4⟩ := hE.1.1 i0 hi0
            rw [Nat.add_sub_cancel_left] at k
            exact va_tlen hx hb g4 hS rfl hd (k _ List.mem_cons_self ns as H lc ls _ ⟨c1, c2, c3, ⟨rfl, c4⟩, c5, ws, c6w, hP, hD, hS⟩)
          · rw [if_neg h2] at h
            split at h
            · rename_i t n a1 b1 ov hw
              by_cases h3 : j < 1000000
              · rw [if_pos h3] at h
                obtain ⟨rfl, rfl⟩ := ee_nx_some h
                obtain ⟨ec, g1, g2⟩ := c6w.at hw (c4v.at h3)
                obtain ⟨t', t4, y, rfl, g3⟩ := g2.arr
                obtain ⟨ty, hty⟩ := ee_tys_at (dA := dA) t4
                exact va_alen hx hb hK hP j t' g1 hty (by rw [g3]) hd (k _ List.mem_cons_self ns as H lc ls _ ⟨c1, c2, c3, ⟨rfl, c4⟩, c5, ws, c6w, hP, hD, hS⟩)
              · rw [if_neg h3] at h
                exact ee_no h
            · exact ee_no h
        | _ => exact ee_no h
      | _ => exact ee_no h
end
section
/-! handlers: arrays read -/
def ee_sg1 (sg : List (Nat × Int × Int)) (j : Nat) : Option (Int × Int) := match sg.find? (fun s => Nat.blt j s.1) with
  | some s => some s.2
  | none => none
def ee_rj (P j : Nat) : Nat := if P = 0 then j else j % P
theorem ee_seg_eq (P : Nat) (sg : List (Nat × Int × Int)) (j : Nat) : ee_seg P sg j = ee_sg1 sg (ee_rj P j) := rfl
def ee_bd (q : Option (Int × Int)) (z : Int) : Prop := match q with
  | some q => q.1 ≤ z ∧ z ≤ q.2
  | none => True
theorem ee_sgp_eq (P : Nat) (sg : List (Nat × Int × Int)) (j : Nat) (z : Int32) : ee_sgp P sg j z ↔ ee_bd (ee_sg1 sg (ee_rj P j)) z.toInt := Iff.rfl
/-- bounds of the elements from a to b -/
def ee_jn : List (Nat × Int × Int) → Nat → Int → Int → Option (Int × Int)
  | [], st, _, b => if (st : Int) ≤ b then some (-2147483648, 2147483647) else none
  | (u, lo, hi) :: r, st, a, b => match ee_jn r u a b with
    | none => if (st : Int) ≤ b ∧ a < u then some (lo, hi) else none
    | some q => if (st : Int) ≤ b ∧ a < u then some (ee_mn lo q.1, ee_mx hi q.2) else some q
theorem ee_mn_le {a b : Int} : ee_mn a b ≤ a ∧ ee_mn a b ≤ b := by unfold ee_mn; split <;> omega
theorem ee_le_mx {a b : Int} : a ≤ ee_mx a b ∧ b ≤ ee_mx a b := by unfold ee_mx; split <;> omega
theorem ee_sg1_cons (u : Nat) (q : Int × Int) (r : List (Nat × Int × Int)) (j : Nat) : ee_sg1 ((u, q) :: r) j = if j < u then some q else ee_sg1 r j := by
  unfold ee_sg1
  rw [List.find?_cons]
  by_cases h : j < u
  · have : Nat.blt j u = true := by rw [Nat.blt_eq]; exact h
    simp only [this, h, if_true]
  · have : Nat.blt j u = false := by
      cases hb : Nat.blt j u with
      | false => rfl
      | true => exact absurd (Nat.blt_eq.mp hb) h
    simp only [this, h, if_false]
theorem ee_jn.ok {a b : Int} {j : Nat} {z : Int} (h1 : a ≤ j) (h2 : (j : Int) ≤ b) (hz : -2147483648 ≤ z ∧ z ≤ 2147483647) : ∀ {sg : List (Nat × Int × Int)} {st : Nat}, st ≤ j → ee_bd (ee_sg1 sg j) z → ∃ q, ee_jn sg st a b = some q ∧ q.1 ≤ z ∧ z ≤ q.2
  | [], st, hs, _ => ⟨(-2147483648, 2147483647), by unfold ee_jn; rw [if_pos (by omega)], hz⟩
  | (u, lo, hi) :: r, st, hs, hb => by
    rw [ee_sg1_cons] at hb
    unfold ee_jn
    by_cases hj : j < u
    · rw [if_pos hj] at hb
      have hb : lo ≤ z ∧ z ≤ hi := hb
      have hc : (st : Int) ≤ b ∧ a < u := ⟨by omega, by omega⟩
      cases ee_jn r u a b with
      | none => exact ⟨(lo, hi), by simp only [hc, and_self, if_true], hb⟩
      | some q =>
        refine ⟨(ee_mn lo q.1, ee_mx hi q.2), by simp only [hc, and_self, if_true], ?_⟩
        have m1 := ee_mn_le (a := lo) (b := q.1)
        have m2 := ee_le_mx (a := hi) (b := q.2)
        exact ⟨by show ee_mn lo q.1 ≤ z; omega, by show z ≤ ee_mx hi q.2; omega⟩
    · rw [if_neg hj] at hb
      obtain ⟨q, g1, g2, g3⟩ := ee_jn.ok h1 h2 hz (sg := r) (st := u) (by omega) hb
      rw [g1]
      simp only
      by_cases hc : (st : Int) ≤ b ∧ a < u
      · rw [if_pos hc]
        have m1 := ee_mn_le (a := lo) (b := q.1)
        have m2 := ee_le_mx (a := hi) (b := q.2)
        exact ⟨_, rfl, by show ee_mn lo q.1 ≤ z; omega, by show z ≤ ee_mx hi q.2; omega⟩
      · rw [if_neg hc]
        exact ⟨q, rfl, g2, g3⟩
/-- may a number between u and v be put there? -/
def ee_wk : List (Nat × Int × Int) → Nat → Int → Int → Int → Int → Bool
  | [], _, _, _, _, _ => true
  | (t, lo, hi) :: r, st, a, b, u, v => (!decide ((st : Int) ≤ b ∧ a < t) || (decide (lo ≤ u) && decide (v ≤ hi))) && ee_wk r t a b u v
theorem ee_wk.ok {a b u v : Int} {j : Nat} {z : Int} (h1 : a ≤ j) (h2 : (j : Int) ≤ b) (h3 : u ≤ z) (h4 : z ≤ v) : ∀ {sg : List (Nat × Int × Int)} {st : Nat}, st ≤ j → ee_wk sg st a b u v = true → ee_bd (ee_sg1 sg j) z
  | [], _, _, _ => trivial
  | (t, lo, hi) :: r, st, hs, h => by
    unfold ee_wk at h
    obtain ⟨g1, g2⟩ := ee_and h
    rw [ee_sg1_cons]
    by_cases hj : j < t
    · rw [if_pos hj]
      have hc : (st : Int) ≤ b ∧ a < t := ⟨by omega, by omega⟩
      rw [decide_eq_true hc] at g1
      obtain ⟨e1, e2⟩ := ee_and (show (decide (lo ≤ u) && decide (v ≤ hi)) = true by simpa using g1)
      have e1 := of_decide_eq_true e1
      have e2 := of_decide_eq_true e2
      exact ⟨by show lo ≤ z; omega, by show z ≤ hi; omega⟩
    · rw [if_neg hj]
      exact ee_wk.ok h1 h2 h3 h4 (by omega) g2
/-- the rest by a period, if it is known -/
def ee_rs1 (iv : ee_iv) (i : Value) (P : Nat) : Option Nat := match i with
  | .int c => if 0 ≤ c.toInt then some (c.toInt.toNat % P) else none
  | .retAddr k => (match ee_at1 iv k with
    | some q => (match q.2.2.2.find? (fun f => Nat.beq f.1 4 && Nat.beq f.2.1 P) with
      | some f => if 0 ≤ f.2.2 then some f.2.2.toNat else none
      | none => none)
    | none => none)
  | _ => none
theorem ee_rs1.ok {ns : List Int32} {as : List Nat} {ex : Nat → Nat} {iv : ee_iv} {i : Value} {P r : Nat} {z : Int32} (hk : ee_ok ns iv) (hv : ee_v ns as ex i (.int z)) (hz : 0 ≤ z.toInt) (h : ee_rs1 iv i P = some r) : z.toInt.toNat % P = r := by
  cases i with
  | int c =>
    cases (show Value.int z = Value.int c from hv)
    unfold ee_rs1 at h
    simp only at h
    rw [if_pos hz] at h
    exact Option.some.inj h
  | retAddr k =>
    unfold ee_rs1 at h
    simp only at h
    cases hq : ee_at1 iv k with
    | none => rw [hq] at h; cases h
    | some q =>
      rw [hq] at h
      simp only at h
      cases hf : q.2.2.2.find? (fun f => Nat.beq f.1 4 && Nat.beq f.2.1 P) with
      | none => rw [hf] at h; cases h
      | some f =>
        rw [hf] at h
        simp only at h
        obtain ⟨y, g1, -, -, g4⟩ := ee_at1.ok hk hq
        rw [hv.sy] at g1
        cases g1
        have e4 : (Nat.beq f.1 4 && Nat.beq f.2.1 P) = true := List.find?_some (p := fun f : ee_fa => Nat.beq f.1 4 && Nat.beq f.2.1 P) hf
        obtain ⟨e4, e5⟩ := ee_and e4
        have e4 := Nat.eq_of_beq_eq_true e4
        have e5 := Nat.eq_of_beq_eq_true e5
        have g5 := g4 f (List.mem_of_find?_eq_some hf)
        obtain ⟨kd, m, s⟩ := f
        have e4 : kd = 4 := e4
        have e5 : m = P := e5
        subst e4
        subst e5
        have g5 : z.toInt % (m : Int) = s := g5
        by_cases hs : 0 ≤ s
        · rw [if_pos hs] at h
          have h : s.toNat = r := Option.some.inj h
          show z.toInt.toNat % m = r
          have : ((z.toInt.toNat % m : Nat) : Int) = s := by rw [Int.natCast_emod, show ((z.toInt.toNat : Nat) : Int) = z.toInt by omega]; exact g5
          omega
        · rw [if_neg hs] at h; cases h
  | _ => cases h
/-- which elements of the period an index may mean -/
def ee_wh (iv : ee_iv) (i : Value) (P : Nat) (a b : Int) : Int × Int := if P = 0 then (a, b) else (match ee_rs1 iv i P with
  | some r => ((r : Int), (r : Int))
  | none => (0, (P : Int) - 1))
theorem ee_wh.ok {ns : List Int32} {as : List Nat} {ex : Nat → Nat} {iv : ee_iv} {i : Value} {P : Nat} {a b : Int} {z : Int32} (hk : ee_ok ns iv) (hv : ee_v ns as ex i (.int z)) (hz : 0 ≤ z.toInt) (h1 : a ≤ z.toInt) (h2 : z.toInt ≤ b) : (ee_wh iv i P a b).1 ≤ (ee_rj P z.toInt.toNat : Nat) ∧ ((ee_rj P z.toInt.toNat : Nat) : Int) ≤ (ee_wh iv i P a b).2 := by
  unfold ee_wh ee_rj
  by_cases hP : P = 0
  · rw [if_pos hP, if_pos hP]
    exact ⟨by show a ≤ _; omega, by show _ ≤ b; omega⟩
  · rw [if_neg hP, if_neg hP]
    cases hr : ee_rs1 iv i P with
    | none =>
      have := Nat.mod_lt z.toInt.toNat (show 0 < P by omega)
      exact ⟨by show (0 : Int) ≤ _; omega, by show _ ≤ (P : Int) - 1; omega⟩
    | some r =>
      rw [ee_rs1.ok hk hv hz hr]
      exact ⟨Int.le_refl _, Int.le_refl _⟩
/-- the named elements from a to b, joined to q -/
def ee_jo (iv : ee_iv) (a b : Int) : List (Nat × Value) → Option (Int × Int) → Option (Option (Int × Int))
  | [], q => some q
  | (j, x) :: l, q => match ee_jo iv a b l q with
    | none => none
    | some q => if a ≤ (j : Int) ∧ (j : Int) ≤ b then (match ee_it iv x with
        | none => none
        | some r => (match q with
          | none => some (some r)
          | some s => some (some (ee_mn r.1 s.1, ee_mx r.2 s.2)))) else some q
theorem ee_jo.ok {iv : ee_iv} {a b z : Int} : ∀ {ov : List (Nat × Value)} {q q' : Option (Int × Int)}, ee_jo iv a b ov q = some q' → (∃ r, q = some r ∧ r.1 ≤ z ∧ z ≤ r.2) ∨ (∃ (j : Nat) (x : Value) (r : Int × Int), (j, x) ∈ ov ∧ (a ≤ (j : Int) ∧ (j : Int) ≤ b) ∧ ee_it iv x = some r ∧ r.1 ≤ z ∧ z ≤ r.2) → ∃ r, q' = some r ∧ r.1 ≤ z ∧ z ≤ r.2
  | [], q, q', h, hz => by
    cases h
    rcases hz with h | ⟨j, x, r, h, -⟩
    · exact h
    · cases h
  | (j, x) :: l, q, q', h, hz => by
    unfold ee_jo at h
    cases h1 : ee_jo iv a b l q with
    | none => rw [h1] at h; cases h
    | some q1 =>
      rw [h1] at h
      simp only at h
      have old : ((∃ r, q = some r ∧ r.1 ≤ z ∧ z ≤ r.2) ∨ (∃ (j : Nat) (x : Value) (r : Int × Int), (j, x) ∈ l ∧ (a ≤ (j : Int) ∧ (j : Int) ≤ b) ∧ ee_it iv x = some r ∧ r.1 ≤ z ∧ z ≤ r.2)) → ∃ r, q1 = some r ∧ r.1 ≤ z ∧ z ≤ r.2 := fun g => ee_jo.ok h1 g
      by_cases hc : a ≤ (j : Int) ∧ (j : Int) ≤ b
      · rw [if_pos hc] at h
        cases hx : ee_it iv x with
        | none => rw [hx] at h; cases h
        | some r =>
          rw [hx] at h
          simp only at h
          have new : (∃ r, q1 = some r ∧ r.1 ≤ z ∧ z ≤ r.2) ∨ (r.1 ≤ z ∧ z ≤ r.2) := by
            rcases hz with g | ⟨j2, x2, r2, g1, g2, g3, g4⟩
            · exact Or.inl (old (Or.inl g))
            · rcases List.mem_cons.mp g1 with g1 | g1
              · cases g1
                rw [hx] at g3
                cases g3
                exact Or.inr g4
              · exact Or.inl (old (Or.inr ⟨j2, x2, r2, g1, g2, g3, g4⟩))
          cases q1 with
          | none =>
            cases h
            rcases new with ⟨r, g, -⟩ | g
            · cases g
            · exact ⟨r, rfl, g⟩
          | some s =>
            cases h
            have m1 := ee_mn_le (a := r.1) (b := s.1)
            have m2 := ee_le_mx (a := r.2) (b := s.2)
            refine ⟨_, rfl, ?_⟩
            rcases new with ⟨r', g, g2⟩ | g
            · cases g
              exact ⟨by show ee_mn r.1 s.1 ≤ z; omega, by show z ≤ ee_mx r.2 s.2; omega⟩
            · exact ⟨by show ee_mn r.1 s.1 ≤ z; omega, by show z ≤ ee_mx r.2 s.2; omega⟩
      · rw [if_neg hc] at h
        cases h
        refine old ?_
        rcases hz with g | ⟨j2, x2, r2, g1, g2, g3, g4⟩
        · exact Or.inl g
        · rcases List.mem_cons.mp g1 with g1 | g1
          · cases g1
            exact absurd g2 hc
          · exact Or.inr ⟨j2, x2, r2, g1, g2, g3, g4⟩
/-- an element read: its value, the symbols then, the named elements if there is one more -/
def ee_rd (iv : ee_iv) (n P : Nat) (sg : List (Nat × Int × Int)) (ov : List (Nat × Value)) (i : Value) : Option (Value × ee_iv × Option (List (Nat × Value))) := match ee_ix iv i n with
  | some j => (match ov.lookup j with
    | some x => some (x, iv, none)
    | none => (match ee_sg1 sg (ee_rj P j) with
      | some q => if q.1 = q.2 then some (.int (Int32.ofInt q.1), iv, none) else some (.retAddr iv.1, ee_ps iv q.1 q.2 [], some ((j, .retAddr iv.1) :: ov))
      | none => some (.retAddr iv.1, ee_ps iv (-2147483648) 2147483647 [], some ((j, .retAddr iv.1) :: ov))))
  | none => (match ee_it iv i with
    | some (a, b) => if 0 ≤ a ∧ b < (n : Int) then (match ee_jo iv a b ov (ee_jn sg 0 (ee_wh iv i P a b).1 (ee_wh iv i P a b).2) with
        | some (some q) => some (.retAddr iv.1, ee_ps iv q.1 q.2 [], none)
        | _ => none) else none
    | none => none)
theorem ee_mem_lookup {ov : List (Nat × Value)} {j : Nat} {x : Value} (h : ov.lookup j = some x) : (j, x) ∈ ov := by
  induction ov with
  | nil => cases h
  | cons p l ih =>
    obtain ⟨a, y⟩ := p
    rw [List.lookup_cons] at h
    cases hb : j == a with
    | true =>
      rw [hb] at h
      cases h
      rw [show j = a by simpa using hb]
      exact List.mem_cons_self
    | false =>
      rw [hb] at h
      exact List.mem_cons_of_mem _ (ih h)
theorem ee_rd.ok {ns : List Int32} {as : List Nat} {ex : Nat → Nat} {iv iv' : ee_iv} {n P : Nat} {sg : List (Nat × Int × Int)} {ov : List (Nat × Value)} {i vi x : Value} {o : Option (List (Nat × Value))} {f : Nat → Int32} (hk : ee_ok ns iv) (hi : ee_v ns as ex i vi) (hf : ∀ j, j < n → ee_el ns as ex P sg ov j (f j)) (h : ee_rd iv n P sg ov i = some (x, iv', o)) :
    ∃ q : Int32, vi = .int q ∧ vp_in q n ∧ ((iv' = iv ∧ o = none ∧ ee_v ns as ex x (.int (f q.toNatClampNeg))) ∨ ∃ lo hi : Int, x = .retAddr iv.1 ∧ iv' = ee_ps iv lo hi [] ∧ lo ≤ (f q.toNatClampNeg).toInt ∧ (f q.toNatClampNeg).toInt ≤ hi ∧ (o = none ∨ o = some ((q.toNatClampNeg, x) :: ov))) := by
  unfold ee_rd at h
  cases hx : ee_ix iv i n with
  | some j =>
    rw [hx] at h
    simp only at h
    obtain ⟨q, rfl, f1, f2, f3⟩ := ee_ix.ok hk hi hx
    refine ⟨q, rfl, f3, ?_⟩
    have hel := hf j f2
    rw [f1]
    unfold ee_el at hel
    cases hl : ov.lookup j with
    | some y =>
      rw [hl] at h hel
      cases h
      exact Or.inl ⟨rfl, rfl, hel⟩
    | none =>
      rw [hl] at h hel
      simp only at h hel
      rw [ee_sgp_eq] at hel
      cases hs : ee_sg1 sg (ee_rj P j) with
      | none =>
        rw [hs] at h
        cases h
        exact Or.inr ⟨_, _, rfl, rfl, (ee_rng _).1, (ee_rng _).2, Or.inr rfl⟩
      | some r =>
        rw [hs] at h hel
        have hel : r.1 ≤ (f j).toInt ∧ (f j).toInt ≤ r.2 := hel
        simp only at h
        by_cases hr : r.1 = r.2
        · rw [if_pos hr] at h
          cases h
          refine Or.inl ⟨rfl, rfl, ?_⟩
          show Value.int (f j) = Value.int (Int32.ofInt r.1)
          rw [← show (f j).toInt = r.1 by omega, Int32.ofInt_toInt]
        · rw [if_neg hr] at h
          cases h
          exact Or.inr ⟨_, _, rfl, rfl, hel.1, hel.2, Or.inr rfl⟩
  | none =>
    rw [hx] at h
    simp only at h
    cases ht : ee_it iv i with
    | none => rw [ht] at h; cases h
    | some q =>
      obtain ⟨a, b⟩ := q
      rw [ht] at h
      simp only at h
      by_cases hc : 0 ≤ a ∧ b < (n : Int)
      · rw [if_pos hc] at h
        obtain ⟨z, rfl, z1, z2⟩ := ee_it.int hk hi ht
        refine ⟨z, rfl, vp_in_iff.mpr ⟨by omega, by omega⟩, ?_⟩
        have hz : z.toNatClampNeg = z.toInt.toNat := rfl
        rw [hz]
        split at h
        · rename_i r hr
          cases h
          have hel := hf z.toInt.toNat (by omega)
          have w := ee_wh.ok (P := P) hk hi (by omega) z1 z2
          have key : ∃ r', some r = some r' ∧ r'.1 ≤ (f z.toInt.toNat).toInt ∧ (f z.toInt.toNat).toInt ≤ r'.2 := by
            refine ee_jo.ok hr ?_
            unfold ee_el at hel
            cases hl : ov.lookup z.toInt.toNat with
            | some y =>
              rw [hl] at hel
              have hm := ee_mem_lookup hl
              by_cases hyi : ∃ s, ee_it iv y = some s
              · obtain ⟨s, hs⟩ := hyi
                obtain ⟨u, e1, e2, e3⟩ := ee_it.int (a := s.1) (b := s.2) hk hel hs
                cases e1
                exact Or.inr ⟨_, y, s, hm, ⟨by omega, by omega⟩, hs, e2, e3⟩
              · exfalso
                have bad : ∀ {l : List (Nat × Value)} {q0 q1 : Option (Int × Int)}, ee_jo iv a b l q0 = some q1 → (z.toInt.toNat, y) ∈ l → False := by
                  intro l
                  induction l with
                  | nil => intro q0 q1 _ hm; cases hm
                  | cons c l ih =>
                    intro q0 q1 hj hm
                    obtain ⟨j, x⟩ := c
                    unfold ee_jo at hj
                    cases h1 : ee_jo iv a b l q0 with
                    | none => rw [h1] at hj; cases hj
                    | some q2 =>
                      rcases List.mem_cons.mp hm with e | hm
                      · cases e
                        rw [h1] at hj
                        simp only at hj
                        rw [if_pos ⟨by omega, by omega⟩] at hj
                        cases hy2 : ee_it iv y with
                        | none => rw [hy2] at hj; cases hj
                        | some s => exact hyi ⟨s, hy2⟩
                      · exact ih h1 hm
                exact bad hr hm
            | none =>
              rw [hl] at hel
              simp only at hel
              rw [ee_sgp_eq] at hel
              exact Or.inl (ee_jn.ok w.1 w.2 (ee_rng _) (Nat.zero_le _) hel)
          obtain ⟨r', e, e1, e2⟩ := key
          cases e
          exact Or.inr ⟨_, _, rfl, rfl, e1, e2, Or.inl rfl⟩
        · cases h
      · rw [if_neg hc] at h; cases h
theorem ee_el.more {ns : List Int32} {as : List Nat} {ex : Nat → Nat} {P : Nat} {sg : List (Nat × Int × Int)} {ov : List (Nat × Value)} {f : Nat → Int32} {n j : Nat} {x : Value} (h : ∀ i, i < n → ee_el ns as ex P sg ov i (f i)) (hx : ee_v ns as ex x (.int (f j))) : ∀ i, i < n → ee_el ns as ex P sg ((j, x) :: ov) i (f i) := by
  intro i hi
  unfold ee_el
  rw [List.lookup_cons]
  by_cases e : i = j
  · subst e
    simp only [beq_self_eq_true]
    exact hx
  · have e' : (i == j) = false := by simpa using e
    rw [e']
    exact h i hi
def ee_ow1 (k t n P : Nat) (sg : List (Nat × Int × Int)) (w : ee_w) (o : Option (List (Nat × Value))) : ee_w := match o with
  | some ov => w.set k (.inr (t, n, P, sg, ov))
  | none => w
def ee_h22 : ee_H := fun _ _ _ e st => match st with
  | (pc, lo, i :: .ref k :: stk, w, iv, kc, ks, sv) => (match e.2.1 with
      | .iaload => (match w[k]? with
          | some (.inr (t, n, P, sg, ov)) => if t = 0 ∧ k < 1000000 then (match ee_rd iv n P sg ov i with
            | some (x, iv', o) => ee_nx e.2.2.1 1 [(pc + 1, lo, x :: stk, ee_ow1 k t n P sg w o, iv', kc, ks, sv)]
            | none => none) else none
          | _ => none)
      | .baload => if 1000100 ≤ k ∧ k < 1000102 then (match ee_ix iv i (ee_len.getD (k - 1000100) 0) with
          | some j => ee_nx e.2.2.1 1 [(pc + 1, lo, .int ((ee_byt.getD (k - 1000100) []).getD j 0) :: stk, w, iv, kc, ks, sv)]
          | none => none) else (match w[k]? with
          | some (.inr (t, n, P, sg, ov)) => if (t = 1 ∨ t = 2) ∧ k < 1000000 then (match ee_rd iv n P sg ov i with
            | some (x, iv', o) => ee_nx e.2.2.1 1 [(pc + 1, lo, x :: stk, ee_ow1 k t n P sg w o, iv', kc, ks, sv)]
            | none => none) else none
          | _ => none)
      | .laload => (match w[k]? with
          | some (.inr (t, n, _, _, _)) => if t = 3 ∧ k < 1000000 ∧ ee_ib iv i n = true then ee_nx e.2.2.1 1 [(pc + 1, lo, .double 0 :: stk, w, iv, kc, ks, sv)] else none
          | _ => none)
      | _ => none)
  | _ => none
theorem ee_set_self {α : Type} {l : List α} {k : Nat} {a : α} (h : l[k]? = some a) : l.set k a = l := by
  apply List.ext_getElem?
  intro i
  by_cases hi : i = k
  · subst hi
    rw [List.getElem?_set_self (List.getElem?_eq_some_iff.mp h).1, h]
  · rw [List.getElem?_set_ne (Ne.symm hi)]
theorem ee_wr.same {ns : List Int32} {as : List Nat} {ex : Nat → Nat} {dA : Nat → ClassId} {w : ee_w} {ws : va_W} {k a : Nat} {x : ee_cell} {e : va_E} (h : ee_wr ns as ex dA w ws) (ha : ws[k]? = some (a, e)) (hc : ee_c ns as ex dA x e) : ee_wr ns as ex dA (w.set k x) ws := by
  have := h.set ha hc
  rwa [ee_set_self ha] at this
set_option maxHeartbeats 2000000 in
theorem ee_h22.snd : ee_Snd ee_h22 := by
  intro X Y oc own cc ini dm bc bs Q e st sts F ho hi hd he hpc h k
  obtain ⟨p, l, en, R, s, m, args, below, meth, c⟩ := X
  obtain ⟨A, D, dA, ex, x0, a0, sv0, nL⟩ := Y
  obtain ⟨pc, lo, stk, w, iv, kc, ks, sv⟩ := st
  obtain ⟨pc', ins, len, hn, ea, eb, ez, qa, qb, qc⟩ := e
  obtain ⟨hx, hb, hml, hown, hts, hK, hA, hini, hR, hE⟩ := F
  have hpc : pc = pc' := hpc
  subst hpc
  have hd : decode cc pc = .ok (ins, len) := hd
  intro ns as H lc ls vs C
  obtain ⟨c1, c2, c3, c4, c5, c6⟩ := C
  show W p l en R s m args below meth c H lc kc ks Q (F0 m pc ls vs)
  match stk, vs, c4, h with
  | [], _, _, h => exact ee_no h
  | [_], _, _, h => exact ee_no h
  | y :: x :: stk, [], c4, h => exact c4.elim
  | y :: x :: stk, [_], c4, h => exact c4.2.elim
  | i :: y :: stk, vi :: vy :: vs, ⟨ci, cy, c4⟩, h =>
    cases y with
    | ref j =>
      obtain ⟨a, rfl⟩ := ee_v.ref cy
      obtain ⟨ws, c6w, hP, hD, hS⟩ := c6
      have go : ∀ (t n P1 : Nat) (sg : List (Nat × Int × Int)) (ov : List (Nat × Value)), w[j]? = some (.inr (t, n, P1, sg, ov)) → t < 3 → j < 1000000 → (match ee_rd iv n P1 sg ov i with
            | some (x, iv', o) => ee_nx len 1 [(pc + 1, lo, x :: stk, ee_ow1 j t n P1 sg w o, iv', kc, ks, sv)]
            | none => none) = some sts → len = 1 ∧ ∃ (f : Nat → Int32) (q : Int32), vi = .int q ∧ vp_in q n ∧ ws[j]? = some (a, .inl (dA t, n, .inl f)) ∧ W p l en R s m args below meth c H lc kc ks Q (F0 m (pc + 1) ls (.int (f q.toNatClampNeg) :: vs)) := by
        intro t n P1 sg ov hw ht hj h
        obtain ⟨ec, g1, g2⟩ := c6w.at hw (cy.at hj)
        obtain ⟨f, rfl, g3⟩ := g2.ints ht
        cases hr : ee_rd iv n P1 sg ov i with
        | none => rw [hr] at h; exact ee_no h
        | some r =>
          obtain ⟨x, iv', o⟩ := r
          rw [hr] at h
          obtain ⟨rfl, rfl⟩ := ee_nx_some h
          obtain ⟨q, rfl, f3, hcase⟩ := ee_rd.ok c1 ci g3 hr
          refine ⟨rfl, f, q, rfl, f3, g1, ?_⟩
          rcases hcase with ⟨rfl, rfl, hv⟩ | ⟨lo1, hi1, rfl, rfl, b1, b2, ho⟩
          · exact k _ List.mem_cons_self ns as H lc ls _ ⟨c1, c2, c3, ⟨hv, c4⟩, c5, ws, c6w, hP, hD, hS⟩
          · obtain ⟨d1, d2, d3, d4, d5, ws', d6w, dP, dD, dS⟩ := ee_Con.grow (s := s) (A := A) (D := D) (dA := dA) (ex := ex) (x0 := x0) (a0 := a0) (sv0 := sv0) (nL := nL) (lo := lo) (ls := ls) ⟨c1, c2, c3, c4, c5, ws, c6w, hP, hD, hS⟩ b1 b2 (fs := []) (fun _ q => by cases q)
            have hxv : ee_v (ns ++ [f q.toNatClampNeg]) as ex (.retAddr iv.1) (.int (f q.toNatClampNeg)) := ⟨_, c1.last _, rfl⟩
            rcases ho with rfl | rfl
            · exact k _ List.mem_cons_self _ as H lc ls _ ⟨d1, d2, d3, ⟨hxv, d4⟩, d5, ws', d6w, dP, dD, dS⟩
            · have c6g : ee_wr (ns ++ [f q.toNatClampNeg]) as ex dA w ws := ⟨c6w.1, c6w.2.imp (fun x q g => by simpa using ee_c.mono [_] [] g)⟩
              refine k _ List.mem_cons_self _ as H lc ls _ ⟨d1, d2, d3, ⟨hxv, d4⟩, d5, ws, c6g.same g1 (ee_c.mk ht (ee_el.more (fun i hi => by simpa using ee_el.mono [_] [] (g3 i hi)) hxv)), hP, hD, hS⟩
      cases ins with
      | iaload =>
        replace h : (match w[j]? with
          | some (.inr (t, n, P, sg, ov)) => if t = 0 ∧ j < 1000000 then (match ee_rd iv n P sg ov i with
            | some (x, iv', o) => ee_nx len 1 [(pc + 1, lo, x :: stk, ee_ow1 j t n P sg w o, iv', kc, ks, sv)]
            | none => none) else none
          | _ => none) = some sts := h
        split at h
        · rename_i t n P1 sg ov hw
          by_cases h2 : t = 0 ∧ j < 1000000
          · rw [if_pos h2] at h
            obtain ⟨rfl, f, q, rfl, f3, g1, kk⟩ := go t n P1 sg ov hw (by omega) h2.2 h
            rw [h2.1] at g1
            exact va_iald hx hb hK hP j 0 g1 rfl f3 hd kk
          · rw [if_neg h2] at h
            exact ee_no h
        · exact ee_no h
      | baload =>
        replace h : (if 1000100 ≤ j ∧ j < 1000102 then (match ee_ix iv i (ee_len.getD (j - 1000100) 0) with
          | some z => ee_nx len 1 [(pc + 1, lo, .int ((ee_byt.getD (j - 1000100) []).getD z 0) :: stk, w, iv, kc, ks, sv)]
          | none => none) else (match w[j]? with
          | some (.inr (t, n, P, sg, ov)) => if (t = 1 ∨ t = 2) ∧ j < 1000000 then (match ee_rd iv n P sg ov i with
            | some (x, iv', o) => ee_nx len 1 [(pc + 1, lo, x :: stk, ee_ow1 j t n P sg w o, iv', kc, ks, sv)]
            | none => none) else none
          | _ => none)) = some sts := h
        by_cases h1 : 1000100 ≤ j ∧ j < 1000102
        · rw [if_pos h1] at h
          obtain ⟨h21, h22⟩ := h1
          have ha := cy.out (Nat.not_lt.mpr (Nat.le_trans (by decide) h21))
          subst ha
          obtain ⟨i0, hi0, rfl⟩ : ∃ i0, i0 < 2 ∧ j = 1000100 + i0 := ⟨j - 1000100, Nat.sub_lt_left_of_lt_add h21 h22, (Nat.add_sub_of_le h21).symm⟩
          obtain ⟨-, -, -, g4⟩ := hE.1.1 i0 hi0
          rw [Nat.add_sub_cancel_left] at h
          cases hr : ee_ix iv i (ee_len.getD i0 0) with
          | none => rw [hr] at h; exact ee_no h
          | some z =>
            rw [hr] at h
            obtain ⟨rfl, rfl⟩ := ee_nx_some h
            obtain ⟨q, rfl, f1, f2, f3⟩ := ee_ix.ok c1 ci hr
            exact va_tb hx hb g4 hS f3 rfl hd (k _ List.mem_cons_self ns as H lc ls _ ⟨c1, c2, c3, ⟨by rw [f1]; rfl, c4⟩, c5, ws, c6w, hP, hD, hS⟩)
        · rw [if_neg h1] at h
          split at h
          · rename_i t n P1 sg ov hw
            by_cases h2 : (t = 1 ∨ t = 2) ∧ j < 1000000
            · rw [if_pos h2] at h
              obtain ⟨ht, h3⟩ := h2
              obtain ⟨rfl, f, q, rfl, f3, g1, kk⟩ := go t n P1 sg ov hw (by omega) h3 h
              rcases ht with rfl | rfl
              · exact va_bald hx hb hK hP j 1 g1 rfl f3 hd kk
              · exact va_zald hx hb hK hP j 2 g1 rfl f3 hd kk
            · rw [if_neg h2] at h
              exact ee_no h
          · exact ee_no h
      | laload =>
        replace h : (match w[j]? with
          | some (.inr (t, n, _, _, _)) => if t = 3 ∧ j < 1000000 ∧ ee_ib iv i n = true then ee_nx len 1 [(pc + 1, lo, .double 0 :: stk, w, iv, kc, ks, sv)] else none
          | _ => none) = some sts := h
        split at h
        · rename_i t n P1 sg ov hw
          by_cases h2 : t = 3 ∧ j < 1000000 ∧ ee_ib iv i n = true
          · rw [if_pos h2] at h
            obtain ⟨rfl, rfl⟩ := ee_nx_some h
            obtain ⟨rfl, h3, h4⟩ := h2
            obtain ⟨ec, g1, g2⟩ := c6w.at hw (cy.at h3)
            obtain ⟨f, rfl⟩ := g2.lngs
            obtain ⟨q, rfl, f3⟩ := ee_ib.ok c1 ci h4
            exact va_lald hx hb hK hP j 3 g1 rfl f3 hd (k _ List.mem_cons_self ns as H lc ls _ ⟨c1, c2, c3, ⟨⟨_, rfl⟩, c4⟩, c5, ws, c6w, hP, hD, hS⟩)
          · rw [if_neg h2] at h
            exact ee_no h
        · exact ee_no h
      | _ => exact ee_no h
    | _ => exact ee_no h
end
section
/-! handlers: arrays written, cells made, statics read -/
theorem ee_lookup_filter {pk : Nat → Bool} {i : Nat} : ∀ {ov : List (Nat × Value)}, (ov.filter (fun q => pk q.1)).lookup i = if pk i = true then ov.lookup i else none
  | [] => by split <;> rfl
  | (a, x) :: l => by
    have ih := ee_lookup_filter (pk := pk) (i := i) (ov := l)
    by_cases ha : pk a = true
    · rw [List.filter_cons_of_pos (by exact ha), List.lookup_cons, List.lookup_cons, ih]
      cases hb : i == a with
      | true =>
        have : i = a := by simpa using hb
        subst this
        simp only [ha, if_true]
      | false => rfl
    · rw [List.filter_cons_of_neg (by exact ha), ih, List.lookup_cons]
      cases hb : i == a with
      | true =>
        have : i = a := by simpa using hb
        subst this
        simp only [ha, if_false]
        rfl
      | false => rfl
theorem ee_byte {x : Int32} (h1 : -128 ≤ x.toInt) (h2 : x.toInt ≤ 127) : vp_nar .byte x = x := by
  rw [vp_nar_byte]
  apply Int32.toInt_inj.mp
  rw [Int8.toInt_toInt32, Int32.toInt_toInt8]
  exact Int.bmod_eq_of_le (by omega) (by omega)
/-- a named element keeps its segment's bounds -/
def ee_ent (iv : ee_iv) (sg : List (Nat × Int × Int)) (P : Nat) (q : Nat × Value) : Bool := match ee_sg1 sg (ee_rj P q.1) with
  | some r => (match ee_it iv q.2 with
    | some s => decide (r.1 ≤ s.1) && decide (s.2 ≤ r.2)
    | none => false)
  | none => true
theorem ee_ent.ok {ns : List Int32} {as : List Nat} {ex : Nat → Nat} {iv : ee_iv} {sg : List (Nat × Int × Int)} {P j : Nat} {y : Value} {z : Int32} (hk : ee_ok ns iv) (h : ee_ent iv sg P (j, y) = true) (hv : ee_v ns as ex y (.int z)) : ee_sgp P sg j z := by
  rw [ee_sgp_eq]
  unfold ee_ent at h
  simp only at h
  cases hs : ee_sg1 sg (ee_rj P j) with
  | none => trivial
  | some r =>
    rw [hs] at h
    simp only at h
    cases ht : ee_it iv y with
    | none => rw [ht] at h; cases h
    | some s =>
      rw [ht] at h
      obtain ⟨e1, e2⟩ := ee_and h
      have e1 := of_decide_eq_true e1
      have e2 := of_decide_eq_true e2
      obtain ⟨u, g1, g2, g3⟩ := ee_it.int (a := s.1) (b := s.2) hk hv ht
      cases g1
      exact ⟨by omega, by omega⟩
def ee_ing (a b : Int) (j : Nat) : Bool := decide (a ≤ (j : Int)) && decide ((j : Int) ≤ b)
/-- an element written: the named elements then -/
def ee_wt (iv : ee_iv) (n P : Nat) (sg : List (Nat × Int × Int)) (ov : List (Nat × Value)) (i x : Value) : Option (List (Nat × Value)) := match ee_it iv x with
  | none => none
  | some (u, v) => (match ee_ix iv i n with
    | some j => some ((j, x) :: ov.filter (fun q => !Nat.beq q.1 j))
    | none => (match ee_it iv i with
      | some (a, b) => if (0 ≤ a ∧ b < (n : Int)) ∧ ee_wk sg 0 (ee_wh iv i P a b).1 (ee_wh iv i P a b).2 u v = true ∧ ov.all (fun q => !ee_ing a b q.1 || ee_ent iv sg P q) = true then some (ov.filter (fun q => !ee_ing a b q.1)) else none
      | none => none))
theorem ee_wt.ok {ns : List Int32} {as : List Nat} {ex : Nat → Nat} {iv : ee_iv} {n P : Nat} {sg : List (Nat × Int × Int)} {ov ov' : List (Nat × Value)} {i vi x vx : Value} {f : Nat → Int32} (hk : ee_ok ns iv) (hi : ee_v ns as ex i vi) (hx : ee_v ns as ex x vx) (hf : ∀ j, j < n → ee_el ns as ex P sg ov j (f j)) (h : ee_wt iv n P sg ov i x = some ov') :
    ∃ (q z : Int32), vi = .int q ∧ vx = .int z ∧ vp_in q n ∧ ∀ j, j < n → ee_el ns as ex P sg ov' j (upd f q.toNatClampNeg z j) := by
  unfold ee_wt at h
  cases hxt : ee_it iv x with
  | none => rw [hxt] at h; cases h
  | some r =>
    obtain ⟨u, v⟩ := r
    rw [hxt] at h
    simp only at h
    obtain ⟨z, rfl, z1, z2⟩ := ee_it.int hk hx hxt
    cases hxi : ee_ix iv i n with
    | some j =>
      rw [hxi] at h
      cases h
      obtain ⟨q, rfl, f1, f2, f3⟩ := ee_ix.ok hk hi hxi
      refine ⟨q, z, rfl, rfl, f3, fun k hk1 => ?_⟩
      rw [f1]
      unfold ee_el
      rw [List.lookup_cons]
      by_cases e : k = j
      · subst e
        simp only [beq_self_eq_true, upd, if_true]
        exact hx
      · have e' : (k == j) = false := by simpa using e
        have e2 : (!Nat.beq k j) = true := by
          cases hb : Nat.beq k j with
          | false => rfl
          | true => exact absurd (Nat.eq_of_beq_eq_true hb) e
        rw [e', ee_lookup_filter (pk := fun q => !Nat.beq q j)]
        simp only [e2, if_true, upd, e, if_false]
        exact hf k hk1
    | none =>
      rw [hxi] at h
      simp only at h
      cases hit : ee_it iv i with
      | none => rw [hit] at h; cases h
      | some r =>
        obtain ⟨a, b⟩ := r
        rw [hit] at h
        simp only at h
        by_cases hc : (0 ≤ a ∧ b < (n : Int)) ∧ ee_wk sg 0 (ee_wh iv i P a b).1 (ee_wh iv i P a b).2 u v = true ∧ ov.all (fun q => !ee_ing a b q.1 || ee_ent iv sg P q) = true
        · rw [if_pos hc] at h
          cases h
          obtain ⟨⟨hc1, hc2⟩, hc3, hc4⟩ := hc
          obtain ⟨q, rfl, q1, q2⟩ := ee_it.int hk hi hit
          refine ⟨q, z, rfl, rfl, vp_in_iff.mpr ⟨by omega, by omega⟩, fun k hk1 => ?_⟩
          have w := ee_wh.ok (P := P) hk hi (by omega) q1 q2
          have hq : q.toNatClampNeg = q.toInt.toNat := rfl
          rw [hq]
          unfold ee_el
          rw [ee_lookup_filter (pk := fun j => !ee_ing a b j)]
          by_cases e : k = q.toInt.toNat
          · subst e
            have hin : ee_ing a b q.toInt.toNat = true := by
              unfold ee_ing
              rw [decide_eq_true (show a ≤ ((q.toInt.toNat : Nat) : Int) by omega), decide_eq_true (show ((q.toInt.toNat : Nat) : Int) ≤ b by omega)]
              rfl
            simp only [hin, Bool.not_true, Bool.false_eq_true, if_false, upd, if_true]
            rw [ee_sgp_eq]
            exact ee_wk.ok w.1 w.2 z1 z2 (Nat.zero_le _) hc3
          · have hel := hf k hk1
            unfold ee_el at hel
            simp only [upd, e, if_false]
            cases hin : ee_ing a b k with
            | false =>
              simp only [Bool.not_false, if_true]
              exact hel
            | true =>
              simp only [Bool.not_true, Bool.false_eq_true, if_false]
              cases hl : ov.lookup k with
              | none => rw [hl] at hel; exact hel
              | some y =>
                rw [hl] at hel
                have hm := List.all_eq_true.mp hc4 (k, y) (ee_mem_lookup hl)
                rw [show ee_ing a b (k, y).1 = true from hin] at hm
                exact ee_ent.ok hk (by simpa using hm) hel
        · rw [if_neg hc] at h; cases h
def ee_h17 : ee_H := fun _ _ _ e st => match st with
  | (pc, lo, x :: i :: .ref k :: stk, w, iv, kc, ks, sv) => (match w[k]? with
      | some (.inr (t, n, P, sg, ov)) => if k < 1000000 then (match e.2.1 with
        | .iastore => (match ee_wt iv n P sg ov i x with
          | some ov' => if t = 0 then ee_nx e.2.2.1 1 [(pc + 1, lo, stk, w.set k (.inr (t, n, P, sg, ov')), iv, kc, ks, sv)] else none
          | none => none)
        | .bastore => (match ee_wt iv n P sg ov i x, ee_it iv x with
          | some ov', some (u, v) => if (t = 1 ∧ -128 ≤ u ∧ v ≤ 127) ∨ (t = 2 ∧ 0 ≤ u ∧ v ≤ 1) then ee_nx e.2.2.1 1 [(pc + 1, lo, stk, w.set k (.inr (t, n, P, sg, ov')), iv, kc, ks, sv)] else none
          | _, _ => none)
        | .lastore => if t = 3 ∧ ee_isl x = true ∧ ee_ib iv i n = true then ee_nx e.2.2.1 1 [(pc + 1, lo, stk, w, iv, kc, ks, sv)] else none
        | _ => none) else none
      | _ => none)
  | _ => none
set_option maxHeartbeats 2000000 in
theorem ee_h17.snd : ee_Snd ee_h17 := by
  intro X Y oc own cc ini dm bc bs Q e st sts F ho hi hd he hpc h k
  obtain ⟨p, l, en, R, s, m, args, below, meth, c⟩ := X
  obtain ⟨A, D, dA, ex, x0, a0, sv0, nL⟩ := Y
  obtain ⟨pc, lo, stk, w, iv, kc, ks, sv⟩ := st
  obtain ⟨pc', ins, len, hn, ea, eb, ez, qa, qb, qc⟩ := e
  obtain ⟨hx, hb, hml, hown, hts, hK, hA, hini, hR, hE⟩ := F
  have hpc : pc = pc' := hpc
  subst hpc
  have hd : decode cc pc = .ok (ins, len) := hd
  intro ns as H lc ls vs C
  obtain ⟨c1, c2, c3, c4, c5, c6⟩ := C
  show W p l en R s m args below meth c H lc kc ks Q (F0 m pc ls vs)
  match stk, vs, c4, h with
  | [], _, _, h => exact ee_no h
  | [_], _, _, h => exact ee_no h
  | [_, _], _, _, h => exact ee_no h
  | _ :: _ :: _ :: _, [], c4, h => exact c4.elim
  | _ :: _ :: _ :: _, [_], c4, h => exact c4.2.elim
  | _ :: _ :: _ :: _, [_, _], c4, h => exact c4.2.2.elim
  | x :: i :: y :: stk, vx :: vi :: vy :: vs, ⟨cx, ci, cy, c4⟩, h =>
    cases y with
    | ref j =>
      obtain ⟨a, rfl⟩ := ee_v.ref cy
      obtain ⟨ws, c6w, hP, hD, hS⟩ := c6
      replace h : (match w[j]? with
        | some (.inr (t, n, P, sg, ov)) => if j < 1000000 then (match (generalizing := false) ins with
          | .iastore => (match ee_wt iv n P sg ov i x with
            | some ov' => if t = 0 then ee_nx len 1 [(pc + 1, lo, stk, w.set j (.inr (t, n, P, sg, ov')), iv, kc, ks, sv)] else none
            | none => none)
          | .bastore => (match ee_wt iv n P sg ov i x, ee_it iv x with
            | some ov', some (u, v) => if (t = 1 ∧ -128 ≤ u ∧ v ≤ 127) ∨ (t = 2 ∧ 0 ≤ u ∧ v ≤ 1) then ee_nx len 1 [(pc + 1, lo, stk, w.set j (.inr (t, n, P, sg, ov')), iv, kc, ks, sv)] else none
            | _, _ => none)
          | .lastore => if t = 3 ∧ ee_isl x = true ∧ ee_ib iv i n = true then ee_nx len 1 [(pc + 1, lo, stk, w, iv, kc, ks, sv)] else none
          | _ => none) else none
        | _ => none) = some sts := h
      split at h
      · rename_i t n P1 sg ov hw
        by_cases h3 : j < 1000000
        · rw [if_pos h3] at h
          obtain ⟨ec, g1, g2⟩ := c6w.at hw (cy.at h3)
          cases ins with
          | iastore =>
            replace h : (match ee_wt iv n P1 sg ov i x with
              | some ov' => if t = 0 then ee_nx len 1 [(pc + 1, lo, stk, w.set j (.inr (t, n, P1, sg, ov')), iv, kc, ks, sv)] else none
              | none => none) = some sts := h
            cases hr : ee_wt iv n P1 sg ov i x with
            | none => rw [hr] at h; exact ee_no h
            | some ov' =>
              rw [hr] at h
              simp only at h
              by_cases hc : t = 0
              · rw [if_pos hc] at h
                obtain ⟨rfl, rfl⟩ := ee_nx_some h
                subst hc
                obtain ⟨f, rfl, g3⟩ := g2.ints (by omega)
                obtain ⟨q, z, rfl, rfl, f3, f4⟩ := ee_wt.ok c1 ci cx g3 hr
                exact va_iast hx hb hK hP hD hS j 0 g1 rfl f3 hd (fun H1 lc1 hP1 hD1 hS1 => k _ List.mem_cons_self ns as H1 lc1 ls _ ⟨c1, c2, c3, c4, c5, _, c6w.set g1 (ee_c.mk (by omega) f4), hP1, hD1, hS1⟩)
              · rw [if_neg hc] at h
                exact ee_no h
          | bastore =>
            replace h : (match ee_wt iv n P1 sg ov i x, ee_it iv x with
              | some ov', some (u, v) => if (t = 1 ∧ -128 ≤ u ∧ v ≤ 127) ∨ (t = 2 ∧ 0 ≤ u ∧ v ≤ 1) then ee_nx len 1 [(pc + 1, lo, stk, w.set j (.inr (t, n, P1, sg, ov')), iv, kc, ks, sv)] else none
              | _, _ => none) = some sts := h
            split at h
            · rename_i ov' u v hr hq
              by_cases hc : (t = 1 ∧ -128 ≤ u ∧ v ≤ 127) ∨ (t = 2 ∧ 0 ≤ u ∧ v ≤ 1)
              · rw [if_pos hc] at h
                obtain ⟨rfl, rfl⟩ := ee_nx_some h
                obtain ⟨f, rfl, g3⟩ := g2.ints (by omega)
                obtain ⟨q, z, rfl, rfl, f3, f4⟩ := ee_wt.ok c1 ci cx g3 hr
                obtain ⟨z', ez', x1, x2⟩ := ee_it.int c1 cx hq
                cases ez'
                rcases hc with ⟨rfl, hc⟩ | ⟨rfl, hc⟩
                · refine va_bast hx hb hK hP hD hS j 1 g1 rfl f3 hd (fun H1 lc1 hP1 hD1 hS1 => k _ List.mem_cons_self ns as H1 lc1 ls _ ⟨c1, c2, c3, c4, c5, _, c6w.set g1 ?_, hP1, hD1, hS1⟩)
                  rw [ee_byte (by omega) (by omega)]
                  exact ee_c.mk (by omega) f4
                · refine va_zast hx hb hK hP hD hS j 2 g1 rfl f3 hd (fun H1 lc1 hP1 hD1 hS1 => k _ List.mem_cons_self ns as H1 lc1 ls _ ⟨c1, c2, c3, c4, c5, _, c6w.set g1 ?_, hP1, hD1, hS1⟩)
                  have hb1 : vp_nar .boolean z = z := by
                    rcases ee_01 (z := z) (by omega) (by omega) with rfl | rfl <;> decide
                  rw [hb1]
                  exact ee_c.mk (by omega) f4
              · rw [if_neg hc] at h
                exact ee_no h
            · exact ee_no h
          | lastore =>
            replace h : (if t = 3 ∧ ee_isl x = true ∧ ee_ib iv i n = true then ee_nx len 1 [(pc + 1, lo, stk, w, iv, kc, ks, sv)] else none) = some sts := h
            by_cases hc : t = 3 ∧ ee_isl x = true ∧ ee_ib iv i n = true
            · rw [if_pos hc] at h
              obtain ⟨rfl, rfl⟩ := ee_nx_some h
              obtain ⟨rfl, hc1, hc2⟩ := hc
              obtain ⟨u, rfl⟩ := ee_isl.ok cx hc1
              obtain ⟨zi, rfl, f3⟩ := ee_ib.ok c1 ci hc2
              obtain ⟨f, rfl⟩ := g2.lngs
              refine va_last hx hb hK hP hD hS j 3 g1 rfl f3 hd (fun H1 lc1 hP1 hD1 hS1 => k _ List.mem_cons_self ns as H1 lc1 ls _ ⟨c1, c2, c3, c4, c5, _, ?_, hP1, hD1, hS1⟩)
              have := c6w.set g1 (ee_c.mkl (ns := ns) (as := as) (ex := ex) (dA := dA) (n := n) (P := P1) (sg := sg) (ov := ov) (f := vp_updL f zi.toNatClampNeg u))
              rwa [ee_set_self hw] at this
            · rw [if_neg hc] at h
              exact ee_no h
          | _ => exact ee_no h
        · rw [if_neg h3] at h
          exact ee_no h
      · exact ee_no h
    | _ => exact ee_no h
def ee_dv (o : Option FieldType) : Value := match o with
  | some ty => defaultValue ty
  | none => .null
def ee_df (r : vw_C) : List Value := (List.range r.2.2).map (fun j => ee_dv (parseFieldDescriptor (r.2.1 j).2.2.1))
def ee_dok (x : Value) : Bool := match x with
  | .int _ => true
  | .long _ => true
  | .null => true
  | _ => false
theorem ee_dok.all {ns : List Int32} {as : List Nat} {ex : Nat → Nat} : ∀ {l : List Value}, l.all ee_dok = true → ee_all (ee_v ns as ex) l l
  | [], _ => trivial
  | x :: l, h => by
    rw [List.all_cons] at h
    obtain ⟨h1, h2⟩ := ee_and h
    refine ⟨?_, ee_dok.all h2⟩
    cases x with
    | int c => rfl
    | long z => rfl
    | null => rfl
    | _ => cases h1
def ee_atp (t : ClassFile.ArrayType) : Nat := match t with
  | .int => 0
  | .byte => 1
  | .boolean => 2
  | .long => 3
  | _ => 9
def ee_h18 : ee_H := fun _ bc bs e st => match st with
  | (pc, lo, stk, w, iv, kc, ks, sv) => if w.length < 1000000 ∧ kc + 1 ≤ bc then (match e.2.1 with
      | .new _ => (match ee_NL[e.2.2.2.2.1]? with
        | some q => (match vwCl[q.2.2.1]? with
          | some r => if ks + r.2.2 ≤ bs ∧ (ee_df r).all ee_dok = true then ee_nx e.2.2.1 3 [(pc + 3, lo, .ref w.length :: stk, w ++ [.inl (q.2.2.1, ee_df r)], iv, kc + 1, ks + r.2.2, sv)] else none
          | none => none)
        | none => none)
      | .newarray at' => (match stk with
        | x :: stk => (match ee_cn iv x with
          | some z => if 0 ≤ z.toInt ∧ z.toInt ≤ 100000 ∧ ks + z.toInt.toNat ≤ bs ∧ ee_atp at' < 4 then ee_nx e.2.2.1 2 [(pc + 2, lo, .ref w.length :: stk, w ++ [.inr (ee_atp at', z.toInt.toNat, 0, [(z.toInt.toNat, 0, 0)], [])], iv, kc + 1, ks + z.toInt.toNat, sv)] else none
          | none => none)
        | [] => none)
      | _ => none) else none
theorem ee_one {s : State} {D : va_G} {dA : Nat → ClassId} {cA : ClassId} {ty : FieldType} {t : Nat} (h : va_K D vwCl (ee_tys dA ++ [(cA, ty)]) s) (ht : (ee_tys dA)[t]? = some (dA t, ty)) (hp : ∀ C, ty ≠ .object C) : cA = dA t := by
  have h1 := (h.2 4 (cA, ty) rfl).2
  have h2 := (h.2 t (dA t, ty) (ee_get_app ht)).2
  cases ty with
  | object C => exact absurd rfl (hp C)
  | _ =>
    have h1 : s.vm.findClass _ = some cA := h1
    have h2 : s.vm.findClass _ = some (dA t) := h2
    rw [h1] at h2
    exact Option.some.inj h2
theorem ee_el0 {ns : List Int32} {as : List Nat} {ex : Nat → Nat} {n : Nat} : ∀ j, j < n → ee_el ns as ex 0 [(n, 0, 0)] [] j ((fun _ => (0 : Int32)) j) := fun j hj => by
  show ee_sgp 0 [(n, 0, 0)] j 0
  rw [ee_sgp_eq, ee_sg1_cons, if_pos (show ee_rj 0 j < n from hj)]
  exact ⟨by decide, by decide⟩
set_option maxHeartbeats 2000000 in
theorem ee_h18.snd : ee_Snd ee_h18 := by
  intro X Y oc own cc ini dm bc bs Q e st sts F ho hi hd he hpc h k
  obtain ⟨p, l, en, R, s, m, args, below, meth, c⟩ := X
  obtain ⟨A, D, dA, ex, x0, a0, sv0, nL⟩ := Y
  obtain ⟨pc, lo, stk, w, iv, kc, ks, sv⟩ := st
  obtain ⟨pc', ins, len, hn, ea, eb, ez, qa, qb, qc⟩ := e
  obtain ⟨hx, hb, hml, hown, hts, hK, hA, hini, hR, hE⟩ := F
  have hpc : pc = pc' := hpc
  subst hpc
  have hd : decode cc pc = .ok (ins, len) := hd
  intro ns as H lc ls vs C
  obtain ⟨c1, c2, c3, c4, c5, c6⟩ := C
  show W p l en R s m args below meth c H lc kc ks Q (F0 m pc ls vs)
  replace h : (if w.length < 1000000 ∧ kc + 1 ≤ bc then (match (generalizing := false) ins with
      | .new _ => (match ee_NL[ea]? with
        | some q => (match vwCl[q.2.2.1]? with
          | some r => if ks + r.2.2 ≤ bs ∧ (ee_df r).all ee_dok = true then ee_nx len 3 [(pc + 3, lo, .ref w.length :: stk, w ++ [.inl (q.2.2.1, ee_df r)], iv, kc + 1, ks + r.2.2, sv)] else none
          | none => none)
        | none => none)
      | .newarray at' => (match (generalizing := false) stk with
        | x :: stk => (match ee_cn iv x with
          | some z => if 0 ≤ z.toInt ∧ z.toInt ≤ 100000 ∧ ks + z.toInt.toNat ≤ bs ∧ ee_atp at' < 4 then ee_nx len 2 [(pc + 2, lo, .ref w.length :: stk, w ++ [.inr (ee_atp at', z.toInt.toNat, 0, [(z.toInt.toNat, 0, 0)], [])], iv, kc + 1, ks + z.toInt.toNat, sv)] else none
          | none => none)
        | [] => none)
      | _ => none) else none) = some sts := h
  by_cases hc : w.length < 1000000 ∧ kc + 1 ≤ bc
  · rw [if_pos hc] at h
    obtain ⟨hwl, hkc⟩ := hc
    obtain ⟨ws, c6w, hP, hD, hS⟩ := c6
    cases ins with
    | new i =>
      replace h : (match ee_NL[ea]? with
        | some q => (match vwCl[q.2.2.1]? with
          | some r => if ks + r.2.2 ≤ bs ∧ (ee_df r).all ee_dok = true then ee_nx len 3 [(pc + 3, lo, Value.ref w.length :: stk, w ++ [.inl (q.2.2.1, ee_df r)], iv, kc + 1, ks + r.2.2, sv)] else none
          | none => none)
        | none => none) = some sts := h
      have hee : (match ee_NL[ea]? with
        | some q => decide (q.1 = oc) && (decide (q.2.1 = i) && decide (q.2.2.1 = qa))
        | none => false) = true := he
      cases hq : ee_NL[ea]? with
      | none => rw [hq] at hee; cases hee
      | some q =>
        rw [hq] at h hee
        simp only at h hee
        obtain ⟨e1, e2⟩ := ee_and hee
        obtain ⟨e2, -⟩ := ee_and e2
        have e1 := of_decide_eq_true e1
        have e2 := of_decide_eq_true e2
        obtain ⟨r, f1, f2, f3, f4⟩ := ee_NLok q (List.mem_of_getElem? hq)
        rw [e1, ee_own_ow ho, e2] at f2
        rw [f1] at h
        simp only at h
        by_cases hc2 : ks + r.2.2 ≤ bs ∧ (ee_df r).all ee_dok = true
        · rw [if_pos hc2] at h
          obtain ⟨rfl, rfl⟩ := ee_nx_some h
          obtain ⟨C, T, N⟩ := r
          obtain ⟨k1, k2, ty0, k3⟩ := ee_kd _ _ f1
          have hks : ks + N ≤ bs := hc2.1
          refine va_new (C := C) (T := T) (N := N) (fs := ee_df (C, T, N)) hx hb hts k1 ty0 (fun z hz => (k3 z hz).1) hown (hts _ f2) (hts _ f3) (hts _ f4) hK hP hD hS hA f1 (fun j hj => ?_) (Nat.le_trans hkc hR.2.2.1) (Nat.le_trans hks hR.2.2.2) hd (fun q9 H1 hP1 hD1 hS1 => ?_)
          · unfold vp_V ee_df
            rw [List.getD_eq_getElem?_getD, List.getElem?_map, List.getElem?_range hj]
            simp only [Option.map_some, Option.getD_some]
            have h3 := (k3 j hj).1
            rw [show parseFieldDescriptor (((C, T, N) : vw_C).2.1 j).2.2.1 = some (ty0 j) from h3]
            rfl
          · exact k _ List.mem_cons_self ns (as ++ [q9]) H1 lc ls _ (ee_Con.born c1 c2 c3 c4 c5 c6w ⟨_, rfl, ee_dok.all hc2.2⟩ hP1 hD1 hS1 hwl)
        · rw [if_neg hc2] at h
          exact ee_no h
    | newarray at' =>
      cases stk with
      | nil => exact ee_no h
      | cons x stk =>
        cases vs with
        | nil => exact c4.elim
        | cons v vs =>
          obtain ⟨c4v, c4⟩ := c4
          replace h : (match ee_cn iv x with
            | some z => if 0 ≤ z.toInt ∧ z.toInt ≤ 100000 ∧ ks + z.toInt.toNat ≤ bs ∧ ee_atp at' < 4 then ee_nx len 2 [(pc + 2, lo, Value.ref w.length :: stk, w ++ [.inr (ee_atp at', z.toInt.toNat, 0, [(z.toInt.toNat, 0, 0)], [])], iv, kc + 1, ks + z.toInt.toNat, sv)] else none
            | none => none) = some sts := h
          cases hq : ee_cn iv x with
          | none => rw [hq] at h; exact ee_no h
          | some z =>
            rw [hq] at h
            simp only at h
            have hv := ee_cn.int c1 c4v hq
            subst hv
            by_cases hc2 : 0 ≤ z.toInt ∧ z.toInt ≤ 100000 ∧ ks + z.toInt.toNat ≤ bs ∧ ee_atp at' < 4
            · rw [if_pos hc2] at h
              obtain ⟨rfl, rfl⟩ := ee_nx_some h
              obtain ⟨z1, z2, z3, z4⟩ := hc2
              have zn : ¬ z < 0 := fun q => by
                have := Int32.lt_iff_toInt_lt.mp q
                rw [Int32.toInt_zero] at this
                omega
              have zc : z.toNatClampNeg = z.toInt.toNat := rfl
              have hcl : kc + 1 ≤ R.cells := Nat.le_trans hkc hR.2.2.1
              have hsl : ks + z.toInt.toNat ≤ R.slots := Nat.le_trans z3 hR.2.2.2
              obtain ⟨a1, a2, a3, a4⟩ := ee_arr
              cases at' with
              | int =>
                refine va_newa (atype := .int) (ty := .int) (a0 := (z.toInt.toNat, .inl (fun _ => 0))) hx hb (hts _ a1) rfl hK hP hD hS hA (fun cA => rfl) zn zc (by show z.toInt.toNat * 4 ≤ _; omega) hcl hsl hd (fun q9 cA H1 hK1 hP1 hD1 hS1 => ?_)
                have hcA := ee_one hK1 (t := 0) rfl (fun _ q => by cases q)
                subst hcA
                exact k _ List.mem_cons_self ns (as ++ [q9]) H1 lc ls _ (ee_Con.born c1 c2 c3 c4 c5 c6w (ee_c.mk (by decide) ee_el0) hP1 hD1 hS1 hwl)
              | byte =>
                refine va_newa (atype := .byte) (ty := .byte) (a0 := (z.toInt.toNat, .inl (fun _ => 0))) hx hb (hts _ a2) rfl hK hP hD hS hA (fun cA => rfl) zn zc (by show z.toInt.toNat * 1 ≤ _; omega) hcl hsl hd (fun q9 cA H1 hK1 hP1 hD1 hS1 => ?_)
                have hcA := ee_one hK1 (t := 1) rfl (fun _ q => by cases q)
                subst hcA
                exact k _ List.mem_cons_self ns (as ++ [q9]) H1 lc ls _ (ee_Con.born c1 c2 c3 c4 c5 c6w (ee_c.mk (by decide) ee_el0) hP1 hD1 hS1 hwl)
              | boolean =>
                refine va_newa (atype := .boolean) (ty := .boolean) (a0 := (z.toInt.toNat, .inl (fun _ => 0))) hx hb (hts _ a3) rfl hK hP hD hS hA (fun cA => rfl) zn zc (by show z.toInt.toNat * 1 ≤ _; omega) hcl hsl hd (fun q9 cA H1 hK1 hP1 hD1 hS1 => ?_)
                have hcA := ee_one hK1 (t := 2) rfl (fun _ q => by cases q)
                subst hcA
                exact k _ List.mem_cons_self ns (as ++ [q9]) H1 lc ls _ (ee_Con.born c1 c2 c3 c4 c5 c6w (ee_c.mk (by decide) ee_el0) hP1 hD1 hS1 hwl)
              | long =>
                refine va_newa (atype := .long) (ty := .long) (a0 := (z.toInt.toNat, .inr (.inl (fun _ => 0)))) hx hb (hts _ a4) rfl hK hP hD hS hA (fun cA => rfl) zn zc (by show z.toInt.toNat * 8 ≤ _; omega) hcl hsl hd (fun q9 cA H1 hK1 hP1 hD1 hS1 => ?_)
                have hcA := ee_one hK1 (t := 3) rfl (fun _ q => by cases q)
                subst hcA
                exact k _ List.mem_cons_self ns (as ++ [q9]) H1 lc ls _ (ee_Con.born c1 c2 c3 c4 c5 c6w ee_c.mkl hP1 hD1 hS1 hwl)
              | _ => exact absurd z4 (by decide)
            · rw [if_neg hc2] at h
              exact ee_no h
    | _ => exact ee_no h
  · rw [if_neg hc] at h
    exact ee_no h
def ee_h19 : ee_H := fun _ _ _ e st => match st with
  | (pc, lo, stk, w, iv, kc, ks, sv) => (match e.2.1 with
      | .getstatic _ => if e.2.2.2.2.2.1 = 0 then (match ee_ZL[e.2.2.2.2.1]? with
        | some q => ee_nx e.2.2.1 3 [(pc + 3, lo, (if q.2.2.1 = 0 then .int 1 else .float 0) :: stk, w, iv, kc, ks, sv)]
        | none => none) else none
      | _ => none)
set_option maxHeartbeats 2000000 in
theorem ee_h19.snd : ee_Snd ee_h19 := by
  intro X Y oc own cc ini dm bc bs Q e st sts F ho hi hd he hpc h k
  obtain ⟨p, l, en, R, s, m, args, below, meth, c⟩ := X
  obtain ⟨A, D, dA, ex, x0, a0, sv0, nL⟩ := Y
  obtain ⟨pc, lo, stk, w, iv, kc, ks, sv⟩ := st
  obtain ⟨pc', ins, len, hn, ea, eb, ez, qa, qb, qc⟩ := e
  obtain ⟨hx, hb, hml, hown, hts, hK, hA, hini, hR, hE⟩ := F
  have hpc : pc = pc' := hpc
  subst hpc
  have hd : decode cc pc = .ok (ins, len) := hd
  intro ns as H lc ls vs C
  obtain ⟨c1, c2, c3, c4, c5, c6⟩ := C
  show W p l en R s m args below meth c H lc kc ks Q (F0 m pc ls vs)
  cases ins with
  | getstatic i =>
    replace h : (if eb = 0 then (match ee_ZL[ea]? with
        | some q => ee_nx len 3 [(pc + 3, lo, (if q.2.2.1 = 0 then .int 1 else .float 0) :: stk, w, iv, kc, ks, sv)]
        | none => none) else none) = some sts := h
    have hee : (if eb = 0 then (match ee_ZL[ea]? with
        | some q => decide (q.1 = oc) && (decide (q.2.1 = i) && decide (q.2.2.1 = qa))
        | none => false) else true) = true := he
    by_cases h0 : eb = 0
    · rw [if_pos h0] at h hee
      cases hq : ee_ZL[ea]? with
      | none => rw [hq] at hee; cases hee
      | some q =>
        rw [hq] at h hee
        simp only at h hee
        obtain ⟨e1, e2⟩ := ee_and hee
        obtain ⟨e2, -⟩ := ee_and e2
        have e1 := of_decide_eq_true e1
        have e2 := of_decide_eq_true e2
        have f3 := ee_ZLok q (List.mem_of_getElem? hq)
        rw [e1, ee_own_ow ho, e2] at f3
        obtain ⟨rfl, rfl⟩ := ee_nx_some h
        obtain ⟨ws, c6w, hP, hD, hS⟩ := c6
        by_cases hz : q.2.2.1 = 0
        · rw [if_pos hz] at k
          rw [hz] at f3
          exact va_gets hx hb hE.2.2.1 hS hown (hts _ f3) (fun _ z => z) hd (k _ List.mem_cons_self ns as H lc ls _ ⟨c1, c2, c3, ⟨rfl, c4⟩, c5, ws, c6w, hP, hD, hS⟩)
        · rw [if_neg hz] at k
          rw [show ee_zf q.2.2.1 = ("jdk/internal/util/Preconditions", "SIOOBE_FORMATTER", "Ljava/util/function/BiFunction;") by unfold ee_zf; rw [if_neg hz]] at f3
          rcases hE.2.2.2 with g | ⟨t, g⟩
          · exact va_gets hx hb g hS hown (hts _ f3) (fun _ z => z) hd (k _ List.mem_cons_self ns as H lc ls _ ⟨c1, c2, c3, ⟨Or.inl rfl, c4⟩, c5, ws, c6w, hP, hD, hS⟩)
          · exact va_gets hx hb g hS hown (hts _ f3) (fun _ z => z) hd (k _ List.mem_cons_self ns as H lc ls _ ⟨c1, c2, c3, ⟨Or.inr ⟨t, rfl⟩, c4⟩, c5, ws, c6w, hP, hD, hS⟩)
    · rw [if_neg h0] at h
      exact ee_no h
  | _ => exact ee_no h
end
section
/-! the handler of Object's constructor and of arraycopy -/
/-- which elements of the period n places from an index on may mean -/
def ee_wn (iv : ee_iv) (i : Value) (P : Nat) (a b n : Int) : Int × Int := if P = 0 then (a, b + n - 1) else (match ee_rs1 iv i P with
  | some r => if (r : Int) + n ≤ (P : Int) then ((r : Int), (r : Int) + n - 1) else (0, (P : Int) - 1)
  | none => (0, (P : Int) - 1))
theorem ee_wn.ok {ns : List Int32} {as : List Nat} {ex : Nat → Nat} {iv : ee_iv} {i : Value} {P : Nat} {a b n : Int} {z : Int32} {k : Nat} (hk : ee_ok ns iv) (hv : ee_v ns as ex i (.int z)) (hz : 0 ≤ z.toInt) (h1 : a ≤ z.toInt) (h2 : z.toInt ≤ b) (hkn : (k : Int) < n) : (ee_wn iv i P a b n).1 ≤ (ee_rj P (z.toInt.toNat + k) : Nat) ∧ ((ee_rj P (z.toInt.toNat + k) : Nat) : Int) ≤ (ee_wn iv i P a b n).2 := by
  unfold ee_wn ee_rj
  by_cases hP : P = 0
  · rw [if_pos hP, if_pos hP]
    exact ⟨by show a ≤ _; omega, by show _ ≤ b + n - 1; omega⟩
  · rw [if_neg hP, if_neg hP]
    have hm := Nat.mod_lt (z.toInt.toNat + k) (show 0 < P by omega)
    have all : (0 : Int) ≤ ((z.toInt.toNat + k) % P : Nat) ∧ (((z.toInt.toNat + k) % P : Nat) : Int) ≤ (P : Int) - 1 := ⟨by omega, by omega⟩
    cases hr : ee_rs1 iv i P with
    | none => exact all
    | some r =>
      simp only
      by_cases hc : (r : Int) + n ≤ (P : Int)
      · rw [if_pos hc]
        have e := ee_rs1.ok hk hv hz hr
        have e2 : (z.toInt.toNat + k) % P = r + k := by
          rw [Nat.add_mod, e, Nat.mod_eq_of_lt (show k < P by omega), Nat.mod_eq_of_lt (by omega)]
        rw [e2]
        exact ⟨by show (r : Int) ≤ _; omega, by show _ ≤ (r : Int) + n - 1; omega⟩
      · rw [if_neg hc]
        exact all
/-- bounds of the n elements from an index on -/
def ee_bds (iv : ee_iv) (P : Nat) (sg : List (Nat × Int × Int)) (ov : List (Nat × Value)) (i : Value) (a b n : Int) : Option (Int × Int) := match ee_jo iv a (b + n - 1) ov (ee_jn sg 0 (ee_wn iv i P a b n).1 (ee_wn iv i P a b n).2) with
  | some q => q
  | none => none
theorem ee_bds.ok {ns : List Int32} {as : List Nat} {ex : Nat → Nat} {iv : ee_iv} {n0 P : Nat} {sg : List (Nat × Int × Int)} {ov : List (Nat × Value)} {f : Nat → Int32} {q : Int × Int} {i : Value} {a b n : Int} {z : Int32} (hk : ee_ok ns iv) (hf : ∀ j, j < n0 → ee_el ns as ex P sg ov j (f j)) (hv : ee_v ns as ex i (.int z)) (hz : 0 ≤ z.toInt) (h1 : a ≤ z.toInt) (h2 : z.toInt ≤ b) (h : ee_bds iv P sg ov i a b n = some q) : ∀ k : Nat, (k : Int) < n → z.toInt.toNat + k < n0 → q.1 ≤ (f (z.toInt.toNat + k)).toInt ∧ (f (z.toInt.toNat + k)).toInt ≤ q.2 := by
  intro k hkn hj
  unfold ee_bds at h
  split at h
  · rename_i q1 hr
    subst h
    have hel := hf _ hj
    have w := ee_wn.ok (P := P) (k := k) hk hv hz h1 h2 hkn
    generalize hjj : z.toInt.toNat + k = j at hel w hj ⊢
    have key : ∃ r', some q = some r' ∧ r'.1 ≤ (f j).toInt ∧ (f j).toInt ≤ r'.2 := by
      refine ee_jo.ok hr ?_
      unfold ee_el at hel
      cases hl : ov.lookup j with
      | some y =>
        rw [hl] at hel
        have hm := ee_mem_lookup hl
        by_cases hyi : ∃ s, ee_it iv y = some s
        · obtain ⟨s, hs⟩ := hyi
          obtain ⟨u, e1, e2, e3⟩ := ee_it.int (a := s.1) (b := s.2) hk hel hs
          cases e1
          exact Or.inr ⟨_, y, s, hm, ⟨by omega, by omega⟩, hs, e2, e3⟩
        · exfalso
          have bad : ∀ {l : List (Nat × Value)} {q0 q1 : Option (Int × Int)}, ee_jo iv a (b + n - 1) l q0 = some q1 → (j, y) ∈ l → False := by
            intro l
            induction l with
            | nil => intro q0 q1 _ hm; cases hm
            | cons c l ih =>
              intro q0 q1 hj2 hm
              obtain ⟨j2, x⟩ := c
              unfold ee_jo at hj2
              cases h1 : ee_jo iv a (b + n - 1) l q0 with
              | none => rw [h1] at hj2; cases hj2
              | some q2 =>
                rcases List.mem_cons.mp hm with e | hm
                · cases e
                  rw [h1] at hj2
                  simp only at hj2
                  rw [if_pos ⟨by omega, by omega⟩] at hj2
                  cases hy2 : ee_it iv y with
                  | none => rw [hy2] at hj2; cases hj2
                  | some s => exact hyi ⟨s, hy2⟩
                · exact ih h1 hm
          exact bad hr hm
      | none =>
        rw [hl] at hel
        simp only at hel
        rw [ee_sgp_eq] at hel
        exact Or.inl (ee_jn.ok w.1 w.2 (ee_rng _) (Nat.zero_le _) hel)
    obtain ⟨r', e, e1, e2⟩ := key
    cases e
    exact ⟨e1, e2⟩
  · cases h
/-- may these elements of one be put there into the other one? -/
def ee_cp (iv : ee_iv) (n sp dp : Value) (P0 : Nat) (sg0 : List (Nat × Int × Int)) (ov0 : List (Nat × Value)) (P1 : Nat) (sg1 : List (Nat × Int × Int)) (ov1 : List (Nat × Value)) : Bool := match ee_it iv n, ee_it iv sp, ee_it iv dp with
  | some a, some b, some c => (match ee_bds iv P0 sg0 ov0 sp b.1 b.2 a.2 with
    | some q => ee_wk sg1 0 (ee_wn iv dp P1 c.1 c.2 a.2).1 (ee_wn iv dp P1 c.1 c.2 a.2).2 q.1 q.2 && ov1.all (ee_ent iv sg1 P1)
    | none => false)
  | _, _, _ => false
theorem ee_cp.ok {ns : List Int32} {as : List Nat} {ex : Nat → Nat} {iv : ee_iv} {n0 P0 n1 P1 : Nat} {sg0 sg1 : List (Nat × Int × Int)} {ov0 ov1 : List (Nat × Value)} {f g : Nat → Int32} {n sp dp : Value} {zn zs zd : Int32} (hk : ee_ok ns iv) (hvn : ee_v ns as ex n (.int zn)) (hvs : ee_v ns as ex sp (.int zs)) (hvd : ee_v ns as ex dp (.int zd)) (p0 : ¬ zs < 0 ∧ ¬ zd < 0 ∧ ¬ zn < 0) (hf : ∀ j, j < n0 → ee_el ns as ex P0 sg0 ov0 j (f j)) (hg : ∀ j, j < n1 → ee_el ns as ex P1 sg1 ov1 j (g j)) (h4 : zs.toNatClampNeg + zn.toNatClampNeg ≤ n0) (h : ee_cp iv n sp dp P0 sg0 ov0 P1 sg1 ov1 = true) : ∀ j, j < n1 → ee_el ns as ex P1 sg1 [] j (va_cpy f g zs.toNatClampNeg zd.toNatClampNeg zn.toNatClampNeg j) := by
  intro j hj
  have nn : ∀ z : Int32, ¬ z < 0 → 0 ≤ z.toInt := fun z hz => by
    by_cases q : 0 ≤ z.toInt
    · exact q
    · exact absurd (Int32.lt_iff_toInt_lt.mpr (by rw [Int32.toInt_zero]; omega)) hz
  have s0 := nn zs p0.1
  have d0 := nn zd p0.2.1
  have m0 := nn zn p0.2.2
  have es : zs.toNatClampNeg = zs.toInt.toNat := rfl
  have ed : zd.toNatClampNeg = zd.toInt.toNat := rfl
  have en : zn.toNatClampNeg = zn.toInt.toNat := rfl
  unfold ee_cp at h
  split at h
  · rename_i a b c ha hb hc
    obtain ⟨z1, e1, e2, e3⟩ := ee_it.int (a := a.1) (b := a.2) hk hvn ha
    cases e1
    obtain ⟨z2, e4, e5, e6⟩ := ee_it.int (a := b.1) (b := b.2) hk hvs hb
    cases e4
    obtain ⟨z3, e7, e8, e9⟩ := ee_it.int (a := c.1) (b := c.2) hk hvd hc
    cases e7
    split at h
    · rename_i q hq
      obtain ⟨h2, h3⟩ := ee_and h
      show ee_sgp P1 sg1 j _
      by_cases hc2 : zd.toNatClampNeg ≤ j ∧ j < zd.toNatClampNeg + zn.toNatClampNeg
      · rw [pk_cpy_in hc2.1 hc2.2, ee_sgp_eq]
        have b1 := ee_bds.ok hk hf hvs s0 e5 e6 hq (j - zd.toNatClampNeg) (by omega) (by omega)
        have w := ee_wn.ok (P := P1) (k := j - zd.toNatClampNeg) (n := a.2) hk hvd d0 e8 e9 (by omega)
        rw [show zd.toInt.toNat + (j - zd.toNatClampNeg) = j by omega] at w
        exact ee_wk.ok w.1 w.2 b1.1 b1.2 (Nat.zero_le _) h2
      · rw [pk_cpy_out (by omega)]
        have hel := hg j hj
        unfold ee_el at hel
        cases hl : ov1.lookup j with
        | none => rw [hl] at hel; exact hel
        | some y =>
          rw [hl] at hel
          exact ee_ent.ok hk (List.all_eq_true.mp h3 (j, y) (ee_mem_lookup hl)) hel
    · cases h
  · cases h
/-- n, sp, dp fit: bounds alone -/
def ee_cf (iv : ee_iv) (n sp dp : Value) (n0 n1 : Nat) : Bool := match ee_it iv n, ee_it iv sp, ee_it iv dp with
  | some a, some b, some c => (decide (0 ≤ a.1) && (decide (0 ≤ b.1) && decide (0 ≤ c.1))) && (decide (b.2 + a.2 ≤ (n0 : Int)) && decide (c.2 + a.2 ≤ (n1 : Int)))
  | _, _, _ => false
theorem ee_nn {z : Int32} (h : 0 ≤ z.toInt) : ¬ z < 0 ∧ (z.toNatClampNeg : Int) = z.toInt := by
  refine ⟨fun q => ?_, ?_⟩
  · have := Int32.lt_iff_toInt_lt.mp q
    rw [Int32.toInt_zero] at this
    omega
  · have : z.toNatClampNeg = z.toInt.toNat := rfl
    omega
theorem ee_cf.ok {ns : List Int32} {as : List Nat} {ex : Nat → Nat} {iv : ee_iv} {n sp dp vn vsp vd : Value} {n0 n1 : Nat} (hk : ee_ok ns iv) (hn : ee_v ns as ex n vn) (hs : ee_v ns as ex sp vsp) (hd : ee_v ns as ex dp vd) (h : ee_cf iv n sp dp n0 n1 = true) : ∃ zn zs zd : Int32, vn = .int zn ∧ vsp = .int zs ∧ vd = .int zd ∧ (¬ zs < 0 ∧ ¬ zd < 0 ∧ ¬ zn < 0) ∧ zs.toNatClampNeg + zn.toNatClampNeg ≤ n0 ∧ zd.toNatClampNeg + zn.toNatClampNeg ≤ n1 := by
  unfold ee_cf at h
  split at h
  · rename_i a b c h1 h2 h3
    obtain ⟨g1, g2⟩ := ee_and h
    obtain ⟨g1, g3⟩ := ee_and g1
    obtain ⟨g3, g4⟩ := ee_and g3
    obtain ⟨g2, g5⟩ := ee_and g2
    have g1 := of_decide_eq_true g1
    have g2 := of_decide_eq_true g2
    have g3 := of_decide_eq_true g3
    have g4 := of_decide_eq_true g4
    have g5 := of_decide_eq_true g5
    obtain ⟨zn, rfl, n1', n2'⟩ := ee_it.int (a := a.1) (b := a.2) hk hn h1
    obtain ⟨zs, rfl, s1, s2⟩ := ee_it.int (a := b.1) (b := b.2) hk hs h2
    obtain ⟨zd, rfl, d1, d2⟩ := ee_it.int (a := c.1) (b := c.2) hk hd h3
    have p1 := ee_nn (z := zn) (by omega)
    have p2 := ee_nn (z := zs) (by omega)
    have p3 := ee_nn (z := zd) (by omega)
    exact ⟨zn, zs, zd, rfl, rfl, rfl, ⟨p2.1, p3.1, p1.1⟩, by omega, by omega⟩
  · cases h
def ee_a5 (stk : List Value) : Option (Value × Value × Nat × Value × Nat × List Value) := match stk with
  | n :: dp :: .ref b :: sp :: .ref a :: r => some (n, dp, b, sp, a, r)
  | _ => none
theorem ee_a5.ok {stk r : List Value} {n dp sp : Value} {a b : Nat} (h : ee_a5 stk = some (n, dp, b, sp, a, r)) : stk = n :: dp :: .ref b :: sp :: .ref a :: r := by
  unfold ee_a5 at h
  split at h
  · cases h
    rfl
  · cases h
theorem ee_all.cons {α β : Type} {R : α → β → Prop} {a : α} {l : List α} {k : List β} (h : ee_all R (a :: l) k) : ∃ b k', k = b :: k' ∧ R a b ∧ ee_all R l k' := by
  cases k with
  | nil => exact h.elim
  | cons b k => exact ⟨b, k, rfl, h.1, h.2⟩
def ee_h20 : ee_H := fun _ _ _ e st => match st with
  | (pc, lo, stk, w, iv, kc, ks, sv) => (match e.2.1 with
      | .invokespecial _ => (match stk with
        | .ref _ :: stk => if e.2.2.2.2.2.1 = 1 ∧ (stk.map ee_cat).sum ≤ 8 then ee_nx e.2.2.1 3 [(pc + 3, lo, stk, w, iv, kc, ks, sv)] else none
        | _ => none)
      | .invokestatic _ => (match ee_a5 stk with
        | some (n, dp, b, sp, a, stk) => if (e.2.2.2.2.2.1 = 2 ∧ (stk.map ee_cat).sum ≤ 8) ∧ a < 1000000 ∧ b < 1000000 then (match w[a]?, w[b]? with
          | some (.inr (t0, n0, P0, sg0, ov0)), some (.inr (t1, n1, P1, sg1, ov1)) => if (t0 = 0 ∧ t1 = 0) ∧ ee_cf iv n sp dp n0 n1 = true ∧ ee_cp iv n sp dp P0 sg0 ov0 P1 sg1 ov1 = true then ee_nx e.2.2.1 3 [(pc + 3, lo, stk, w.set b (.inr (t1, n1, P1, sg1, [])), iv, kc, ks, sv)] else none
          | _, _ => none) else none
        | none => none)
      | _ => none)
theorem ee_cats {ns : List Int32} {as : List Nat} {ex : Nat → Nat} : ∀ {stk vs : List Value}, ee_all (ee_v ns as ex) stk vs → (vs.map fun v => v.category) = stk.map ee_cat
  | [], [], _ => rfl
  | x :: stk, v :: vs, h => by
    rw [List.map_cons, List.map_cons, ee_cats h.2, h.1.cat]
  | [], _ :: _, h => h.elim
  | _ :: _, [], h => h.elim
set_option maxHeartbeats 2000000 in
theorem ee_h20.snd : ee_Snd ee_h20 := by
  intro X Y oc own cc ini dm bc bs Q e st sts F ho hi hd he hpc h k
  obtain ⟨p, l, en, R, s, m, args, below, meth, c⟩ := X
  obtain ⟨A, D, dA, ex, x0, a0, sv0, nL⟩ := Y
  obtain ⟨pc, lo, stk, w, iv, kc, ks, sv⟩ := st
  obtain ⟨pc', ins, len, hn, ea, eb, ez, qa, qb, qc⟩ := e
  obtain ⟨hx, hb, hml, hown, hts, hK, hA, hini, hR, hE⟩ := F
  have hpc : pc = pc' := hpc
  subst hpc
  have hd : decode cc pc = .ok (ins, len) := hd
  intro ns as H lc ls vs C
  obtain ⟨c1, c2, c3, c4, c5, c6⟩ := C
  show W p l en R s m args below meth c H lc kc ks Q (F0 m pc ls vs)
  cases ins with
  | invokespecial i =>
    cases stk with
    | nil => exact ee_no h
    | cons x stk =>
      cases vs with
      | nil => exact c4.elim
      | cons v vs =>
        obtain ⟨c4v, c4⟩ := c4
        cases x with
        | ref j =>
          obtain ⟨a, rfl⟩ := ee_v.ref c4v
          replace h : (if eb = 1 ∧ (stk.map ee_cat).sum ≤ 8 then ee_nx len 3 [(pc + 3, lo, stk, w, iv, kc, ks, sv)] else none) = some sts := h
          have hee : (if eb = 0 then (match ee_CL[ea]? with
            | some q => decide (q.1 = oc) && (decide (q.2.1 = i) && (decide (q.2.2.2.1 = 2) && (decide (q.2.2.1 = qa) && (decide (q.2.2.2.1 = qb) && decide (q.2.2.2.2.1 = qc)))))
            | none => false) else if eb = 1 then (match ee_OL[ea]? with
            | some q => decide (q.1 = oc) && decide (q.2.1 = i)
            | none => false) else true) = true := he
          by_cases hc : eb = 1 ∧ (stk.map ee_cat).sum ≤ 8
          · rw [if_pos hc] at h
            obtain ⟨rfl, rfl⟩ := ee_nx_some h
            rw [if_neg (by omega), if_pos hc.1] at hee
            cases hq : ee_OL[ea]? with
            | none => rw [hq] at hee; cases hee
            | some q =>
              rw [hq] at hee
              obtain ⟨e1, e2⟩ := ee_and hee
              have e1 := of_decide_eq_true e1
              have e2 := of_decide_eq_true e2
              have hm := ee_OLok q (List.mem_of_getElem? hq)
              rw [e1, ee_own_ow ho, e2] at hm
              obtain ⟨lv, c3, c3l⟩ := c3
              refine W.objInit hx hb hown (hts _ hm) (hts _ ee_obj.1) (hts _ ee_obj.2) rfl (by rw [hml]; exact c3.1) rfl hd (by omega) ?_ (k _ List.mem_cons_self ns as H lc ls _ ⟨c1, c2, ⟨lv, c3, c3l⟩, c4, c5, c6⟩)
              have hs := hc.2
              rw [← ee_cats c4] at hs
              have := lv_room (m := m) (pc := pc) (ls := ls) (rest := Value.ref a :: vs) hs
              omega
          · rw [if_neg hc] at h
            exact ee_no h
        | _ => exact ee_no h
  | invokestatic i =>
    replace h : (match ee_a5 stk with
        | some (n, dp, b, sp, a, stk) => if (eb = 2 ∧ (stk.map ee_cat).sum ≤ 8) ∧ a < 1000000 ∧ b < 1000000 then (match w[a]?, w[b]? with
          | some (.inr (t0, n0, P0, sg0, ov0)), some (.inr (t1, n1, P1, sg1, ov1)) => if (t0 = 0 ∧ t1 = 0) ∧ ee_cf iv n sp dp n0 n1 = true ∧ ee_cp iv n sp dp P0 sg0 ov0 P1 sg1 ov1 = true then ee_nx len 3 [(pc + 3, lo, stk, w.set b (.inr (t1, n1, P1, sg1, [])), iv, kc, ks, sv)] else none
          | _, _ => none) else none
        | none => none) = some sts := h
    cases h5 : ee_a5 stk with
    | none => rw [h5] at h; exact ee_no h
    | some t5 =>
      obtain ⟨n, dp, b, sp, a, stk2⟩ := t5
      rw [h5] at h
      simp only at h
      have e5 := ee_a5.ok h5
      subst e5
      obtain ⟨vn, vs1, rfl, cn0, c4a⟩ := c4.cons
      obtain ⟨vd, vs2, rfl, cd0, c4b⟩ := c4a.cons
      obtain ⟨vb, vs3, rfl, cb0, c4c⟩ := c4b.cons
      obtain ⟨vsp, vs4, rfl, cs0, c4d⟩ := c4c.cons
      obtain ⟨va, vs, rfl, ca0, c4e⟩ := c4d.cons
      obtain ⟨ab, rfl⟩ := ee_v.ref cb0
      obtain ⟨aa, rfl⟩ := ee_v.ref ca0
      have hee : (if eb = 0 then (match ee_CL[ea]? with
        | some q => decide (q.1 = oc) && (decide (q.2.1 = i) && (decide (q.2.2.2.1 = 1) && (decide (q.2.2.1 = qa) && (decide (q.2.2.2.1 = qb) && decide (q.2.2.2.2.1 = qc)))))
        | none => false) else if eb = 2 then (match ee_AL[ea]? with
        | some q => decide (q.1 = oc) && decide (q.2.1 = i)
        | none => false) else if eb = 3 ∨ eb = 4 then (match ee_XL[ea]? with
        | some q => decide (q.1 = oc) && (decide (q.2.1 = i) && decide (q.2.2.1 = eb))
        | none => false) else true) = true := he
      by_cases hc : (eb = 2 ∧ (stk2.map ee_cat).sum ≤ 8) ∧ a < 1000000 ∧ b < 1000000
      · rw [if_pos hc] at h
        obtain ⟨⟨hc1, hc2⟩, hc3, hc4⟩ := hc
        rw [if_neg (by omega), if_pos hc1] at hee
        cases hq : ee_AL[ea]? with
        | none => rw [hq] at hee; cases hee
        | some q =>
          rw [hq] at hee
          obtain ⟨e1, e2⟩ := ee_and hee
          have e1 := of_decide_eq_true e1
          have e2 := of_decide_eq_true e2
          have hm := ee_ALok q (List.mem_of_getElem? hq)
          rw [e1, ee_own_ow ho, e2] at hm
          split at h
          · rename_i t0 n0 P0 sg0 ov0 t1 n1 P1 sg1 ov1 hw0 hw1
            by_cases hc5 : (t0 = 0 ∧ t1 = 0) ∧ ee_cf iv n sp dp n0 n1 = true ∧ ee_cp iv n sp dp P0 sg0 ov0 P1 sg1 ov1 = true
            · rw [if_pos hc5] at h
              obtain ⟨rfl, rfl⟩ := ee_nx_some h
              obtain ⟨⟨rfl, rfl⟩, g5, g6⟩ := hc5
              obtain ⟨zn, zs, zd, rfl, rfl, rfl, hnn, f4, f5⟩ := ee_cf.ok c1 cn0 cs0 cd0 g5
              obtain ⟨f1, f2, f3⟩ := id hnn
              obtain ⟨lv, c3, c3l⟩ := c3
              obtain ⟨ws, c6w, hP, hD, hS⟩ := c6
              obtain ⟨ec0, p1, p2⟩ := c6w.at hw0 (ca0.at hc3)
              obtain ⟨ec1, p3, p4⟩ := c6w.at hw1 (cb0.at hc4)
              obtain ⟨f, rfl, p5⟩ := p2.ints (by omega)
              obtain ⟨g, rfl, p6⟩ := p4.ints (by omega)
              refine va_copyi hx hb (by rw [hml]; exact c3.1.symm) hown (hts _ hm) (hts _ ee_cpy.1) (hts _ ee_cpy.2.1) (hts _ ee_cpy.2.2) hK hP hD hS a b 0 0 p1 p3 rfl rfl rfl f1 f2 f3 f4 f5 (fun _ _ => rfl) (by omega) ?_ hd (fun H1 lc1 hP1 hD1 hS1 => k _ List.mem_cons_self ns as H1 lc1 ls _ ⟨c1, c2, ⟨lv, c3, c3l⟩, c4e, c5, _, c6w.set p3 (ee_c.mk (by omega) (ee_cp.ok c1 cn0 cs0 cd0 hnn p5 p6 f4 g6)), hP1, hD1, hS1⟩)
              rw [ee_cats c4e]
              have : nativeFrameWords "java/lang/System" "arraycopy" 5 = 7 := by decide +kernel
              omega
            · rw [if_neg hc5] at h
              exact ee_no h
          · exact ee_no h
      · rw [if_neg hc] at h
        exact ee_no h
  | _ => exact ee_no h
end
